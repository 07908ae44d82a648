section
-- ===== PART A: goes FIRST, ahead of the names: the tables' words, and 'selects' of the private methods out of them =====
/-- a private method of a class that the tables say can be made, by its rows of tables_1 -/
def lw_okq (q : MethodName × Nat) : Prop := (q.1.cls ≠ "java/lang/invoke/MethodHandle" ∧ q.1.cls ≠ "java/lang/invoke/VarHandle") ∧ Cond.instantiable q.1.cls q.2 ∈ tables_1 ∧ Cond.privateMethod q.1 ∈ tables_1 ∧ Cond.instanceMethod q.1 ∈ tables_1
theorem lw_p0 : lw_okq (⟨"java/lang/Throwable", "fillInStackTrace", "(I)Ljava/lang/Throwable;"⟩, 6) := ⟨⟨by decide +kernel, by decide +kernel⟩, List.mem_of_getElem? (i := 337) (by decide +kernel), List.mem_of_getElem? (i := 335) (by decide +kernel), List.mem_of_getElem? (i := 336) (by decide +kernel)⟩
theorem lw_p1 : lw_okq (⟨"GlossedPage", "needUnit", "(I)V"⟩, 7) := ⟨⟨by decide +kernel, by decide +kernel⟩, List.mem_of_getElem? (i := 21) (by decide +kernel), List.mem_of_getElem? (i := 482) (by decide +kernel), List.mem_of_getElem? (i := 483) (by decide +kernel)⟩
theorem lw_p2 : lw_okq (⟨"GlossedPage$Authors", "later", "(II)I"⟩, 4) := ⟨⟨by decide +kernel, by decide +kernel⟩, List.mem_of_getElem? (i := 62) (by decide +kernel), List.mem_of_getElem? (i := 522) (by decide +kernel), List.mem_of_getElem? (i := 523) (by decide +kernel)⟩
theorem lw_p3 : lw_okq (⟨"GlossedPage", "needAuthor", "(I)V"⟩, 7) := ⟨⟨by decide +kernel, by decide +kernel⟩, List.mem_of_getElem? (i := 21) (by decide +kernel), List.mem_of_getElem? (i := 538) (by decide +kernel), List.mem_of_getElem? (i := 539) (by decide +kernel)⟩
theorem lw_p4 : lw_okq (⟨"GlossedPage", "needRoomForComment", "()V"⟩, 7) := ⟨⟨by decide +kernel, by decide +kernel⟩, List.mem_of_getElem? (i := 21) (by decide +kernel), List.mem_of_getElem? (i := 547) (by decide +kernel), List.mem_of_getElem? (i := 548) (by decide +kernel)⟩
theorem lw_p5 : lw_okq (⟨"GlossedPage", "needComment", "(I)V"⟩, 7) := ⟨⟨by decide +kernel, by decide +kernel⟩, List.mem_of_getElem? (i := 21) (by decide +kernel), List.mem_of_getElem? (i := 577) (by decide +kernel), List.mem_of_getElem? (i := 578) (by decide +kernel)⟩
theorem lw_p6 : lw_okq (⟨"GlossedPage$Comments", "weigh", "()V"⟩, 12) := ⟨⟨by decide +kernel, by decide +kernel⟩, List.mem_of_getElem? (i := 81) (by decide +kernel), List.mem_of_getElem? (i := 617) (by decide +kernel), List.mem_of_getElem? (i := 618) (by decide +kernel)⟩
theorem lw_p7 : lw_okq (⟨"GlossedPage$Comments", "isLight", "(I)Z"⟩, 12) := ⟨⟨by decide +kernel, by decide +kernel⟩, List.mem_of_getElem? (i := 81) (by decide +kernel), List.mem_of_getElem? (i := 622) (by decide +kernel), List.mem_of_getElem? (i := 623) (by decide +kernel)⟩
theorem lw_p8 : lw_okq (⟨"GlossedPage$Comments", "isDoubt", "(I)Z"⟩, 12) := ⟨⟨by decide +kernel, by decide +kernel⟩, List.mem_of_getElem? (i := 81) (by decide +kernel), List.mem_of_getElem? (i := 655) (by decide +kernel), List.mem_of_getElem? (i := 656) (by decide +kernel)⟩
theorem lw_p9 : lw_okq (⟨"GlossedPage$Comments", "lowestAnswerTo", "(I)I"⟩, 12) := ⟨⟨by decide +kernel, by decide +kernel⟩, List.mem_of_getElem? (i := 81) (by decide +kernel), List.mem_of_getElem? (i := 672) (by decide +kernel), List.mem_of_getElem? (i := 673) (by decide +kernel)⟩
theorem lw_p10 : lw_okq (⟨"GlossedPage$Rulings", "tell", "(IIILGlossedPage$Authors;)I"⟩, 5) := ⟨⟨by decide +kernel, by decide +kernel⟩, List.mem_of_getElem? (i := 125) (by decide +kernel), List.mem_of_getElem? (i := 765) (by decide +kernel), List.mem_of_getElem? (i := 766) (by decide +kernel)⟩
theorem lw_p11 : lw_okq (⟨"GlossedPage$Rulings", "rulingOf", "(II)I"⟩, 5) := ⟨⟨by decide +kernel, by decide +kernel⟩, List.mem_of_getElem? (i := 125) (by decide +kernel), List.mem_of_getElem? (i := 773) (by decide +kernel), List.mem_of_getElem? (i := 774) (by decide +kernel)⟩
theorem lw_p12 : lw_okq (⟨"GlossedPage$Rulings", "rulingOfMost", "(I)I"⟩, 5) := ⟨⟨by decide +kernel, by decide +kernel⟩, List.mem_of_getElem? (i := 125) (by decide +kernel), List.mem_of_getElem? (i := 777) (by decide +kernel), List.mem_of_getElem? (i := 778) (by decide +kernel)⟩
theorem lw_p13 : lw_okq (⟨"GlossedPage$Setting", "gatherNotes", "(LGlossedPage$Comments;)V"⟩, 5) := ⟨⟨by decide +kernel, by decide +kernel⟩, List.mem_of_getElem? (i := 147) (by decide +kernel), List.mem_of_getElem? (i := 804) (by decide +kernel), List.mem_of_getElem? (i := 805) (by decide +kernel)⟩
theorem lw_p14 : lw_okq (⟨"GlossedPage$Setting", "lineOf", "(ILGlossedPage$Comments;)I"⟩, 5) := ⟨⟨by decide +kernel, by decide +kernel⟩, List.mem_of_getElem? (i := 147) (by decide +kernel), List.mem_of_getElem? (i := 817) (by decide +kernel), List.mem_of_getElem? (i := 818) (by decide +kernel)⟩
theorem lw_p15 : lw_okq (⟨"GlossedPage$Setting", "firstOfLine", "(I)I"⟩, 5) := ⟨⟨by decide +kernel, by decide +kernel⟩, List.mem_of_getElem? (i := 147) (by decide +kernel), List.mem_of_getElem? (i := 823) (by decide +kernel), List.mem_of_getElem? (i := 824) (by decide +kernel)⟩
def lw_privs_1 : List (MethodName × Nat) := [(⟨"java/lang/Throwable", "fillInStackTrace", "(I)Ljava/lang/Throwable;"⟩, 6), (⟨"GlossedPage", "needUnit", "(I)V"⟩, 7), (⟨"GlossedPage$Authors", "later", "(II)I"⟩, 4), (⟨"GlossedPage", "needAuthor", "(I)V"⟩, 7), (⟨"GlossedPage", "needRoomForComment", "()V"⟩, 7), (⟨"GlossedPage", "needComment", "(I)V"⟩, 7), (⟨"GlossedPage$Comments", "weigh", "()V"⟩, 12), (⟨"GlossedPage$Comments", "isLight", "(I)Z"⟩, 12), (⟨"GlossedPage$Comments", "isDoubt", "(I)Z"⟩, 12), (⟨"GlossedPage$Comments", "lowestAnswerTo", "(I)I"⟩, 12), (⟨"GlossedPage$Rulings", "tell", "(IIILGlossedPage$Authors;)I"⟩, 5), (⟨"GlossedPage$Rulings", "rulingOf", "(II)I"⟩, 5), (⟨"GlossedPage$Rulings", "rulingOfMost", "(I)I"⟩, 5), (⟨"GlossedPage$Setting", "gatherNotes", "(LGlossedPage$Comments;)V"⟩, 5), (⟨"GlossedPage$Setting", "lineOf", "(ILGlossedPage$Comments;)I"⟩, 5), (⟨"GlossedPage$Setting", "firstOfLine", "(I)I"⟩, 5)]
theorem lw_r1 : ∀ q ∈ lw_privs_1, lw_okq q := List.forall_mem_cons.mpr ⟨lw_p0, List.forall_mem_cons.mpr ⟨lw_p1, List.forall_mem_cons.mpr ⟨lw_p2, List.forall_mem_cons.mpr ⟨lw_p3, List.forall_mem_cons.mpr ⟨lw_p4, List.forall_mem_cons.mpr ⟨lw_p5, List.forall_mem_cons.mpr ⟨lw_p6, List.forall_mem_cons.mpr ⟨lw_p7, List.forall_mem_cons.mpr ⟨lw_p8, List.forall_mem_cons.mpr ⟨lw_p9, List.forall_mem_cons.mpr ⟨lw_p10, List.forall_mem_cons.mpr ⟨lw_p11, List.forall_mem_cons.mpr ⟨lw_p12, List.forall_mem_cons.mpr ⟨lw_p13, List.forall_mem_cons.mpr ⟨lw_p14, List.forall_mem_cons.mpr ⟨lw_p15, fun _ h => absurd h List.not_mem_nil⟩⟩⟩⟩⟩⟩⟩⟩⟩⟩⟩⟩⟩⟩⟩⟩
theorem lw_p16 : lw_okq (⟨"GlossedPage$Setting", "setLine", "(I)V"⟩, 5) := ⟨⟨by decide +kernel, by decide +kernel⟩, List.mem_of_getElem? (i := 147) (by decide +kernel), List.mem_of_getElem? (i := 837) (by decide +kernel), List.mem_of_getElem? (i := 838) (by decide +kernel)⟩
theorem lw_p17 : lw_okq (⟨"GlossedPage", "needEdition", "(I)V"⟩, 7) := ⟨⟨by decide +kernel, by decide +kernel⟩, List.mem_of_getElem? (i := 21) (by decide +kernel), List.mem_of_getElem? (i := 881) (by decide +kernel), List.mem_of_getElem? (i := 882) (by decide +kernel)⟩
theorem lw_p18 : lw_okq (⟨"GlossedPage$Editions", "pageIn", "(II)I"⟩, 5) := ⟨⟨by decide +kernel, by decide +kernel⟩, List.mem_of_getElem? (i := 182) (by decide +kernel), List.mem_of_getElem? (i := 933) (by decide +kernel), List.mem_of_getElem? (i := 934) (by decide +kernel)⟩
theorem lw_p19 : lw_okq (⟨"GlossedPageModel", "between", "(III)Z"⟩, 34) := ⟨⟨by decide +kernel, by decide +kernel⟩, List.mem_of_getElem? (i := 951) (by decide +kernel), List.mem_of_getElem? (i := 1068) (by decide +kernel), List.mem_of_getElem? (i := 1069) (by decide +kernel)⟩
theorem lw_p20 : lw_okq (⟨"GlossedPageModel", "isUnit", "(I)Z"⟩, 34) := ⟨⟨by decide +kernel, by decide +kernel⟩, List.mem_of_getElem? (i := 951) (by decide +kernel), List.mem_of_getElem? (i := 1084) (by decide +kernel), List.mem_of_getElem? (i := 1085) (by decide +kernel)⟩
theorem lw_p21 : lw_okq (⟨"GlossedPageModel", "nearest", "(III)I"⟩, 34) := ⟨⟨by decide +kernel, by decide +kernel⟩, List.mem_of_getElem? (i := 951) (by decide +kernel), List.mem_of_getElem? (i := 1088) (by decide +kernel), List.mem_of_getElem? (i := 1089) (by decide +kernel)⟩
theorem lw_p22 : lw_okq (⟨"GlossedPageModel", "isAuthor", "(I)Z"⟩, 34) := ⟨⟨by decide +kernel, by decide +kernel⟩, List.mem_of_getElem? (i := 951) (by decide +kernel), List.mem_of_getElem? (i := 1108) (by decide +kernel), List.mem_of_getElem? (i := 1109) (by decide +kernel)⟩
theorem lw_p23 : lw_okq (⟨"GlossedPageModel", "isNote", "(III)Z"⟩, 34) := ⟨⟨by decide +kernel, by decide +kernel⟩, List.mem_of_getElem? (i := 951) (by decide +kernel), List.mem_of_getElem? (i := 1112) (by decide +kernel), List.mem_of_getElem? (i := 1113) (by decide +kernel)⟩
theorem lw_p24 : lw_okq (⟨"GlossedPageModel", "added", "(IIII)I"⟩, 34) := ⟨⟨by decide +kernel, by decide +kernel⟩, List.mem_of_getElem? (i := 951) (by decide +kernel), List.mem_of_getElem? (i := 1116) (by decide +kernel), List.mem_of_getElem? (i := 1117) (by decide +kernel)⟩
theorem lw_p25 : lw_okq (⟨"GlossedPageModel", "isComment", "(I)Z"⟩, 34) := ⟨⟨by decide +kernel, by decide +kernel⟩, List.mem_of_getElem? (i := 951) (by decide +kernel), List.mem_of_getElem? (i := 1124) (by decide +kernel), List.mem_of_getElem? (i := 1125) (by decide +kernel)⟩
theorem lw_p26 : lw_okq (⟨"GlossedPageModel", "layStands", "()V"⟩, 34) := ⟨⟨by decide +kernel, by decide +kernel⟩, List.mem_of_getElem? (i := 951) (by decide +kernel), List.mem_of_getElem? (i := 1132) (by decide +kernel), List.mem_of_getElem? (i := 1133) (by decide +kernel)⟩
theorem lw_p27 : lw_okq (⟨"GlossedPageModel", "asks", "(I)Z"⟩, 34) := ⟨⟨by decide +kernel, by decide +kernel⟩, List.mem_of_getElem? (i := 951) (by decide +kernel), List.mem_of_getElem? (i := 1144) (by decide +kernel), List.mem_of_getElem? (i := 1145) (by decide +kernel)⟩
theorem lw_p28 : lw_okq (⟨"GlossedPageModel", "findUnit", "()I"⟩, 34) := ⟨⟨by decide +kernel, by decide +kernel⟩, List.mem_of_getElem? (i := 951) (by decide +kernel), List.mem_of_getElem? (i := 1156) (by decide +kernel), List.mem_of_getElem? (i := 1157) (by decide +kernel)⟩
theorem lw_p29 : lw_okq (⟨"GlossedPageModel", "likeness", "(I)I"⟩, 34) := ⟨⟨by decide +kernel, by decide +kernel⟩, List.mem_of_getElem? (i := 951) (by decide +kernel), List.mem_of_getElem? (i := 1160) (by decide +kernel), List.mem_of_getElem? (i := 1161) (by decide +kernel)⟩
theorem lw_p30 : lw_okq (⟨"GlossedPageModel", "tells", "(II)I"⟩, 34) := ⟨⟨by decide +kernel, by decide +kernel⟩, List.mem_of_getElem? (i := 951) (by decide +kernel), List.mem_of_getElem? (i := 1184) (by decide +kernel), List.mem_of_getElem? (i := 1185) (by decide +kernel)⟩
theorem lw_p31 : lw_okq (⟨"GlossedPageModel", "latestRuling", "(II)I"⟩, 34) := ⟨⟨by decide +kernel, by decide +kernel⟩, List.mem_of_getElem? (i := 951) (by decide +kernel), List.mem_of_getElem? (i := 1188) (by decide +kernel), List.mem_of_getElem? (i := 1189) (by decide +kernel)⟩
def lw_privs_2 : List (MethodName × Nat) := [(⟨"GlossedPage$Setting", "setLine", "(I)V"⟩, 5), (⟨"GlossedPage", "needEdition", "(I)V"⟩, 7), (⟨"GlossedPage$Editions", "pageIn", "(II)I"⟩, 5), (⟨"GlossedPageModel", "between", "(III)Z"⟩, 34), (⟨"GlossedPageModel", "isUnit", "(I)Z"⟩, 34), (⟨"GlossedPageModel", "nearest", "(III)I"⟩, 34), (⟨"GlossedPageModel", "isAuthor", "(I)Z"⟩, 34), (⟨"GlossedPageModel", "isNote", "(III)Z"⟩, 34), (⟨"GlossedPageModel", "added", "(IIII)I"⟩, 34), (⟨"GlossedPageModel", "isComment", "(I)Z"⟩, 34), (⟨"GlossedPageModel", "layStands", "()V"⟩, 34), (⟨"GlossedPageModel", "asks", "(I)Z"⟩, 34), (⟨"GlossedPageModel", "findUnit", "()I"⟩, 34), (⟨"GlossedPageModel", "likeness", "(I)I"⟩, 34), (⟨"GlossedPageModel", "tells", "(II)I"⟩, 34), (⟨"GlossedPageModel", "latestRuling", "(II)I"⟩, 34)]
theorem lw_r2 : ∀ q ∈ lw_privs_2, lw_okq q := List.forall_mem_cons.mpr ⟨lw_p16, List.forall_mem_cons.mpr ⟨lw_p17, List.forall_mem_cons.mpr ⟨lw_p18, List.forall_mem_cons.mpr ⟨lw_p19, List.forall_mem_cons.mpr ⟨lw_p20, List.forall_mem_cons.mpr ⟨lw_p21, List.forall_mem_cons.mpr ⟨lw_p22, List.forall_mem_cons.mpr ⟨lw_p23, List.forall_mem_cons.mpr ⟨lw_p24, List.forall_mem_cons.mpr ⟨lw_p25, List.forall_mem_cons.mpr ⟨lw_p26, List.forall_mem_cons.mpr ⟨lw_p27, List.forall_mem_cons.mpr ⟨lw_p28, List.forall_mem_cons.mpr ⟨lw_p29, List.forall_mem_cons.mpr ⟨lw_p30, List.forall_mem_cons.mpr ⟨lw_p31, fun _ h => absurd h List.not_mem_nil⟩⟩⟩⟩⟩⟩⟩⟩⟩⟩⟩⟩⟩⟩⟩⟩
theorem lw_p32 : lw_okq (⟨"GlossedPageModel", "set", "(I)V"⟩, 34) := ⟨⟨by decide +kernel, by decide +kernel⟩, List.mem_of_getElem? (i := 951) (by decide +kernel), List.mem_of_getElem? (i := 1196) (by decide +kernel), List.mem_of_getElem? (i := 1197) (by decide +kernel)⟩
theorem lw_p33 : lw_okq (⟨"GlossedPageModel", "isIn", "(IIII)Z"⟩, 34) := ⟨⟨by decide +kernel, by decide +kernel⟩, List.mem_of_getElem? (i := 951) (by decide +kernel), List.mem_of_getElem? (i := 1200) (by decide +kernel), List.mem_of_getElem? (i := 1201) (by decide +kernel)⟩
theorem lw_p34 : lw_okq (⟨"GlossedPageModel", "isEdition", "(I)Z"⟩, 34) := ⟨⟨by decide +kernel, by decide +kernel⟩, List.mem_of_getElem? (i := 951) (by decide +kernel), List.mem_of_getElem? (i := 1208) (by decide +kernel), List.mem_of_getElem? (i := 1209) (by decide +kernel)⟩
def lw_privs_3 : List (MethodName × Nat) := [(⟨"GlossedPageModel", "set", "(I)V"⟩, 34), (⟨"GlossedPageModel", "isIn", "(IIII)Z"⟩, 34), (⟨"GlossedPageModel", "isEdition", "(I)Z"⟩, 34)]
theorem lw_r3 : ∀ q ∈ lw_privs_3, lw_okq q := List.forall_mem_cons.mpr ⟨lw_p32, List.forall_mem_cons.mpr ⟨lw_p33, List.forall_mem_cons.mpr ⟨lw_p34, fun _ h => absurd h List.not_mem_nil⟩⟩⟩
def lw_privs : List (MethodName × Nat) := lw_privs_1 ++ (lw_privs_2 ++ (lw_privs_3))
def lw_tbl : List Cond := k2_sels lw_privs ++ tables_1
theorem lw_privs_ok : ∀ q ∈ lw_privs, lw_okq q := by
  show ∀ q ∈ lw_privs_1 ++ (lw_privs_2 ++ (lw_privs_3)), lw_okq q
  exact List.forall_mem_append.mpr ⟨lw_r1, List.forall_mem_append.mpr ⟨lw_r2, lw_r3⟩⟩
-- ===== end of PART A; then your names; then what follows =====
end
section
/-! ===== BEGIN words of one list among another's, by their places ===== -/
theorem goodIn_r {big : List Cond} (ws : List Cond) (ps : List Nat) (hp : ws = ps.filterMap (fun i => big[i]?)) (h : ws.all goodWord = true) : GoodIn big ws := by
  intro w hw
  have h1 := List.all_eq_true.mp h w hw
  rw [hp] at hw
  obtain ⟨i, -, hi⟩ := List.mem_filterMap.mp hw
  have hm : w ∈ big := by first | exact List.mem_of_getElem? hi | exact List.getElem?_mem hi
  exact ⟨hm, good_of_word h1⟩
theorem goodIn_app {big a b : List Cond} (ha : GoodIn big a) (hb : GoodIn big b) : GoodIn big (a ++ b) := fun w h => (List.mem_append.mp h).elim (ha w) (hb w)
theorem goodIn_ca {big a b : List Cond} {c : Cond} (ha : GoodIn big (c :: a)) (hb : GoodIn big b) : GoodIn big (c :: (a ++ b)) := fun w h => (List.mem_cons.mp h).elim (fun e => ha w (List.mem_cons.mpr (Or.inl e))) (fun h => (List.mem_append.mp h).elim (fun h => ha w (List.mem_cons.mpr (Or.inr h))) (hb w))
theorem goodIn_sub {big ws : List Cond} (hm : ∀ w ∈ ws, w ∈ big) (h : ws.all goodWord = true) : GoodIn big ws := fun w hw => ⟨hm w hw, good_of_word (List.all_eq_true.mp h w hw)⟩
/-! ===== END ===== -/

/-! ===== BEGIN exceptions that leave a method, and their catching by the caller (launches without stack traces) ===== -/
section VXA
/-! The laws vx_back, vx_callV, vx_callS, vx_callSW, vx_throw0, vx_throwS follow proofs of the library, with one case more: JvmDerived/Free/Laws.lean (Back.of_free), Shelf42/LK1.lean (callV, callS), Shelf/KitTraced.lean (throwNew0V, throwNewS). -/
/-- where a method has thrown q: the class by its name, the cell, what was written, the world -/
def vx_T (XC : String → State → State → Prop) (st : State) (q : Addr) (t : State) (mc ms : Nat) (free : Addr → Prop) : Prop :=
  ∃ (E : String) (ce : Cell) (L : List Loc), XC E st t ∧ t.heap[q]? = some ce ∧ ce.vm = .none ∧ st.vm.findClass E = some ce.cls ∧ st.WarmedH t.vm ∧ st.sameButNew ({ t with vm := st.vm } : State) L mc ms ∧ ∀ z ∈ L, free z.base
def vx_Q (Qc : Array Value → State → Outcome → State → Prop) (XC : String → State → State → Prop) (mc ms : Nat) (free : Addr → Prop) : Array Value → State → Outcome → State → Prop := fun a st o t =>
  (Qc a st o t ∧ ∃ L, FrameEnd st o t L mc ms ∧ ∀ q ∈ L, free q.base) ∨ ∃ q, o = .threw q ∧ vx_T XC st q t mc ms free
/-- a callee that returns or throws -/
def vx_Met (l : Launch) (y : MethodName) (ws : List Cond) (rm : Room) (Pc : Array Value → State → Prop) (Qc : Array Value → State → Outcome → State → Prop) (XC : String → State → State → Prop) (mc ms : Nat) (free : Addr → Prop) : Prop :=
  MetFree l y (headSpec ws rm) Pc (fun _ _ _ _ _ => True) (vx_Q Qc XC mc ms free)
def vx_Post (XC : String → State → State → Prop) (mc ms : Nat) (free : Addr → Prop) : Pt → Array Value → Addr → Pt → Prop := fun A a q B =>
  ∃ (g : JFrame) (mk : MethodId) (t : State) (L : List Loc) (E : String) (ce : Cell), B.U.heap = t.heap ∧ B.U.vm = t.vm ∧ XC E (A.U.calling g mk a) t ∧ t.heap[q]? = some ce ∧ ce.vm = .none ∧ A.U.vm.findClass E = some ce.cls ∧ B.locs = A.locs ++ L ∧ (∀ z ∈ L, free z.base) ∧ B.cells = A.cells + mc ∧ B.slots = A.slots + ms
def vx_Back (l : Launch) (R : Room) (p : Program) (e : Env) (below : List Frame) (s : State) (sargs : Array Value) (y : MethodName) (len W9 : Nat)
    (Pre : Pt → Array Value → Prop) (Post : Pt → Array Value → Option Value → Pt → Prop) (PostX : Pt → Array Value → Addr → Pt → Prop) : Prop :=
  ∀ (m : MethodId) (meth : Method) (c : Code) (A : Pt) (g : JFrame) (ig : Instr) (mk : MethodId) (a : Array Value),
    Stand p l e R s m sargs below meth c A.U A.locs A.cells A.slots → g.method = m → g.locals.size = c.maxLocals → decode c.code g.pc = .ok (ig, len) →
    2 * g.monitorRoom + (g.stack.map fun v => v.category).sum ≤ W9 → A.U.methodNamed? y = some mk → Pre A a →
    (∃ (v : Option Value) (B : Pt), Stand p l e R s m sargs below meth c B.U B.locs B.cells B.slots ∧ Post A a v B ∧
      Steps p.tables e below (doInvoke e (A.U.setTop g) [] mk a).1 (B.U.setTop { g with pc := g.pc + len, stack := v.toList ++ g.stack })) ∨
    (∃ (q : Addr) (B : Pt), Stand p l e R s m sargs below meth c B.U B.locs B.cells B.slots ∧ PostX A a q B ∧
      Steps p.tables e below (doInvoke e (A.U.setTop g) [] mk a).1 ((B.U.setTop g).pushFrame (.throwing q)))
section Payer
variable {l : Launch} {R : Room} {p : Program} {e : Env} {below : List Frame} {s : State} {sargs : Array Value} {y : MethodName} {len W9 : Nat}
theorem vx_back {ws : List Cond} {rm : Room} {Pc : Array Value → State → Prop} {Qc : Array Value → State → Outcome → State → Prop} {XC : String → State → State → Prop} {mc ms : Nat} {free : Addr → Prop} {bytes : ByteArray} {maxL : Nat} {ret : Option FieldType}
    (hM : vx_Met l y ws rm Pc Qc XC mc ms free) (hblind : FrameBlind Pc) (hrc : rm.cells = mc) (hrs : rm.slots = ms)
    (hframes : rm.frames + 1 ≤ R.frames) (hlocals : W9 + (maxL + 11) + rm.locals ≤ R.locals)
    (hws : ∀ w ∈ ws, ∀ a' U, s.WarmedH U.vm → w.before a' U = true) (hcode : Cond.code y bytes maxL ret ∈ ws) (hinit : ∀ a' U, s.WarmedH U.vm → (Cond.initialized y.cls).before a' U = true) :
    vx_Back l R p e below s sargs y len W9 (PreOf R mc ms Pc) (PostOf Qc mc ms free) (vx_Post XC mc ms free) := by
  intro m meth c A g ig mk a X hg hsize hdg hW hn hp
  have h1 : (headSpec ws rm).pre.before a A.U = true := atoms_intro fun w hw => hws w hw _ _ X.warmed
  have h2 : (Cond.code y bytes maxL ret).before a A.U = true := hws _ hcode _ _ X.warmed
  have h3 : (Cond.initialized y.cls).before a A.U = true := hinit _ _ X.warmed
  have h4 : A.cells + (headSpec ws rm).room.cells ≤ R.cells := by rw [show (headSpec ws rm).room.cells = mc from hrc]; exact hp.1
  have h5 : A.slots + (headSpec ws rm).room.slots ≤ R.slots := by rw [show (headSpec ws rm).room.slots = ms from hrs]; exact hp.2.1
  have hPc : Pc a (A.U.calling g mk a) := hblind _ _ _ _ hp.2.2
  obtain ⟨U, Ls, c0, s0⟩ := A
  dsimp only [Pt.U, Pt.locs, Pt.cells, Pt.slots] at h1 h2 h3 h4 h5 X hn hPc ⊢
  obtain ⟨methY, cY, hmY, hcY, -, hlY, -, -, -, -⟩ := Cond.code_spec hn h2
  obtain ⟨kY, hkY, -⟩ := className_of_methodNamed hn
  have hinitY : kY.init = .initialized := Cond.initialized_spec (findClass_of_methodNamed hn) hkY h3
  have h : At U g.method c below := by rw [hg]; exact X.here
  have hlocals9 : W9 + (maxL + 11) + (headSpec ws rm).room.locals ≤ R.locals := hlocals
  have happ : (headSpec ws rm).appliesLoose y e.platform (U.calling g mk a) = true :=
    Spec.appliesLoose_calling (g := g) h hdg hn hkY hinitY
      (X.room_calling (g := g) (R' := (headSpec ws rm).room) hsize hmY hcY hframes (by rw [hlY]; omega) h4 h5) h1
  obtain ⟨mid, hmid⟩ := h.above
  have hfr : (U.setTop g).frames = (.java g :: mid) ++ below := by rw [State.frames_setTop' g h.top, hmid]; rfl
  obtain ⟨o, s₂, hsteps, -, hend, hq⟩ := Steps.callFree hM p X.admits X.cas X.clock (acts := []) hfr happ hPc trivial
  have hq' : vx_Q Qc XC mc ms free a (U.calling g mk a) o s₂ := hq
  rw [State.frames_setTop' g h.top] at hend
  obtain ⟨g₀, hg0⟩ := Option.isSome_iff_exists.mp h.top
  obtain ⟨r, hr⟩ := State.topJava?_eq_some.mp hg0
  have hr' : (({ U with heap := s₂.heap, slotsUsed := s₂.slotsUsed } : State).setVm s₂.vm).frames = .java g₀ :: r := hr
  rcases hq' with ⟨hqc, L, hfe, hL⟩ | ⟨q, rfl, E, ce, L, hx, hce, hcv, hcl, hW₂, hsm, hL⟩
  · obtain ⟨⟨v, rfl⟩, hW₂, e2, q2, q3, q4, q5, q6⟩ := id hfe
    have e3 : s₂ = ({ (U.calling g mk a).setFrames s₂.frames with heap := s₂.heap, slotsUsed := s₂.slotsUsed } : State).setVm s₂.vm := by
      have : s₂ = ({ s₂ with vm := (U.calling g mk a).vm } : State).setVm s₂.vm := rfl
      rw [e2] at this
      exact this
    obtain ⟨c₂, i₂, len₂, hc₂, hd₂, hf₂⟩ := hend
    have hW' : U.WarmedH s₂.vm := hW₂
    have hcc : c₂ = c := by
      have h1 : s₂.code? g.method = U.code? g.method := by
        rw [State.code?_eq, State.code?_eq, hW'.alike.method?]
      exact Option.some.inj (hc₂.symm.trans (h1.trans h.code))
    subst hcc
    have hlen : len₂ = len := by rw [hdg] at hd₂; cases hd₂; rfl
    subst hlen
    have hs₂ : s₂ = (({ U with heap := s₂.heap, slotsUsed := s₂.slotsUsed } : State).setVm s₂.vm).setTop { g with pc := g.pc + len₂, stack := v.toList ++ g.stack } := by
      refine e3.trans ?_
      rw [hf₂, State.calling_eq h.top, State.setFrames_setFrames, State.setTop_of_frames _ hr', hr]
      rfl
    have hsame : U.sameButNew ({ U with heap := s₂.heap, slotsUsed := s₂.slotsUsed } : State) L mc ms := by
      refine ⟨?_, q2, q3, q4, q5, q6⟩
      obtain ⟨t, ht, -⟩ := State.frames_cons hr
      show ({ U with heap := s₂.heap, slotsUsed := s₂.slotsUsed } : State) = { U.setFrames U.frames with heap := s₂.heap, slotsUsed := s₂.slotsUsed }
      rw [State.setFrames_self ht]
    subst hg
    refine Or.inl ⟨v, ⟨(({ U with heap := s₂.heap, slotsUsed := s₂.slotsUsed } : State).setVm s₂.vm), Ls ++ L, c0 + mc, s0 + ms⟩,
      ⟨X.admits, X.cas, X.clock, X.frames, X.room, X.hears, X.method, X.code, (X.here.setHeapUsed s₂.heap s₂.slotsUsed).setVm hW'.alike, X.tail, State.WarmedH.trans X.warmed hW', X.limits, X.bytes, X.same.trans (hsame.setVm s.vm)⟩,
      ⟨g, mk, s₂, L, rfl, rfl, hqc, rfl, hL, rfl, rfl⟩, ?_⟩
    show Steps p.tables e below _ ((({ U with heap := s₂.heap, slotsUsed := s₂.slotsUsed } : State).setVm s₂.vm).setTop { g with pc := g.pc + len₂, stack := v.toList ++ g.stack })
    rw [← hs₂]
    exact hsteps
  · obtain ⟨e2, q2, q3, q4, q5, q6⟩ := id hsm
    have e3 : s₂ = ({ (U.calling g mk a).setFrames s₂.frames with heap := s₂.heap, slotsUsed := s₂.slotsUsed } : State).setVm s₂.vm := by
      have : s₂ = ({ s₂ with vm := (U.calling g mk a).vm } : State).setVm s₂.vm := rfl
      rw [e2] at this
      exact this
    have hf₂ : s₂.frames = .throwing q :: .java g :: U.frames.tail := hend
    have hW' : U.WarmedH s₂.vm := hW₂
    have hs₂ : s₂ = ((({ U with heap := s₂.heap, slotsUsed := s₂.slotsUsed } : State).setVm s₂.vm).setTop g).pushFrame (.throwing q) := by
      refine e3.trans ?_
      rw [hf₂, State.calling_eq h.top, State.setFrames_setFrames, State.pushFrame, State.frames_setTop _ hr', State.setTop_of_frames _ hr', State.setFrames_setFrames, hr]
      rfl
    have hsame : U.sameButNew ({ U with heap := s₂.heap, slotsUsed := s₂.slotsUsed } : State) L mc ms := by
      refine ⟨?_, q2, q3, q4, q5, q6⟩
      obtain ⟨t, ht, -⟩ := State.frames_cons hr
      show ({ U with heap := s₂.heap, slotsUsed := s₂.slotsUsed } : State) = { U.setFrames U.frames with heap := s₂.heap, slotsUsed := s₂.slotsUsed }
      rw [State.setFrames_self ht]
    subst hg
    refine Or.inr ⟨q, ⟨(({ U with heap := s₂.heap, slotsUsed := s₂.slotsUsed } : State).setVm s₂.vm), Ls ++ L, c0 + mc, s0 + ms⟩,
      ⟨X.admits, X.cas, X.clock, X.frames, X.room, X.hears, X.method, X.code, (X.here.setHeapUsed s₂.heap s₂.slotsUsed).setVm hW'.alike, X.tail, State.WarmedH.trans X.warmed hW', X.limits, X.bytes, X.same.trans (hsame.setVm s.vm)⟩,
      ⟨g, mk, s₂, L, E, ce, rfl, rfl, hx, hce, hcv, hcl, rfl, hL, rfl, rfl⟩, ?_⟩
    show Steps p.tables e below _ (((({ U with heap := s₂.heap, slotsUsed := s₂.slotsUsed } : State).setVm s₂.vm).setTop g).pushFrame (.throwing q))
    rw [← hs₂]
    exact hsteps
end Payer
section Calls
variable {p : Program} {l : Launch} {e : Env} {R : Room} {s : State} {m : MethodId} {args : Array Value} {below : List Frame} {meth : Method} {c : Code} {T : State} {locs : List Loc} {cells slots : Nat}
theorem vx_callV (X : Stand p l e R s m args below meth c T locs cells slots) (hexec : p.tables.exec = Jvm.exec) {own C : String} {index : Nat} {y : MethodName} {bytes : ByteArray} {maxL : Nat} {ret : Option FieldType}
    (hown : s.vm.findClass own = some m.cls) (hlink : (Cond.methodLink own index y).before args s = true) (hinst : (Cond.instanceMethod y).before args s = true) (hsel : (Cond.selects C y y).before args s = true)
    (hcode : (Cond.code y bytes maxL ret).before args s = true) (hy : y.cls ≠ "java/lang/invoke/MethodHandle" ∧ y.cls ≠ "java/lang/invoke/VarHandle")
    {W9 : Nat} {Pre : Pt → Array Value → Prop} {Post : Pt → Array Value → Option Value → Pt → Prop} {PostX : Pt → Array Value → Addr → Pt → Prop} (hK : vx_Back l R p e below s args y 3 W9 Pre Post PostX)
    {b : Addr} {cellB : Cell} (hcell : T.heap[b]? = some cellB) (hobj : cellB.vm.isStatics = false) (hcls : s.vm.findClass C = some cellB.cls)
    {g : JFrame} (hg : g.method = m) (hsize : g.locals.size = c.maxLocals) {argsL rest : List Value} (hlen : ∀ sig, parseMethodDescriptor y.desc = some sig → argsL.length = sig.parameters.length)
    (hstack : g.stack = argsL.reverse ++ .ref b :: rest) (hW : 2 * g.monitorRoom + (rest.map fun v => v.category).sum ≤ W9) (hdg : decode c.code g.pc = .ok (.invokevirtual index, 3))
    (hpre : ∀ vm₁, s.WarmedH vm₁ → Pre ⟨T.setVm vm₁, locs, cells, slots⟩ (Value.ref b :: argsL).toArray) :
    (∃ (v : Option Value) (vm₁ : Vm) (B : Pt), s.WarmedH vm₁ ∧ Stand p l e R s m args below meth c B.U B.locs B.cells B.slots ∧ Post ⟨T.setVm vm₁, locs, cells, slots⟩ (Value.ref b :: argsL).toArray v B ∧
      ∀ target, Steps p.tables e below (B.U.setTop { g with pc := g.pc + 3, stack := v.toList ++ rest }) target → Steps p.tables e below (T.setTop g) target) ∨
    (∃ (q : Addr) (vm₁ : Vm) (B : Pt), s.WarmedH vm₁ ∧ Stand p l e R s m args below meth c B.U B.locs B.cells B.slots ∧ PostX ⟨T.setVm vm₁, locs, cells, slots⟩ (Value.ref b :: argsL).toArray q B ∧
      Steps p.tables e below (T.setTop g) ((B.U.setTop { g with stack := rest }).pushFrame (.throwing q))) := by
  obtain ⟨mk, methM, hnamed, hmethM, hstM, habM⟩ := Cond.instanceMethod_spec hinst
  obtain ⟨methM', cM, hmethM', -, -, -, -, -, -, hsigM⟩ := Cond.code_spec hnamed hcode
  cases hmethM.symm.trans hmethM'
  obtain ⟨c2, r2, m2, q1, q2, q3, q4, kP, hkP, hkPi⟩ := Cond.selects_spec hsel
  cases hcls.symm.trans q1
  cases (State.methodFound?_of_named hnamed hy).symm.trans q2
  cases hnamed.symm.trans q3
  have hselP : selectMethod e.platform s.vm cellB.cls mk = .method mk := by rw [Launch.admits_selectMethod X.admits]; exact q4
  obtain ⟨vm₁, X₁, hstep₁⟩ := X.invokevirtual hexec hown hlink hnamed hmethM hstM hkP hkPi hy (a := b) (cell := cellB) hcell
    (fun z h => by rw [h] at hobj; cases hobj) hselP hmethM habM hkP hkPi (g := g) hg (argsL := argsL) (rest := rest) (hlen _ hsigM) hstack hdg
  rcases hK m meth c ⟨T.setVm vm₁, locs, cells, slots⟩ { g with stack := rest } (.invokevirtual index) mk (Value.ref b :: argsL).toArray X₁ hg hsize hdg hW (X₁.named hnamed) (hpre vm₁ X₁.warmed) with ⟨v, B, X', hpost, hsteps⟩ | ⟨q, B, X', hpost, hsteps⟩
  · exact Or.inl ⟨v, vm₁, B, X₁.warmed, X', hpost, fun target h => hstep₁ _ fun acts => by rw [doInvoke_state]; exact hsteps.trans h⟩
  · exact Or.inr ⟨q, vm₁, B, X₁.warmed, X', hpost, hstep₁ _ fun acts => by rw [doInvoke_state]; exact hsteps⟩
theorem vx_callS (X : Stand p l e R s m args below meth c T locs cells slots) (hexec : p.tables.exec = Jvm.exec) {own : String} {index : Nat} {y : MethodName} {bytes : ByteArray} {maxL : Nat} {ret : Option FieldType}
    (hown : s.vm.findClass own = some m.cls) (hlink : (Cond.methodLink own index y).before args s = true) (hstat : (Cond.static y).before args s = true) (hinit : (Cond.initialized y.cls).before args s = true)
    (hcode : (Cond.code y bytes maxL ret).before args s = true) (hy : y.cls ≠ "java/lang/invoke/MethodHandle" ∧ y.cls ≠ "java/lang/invoke/VarHandle")
    {W9 : Nat} {Pre : Pt → Array Value → Prop} {Post : Pt → Array Value → Option Value → Pt → Prop} {PostX : Pt → Array Value → Addr → Pt → Prop} (hK : vx_Back l R p e below s args y 3 W9 Pre Post PostX)
    {g : JFrame} (hg : g.method = m) (hsize : g.locals.size = c.maxLocals) {argsL rest : List Value} (hlen : ∀ sig, parseMethodDescriptor y.desc = some sig → argsL.length = sig.parameters.length)
    (hstack : g.stack = argsL.reverse ++ rest) (hW : 2 * g.monitorRoom + (rest.map fun v => v.category).sum ≤ W9) (hdg : decode c.code g.pc = .ok (.invokestatic index, 3))
    (hpre : ∀ vm₁, s.WarmedH vm₁ → Pre ⟨T.setVm vm₁, locs, cells, slots⟩ argsL.toArray) :
    (∃ (v : Option Value) (vm₁ : Vm) (B : Pt), s.WarmedH vm₁ ∧ Stand p l e R s m args below meth c B.U B.locs B.cells B.slots ∧ Post ⟨T.setVm vm₁, locs, cells, slots⟩ argsL.toArray v B ∧
      ∀ target, Steps p.tables e below (B.U.setTop { g with pc := g.pc + 3, stack := v.toList ++ rest }) target → Steps p.tables e below (T.setTop g) target) ∨
    (∃ (q : Addr) (vm₁ : Vm) (B : Pt), s.WarmedH vm₁ ∧ Stand p l e R s m args below meth c B.U B.locs B.cells B.slots ∧ PostX ⟨T.setVm vm₁, locs, cells, slots⟩ argsL.toArray q B ∧
      Steps p.tables e below (T.setTop g) ((B.U.setTop { g with stack := rest }).pushFrame (.throwing q))) := by
  obtain ⟨mk, hnamed⟩ := Cond.code_named hcode
  obtain ⟨methM, cM, hmethM, -, -, -, -, -, -, hsigM⟩ := Cond.code_spec hnamed hcode
  have hstatic : methM.isStatic = true := Cond.static_spec hnamed hmethM hstat
  obtain ⟨kP, hkP, -⟩ := className_of_methodNamed hnamed
  have hinitP : kP.init = .initialized := Cond.initialized_spec (findClass_of_methodNamed hnamed) hkP hinit
  obtain ⟨vm₁, X₁, hstep₁⟩ := X.invokestatic hexec hown hlink hnamed hmethM hstatic hkP hinitP hy (g := g) hg (argsL := argsL) (rest := rest) (hlen _ hsigM) hstack hdg
  rcases hK m meth c ⟨T.setVm vm₁, locs, cells, slots⟩ { g with stack := rest } (.invokestatic index) mk argsL.toArray X₁ hg hsize hdg hW (X₁.named hnamed) (hpre vm₁ X₁.warmed) with ⟨v, B, X', hpost, hsteps⟩ | ⟨q, B, X', hpost, hsteps⟩
  · exact Or.inl ⟨v, vm₁, B, X₁.warmed, X', hpost, fun target h => hstep₁ _ fun acts => by rw [doInvoke_state]; exact hsteps.trans h⟩
  · exact Or.inr ⟨q, vm₁, B, X₁.warmed, X', hpost, hstep₁ _ fun acts => by rw [doInvoke_state]; exact hsteps⟩
end Calls
theorem vx_cls {s : State} {T : State} {vm₁ : Vm} {E : String} {k : ClassId} (hW : s.WarmedH vm₁) (h : (T.setVm vm₁).vm.findClass E = some k) : s.vm.findClass E = some k := by
  have h1 : vm₁.findClass E = some k := h
  rw [hW.alike.findClass] at h1
  exact h1
/-- the method's frame g, with q thrown over it -/
def vx_W (p : Program) (l : Launch) (e : Env) (R : Room) (s : State) (m : MethodId) (args : Array Value) (below : List Frame) (meth : Method) (c : Code) (H : Heap) (locs : List Loc) (cells slots : Nat) (Q : State → Prop) (g : JFrame) (q : Addr) : Prop :=
  ∀ T : State, T.heap = H → Stand p l e R s m args below meth c T locs cells slots → ∃ t, Steps p.tables e below ((T.setTop g).pushFrame (.throwing q)) t ∧ Q t
def vx_Run (p : Program) (l : Launch) (e : Env) (R : Room) (s : State) (m : MethodId) (args : Array Value) (below : List Frame) (meth : Method) (c : Code) (H : Heap) (locs : List Loc) (cells slots mc ms : Nat) (g : JFrame) (rest : List Value) (Qa : State → Outcome → State → Prop) (XC : String → State → State → Prop) (free : Addr → Prop) : Prop :=
  ∀ T : State, T.heap = H → Stand p l e R s m args below meth c T locs cells slots →
    (∃ (v : Option Value) (st₀ t T' : State) (L : List Loc), st₀.heap = H ∧ Stand p l e R s m args below meth c T' (locs ++ L) (cells + mc) (slots + ms) ∧ (∀ q ∈ L, free q.base) ∧ T'.heap = t.heap ∧ T'.vm = t.vm ∧ Qa st₀ (.returned v) t ∧
      Goes p e below T g T' { g with pc := g.pc + 3, stack := v.toList ++ rest }) ∨
    (∃ (q : Addr) (st₀ t T' : State) (L : List Loc) (E : String) (ce : Cell), st₀.heap = H ∧ Stand p l e R s m args below meth c T' (locs ++ L) (cells + mc) (slots + ms) ∧ (∀ z ∈ L, free z.base) ∧ T'.heap = t.heap ∧ T'.vm = t.vm ∧ XC E st₀ t ∧ t.heap[q]? = some ce ∧ ce.vm = .none ∧ s.vm.findClass E = some ce.cls ∧
      Steps p.tables e below (T.setTop g) ((T'.setTop { g with stack := rest }).pushFrame (.throwing q)))
def vx_X {S : Type} (px : S → Prop) (B : String → S → State → Prop) (A : Nat → Prop) : String → State → State → Prop := fun E st t => ∃ u : S, px u ∧ B E u t ∧ va_F A st t
section Runs
variable {p : Program} {l : Launch} {e : Env} {R : Room} {s : State} {m : MethodId} {args : Array Value} {below : List Frame} {meth : Method} {c : Code} {H : Heap} {locs : List Loc} {cells slots : Nat}
variable {y : MethodName} {bytes cc : ByteArray} {maxL nL mc ms n index : Nat} {ret : Option FieldType} {ws : List Cond} {rm : Room} {Pc : Array Value → State → Prop} {Qc : Array Value → State → Outcome → State → Prop} {XC : String → State → State → Prop} {free : Addr → Prop} {Ts : List Cond} {own C : String} {b : Addr} {As rest : List Value} {g : JFrame}
theorem vx_callBack (cb : CallB R s args own index y bytes maxL ret ws rm mc ms n) (hM : vx_Met l y ws rm Pc Qc XC mc ms free) (hbl : FrameBlind Pc) : vx_Back l R p e below s args y 3 8 (PreOf R mc ms Pc) (PostOf Qc mc ms free) (vx_Post XC mc ms free) := by
  obtain ⟨hrc, hrs, hfr, hlo, hws, hcw, -, hini, -⟩ := cb
  exact vx_back (bytes := bytes) (maxL := maxL) (ret := ret) hM hbl hrc hrs hfr hlo hws hcw (fun a' U hW => word_at hW (Or.inl (by first | rfl | simp [Cond.onTables, Cond.keeps, Cond.steady])) hini)
theorem vx_runV (S : CallFix p m c cc nL s args Ts own) (hM : vx_Met l y ws rm Pc Qc XC mc ms free) (cw : CallW R s args own C index y bytes maxL ret ws rm mc ms n) (hp : PreV s H C b Pc As)
    (hg : g.method = m) (hn : As.length = n) (hsize : g.locals.size = nL) (hstack : g.stack = As.reverse ++ .ref b :: rest) (hW : 2 * g.monitorRoom + (rest.map fun v => v.category).sum ≤ 8) (hdg : decode cc g.pc = .ok (.invokevirtual index, 3)) (hf : cells + mc ≤ R.cells ∧ slots + ms ≤ R.slots) :
    vx_Run p l e R s m args below meth c H locs cells slots mc ms g rest (Qc (Value.ref b :: As).toArray) XC free := by
  have hK : vx_Back l R p e below s args y 3 8 (PreOf R mc ms Pc) (PostOf Qc mc ms free) (vx_Post XC mc ms free) := vx_callBack cw.1 hM hp.1
  obtain ⟨⟨-, -, -, -, -, -, hcode, -, hy, hlen, hl⟩, hin, hse⟩ := cw
  obtain ⟨hx, hb, hml, ho, -⟩ := S
  obtain ⟨-, ⟨cellB, hcB, hoB, hclB⟩, hPc⟩ := hp
  intro T hT X
  rcases vx_callV X hx (C := C) (bytes := bytes) (maxL := maxL) (ret := ret) ho hl hin hse hcode hy hK (by rw [hT]; exact hcB) hoB hclB hg (hsize.trans hml.symm) (argsL := As) (rest := rest) (fun sig h => hn.trans (hlen sig h)) hstack hW (by rw [hb]; exact hdg)
    (fun vm₁ hW₁ => ⟨hf.1, hf.2, hPc (T.setVm vm₁) hT hW₁⟩) with ⟨v, vm₁, ⟨U', l2, c2, s2⟩, hW₁, X', ⟨g', mk, t, L, e1, e2, hq, h1, hL, h2, h3⟩, st⟩ | ⟨q, vm₁, ⟨U', l2, c2, s2⟩, hW₁, X', ⟨g', mk, t, L, E, ce, e1, e2, hq, hce, hcv, hcl, h1, hL, h2, h3⟩, st⟩
  · dsimp only [Pt.U, Pt.locs, Pt.cells, Pt.slots] at X' e1 e2 h1 h2 h3 st
    subst h1; subst h2; subst h3
    exact Or.inl ⟨v, (T.setVm vm₁).calling g' mk (Value.ref b :: As).toArray, t, U', L, hT, X', hL, e1, e2, hq, st⟩
  · dsimp only [Pt.U, Pt.locs, Pt.cells, Pt.slots] at X' e1 e2 h1 h2 h3 st hcl
    subst h1; subst h2; subst h3
    exact Or.inr ⟨q, (T.setVm vm₁).calling g' mk (Value.ref b :: As).toArray, t, U', L, E, ce, hT, X', hL, e1, e2, hq, hce, hcv, vx_cls hW₁ hcl, st⟩
theorem vx_runS (S : CallFix p m c cc nL s args Ts own) (hM : vx_Met l y ws rm Pc Qc XC mc ms free) (cw : CallB R s args own index y bytes maxL ret ws rm mc ms n ∧ (Cond.static y).before args s = true) (hp : PreS s H Pc As)
    (hg : g.method = m) (hn : As.length = n) (hsize : g.locals.size = nL) (hstack : g.stack = As.reverse ++ rest) (hW : 2 * g.monitorRoom + (rest.map fun v => v.category).sum ≤ 8) (hdg : decode cc g.pc = .ok (.invokestatic index, 3)) (hf : cells + mc ≤ R.cells ∧ slots + ms ≤ R.slots) :
    vx_Run p l e R s m args below meth c H locs cells slots mc ms g rest (Qc As.toArray) XC free := by
  have hK : vx_Back l R p e below s args y 3 8 (PreOf R mc ms Pc) (PostOf Qc mc ms free) (vx_Post XC mc ms free) := vx_callBack cw.1 hM hp.1
  obtain ⟨⟨-, -, -, -, -, -, hcode, hini, hy, hlen, hl⟩, hstt⟩ := cw
  obtain ⟨hx, hb, hml, ho, -⟩ := S
  intro T hT X
  rcases vx_callS X hx (bytes := bytes) (maxL := maxL) (ret := ret) ho hl hstt hini hcode hy hK hg (hsize.trans hml.symm) (argsL := As) (rest := rest) (fun sig h => hn.trans (hlen sig h)) hstack hW (by rw [hb]; exact hdg)
    (fun vm₁ hW₁ => ⟨hf.1, hf.2, hp.2 (T.setVm vm₁) hT hW₁⟩) with ⟨v, vm₁, ⟨U', l2, c2, s2⟩, hW₁, X', ⟨g', mk, t, L, e1, e2, hq, h1, hL, h2, h3⟩, st⟩ | ⟨q, vm₁, ⟨U', l2, c2, s2⟩, hW₁, X', ⟨g', mk, t, L, E, ce, e1, e2, hq, hce, hcv, hcl, h1, hL, h2, h3⟩, st⟩
  · dsimp only [Pt.U, Pt.locs, Pt.cells, Pt.slots] at X' e1 e2 h1 h2 h3 st
    subst h1; subst h2; subst h3
    exact Or.inl ⟨v, (T.setVm vm₁).calling g' mk As.toArray, t, U', L, hT, X', hL, e1, e2, hq, st⟩
  · dsimp only [Pt.U, Pt.locs, Pt.cells, Pt.slots] at X' e1 e2 h1 h2 h3 st hcl
    subst h1; subst h2; subst h3
    exact Or.inr ⟨q, (T.setVm vm₁).calling g' mk As.toArray, t, U', L, E, ce, hT, X', hL, e1, e2, hq, hce, hcv, vx_cls hW₁ hcl, st⟩
end Runs
section Rows
variable {p : Program} {l : Launch} {e : Env} {R : Room} {s : State} {m : MethodId} {args : Array Value} {below : List Frame} {meth : Method} {c : Code} {H : Heap} {locs : List Loc} {cells slots : Nat} {Q : State → Prop}
variable {mc ms : Nat} {free : Addr → Prop} {A0 A1 : Nat → Prop} {H0 : Heap} {a : Array Value} {pc : Nat} {ls : Array Slot} {st0 rest : List Value}
theorem vx_keep {st₀ t T' : State} {L : List Loc} (h0 : st₀.heap = H) (e1 : T'.heap = t.heap) (hS : va_S A0 H0 H locs) (hA : ∀ q, q < H.size → A1 q → A0 q) (hf : ∀ q, free q → A0 q) (hL : ∀ q ∈ L, free q.base) (hF : va_F A1 st₀ t) :
    H.size ≤ T'.heap.size ∧ (∀ q : Nat, q < H.size → ¬ A1 q → T'.heap[q]? = H[q]?) ∧ va_S A0 H0 T'.heap (locs ++ L) := by
  obtain ⟨hz, hk⟩ := hF
  rw [h0] at hz hk
  exact ⟨by rw [e1]; exact hz, fun q h1 h2 => by rw [e1]; exact hk q h1 h2,
    ⟨Nat.le_trans hS.1 (by rw [e1]; exact hz), fun q h1 h2 => by rw [e1, hk q (Nat.lt_of_lt_of_le h1 hS.1) (fun z => h2 (hA q (Nat.lt_of_lt_of_le h1 hS.1) z))]; exact hS.2.1 q h1 h2, fun q hq => by
      rcases List.mem_append.mp hq with h | h
      · exact hS.2.2 q h
      · exact hf _ (hL q h)⟩⟩
theorem vx_calli {S SX : Type} {post : Int32 → S → Prop} {px : SX → Prop} {B : S → State → Prop} {BX : String → SX → State → Prop} {AX : Nat → Prop} (hr : vx_Run p l e R s m args below meth c H locs cells slots mc ms (F0 m pc ls st0) rest (va_Qi post B A1 a) (vx_X px BX AX) free) (hS : va_S A0 H0 H locs) (hA : ∀ q, q < H.size → A1 q → A0 q) (hf : ∀ q, free q → A0 q) (hAX : ∀ q, q < H.size → AX q → A0 q)
    (kx : ∀ (E : String) (ce : Cell) (q9 : Addr) (u : SX) (t : State) (H1 : Heap) (locs1 : List Loc), t.heap = H1 → s.vm.Alike t.vm → px u → BX E u t → H.size ≤ H1.size → (∀ q : Nat, q < H.size → ¬ AX q → H1[q]? = H[q]?) → va_S A0 H0 H1 locs1 → H1[q9]? = some ce → ce.vm = .none → s.vm.findClass E = some ce.cls → vx_W p l e R s m args below meth c H1 locs1 (cells + mc) (slots + ms) Q (F0 m pc ls rest) q9)
    (kk : ∀ (r : Int32) (u : S) (t : State) (H1 : Heap) (locs1 : List Loc), t.heap = H1 → s.vm.Alike t.vm → post r u → B u t → H.size ≤ H1.size → (∀ q : Nat, q < H.size → ¬ A1 q → H1[q]? = H[q]?) → va_S A0 H0 H1 locs1 → W p l e R s m args below meth c H1 locs1 (cells + mc) (slots + ms) Q (F0 m (pc + 3) ls (.int r :: rest))) : W p l e R s m args below meth c H locs cells slots Q (F0 m pc ls st0) := by
  intro T hT X
  rcases hr T hT X with ⟨v, st₀, t, T', L, h0, X', hL, e1, e2, ⟨⟨r, u, hv, hp, hb⟩, hF⟩, st⟩ | ⟨q, st₀, t, T', L, E, ce, h0, X', hL, e1, e2, ⟨u, hp, hb, hF⟩, hce, hcv, hcl, st⟩
  · cases hv
    obtain ⟨k1, k2, k3⟩ := vx_keep h0 e1 hS hA hf hL hF
    obtain ⟨t2, a1, b1⟩ := kk r u t T'.heap (locs ++ L) e1.symm (by rw [← e2]; exact X'.warmed.alike) hp hb k1 k2 k3 T' rfl X'
    exact ⟨t2, st t2 a1, b1⟩
  · obtain ⟨k1, k2, k3⟩ := vx_keep h0 e1 hS hAX hf hL hF
    obtain ⟨t2, a1, b1⟩ := kx E ce q u t T'.heap (locs ++ L) e1.symm (by rw [← e2]; exact X'.warmed.alike) hp hb k1 k2 k3 (by rw [e1]; exact hce) hcv hcl T' rfl X'
    exact ⟨t2, st.trans a1, b1⟩
theorem vx_calll {S SX : Type} {post : Int64 → S → Prop} {px : SX → Prop} {B : S → State → Prop} {BX : String → SX → State → Prop} {AX : Nat → Prop} (hr : vx_Run p l e R s m args below meth c H locs cells slots mc ms (F0 m pc ls st0) rest (va_Ql post B A1 a) (vx_X px BX AX) free) (hS : va_S A0 H0 H locs) (hA : ∀ q, q < H.size → A1 q → A0 q) (hf : ∀ q, free q → A0 q) (hAX : ∀ q, q < H.size → AX q → A0 q)
    (kx : ∀ (E : String) (ce : Cell) (q9 : Addr) (u : SX) (t : State) (H1 : Heap) (locs1 : List Loc), t.heap = H1 → s.vm.Alike t.vm → px u → BX E u t → H.size ≤ H1.size → (∀ q : Nat, q < H.size → ¬ AX q → H1[q]? = H[q]?) → va_S A0 H0 H1 locs1 → H1[q9]? = some ce → ce.vm = .none → s.vm.findClass E = some ce.cls → vx_W p l e R s m args below meth c H1 locs1 (cells + mc) (slots + ms) Q (F0 m pc ls rest) q9)
    (kk : ∀ (r : Int64) (u : S) (t : State) (H1 : Heap) (locs1 : List Loc), t.heap = H1 → s.vm.Alike t.vm → post r u → B u t → H.size ≤ H1.size → (∀ q : Nat, q < H.size → ¬ A1 q → H1[q]? = H[q]?) → va_S A0 H0 H1 locs1 → W p l e R s m args below meth c H1 locs1 (cells + mc) (slots + ms) Q (F0 m (pc + 3) ls (.long r :: rest))) : W p l e R s m args below meth c H locs cells slots Q (F0 m pc ls st0) := by
  intro T hT X
  rcases hr T hT X with ⟨v, st₀, t, T', L, h0, X', hL, e1, e2, ⟨⟨r, u, hv, hp, hb⟩, hF⟩, st⟩ | ⟨q, st₀, t, T', L, E, ce, h0, X', hL, e1, e2, ⟨u, hp, hb, hF⟩, hce, hcv, hcl, st⟩
  · cases hv
    obtain ⟨k1, k2, k3⟩ := vx_keep h0 e1 hS hA hf hL hF
    obtain ⟨t2, a1, b1⟩ := kk r u t T'.heap (locs ++ L) e1.symm (by rw [← e2]; exact X'.warmed.alike) hp hb k1 k2 k3 T' rfl X'
    exact ⟨t2, st t2 a1, b1⟩
  · obtain ⟨k1, k2, k3⟩ := vx_keep h0 e1 hS hAX hf hL hF
    obtain ⟨t2, a1, b1⟩ := kx E ce q u t T'.heap (locs ++ L) e1.symm (by rw [← e2]; exact X'.warmed.alike) hp hb k1 k2 k3 (by rw [e1]; exact hce) hcv hcl T' rfl X'
    exact ⟨t2, st.trans a1, b1⟩
theorem vx_callf {S SX : Type} {post : UInt32 → S → Prop} {px : SX → Prop} {B : S → State → Prop} {BX : String → SX → State → Prop} {AX : Nat → Prop} (hr : vx_Run p l e R s m args below meth c H locs cells slots mc ms (F0 m pc ls st0) rest (va_Qf post B A1 a) (vx_X px BX AX) free) (hS : va_S A0 H0 H locs) (hA : ∀ q, q < H.size → A1 q → A0 q) (hf : ∀ q, free q → A0 q) (hAX : ∀ q, q < H.size → AX q → A0 q)
    (kx : ∀ (E : String) (ce : Cell) (q9 : Addr) (u : SX) (t : State) (H1 : Heap) (locs1 : List Loc), t.heap = H1 → s.vm.Alike t.vm → px u → BX E u t → H.size ≤ H1.size → (∀ q : Nat, q < H.size → ¬ AX q → H1[q]? = H[q]?) → va_S A0 H0 H1 locs1 → H1[q9]? = some ce → ce.vm = .none → s.vm.findClass E = some ce.cls → vx_W p l e R s m args below meth c H1 locs1 (cells + mc) (slots + ms) Q (F0 m pc ls rest) q9)
    (kk : ∀ (r : UInt32) (u : S) (t : State) (H1 : Heap) (locs1 : List Loc), t.heap = H1 → s.vm.Alike t.vm → post r u → B u t → H.size ≤ H1.size → (∀ q : Nat, q < H.size → ¬ A1 q → H1[q]? = H[q]?) → va_S A0 H0 H1 locs1 → W p l e R s m args below meth c H1 locs1 (cells + mc) (slots + ms) Q (F0 m (pc + 3) ls (.float r :: rest))) : W p l e R s m args below meth c H locs cells slots Q (F0 m pc ls st0) := by
  intro T hT X
  rcases hr T hT X with ⟨v, st₀, t, T', L, h0, X', hL, e1, e2, ⟨⟨r, u, hv, hp, hb⟩, hF⟩, st⟩ | ⟨q, st₀, t, T', L, E, ce, h0, X', hL, e1, e2, ⟨u, hp, hb, hF⟩, hce, hcv, hcl, st⟩
  · cases hv
    obtain ⟨k1, k2, k3⟩ := vx_keep h0 e1 hS hA hf hL hF
    obtain ⟨t2, a1, b1⟩ := kk r u t T'.heap (locs ++ L) e1.symm (by rw [← e2]; exact X'.warmed.alike) hp hb k1 k2 k3 T' rfl X'
    exact ⟨t2, st t2 a1, b1⟩
  · obtain ⟨k1, k2, k3⟩ := vx_keep h0 e1 hS hAX hf hL hF
    obtain ⟨t2, a1, b1⟩ := kx E ce q u t T'.heap (locs ++ L) e1.symm (by rw [← e2]; exact X'.warmed.alike) hp hb k1 k2 k3 (by rw [e1]; exact hce) hcv hcl T' rfl X'
    exact ⟨t2, st.trans a1, b1⟩
theorem vx_calld {S SX : Type} {post : UInt64 → S → Prop} {px : SX → Prop} {B : S → State → Prop} {BX : String → SX → State → Prop} {AX : Nat → Prop} (hr : vx_Run p l e R s m args below meth c H locs cells slots mc ms (F0 m pc ls st0) rest (va_Qd post B A1 a) (vx_X px BX AX) free) (hS : va_S A0 H0 H locs) (hA : ∀ q, q < H.size → A1 q → A0 q) (hf : ∀ q, free q → A0 q) (hAX : ∀ q, q < H.size → AX q → A0 q)
    (kx : ∀ (E : String) (ce : Cell) (q9 : Addr) (u : SX) (t : State) (H1 : Heap) (locs1 : List Loc), t.heap = H1 → s.vm.Alike t.vm → px u → BX E u t → H.size ≤ H1.size → (∀ q : Nat, q < H.size → ¬ AX q → H1[q]? = H[q]?) → va_S A0 H0 H1 locs1 → H1[q9]? = some ce → ce.vm = .none → s.vm.findClass E = some ce.cls → vx_W p l e R s m args below meth c H1 locs1 (cells + mc) (slots + ms) Q (F0 m pc ls rest) q9)
    (kk : ∀ (r : UInt64) (u : S) (t : State) (H1 : Heap) (locs1 : List Loc), t.heap = H1 → s.vm.Alike t.vm → post r u → B u t → H.size ≤ H1.size → (∀ q : Nat, q < H.size → ¬ A1 q → H1[q]? = H[q]?) → va_S A0 H0 H1 locs1 → W p l e R s m args below meth c H1 locs1 (cells + mc) (slots + ms) Q (F0 m (pc + 3) ls (.double r :: rest))) : W p l e R s m args below meth c H locs cells slots Q (F0 m pc ls st0) := by
  intro T hT X
  rcases hr T hT X with ⟨v, st₀, t, T', L, h0, X', hL, e1, e2, ⟨⟨r, u, hv, hp, hb⟩, hF⟩, st⟩ | ⟨q, st₀, t, T', L, E, ce, h0, X', hL, e1, e2, ⟨u, hp, hb, hF⟩, hce, hcv, hcl, st⟩
  · cases hv
    obtain ⟨k1, k2, k3⟩ := vx_keep h0 e1 hS hA hf hL hF
    obtain ⟨t2, a1, b1⟩ := kk r u t T'.heap (locs ++ L) e1.symm (by rw [← e2]; exact X'.warmed.alike) hp hb k1 k2 k3 T' rfl X'
    exact ⟨t2, st t2 a1, b1⟩
  · obtain ⟨k1, k2, k3⟩ := vx_keep h0 e1 hS hAX hf hL hF
    obtain ⟨t2, a1, b1⟩ := kx E ce q u t T'.heap (locs ++ L) e1.symm (by rw [← e2]; exact X'.warmed.alike) hp hb k1 k2 k3 (by rw [e1]; exact hce) hcv hcl T' rfl X'
    exact ⟨t2, st.trans a1, b1⟩
theorem vx_callv {S SX : Type} {post : S → Prop} {px : SX → Prop} {B : S → State → Prop} {BX : String → SX → State → Prop} {AX : Nat → Prop} (hr : vx_Run p l e R s m args below meth c H locs cells slots mc ms (F0 m pc ls st0) rest (va_Qv post B A1 a) (vx_X px BX AX) free) (hS : va_S A0 H0 H locs) (hA : ∀ q, q < H.size → A1 q → A0 q) (hf : ∀ q, free q → A0 q) (hAX : ∀ q, q < H.size → AX q → A0 q)
    (kx : ∀ (E : String) (ce : Cell) (q9 : Addr) (u : SX) (t : State) (H1 : Heap) (locs1 : List Loc), t.heap = H1 → s.vm.Alike t.vm → px u → BX E u t → H.size ≤ H1.size → (∀ q : Nat, q < H.size → ¬ AX q → H1[q]? = H[q]?) → va_S A0 H0 H1 locs1 → H1[q9]? = some ce → ce.vm = .none → s.vm.findClass E = some ce.cls → vx_W p l e R s m args below meth c H1 locs1 (cells + mc) (slots + ms) Q (F0 m pc ls rest) q9)
    (kk : ∀ (u : S) (t : State) (H1 : Heap) (locs1 : List Loc), t.heap = H1 → s.vm.Alike t.vm → post u → B u t → H.size ≤ H1.size → (∀ q : Nat, q < H.size → ¬ A1 q → H1[q]? = H[q]?) → va_S A0 H0 H1 locs1 → W p l e R s m args below meth c H1 locs1 (cells + mc) (slots + ms) Q (F0 m (pc + 3) ls (rest))) : W p l e R s m args below meth c H locs cells slots Q (F0 m pc ls st0) := by
  intro T hT X
  rcases hr T hT X with ⟨v, st₀, t, T', L, h0, X', hL, e1, e2, ⟨⟨u, hv, hp, hb⟩, hF⟩, st⟩ | ⟨q, st₀, t, T', L, E, ce, h0, X', hL, e1, e2, ⟨u, hp, hb, hF⟩, hce, hcv, hcl, st⟩
  · cases hv
    obtain ⟨k1, k2, k3⟩ := vx_keep h0 e1 hS hA hf hL hF
    obtain ⟨t2, a1, b1⟩ := kk u t T'.heap (locs ++ L) e1.symm (by rw [← e2]; exact X'.warmed.alike) hp hb k1 k2 k3 T' rfl X'
    exact ⟨t2, st t2 a1, b1⟩
  · obtain ⟨k1, k2, k3⟩ := vx_keep h0 e1 hS hAX hf hL hF
    obtain ⟨t2, a1, b1⟩ := kx E ce q u t T'.heap (locs ++ L) e1.symm (by rw [← e2]; exact X'.warmed.alike) hp hb k1 k2 k3 (by rw [e1]; exact hce) hcv hcl T' rfl X'
    exact ⟨t2, st.trans a1, b1⟩
/-- caught by the row x of this method's table; the rows ahead don't take it -/
theorem vx_catch {own name : String} {E : String} {ce : Cell} {q : Addr} (hown : s.vm.findClass own = some m.cls) (pre : List ExceptionTableEntry) (x : ExceptionTableEntry) (suf : List ExceptionTableEntry) (hsplit : c.exceptionTable.toList = pre ++ x :: suf)
    (hpass : ∀ z ∈ pre, covers z pc = false ∨ (z.catchType ≠ 0 ∧ ∃ nm : String, (Cond.classLink own z.catchType nm).before args s = true ∧ va_Nc E nm s)) (hx : covers x pc = true) (h0 : x.catchType ≠ 0)
    (hlink : (Cond.classLink own x.catchType name).before args s = true) (hcast : (Cond.castable E name).before args s = true) (hcell : H[q]? = some ce) (hv : ce.vm = .none) (hcl : s.vm.findClass E = some ce.cls)
    (kk : W p l e R s m args below meth c H locs cells slots Q (F0 m x.handlerPc ls [.ref q])) : vx_W p l e R s m args below meth c H locs cells slots Q (F0 m pc ls rest) q := by
  intro T hT X
  have hpl : e.platform.magicAccessors = ({} : Platform).magicAccessors := by rw [X.admits.platform]
  obtain ⟨c3, c4, hc3, hc4, hasg⟩ := Cond.castable_spec hcast
  cases Option.some.inj (hc3.symm.trans hcl)
  obtain ⟨c5, hc5, hcl5⟩ := Cond.classLink_spec hown hlink e.platform hpl
  cases Option.some.inj (hc4.symm.trans hc5)
  obtain ⟨vm', X', st⟩ := X.thenCaughtThrough q (g := F0 m pc ls rest) rfl (Steps.refl _) (by rw [hT]; exact hcell) (by rw [hv]; rfl) (by obtain ⟨k9, h9, -⟩ := Vm.findClass_spec hcl; exact ⟨k9, h9⟩) pre x suf hsplit
    (fun z hz => by
      rcases hpass z hz with h | ⟨hz0, nm, hl1, hn1⟩
      · exact Or.inl h
      · obtain ⟨c6, hc6, hcl6⟩ := Cond.classLink_spec hown hl1 e.platform hpl
        obtain ⟨a8, b8, h1, h2, h3⟩ := hn1
        cases Option.some.inj (h1.symm.trans hcl)
        cases Option.some.inj (h2.symm.trans hc6)
        exact Or.inr ⟨hz0, _, hcl6, h3⟩) hx (Or.inr ⟨h0, c4, hcl5, hasg⟩)
  obtain ⟨t, a1, b1⟩ := kk (T.setVm vm') hT X'
  exact ⟨t, st.trans a1, b1⟩
end Rows
section Ends
variable {p : Program} {l : Launch} {e : Env} {R : Room} {s : State} {m : MethodId} {args : Array Value} {below : List Frame} {meth : Method} {c : Code} {H : Heap} {locs : List Loc} {cells slots : Nat} {Q : State → Prop}
variable {mc ms : Nat} {free : Addr → Prop} {A0 A1 : Nat → Prop} {H0 : Heap} {a : Array Value} {ls : Array Slot} {st0 rest : List Value}
variable {Qc : Array Value → State → Outcome → State → Prop} {XC : String → State → State → Prop}
/-- what a body that may throw owes at its end -/
def vx_MQ (below : List Frame) (Qc : Array Value → State → Outcome → State → Prop) (XC : String → State → State → Prop) (a : Array Value) (s : State) (mc ms : Nat) (free : Addr → Prop) : State → Prop := fun t =>
  ∃ o, t.status = .running ∧ Ended t below o ∧ vx_Q Qc XC mc ms free a s o t
theorem vx_ret {g : JFrame} {mc ms : Nat} (k : W p l e R s m args below meth c H locs cells slots (MQ below Qc args s mc ms free) g) : W p l e R s m args below meth c H locs cells slots (vx_MQ below Qc XC args s mc ms free) g := by
  intro T hT X
  obtain ⟨t, a1, o, b1, b2, b3, b4⟩ := k T hT X
  exact ⟨t, a1, o, b1, b2, Or.inl ⟨b3, b4⟩⟩
/-- not caught here: it goes on to the caller -/
theorem vx_widen {g : JFrame} {q : Addr} {k n : Nat} (h1 : cells ≤ k) (h2 : slots ≤ n) (kk : vx_W p l e R s m args below meth c H locs k n Q g q) : vx_W p l e R s m args below meth c H locs cells slots Q g q := fun T hT X => kk T hT (stand_widen X h1 h2)
theorem vx_out {pc : Nat} {E : String} {ce : Cell} {q : Addr} {mc ms : Nat} (hout : ∀ x ∈ c.exceptionTable.toList, covers x pc = false) (hlocks : meth.locks = false) (hcell : H[q]? = some ce) (hv : ce.vm = .none) (hcl : s.vm.findClass E = some ce.cls)
    (hx : ∀ t : State, t.heap = H → s.vm.Alike t.vm → XC E s t) (hf : ∀ z ∈ locs, free z.base) (hc : cells ≤ mc) (hs : slots ≤ ms) :
    vx_W p l e R s m args below meth c H locs cells slots (vx_MQ below Qc XC args s mc ms free) (F0 m pc ls rest) q := by
  intro T hT X
  obtain ⟨st1, hrun, hend, hW, hsm⟩ := X.leaveThrown q (g := F0 m pc ls rest) rfl rfl rfl hout hlocks
  have hcell9 : (T.setFrames (.throwing q :: below)).heap[q]? = some ce := by
    show T.heap[q]? = some ce
    rw [hT]; exact hcell
  exact ⟨_, st1, .threw q, hrun, hend, Or.inr ⟨q, rfl, E, ce, locs, hx _ hT hW.alike, hcell9, hv, hcl, hW, hsm.mono hc hs, hf⟩⟩
theorem vx_frame {U : State} {k n : Nat} (h : s.sameButNew ({ U with vm := s.vm } : State) locs k n) : s.heap.size ≤ U.heap.size ∧ ∀ q : Nat, q < s.heap.size → (∀ z ∈ locs, z.base ≠ q) → U.heap[q]? = s.heap[q]? := by
  obtain ⟨-, h2, -, -, -, h6⟩ := h
  refine ⟨h2, fun q hq hz => ?_⟩
  obtain ⟨c9, e1, e2, e3, e4⟩ := h6 q _ (Array.getElem?_eq_getElem hq)
  have hs : c9.slots = (s.heap[q]).slots := Array.ext_getElem? fun i => e4 i fun hm => hz _ hm rfl
  have h9 : c9 = s.heap[q] := by
    rw [hs] at e2
    exact e2
  have e5 : U.heap[q]? = some c9 := e1
  rw [e5, h9, Array.getElem?_eq_getElem hq]
/-- the words of a throw but the four that speak of the heap -/
def vx_no (w : Cond) : Bool := decide (w ≠ .isRef (.static Bundle.tN "UNASSIGNED_STACK" Bundle.steD)) && decide (w ≠ .isRef (.static Bundle.tN "SUPPRESSED_SENTINEL" Bundle.listD)) && decide (w ≠ .laysStatic Bundle.tN "UNASSIGNED_STACK" Bundle.steD) && decide (w ≠ .laysStatic Bundle.tN "SUPPRESSED_SENTINEL" Bundle.listD)
def vx_at0 (own : String) (ic : Nat) (X : String) (names : List String) : List Cond := (Bundle.ownAtoms0 own ic X names).filter vx_no
def vx_atS (own : String) (ic : Nat) (X : String) (names : List String) : List Cond := (Bundle.ownAtoms own ic X names).filter vx_no
/-- a word that the tables alone decide, or a good one -/
def vx_ot (w : Cond) : Bool := w.onTables || goodWord w
theorem vx_ot_at {args a' : Array Value} {s U : State} {w : Cond} (hW : s.WarmedH U.vm) (hvm : s.vm = U.vm) (hg : vx_ot w = true) (h : w.before args s = true) : w.before a' U = true := by
  simp only [vx_ot, Bool.or_eq_true] at hg
  rcases hg with hg | hg
  · exact va_tabs hg hvm h
  · exact word_at hW (good_of_word hg) h
/-- a list's words: the good ones out of the method's own list, the others by premises of their own -/
theorem vx_hat {args : Array Value} {s : State} {L B : List Cond} (h1 : ∀ w ∈ L.filter goodWord, w.before args s = true) (h2 : ∀ w ∈ L.filter (fun w => !goodWord w), w ∈ B) (h3 : ∀ w ∈ B, w.before args s = true) : ∀ w ∈ L, w.before args s = true := by
  intro w hw
  by_cases g : goodWord w = true
  · exact h1 w (List.mem_filter.mpr ⟨hw, g⟩)
  · refine h3 w (h2 w (List.mem_filter.mpr ⟨hw, ?_⟩))
    show (!goodWord w) = true
    cases hgw : goodWord w
    · rfl
    · exact absurd hgw g
theorem vx_c {args : Array Value} {s : State} {w : Cond} {B : List Cond} (h : w.before args s = true) (t : ∀ w ∈ B, w.before args s = true) : ∀ w' ∈ w :: B, w'.before args s = true := fun w' h' => (List.mem_cons.mp h').elim (fun e => by rw [e]; exact h) (t w')
theorem vx_n {args : Array Value} {s : State} : ∀ w ∈ ([] : List Cond), w.before args s = true := fun _ h => nomatch h
theorem vx_own {args : Array Value} {s : State} {L : List Cond} (h1 : ∀ w ∈ L.filter vx_no, w.before args s = true)
    (hU : (Cond.isRef (.static Bundle.tN "UNASSIGNED_STACK" Bundle.steD)).before args s = true) (hN : (Cond.isRef (.static Bundle.tN "SUPPRESSED_SENTINEL" Bundle.listD)).before args s = true)
    (lU : (Cond.laysStatic Bundle.tN "UNASSIGNED_STACK" Bundle.steD).before args s = true) (lN : (Cond.laysStatic Bundle.tN "SUPPRESSED_SENTINEL" Bundle.listD).before args s = true) : ∀ w ∈ L, w.before args s = true := by
  intro w hw
  by_cases e1 : w = .isRef (.static Bundle.tN "UNASSIGNED_STACK" Bundle.steD)
  · rw [e1]; exact hU
  · by_cases e2 : w = .isRef (.static Bundle.tN "SUPPRESSED_SENTINEL" Bundle.listD)
    · rw [e2]; exact hN
    · by_cases e3 : w = .laysStatic Bundle.tN "UNASSIGNED_STACK" Bundle.steD
      · rw [e3]; exact lU
      · by_cases e4 : w = .laysStatic Bundle.tN "SUPPRESSED_SENTINEL" Bundle.listD
        · rw [e4]; exact lN
        · exact h1 w (List.mem_filter.mpr ⟨hw, by unfold vx_no; rw [decide_eq_true e1, decide_eq_true e2, decide_eq_true e3, decide_eq_true e4]; rfl⟩)
/-- where a static field lies, its class's statics cell in H -/
def vx_L (C n d : String) (A : Nat → Prop) (U : State) (H : Heap) : Prop := ∃ (c : ClassId) (k : Class) (i : Nat) (f : Field) (a : Nat) (cell : Cell), U.vm.findClass C = some c ∧ U.fieldFound? C n d = some (c, k, i, f) ∧ f.isStatic = true ∧ k.statics = some a ∧ H[a]? = some cell ∧ cell.vm.isStatics = true ∧ cell.cls = c ∧ f.slot < cell.slots.size ∧ k.staticTypes[f.slot]? = some f.type ∧ ¬ A a
theorem vx_L.moved {C n d : String} {A : Nat → Prop} {u U : State} {H : Heap} (hvm : u.vm.Alike U.vm) (h : vx_L C n d A u H) : vx_L C n d A U H := by
  obtain ⟨c, k, i, f, a, cell, h1, h2, h3, h4, h5, h6, h7, h8, h9, h10⟩ := h
  obtain ⟨k', hi', he⟩ := State.fieldFound?_setVm hvm h2
  exact ⟨c, k', i, f, a, cell, by rw [hvm.findClass]; exact h1, hi', h3, by rw [he]; exact h4, h5, h6, h7, h8, by rw [he]; exact h9, h10⟩
theorem vx_L.kept {C n d : String} {A : Nat → Prop} {U : State} {H H1 : Heap} (h : vx_L C n d A U H) (hq : ∀ a : Nat, a < H.size → ¬ A a → H1[a]? = H[a]?) : vx_L C n d A U H1 := by
  obtain ⟨c, k, i, f, a, cell, h1, h2, h3, h4, h5, h6, h7, h8, h9, h10⟩ := h
  exact ⟨c, k, i, f, a, cell, h1, h2, h3, h4, by rw [hq a (Array.getElem?_eq_some_iff.mp h5).1 h10]; exact h5, h6, h7, h8, h9, h10⟩
theorem vx_L.narrow {C n d : String} {A B : Nat → Prop} {U : State} {H : Heap} (h : vx_L C n d A U H) (hAB : ∀ q, B q → A q) : vx_L C n d B U H := by
  obtain ⟨c, k, i, f, a, cell, h1, h2, h3, h4, h5, h6, h7, h8, h9, h10⟩ := h
  exact ⟨c, k, i, f, a, cell, h1, h2, h3, h4, h5, h6, h7, h8, h9, fun z => h10 (hAB _ z)⟩
theorem vx_L.word {C n d : String} {A : Nat → Prop} {s : State} {args : Array Value} (h : vx_L C n d A s s.heap) : (Cond.laysStatic C n d).before args s = true := by
  obtain ⟨c, k, i, f, a, cell, h1, h2, h3, h4, h5, h6, h7, h8, h9, -⟩ := h
  show (Cond.laysStatic C n d).holds args s none s [] = true
  exact Cond.laysStatic_of h1 h2 h3 h4 h5 h6 h7 h8 h9
/-- .. and what it holds: null or some reference -/
def vx_Zq (C n d : String) (A : Nat → Prop) (U : State) (H : Heap) : Prop := va_Zq C n d A U H ∧ vx_L C n d A U H
theorem vx_Zq.moved {C n d : String} {A : Nat → Prop} {u U : State} {H : Heap} (hvm : u.vm.Alike U.vm) (h : vx_Zq C n d A u H) : vx_Zq C n d A U H := ⟨va_Zq.moved hvm h.1, vx_L.moved hvm h.2⟩
theorem vx_Zq.kept {C n d : String} {A : Nat → Prop} {U : State} {H H1 : Heap} (h : vx_Zq C n d A U H) (hq : ∀ a : Nat, a < H.size → ¬ A a → H1[a]? = H[a]?) : vx_Zq C n d A U H1 := ⟨va_Zq.kept h.1 hq, vx_L.kept h.2 hq⟩
theorem vx_Zq.narrow {C n d : String} {A B : Nat → Prop} {U : State} {H : Heap} (h : vx_Zq C n d A U H) (hAB : ∀ q, B q → A q) : vx_Zq C n d B U H := ⟨va_Zq.narrow h.1 hAB, vx_L.narrow h.2 hAB⟩
theorem vx_Zqof {args : Array Value} {s : State} {C n d : String} {A : Nat → Prop} (hl : (Cond.laysStatic C n d).before args s = true) (hini : (Cond.initialized C).before args s = true) (h : (Cond.isRef (.static C n d)).before args s = true) (hA : ∀ a : Nat, a < s.heap.size → ¬ A a) : vx_Zq C n d A s s.heap := by
  refine ⟨va_Zqof hl hini h hA, ?_⟩
  obtain ⟨c, k, i, f, a, cell, h1, h2, h3, h4, h5, h6, h7, h8, h9⟩ := Cond.laysStatic_spec hl
  exact ⟨c, k, i, f, a, cell, h1, h2, h3, h4, h5, h6, h7, h8, h9, hA a (Array.getElem?_eq_some_iff.mp h5).1⟩
theorem vx_isRef {C n d : String} {v : Value} {A : Nat → Prop} {s : State} {args : Array Value} (h : va_Z C n d v A s s.heap) (hv : v.isRef = true) : (Cond.isRef (.static C n d)).before args s = true := by
  obtain ⟨cf, kf, fi, f, a, cell, h1, h2, h3, h4, h5, h6, h7, -⟩ := h
  have he : (Term.static C n d).eval args s none [] s = some v := by
    simp [Term.eval, State.fieldNamed?, h1, h2, h4, h5, h6, h7]
  simp only [Cond.before, Cond.holds, Cond.value, he]
  cases v <;> simp_all [Value.isRef]
theorem vx_isRefq {C n d : String} {A : Nat → Prop} {s : State} {args : Array Value} (h : va_Zq C n d A s s.heap) : (Cond.isRef (.static C n d)).before args s = true := by
  rcases h with h | ⟨t, h⟩
  · exact vx_isRef h rfl
  · exact vx_isRef h rfl
/-- the same frame, seen from here: as if the method were called anew in this heap -/
theorem vx_rebase {T : State} (X : Stand p l e R s m args below meth c T locs cells slots) {R' : Room} (hf : R'.frames ≤ R.frames) (hl : R'.locals ≤ R.locals) (hc : cells + R'.cells ≤ R.cells) (hs : slots + R'.slots ≤ R.slots) :
    Stand p l e R' ((T.setVm s.vm).setFrames (.invoking m args :: below)) m args below meth c T [] 0 0 := by
  have htop : (T.setVm s.vm).topJava?.isSome := X.here.top
  have hF : ((T.setVm s.vm).setFrames (.invoking m args :: below)).frames = .invoking m args :: below := State.frames_setFrames _ (State.cur_lt_of_top htop)
  obtain ⟨g₀, hg0⟩ := Option.isSome_iff_exists.mp htop
  obtain ⟨r, hr⟩ := State.topJava?_eq_some.mp hg0
  have hl9 : e.platform.stackLimits (T.setVm s.vm).me = e.platform.stackLimits s.me := X.limits
  have hb9 : (T.setVm s.vm).me.stackBytes = s.me.stackBytes := X.bytes
  refine ⟨X.admits, X.cas, X.clock, hF, ?_, X.hears, X.method, X.code, X.here, X.tail, X.warmed, ?_, ?_, ?_⟩
  · have h := X.room
    have hU : ((T.setVm s.vm).setFrames (.invoking m args :: below)).localsInUse = s.localsInUse := by
      rw [State.localsInUse_invoking hF (meth := meth) (c := c) X.method X.code, State.localsInUse_invoking X.frames X.method X.code]
    simp only [State.hasRoom, Bool.and_eq_true, decide_eq_true_eq] at h ⊢
    obtain ⟨⟨⟨⟨h1, h2, h3, h4, h5, h6⟩, h7⟩, h8⟩, h9⟩ := h
    rw [X.frames, List.length_cons] at h2 h3
    have q1 := X.heapSize
    have q2 := X.used
    simp only [hF, hU, List.length_cons, State.stackLimits_setFrames, State.stackBytes_setFrames, hl9, hb9]
    refine ⟨⟨⟨⟨by omega, by omega, by omega, by omega, by omega, h6⟩, ?_⟩, ?_⟩, X.book⟩
    · show T.heap.size + R'.cells ≤ e.platform.maxCells
      omega
    · show T.slotsUsed + R'.slots ≤ e.platform.maxSlots
      omega
  · rw [State.stackLimits_setFrames]; rfl
  · rw [State.stackBytes_setFrames]; rfl
  · refine ⟨?_, Nat.le_refl _, Nat.le_refl _, ?_, ?_, fun a c9 h9 => ⟨c9, h9, rfl, rfl, fun _ _ => rfl⟩⟩
    · obtain ⟨t, ht, -⟩ := State.frames_cons hr
      show T.setVm s.vm = { ((T.setVm s.vm).setFrames (.invoking m args :: below)).setFrames (T.setVm s.vm).frames with heap := T.heap, slotsUsed := T.slotsUsed }
      rw [State.setFrames_setFrames, State.setFrames_self ht]
      rfl
    · show T.slotsUsed = T.slotsUsed + ((T.heap.toList.drop T.heap.size).map (·.slots.size)).sum
      rw [List.drop_eq_nil_of_le (Nat.le_of_eq Array.length_toList)]
      rfl
    · show ((T.heap.toList.drop T.heap.size).map (·.slots.size)).sum ≤ 0
      rw [List.drop_eq_nil_of_le (Nat.le_of_eq Array.length_toList)]
      exact Nat.le_refl _
/-- 'throw new E()': new; dup; invokespecial; athrow -/
theorem vx_throw0 {cc : ByteArray} {pc : Nat} (hexec : p.tables.exec = Jvm.exec) (hb : c.code = cc) (hl : l.stackTraces = false) {own cls : String} {names : List String} {ik ic mc ms : Nat} {A : Nat → Prop}
    (hown : s.vm.findClass own = some m.cls) (hcls : Bundle.fit cls = true) (hnames : ∀ n ∈ names, Bundle.fit n = true)
    (hk : (Cond.classLink own ik cls).before args s = true) (hini : (Cond.initialized cls).before args s = true) (hat : ∀ w ∈ vx_at0 own ic cls names, w.before args s = true)
    (hgood : ∀ w ∈ Cond.classLink own ik cls :: Cond.initialized cls :: vx_at0 own ic cls names, vx_ot w = true)
    (hU : vx_Zq Bundle.tN "UNASSIGNED_STACK" Bundle.steD A s s.heap) (hN : vx_Zq Bundle.tN "SUPPRESSED_SENTINEL" Bundle.listD A s s.heap) (hS : va_S A s.heap H locs) (hsize : ls.size = c.maxLocals)
    (d0 : decode cc pc = .ok (.new ik, 3)) (d3 : decode cc (pc + 3) = .ok (.dup, 1)) (d4 : decode cc (pc + 4) = .ok (.invokespecial ic, 3)) (d7 : decode cc (pc + 7) = .ok (.athrow, 1))
    (hout : ∀ x ∈ c.exceptionTable.toList, covers x (pc + 7) = false)
    (hRframes : names.length + 3 < R.frames) (hRlocals : (rest.map fun v => v.category).sum + (13 * (names.length + 1) + 42) ≤ R.locals) (hRcells : cells + 1 ≤ R.cells) (hRslots : slots + 6 ≤ R.slots) (hlocks : meth.locks = false)
    (hx : ∀ t : State, s.vm.Alike t.vm → H.size ≤ t.heap.size → (∀ q : Nat, q < H.size → t.heap[q]? = H[q]?) → XC cls s t)
    (hf : ∀ z ∈ locs, free z.base) (hc : cells + 1 ≤ mc) (hs : slots + 6 ≤ ms) :
    W p l e R s m args below meth c H locs cells slots (vx_MQ below Qc XC args s mc ms free) (F0 m pc ls rest) := by
  intro T hT X
  have htr : e.platform.stackTraces = false := (show e.platform.stackTraces = l.stackTraces by rw [X.admits.platform]).trans hl
  have Y := vx_rebase X (R' := { frames := R.frames, locals := R.locals, cells := 1, slots := 6 }) (Nat.le_refl _) (Nat.le_refl _) hRcells hRslots
  obtain ⟨s', hA⟩ : ∃ z, z = (T.setVm s.vm).setFrames (.invoking m args :: below) := ⟨_, rfl⟩
  rw [← hA] at Y
  have hvm : s'.vm = s.vm := by rw [hA]; rfl
  have hhp : s'.heap = H := by rw [hA]; exact hT
  have hW0 : s.WarmedH s'.vm := by rw [hvm]; exact State.WarmedH.refl s
  have hat' : ∀ w ∈ vx_at0 own ic cls names, w.before args s' = true := fun w hw => vx_ot_at hW0 hvm.symm (hgood w (List.mem_cons_of_mem _ (List.mem_cons_of_mem _ hw))) (hat w hw)
  have hk' : (Cond.classLink own ik cls).before args s' = true := vx_ot_at hW0 hvm.symm (hgood _ List.mem_cons_self) hk
  have hini' : (Cond.initialized cls).before args s' = true := vx_ot_at hW0 hvm.symm (hgood _ (List.mem_cons_of_mem _ List.mem_cons_self)) hini
  have hU' : vx_Zq Bundle.tN "UNASSIGNED_STACK" Bundle.steD A s' s'.heap := by rw [hhp]; exact vx_Zq.moved hW0.alike (hU.kept hS.2.1)
  have hN' : vx_Zq Bundle.tN "SUPPRESSED_SENTINEL" Bundle.listD A s' s'.heap := by rw [hhp]; exact vx_Zq.moved hW0.alike (hN.kept hS.2.1)
  have h : ∀ w ∈ Bundle.ownAtoms0 own ic cls names, w.before args s' = true := vx_own hat' (vx_isRefq hU'.1) (vx_isRefq hN'.1) hU'.2.word hN'.2.word
  have hown' : s'.vm.findClass own = some m.cls := by rw [hvm]; exact hown
  have hins : (Cond.instantiable cls 6).before args s' = true := h _ (by simp [Bundle.ownAtoms0])
  obtain ⟨vm₁, cX, kX, hfX, hkX, -, -, X₁, st1⟩ := Y.newCold hexec (own := own) (C := cls) (index := ik) (n := 6) hown' hk' hins hini'
    (g := F0 m pc ls rest) rfl (by rw [hb]; exact d0) (Nat.le_refl _) (Nat.le_refl _)
  generalize hT1 : (T.setVm vm₁).pushCell { cls := cX, slots := kX.instanceTypes.map defaultValue, vm := .none } = T1 at X₁ st1
  have hcat : (Value.ref T.heap.size).category = 1 := rfl
  have hcellA : T1.heap[T.heap.size]? = some (freshCell cX kX) := by rw [← hT1]; exact State.heap_pushCell_size _ _
  have d3' : decode c.code (pc + 3) = .ok (.dup, 1) := by rw [hb]; exact d3
  obtain ⟨U, hsteps, hrun, hend, hW, hsame, ce, hce, hO⟩ := X₁.ctorThrow0 hexec htr (own := own) (cls := cls) (names := names) (ic := ic) hown' hcls hnames h (fun x hx => nomatch hx) hfX hkX hcellA (by rw [hhp, hT]; exact Nat.le_refl _)
    (g := { method := m, pc := pc + 4, locals := ls, stack := .ref T.heap.size :: .ref T.heap.size :: rest, locked := none }) rfl hsize rfl rfl (rest := rest) rfl
    (by rw [hb]; exact d4) (by rw [hb]; exact d7) hout hRframes (by simp only [List.map_cons, List.sum_cons, hcat]; omega) hlocks
  obtain ⟨f1, f2⟩ := vx_frame hsame
  rw [hhp] at f1 f2
  have hWs : s.WarmedH U.vm := State.WarmedH.trans hW0 hW
  have hcl : s.vm.findClass cls = some ce.cls := by
    have h9 := hO.cls
    rw [hvm] at h9
    exact h9
  have hall : s.sameButNew ({ U with vm := s.vm } : State) locs mc ms := by
    subst hA
    obtain ⟨e1, e2⟩ := hsame
    rw [State.setFrames_setFrames] at e1
    have h2 : (T.setVm s.vm).sameButNew ({ U with vm := s.vm } : State) [] (0 + 1) (0 + 6) := ⟨e1, e2⟩
    have h3 := X.same.trans h2
    rw [List.append_nil] at h3
    exact h3.mono hc hs
  refine ⟨U, ?_, .threw T.heap.size, hrun, hend, Or.inr ⟨T.heap.size, rfl, cls, ce, locs, hx U hWs.alike f1 (fun q hq => f2 q hq (fun z hz => nomatch hz)), hce, hO.vm, hcl, hWs, hall, hf⟩⟩
  refine st1 _ ?_
  show Steps p.tables e below (T1.setTop { method := m, pc := pc + 3, locals := ls, stack := .ref T.heap.size :: rest, locked := none }) _
  jvm_step X₁.here [X₁.here.top, hexec, d3', Value.category]
  exact hsteps
/-- 'throw new E("text")': new; dup; ldc; invokespecial; athrow -/
theorem vx_throwS {cc : ByteArray} {pc : Nat} (hexec : p.tables.exec = Jvm.exec) (hb : c.code = cc) (hl : l.stackTraces = false) {own cls text : String} {names : List String} {ik is ic mc ms sa : Nat} {A : Nat → Prop}
    (hown : s.vm.findClass own = some m.cls) (hcls : Bundle.fit cls = true) (hnames : ∀ n ∈ names, Bundle.fit n = true)
    (hk : (Cond.classLink own ik cls).before args s = true) (hini : (Cond.initialized cls).before args s = true) (hstr : vk_R own is text sa s) (hat : ∀ w ∈ vx_atS own ic cls names, w.before args s = true)
    (hgood : ∀ w ∈ Cond.classLink own ik cls :: Cond.initialized cls :: vx_atS own ic cls names, vx_ot w = true)
    (hU : vx_Zq Bundle.tN "UNASSIGNED_STACK" Bundle.steD A s s.heap) (hN : vx_Zq Bundle.tN "SUPPRESSED_SENTINEL" Bundle.listD A s s.heap) (hS : va_S A s.heap H locs) (hsize : ls.size = c.maxLocals)
    (d0 : decode cc pc = .ok (.new ik, 3)) (d3 : decode cc (pc + 3) = .ok (.dup, 1)) (d4 : decode cc (pc + 4) = .ok (.ldc is, 2)) (d6 : decode cc (pc + 6) = .ok (.invokespecial ic, 3)) (d9 : decode cc (pc + 9) = .ok (.athrow, 1))
    (hout : ∀ x ∈ c.exceptionTable.toList, covers x (pc + 9) = false)
    (hRframes : names.length + 3 < R.frames) (hRlocals : (rest.map fun v => v.category).sum + (13 * (names.length + 1) + 43) ≤ R.locals) (hRcells : cells + 1 ≤ R.cells) (hRslots : slots + 6 ≤ R.slots) (hlocks : meth.locks = false)
    (hx : ∀ t : State, s.vm.Alike t.vm → H.size ≤ t.heap.size → (∀ q : Nat, q < H.size → t.heap[q]? = H[q]?) → XC cls s t)
    (hf : ∀ z ∈ locs, free z.base) (hc : cells + 1 ≤ mc) (hs : slots + 6 ≤ ms) :
    W p l e R s m args below meth c H locs cells slots (vx_MQ below Qc XC args s mc ms free) (F0 m pc ls rest) := by
  intro T hT X
  have htr : e.platform.stackTraces = false := (show e.platform.stackTraces = l.stackTraces by rw [X.admits.platform]).trans hl
  have Y := vx_rebase X (R' := { frames := R.frames, locals := R.locals, cells := 1, slots := 6 }) (Nat.le_refl _) (Nat.le_refl _) hRcells hRslots
  obtain ⟨s', hA⟩ : ∃ z, z = (T.setVm s.vm).setFrames (.invoking m args :: below) := ⟨_, rfl⟩
  rw [← hA] at Y
  have hvm : s'.vm = s.vm := by rw [hA]; rfl
  have hhp : s'.heap = H := by rw [hA]; exact hT
  have hW0 : s.WarmedH s'.vm := by rw [hvm]; exact State.WarmedH.refl s
  have hat' : ∀ w ∈ vx_atS own ic cls names, w.before args s' = true := fun w hw => vx_ot_at hW0 hvm.symm (hgood w (List.mem_cons_of_mem _ (List.mem_cons_of_mem _ hw))) (hat w hw)
  have hk' : (Cond.classLink own ik cls).before args s' = true := vx_ot_at hW0 hvm.symm (hgood _ List.mem_cons_self) hk
  have hini' : (Cond.initialized cls).before args s' = true := vx_ot_at hW0 hvm.symm (hgood _ (List.mem_cons_of_mem _ List.mem_cons_self)) hini
  have hU' : vx_Zq Bundle.tN "UNASSIGNED_STACK" Bundle.steD A s' s'.heap := by rw [hhp]; exact vx_Zq.moved hW0.alike (hU.kept hS.2.1)
  have hN' : vx_Zq Bundle.tN "SUPPRESSED_SENTINEL" Bundle.listD A s' s'.heap := by rw [hhp]; exact vx_Zq.moved hW0.alike (hN.kept hS.2.1)
  have h : ∀ w ∈ Bundle.ownAtoms own ic cls names, w.before args s' = true := vx_own hat' (vx_isRefq hU'.1) (vx_isRefq hN'.1) hU'.2.word hN'.2.word
  have hown' : s'.vm.findClass own = some m.cls := by rw [hvm]; exact hown
  have hins : (Cond.instantiable cls 6).before args s' = true := h _ (by simp [Bundle.ownAtoms])
  obtain ⟨vm₁, cX, kX, hfX, hkX, -, -, X₁, st1⟩ := Y.newCold hexec (own := own) (C := cls) (index := ik) (n := 6) hown' hk' hins hini'
    (g := F0 m pc ls rest) rfl (by rw [hb]; exact d0) (Nat.le_refl _) (Nat.le_refl _)
  generalize hT1 : (T.setVm vm₁).pushCell { cls := cX, slots := kX.instanceTypes.map defaultValue, vm := .none } = T1 at X₁ st1
  have hcat : (Value.ref T.heap.size).category = 1 := rfl
  have hcellA : T1.heap[T.heap.size]? = some (freshCell cX kX) := by rw [← hT1]; exact State.heap_pushCell_size _ _
  have d3' : decode c.code (pc + 3) = .ok (.dup, 1) := by rw [hb]; exact d3
  have d4' : decode c.code (pc + 4) = .ok (.ldc is, 2) := by rw [hb]; exact d4
  have hstr' : vk_R own is text sa s' := vk_R.warm hW0 hstr
  obtain ⟨U, hsteps, hrun, hend, hW, hsame, ce, hce, hO⟩ := X₁.ctorThrowS hexec htr (own := own) (cls := cls) (names := names) (ic := ic) hown' hcls hnames h (fun x hx => nomatch hx) hfX hkX hcellA (by rw [hhp, hT]; exact Nat.le_refl _) (msg := .ref sa) rfl
    (g := { method := m, pc := pc + 6, locals := ls, stack := .ref sa :: .ref T.heap.size :: .ref T.heap.size :: rest, locked := none }) rfl hsize rfl rfl (rest := rest) rfl
    (by rw [hb]; exact d6) (by rw [hb]; exact d9) hout hRframes (by simp only [List.map_cons, List.sum_cons, hcat]; omega) hlocks
  obtain ⟨f1, f2⟩ := vx_frame hsame
  rw [hhp] at f1 f2
  have hWs : s.WarmedH U.vm := State.WarmedH.trans hW0 hW
  have hcl : s.vm.findClass cls = some ce.cls := by
    have h9 := hO.cls
    rw [hvm] at h9
    exact h9
  have hall : s.sameButNew ({ U with vm := s.vm } : State) locs mc ms := by
    subst hA
    obtain ⟨e1, e2⟩ := hsame
    rw [State.setFrames_setFrames] at e1
    have h2 : (T.setVm s.vm).sameButNew ({ U with vm := s.vm } : State) [] (0 + 1) (0 + 6) := ⟨e1, e2⟩
    have h3 := X.same.trans h2
    rw [List.append_nil] at h3
    exact h3.mono hc hs
  refine ⟨U, ?_, .threw T.heap.size, hrun, hend, Or.inr ⟨T.heap.size, rfl, cls, ce, locs, hx U hWs.alike f1 (fun q hq => f2 q hq (fun z hz => nomatch hz)), hce, hO.vm, hcl, hWs, hall, hf⟩⟩
  refine st1 _ ?_
  show Steps p.tables e below (T1.setTop { method := m, pc := pc + 3, locals := ls, stack := .ref T.heap.size :: rest, locked := none }) _
  jvm_step X₁.here [X₁.here.top, hexec, d3', Value.category]
  exact X₁.ldcString hexec (own := own) (text := text) (index := is) (a := sa) hown' hstr'.1 hstr'.2
    (g := { method := m, pc := pc + 4, locals := ls, stack := .ref T.heap.size :: .ref T.heap.size :: rest, locked := none }) rfl d4' _ hsteps
/-- 'throw new E("text")', the text by a wide index -/
theorem vx_throwSW {cc : ByteArray} {pc : Nat} (hexec : p.tables.exec = Jvm.exec) (hb : c.code = cc) (hl : l.stackTraces = false) {own cls text : String} {names : List String} {ik is ic mc ms sa : Nat} {A : Nat → Prop}
    (hown : s.vm.findClass own = some m.cls) (hcls : Bundle.fit cls = true) (hnames : ∀ n ∈ names, Bundle.fit n = true)
    (hk : (Cond.classLink own ik cls).before args s = true) (hini : (Cond.initialized cls).before args s = true) (hstr : vk_R own is text sa s) (hat : ∀ w ∈ vx_atS own ic cls names, w.before args s = true)
    (hgood : ∀ w ∈ Cond.classLink own ik cls :: Cond.initialized cls :: vx_atS own ic cls names, vx_ot w = true)
    (hU : vx_Zq Bundle.tN "UNASSIGNED_STACK" Bundle.steD A s s.heap) (hN : vx_Zq Bundle.tN "SUPPRESSED_SENTINEL" Bundle.listD A s s.heap) (hS : va_S A s.heap H locs) (hsize : ls.size = c.maxLocals)
    (d0 : decode cc pc = .ok (.new ik, 3)) (d3 : decode cc (pc + 3) = .ok (.dup, 1)) (d4 : decode cc (pc + 4) = .ok (.ldc_w is, 3)) (d7 : decode cc (pc + 7) = .ok (.invokespecial ic, 3)) (d10 : decode cc (pc + 10) = .ok (.athrow, 1))
    (hout : ∀ x ∈ c.exceptionTable.toList, covers x (pc + 10) = false)
    (hRframes : names.length + 3 < R.frames) (hRlocals : (rest.map fun v => v.category).sum + (13 * (names.length + 1) + 43) ≤ R.locals) (hRcells : cells + 1 ≤ R.cells) (hRslots : slots + 6 ≤ R.slots) (hlocks : meth.locks = false)
    (hx : ∀ t : State, s.vm.Alike t.vm → H.size ≤ t.heap.size → (∀ q : Nat, q < H.size → t.heap[q]? = H[q]?) → XC cls s t)
    (hf : ∀ z ∈ locs, free z.base) (hc : cells + 1 ≤ mc) (hs : slots + 6 ≤ ms) :
    W p l e R s m args below meth c H locs cells slots (vx_MQ below Qc XC args s mc ms free) (F0 m pc ls rest) := by
  intro T hT X
  have htr : e.platform.stackTraces = false := (show e.platform.stackTraces = l.stackTraces by rw [X.admits.platform]).trans hl
  have Y := vx_rebase X (R' := { frames := R.frames, locals := R.locals, cells := 1, slots := 6 }) (Nat.le_refl _) (Nat.le_refl _) hRcells hRslots
  obtain ⟨s', hA⟩ : ∃ z, z = (T.setVm s.vm).setFrames (.invoking m args :: below) := ⟨_, rfl⟩
  rw [← hA] at Y
  have hvm : s'.vm = s.vm := by rw [hA]; rfl
  have hhp : s'.heap = H := by rw [hA]; exact hT
  have hW0 : s.WarmedH s'.vm := by rw [hvm]; exact State.WarmedH.refl s
  have hat' : ∀ w ∈ vx_atS own ic cls names, w.before args s' = true := fun w hw => vx_ot_at hW0 hvm.symm (hgood w (List.mem_cons_of_mem _ (List.mem_cons_of_mem _ hw))) (hat w hw)
  have hk' : (Cond.classLink own ik cls).before args s' = true := vx_ot_at hW0 hvm.symm (hgood _ List.mem_cons_self) hk
  have hini' : (Cond.initialized cls).before args s' = true := vx_ot_at hW0 hvm.symm (hgood _ (List.mem_cons_of_mem _ List.mem_cons_self)) hini
  have hU' : vx_Zq Bundle.tN "UNASSIGNED_STACK" Bundle.steD A s' s'.heap := by rw [hhp]; exact vx_Zq.moved hW0.alike (hU.kept hS.2.1)
  have hN' : vx_Zq Bundle.tN "SUPPRESSED_SENTINEL" Bundle.listD A s' s'.heap := by rw [hhp]; exact vx_Zq.moved hW0.alike (hN.kept hS.2.1)
  have h : ∀ w ∈ Bundle.ownAtoms own ic cls names, w.before args s' = true := vx_own hat' (vx_isRefq hU'.1) (vx_isRefq hN'.1) hU'.2.word hN'.2.word
  have hown' : s'.vm.findClass own = some m.cls := by rw [hvm]; exact hown
  have hins : (Cond.instantiable cls 6).before args s' = true := h _ (by simp [Bundle.ownAtoms])
  obtain ⟨vm₁, cX, kX, hfX, hkX, -, -, X₁, st1⟩ := Y.newCold hexec (own := own) (C := cls) (index := ik) (n := 6) hown' hk' hins hini'
    (g := F0 m pc ls rest) rfl (by rw [hb]; exact d0) (Nat.le_refl _) (Nat.le_refl _)
  generalize hT1 : (T.setVm vm₁).pushCell { cls := cX, slots := kX.instanceTypes.map defaultValue, vm := .none } = T1 at X₁ st1
  have hcat : (Value.ref T.heap.size).category = 1 := rfl
  have hcellA : T1.heap[T.heap.size]? = some (freshCell cX kX) := by rw [← hT1]; exact State.heap_pushCell_size _ _
  have d3' : decode c.code (pc + 3) = .ok (.dup, 1) := by rw [hb]; exact d3
  have d4' : decode c.code (pc + 4) = .ok (.ldc_w is, 3) := by rw [hb]; exact d4
  have hstr' : vk_R own is text sa s' := vk_R.warm hW0 hstr
  obtain ⟨U, hsteps, hrun, hend, hW, hsame, ce, hce, hO⟩ := X₁.ctorThrowS hexec htr (own := own) (cls := cls) (names := names) (ic := ic) hown' hcls hnames h (fun x hx => nomatch hx) hfX hkX hcellA (by rw [hhp, hT]; exact Nat.le_refl _) (msg := .ref sa) rfl
    (g := { method := m, pc := pc + 7, locals := ls, stack := .ref sa :: .ref T.heap.size :: .ref T.heap.size :: rest, locked := none }) rfl hsize rfl rfl (rest := rest) rfl
    (by rw [hb]; exact d7) (by rw [hb]; exact d10) hout hRframes (by simp only [List.map_cons, List.sum_cons, hcat]; omega) hlocks
  obtain ⟨f1, f2⟩ := vx_frame hsame
  rw [hhp] at f1 f2
  have hWs : s.WarmedH U.vm := State.WarmedH.trans hW0 hW
  have hcl : s.vm.findClass cls = some ce.cls := by
    have h9 := hO.cls
    rw [hvm] at h9
    exact h9
  have hall : s.sameButNew ({ U with vm := s.vm } : State) locs mc ms := by
    subst hA
    obtain ⟨e1, e2⟩ := hsame
    rw [State.setFrames_setFrames] at e1
    have h2 : (T.setVm s.vm).sameButNew ({ U with vm := s.vm } : State) [] (0 + 1) (0 + 6) := ⟨e1, e2⟩
    have h3 := X.same.trans h2
    rw [List.append_nil] at h3
    exact h3.mono hc hs
  refine ⟨U, ?_, .threw T.heap.size, hrun, hend, Or.inr ⟨T.heap.size, rfl, cls, ce, locs, hx U hWs.alike f1 (fun q hq => f2 q hq (fun z hz => nomatch hz)), hce, hO.vm, hcl, hWs, hall, hf⟩⟩
  refine st1 _ ?_
  show Steps p.tables e below (T1.setTop { method := m, pc := pc + 3, locals := ls, stack := .ref T.heap.size :: rest, locked := none }) _
  jvm_step X₁.here [X₁.here.top, hexec, d3', Value.category]
  exact X₁.ldcStringW hexec (own := own) (text := text) (index := is) (a := sa) hown' hstr'.1 hstr'.2
    (g := { method := m, pc := pc + 4, locals := ls, stack := .ref T.heap.size :: .ref T.heap.size :: rest, locked := none }) rfl d4' _ hsteps
end Ends
section Bodies
variable {l : Launch}
theorem vx_ofW {y : MethodName} {ws ws' : List Cond} {rm : Room} {Pc : Array Value → State → Prop} {Qc : Array Value → State → Outcome → State → Prop} {XC : String → State → State → Prop} {mc ms : Nat} {free : Addr → Prop} {cc : ByteArray} {maxL : Nat} {ret : Option FieldType}
    (hy : plainName y.cls = true) (hw : ws = Cond.code y cc maxL ret :: ws')
    (body : ∀ p e s m args below meth c s₁, BodyLoose p l y (headSpec ws rm) cc maxL ret e s m args below meth c s₁ → c.maxLocals = maxL → (∀ x ∈ c.exceptionTable.toList, False) → Pc args s →
      W p l e (headSpec ws rm).room s m args below meth c s.heap [] 0 0 (vx_MQ below Qc XC args s mc ms free) (entryFrame m args maxL)) : vx_Met l y ws rm Pc Qc XC mc ms free := by
  refine MetFree.of_bodyS (code := cc) (maxLocals := maxL) (ret := ret) hy ?_ ?_
  · intro args s m h hn
    obtain ⟨meth, c, h1, h2, h3, h4, h5, h6, -, -⟩ := Cond.code_spec hn (atoms_spec (ws := ws) h _ (by rw [hw]; exact List.mem_cons_self))
    exact ⟨meth, c, h1, h2, h3, h4, h5, h6⟩
  · intro p e s m args below meth c s₁ B hml hP _
    have hh0 : s₁.heap = s.heap := by rw [B.state]; rfl
    have ht : ∀ x ∈ c.exceptionTable.toList, False := by
      obtain ⟨meth9, c9, h1, h2, -, -, -, -, h7, -⟩ := Cond.code_spec B.named (atoms_spec (ws := ws) B.pre _ (by rw [hw]; exact List.mem_cons_self))
      cases Option.some.inj (h1.symm.trans B.method)
      cases Option.some.inj (h2.symm.trans (Stand.of_body B).code)
      intro x hx
      rw [Array.isEmpty_iff.mp h7] at hx
      cases hx
    obtain ⟨t, a1, o, b1, b2, b3⟩ := body p e s m args below meth c s₁ B hml ht hP s₁ hh0 (Stand.of_body B)
    exact ⟨t, o, a1, b1, b2, b3⟩
/-- the table of a body with handlers -/
theorem vx_table {p : Program} {x y : MethodName} {S : Spec} {cc bytes : ByteArray} {maxL maxL' : Nat} {ret ret' : Option FieldType} {e : Env} {s s₁ : State} {m : MethodId} {args : Array Value} {below : List Frame} {meth : Method} {c : Code} {hh : List (Nat × Nat × Nat × Nat)}
    (B : BodyLoose p l y S cc maxL ret e s m args below meth c s₁) (h : (Cond.codeWith y bytes maxL' ret' hh).before args s = true) : c.exceptionTable.toList = tableOf hh := by
  obtain ⟨m9, meth9, c9, hn9, h1, h2, -, -, h6, -⟩ := Cond.codeWith_spec h
  cases Option.some.inj (hn9.symm.trans B.named)
  cases Option.some.inj (h1.symm.trans B.method)
  cases Option.some.inj (h2.symm.trans (Stand.of_body B).code)
  rw [← h6, table_eq]
end Bodies
end VXA
/-! ===== END ===== -/
/-! ===== BEGIN a static call of a method with an exception table ===== -/
section VXS
variable {p : Program} {l : Launch} {e : Env} {R : Room} {s : State} {m : MethodId} {args : Array Value} {below : List Frame} {meth : Method} {c : Code} {T : State} {H : Heap} {locs : List Loc} {cells slots : Nat}
abbrev vx_CSW (R : Room) (s : State) (args : Array Value) (own : String) (index : Nat) (y : MethodName) (bytes : ByteArray) (maxL : Nat) (ret : Option FieldType) (hh : List (Nat × Nat × Nat × Nat)) (ws : List Cond) (rm : Room) (mc ms n : Nat) : Prop :=
  (rm.cells = mc ∧ rm.slots = ms ∧ rm.frames + 1 ≤ R.frames ∧ 8 + (maxL + 11) + rm.locals ≤ R.locals ∧ (∀ w ∈ ws, ∀ (a' : Array Value) (U : State), s.WarmedH U.vm → w.before a' U = true) ∧ Cond.codeWith y bytes maxL ret hh ∈ ws) ∧
  (Cond.codeWith y bytes maxL ret hh).before args s = true ∧ (Cond.initialized y.cls).before args s = true ∧ (y.cls ≠ "java/lang/invoke/MethodHandle" ∧ y.cls ≠ "java/lang/invoke/VarHandle") ∧
  (∀ sig, parseMethodDescriptor y.desc = some sig → n = sig.parameters.length) ∧ (Cond.methodLink own index y).before args s = true ∧ (Cond.static y).before args s = true
theorem vx_cwSW {own : String} {index maxL mc ms : Nat} {y : MethodName} {bytes : ByteArray} {ret : Option FieldType} {hh : List (Nat × Nat × Nat × Nat)} {Ts ws ws' : List Cond} {rm : Room} (n : Nat) (ht : ∀ w ∈ Ts, w.before args s = true) (hT : GoodIn Ts (va_wsS own index y ws)) (hw : ws = Cond.codeWith y bytes maxL ret hh :: ws') (hrc : rm.cells = mc) (hrs : rm.slots = ms)
    (hd : y.cls ≠ "java/lang/invoke/MethodHandle" ∧ y.cls ≠ "java/lang/invoke/VarHandle" ∧ (parseMethodDescriptor y.desc).map (fun d => d.parameters.length) = some n) (hR : rm.frames + 1 ≤ R.frames ∧ 8 + (maxL + 11) + rm.locals ≤ R.locals) :
    vx_CSW R s args own index y bytes maxL ret hh ws rm mc ms n := by
  have ok : ∀ w ∈ va_wsS own index y ws, w.before args s = true := fun w h => ht w (hT w h).1
  have hG : GoodIn Ts ws := fun w h => hT w (by unfold va_wsS; exact List.mem_append_right _ h)
  have hc : Cond.codeWith y bytes maxL ret hh ∈ ws := by rw [hw]; exact List.mem_cons_self
  refine ⟨⟨hrc, hrs, hR.1, hR.2, pay_in ht hG, hc⟩, ht _ (hG _ hc).1, ok _ (by simp [va_wsS]), ⟨hd.1, hd.2.1⟩, fun sig h => ?_, ok _ (by simp [va_wsS]), ok _ (by simp [va_wsS])⟩
  have h2 := hd.2.2
  rw [h] at h2
  exact (Option.some.inj h2).symm
theorem vx_callSW (X : Stand p l e R s m args below meth c T locs cells slots) (hexec : p.tables.exec = Jvm.exec) {own : String} {index : Nat} {y : MethodName} {bytes : ByteArray} {maxL : Nat} {ret : Option FieldType} {hh : List (Nat × Nat × Nat × Nat)}
    (hown : s.vm.findClass own = some m.cls) (hlink : (Cond.methodLink own index y).before args s = true) (hstat : (Cond.static y).before args s = true) (hinit : (Cond.initialized y.cls).before args s = true)
    (hcode : (Cond.codeWith y bytes maxL ret hh).before args s = true) (hy : y.cls ≠ "java/lang/invoke/MethodHandle" ∧ y.cls ≠ "java/lang/invoke/VarHandle")
    {W9 : Nat} {Pre : Pt → Array Value → Prop} {Post : Pt → Array Value → Option Value → Pt → Prop} (hK : Back l R p e below s args y 3 W9 Pre Post)
    {g : JFrame} (hg : g.method = m) (hsize : g.locals.size = c.maxLocals) {argsL rest : List Value} (hlen : ∀ sig, parseMethodDescriptor y.desc = some sig → argsL.length = sig.parameters.length)
    (hstack : g.stack = argsL.reverse ++ rest) (hW : 2 * g.monitorRoom + (rest.map fun v => v.category).sum ≤ W9) (hdg : decode c.code g.pc = .ok (.invokestatic index, 3))
    (hpre : ∀ vm₁, s.WarmedH vm₁ → Pre ⟨T.setVm vm₁, locs, cells, slots⟩ argsL.toArray) :
    ∃ (v : Option Value) (vm₁ : Vm) (B : Pt), s.WarmedH vm₁ ∧ Stand p l e R s m args below meth c B.U B.locs B.cells B.slots ∧ Post ⟨T.setVm vm₁, locs, cells, slots⟩ argsL.toArray v B ∧
      ∀ target, Steps p.tables e below (B.U.setTop { g with pc := g.pc + 3, stack := v.toList ++ rest }) target → Steps p.tables e below (T.setTop g) target := by
  obtain ⟨mk, methM, cM, hnamed, hmethM, -, -, -, -, -, -, hsigM⟩ := Cond.codeWith_spec hcode
  have hstatic : methM.isStatic = true := Cond.static_spec hnamed hmethM hstat
  obtain ⟨kP, hkP, -⟩ := className_of_methodNamed hnamed
  have hinitP : kP.init = .initialized := Cond.initialized_spec (findClass_of_methodNamed hnamed) hkP hinit
  obtain ⟨vm₁, X₁, hstep₁⟩ := X.invokestatic hexec hown hlink hnamed hmethM hstatic hkP hinitP hy (g := g) hg (argsL := argsL) (rest := rest) (hlen _ hsigM) hstack hdg
  obtain ⟨v, B, X', hpost, hsteps⟩ := hK m meth c ⟨T.setVm vm₁, locs, cells, slots⟩ { g with stack := rest } (.invokestatic index) mk argsL.toArray X₁ hg hsize hdg hW (X₁.named hnamed) (hpre vm₁ X₁.warmed)
  exact ⟨v, vm₁, B, X₁.warmed, X', hpost, fun target h => hstep₁ _ fun acts => by rw [doInvoke_state]; exact hsteps.trans h⟩
theorem vx_runSW {y : MethodName} {bytes cc : ByteArray} {maxL nL mc ms n index : Nat} {ret : Option FieldType} {hh : List (Nat × Nat × Nat × Nat)} {ws : List Cond} {rm : Room} {Pc : Array Value → State → Prop} {Qc : Array Value → State → Outcome → State → Prop} {free : Addr → Prop} {Ts : List Cond} {own : String} {As rest : List Value} {g : JFrame}
    (S : CallFix p m c cc nL s args Ts own) (hM : Met l y ws rm Pc Qc mc ms free) (cw : vx_CSW R s args own index y bytes maxL ret hh ws rm mc ms n) (hp : PreS s H Pc As)
    (hg : g.method = m) (hn : As.length = n) (hsize : g.locals.size = nL) (hstack : g.stack = As.reverse ++ rest) (hW : 2 * g.monitorRoom + (rest.map fun v => v.category).sum ≤ 8) (hdg : decode cc g.pc = .ok (.invokestatic index, 3)) (hf : cells + mc ≤ R.cells ∧ slots + ms ≤ R.slots) :
    va_Run p l e R s m args below meth c H locs cells slots mc ms g rest (Qc As.toArray) (free) := by
  obtain ⟨⟨hrc, hrs, hfr, hlo, hws, hcw⟩, hcode, hini, hy, hlen, hl, hstt⟩ := cw
  have hK : Back l R p e below s args y 3 8 (PreOf R mc ms Pc) (PostOf Qc mc ms free) := va_backW (hh := hh) (bytes := bytes) (maxL := maxL) (ret := ret) hM hp.1 hrc hrs hfr hlo hws hcw (fun a' U hW => word_at hW (Or.inl (by first | rfl | simp [Cond.onTables, Cond.keeps, Cond.steady])) hini)
  obtain ⟨hx, hb, hml, ho, -⟩ := S
  intro T hT X
  obtain ⟨v, vm₁, ⟨U', l2, c2, s2⟩, hW₁, X', ⟨g', mk, t, L, e1, e2, hq, h1, hL, h2, h3⟩, st⟩ := vx_callSW X hx (hh := hh) (bytes := bytes) (maxL := maxL) (ret := ret) ho hl hstt hini hcode hy hK hg (hsize.trans hml.symm) (argsL := As) (rest := rest) (fun sig h => hn.trans (hlen sig h)) hstack hW (by rw [hb]; exact hdg)
    (fun vm₁ hW₁ => ⟨hf.1, hf.2, hp.2 (T.setVm vm₁) hT hW₁⟩)
  dsimp only [Pt.U, Pt.locs, Pt.cells, Pt.slots] at X' e1 e2 h1 h2 h3 st
  subst h1; subst h2; subst h3
  exact ⟨v, (T.setVm vm₁).calling g' mk As.toArray, t, U', L, hT, X', hL, e1, e2, hq, st⟩
/-- not caught here, past rows that name other classes: it goes on to the caller -/
theorem vx_outP {p : Program} {l : Launch} {e : Env} {R : Room} {s : State} {m : MethodId} {args : Array Value} {below : List Frame} {meth : Method} {c : Code} {H : Heap} {locs : List Loc} {cells slots : Nat} {free : Addr → Prop} {ls : Array Slot} {rest : List Value} {Qc : Array Value → State → Outcome → State → Prop} {XC : String → State → State → Prop}
    {pc : Nat} {own E : String} {ce : Cell} {q : Addr} {mc ms : Nat} (hown : s.vm.findClass own = some m.cls) (hlocks : meth.locks = false)
    (hpass : ∀ z ∈ c.exceptionTable.toList, covers z pc = false ∨ (z.catchType ≠ 0 ∧ ∃ nm : String, (Cond.classLink own z.catchType nm).before args s = true ∧ va_Nc E nm s)) (hcell : H[q]? = some ce) (hv : ce.vm = .none) (hcl : s.vm.findClass E = some ce.cls)
    (hx : ∀ t : State, t.heap = H → s.vm.Alike t.vm → XC E s t) (hf : ∀ z ∈ locs, free z.base) (hc : cells ≤ mc) (hs : slots ≤ ms) :
    vx_W p l e R s m args below meth c H locs cells slots (vx_MQ below Qc XC args s mc ms free) (F0 m pc ls rest) q := by
  intro T hT X
  have hpl : e.platform.magicAccessors = ({} : Platform).magicAccessors := by rw [X.admits.platform]
  obtain ⟨vm', hW', X', st⟩ := X.outThrough hlocks q (g := F0 m pc ls rest) rfl rfl rfl (cell := ce) (by rw [hT]; exact hcell) (by rw [hv]; rfl)
    (by obtain ⟨k9, h9, -⟩ := Vm.findClass_spec hcl; exact ⟨k9, h9⟩) (fun z hz => by
      rcases hpass z hz with h | ⟨hz0, nm, hl1, hn1⟩
      · exact Or.inl h
      · obtain ⟨c6, hc6, hcl6⟩ := Cond.classLink_spec hown hl1 e.platform hpl
        obtain ⟨a8, b8, h1, h2, h3⟩ := hn1
        cases Option.some.inj (h1.symm.trans hcl)
        cases Option.some.inj (h2.symm.trans hc6)
        exact Or.inr ⟨hz0, _, hcl6, h3⟩)
  obtain ⟨g₀, hfr⟩ := X'.frames_eq
  have hcell9 : ((T.setVm vm').setFrames (.throwing q :: below)).heap[q]? = some ce := by
    show T.heap[q]? = some ce
    rw [hT]; exact hcell
  have hend : Ended ((T.setVm vm').setFrames (.throwing q :: below)) below (.threw q) := State.frames_setFrames _ (State.cur_lt_of_frames hfr)
  refine ⟨(T.setVm vm').setFrames (.throwing q :: below), ?_, .threw q, X'.here.running, hend, Or.inr ⟨q, rfl, E, ce, locs, hx _ hT (X'.ends _).1.alike, hcell9, hv, hcl, (X'.ends _).1, (X'.ends _).2.mono hc hs, hf⟩⟩
  rw [X.pushThrowing_eq]
  exact st
/-- a thing of a world lies in the heap -/
theorem vx_lt {D : va_G} {cl : List vw_C} {ws : va_W} {H1 : Heap} (h : va_P D cl ws H1) {k : Nat} {q : Nat × va_E} (hk : ws[k]? = some q) : q.1 < H1.size := (h k q hk).lt
end VXS
/-! ===== END ===== -/
/-! ===== BEGIN methods with a table of their own: called by a name, returning or throwing ===== -/
section VXH
/-! vx_backW, vx_callVX, vx_callSX, vx_callVW, vx_runVW, vx_runVX, vx_runSX, vx_ofWH follow the same proofs as their sisters above (Free/Laws.lean, Shelf42/LK1.lean); vx_outP calls Shelf42/NT130.lean (outThrough). -/
section
variable {l : Launch} {R : Room} {p : Program} {e : Env} {below : List Frame} {s : State} {sargs : Array Value} {y : MethodName} {len W9 : Nat}
theorem vx_backW {ws : List Cond} {rm : Room} {Pc : Array Value → State → Prop} {Qc : Array Value → State → Outcome → State → Prop} {XC : String → State → State → Prop} {mc ms : Nat} {free : Addr → Prop} {bytes : ByteArray} {maxL : Nat} {ret : Option FieldType} {hh : List (Nat × Nat × Nat × Nat)}
    (hM : vx_Met l y ws rm Pc Qc XC mc ms free) (hblind : FrameBlind Pc) (hrc : rm.cells = mc) (hrs : rm.slots = ms)
    (hframes : rm.frames + 1 ≤ R.frames) (hlocals : W9 + (maxL + 11) + rm.locals ≤ R.locals)
    (hws : ∀ w ∈ ws, ∀ a' U, s.WarmedH U.vm → w.before a' U = true) (hcode : Cond.codeWith y bytes maxL ret hh ∈ ws) (hinit : ∀ a' U, s.WarmedH U.vm → (Cond.initialized y.cls).before a' U = true) :
    vx_Back l R p e below s sargs y len W9 (PreOf R mc ms Pc) (PostOf Qc mc ms free) (vx_Post XC mc ms free) := by
  intro m meth c A g ig mk a X hg hsize hdg hW hn hp
  have h1 : (headSpec ws rm).pre.before a A.U = true := atoms_intro fun w hw => hws w hw _ _ X.warmed
  have h2 : (Cond.codeWith y bytes maxL ret hh).before a A.U = true := hws _ hcode _ _ X.warmed
  have h3 : (Cond.initialized y.cls).before a A.U = true := hinit _ _ X.warmed
  have h4 : A.cells + (headSpec ws rm).room.cells ≤ R.cells := by rw [show (headSpec ws rm).room.cells = mc from hrc]; exact hp.1
  have h5 : A.slots + (headSpec ws rm).room.slots ≤ R.slots := by rw [show (headSpec ws rm).room.slots = ms from hrs]; exact hp.2.1
  have hPc : Pc a (A.U.calling g mk a) := hblind _ _ _ _ hp.2.2
  obtain ⟨U, Ls, c0, s0⟩ := A
  dsimp only [Pt.U, Pt.locs, Pt.cells, Pt.slots] at h1 h2 h3 h4 h5 X hn hPc ⊢
  obtain ⟨m9, methY, cY, hn9, hmY, hcY, -, hlY, -⟩ := Cond.codeWith_spec h2
  cases Option.some.inj (hn9.symm.trans hn)
  obtain ⟨kY, hkY, -⟩ := className_of_methodNamed hn
  have hinitY : kY.init = .initialized := Cond.initialized_spec (findClass_of_methodNamed hn) hkY h3
  have h : At U g.method c below := by rw [hg]; exact X.here
  have hlocals9 : W9 + (maxL + 11) + (headSpec ws rm).room.locals ≤ R.locals := hlocals
  have happ : (headSpec ws rm).appliesLoose y e.platform (U.calling g mk a) = true :=
    Spec.appliesLoose_calling (g := g) h hdg hn hkY hinitY
      (X.room_calling (g := g) (R' := (headSpec ws rm).room) hsize hmY hcY hframes (by rw [hlY]; omega) h4 h5) h1
  obtain ⟨mid, hmid⟩ := h.above
  have hfr : (U.setTop g).frames = (.java g :: mid) ++ below := by rw [State.frames_setTop' g h.top, hmid]; rfl
  obtain ⟨o, s₂, hsteps, -, hend, hq⟩ := Steps.callFree hM p X.admits X.cas X.clock (acts := []) hfr happ hPc trivial
  have hq' : vx_Q Qc XC mc ms free a (U.calling g mk a) o s₂ := hq
  rw [State.frames_setTop' g h.top] at hend
  obtain ⟨g₀, hg0⟩ := Option.isSome_iff_exists.mp h.top
  obtain ⟨r, hr⟩ := State.topJava?_eq_some.mp hg0
  have hr' : (({ U with heap := s₂.heap, slotsUsed := s₂.slotsUsed } : State).setVm s₂.vm).frames = .java g₀ :: r := hr
  rcases hq' with ⟨hqc, L, hfe, hL⟩ | ⟨q, rfl, E, ce, L, hx, hce, hcv, hcl, hW₂, hsm, hL⟩
  · obtain ⟨⟨v, rfl⟩, hW₂, e2, q2, q3, q4, q5, q6⟩ := id hfe
    have e3 : s₂ = ({ (U.calling g mk a).setFrames s₂.frames with heap := s₂.heap, slotsUsed := s₂.slotsUsed } : State).setVm s₂.vm := by
      have : s₂ = ({ s₂ with vm := (U.calling g mk a).vm } : State).setVm s₂.vm := rfl
      rw [e2] at this
      exact this
    obtain ⟨c₂, i₂, len₂, hc₂, hd₂, hf₂⟩ := hend
    have hW' : U.WarmedH s₂.vm := hW₂
    have hcc : c₂ = c := by
      have h1 : s₂.code? g.method = U.code? g.method := by
        rw [State.code?_eq, State.code?_eq, hW'.alike.method?]
      exact Option.some.inj (hc₂.symm.trans (h1.trans h.code))
    subst hcc
    have hlen : len₂ = len := by rw [hdg] at hd₂; cases hd₂; rfl
    subst hlen
    have hs₂ : s₂ = (({ U with heap := s₂.heap, slotsUsed := s₂.slotsUsed } : State).setVm s₂.vm).setTop { g with pc := g.pc + len₂, stack := v.toList ++ g.stack } := by
      refine e3.trans ?_
      rw [hf₂, State.calling_eq h.top, State.setFrames_setFrames, State.setTop_of_frames _ hr', hr]
      rfl
    have hsame : U.sameButNew ({ U with heap := s₂.heap, slotsUsed := s₂.slotsUsed } : State) L mc ms := by
      refine ⟨?_, q2, q3, q4, q5, q6⟩
      obtain ⟨t, ht, -⟩ := State.frames_cons hr
      show ({ U with heap := s₂.heap, slotsUsed := s₂.slotsUsed } : State) = { U.setFrames U.frames with heap := s₂.heap, slotsUsed := s₂.slotsUsed }
      rw [State.setFrames_self ht]
    subst hg
    refine Or.inl ⟨v, ⟨(({ U with heap := s₂.heap, slotsUsed := s₂.slotsUsed } : State).setVm s₂.vm), Ls ++ L, c0 + mc, s0 + ms⟩,
      ⟨X.admits, X.cas, X.clock, X.frames, X.room, X.hears, X.method, X.code, (X.here.setHeapUsed s₂.heap s₂.slotsUsed).setVm hW'.alike, X.tail, State.WarmedH.trans X.warmed hW', X.limits, X.bytes, X.same.trans (hsame.setVm s.vm)⟩,
      ⟨g, mk, s₂, L, rfl, rfl, hqc, rfl, hL, rfl, rfl⟩, ?_⟩
    show Steps p.tables e below _ ((({ U with heap := s₂.heap, slotsUsed := s₂.slotsUsed } : State).setVm s₂.vm).setTop { g with pc := g.pc + len₂, stack := v.toList ++ g.stack })
    rw [← hs₂]
    exact hsteps
  · obtain ⟨e2, q2, q3, q4, q5, q6⟩ := id hsm
    have e3 : s₂ = ({ (U.calling g mk a).setFrames s₂.frames with heap := s₂.heap, slotsUsed := s₂.slotsUsed } : State).setVm s₂.vm := by
      have : s₂ = ({ s₂ with vm := (U.calling g mk a).vm } : State).setVm s₂.vm := rfl
      rw [e2] at this
      exact this
    have hf₂ : s₂.frames = .throwing q :: .java g :: U.frames.tail := hend
    have hW' : U.WarmedH s₂.vm := hW₂
    have hs₂ : s₂ = ((({ U with heap := s₂.heap, slotsUsed := s₂.slotsUsed } : State).setVm s₂.vm).setTop g).pushFrame (.throwing q) := by
      refine e3.trans ?_
      rw [hf₂, State.calling_eq h.top, State.setFrames_setFrames, State.pushFrame, State.frames_setTop _ hr', State.setTop_of_frames _ hr', State.setFrames_setFrames, hr]
      rfl
    have hsame : U.sameButNew ({ U with heap := s₂.heap, slotsUsed := s₂.slotsUsed } : State) L mc ms := by
      refine ⟨?_, q2, q3, q4, q5, q6⟩
      obtain ⟨t, ht, -⟩ := State.frames_cons hr
      show ({ U with heap := s₂.heap, slotsUsed := s₂.slotsUsed } : State) = { U.setFrames U.frames with heap := s₂.heap, slotsUsed := s₂.slotsUsed }
      rw [State.setFrames_self ht]
    subst hg
    refine Or.inr ⟨q, ⟨(({ U with heap := s₂.heap, slotsUsed := s₂.slotsUsed } : State).setVm s₂.vm), Ls ++ L, c0 + mc, s0 + ms⟩,
      ⟨X.admits, X.cas, X.clock, X.frames, X.room, X.hears, X.method, X.code, (X.here.setHeapUsed s₂.heap s₂.slotsUsed).setVm hW'.alike, X.tail, State.WarmedH.trans X.warmed hW', X.limits, X.bytes, X.same.trans (hsame.setVm s.vm)⟩,
      ⟨g, mk, s₂, L, E, ce, rfl, rfl, hx, hce, hcv, hcl, rfl, hL, rfl, rfl⟩, ?_⟩
    show Steps p.tables e below _ (((({ U with heap := s₂.heap, slotsUsed := s₂.slotsUsed } : State).setVm s₂.vm).setTop g).pushFrame (.throwing q))
    rw [← hs₂]
    exact hsteps
end
variable {p : Program} {l : Launch} {e : Env} {R : Room} {s : State} {m : MethodId} {args : Array Value} {below : List Frame} {meth : Method} {c : Code} {T : State} {H : Heap} {locs : List Loc} {cells slots : Nat}
theorem vx_callVX (X : Stand p l e R s m args below meth c T locs cells slots) (hexec : p.tables.exec = Jvm.exec) {own C : String} {index : Nat} {y : MethodName} {bytes : ByteArray} {maxL : Nat} {ret : Option FieldType} {hh : List (Nat × Nat × Nat × Nat)}
    (hown : s.vm.findClass own = some m.cls) (hlink : (Cond.methodLink own index y).before args s = true) (hinst : (Cond.instanceMethod y).before args s = true) (hsel : (Cond.selects C y y).before args s = true)
    (hcode : (Cond.codeWith y bytes maxL ret hh).before args s = true) (hy : y.cls ≠ "java/lang/invoke/MethodHandle" ∧ y.cls ≠ "java/lang/invoke/VarHandle")
    {W9 : Nat} {Pre : Pt → Array Value → Prop} {Post : Pt → Array Value → Option Value → Pt → Prop} {PostX : Pt → Array Value → Addr → Pt → Prop} (hK : vx_Back l R p e below s args y 3 W9 Pre Post PostX)
    {b : Addr} {cellB : Cell} (hcell : T.heap[b]? = some cellB) (hobj : cellB.vm.isStatics = false) (hcls : s.vm.findClass C = some cellB.cls)
    {g : JFrame} (hg : g.method = m) (hsize : g.locals.size = c.maxLocals) {argsL rest : List Value} (hlen : ∀ sig, parseMethodDescriptor y.desc = some sig → argsL.length = sig.parameters.length)
    (hstack : g.stack = argsL.reverse ++ .ref b :: rest) (hW : 2 * g.monitorRoom + (rest.map fun v => v.category).sum ≤ W9) (hdg : decode c.code g.pc = .ok (.invokevirtual index, 3))
    (hpre : ∀ vm₁, s.WarmedH vm₁ → Pre ⟨T.setVm vm₁, locs, cells, slots⟩ (Value.ref b :: argsL).toArray) :
    (∃ (v : Option Value) (vm₁ : Vm) (B : Pt), s.WarmedH vm₁ ∧ Stand p l e R s m args below meth c B.U B.locs B.cells B.slots ∧ Post ⟨T.setVm vm₁, locs, cells, slots⟩ (Value.ref b :: argsL).toArray v B ∧
      ∀ target, Steps p.tables e below (B.U.setTop { g with pc := g.pc + 3, stack := v.toList ++ rest }) target → Steps p.tables e below (T.setTop g) target) ∨
    (∃ (q : Addr) (vm₁ : Vm) (B : Pt), s.WarmedH vm₁ ∧ Stand p l e R s m args below meth c B.U B.locs B.cells B.slots ∧ PostX ⟨T.setVm vm₁, locs, cells, slots⟩ (Value.ref b :: argsL).toArray q B ∧
      Steps p.tables e below (T.setTop g) ((B.U.setTop { g with stack := rest }).pushFrame (.throwing q))) := by
  obtain ⟨mk, methM, hnamed, hmethM, hstM, habM⟩ := Cond.instanceMethod_spec hinst
  obtain ⟨m8, methM', cM, hn8, hmethM', -, -, -, -, -, -, hsigM⟩ := Cond.codeWith_spec hcode
  cases Option.some.inj (hn8.symm.trans hnamed)
  cases hmethM.symm.trans hmethM'
  obtain ⟨c2, r2, m2, q1, q2, q3, q4, kP, hkP, hkPi⟩ := Cond.selects_spec hsel
  cases hcls.symm.trans q1
  cases (State.methodFound?_of_named hnamed hy).symm.trans q2
  cases hnamed.symm.trans q3
  have hselP : selectMethod e.platform s.vm cellB.cls mk = .method mk := by rw [Launch.admits_selectMethod X.admits]; exact q4
  obtain ⟨vm₁, X₁, hstep₁⟩ := X.invokevirtual hexec hown hlink hnamed hmethM hstM hkP hkPi hy (a := b) (cell := cellB) hcell
    (fun z h => by rw [h] at hobj; cases hobj) hselP hmethM habM hkP hkPi (g := g) hg (argsL := argsL) (rest := rest) (hlen _ hsigM) hstack hdg
  rcases hK m meth c ⟨T.setVm vm₁, locs, cells, slots⟩ { g with stack := rest } (.invokevirtual index) mk (Value.ref b :: argsL).toArray X₁ hg hsize hdg hW (X₁.named hnamed) (hpre vm₁ X₁.warmed) with ⟨v, B, X', hpost, hsteps⟩ | ⟨q, B, X', hpost, hsteps⟩
  · exact Or.inl ⟨v, vm₁, B, X₁.warmed, X', hpost, fun target h => hstep₁ _ fun acts => by rw [doInvoke_state]; exact hsteps.trans h⟩
  · exact Or.inr ⟨q, vm₁, B, X₁.warmed, X', hpost, hstep₁ _ fun acts => by rw [doInvoke_state]; exact hsteps⟩
theorem vx_callSX (X : Stand p l e R s m args below meth c T locs cells slots) (hexec : p.tables.exec = Jvm.exec) {own : String} {index : Nat} {y : MethodName} {bytes : ByteArray} {maxL : Nat} {ret : Option FieldType} {hh : List (Nat × Nat × Nat × Nat)}
    (hown : s.vm.findClass own = some m.cls) (hlink : (Cond.methodLink own index y).before args s = true) (hstat : (Cond.static y).before args s = true) (hinit : (Cond.initialized y.cls).before args s = true)
    (hcode : (Cond.codeWith y bytes maxL ret hh).before args s = true) (hy : y.cls ≠ "java/lang/invoke/MethodHandle" ∧ y.cls ≠ "java/lang/invoke/VarHandle")
    {W9 : Nat} {Pre : Pt → Array Value → Prop} {Post : Pt → Array Value → Option Value → Pt → Prop} {PostX : Pt → Array Value → Addr → Pt → Prop} (hK : vx_Back l R p e below s args y 3 W9 Pre Post PostX)
    {g : JFrame} (hg : g.method = m) (hsize : g.locals.size = c.maxLocals) {argsL rest : List Value} (hlen : ∀ sig, parseMethodDescriptor y.desc = some sig → argsL.length = sig.parameters.length)
    (hstack : g.stack = argsL.reverse ++ rest) (hW : 2 * g.monitorRoom + (rest.map fun v => v.category).sum ≤ W9) (hdg : decode c.code g.pc = .ok (.invokestatic index, 3))
    (hpre : ∀ vm₁, s.WarmedH vm₁ → Pre ⟨T.setVm vm₁, locs, cells, slots⟩ argsL.toArray) :
    (∃ (v : Option Value) (vm₁ : Vm) (B : Pt), s.WarmedH vm₁ ∧ Stand p l e R s m args below meth c B.U B.locs B.cells B.slots ∧ Post ⟨T.setVm vm₁, locs, cells, slots⟩ argsL.toArray v B ∧
      ∀ target, Steps p.tables e below (B.U.setTop { g with pc := g.pc + 3, stack := v.toList ++ rest }) target → Steps p.tables e below (T.setTop g) target) ∨
    (∃ (q : Addr) (vm₁ : Vm) (B : Pt), s.WarmedH vm₁ ∧ Stand p l e R s m args below meth c B.U B.locs B.cells B.slots ∧ PostX ⟨T.setVm vm₁, locs, cells, slots⟩ argsL.toArray q B ∧
      Steps p.tables e below (T.setTop g) ((B.U.setTop { g with stack := rest }).pushFrame (.throwing q))) := by
  obtain ⟨mk, methM, cM, hnamed, hmethM, -, -, -, -, -, -, hsigM⟩ := Cond.codeWith_spec hcode
  have hstatic : methM.isStatic = true := Cond.static_spec hnamed hmethM hstat
  obtain ⟨kP, hkP, -⟩ := className_of_methodNamed hnamed
  have hinitP : kP.init = .initialized := Cond.initialized_spec (findClass_of_methodNamed hnamed) hkP hinit
  obtain ⟨vm₁, X₁, hstep₁⟩ := X.invokestatic hexec hown hlink hnamed hmethM hstatic hkP hinitP hy (g := g) hg (argsL := argsL) (rest := rest) (hlen _ hsigM) hstack hdg
  rcases hK m meth c ⟨T.setVm vm₁, locs, cells, slots⟩ { g with stack := rest } (.invokestatic index) mk argsL.toArray X₁ hg hsize hdg hW (X₁.named hnamed) (hpre vm₁ X₁.warmed) with ⟨v, B, X', hpost, hsteps⟩ | ⟨q, B, X', hpost, hsteps⟩
  · exact Or.inl ⟨v, vm₁, B, X₁.warmed, X', hpost, fun target h => hstep₁ _ fun acts => by rw [doInvoke_state]; exact hsteps.trans h⟩
  · exact Or.inr ⟨q, vm₁, B, X₁.warmed, X', hpost, hstep₁ _ fun acts => by rw [doInvoke_state]; exact hsteps⟩
theorem vx_callVW (X : Stand p l e R s m args below meth c T locs cells slots) (hexec : p.tables.exec = Jvm.exec) {own C : String} {index : Nat} {y : MethodName} {bytes : ByteArray} {maxL : Nat} {ret : Option FieldType} {hh : List (Nat × Nat × Nat × Nat)}
    (hown : s.vm.findClass own = some m.cls) (hlink : (Cond.methodLink own index y).before args s = true) (hinst : (Cond.instanceMethod y).before args s = true) (hsel : (Cond.selects C y y).before args s = true)
    (hcode : (Cond.codeWith y bytes maxL ret hh).before args s = true) (hy : y.cls ≠ "java/lang/invoke/MethodHandle" ∧ y.cls ≠ "java/lang/invoke/VarHandle")
    {W9 : Nat} {Pre : Pt → Array Value → Prop} {Post : Pt → Array Value → Option Value → Pt → Prop} (hK : Back l R p e below s args y 3 W9 Pre Post)
    {b : Addr} {cellB : Cell} (hcell : T.heap[b]? = some cellB) (hobj : cellB.vm.isStatics = false) (hcls : s.vm.findClass C = some cellB.cls)
    {g : JFrame} (hg : g.method = m) (hsize : g.locals.size = c.maxLocals) {argsL rest : List Value} (hlen : ∀ sig, parseMethodDescriptor y.desc = some sig → argsL.length = sig.parameters.length)
    (hstack : g.stack = argsL.reverse ++ .ref b :: rest) (hW : 2 * g.monitorRoom + (rest.map fun v => v.category).sum ≤ W9) (hdg : decode c.code g.pc = .ok (.invokevirtual index, 3))
    (hpre : ∀ vm₁, s.WarmedH vm₁ → Pre ⟨T.setVm vm₁, locs, cells, slots⟩ (Value.ref b :: argsL).toArray) :
    ∃ (v : Option Value) (vm₁ : Vm) (B : Pt), s.WarmedH vm₁ ∧ Stand p l e R s m args below meth c B.U B.locs B.cells B.slots ∧ Post ⟨T.setVm vm₁, locs, cells, slots⟩ (Value.ref b :: argsL).toArray v B ∧
      ∀ target, Steps p.tables e below (B.U.setTop { g with pc := g.pc + 3, stack := v.toList ++ rest }) target → Steps p.tables e below (T.setTop g) target := by
  obtain ⟨mk, methM, hnamed, hmethM, hstM, habM⟩ := Cond.instanceMethod_spec hinst
  obtain ⟨m8, methM', cM, hn8, hmethM', -, -, -, -, -, -, hsigM⟩ := Cond.codeWith_spec hcode
  cases Option.some.inj (hn8.symm.trans hnamed)
  cases hmethM.symm.trans hmethM'
  obtain ⟨c2, r2, m2, q1, q2, q3, q4, kP, hkP, hkPi⟩ := Cond.selects_spec hsel
  cases hcls.symm.trans q1
  cases (State.methodFound?_of_named hnamed hy).symm.trans q2
  cases hnamed.symm.trans q3
  have hselP : selectMethod e.platform s.vm cellB.cls mk = .method mk := by rw [Launch.admits_selectMethod X.admits]; exact q4
  obtain ⟨vm₁, X₁, hstep₁⟩ := X.invokevirtual hexec hown hlink hnamed hmethM hstM hkP hkPi hy (a := b) (cell := cellB) hcell
    (fun z h => by rw [h] at hobj; cases hobj) hselP hmethM habM hkP hkPi (g := g) hg (argsL := argsL) (rest := rest) (hlen _ hsigM) hstack hdg
  obtain ⟨v, B, X', hpost, hsteps⟩ := hK m meth c ⟨T.setVm vm₁, locs, cells, slots⟩ { g with stack := rest } (.invokevirtual index) mk (Value.ref b :: argsL).toArray X₁ hg hsize hdg hW (X₁.named hnamed) (hpre vm₁ X₁.warmed)
  exact ⟨v, vm₁, B, X₁.warmed, X', hpost, fun target h => hstep₁ _ fun acts => by rw [doInvoke_state]; exact hsteps.trans h⟩
abbrev vx_CVW (R : Room) (s : State) (args : Array Value) (own C : String) (index : Nat) (y : MethodName) (bytes : ByteArray) (maxL : Nat) (ret : Option FieldType) (hh : List (Nat × Nat × Nat × Nat)) (ws : List Cond) (rm : Room) (mc ms n : Nat) : Prop :=
  (rm.cells = mc ∧ rm.slots = ms ∧ rm.frames + 1 ≤ R.frames ∧ 8 + (maxL + 11) + rm.locals ≤ R.locals ∧ (∀ w ∈ ws, ∀ (a' : Array Value) (U : State), s.WarmedH U.vm → w.before a' U = true) ∧ Cond.codeWith y bytes maxL ret hh ∈ ws) ∧
  (Cond.codeWith y bytes maxL ret hh).before args s = true ∧ (Cond.initialized y.cls).before args s = true ∧ (y.cls ≠ "java/lang/invoke/MethodHandle" ∧ y.cls ≠ "java/lang/invoke/VarHandle") ∧
  (∀ sig, parseMethodDescriptor y.desc = some sig → n = sig.parameters.length) ∧ (Cond.methodLink own index y).before args s = true ∧ (Cond.instanceMethod y).before args s = true ∧ (Cond.selects C y y).before args s = true
theorem vx_cwVW {own C : String} {index maxL mc ms : Nat} {y : MethodName} {bytes : ByteArray} {ret : Option FieldType} {hh : List (Nat × Nat × Nat × Nat)} {Ts ws ws' : List Cond} {rm : Room} (n : Nat) (ht : ∀ w ∈ Ts, w.before args s = true) (hT : GoodIn Ts (wsV own index C y ws)) (hw : ws = Cond.codeWith y bytes maxL ret hh :: ws') (hrc : rm.cells = mc) (hrs : rm.slots = ms)
    (hd : y.cls = C ∧ y.cls ≠ "java/lang/invoke/MethodHandle" ∧ y.cls ≠ "java/lang/invoke/VarHandle" ∧ (parseMethodDescriptor y.desc).map (fun d => d.parameters.length) = some n) (hR : rm.frames + 1 ≤ R.frames ∧ 8 + (maxL + 11) + rm.locals ≤ R.locals) :
    vx_CVW R s args own C index y bytes maxL ret hh ws rm mc ms n := by
  obtain ⟨hC, hd⟩ := hd
  subst hC
  have ok : ∀ w ∈ wsV own index y.cls y ws, w.before args s = true := fun w h => ht w (hT w h).1
  have hG : GoodIn Ts ws := fun w h => hT w (by unfold wsV; exact List.mem_append_right _ h)
  have hc : Cond.codeWith y bytes maxL ret hh ∈ ws := by rw [hw]; exact List.mem_cons_self
  refine ⟨⟨hrc, hrs, hR.1, hR.2, pay_in ht hG, hc⟩, ht _ (hG _ hc).1, ok _ (by simp [wsV]), ⟨hd.1, hd.2.1⟩, fun sig h => ?_, ok _ (by simp [wsV]), ok _ (by simp [wsV]), ok _ (by simp [wsV])⟩
  have h2 := hd.2.2
  rw [h] at h2
  exact (Option.some.inj h2).symm
theorem vx_runVW {y : MethodName} {bytes cc : ByteArray} {maxL nL mc ms n index : Nat} {ret : Option FieldType} {hh : List (Nat × Nat × Nat × Nat)} {ws : List Cond} {rm : Room} {Pc : Array Value → State → Prop} {Qc : Array Value → State → Outcome → State → Prop} {free : Addr → Prop} {Ts : List Cond} {own C : String} {b : Addr} {As rest : List Value} {g : JFrame}
    (S : CallFix p m c cc nL s args Ts own) (hM : Met l y ws rm Pc Qc mc ms free) (cw : vx_CVW R s args own C index y bytes maxL ret hh ws rm mc ms n) (hp : PreV s H C b Pc As)
    (hg : g.method = m) (hn : As.length = n) (hsize : g.locals.size = nL) (hstack : g.stack = As.reverse ++ .ref b :: rest) (hW : 2 * g.monitorRoom + (rest.map fun v => v.category).sum ≤ 8) (hdg : decode cc g.pc = .ok (.invokevirtual index, 3)) (hf : cells + mc ≤ R.cells ∧ slots + ms ≤ R.slots) :
    va_Run p l e R s m args below meth c H locs cells slots mc ms g rest (Qc (Value.ref b :: As).toArray) free := by
  obtain ⟨⟨hrc, hrs, hfr, hlo, hws, hcw⟩, hcode, hini, hy, hlen, hl, hin, hse⟩ := cw
  have hK : Back l R p e below s args y 3 8 (PreOf R mc ms Pc) (PostOf Qc mc ms free) := va_backW (hh := hh) (bytes := bytes) (maxL := maxL) (ret := ret) hM hp.1 hrc hrs hfr hlo hws hcw (fun a' U hW => word_at hW (Or.inl (by first | rfl | simp [Cond.onTables, Cond.keeps, Cond.steady])) hini)
  obtain ⟨hx, hb, hml, ho, -⟩ := S
  obtain ⟨-, ⟨cellB, hcB, hoB, hclB⟩, hPc⟩ := hp
  intro T hT X
  obtain ⟨v, vm₁, ⟨U', l2, c2, s2⟩, hW₁, X', ⟨g', mk, t, L, e1, e2, hq, h1, hL, h2, h3⟩, st⟩ := vx_callVW X hx (C := C) (hh := hh) (bytes := bytes) (maxL := maxL) (ret := ret) ho hl hin hse hcode hy hK (by rw [hT]; exact hcB) hoB hclB hg (hsize.trans hml.symm) (argsL := As) (rest := rest) (fun sig h => hn.trans (hlen sig h)) hstack hW (by rw [hb]; exact hdg)
    (fun vm₁ hW₁ => ⟨hf.1, hf.2, hPc (T.setVm vm₁) hT hW₁⟩)
  dsimp only [Pt.U, Pt.locs, Pt.cells, Pt.slots] at X' e1 e2 h1 h2 h3 st
  subst h1; subst h2; subst h3
  exact ⟨v, (T.setVm vm₁).calling g' mk (Value.ref b :: As).toArray, t, U', L, hT, X', hL, e1, e2, hq, st⟩
section
variable {y : MethodName} {bytes cc : ByteArray} {maxL nL mc ms n index : Nat} {ret : Option FieldType} {ws : List Cond} {rm : Room} {Pc : Array Value → State → Prop} {Qc : Array Value → State → Outcome → State → Prop} {XC : String → State → State → Prop} {free : Addr → Prop} {Ts : List Cond} {own C : String} {b : Addr} {As rest : List Value} {g : JFrame}
theorem vx_runVX {hh : List (Nat × Nat × Nat × Nat)} (S : CallFix p m c cc nL s args Ts own) (hM : vx_Met l y ws rm Pc Qc XC mc ms free) (cw : vx_CVW R s args own C index y bytes maxL ret hh ws rm mc ms n) (hp : PreV s H C b Pc As)
    (hg : g.method = m) (hn : As.length = n) (hsize : g.locals.size = nL) (hstack : g.stack = As.reverse ++ .ref b :: rest) (hW : 2 * g.monitorRoom + (rest.map fun v => v.category).sum ≤ 8) (hdg : decode cc g.pc = .ok (.invokevirtual index, 3)) (hf : cells + mc ≤ R.cells ∧ slots + ms ≤ R.slots) :
    vx_Run p l e R s m args below meth c H locs cells slots mc ms g rest (Qc (Value.ref b :: As).toArray) XC free := by
  obtain ⟨⟨hrc, hrs, hfr, hlo, hws, hcw⟩, hcode, hini, hy, hlen, hl, hin, hse⟩ := cw
  have hK : vx_Back l R p e below s args y 3 8 (PreOf R mc ms Pc) (PostOf Qc mc ms free) (vx_Post XC mc ms free) := vx_backW (hh := hh) (bytes := bytes) (maxL := maxL) (ret := ret) hM hp.1 hrc hrs hfr hlo hws hcw (fun a' U hW => word_at hW (Or.inl (by first | rfl | simp [Cond.onTables, Cond.keeps, Cond.steady])) hini)
  obtain ⟨hx, hb, hml, ho, -⟩ := S
  obtain ⟨-, ⟨cellB, hcB, hoB, hclB⟩, hPc⟩ := hp
  intro T hT X
  rcases vx_callVX X hx (C := C) (hh := hh) (bytes := bytes) (maxL := maxL) (ret := ret) ho hl hin hse hcode hy hK (by rw [hT]; exact hcB) hoB hclB hg (hsize.trans hml.symm) (argsL := As) (rest := rest) (fun sig h => hn.trans (hlen sig h)) hstack hW (by rw [hb]; exact hdg)
    (fun vm₁ hW₁ => ⟨hf.1, hf.2, hPc (T.setVm vm₁) hT hW₁⟩) with ⟨v, vm₁, ⟨U', l2, c2, s2⟩, hW₁, X', ⟨g', mk, t, L, e1, e2, hq, h1, hL, h2, h3⟩, st⟩ | ⟨q, vm₁, ⟨U', l2, c2, s2⟩, hW₁, X', ⟨g', mk, t, L, E, ce, e1, e2, hq, hce, hcv, hcl, h1, hL, h2, h3⟩, st⟩
  · dsimp only [Pt.U, Pt.locs, Pt.cells, Pt.slots] at X' e1 e2 h1 h2 h3 st
    subst h1; subst h2; subst h3
    exact Or.inl ⟨v, (T.setVm vm₁).calling g' mk (Value.ref b :: As).toArray, t, U', L, hT, X', hL, e1, e2, hq, st⟩
  · dsimp only [Pt.U, Pt.locs, Pt.cells, Pt.slots] at X' e1 e2 h1 h2 h3 st hcl
    subst h1; subst h2; subst h3
    exact Or.inr ⟨q, (T.setVm vm₁).calling g' mk (Value.ref b :: As).toArray, t, U', L, E, ce, hT, X', hL, e1, e2, hq, hce, hcv, vx_cls hW₁ hcl, st⟩
theorem vx_runSX {hh : List (Nat × Nat × Nat × Nat)} (S : CallFix p m c cc nL s args Ts own) (hM : vx_Met l y ws rm Pc Qc XC mc ms free) (cw : vx_CSW R s args own index y bytes maxL ret hh ws rm mc ms n) (hp : PreS s H Pc As)
    (hg : g.method = m) (hn : As.length = n) (hsize : g.locals.size = nL) (hstack : g.stack = As.reverse ++ rest) (hW : 2 * g.monitorRoom + (rest.map fun v => v.category).sum ≤ 8) (hdg : decode cc g.pc = .ok (.invokestatic index, 3)) (hf : cells + mc ≤ R.cells ∧ slots + ms ≤ R.slots) :
    vx_Run p l e R s m args below meth c H locs cells slots mc ms g rest (Qc As.toArray) XC free := by
  obtain ⟨⟨hrc, hrs, hfr, hlo, hws, hcw⟩, hcode, hini, hy, hlen, hl, hstt⟩ := cw
  have hK : vx_Back l R p e below s args y 3 8 (PreOf R mc ms Pc) (PostOf Qc mc ms free) (vx_Post XC mc ms free) := vx_backW (hh := hh) (bytes := bytes) (maxL := maxL) (ret := ret) hM hp.1 hrc hrs hfr hlo hws hcw (fun a' U hW => word_at hW (Or.inl (by first | rfl | simp [Cond.onTables, Cond.keeps, Cond.steady])) hini)
  obtain ⟨hx, hb, hml, ho, -⟩ := S
  intro T hT X
  rcases vx_callSX X hx (hh := hh) (bytes := bytes) (maxL := maxL) (ret := ret) ho hl hstt hini hcode hy hK hg (hsize.trans hml.symm) (argsL := As) (rest := rest) (fun sig h => hn.trans (hlen sig h)) hstack hW (by rw [hb]; exact hdg)
    (fun vm₁ hW₁ => ⟨hf.1, hf.2, hp.2 (T.setVm vm₁) hT hW₁⟩) with ⟨v, vm₁, ⟨U', l2, c2, s2⟩, hW₁, X', ⟨g', mk, t, L, e1, e2, hq, h1, hL, h2, h3⟩, st⟩ | ⟨q, vm₁, ⟨U', l2, c2, s2⟩, hW₁, X', ⟨g', mk, t, L, E, ce, e1, e2, hq, hce, hcv, hcl, h1, hL, h2, h3⟩, st⟩
  · dsimp only [Pt.U, Pt.locs, Pt.cells, Pt.slots] at X' e1 e2 h1 h2 h3 st
    subst h1; subst h2; subst h3
    exact Or.inl ⟨v, (T.setVm vm₁).calling g' mk As.toArray, t, U', L, hT, X', hL, e1, e2, hq, st⟩
  · dsimp only [Pt.U, Pt.locs, Pt.cells, Pt.slots] at X' e1 e2 h1 h2 h3 st hcl
    subst h1; subst h2; subst h3
    exact Or.inr ⟨q, (T.setVm vm₁).calling g' mk As.toArray, t, U', L, E, ce, hT, X', hL, e1, e2, hq, hce, hcv, vx_cls hW₁ hcl, st⟩
end
end VXH
theorem vx_ofWH {l : Launch} {y : MethodName} {ws ws' : List Cond} {rm : Room} {Pc : Array Value → State → Prop} {Qc : Array Value → State → Outcome → State → Prop} {XC : String → State → State → Prop} {mc ms : Nat} {free : Addr → Prop} {cc : ByteArray} {maxL : Nat} {ret : Option FieldType} {hh : List (Nat × Nat × Nat × Nat)}
    (hy : plainName y.cls = true) (hw : ws = Cond.codeWith y cc maxL ret hh :: ws')
    (body : ∀ p e s m args below meth c s₁, BodyLoose p l y (headSpec ws rm) cc maxL ret e s m args below meth c s₁ → c.maxLocals = maxL → Pc args s →
      W p l e (headSpec ws rm).room s m args below meth c s.heap [] 0 0 (vx_MQ below Qc XC args s mc ms free) (entryFrame m args maxL)) : vx_Met l y ws rm Pc Qc XC mc ms free := by
  refine MetFree.of_bodyS (code := cc) (maxLocals := maxL) (ret := ret) hy ?_ ?_
  · intro args s m h hn
    obtain ⟨m9, meth, c, hn9, h1, h2, h3, h4, -, h5, h6, -⟩ := Cond.codeWith_spec (atoms_spec (ws := ws) h _ (by rw [hw]; exact List.mem_cons_self))
    cases hn.symm.trans hn9
    exact ⟨meth, c, h1, h2, h3, h4, h5, h6⟩
  · intro p e s m args below meth c s₁ B hml hP _
    have hh0 : s₁.heap = s.heap := by rw [B.state]; rfl
    obtain ⟨t, a1, o, b1, b2, b3⟩ := body p e s m args below meth c s₁ B hml hP s₁ hh0 (Stand.of_body B)
    exact ⟨t, o, a1, b1, b2, b3⟩
/-! ===== END ===== -/
end
section
/-! ===== BEGIN printed: names, fields, word lists, decode rows ===== -/
def RX0 : String := "GlossedPage$Authors"
def TX0 : u_T := fun k => match k with
  | 0 => ("GlossedPage$Authors", "years", "[I", true)
  | 1 => ("GlossedPage$Authors", "schools", "[I", true)
  | 2 => ("GlossedPage$Authors", "initials", "[I", true)
  | _ => ("GlossedPage$Authors", "count", "I", false)
def tyX0 : Nat → FieldType := fun k => match k with
  | 0 => .array .int
  | 1 => .array .int
  | 2 => .array .int
  | _ => .int
abbrev wsX00 : List Cond := u_ws RX0 TX0 4
theorem nmX0 : ∀ a, a < 4 → ∀ b, b < 4 → a ≠ b → (TX0 a).2.1 ≠ (TX0 b).2.1 := by decide +kernel
theorem tyX0_ok : ∀ k, k < 4 → parseFieldDescriptor (TX0 k).2.2.1 = some (tyX0 k) := by decide +kernel
abbrev cX0_init : ByteArray := prog_2_method_1_code
def yX0_init : MethodName := ⟨RX0, "<init>", "()V"⟩
abbrev cX0_count : ByteArray := prog_2_method_2_code
def yX0_count : MethodName := ⟨RX0, "count", "()I"⟩
abbrev cX0_isFull : ByteArray := prog_2_method_3_code
def yX0_isFull : MethodName := ⟨RX0, "isFull", "()Z"⟩
abbrev cX0_has : ByteArray := prog_2_method_4_code
def yX0_has : MethodName := ⟨RX0, "has", "(I)Z"⟩
abbrev cX0_add : ByteArray := prog_2_method_5_code
def yX0_add : MethodName := ⟨RX0, "add", "(III)V"⟩
abbrev cX0_yearOf : ByteArray := prog_2_method_6_code
def yX0_yearOf : MethodName := ⟨RX0, "yearOf", "(I)I"⟩
abbrev cX0_schoolOf : ByteArray := prog_2_method_7_code
def yX0_schoolOf : MethodName := ⟨RX0, "schoolOf", "(I)I"⟩
abbrev cX0_latestCalled : ByteArray := prog_2_method_8_code
def yX0_latestCalled : MethodName := ⟨RX0, "latestCalled", "(II)I"⟩
abbrev cX0_latestAmong : ByteArray := prog_2_method_9_code
def yX0_latestAmong : MethodName := ⟨RX0, "latestAmong", "(II)I"⟩
abbrev cX0_later : ByteArray := prog_2_method_10_code
def yX0_later : MethodName := ⟨RX0, "later", "(II)I"⟩
def RX1 : String := "GlossedPage$Comments"
def TX1 : u_T := fun k => match k with
  | 0 => ("GlossedPage$Comments", "writers", "[I", true)
  | 1 => ("GlossedPage$Comments", "kinds", "[I", true)
  | 2 => ("GlossedPage$Comments", "lines", "[I", true)
  | 3 => ("GlossedPage$Comments", "margins", "[I", true)
  | 4 => ("GlossedPage$Comments", "parents", "[I", true)
  | 5 => ("GlossedPage$Comments", "roots", "[I", true)
  | 6 => ("GlossedPage$Comments", "units", "[I", true)
  | 7 => ("GlossedPage$Comments", "places", "[I", true)
  | 8 => ("GlossedPage$Comments", "words", "[I", true)
  | 9 => ("GlossedPage$Comments", "lost", "[Z", true)
  | 10 => ("GlossedPage$Comments", "burdens", "[I", true)
  | _ => ("GlossedPage$Comments", "count", "I", false)
def tyX1 : Nat → FieldType := fun k => match k with
  | 0 => .array .int
  | 1 => .array .int
  | 2 => .array .int
  | 3 => .array .int
  | 4 => .array .int
  | 5 => .array .int
  | 6 => .array .int
  | 7 => .array .int
  | 8 => .array .int
  | 9 => .array .boolean
  | 10 => .array .int
  | _ => .int
abbrev wsX10 : List Cond := u_ws RX1 TX1 12
theorem nmX1 : ∀ a, a < 12 → ∀ b, b < 12 → a ≠ b → (TX1 a).2.1 ≠ (TX1 b).2.1 := by decide +kernel
theorem tyX1_ok : ∀ k, k < 12 → parseFieldDescriptor (TX1 k).2.2.1 = some (tyX1 k) := by decide +kernel
abbrev cX1_init : ByteArray := prog_3_method_1_code
def yX1_init : MethodName := ⟨RX1, "<init>", "()V"⟩
abbrev cX1_count : ByteArray := prog_3_method_2_code
def yX1_count : MethodName := ⟨RX1, "count", "()I"⟩
abbrev cX1_isFull : ByteArray := prog_3_method_3_code
def yX1_isFull : MethodName := ⟨RX1, "isFull", "()Z"⟩
abbrev cX1_has : ByteArray := prog_3_method_4_code
def yX1_has : MethodName := ⟨RX1, "has", "(I)Z"⟩
abbrev cX1_add : ByteArray := prog_3_method_5_code
def yX1_add : MethodName := ⟨RX1, "add", "(IIII)I"⟩
abbrev cX1_hookTo : ByteArray := prog_3_method_6_code
def yX1_hookTo : MethodName := ⟨RX1, "hookTo", "(IIII)V"⟩
abbrev cX1_putOn : ByteArray := prog_3_method_7_code
def yX1_putOn : MethodName := ⟨RX1, "putOn", "(II)V"⟩
abbrev cX1_authorOf : ByteArray := prog_3_method_8_code
def yX1_authorOf : MethodName := ⟨RX1, "authorOf", "(I)I"⟩
abbrev cX1_kindOf : ByteArray := prog_3_method_9_code
def yX1_kindOf : MethodName := ⟨RX1, "kindOf", "(I)I"⟩
abbrev cX1_linesOf : ByteArray := prog_3_method_10_code
def yX1_linesOf : MethodName := ⟨RX1, "linesOf", "(I)I"⟩
abbrev cX1_marginOf : ByteArray := prog_3_method_11_code
def yX1_marginOf : MethodName := ⟨RX1, "marginOf", "(I)I"⟩
abbrev cX1_parentOf : ByteArray := prog_3_method_12_code
def yX1_parentOf : MethodName := ⟨RX1, "parentOf", "(I)I"⟩
abbrev cX1_unitOf : ByteArray := prog_3_method_13_code
def yX1_unitOf : MethodName := ⟨RX1, "unitOf", "(I)I"⟩
abbrev cX1_placeOf : ByteArray := prog_3_method_14_code
def yX1_placeOf : MethodName := ⟨RX1, "placeOf", "(I)I"⟩
abbrev cX1_isLost : ByteArray := prog_3_method_15_code
def yX1_isLost : MethodName := ⟨RX1, "isLost", "(I)Z"⟩
abbrev cX1_isHook : ByteArray := prog_3_method_16_code
def yX1_isHook : MethodName := ⟨RX1, "isHook", "(II)Z"⟩
abbrev cX1_closeGap : ByteArray := prog_3_method_17_code
def yX1_closeGap : MethodName := ⟨RX1, "closeGap", "(III)V"⟩
abbrev cX1_hookAnew : ByteArray := prog_3_method_18_code
def yX1_hookAnew : MethodName := ⟨RX1, "hookAnew", "(ILGlossedPage$Text;)I"⟩
abbrev cX1_stands : ByteArray := prog_3_method_19_code
def yX1_stands : MethodName := ⟨RX1, "stands", "(I)Z"⟩
abbrev cX1_weigh : ByteArray := prog_3_method_20_code
def yX1_weigh : MethodName := ⟨RX1, "weigh", "()V"⟩
abbrev cX1_isLight : ByteArray := prog_3_method_21_code
def yX1_isLight : MethodName := ⟨RX1, "isLight", "(I)Z"⟩
abbrev cX1_burdenOf : ByteArray := prog_3_method_22_code
def yX1_burdenOf : MethodName := ⟨RX1, "burdenOf", "(I)I"⟩
abbrev cX1_isDoubt : ByteArray := prog_3_method_23_code
def yX1_isDoubt : MethodName := ⟨RX1, "isDoubt", "(I)Z"⟩
abbrev cX1_haveDoubtOn : ByteArray := prog_3_method_24_code
def yX1_haveDoubtOn : MethodName := ⟨RX1, "haveDoubtOn", "(I)Z"⟩
abbrev cX1_solvedBy : ByteArray := prog_3_method_25_code
def yX1_solvedBy : MethodName := ⟨RX1, "solvedBy", "(ILGlossedPage$Authors;)I"⟩
abbrev cX1_lowestAnswerTo : ByteArray := prog_3_method_26_code
def yX1_lowestAnswerTo : MethodName := ⟨RX1, "lowestAnswerTo", "(I)I"⟩
def RX2 : String := "GlossedPage$Editions"
def TX2 : u_T := fun k => match k with
  | 0 => ("GlossedPage$Editions", "addresses", "[I", true)
  | 1 => ("GlossedPage$Editions", "pageCounts", "[I", true)
  | 2 => ("GlossedPage$Editions", "unitCounts", "[I", true)
  | 3 => ("GlossedPage$Editions", "count", "I", false)
  | _ => ("GlossedPage$Editions", "width", "I", false)
def tyX2 : Nat → FieldType := fun k => match k with
  | 0 => .array .int
  | 1 => .array .int
  | 2 => .array .int
  | 3 => .int
  | _ => .int
abbrev wsX20 : List Cond := u_ws RX2 TX2 5
theorem nmX2 : ∀ a, a < 5 → ∀ b, b < 5 → a ≠ b → (TX2 a).2.1 ≠ (TX2 b).2.1 := by decide +kernel
theorem tyX2_ok : ∀ k, k < 5 → parseFieldDescriptor (TX2 k).2.2.1 = some (tyX2 k) := by decide +kernel
abbrev cX2_init : ByteArray := prog_4_method_1_code
def yX2_init : MethodName := ⟨RX2, "<init>", "()V"⟩
abbrev cX2_count : ByteArray := prog_4_method_2_code
def yX2_count : MethodName := ⟨RX2, "count", "()I"⟩
abbrev cX2_isFull : ByteArray := prog_4_method_3_code
def yX2_isFull : MethodName := ⟨RX2, "isFull", "()Z"⟩
abbrev cX2_has : ByteArray := prog_4_method_4_code
def yX2_has : MethodName := ⟨RX2, "has", "(I)Z"⟩
abbrev cX2_latestWidth : ByteArray := prog_4_method_5_code
def yX2_latestWidth : MethodName := ⟨RX2, "latestWidth", "()I"⟩
abbrev cX2_add : ByteArray := prog_4_method_6_code
def yX2_add : MethodName := ⟨RX2, "add", "(LGlossedPage$Setting;III)V"⟩
abbrev cX2_pagesOf : ByteArray := prog_4_method_7_code
def yX2_pagesOf : MethodName := ⟨RX2, "pagesOf", "(I)I"⟩
abbrev cX2_addressIn : ByteArray := prog_4_method_8_code
def yX2_addressIn : MethodName := ⟨RX2, "addressIn", "(II)I"⟩
abbrev cX2_pageIn : ByteArray := prog_4_method_9_code
def yX2_pageIn : MethodName := ⟨RX2, "pageIn", "(II)I"⟩
abbrev cX2_countHeld : ByteArray := prog_4_method_10_code
def yX2_countHeld : MethodName := ⟨RX2, "countHeld", "(I)I"⟩
abbrev cX2_unitsOn : ByteArray := prog_4_method_11_code
def yX2_unitsOn : MethodName := ⟨RX2, "unitsOn", "(I)I"⟩
def RX3 : String := "GlossedPage$Margin"
def TX3 : u_T := fun k => match k with
  | 0 => ("GlossedPage$Margin", "heights", "[I", true)
  | _ => ("GlossedPage$Margin", "free", "I", false)
def tyX3 : Nat → FieldType := fun k => match k with
  | 0 => .array .int
  | _ => .int
abbrev wsX30 : List Cond := u_ws RX3 TX3 2
theorem nmX3 : ∀ a, a < 2 → ∀ b, b < 2 → a ≠ b → (TX3 a).2.1 ≠ (TX3 b).2.1 := by decide +kernel
theorem tyX3_ok : ∀ k, k < 2 → parseFieldDescriptor (TX3 k).2.2.1 = some (tyX3 k) := by decide +kernel
abbrev cX3_init : ByteArray := prog_5_method_1_code
def yX3_init : MethodName := ⟨RX3, "<init>", "()V"⟩
abbrev cX3_free : ByteArray := prog_5_method_2_code
def yX3_free : MethodName := ⟨RX3, "free", "()I"⟩
abbrev cX3_clear : ByteArray := prog_5_method_3_code
def yX3_clear : MethodName := ⟨RX3, "clear", "()V"⟩
abbrev cX3_add : ByteArray := prog_5_method_4_code
def yX3_add : MethodName := ⟨RX3, "add", "(II)V"⟩
abbrev cX3_rowFor : ByteArray := prog_5_method_5_code
def yX3_rowFor : MethodName := ⟨RX3, "rowFor", "(II)I"⟩
abbrev cX3_fill : ByteArray := prog_5_method_6_code
def yX3_fill : MethodName := ⟨RX3, "fill", "(II)V"⟩
def RX4 : String := "GlossedPage$Pad"
def TX4 : u_T := fun k => match k with
  | 0 => ("GlossedPage$Pad", "words", "[I", true)
  | _ => ("GlossedPage$Pad", "size", "I", false)
def tyX4 : Nat → FieldType := fun k => match k with
  | 0 => .array .int
  | _ => .int
abbrev wsX40 : List Cond := u_ws RX4 TX4 2
theorem nmX4 : ∀ a, a < 2 → ∀ b, b < 2 → a ≠ b → (TX4 a).2.1 ≠ (TX4 b).2.1 := by decide +kernel
theorem tyX4_ok : ∀ k, k < 2 → parseFieldDescriptor (TX4 k).2.2.1 = some (tyX4 k) := by decide +kernel
abbrev cX4_init : ByteArray := prog_6_method_1_code
def yX4_init : MethodName := ⟨RX4, "<init>", "()V"⟩
abbrev cX4_size : ByteArray := prog_6_method_2_code
def yX4_size : MethodName := ⟨RX4, "size", "()I"⟩
abbrev cX4_isFull : ByteArray := prog_6_method_3_code
def yX4_isFull : MethodName := ⟨RX4, "isFull", "()Z"⟩
abbrev cX4_add : ByteArray := prog_6_method_4_code
def yX4_add : MethodName := ⟨RX4, "add", "(I)V"⟩
abbrev cX4_clear : ByteArray := prog_6_method_5_code
def yX4_clear : MethodName := ⟨RX4, "clear", "()V"⟩
abbrev cX4_wordAt : ByteArray := prog_6_method_6_code
def yX4_wordAt : MethodName := ⟨RX4, "wordAt", "(I)I"⟩
def RX5 : String := "GlossedPage$Rulings"
def TX5 : u_T := fun k => match k with
  | 0 => ("GlossedPage$Rulings", "ruled", "[I", true)
  | 1 => ("GlossedPage$Rulings", "yes", "[I", true)
  | 2 => ("GlossedPage$Rulings", "ruleKinds", "[I", true)
  | 3 => ("GlossedPage$Rulings", "ruleWhats", "[I", true)
  | _ => ("GlossedPage$Rulings", "rules", "I", false)
def tyX5 : Nat → FieldType := fun k => match k with
  | 0 => .array .int
  | 1 => .array .int
  | 2 => .array .int
  | 3 => .array .int
  | _ => .int
abbrev wsX50 : List Cond := u_ws RX5 TX5 5
theorem nmX5 : ∀ a, a < 5 → ∀ b, b < 5 → a ≠ b → (TX5 a).2.1 ≠ (TX5 b).2.1 := by decide +kernel
theorem tyX5_ok : ∀ k, k < 5 → parseFieldDescriptor (TX5 k).2.2.1 = some (tyX5 k) := by decide +kernel
abbrev cX5_init : ByteArray := prog_7_method_1_code
def yX5_init : MethodName := ⟨RX5, "<init>", "()V"⟩
abbrev cX5_has : ByteArray := prog_7_method_2_code
def yX5_has : MethodName := ⟨RX5, "has", "(II)Z"⟩
abbrev cX5_add : ByteArray := prog_7_method_3_code
def yX5_add : MethodName := ⟨RX5, "add", "(IIZ)V"⟩
abbrev cX5_countOn : ByteArray := prog_7_method_4_code
def yX5_countOn : MethodName := ⟨RX5, "countOn", "(I)I"⟩
abbrev cX5_areRulesFull : ByteArray := prog_7_method_5_code
def yX5_areRulesFull : MethodName := ⟨RX5, "areRulesFull", "()Z"⟩
abbrev cX5_countRules : ByteArray := prog_7_method_6_code
def yX5_countRules : MethodName := ⟨RX5, "countRules", "()I"⟩
abbrev cX5_hasRule : ByteArray := prog_7_method_7_code
def yX5_hasRule : MethodName := ⟨RX5, "hasRule", "(I)Z"⟩
abbrev cX5_kindOfRule : ByteArray := prog_7_method_8_code
def yX5_kindOfRule : MethodName := ⟨RX5, "kindOfRule", "(I)I"⟩
abbrev cX5_addRule : ByteArray := prog_7_method_9_code
def yX5_addRule : MethodName := ⟨RX5, "addRule", "(II)V"⟩
abbrev cX5_removeRule : ByteArray := prog_7_method_10_code
def yX5_removeRule : MethodName := ⟨RX5, "removeRule", "(I)V"⟩
abbrev cX5_decide : ByteArray := prog_7_method_11_code
def yX5_decide : MethodName := ⟨RX5, "decide", "(ILGlossedPage$Authors;)I"⟩
abbrev cX5_tell : ByteArray := prog_7_method_12_code
def yX5_tell : MethodName := ⟨RX5, "tell", "(IIILGlossedPage$Authors;)I"⟩
abbrev cX5_rulingOf : ByteArray := prog_7_method_13_code
def yX5_rulingOf : MethodName := ⟨RX5, "rulingOf", "(II)I"⟩
abbrev cX5_rulingOfMost : ByteArray := prog_7_method_14_code
def yX5_rulingOfMost : MethodName := ⟨RX5, "rulingOfMost", "(I)I"⟩
def RX6 : String := "GlossedPage$Setting"
def TX6 : u_T := fun k => match k with
  | 0 => ("GlossedPage$Setting", "inner", "LGlossedPage$Margin;", true)
  | 1 => ("GlossedPage$Setting", "outer", "LGlossedPage$Margin;", true)
  | 2 => ("GlossedPage$Setting", "rows", "[I", true)
  | 3 => ("GlossedPage$Setting", "width", "I", false)
  | _ => ("GlossedPage$Setting", "next", "I", false)
def tyX6 : Nat → FieldType := fun k => match k with
  | 0 => .object "GlossedPage$Margin"
  | 1 => .object "GlossedPage$Margin"
  | 2 => .array .int
  | 3 => .int
  | _ => .int
abbrev wsX60 : List Cond := u_ws RX6 TX6 5
theorem nmX6 : ∀ a, a < 5 → ∀ b, b < 5 → a ≠ b → (TX6 a).2.1 ≠ (TX6 b).2.1 := by decide +kernel
theorem tyX6_ok : ∀ k, k < 5 → parseFieldDescriptor (TX6 k).2.2.1 = some (tyX6 k) := by decide +kernel
abbrev cX6_init : ByteArray := prog_8_method_1_code
def yX6_init : MethodName := ⟨RX6, "<init>", "()V"⟩
abbrev cX6_set : ByteArray := prog_8_method_2_code
def yX6_set : MethodName := ⟨RX6, "set", "(LGlossedPage$Text;LGlossedPage$Comments;I)V"⟩
abbrev cX6_firstOfLine : ByteArray := prog_8_method_3_code
def yX6_firstOfLine : MethodName := ⟨RX6, "firstOfLine", "(I)I"⟩
abbrev cX6_gatherNotes : ByteArray := prog_8_method_4_code
def yX6_gatherNotes : MethodName := ⟨RX6, "gatherNotes", "(LGlossedPage$Comments;)V"⟩
abbrev cX6_lineOf : ByteArray := prog_8_method_5_code
def yX6_lineOf : MethodName := ⟨RX6, "lineOf", "(ILGlossedPage$Comments;)I"⟩
abbrev cX6_setLine : ByteArray := prog_8_method_6_code
def yX6_setLine : MethodName := ⟨RX6, "setLine", "(I)V"⟩
abbrev cX6_rowOfUnit : ByteArray := prog_8_method_7_code
def yX6_rowOfUnit : MethodName := ⟨RX6, "rowOfUnit", "(I)I"⟩
abbrev cX6_rowOfNote : ByteArray := prog_8_method_8_code
def yX6_rowOfNote : MethodName := ⟨RX6, "rowOfNote", "(ILGlossedPage$Comments;)I"⟩
abbrev cX6_height : ByteArray := prog_8_method_9_code
def yX6_height : MethodName := ⟨RX6, "height", "()I"⟩
def RX7 : String := "GlossedPage$Text"
def TX7 : u_T := fun k => match k with
  | 0 => ("GlossedPage$Text", "words", "[I", true)
  | 1 => ("GlossedPage$Text", "sizes", "[I", true)
  | 2 => ("GlossedPage$Text", "likenesses", "[I", true)
  | _ => ("GlossedPage$Text", "count", "I", false)
def tyX7 : Nat → FieldType := fun k => match k with
  | 0 => .array .int
  | 1 => .array .int
  | 2 => .array .int
  | _ => .int
abbrev wsX70 : List Cond := u_ws RX7 TX7 4
theorem nmX7 : ∀ a, a < 4 → ∀ b, b < 4 → a ≠ b → (TX7 a).2.1 ≠ (TX7 b).2.1 := by decide +kernel
theorem tyX7_ok : ∀ k, k < 4 → parseFieldDescriptor (TX7 k).2.2.1 = some (tyX7 k) := by decide +kernel
abbrev cX7_init : ByteArray := prog_9_method_1_code
def yX7_init : MethodName := ⟨RX7, "<init>", "()V"⟩
abbrev cX7_count : ByteArray := prog_9_method_2_code
def yX7_count : MethodName := ⟨RX7, "count", "()I"⟩
abbrev cX7_isFull : ByteArray := prog_9_method_3_code
def yX7_isFull : MethodName := ⟨RX7, "isFull", "()Z"⟩
abbrev cX7_has : ByteArray := prog_9_method_4_code
def yX7_has : MethodName := ⟨RX7, "has", "(I)Z"⟩
abbrev cX7_hasPlace : ByteArray := prog_9_method_5_code
def yX7_hasPlace : MethodName := ⟨RX7, "hasPlace", "(II)Z"⟩
abbrev cX7_sizeOf : ByteArray := prog_9_method_6_code
def yX7_sizeOf : MethodName := ⟨RX7, "sizeOf", "(I)I"⟩
abbrev cX7_wordAt : ByteArray := prog_9_method_7_code
def yX7_wordAt : MethodName := ⟨RX7, "wordAt", "(II)I"⟩
abbrev cX7_put : ByteArray := prog_9_method_8_code
def yX7_put : MethodName := ⟨RX7, "put", "(III)V"⟩
abbrev cX7_add : ByteArray := prog_9_method_9_code
def yX7_add : MethodName := ⟨RX7, "add", "(LGlossedPage$Pad;)V"⟩
abbrev cX7_takeOut : ByteArray := prog_9_method_10_code
def yX7_takeOut : MethodName := ⟨RX7, "takeOut", "(II)V"⟩
abbrev cX7_placeOf : ByteArray := prog_9_method_11_code
def yX7_placeOf : MethodName := ⟨RX7, "placeOf", "(III)I"⟩
abbrev cX7_nearest : ByteArray := prog_9_method_12_code
def yX7_nearest : MethodName := ⟨RX7, "nearest", "(III)I"⟩
abbrev cX7_mostLike : ByteArray := prog_9_method_13_code
def yX7_mostLike : MethodName := ⟨RX7, "mostLike", "(LGlossedPage$Pad;)I"⟩
abbrev cX7_likeness : ByteArray := prog_9_method_14_code
def yX7_likeness : MethodName := ⟨RX7, "likeness", "(ILGlossedPage$Pad;)I"⟩
def RX8 : String := "GlossedPage"
def TX8 : u_T := fun k => match k with
  | 0 => ("GlossedPage", "pad", "LGlossedPage$Pad;", true)
  | 1 => ("GlossedPage", "text", "LGlossedPage$Text;", true)
  | 2 => ("GlossedPage", "authors", "LGlossedPage$Authors;", true)
  | 3 => ("GlossedPage", "comments", "LGlossedPage$Comments;", true)
  | 4 => ("GlossedPage", "rulings", "LGlossedPage$Rulings;", true)
  | 5 => ("GlossedPage", "setting", "LGlossedPage$Setting;", true)
  | _ => ("GlossedPage", "editions", "LGlossedPage$Editions;", true)
def tyX8 : Nat → FieldType := fun k => match k with
  | 0 => .object "GlossedPage$Pad"
  | 1 => .object "GlossedPage$Text"
  | 2 => .object "GlossedPage$Authors"
  | 3 => .object "GlossedPage$Comments"
  | 4 => .object "GlossedPage$Rulings"
  | 5 => .object "GlossedPage$Setting"
  | _ => .object "GlossedPage$Editions"
abbrev wsX80 : List Cond := u_ws RX8 TX8 7
theorem nmX8 : ∀ a, a < 7 → ∀ b, b < 7 → a ≠ b → (TX8 a).2.1 ≠ (TX8 b).2.1 := by decide +kernel
theorem tyX8_ok : ∀ k, k < 7 → parseFieldDescriptor (TX8 k).2.2.1 = some (tyX8 k) := by decide +kernel
abbrev cX8_init : ByteArray := prog_1_method_1_code
def yX8_init : MethodName := ⟨RX8, "<init>", "()V"⟩
abbrev cX8_word : ByteArray := prog_1_method_2_code
def yX8_word : MethodName := ⟨RX8, "word", "(I)I"⟩
abbrev cX8_wipe : ByteArray := prog_1_method_3_code
def yX8_wipe : MethodName := ⟨RX8, "wipe", "()I"⟩
abbrev cX8_unit : ByteArray := prog_1_method_4_code
def yX8_unit : MethodName := ⟨RX8, "unit", "()I"⟩
abbrev cX8_emend : ByteArray := prog_1_method_5_code
def yX8_emend : MethodName := ⟨RX8, "emend", "(III)I"⟩
abbrev cX8_textOf : ByteArray := prog_1_method_6_code
def yX8_textOf : MethodName := ⟨RX8, "textOf", "(II)I"⟩
abbrev cX8_author : ByteArray := prog_1_method_7_code
def yX8_author : MethodName := ⟨RX8, "author", "(III)I"⟩
abbrev cX8_meant : ByteArray := prog_1_method_8_code
def yX8_meant : MethodName := ⟨RX8, "meant", "(II)I"⟩
abbrev cX8_comment : ByteArray := prog_1_method_9_code
def yX8_comment : MethodName := ⟨RX8, "comment", "(IIIIIII)I"⟩
abbrev cX8_gloss : ByteArray := prog_1_method_10_code
def yX8_gloss : MethodName := ⟨RX8, "gloss", "(IIIII)I"⟩
abbrev cX8_told : ByteArray := prog_1_method_11_code
def yX8_told : MethodName := ⟨RX8, "told", "(II)I"⟩
abbrev cX8_standsAnew : ByteArray := prog_1_method_12_code
def yX8_standsAnew : MethodName := ⟨RX8, "standsAnew", "(I)Z"⟩
abbrev cX8_isHard : ByteArray := prog_1_method_13_code
def yX8_isHard : MethodName := ⟨RX8, "isHard", "(I)Z"⟩
abbrev cX8_solved : ByteArray := prog_1_method_14_code
def yX8_solved : MethodName := ⟨RX8, "solved", "(I)I"⟩
abbrev cX8_found : ByteArray := prog_1_method_15_code
def yX8_found : MethodName := ⟨RX8, "found", "()I"⟩
abbrev cX8_exact : ByteArray := prog_1_method_16_code
def yX8_exact : MethodName := ⟨RX8, "exact", "()I"⟩
abbrev cX8_ruling : ByteArray := prog_1_method_17_code
def yX8_ruling : MethodName := ⟨RX8, "ruling", "(IIZ)I"⟩
abbrev cX8_follow : ByteArray := prog_1_method_18_code
def yX8_follow : MethodName := ⟨RX8, "follow", "(II)I"⟩
abbrev cX8_unfollow : ByteArray := prog_1_method_19_code
def yX8_unfollow : MethodName := ⟨RX8, "unfollow", "(I)I"⟩
abbrev cX8_decided : ByteArray := prog_1_method_20_code
def yX8_decided : MethodName := ⟨RX8, "decided", "(I)I"⟩
abbrev cX8_edition : ByteArray := prog_1_method_21_code
def yX8_edition : MethodName := ⟨RX8, "edition", "(II)I"⟩
abbrev cX8_address : ByteArray := prog_1_method_22_code
def yX8_address : MethodName := ⟨RX8, "address", "(II)I"⟩
abbrev cX8_pages : ByteArray := prog_1_method_23_code
def yX8_pages : MethodName := ⟨RX8, "pages", "(I)I"⟩
abbrev cX8_row : ByteArray := prog_1_method_24_code
def yX8_row : MethodName := ⟨RX8, "row", "(I)I"⟩
abbrev cX8_holds : ByteArray := prog_1_method_25_code
def yX8_holds : MethodName := ⟨RX8, "holds", "(I)I"⟩
abbrev cX8_daily : ByteArray := prog_1_method_26_code
def yX8_daily : MethodName := ⟨RX8, "daily", "(I)I"⟩
abbrev cX8_needArgument : ByteArray := prog_1_method_27_code
def yX8_needArgument : MethodName := ⟨RX8, "needArgument", "(III)V"⟩
abbrev cX8_needUnit : ByteArray := prog_1_method_28_code
def yX8_needUnit : MethodName := ⟨RX8, "needUnit", "(I)V"⟩
abbrev cX8_needAuthor : ByteArray := prog_1_method_29_code
def yX8_needAuthor : MethodName := ⟨RX8, "needAuthor", "(I)V"⟩
abbrev cX8_needComment : ByteArray := prog_1_method_30_code
def yX8_needComment : MethodName := ⟨RX8, "needComment", "(I)V"⟩
abbrev cX8_needRoomForComment : ByteArray := prog_1_method_31_code
def yX8_needRoomForComment : MethodName := ⟨RX8, "needRoomForComment", "()V"⟩
abbrev cX8_needTopic : ByteArray := prog_1_method_32_code
def yX8_needTopic : MethodName := ⟨RX8, "needTopic", "(I)V"⟩
abbrev cX8_needEdition : ByteArray := prog_1_method_33_code
def yX8_needEdition : MethodName := ⟨RX8, "needEdition", "(I)V"⟩
abbrev cX8_at : ByteArray := prog_1_method_34_code
def yX8_at : MethodName := ⟨RX8, "at", "([II)I"⟩
def RX9 : String := "GlossedPageModel"
def TX9 : u_T := fun k => match k with
  | 0 => ("GlossedPageModel", "thrown", "I", false)
  | 1 => ("GlossedPageModel", "pad", "[I", true)
  | 2 => ("GlossedPageModel", "padMany", "I", false)
  | 3 => ("GlossedPageModel", "unitMany", "I", false)
  | 4 => ("GlossedPageModel", "texts", "[I", true)
  | 5 => ("GlossedPageModel", "lengths", "[I", true)
  | 6 => ("GlossedPageModel", "authorMany", "I", false)
  | 7 => ("GlossedPageModel", "years", "[I", true)
  | 8 => ("GlossedPageModel", "schools", "[I", true)
  | 9 => ("GlossedPageModel", "initials", "[I", true)
  | 10 => ("GlossedPageModel", "commentMany", "I", false)
  | 11 => ("GlossedPageModel", "by", "[I", true)
  | 12 => ("GlossedPageModel", "kinds", "[I", true)
  | 13 => ("GlossedPageModel", "on", "[I", true)
  | 14 => ("GlossedPageModel", "roots", "[I", true)
  | 15 => ("GlossedPageModel", "units", "[I", true)
  | 16 => ("GlossedPageModel", "words", "[I", true)
  | 17 => ("GlossedPageModel", "places", "[I", true)
  | 18 => ("GlossedPageModel", "lost", "[Z", true)
  | 19 => ("GlossedPageModel", "heights", "[I", true)
  | 20 => ("GlossedPageModel", "margins", "[I", true)
  | 21 => ("GlossedPageModel", "stands", "[Z", true)
  | 22 => ("GlossedPageModel", "ruled", "[I", true)
  | 23 => ("GlossedPageModel", "ruleMany", "I", false)
  | 24 => ("GlossedPageModel", "ruleKinds", "[I", true)
  | 25 => ("GlossedPageModel", "ruleWhats", "[I", true)
  | 26 => ("GlossedPageModel", "editionMany", "I", false)
  | 27 => ("GlossedPageModel", "widths", "[I", true)
  | 28 => ("GlossedPageModel", "pageMany", "[I", true)
  | 29 => ("GlossedPageModel", "addresses", "[I", true)
  | 30 => ("GlossedPageModel", "unitRows", "[I", true)
  | 31 => ("GlossedPageModel", "noteRows", "[I", true)
  | 32 => ("GlossedPageModel", "lastRow", "I", false)
  | _ => ("GlossedPageModel", "common", "[I", true)
def tyX9 : Nat → FieldType := fun k => match k with
  | 0 => .int
  | 1 => .array .int
  | 2 => .int
  | 3 => .int
  | 4 => .array .int
  | 5 => .array .int
  | 6 => .int
  | 7 => .array .int
  | 8 => .array .int
  | 9 => .array .int
  | 10 => .int
  | 11 => .array .int
  | 12 => .array .int
  | 13 => .array .int
  | 14 => .array .int
  | 15 => .array .int
  | 16 => .array .int
  | 17 => .array .int
  | 18 => .array .boolean
  | 19 => .array .int
  | 20 => .array .int
  | 21 => .array .boolean
  | 22 => .array .int
  | 23 => .int
  | 24 => .array .int
  | 25 => .array .int
  | 26 => .int
  | 27 => .array .int
  | 28 => .array .int
  | 29 => .array .int
  | 30 => .array .int
  | 31 => .array .int
  | 32 => .int
  | _ => .array .int
abbrev wsX90 : List Cond := u_ws RX9 TX9 34
theorem nmX9 : ∀ a, a < 34 → ∀ b, b < 34 → a ≠ b → (TX9 a).2.1 ≠ (TX9 b).2.1 := by decide +kernel
theorem tyX9_ok : ∀ k, k < 34 → parseFieldDescriptor (TX9 k).2.2.1 = some (tyX9 k) := by decide +kernel
abbrev cX9_init : ByteArray := prog_11_method_1_code
def yX9_init : MethodName := ⟨RX9, "<init>", "()V"⟩
abbrev cX9_thrown : ByteArray := prog_11_method_2_code
def yX9_thrown : MethodName := ⟨RX9, "thrown", "()I"⟩
abbrev cX9_between : ByteArray := prog_11_method_3_code
def yX9_between : MethodName := ⟨RX9, "between", "(III)Z"⟩
abbrev cX9_isUnit : ByteArray := prog_11_method_4_code
def yX9_isUnit : MethodName := ⟨RX9, "isUnit", "(I)Z"⟩
abbrev cX9_isAuthor : ByteArray := prog_11_method_5_code
def yX9_isAuthor : MethodName := ⟨RX9, "isAuthor", "(I)Z"⟩
abbrev cX9_isComment : ByteArray := prog_11_method_6_code
def yX9_isComment : MethodName := ⟨RX9, "isComment", "(I)Z"⟩
abbrev cX9_word : ByteArray := prog_11_method_7_code
def yX9_word : MethodName := ⟨RX9, "word", "(I)I"⟩
abbrev cX9_wipe : ByteArray := prog_11_method_8_code
def yX9_wipe : MethodName := ⟨RX9, "wipe", "()I"⟩
abbrev cX9_unit : ByteArray := prog_11_method_9_code
def yX9_unit : MethodName := ⟨RX9, "unit", "()I"⟩
abbrev cX9_nearest : ByteArray := prog_11_method_10_code
def yX9_nearest : MethodName := ⟨RX9, "nearest", "(III)I"⟩
abbrev cX9_emend : ByteArray := prog_11_method_11_code
def yX9_emend : MethodName := ⟨RX9, "emend", "(III)I"⟩
abbrev cX9_textOf : ByteArray := prog_11_method_12_code
def yX9_textOf : MethodName := ⟨RX9, "textOf", "(II)I"⟩
abbrev cX9_author : ByteArray := prog_11_method_13_code
def yX9_author : MethodName := ⟨RX9, "author", "(III)I"⟩
abbrev cX9_meant : ByteArray := prog_11_method_14_code
def yX9_meant : MethodName := ⟨RX9, "meant", "(II)I"⟩
abbrev cX9_isNote : ByteArray := prog_11_method_15_code
def yX9_isNote : MethodName := ⟨RX9, "isNote", "(III)Z"⟩
abbrev cX9_added : ByteArray := prog_11_method_16_code
def yX9_added : MethodName := ⟨RX9, "added", "(IIII)I"⟩
abbrev cX9_comment : ByteArray := prog_11_method_17_code
def yX9_comment : MethodName := ⟨RX9, "comment", "(IIIIIII)I"⟩
abbrev cX9_gloss : ByteArray := prog_11_method_18_code
def yX9_gloss : MethodName := ⟨RX9, "gloss", "(IIIII)I"⟩
abbrev cX9_layStands : ByteArray := prog_11_method_19_code
def yX9_layStands : MethodName := ⟨RX9, "layStands", "()V"⟩
abbrev cX9_told : ByteArray := prog_11_method_20_code
def yX9_told : MethodName := ⟨RX9, "told", "(II)I"⟩
abbrev cX9_standsAnew : ByteArray := prog_11_method_21_code
def yX9_standsAnew : MethodName := ⟨RX9, "standsAnew", "(I)Z"⟩
abbrev cX9_asks : ByteArray := prog_11_method_22_code
def yX9_asks : MethodName := ⟨RX9, "asks", "(I)Z"⟩
abbrev cX9_isHard : ByteArray := prog_11_method_23_code
def yX9_isHard : MethodName := ⟨RX9, "isHard", "(I)Z"⟩
abbrev cX9_solved : ByteArray := prog_11_method_24_code
def yX9_solved : MethodName := ⟨RX9, "solved", "(I)I"⟩
abbrev cX9_likeness : ByteArray := prog_11_method_25_code
def yX9_likeness : MethodName := ⟨RX9, "likeness", "(I)I"⟩
abbrev cX9_findUnit : ByteArray := prog_11_method_26_code
def yX9_findUnit : MethodName := ⟨RX9, "findUnit", "()I"⟩
abbrev cX9_found : ByteArray := prog_11_method_27_code
def yX9_found : MethodName := ⟨RX9, "found", "()I"⟩
abbrev cX9_exact : ByteArray := prog_11_method_28_code
def yX9_exact : MethodName := ⟨RX9, "exact", "()I"⟩
abbrev cX9_ruling : ByteArray := prog_11_method_29_code
def yX9_ruling : MethodName := ⟨RX9, "ruling", "(IIZ)I"⟩
abbrev cX9_follow : ByteArray := prog_11_method_30_code
def yX9_follow : MethodName := ⟨RX9, "follow", "(II)I"⟩
abbrev cX9_unfollow : ByteArray := prog_11_method_31_code
def yX9_unfollow : MethodName := ⟨RX9, "unfollow", "(I)I"⟩
abbrev cX9_latestRuling : ByteArray := prog_11_method_32_code
def yX9_latestRuling : MethodName := ⟨RX9, "latestRuling", "(II)I"⟩
abbrev cX9_tells : ByteArray := prog_11_method_33_code
def yX9_tells : MethodName := ⟨RX9, "tells", "(II)I"⟩
abbrev cX9_decided : ByteArray := prog_11_method_34_code
def yX9_decided : MethodName := ⟨RX9, "decided", "(I)I"⟩
abbrev cX9_isIn : ByteArray := prog_11_method_35_code
def yX9_isIn : MethodName := ⟨RX9, "isIn", "(IIII)Z"⟩
abbrev cX9_set : ByteArray := prog_11_method_36_code
def yX9_set : MethodName := ⟨RX9, "set", "(I)V"⟩
abbrev cX9_edition : ByteArray := prog_11_method_37_code
def yX9_edition : MethodName := ⟨RX9, "edition", "(II)I"⟩
abbrev cX9_isEdition : ByteArray := prog_11_method_38_code
def yX9_isEdition : MethodName := ⟨RX9, "isEdition", "(I)Z"⟩
abbrev cX9_address : ByteArray := prog_11_method_39_code
def yX9_address : MethodName := ⟨RX9, "address", "(II)I"⟩
abbrev cX9_pages : ByteArray := prog_11_method_40_code
def yX9_pages : MethodName := ⟨RX9, "pages", "(I)I"⟩
abbrev cX9_row : ByteArray := prog_11_method_41_code
def yX9_row : MethodName := ⟨RX9, "row", "(I)I"⟩
abbrev cX9_holds : ByteArray := prog_11_method_42_code
def yX9_holds : MethodName := ⟨RX9, "holds", "(I)I"⟩
abbrev cX9_daily : ByteArray := prog_11_method_43_code
def yX9_daily : MethodName := ⟨RX9, "daily", "(I)I"⟩
def RJx145de : String := "java/io/Serializable"
def TJx145de : u_T := fun k => match k with
  | _ => ("", "", "", false)
def tyJx145de : Nat → FieldType := fun k => match k with
  | _ => .int
abbrev wsJx145de0 : List Cond := u_ws RJx145de TJx145de 0
theorem nmJx145de : ∀ a, a < 0 → ∀ b, b < 0 → a ≠ b → (TJx145de a).2.1 ≠ (TJx145de b).2.1 := by decide +kernel
theorem tyJx145de_ok : ∀ k, k < 0 → parseFieldDescriptor (TJx145de k).2.2.1 = some (tyJx145de k) := by decide +kernel
def RJ6 : String := "java/lang/Integer"
def TJ6 : u_T := fun k => match k with
  | _ => ("", "", "", false)
def tyJ6 : Nat → FieldType := fun k => match k with
  | _ => .int
abbrev wsJ60 : List Cond := u_ws RJ6 TJ6 0
theorem nmJ6 : ∀ a, a < 0 → ∀ b, b < 0 → a ≠ b → (TJ6 a).2.1 ≠ (TJ6 b).2.1 := by decide +kernel
theorem tyJ6_ok : ∀ k, k < 0 → parseFieldDescriptor (TJ6 k).2.2.1 = some (tyJ6 k) := by decide +kernel
abbrev cJ6_bitCount_0f7a4 : ByteArray := prog_16_method_49_code
def yJ6_bitCount_0f7a4 : MethodName := ⟨RJ6, "bitCount", "(I)I"⟩
def RJ9 : String := "java/lang/Math"
def TJ9 : u_T := fun k => match k with
  | _ => ("", "", "", false)
def tyJ9 : Nat → FieldType := fun k => match k with
  | _ => .int
abbrev wsJ90 : List Cond := u_ws RJ9 TJ9 0
theorem nmJ9 : ∀ a, a < 0 → ∀ b, b < 0 → a ≠ b → (TJ9 a).2.1 ≠ (TJ9 b).2.1 := by decide +kernel
theorem tyJ9_ok : ∀ k, k < 0 → parseFieldDescriptor (TJ9 k).2.2.1 = some (tyJ9 k) := by decide +kernel
abbrev cJ9_abs_0f7a4 : ByteArray := prog_17_method_59_code
def yJ9_abs_0f7a4 : MethodName := ⟨RJ9, "abs", "(I)I"⟩
abbrev cJ9_max_7cf53 : ByteArray := prog_17_method_65_code
def yJ9_max_7cf53 : MethodName := ⟨RJ9, "max", "(II)I"⟩
abbrev cJ9_min_7cf53 : ByteArray := prog_17_method_69_code
def yJ9_min_7cf53 : MethodName := ⟨RJ9, "min", "(II)I"⟩
def RJ0 : String := "java/lang/String"
def TJ0 : u_T := fun k => match k with
  | _ => ("", "", "", false)
def tyJ0 : Nat → FieldType := fun k => match k with
  | _ => .int
abbrev wsJ00 : List Cond := u_ws RJ0 TJ0 0
theorem nmJ0 : ∀ a, a < 0 → ∀ b, b < 0 → a ≠ b → (TJ0 a).2.1 ≠ (TJ0 b).2.1 := by decide +kernel
theorem tyJ0_ok : ∀ k, k < 0 → parseFieldDescriptor (TJ0 k).2.2.1 = some (tyJ0 k) := by decide +kernel
def RJ7 : String := "java/util/Arrays"
def TJ7 : u_T := fun k => match k with
  | _ => ("", "", "", false)
def tyJ7 : Nat → FieldType := fun k => match k with
  | _ => .int
abbrev wsJ70 : List Cond := u_ws RJ7 TJ7 0
theorem nmJ7 : ∀ a, a < 0 → ∀ b, b < 0 → a ≠ b → (TJ7 a).2.1 ≠ (TJ7 b).2.1 := by decide +kernel
theorem tyJ7_ok : ∀ k, k < 0 → parseFieldDescriptor (TJ7 k).2.2.1 = some (tyJ7 k) := by decide +kernel
abbrev cJ7_fill_53178 : ByteArray := prog_21_method_103_code
def yJ7_fill_53178 : MethodName := ⟨RJ7, "fill", "([II)V"⟩
def RL : String := "GlossedPageLaw"
abbrev cL_word : ByteArray := method_3_code
def yL_word : MethodName := ⟨RL, "word", "(LGlossedPage;I[J)I"⟩
abbrev cL_unit : ByteArray := method_4_code
def yL_unit : MethodName := ⟨RL, "unit", "(LGlossedPage;[J)I"⟩
abbrev cL_emend : ByteArray := method_5_code
def yL_emend : MethodName := ⟨RL, "emend", "(LGlossedPage;III[J)I"⟩
abbrev cL_textOf : ByteArray := method_6_code
def yL_textOf : MethodName := ⟨RL, "textOf", "(LGlossedPage;II[J)I"⟩
abbrev cL_author : ByteArray := method_7_code
def yL_author : MethodName := ⟨RL, "author", "(LGlossedPage;III[J)I"⟩
abbrev cL_meant : ByteArray := method_8_code
def yL_meant : MethodName := ⟨RL, "meant", "(LGlossedPage;II[J)I"⟩
abbrev cL_comment : ByteArray := method_9_code
def yL_comment : MethodName := ⟨RL, "comment", "(LGlossedPage;IIIIIII[J)I"⟩
abbrev cL_gloss : ByteArray := method_10_code
def yL_gloss : MethodName := ⟨RL, "gloss", "(LGlossedPage;IIIII[J)I"⟩
abbrev cL_told : ByteArray := method_11_code
def yL_told : MethodName := ⟨RL, "told", "(LGlossedPage;II[J)I"⟩
abbrev cL_standsAnew : ByteArray := method_12_code
def yL_standsAnew : MethodName := ⟨RL, "standsAnew", "(LGlossedPage;I[J)I"⟩
abbrev cL_isHard : ByteArray := method_13_code
def yL_isHard : MethodName := ⟨RL, "isHard", "(LGlossedPage;I[J)I"⟩
abbrev cL_solved : ByteArray := method_14_code
def yL_solved : MethodName := ⟨RL, "solved", "(LGlossedPage;I[J)I"⟩
abbrev cL_ruling : ByteArray := method_15_code
def yL_ruling : MethodName := ⟨RL, "ruling", "(LGlossedPage;IIZ[J)I"⟩
abbrev cL_follow : ByteArray := method_16_code
def yL_follow : MethodName := ⟨RL, "follow", "(LGlossedPage;II[J)I"⟩
abbrev cL_unfollow : ByteArray := method_17_code
def yL_unfollow : MethodName := ⟨RL, "unfollow", "(LGlossedPage;I[J)I"⟩
abbrev cL_decided : ByteArray := method_18_code
def yL_decided : MethodName := ⟨RL, "decided", "(LGlossedPage;I[J)I"⟩
abbrev cL_edition : ByteArray := method_19_code
def yL_edition : MethodName := ⟨RL, "edition", "(LGlossedPage;II[J)I"⟩
abbrev cL_address : ByteArray := method_20_code
def yL_address : MethodName := ⟨RL, "address", "(LGlossedPage;II[J)I"⟩
abbrev cL_pages : ByteArray := method_21_code
def yL_pages : MethodName := ⟨RL, "pages", "(LGlossedPage;I[J)I"⟩
abbrev cL_row : ByteArray := method_22_code
def yL_row : MethodName := ⟨RL, "row", "(LGlossedPage;I[J)I"⟩
abbrev cL_holds : ByteArray := method_23_code
def yL_holds : MethodName := ⟨RL, "holds", "(LGlossedPage;I[J)I"⟩
abbrev cL_daily : ByteArray := method_24_code
def yL_daily : MethodName := ⟨RL, "daily", "(LGlossedPage;I[J)I"⟩
abbrev cL_law : ByteArray := code
def yL_law : MethodName := ⟨RL, "law", "([I)Z"⟩
abbrev vwCl : List vw_C := [(RX0, TX0, 4), (RX1, TX1, 12), (RX2, TX2, 5), (RX3, TX3, 2), (RX4, TX4, 2), (RX5, TX5, 5), (RX6, TX6, 5), (RX7, TX7, 4), (RX8, TX8, 7), (RX9, TX9, 34)]
end
section
theorem dX0_init_0 : decode cX0_init 0 = .ok (.aload_n 0, 1) := by decide +kernel
theorem dX0_init_1 : decode cX0_init 1 = .ok (.invokespecial 3, 3) := by decide +kernel
theorem dX0_init_4 : decode cX0_init 4 = .ok (.aload_n 0, 1) := by decide +kernel
theorem dX0_init_5 : decode cX0_init 5 = .ok (.bipush 12, 2) := by decide +kernel
theorem dX0_init_7 : decode cX0_init 7 = .ok (.newarray .int, 2) := by decide +kernel
theorem dX0_init_9 : decode cX0_init 9 = .ok (.putfield 9, 3) := by decide +kernel
theorem dX0_init_12 : decode cX0_init 12 = .ok (.aload_n 0, 1) := by decide +kernel
theorem dX0_init_13 : decode cX0_init 13 = .ok (.bipush 12, 2) := by decide +kernel
theorem dX0_init_15 : decode cX0_init 15 = .ok (.newarray .int, 2) := by decide +kernel
theorem dX0_init_17 : decode cX0_init 17 = .ok (.putfield 15, 3) := by decide +kernel
theorem dX0_init_20 : decode cX0_init 20 = .ok (.aload_n 0, 1) := by decide +kernel
theorem dX0_init_21 : decode cX0_init 21 = .ok (.bipush 12, 2) := by decide +kernel
theorem dX0_init_23 : decode cX0_init 23 = .ok (.newarray .int, 2) := by decide +kernel
theorem dX0_init_25 : decode cX0_init 25 = .ok (.putfield 18, 3) := by decide +kernel
theorem dX0_init_28 : decode cX0_init 28 = .ok (.return_, 1) := by decide +kernel
theorem dX0_count_0 : decode cX0_count 0 = .ok (.aload_n 0, 1) := by decide +kernel
theorem dX0_count_1 : decode cX0_count 1 = .ok (.getfield 21, 3) := by decide +kernel
theorem dX0_count_4 : decode cX0_count 4 = .ok (.ireturn, 1) := by decide +kernel
theorem dX0_isFull_0 : decode cX0_isFull 0 = .ok (.aload_n 0, 1) := by decide +kernel
theorem dX0_isFull_1 : decode cX0_isFull 1 = .ok (.getfield 21, 3) := by decide +kernel
theorem dX0_isFull_4 : decode cX0_isFull 4 = .ok (.bipush 12, 2) := by decide +kernel
theorem dX0_isFull_6 : decode cX0_isFull 6 = .ok (.if_icmp .lt 7, 3) := by decide +kernel
theorem dX0_isFull_9 : decode cX0_isFull 9 = .ok (.iconst 1, 1) := by decide +kernel
theorem dX0_isFull_10 : decode cX0_isFull 10 = .ok (.goto 4, 3) := by decide +kernel
theorem dX0_isFull_13 : decode cX0_isFull 13 = .ok (.iconst 0, 1) := by decide +kernel
theorem dX0_isFull_14 : decode cX0_isFull 14 = .ok (.ireturn, 1) := by decide +kernel
theorem dX0_has_0 : decode cX0_has 0 = .ok (.iload_n 1, 1) := by decide +kernel
theorem dX0_has_1 : decode cX0_has 1 = .ok (.ifCond .lt 15, 3) := by decide +kernel
theorem dX0_has_4 : decode cX0_has 4 = .ok (.iload_n 1, 1) := by decide +kernel
theorem dX0_has_5 : decode cX0_has 5 = .ok (.aload_n 0, 1) := by decide +kernel
theorem dX0_has_6 : decode cX0_has 6 = .ok (.getfield 21, 3) := by decide +kernel
theorem dX0_has_9 : decode cX0_has 9 = .ok (.if_icmp .ge 7, 3) := by decide +kernel
theorem dX0_has_12 : decode cX0_has 12 = .ok (.iconst 1, 1) := by decide +kernel
theorem dX0_has_13 : decode cX0_has 13 = .ok (.goto 4, 3) := by decide +kernel
theorem dX0_has_16 : decode cX0_has 16 = .ok (.iconst 0, 1) := by decide +kernel
theorem dX0_has_17 : decode cX0_has 17 = .ok (.ireturn, 1) := by decide +kernel
theorem dX0_add_0 : decode cX0_add 0 = .ok (.aload_n 0, 1) := by decide +kernel
theorem dX0_add_1 : decode cX0_add 1 = .ok (.invokevirtual 25, 3) := by decide +kernel
theorem dX0_add_4 : decode cX0_add 4 = .ok (.ifCond .ne 43, 3) := by decide +kernel
theorem dX0_add_7 : decode cX0_add 7 = .ok (.aload_n 0, 1) := by decide +kernel
theorem dX0_add_8 : decode cX0_add 8 = .ok (.getfield 9, 3) := by decide +kernel
theorem dX0_add_11 : decode cX0_add 11 = .ok (.aload_n 0, 1) := by decide +kernel
theorem dX0_add_12 : decode cX0_add 12 = .ok (.getfield 21, 3) := by decide +kernel
theorem dX0_add_15 : decode cX0_add 15 = .ok (.iload_n 1, 1) := by decide +kernel
theorem dX0_add_16 : decode cX0_add 16 = .ok (.iastore, 1) := by decide +kernel
theorem dX0_add_17 : decode cX0_add 17 = .ok (.aload_n 0, 1) := by decide +kernel
theorem dX0_add_18 : decode cX0_add 18 = .ok (.getfield 15, 3) := by decide +kernel
theorem dX0_add_21 : decode cX0_add 21 = .ok (.aload_n 0, 1) := by decide +kernel
theorem dX0_add_22 : decode cX0_add 22 = .ok (.getfield 21, 3) := by decide +kernel
theorem dX0_add_25 : decode cX0_add 25 = .ok (.iload_n 2, 1) := by decide +kernel
theorem dX0_add_26 : decode cX0_add 26 = .ok (.iastore, 1) := by decide +kernel
theorem dX0_add_27 : decode cX0_add 27 = .ok (.aload_n 0, 1) := by decide +kernel
theorem dX0_add_28 : decode cX0_add 28 = .ok (.getfield 18, 3) := by decide +kernel
theorem dX0_add_31 : decode cX0_add 31 = .ok (.aload_n 0, 1) := by decide +kernel
theorem dX0_add_32 : decode cX0_add 32 = .ok (.getfield 21, 3) := by decide +kernel
theorem dX0_add_35 : decode cX0_add 35 = .ok (.iload_n 3, 1) := by decide +kernel
theorem dX0_add_36 : decode cX0_add 36 = .ok (.iastore, 1) := by decide +kernel
theorem dX0_add_37 : decode cX0_add 37 = .ok (.aload_n 0, 1) := by decide +kernel
theorem dX0_add_38 : decode cX0_add 38 = .ok (.dup, 1) := by decide +kernel
theorem dX0_add_39 : decode cX0_add 39 = .ok (.getfield 21, 3) := by decide +kernel
theorem dX0_add_42 : decode cX0_add 42 = .ok (.iconst 1, 1) := by decide +kernel
theorem dX0_add_43 : decode cX0_add 43 = .ok (.iadd, 1) := by decide +kernel
theorem dX0_add_44 : decode cX0_add 44 = .ok (.putfield 21, 3) := by decide +kernel
theorem dX0_add_47 : decode cX0_add 47 = .ok (.return_, 1) := by decide +kernel
theorem dX0_yearOf_0 : decode cX0_yearOf 0 = .ok (.aload_n 0, 1) := by decide +kernel
theorem dX0_yearOf_1 : decode cX0_yearOf 1 = .ok (.getfield 9, 3) := by decide +kernel
theorem dX0_yearOf_4 : decode cX0_yearOf 4 = .ok (.iload_n 1, 1) := by decide +kernel
theorem dX0_yearOf_5 : decode cX0_yearOf 5 = .ok (.invokestatic 29, 3) := by decide +kernel
theorem dX0_yearOf_8 : decode cX0_yearOf 8 = .ok (.ireturn, 1) := by decide +kernel
theorem dX0_schoolOf_0 : decode cX0_schoolOf 0 = .ok (.aload_n 0, 1) := by decide +kernel
theorem dX0_schoolOf_1 : decode cX0_schoolOf 1 = .ok (.getfield 15, 3) := by decide +kernel
theorem dX0_schoolOf_4 : decode cX0_schoolOf 4 = .ok (.iload_n 1, 1) := by decide +kernel
theorem dX0_schoolOf_5 : decode cX0_schoolOf 5 = .ok (.invokestatic 29, 3) := by decide +kernel
theorem dX0_schoolOf_8 : decode cX0_schoolOf 8 = .ok (.ireturn, 1) := by decide +kernel
theorem dX0_latestCalled_0 : decode cX0_latestCalled 0 = .ok (.iconst (-1), 1) := by decide +kernel
theorem dX0_latestCalled_1 : decode cX0_latestCalled 1 = .ok (.istore_n 3, 1) := by decide +kernel
theorem dX0_latestCalled_2 : decode cX0_latestCalled 2 = .ok (.iconst 0, 1) := by decide +kernel
theorem dX0_latestCalled_3 : decode cX0_latestCalled 3 = .ok (.istore 4, 2) := by decide +kernel
theorem dX0_latestCalled_5 : decode cX0_latestCalled 5 = .ok (.iload 4, 2) := by decide +kernel
theorem dX0_latestCalled_7 : decode cX0_latestCalled 7 = .ok (.aload_n 0, 1) := by decide +kernel
theorem dX0_latestCalled_8 : decode cX0_latestCalled 8 = .ok (.getfield 21, 3) := by decide +kernel
theorem dX0_latestCalled_11 : decode cX0_latestCalled 11 = .ok (.if_icmp .ge 39, 3) := by decide +kernel
theorem dX0_latestCalled_14 : decode cX0_latestCalled 14 = .ok (.aload_n 0, 1) := by decide +kernel
theorem dX0_latestCalled_15 : decode cX0_latestCalled 15 = .ok (.getfield 18, 3) := by decide +kernel
theorem dX0_latestCalled_18 : decode cX0_latestCalled 18 = .ok (.iload 4, 2) := by decide +kernel
theorem dX0_latestCalled_20 : decode cX0_latestCalled 20 = .ok (.iaload, 1) := by decide +kernel
theorem dX0_latestCalled_21 : decode cX0_latestCalled 21 = .ok (.iload_n 1, 1) := by decide +kernel
theorem dX0_latestCalled_22 : decode cX0_latestCalled 22 = .ok (.if_icmp .ne 22, 3) := by decide +kernel
theorem dX0_latestCalled_25 : decode cX0_latestCalled 25 = .ok (.aload_n 0, 1) := by decide +kernel
theorem dX0_latestCalled_26 : decode cX0_latestCalled 26 = .ok (.getfield 9, 3) := by decide +kernel
theorem dX0_latestCalled_29 : decode cX0_latestCalled 29 = .ok (.iload 4, 2) := by decide +kernel
theorem dX0_latestCalled_31 : decode cX0_latestCalled 31 = .ok (.iaload, 1) := by decide +kernel
theorem dX0_latestCalled_32 : decode cX0_latestCalled 32 = .ok (.iload_n 2, 1) := by decide +kernel
theorem dX0_latestCalled_33 : decode cX0_latestCalled 33 = .ok (.if_icmp .gt 11, 3) := by decide +kernel
theorem dX0_latestCalled_36 : decode cX0_latestCalled 36 = .ok (.aload_n 0, 1) := by decide +kernel
theorem dX0_latestCalled_37 : decode cX0_latestCalled 37 = .ok (.iload_n 3, 1) := by decide +kernel
theorem dX0_latestCalled_38 : decode cX0_latestCalled 38 = .ok (.iload 4, 2) := by decide +kernel
theorem dX0_latestCalled_40 : decode cX0_latestCalled 40 = .ok (.invokevirtual 33, 3) := by decide +kernel
theorem dX0_latestCalled_43 : decode cX0_latestCalled 43 = .ok (.istore_n 3, 1) := by decide +kernel
theorem dX0_latestCalled_44 : decode cX0_latestCalled 44 = .ok (.iinc 4 1, 3) := by decide +kernel
theorem dX0_latestCalled_47 : decode cX0_latestCalled 47 = .ok (.goto (-42), 3) := by decide +kernel
theorem dX0_latestCalled_50 : decode cX0_latestCalled 50 = .ok (.iload_n 3, 1) := by decide +kernel
theorem dX0_latestCalled_51 : decode cX0_latestCalled 51 = .ok (.ireturn, 1) := by decide +kernel
theorem dX0_latestAmong_0 : decode cX0_latestAmong 0 = .ok (.iconst (-1), 1) := by decide +kernel
theorem dX0_latestAmong_1 : decode cX0_latestAmong 1 = .ok (.istore_n 3, 1) := by decide +kernel
theorem dX0_latestAmong_2 : decode cX0_latestAmong 2 = .ok (.iconst 0, 1) := by decide +kernel
theorem dX0_latestAmong_3 : decode cX0_latestAmong 3 = .ok (.istore 4, 2) := by decide +kernel
theorem dX0_latestAmong_5 : decode cX0_latestAmong 5 = .ok (.iload 4, 2) := by decide +kernel
theorem dX0_latestAmong_7 : decode cX0_latestAmong 7 = .ok (.aload_n 0, 1) := by decide +kernel
theorem dX0_latestAmong_8 : decode cX0_latestAmong 8 = .ok (.getfield 21, 3) := by decide +kernel
theorem dX0_latestAmong_11 : decode cX0_latestAmong 11 = .ok (.if_icmp .ge 43, 3) := by decide +kernel
theorem dX0_latestAmong_14 : decode cX0_latestAmong 14 = .ok (.iload_n 1, 1) := by decide +kernel
theorem dX0_latestAmong_15 : decode cX0_latestAmong 15 = .ok (.iload 4, 2) := by decide +kernel
theorem dX0_latestAmong_17 : decode cX0_latestAmong 17 = .ok (.ishr, 1) := by decide +kernel
theorem dX0_latestAmong_18 : decode cX0_latestAmong 18 = .ok (.iconst 1, 1) := by decide +kernel
theorem dX0_latestAmong_19 : decode cX0_latestAmong 19 = .ok (.iand, 1) := by decide +kernel
theorem dX0_latestAmong_20 : decode cX0_latestAmong 20 = .ok (.iconst 1, 1) := by decide +kernel
theorem dX0_latestAmong_21 : decode cX0_latestAmong 21 = .ok (.if_icmp .ne 27, 3) := by decide +kernel
theorem dX0_latestAmong_24 : decode cX0_latestAmong 24 = .ok (.iload_n 2, 1) := by decide +kernel
theorem dX0_latestAmong_25 : decode cX0_latestAmong 25 = .ok (.iconst (-1), 1) := by decide +kernel
theorem dX0_latestAmong_26 : decode cX0_latestAmong 26 = .ok (.if_icmp .eq 14, 3) := by decide +kernel
theorem dX0_latestAmong_29 : decode cX0_latestAmong 29 = .ok (.aload_n 0, 1) := by decide +kernel
theorem dX0_latestAmong_30 : decode cX0_latestAmong 30 = .ok (.getfield 15, 3) := by decide +kernel
theorem dX0_latestAmong_33 : decode cX0_latestAmong 33 = .ok (.iload 4, 2) := by decide +kernel
theorem dX0_latestAmong_35 : decode cX0_latestAmong 35 = .ok (.iaload, 1) := by decide +kernel
theorem dX0_latestAmong_36 : decode cX0_latestAmong 36 = .ok (.iload_n 2, 1) := by decide +kernel
theorem dX0_latestAmong_37 : decode cX0_latestAmong 37 = .ok (.if_icmp .ne 11, 3) := by decide +kernel
theorem dX0_latestAmong_40 : decode cX0_latestAmong 40 = .ok (.aload_n 0, 1) := by decide +kernel
theorem dX0_latestAmong_41 : decode cX0_latestAmong 41 = .ok (.iload_n 3, 1) := by decide +kernel
theorem dX0_latestAmong_42 : decode cX0_latestAmong 42 = .ok (.iload 4, 2) := by decide +kernel
theorem dX0_latestAmong_44 : decode cX0_latestAmong 44 = .ok (.invokevirtual 33, 3) := by decide +kernel
theorem dX0_latestAmong_47 : decode cX0_latestAmong 47 = .ok (.istore_n 3, 1) := by decide +kernel
theorem dX0_latestAmong_48 : decode cX0_latestAmong 48 = .ok (.iinc 4 1, 3) := by decide +kernel
theorem dX0_latestAmong_51 : decode cX0_latestAmong 51 = .ok (.goto (-46), 3) := by decide +kernel
theorem dX0_latestAmong_54 : decode cX0_latestAmong 54 = .ok (.iload_n 3, 1) := by decide +kernel
theorem dX0_latestAmong_55 : decode cX0_latestAmong 55 = .ok (.ireturn, 1) := by decide +kernel
theorem dX0_later_0 : decode cX0_later 0 = .ok (.iload_n 1, 1) := by decide +kernel
theorem dX0_later_1 : decode cX0_later 1 = .ok (.iconst (-1), 1) := by decide +kernel
theorem dX0_later_2 : decode cX0_later 2 = .ok (.if_icmp .eq 16, 3) := by decide +kernel
theorem dX0_later_5 : decode cX0_later 5 = .ok (.aload_n 0, 1) := by decide +kernel
theorem dX0_later_6 : decode cX0_later 6 = .ok (.iload_n 2, 1) := by decide +kernel
theorem dX0_later_7 : decode cX0_later 7 = .ok (.invokevirtual 37, 3) := by decide +kernel
theorem dX0_later_10 : decode cX0_later 10 = .ok (.aload_n 0, 1) := by decide +kernel
theorem dX0_later_11 : decode cX0_later 11 = .ok (.iload_n 1, 1) := by decide +kernel
theorem dX0_later_12 : decode cX0_later 12 = .ok (.invokevirtual 37, 3) := by decide +kernel
theorem dX0_later_15 : decode cX0_later 15 = .ok (.if_icmp .le 7, 3) := by decide +kernel
theorem dX0_later_18 : decode cX0_later 18 = .ok (.iload_n 2, 1) := by decide +kernel
theorem dX0_later_19 : decode cX0_later 19 = .ok (.goto 4, 3) := by decide +kernel
theorem dX0_later_22 : decode cX0_later 22 = .ok (.iload_n 1, 1) := by decide +kernel
theorem dX0_later_23 : decode cX0_later 23 = .ok (.ireturn, 1) := by decide +kernel
theorem dX1_init_0 : decode cX1_init 0 = .ok (.aload_n 0, 1) := by decide +kernel
theorem dX1_init_1 : decode cX1_init 1 = .ok (.invokespecial 3, 3) := by decide +kernel
theorem dX1_init_4 : decode cX1_init 4 = .ok (.aload_n 0, 1) := by decide +kernel
theorem dX1_init_5 : decode cX1_init 5 = .ok (.bipush 60, 2) := by decide +kernel
theorem dX1_init_7 : decode cX1_init 7 = .ok (.newarray .int, 2) := by decide +kernel
theorem dX1_init_9 : decode cX1_init 9 = .ok (.putfield 9, 3) := by decide +kernel
theorem dX1_init_12 : decode cX1_init 12 = .ok (.aload_n 0, 1) := by decide +kernel
theorem dX1_init_13 : decode cX1_init 13 = .ok (.bipush 60, 2) := by decide +kernel
theorem dX1_init_15 : decode cX1_init 15 = .ok (.newarray .int, 2) := by decide +kernel
theorem dX1_init_17 : decode cX1_init 17 = .ok (.putfield 15, 3) := by decide +kernel
theorem dX1_init_20 : decode cX1_init 20 = .ok (.aload_n 0, 1) := by decide +kernel
theorem dX1_init_21 : decode cX1_init 21 = .ok (.bipush 60, 2) := by decide +kernel
theorem dX1_init_23 : decode cX1_init 23 = .ok (.newarray .int, 2) := by decide +kernel
theorem dX1_init_25 : decode cX1_init 25 = .ok (.putfield 18, 3) := by decide +kernel
theorem dX1_init_28 : decode cX1_init 28 = .ok (.aload_n 0, 1) := by decide +kernel
theorem dX1_init_29 : decode cX1_init 29 = .ok (.bipush 60, 2) := by decide +kernel
theorem dX1_init_31 : decode cX1_init 31 = .ok (.newarray .int, 2) := by decide +kernel
theorem dX1_init_33 : decode cX1_init 33 = .ok (.putfield 21, 3) := by decide +kernel
theorem dX1_init_36 : decode cX1_init 36 = .ok (.aload_n 0, 1) := by decide +kernel
theorem dX1_init_37 : decode cX1_init 37 = .ok (.bipush 60, 2) := by decide +kernel
theorem dX1_init_39 : decode cX1_init 39 = .ok (.newarray .int, 2) := by decide +kernel
theorem dX1_init_41 : decode cX1_init 41 = .ok (.putfield 24, 3) := by decide +kernel
theorem dX1_init_44 : decode cX1_init 44 = .ok (.aload_n 0, 1) := by decide +kernel
theorem dX1_init_45 : decode cX1_init 45 = .ok (.bipush 60, 2) := by decide +kernel
theorem dX1_init_47 : decode cX1_init 47 = .ok (.newarray .int, 2) := by decide +kernel
theorem dX1_init_49 : decode cX1_init 49 = .ok (.putfield 27, 3) := by decide +kernel
theorem dX1_init_52 : decode cX1_init 52 = .ok (.aload_n 0, 1) := by decide +kernel
theorem dX1_init_53 : decode cX1_init 53 = .ok (.bipush 60, 2) := by decide +kernel
theorem dX1_init_55 : decode cX1_init 55 = .ok (.newarray .int, 2) := by decide +kernel
theorem dX1_init_57 : decode cX1_init 57 = .ok (.putfield 30, 3) := by decide +kernel
theorem dX1_init_60 : decode cX1_init 60 = .ok (.aload_n 0, 1) := by decide +kernel
theorem dX1_init_61 : decode cX1_init 61 = .ok (.bipush 60, 2) := by decide +kernel
theorem dX1_init_63 : decode cX1_init 63 = .ok (.newarray .int, 2) := by decide +kernel
theorem dX1_init_65 : decode cX1_init 65 = .ok (.putfield 33, 3) := by decide +kernel
theorem dX1_init_68 : decode cX1_init 68 = .ok (.aload_n 0, 1) := by decide +kernel
theorem dX1_init_69 : decode cX1_init 69 = .ok (.bipush 60, 2) := by decide +kernel
theorem dX1_init_71 : decode cX1_init 71 = .ok (.newarray .int, 2) := by decide +kernel
theorem dX1_init_73 : decode cX1_init 73 = .ok (.putfield 36, 3) := by decide +kernel
theorem dX1_init_76 : decode cX1_init 76 = .ok (.aload_n 0, 1) := by decide +kernel
theorem dX1_init_77 : decode cX1_init 77 = .ok (.bipush 60, 2) := by decide +kernel
theorem dX1_init_79 : decode cX1_init 79 = .ok (.newarray .boolean, 2) := by decide +kernel
theorem dX1_init_81 : decode cX1_init 81 = .ok (.putfield 39, 3) := by decide +kernel
theorem dX1_init_84 : decode cX1_init 84 = .ok (.aload_n 0, 1) := by decide +kernel
theorem dX1_init_85 : decode cX1_init 85 = .ok (.bipush 60, 2) := by decide +kernel
theorem dX1_init_87 : decode cX1_init 87 = .ok (.newarray .int, 2) := by decide +kernel
theorem dX1_init_89 : decode cX1_init 89 = .ok (.putfield 43, 3) := by decide +kernel
theorem dX1_init_92 : decode cX1_init 92 = .ok (.return_, 1) := by decide +kernel
theorem dX1_count_0 : decode cX1_count 0 = .ok (.aload_n 0, 1) := by decide +kernel
theorem dX1_count_1 : decode cX1_count 1 = .ok (.getfield 46, 3) := by decide +kernel
theorem dX1_count_4 : decode cX1_count 4 = .ok (.ireturn, 1) := by decide +kernel
theorem dX1_isFull_0 : decode cX1_isFull 0 = .ok (.aload_n 0, 1) := by decide +kernel
theorem dX1_isFull_1 : decode cX1_isFull 1 = .ok (.getfield 46, 3) := by decide +kernel
theorem dX1_isFull_4 : decode cX1_isFull 4 = .ok (.bipush 60, 2) := by decide +kernel
theorem dX1_isFull_6 : decode cX1_isFull 6 = .ok (.if_icmp .lt 7, 3) := by decide +kernel
theorem dX1_isFull_9 : decode cX1_isFull 9 = .ok (.iconst 1, 1) := by decide +kernel
theorem dX1_isFull_10 : decode cX1_isFull 10 = .ok (.goto 4, 3) := by decide +kernel
theorem dX1_isFull_13 : decode cX1_isFull 13 = .ok (.iconst 0, 1) := by decide +kernel
theorem dX1_isFull_14 : decode cX1_isFull 14 = .ok (.ireturn, 1) := by decide +kernel
theorem dX1_has_0 : decode cX1_has 0 = .ok (.iload_n 1, 1) := by decide +kernel
theorem dX1_has_1 : decode cX1_has 1 = .ok (.ifCond .lt 15, 3) := by decide +kernel
theorem dX1_has_4 : decode cX1_has 4 = .ok (.iload_n 1, 1) := by decide +kernel
theorem dX1_has_5 : decode cX1_has 5 = .ok (.aload_n 0, 1) := by decide +kernel
theorem dX1_has_6 : decode cX1_has 6 = .ok (.getfield 46, 3) := by decide +kernel
theorem dX1_has_9 : decode cX1_has 9 = .ok (.if_icmp .ge 7, 3) := by decide +kernel
theorem dX1_has_12 : decode cX1_has 12 = .ok (.iconst 1, 1) := by decide +kernel
theorem dX1_has_13 : decode cX1_has 13 = .ok (.goto 4, 3) := by decide +kernel
theorem dX1_has_16 : decode cX1_has 16 = .ok (.iconst 0, 1) := by decide +kernel
theorem dX1_has_17 : decode cX1_has 17 = .ok (.ireturn, 1) := by decide +kernel
theorem dX1_add_0 : decode cX1_add 0 = .ok (.aload_n 0, 1) := by decide +kernel
theorem dX1_add_1 : decode cX1_add 1 = .ok (.invokevirtual 50, 3) := by decide +kernel
theorem dX1_add_4 : decode cX1_add 4 = .ok (.ifCond .eq 5, 3) := by decide +kernel
theorem dX1_add_7 : decode cX1_add 7 = .ok (.iconst (-1), 1) := by decide +kernel
theorem dX1_add_8 : decode cX1_add 8 = .ok (.ireturn, 1) := by decide +kernel
theorem dX1_add_9 : decode cX1_add 9 = .ok (.aload_n 0, 1) := by decide +kernel
theorem dX1_add_10 : decode cX1_add 10 = .ok (.getfield 9, 3) := by decide +kernel
theorem dX1_add_13 : decode cX1_add 13 = .ok (.aload_n 0, 1) := by decide +kernel
theorem dX1_add_14 : decode cX1_add 14 = .ok (.getfield 46, 3) := by decide +kernel
theorem dX1_add_17 : decode cX1_add 17 = .ok (.iload_n 1, 1) := by decide +kernel
theorem dX1_add_18 : decode cX1_add 18 = .ok (.iastore, 1) := by decide +kernel
theorem dX1_add_19 : decode cX1_add 19 = .ok (.aload_n 0, 1) := by decide +kernel
theorem dX1_add_20 : decode cX1_add 20 = .ok (.getfield 15, 3) := by decide +kernel
theorem dX1_add_23 : decode cX1_add 23 = .ok (.aload_n 0, 1) := by decide +kernel
theorem dX1_add_24 : decode cX1_add 24 = .ok (.getfield 46, 3) := by decide +kernel
theorem dX1_add_27 : decode cX1_add 27 = .ok (.iload_n 2, 1) := by decide +kernel
theorem dX1_add_28 : decode cX1_add 28 = .ok (.iastore, 1) := by decide +kernel
theorem dX1_add_29 : decode cX1_add 29 = .ok (.aload_n 0, 1) := by decide +kernel
theorem dX1_add_30 : decode cX1_add 30 = .ok (.getfield 18, 3) := by decide +kernel
theorem dX1_add_33 : decode cX1_add 33 = .ok (.aload_n 0, 1) := by decide +kernel
theorem dX1_add_34 : decode cX1_add 34 = .ok (.getfield 46, 3) := by decide +kernel
theorem dX1_add_37 : decode cX1_add 37 = .ok (.iload_n 3, 1) := by decide +kernel
theorem dX1_add_38 : decode cX1_add 38 = .ok (.iastore, 1) := by decide +kernel
theorem dX1_add_39 : decode cX1_add 39 = .ok (.aload_n 0, 1) := by decide +kernel
theorem dX1_add_40 : decode cX1_add 40 = .ok (.getfield 21, 3) := by decide +kernel
theorem dX1_add_43 : decode cX1_add 43 = .ok (.aload_n 0, 1) := by decide +kernel
theorem dX1_add_44 : decode cX1_add 44 = .ok (.getfield 46, 3) := by decide +kernel
theorem dX1_add_47 : decode cX1_add 47 = .ok (.iload 4, 2) := by decide +kernel
theorem dX1_add_49 : decode cX1_add 49 = .ok (.iastore, 1) := by decide +kernel
theorem dX1_add_50 : decode cX1_add 50 = .ok (.aload_n 0, 1) := by decide +kernel
theorem dX1_add_51 : decode cX1_add 51 = .ok (.dup, 1) := by decide +kernel
theorem dX1_add_52 : decode cX1_add 52 = .ok (.getfield 46, 3) := by decide +kernel
theorem dX1_add_55 : decode cX1_add 55 = .ok (.iconst 1, 1) := by decide +kernel
theorem dX1_add_56 : decode cX1_add 56 = .ok (.iadd, 1) := by decide +kernel
theorem dX1_add_57 : decode cX1_add 57 = .ok (.putfield 46, 3) := by decide +kernel
theorem dX1_add_60 : decode cX1_add 60 = .ok (.aload_n 0, 1) := by decide +kernel
theorem dX1_add_61 : decode cX1_add 61 = .ok (.getfield 46, 3) := by decide +kernel
theorem dX1_add_64 : decode cX1_add 64 = .ok (.iconst 1, 1) := by decide +kernel
theorem dX1_add_65 : decode cX1_add 65 = .ok (.isub, 1) := by decide +kernel
theorem dX1_add_66 : decode cX1_add 66 = .ok (.ireturn, 1) := by decide +kernel
theorem dX1_hookTo_0 : decode cX1_hookTo 0 = .ok (.aload_n 0, 1) := by decide +kernel
theorem dX1_hookTo_1 : decode cX1_hookTo 1 = .ok (.iload_n 1, 1) := by decide +kernel
theorem dX1_hookTo_2 : decode cX1_hookTo 2 = .ok (.invokevirtual 54, 3) := by decide +kernel
theorem dX1_hookTo_5 : decode cX1_hookTo 5 = .ok (.ifCond .eq 39, 3) := by decide +kernel
theorem dX1_hookTo_8 : decode cX1_hookTo 8 = .ok (.aload_n 0, 1) := by decide +kernel
theorem dX1_hookTo_9 : decode cX1_hookTo 9 = .ok (.getfield 24, 3) := by decide +kernel
theorem dX1_hookTo_12 : decode cX1_hookTo 12 = .ok (.iload_n 1, 1) := by decide +kernel
theorem dX1_hookTo_13 : decode cX1_hookTo 13 = .ok (.iconst (-1), 1) := by decide +kernel
theorem dX1_hookTo_14 : decode cX1_hookTo 14 = .ok (.iastore, 1) := by decide +kernel
theorem dX1_hookTo_15 : decode cX1_hookTo 15 = .ok (.aload_n 0, 1) := by decide +kernel
theorem dX1_hookTo_16 : decode cX1_hookTo 16 = .ok (.getfield 27, 3) := by decide +kernel
theorem dX1_hookTo_19 : decode cX1_hookTo 19 = .ok (.iload_n 1, 1) := by decide +kernel
theorem dX1_hookTo_20 : decode cX1_hookTo 20 = .ok (.iload_n 1, 1) := by decide +kernel
theorem dX1_hookTo_21 : decode cX1_hookTo 21 = .ok (.iastore, 1) := by decide +kernel
theorem dX1_hookTo_22 : decode cX1_hookTo 22 = .ok (.aload_n 0, 1) := by decide +kernel
theorem dX1_hookTo_23 : decode cX1_hookTo 23 = .ok (.getfield 30, 3) := by decide +kernel
theorem dX1_hookTo_26 : decode cX1_hookTo 26 = .ok (.iload_n 1, 1) := by decide +kernel
theorem dX1_hookTo_27 : decode cX1_hookTo 27 = .ok (.iload_n 2, 1) := by decide +kernel
theorem dX1_hookTo_28 : decode cX1_hookTo 28 = .ok (.iastore, 1) := by decide +kernel
theorem dX1_hookTo_29 : decode cX1_hookTo 29 = .ok (.aload_n 0, 1) := by decide +kernel
theorem dX1_hookTo_30 : decode cX1_hookTo 30 = .ok (.getfield 33, 3) := by decide +kernel
theorem dX1_hookTo_33 : decode cX1_hookTo 33 = .ok (.iload_n 1, 1) := by decide +kernel
theorem dX1_hookTo_34 : decode cX1_hookTo 34 = .ok (.iload_n 3, 1) := by decide +kernel
theorem dX1_hookTo_35 : decode cX1_hookTo 35 = .ok (.iastore, 1) := by decide +kernel
theorem dX1_hookTo_36 : decode cX1_hookTo 36 = .ok (.aload_n 0, 1) := by decide +kernel
theorem dX1_hookTo_37 : decode cX1_hookTo 37 = .ok (.getfield 36, 3) := by decide +kernel
theorem dX1_hookTo_40 : decode cX1_hookTo 40 = .ok (.iload_n 1, 1) := by decide +kernel
theorem dX1_hookTo_41 : decode cX1_hookTo 41 = .ok (.iload 4, 2) := by decide +kernel
theorem dX1_hookTo_43 : decode cX1_hookTo 43 = .ok (.iastore, 1) := by decide +kernel
theorem dX1_hookTo_44 : decode cX1_hookTo 44 = .ok (.return_, 1) := by decide +kernel
theorem dX1_putOn_0 : decode cX1_putOn 0 = .ok (.aload_n 0, 1) := by decide +kernel
theorem dX1_putOn_1 : decode cX1_putOn 1 = .ok (.iload_n 1, 1) := by decide +kernel
theorem dX1_putOn_2 : decode cX1_putOn 2 = .ok (.invokevirtual 54, 3) := by decide +kernel
theorem dX1_putOn_5 : decode cX1_putOn 5 = .ok (.ifCond .eq 24, 3) := by decide +kernel
theorem dX1_putOn_8 : decode cX1_putOn 8 = .ok (.aload_n 0, 1) := by decide +kernel
theorem dX1_putOn_9 : decode cX1_putOn 9 = .ok (.getfield 24, 3) := by decide +kernel
theorem dX1_putOn_12 : decode cX1_putOn 12 = .ok (.iload_n 1, 1) := by decide +kernel
theorem dX1_putOn_13 : decode cX1_putOn 13 = .ok (.iload_n 2, 1) := by decide +kernel
theorem dX1_putOn_14 : decode cX1_putOn 14 = .ok (.iastore, 1) := by decide +kernel
theorem dX1_putOn_15 : decode cX1_putOn 15 = .ok (.aload_n 0, 1) := by decide +kernel
theorem dX1_putOn_16 : decode cX1_putOn 16 = .ok (.getfield 27, 3) := by decide +kernel
theorem dX1_putOn_19 : decode cX1_putOn 19 = .ok (.iload_n 1, 1) := by decide +kernel
theorem dX1_putOn_20 : decode cX1_putOn 20 = .ok (.aload_n 0, 1) := by decide +kernel
theorem dX1_putOn_21 : decode cX1_putOn 21 = .ok (.getfield 27, 3) := by decide +kernel
theorem dX1_putOn_24 : decode cX1_putOn 24 = .ok (.iload_n 2, 1) := by decide +kernel
theorem dX1_putOn_25 : decode cX1_putOn 25 = .ok (.invokestatic 58, 3) := by decide +kernel
theorem dX1_putOn_28 : decode cX1_putOn 28 = .ok (.iastore, 1) := by decide +kernel
theorem dX1_putOn_29 : decode cX1_putOn 29 = .ok (.return_, 1) := by decide +kernel
theorem dX1_authorOf_0 : decode cX1_authorOf 0 = .ok (.aload_n 0, 1) := by decide +kernel
theorem dX1_authorOf_1 : decode cX1_authorOf 1 = .ok (.getfield 9, 3) := by decide +kernel
theorem dX1_authorOf_4 : decode cX1_authorOf 4 = .ok (.iload_n 1, 1) := by decide +kernel
theorem dX1_authorOf_5 : decode cX1_authorOf 5 = .ok (.invokestatic 58, 3) := by decide +kernel
theorem dX1_authorOf_8 : decode cX1_authorOf 8 = .ok (.ireturn, 1) := by decide +kernel
theorem dX1_kindOf_0 : decode cX1_kindOf 0 = .ok (.aload_n 0, 1) := by decide +kernel
theorem dX1_kindOf_1 : decode cX1_kindOf 1 = .ok (.getfield 15, 3) := by decide +kernel
theorem dX1_kindOf_4 : decode cX1_kindOf 4 = .ok (.iload_n 1, 1) := by decide +kernel
theorem dX1_kindOf_5 : decode cX1_kindOf 5 = .ok (.invokestatic 58, 3) := by decide +kernel
theorem dX1_kindOf_8 : decode cX1_kindOf 8 = .ok (.ireturn, 1) := by decide +kernel
theorem dX1_linesOf_0 : decode cX1_linesOf 0 = .ok (.aload_n 0, 1) := by decide +kernel
theorem dX1_linesOf_1 : decode cX1_linesOf 1 = .ok (.getfield 18, 3) := by decide +kernel
theorem dX1_linesOf_4 : decode cX1_linesOf 4 = .ok (.iload_n 1, 1) := by decide +kernel
theorem dX1_linesOf_5 : decode cX1_linesOf 5 = .ok (.invokestatic 58, 3) := by decide +kernel
theorem dX1_linesOf_8 : decode cX1_linesOf 8 = .ok (.ireturn, 1) := by decide +kernel
theorem dX1_marginOf_0 : decode cX1_marginOf 0 = .ok (.aload_n 0, 1) := by decide +kernel
theorem dX1_marginOf_1 : decode cX1_marginOf 1 = .ok (.getfield 21, 3) := by decide +kernel
theorem dX1_marginOf_4 : decode cX1_marginOf 4 = .ok (.iload_n 1, 1) := by decide +kernel
theorem dX1_marginOf_5 : decode cX1_marginOf 5 = .ok (.invokestatic 58, 3) := by decide +kernel
theorem dX1_marginOf_8 : decode cX1_marginOf 8 = .ok (.ireturn, 1) := by decide +kernel
theorem dX1_parentOf_0 : decode cX1_parentOf 0 = .ok (.aload_n 0, 1) := by decide +kernel
theorem dX1_parentOf_1 : decode cX1_parentOf 1 = .ok (.getfield 24, 3) := by decide +kernel
theorem dX1_parentOf_4 : decode cX1_parentOf 4 = .ok (.iload_n 1, 1) := by decide +kernel
theorem dX1_parentOf_5 : decode cX1_parentOf 5 = .ok (.invokestatic 58, 3) := by decide +kernel
theorem dX1_parentOf_8 : decode cX1_parentOf 8 = .ok (.ireturn, 1) := by decide +kernel
theorem dX1_unitOf_0 : decode cX1_unitOf 0 = .ok (.aload_n 0, 1) := by decide +kernel
theorem dX1_unitOf_1 : decode cX1_unitOf 1 = .ok (.getfield 30, 3) := by decide +kernel
theorem dX1_unitOf_4 : decode cX1_unitOf 4 = .ok (.aload_n 0, 1) := by decide +kernel
theorem dX1_unitOf_5 : decode cX1_unitOf 5 = .ok (.getfield 27, 3) := by decide +kernel
theorem dX1_unitOf_8 : decode cX1_unitOf 8 = .ok (.iload_n 1, 1) := by decide +kernel
theorem dX1_unitOf_9 : decode cX1_unitOf 9 = .ok (.invokestatic 58, 3) := by decide +kernel
theorem dX1_unitOf_12 : decode cX1_unitOf 12 = .ok (.invokestatic 58, 3) := by decide +kernel
theorem dX1_unitOf_15 : decode cX1_unitOf 15 = .ok (.ireturn, 1) := by decide +kernel
theorem dX1_placeOf_0 : decode cX1_placeOf 0 = .ok (.aload_n 0, 1) := by decide +kernel
theorem dX1_placeOf_1 : decode cX1_placeOf 1 = .ok (.getfield 33, 3) := by decide +kernel
theorem dX1_placeOf_4 : decode cX1_placeOf 4 = .ok (.aload_n 0, 1) := by decide +kernel
theorem dX1_placeOf_5 : decode cX1_placeOf 5 = .ok (.getfield 27, 3) := by decide +kernel
theorem dX1_placeOf_8 : decode cX1_placeOf 8 = .ok (.iload_n 1, 1) := by decide +kernel
theorem dX1_placeOf_9 : decode cX1_placeOf 9 = .ok (.invokestatic 58, 3) := by decide +kernel
theorem dX1_placeOf_12 : decode cX1_placeOf 12 = .ok (.invokestatic 58, 3) := by decide +kernel
theorem dX1_placeOf_15 : decode cX1_placeOf 15 = .ok (.ireturn, 1) := by decide +kernel
theorem dX1_isLost_0 : decode cX1_isLost 0 = .ok (.aload_n 0, 1) := by decide +kernel
theorem dX1_isLost_1 : decode cX1_isLost 1 = .ok (.getfield 27, 3) := by decide +kernel
theorem dX1_isLost_4 : decode cX1_isLost 4 = .ok (.iload_n 1, 1) := by decide +kernel
theorem dX1_isLost_5 : decode cX1_isLost 5 = .ok (.invokestatic 58, 3) := by decide +kernel
theorem dX1_isLost_8 : decode cX1_isLost 8 = .ok (.istore_n 2, 1) := by decide +kernel
theorem dX1_isLost_9 : decode cX1_isLost 9 = .ok (.aload_n 0, 1) := by decide +kernel
theorem dX1_isLost_10 : decode cX1_isLost 10 = .ok (.iload_n 2, 1) := by decide +kernel
theorem dX1_isLost_11 : decode cX1_isLost 11 = .ok (.invokevirtual 54, 3) := by decide +kernel
theorem dX1_isLost_14 : decode cX1_isLost 14 = .ok (.ifCond .eq 16, 3) := by decide +kernel
theorem dX1_isLost_17 : decode cX1_isLost 17 = .ok (.aload_n 0, 1) := by decide +kernel
theorem dX1_isLost_18 : decode cX1_isLost 18 = .ok (.getfield 39, 3) := by decide +kernel
theorem dX1_isLost_21 : decode cX1_isLost 21 = .ok (.iload_n 2, 1) := by decide +kernel
theorem dX1_isLost_22 : decode cX1_isLost 22 = .ok (.baload, 1) := by decide +kernel
theorem dX1_isLost_23 : decode cX1_isLost 23 = .ok (.ifCond .eq 7, 3) := by decide +kernel
theorem dX1_isLost_26 : decode cX1_isLost 26 = .ok (.iconst 1, 1) := by decide +kernel
theorem dX1_isLost_27 : decode cX1_isLost 27 = .ok (.goto 4, 3) := by decide +kernel
theorem dX1_isLost_30 : decode cX1_isLost 30 = .ok (.iconst 0, 1) := by decide +kernel
theorem dX1_isLost_31 : decode cX1_isLost 31 = .ok (.ireturn, 1) := by decide +kernel
theorem dX1_isHook_0 : decode cX1_isHook 0 = .ok (.aload_n 0, 1) := by decide +kernel
theorem dX1_isHook_1 : decode cX1_isHook 1 = .ok (.iload_n 1, 1) := by decide +kernel
theorem dX1_isHook_2 : decode cX1_isHook 2 = .ok (.invokevirtual 54, 3) := by decide +kernel
theorem dX1_isHook_5 : decode cX1_isHook 5 = .ok (.ifCond .eq 27, 3) := by decide +kernel
theorem dX1_isHook_8 : decode cX1_isHook 8 = .ok (.aload_n 0, 1) := by decide +kernel
theorem dX1_isHook_9 : decode cX1_isHook 9 = .ok (.getfield 24, 3) := by decide +kernel
theorem dX1_isHook_12 : decode cX1_isHook 12 = .ok (.iload_n 1, 1) := by decide +kernel
theorem dX1_isHook_13 : decode cX1_isHook 13 = .ok (.iaload, 1) := by decide +kernel
theorem dX1_isHook_14 : decode cX1_isHook 14 = .ok (.iconst (-1), 1) := by decide +kernel
theorem dX1_isHook_15 : decode cX1_isHook 15 = .ok (.if_icmp .ne 17, 3) := by decide +kernel
theorem dX1_isHook_18 : decode cX1_isHook 18 = .ok (.aload_n 0, 1) := by decide +kernel
theorem dX1_isHook_19 : decode cX1_isHook 19 = .ok (.getfield 30, 3) := by decide +kernel
theorem dX1_isHook_22 : decode cX1_isHook 22 = .ok (.iload_n 1, 1) := by decide +kernel
theorem dX1_isHook_23 : decode cX1_isHook 23 = .ok (.iaload, 1) := by decide +kernel
theorem dX1_isHook_24 : decode cX1_isHook 24 = .ok (.iload_n 2, 1) := by decide +kernel
theorem dX1_isHook_25 : decode cX1_isHook 25 = .ok (.if_icmp .ne 7, 3) := by decide +kernel
theorem dX1_isHook_28 : decode cX1_isHook 28 = .ok (.iconst 1, 1) := by decide +kernel
theorem dX1_isHook_29 : decode cX1_isHook 29 = .ok (.goto 4, 3) := by decide +kernel
theorem dX1_isHook_32 : decode cX1_isHook 32 = .ok (.iconst 0, 1) := by decide +kernel
theorem dX1_isHook_33 : decode cX1_isHook 33 = .ok (.ireturn, 1) := by decide +kernel
theorem dX1_closeGap_0 : decode cX1_closeGap 0 = .ok (.iconst 0, 1) := by decide +kernel
theorem dX1_closeGap_1 : decode cX1_closeGap 1 = .ok (.istore 4, 2) := by decide +kernel
theorem dX1_closeGap_3 : decode cX1_closeGap 3 = .ok (.iload 4, 2) := by decide +kernel
theorem dX1_closeGap_5 : decode cX1_closeGap 5 = .ok (.aload_n 0, 1) := by decide +kernel
theorem dX1_closeGap_6 : decode cX1_closeGap 6 = .ok (.getfield 46, 3) := by decide +kernel
theorem dX1_closeGap_9 : decode cX1_closeGap 9 = .ok (.if_icmp .ge 54, 3) := by decide +kernel
theorem dX1_closeGap_12 : decode cX1_closeGap 12 = .ok (.aload_n 0, 1) := by decide +kernel
theorem dX1_closeGap_13 : decode cX1_closeGap 13 = .ok (.iload 4, 2) := by decide +kernel
theorem dX1_closeGap_15 : decode cX1_closeGap 15 = .ok (.iload_n 1, 1) := by decide +kernel
theorem dX1_closeGap_16 : decode cX1_closeGap 16 = .ok (.invokevirtual 62, 3) := by decide +kernel
theorem dX1_closeGap_19 : decode cX1_closeGap 19 = .ok (.ifCond .eq 38, 3) := by decide +kernel
theorem dX1_closeGap_22 : decode cX1_closeGap 22 = .ok (.aload_n 0, 1) := by decide +kernel
theorem dX1_closeGap_23 : decode cX1_closeGap 23 = .ok (.getfield 33, 3) := by decide +kernel
theorem dX1_closeGap_26 : decode cX1_closeGap 26 = .ok (.iload 4, 2) := by decide +kernel
theorem dX1_closeGap_28 : decode cX1_closeGap 28 = .ok (.iaload, 1) := by decide +kernel
theorem dX1_closeGap_29 : decode cX1_closeGap 29 = .ok (.istore 5, 2) := by decide +kernel
theorem dX1_closeGap_31 : decode cX1_closeGap 31 = .ok (.aload_n 0, 1) := by decide +kernel
theorem dX1_closeGap_32 : decode cX1_closeGap 32 = .ok (.getfield 33, 3) := by decide +kernel
theorem dX1_closeGap_35 : decode cX1_closeGap 35 = .ok (.iload 4, 2) := by decide +kernel
theorem dX1_closeGap_37 : decode cX1_closeGap 37 = .ok (.iload 5, 2) := by decide +kernel
theorem dX1_closeGap_39 : decode cX1_closeGap 39 = .ok (.iload_n 2, 1) := by decide +kernel
theorem dX1_closeGap_40 : decode cX1_closeGap 40 = .ok (.if_icmp .le 10, 3) := by decide +kernel
theorem dX1_closeGap_43 : decode cX1_closeGap 43 = .ok (.iload 5, 2) := by decide +kernel
theorem dX1_closeGap_45 : decode cX1_closeGap 45 = .ok (.iconst 1, 1) := by decide +kernel
theorem dX1_closeGap_46 : decode cX1_closeGap 46 = .ok (.isub, 1) := by decide +kernel
theorem dX1_closeGap_47 : decode cX1_closeGap 47 = .ok (.goto 5, 3) := by decide +kernel
theorem dX1_closeGap_50 : decode cX1_closeGap 50 = .ok (.iload 5, 2) := by decide +kernel
theorem dX1_closeGap_52 : decode cX1_closeGap 52 = .ok (.iload_n 3, 1) := by decide +kernel
theorem dX1_closeGap_53 : decode cX1_closeGap 53 = .ok (.invokestatic 66, 3) := by decide +kernel
theorem dX1_closeGap_56 : decode cX1_closeGap 56 = .ok (.iastore, 1) := by decide +kernel
theorem dX1_closeGap_57 : decode cX1_closeGap 57 = .ok (.iinc 4 1, 3) := by decide +kernel
theorem dX1_closeGap_60 : decode cX1_closeGap 60 = .ok (.goto (-57), 3) := by decide +kernel
theorem dX1_closeGap_63 : decode cX1_closeGap 63 = .ok (.return_, 1) := by decide +kernel
theorem dX1_hookAnew_0 : decode cX1_hookAnew 0 = .ok (.iconst 0, 1) := by decide +kernel
theorem dX1_hookAnew_1 : decode cX1_hookAnew 1 = .ok (.istore_n 3, 1) := by decide +kernel
theorem dX1_hookAnew_2 : decode cX1_hookAnew 2 = .ok (.iconst 0, 1) := by decide +kernel
theorem dX1_hookAnew_3 : decode cX1_hookAnew 3 = .ok (.istore 4, 2) := by decide +kernel
theorem dX1_hookAnew_5 : decode cX1_hookAnew 5 = .ok (.iload 4, 2) := by decide +kernel
theorem dX1_hookAnew_7 : decode cX1_hookAnew 7 = .ok (.aload_n 0, 1) := by decide +kernel
theorem dX1_hookAnew_8 : decode cX1_hookAnew 8 = .ok (.getfield 46, 3) := by decide +kernel
theorem dX1_hookAnew_11 : decode cX1_hookAnew 11 = .ok (.if_icmp .ge 91, 3) := by decide +kernel
theorem dX1_hookAnew_14 : decode cX1_hookAnew 14 = .ok (.aload_n 0, 1) := by decide +kernel
theorem dX1_hookAnew_15 : decode cX1_hookAnew 15 = .ok (.iload 4, 2) := by decide +kernel
theorem dX1_hookAnew_17 : decode cX1_hookAnew 17 = .ok (.iload_n 1, 1) := by decide +kernel
theorem dX1_hookAnew_18 : decode cX1_hookAnew 18 = .ok (.invokevirtual 62, 3) := by decide +kernel
theorem dX1_hookAnew_21 : decode cX1_hookAnew 21 = .ok (.ifCond .eq 75, 3) := by decide +kernel
theorem dX1_hookAnew_24 : decode cX1_hookAnew 24 = .ok (.aload_n 2, 1) := by decide +kernel
theorem dX1_hookAnew_25 : decode cX1_hookAnew 25 = .ok (.iload_n 1, 1) := by decide +kernel
theorem dX1_hookAnew_26 : decode cX1_hookAnew 26 = .ok (.aload_n 0, 1) := by decide +kernel
theorem dX1_hookAnew_27 : decode cX1_hookAnew 27 = .ok (.getfield 36, 3) := by decide +kernel
theorem dX1_hookAnew_30 : decode cX1_hookAnew 30 = .ok (.iload 4, 2) := by decide +kernel
theorem dX1_hookAnew_32 : decode cX1_hookAnew 32 = .ok (.iaload, 1) := by decide +kernel
theorem dX1_hookAnew_33 : decode cX1_hookAnew 33 = .ok (.aload_n 0, 1) := by decide +kernel
theorem dX1_hookAnew_34 : decode cX1_hookAnew 34 = .ok (.getfield 33, 3) := by decide +kernel
theorem dX1_hookAnew_37 : decode cX1_hookAnew 37 = .ok (.iload 4, 2) := by decide +kernel
theorem dX1_hookAnew_39 : decode cX1_hookAnew 39 = .ok (.iaload, 1) := by decide +kernel
theorem dX1_hookAnew_40 : decode cX1_hookAnew 40 = .ok (.invokevirtual 72, 3) := by decide +kernel
theorem dX1_hookAnew_43 : decode cX1_hookAnew 43 = .ok (.istore 5, 2) := by decide +kernel
theorem dX1_hookAnew_45 : decode cX1_hookAnew 45 = .ok (.iload 5, 2) := by decide +kernel
theorem dX1_hookAnew_47 : decode cX1_hookAnew 47 = .ok (.iconst (-1), 1) := by decide +kernel
theorem dX1_hookAnew_48 : decode cX1_hookAnew 48 = .ok (.if_icmp .ne 7, 3) := by decide +kernel
theorem dX1_hookAnew_51 : decode cX1_hookAnew 51 = .ok (.iconst 1, 1) := by decide +kernel
theorem dX1_hookAnew_52 : decode cX1_hookAnew 52 = .ok (.goto 4, 3) := by decide +kernel
theorem dX1_hookAnew_55 : decode cX1_hookAnew 55 = .ok (.iconst 0, 1) := by decide +kernel
theorem dX1_hookAnew_56 : decode cX1_hookAnew 56 = .ok (.istore 6, 2) := by decide +kernel
theorem dX1_hookAnew_58 : decode cX1_hookAnew 58 = .ok (.iload 6, 2) := by decide +kernel
theorem dX1_hookAnew_60 : decode cX1_hookAnew 60 = .ok (.ifCond .ne 12, 3) := by decide +kernel
theorem dX1_hookAnew_63 : decode cX1_hookAnew 63 = .ok (.aload_n 0, 1) := by decide +kernel
theorem dX1_hookAnew_64 : decode cX1_hookAnew 64 = .ok (.getfield 33, 3) := by decide +kernel
theorem dX1_hookAnew_67 : decode cX1_hookAnew 67 = .ok (.iload 4, 2) := by decide +kernel
theorem dX1_hookAnew_69 : decode cX1_hookAnew 69 = .ok (.iload 5, 2) := by decide +kernel
theorem dX1_hookAnew_71 : decode cX1_hookAnew 71 = .ok (.iastore, 1) := by decide +kernel
theorem dX1_hookAnew_72 : decode cX1_hookAnew 72 = .ok (.iload 6, 2) := by decide +kernel
theorem dX1_hookAnew_74 : decode cX1_hookAnew 74 = .ok (.aload_n 0, 1) := by decide +kernel
theorem dX1_hookAnew_75 : decode cX1_hookAnew 75 = .ok (.getfield 39, 3) := by decide +kernel
theorem dX1_hookAnew_78 : decode cX1_hookAnew 78 = .ok (.iload 4, 2) := by decide +kernel
theorem dX1_hookAnew_80 : decode cX1_hookAnew 80 = .ok (.baload, 1) := by decide +kernel
theorem dX1_hookAnew_81 : decode cX1_hookAnew 81 = .ok (.if_icmp .eq 15, 3) := by decide +kernel
theorem dX1_hookAnew_84 : decode cX1_hookAnew 84 = .ok (.aload_n 0, 1) := by decide +kernel
theorem dX1_hookAnew_85 : decode cX1_hookAnew 85 = .ok (.getfield 39, 3) := by decide +kernel
theorem dX1_hookAnew_88 : decode cX1_hookAnew 88 = .ok (.iload 4, 2) := by decide +kernel
theorem dX1_hookAnew_90 : decode cX1_hookAnew 90 = .ok (.iload 6, 2) := by decide +kernel
theorem dX1_hookAnew_92 : decode cX1_hookAnew 92 = .ok (.bastore, 1) := by decide +kernel
theorem dX1_hookAnew_93 : decode cX1_hookAnew 93 = .ok (.iinc 3 1, 3) := by decide +kernel
theorem dX1_hookAnew_96 : decode cX1_hookAnew 96 = .ok (.iinc 4 1, 3) := by decide +kernel
theorem dX1_hookAnew_99 : decode cX1_hookAnew 99 = .ok (.goto (-94), 3) := by decide +kernel
theorem dX1_hookAnew_102 : decode cX1_hookAnew 102 = .ok (.iload_n 3, 1) := by decide +kernel
theorem dX1_hookAnew_103 : decode cX1_hookAnew 103 = .ok (.ireturn, 1) := by decide +kernel
theorem dX1_stands_0 : decode cX1_stands 0 = .ok (.aload_n 0, 1) := by decide +kernel
theorem dX1_stands_1 : decode cX1_stands 1 = .ok (.invokevirtual 78, 3) := by decide +kernel
theorem dX1_stands_4 : decode cX1_stands 4 = .ok (.aload_n 0, 1) := by decide +kernel
theorem dX1_stands_5 : decode cX1_stands 5 = .ok (.iload_n 1, 1) := by decide +kernel
theorem dX1_stands_6 : decode cX1_stands 6 = .ok (.invokevirtual 81, 3) := by decide +kernel
theorem dX1_stands_9 : decode cX1_stands 9 = .ok (.ireturn, 1) := by decide +kernel
theorem dX1_weigh_0 : decode cX1_weigh 0 = .ok (.aload_n 0, 1) := by decide +kernel
theorem dX1_weigh_1 : decode cX1_weigh 1 = .ok (.getfield 43, 3) := by decide +kernel
theorem dX1_weigh_4 : decode cX1_weigh 4 = .ok (.iconst 0, 1) := by decide +kernel
theorem dX1_weigh_5 : decode cX1_weigh 5 = .ok (.invokestatic 84, 3) := by decide +kernel
theorem dX1_weigh_8 : decode cX1_weigh 8 = .ok (.aload_n 0, 1) := by decide +kernel
theorem dX1_weigh_9 : decode cX1_weigh 9 = .ok (.getfield 46, 3) := by decide +kernel
theorem dX1_weigh_12 : decode cX1_weigh 12 = .ok (.iconst 1, 1) := by decide +kernel
theorem dX1_weigh_13 : decode cX1_weigh 13 = .ok (.isub, 1) := by decide +kernel
theorem dX1_weigh_14 : decode cX1_weigh 14 = .ok (.istore_n 1, 1) := by decide +kernel
theorem dX1_weigh_15 : decode cX1_weigh 15 = .ok (.iload_n 1, 1) := by decide +kernel
theorem dX1_weigh_16 : decode cX1_weigh 16 = .ok (.ifCond .lt 50, 3) := by decide +kernel
theorem dX1_weigh_19 : decode cX1_weigh 19 = .ok (.aload_n 0, 1) := by decide +kernel
theorem dX1_weigh_20 : decode cX1_weigh 20 = .ok (.getfield 24, 3) := by decide +kernel
theorem dX1_weigh_23 : decode cX1_weigh 23 = .ok (.iload_n 1, 1) := by decide +kernel
theorem dX1_weigh_24 : decode cX1_weigh 24 = .ok (.iaload, 1) := by decide +kernel
theorem dX1_weigh_25 : decode cX1_weigh 25 = .ok (.istore_n 2, 1) := by decide +kernel
theorem dX1_weigh_26 : decode cX1_weigh 26 = .ok (.aload_n 0, 1) := by decide +kernel
theorem dX1_weigh_27 : decode cX1_weigh 27 = .ok (.iload_n 2, 1) := by decide +kernel
theorem dX1_weigh_28 : decode cX1_weigh 28 = .ok (.invokevirtual 54, 3) := by decide +kernel
theorem dX1_weigh_31 : decode cX1_weigh 31 = .ok (.ifCond .eq 29, 3) := by decide +kernel
theorem dX1_weigh_34 : decode cX1_weigh 34 = .ok (.aload_n 0, 1) := by decide +kernel
theorem dX1_weigh_35 : decode cX1_weigh 35 = .ok (.iload_n 1, 1) := by decide +kernel
theorem dX1_weigh_36 : decode cX1_weigh 36 = .ok (.invokevirtual 81, 3) := by decide +kernel
theorem dX1_weigh_39 : decode cX1_weigh 39 = .ok (.ifCond .eq 21, 3) := by decide +kernel
theorem dX1_weigh_42 : decode cX1_weigh 42 = .ok (.aload_n 0, 1) := by decide +kernel
theorem dX1_weigh_43 : decode cX1_weigh 43 = .ok (.getfield 43, 3) := by decide +kernel
theorem dX1_weigh_46 : decode cX1_weigh 46 = .ok (.iload_n 2, 1) := by decide +kernel
theorem dX1_weigh_47 : decode cX1_weigh 47 = .ok (.dup2, 1) := by decide +kernel
theorem dX1_weigh_48 : decode cX1_weigh 48 = .ok (.iaload, 1) := by decide +kernel
theorem dX1_weigh_49 : decode cX1_weigh 49 = .ok (.aload_n 0, 1) := by decide +kernel
theorem dX1_weigh_50 : decode cX1_weigh 50 = .ok (.getfield 15, 3) := by decide +kernel
theorem dX1_weigh_53 : decode cX1_weigh 53 = .ok (.iload_n 1, 1) := by decide +kernel
theorem dX1_weigh_54 : decode cX1_weigh 54 = .ok (.iaload, 1) := by decide +kernel
theorem dX1_weigh_55 : decode cX1_weigh 55 = .ok (.invokestatic 90, 3) := by decide +kernel
theorem dX1_weigh_58 : decode cX1_weigh 58 = .ok (.iadd, 1) := by decide +kernel
theorem dX1_weigh_59 : decode cX1_weigh 59 = .ok (.iastore, 1) := by decide +kernel
theorem dX1_weigh_60 : decode cX1_weigh 60 = .ok (.iinc 1 (-1), 3) := by decide +kernel
theorem dX1_weigh_63 : decode cX1_weigh 63 = .ok (.goto (-48), 3) := by decide +kernel
theorem dX1_weigh_66 : decode cX1_weigh 66 = .ok (.return_, 1) := by decide +kernel
theorem dX1_isLight_0 : decode cX1_isLight 0 = .ok (.aload_n 0, 1) := by decide +kernel
theorem dX1_isLight_1 : decode cX1_isLight 1 = .ok (.getfield 43, 3) := by decide +kernel
theorem dX1_isLight_4 : decode cX1_isLight 4 = .ok (.iload_n 1, 1) := by decide +kernel
theorem dX1_isLight_5 : decode cX1_isLight 5 = .ok (.invokestatic 58, 3) := by decide +kernel
theorem dX1_isLight_8 : decode cX1_isLight 8 = .ok (.iconst 1, 1) := by decide +kernel
theorem dX1_isLight_9 : decode cX1_isLight 9 = .ok (.if_icmp .ge 7, 3) := by decide +kernel
theorem dX1_isLight_12 : decode cX1_isLight 12 = .ok (.iconst 1, 1) := by decide +kernel
theorem dX1_isLight_13 : decode cX1_isLight 13 = .ok (.goto 4, 3) := by decide +kernel
theorem dX1_isLight_16 : decode cX1_isLight 16 = .ok (.iconst 0, 1) := by decide +kernel
theorem dX1_isLight_17 : decode cX1_isLight 17 = .ok (.ireturn, 1) := by decide +kernel
theorem dX1_burdenOf_0 : decode cX1_burdenOf 0 = .ok (.iload_n 0, 1) := by decide +kernel
theorem dX1_burdenOf_1 : decode cX1_burdenOf 1 = .ok (.iconst 1, 1) := by decide +kernel
theorem dX1_burdenOf_2 : decode cX1_burdenOf 2 = .ok (.if_icmp .eq 8, 3) := by decide +kernel
theorem dX1_burdenOf_5 : decode cX1_burdenOf 5 = .ok (.iload_n 0, 1) := by decide +kernel
theorem dX1_burdenOf_6 : decode cX1_burdenOf 6 = .ok (.iconst 3, 1) := by decide +kernel
theorem dX1_burdenOf_7 : decode cX1_burdenOf 7 = .ok (.if_icmp .ne 5, 3) := by decide +kernel
theorem dX1_burdenOf_10 : decode cX1_burdenOf 10 = .ok (.iconst 1, 1) := by decide +kernel
theorem dX1_burdenOf_11 : decode cX1_burdenOf 11 = .ok (.ireturn, 1) := by decide +kernel
theorem dX1_burdenOf_12 : decode cX1_burdenOf 12 = .ok (.iload_n 0, 1) := by decide +kernel
theorem dX1_burdenOf_13 : decode cX1_burdenOf 13 = .ok (.iconst 2, 1) := by decide +kernel
theorem dX1_burdenOf_14 : decode cX1_burdenOf 14 = .ok (.if_icmp .ne 7, 3) := by decide +kernel
theorem dX1_burdenOf_17 : decode cX1_burdenOf 17 = .ok (.iconst (-1), 1) := by decide +kernel
theorem dX1_burdenOf_18 : decode cX1_burdenOf 18 = .ok (.goto 4, 3) := by decide +kernel
theorem dX1_burdenOf_21 : decode cX1_burdenOf 21 = .ok (.iconst 0, 1) := by decide +kernel
theorem dX1_burdenOf_22 : decode cX1_burdenOf 22 = .ok (.ireturn, 1) := by decide +kernel
theorem dX1_isDoubt_0 : decode cX1_isDoubt 0 = .ok (.aload_n 0, 1) := by decide +kernel
theorem dX1_isDoubt_1 : decode cX1_isDoubt 1 = .ok (.iload_n 1, 1) := by decide +kernel
theorem dX1_isDoubt_2 : decode cX1_isDoubt 2 = .ok (.invokevirtual 94, 3) := by decide +kernel
theorem dX1_isDoubt_5 : decode cX1_isDoubt 5 = .ok (.istore_n 2, 1) := by decide +kernel
theorem dX1_isDoubt_6 : decode cX1_isDoubt 6 = .ok (.aload_n 0, 1) := by decide +kernel
theorem dX1_isDoubt_7 : decode cX1_isDoubt 7 = .ok (.iload_n 1, 1) := by decide +kernel
theorem dX1_isDoubt_8 : decode cX1_isDoubt 8 = .ok (.invokevirtual 97, 3) := by decide +kernel
theorem dX1_isDoubt_11 : decode cX1_isDoubt 11 = .ok (.iconst (-1), 1) := by decide +kernel
theorem dX1_isDoubt_12 : decode cX1_isDoubt 12 = .ok (.if_icmp .ne 16, 3) := by decide +kernel
theorem dX1_isDoubt_15 : decode cX1_isDoubt 15 = .ok (.iload_n 2, 1) := by decide +kernel
theorem dX1_isDoubt_16 : decode cX1_isDoubt 16 = .ok (.ifCond .eq 8, 3) := by decide +kernel
theorem dX1_isDoubt_19 : decode cX1_isDoubt 19 = .ok (.iload_n 2, 1) := by decide +kernel
theorem dX1_isDoubt_20 : decode cX1_isDoubt 20 = .ok (.iconst 1, 1) := by decide +kernel
theorem dX1_isDoubt_21 : decode cX1_isDoubt 21 = .ok (.if_icmp .ne 7, 3) := by decide +kernel
theorem dX1_isDoubt_24 : decode cX1_isDoubt 24 = .ok (.iconst 1, 1) := by decide +kernel
theorem dX1_isDoubt_25 : decode cX1_isDoubt 25 = .ok (.goto 4, 3) := by decide +kernel
theorem dX1_isDoubt_28 : decode cX1_isDoubt 28 = .ok (.iconst 0, 1) := by decide +kernel
theorem dX1_isDoubt_29 : decode cX1_isDoubt 29 = .ok (.ireturn, 1) := by decide +kernel
theorem dX1_haveDoubtOn_0 : decode cX1_haveDoubtOn 0 = .ok (.aload_n 0, 1) := by decide +kernel
theorem dX1_haveDoubtOn_1 : decode cX1_haveDoubtOn 1 = .ok (.invokevirtual 78, 3) := by decide +kernel
theorem dX1_haveDoubtOn_4 : decode cX1_haveDoubtOn 4 = .ok (.iconst 0, 1) := by decide +kernel
theorem dX1_haveDoubtOn_5 : decode cX1_haveDoubtOn 5 = .ok (.istore_n 2, 1) := by decide +kernel
theorem dX1_haveDoubtOn_6 : decode cX1_haveDoubtOn 6 = .ok (.iload_n 2, 1) := by decide +kernel
theorem dX1_haveDoubtOn_7 : decode cX1_haveDoubtOn 7 = .ok (.aload_n 0, 1) := by decide +kernel
theorem dX1_haveDoubtOn_8 : decode cX1_haveDoubtOn 8 = .ok (.getfield 46, 3) := by decide +kernel
theorem dX1_haveDoubtOn_11 : decode cX1_haveDoubtOn 11 = .ok (.if_icmp .ge 36, 3) := by decide +kernel
theorem dX1_haveDoubtOn_14 : decode cX1_haveDoubtOn 14 = .ok (.aload_n 0, 1) := by decide +kernel
theorem dX1_haveDoubtOn_15 : decode cX1_haveDoubtOn 15 = .ok (.iload_n 2, 1) := by decide +kernel
theorem dX1_haveDoubtOn_16 : decode cX1_haveDoubtOn 16 = .ok (.iload_n 1, 1) := by decide +kernel
theorem dX1_haveDoubtOn_17 : decode cX1_haveDoubtOn 17 = .ok (.invokevirtual 62, 3) := by decide +kernel
theorem dX1_haveDoubtOn_20 : decode cX1_haveDoubtOn 20 = .ok (.ifCond .eq 21, 3) := by decide +kernel
theorem dX1_haveDoubtOn_23 : decode cX1_haveDoubtOn 23 = .ok (.aload_n 0, 1) := by decide +kernel
theorem dX1_haveDoubtOn_24 : decode cX1_haveDoubtOn 24 = .ok (.iload_n 2, 1) := by decide +kernel
theorem dX1_haveDoubtOn_25 : decode cX1_haveDoubtOn 25 = .ok (.invokevirtual 100, 3) := by decide +kernel
theorem dX1_haveDoubtOn_28 : decode cX1_haveDoubtOn 28 = .ok (.ifCond .eq 13, 3) := by decide +kernel
theorem dX1_haveDoubtOn_31 : decode cX1_haveDoubtOn 31 = .ok (.aload_n 0, 1) := by decide +kernel
theorem dX1_haveDoubtOn_32 : decode cX1_haveDoubtOn 32 = .ok (.iload_n 2, 1) := by decide +kernel
theorem dX1_haveDoubtOn_33 : decode cX1_haveDoubtOn 33 = .ok (.invokevirtual 81, 3) := by decide +kernel
theorem dX1_haveDoubtOn_36 : decode cX1_haveDoubtOn 36 = .ok (.ifCond .eq 5, 3) := by decide +kernel
theorem dX1_haveDoubtOn_39 : decode cX1_haveDoubtOn 39 = .ok (.iconst 1, 1) := by decide +kernel
theorem dX1_haveDoubtOn_40 : decode cX1_haveDoubtOn 40 = .ok (.ireturn, 1) := by decide +kernel
theorem dX1_haveDoubtOn_41 : decode cX1_haveDoubtOn 41 = .ok (.iinc 2 1, 3) := by decide +kernel
theorem dX1_haveDoubtOn_44 : decode cX1_haveDoubtOn 44 = .ok (.goto (-38), 3) := by decide +kernel
theorem dX1_haveDoubtOn_47 : decode cX1_haveDoubtOn 47 = .ok (.iconst 0, 1) := by decide +kernel
theorem dX1_haveDoubtOn_48 : decode cX1_haveDoubtOn 48 = .ok (.ireturn, 1) := by decide +kernel
theorem dX1_solvedBy_0 : decode cX1_solvedBy 0 = .ok (.aload_n 0, 1) := by decide +kernel
theorem dX1_solvedBy_1 : decode cX1_solvedBy 1 = .ok (.invokevirtual 78, 3) := by decide +kernel
theorem dX1_solvedBy_4 : decode cX1_solvedBy 4 = .ok (.iconst 0, 1) := by decide +kernel
theorem dX1_solvedBy_5 : decode cX1_solvedBy 5 = .ok (.istore_n 3, 1) := by decide +kernel
theorem dX1_solvedBy_6 : decode cX1_solvedBy 6 = .ok (.iconst 0, 1) := by decide +kernel
theorem dX1_solvedBy_7 : decode cX1_solvedBy 7 = .ok (.istore 4, 2) := by decide +kernel
theorem dX1_solvedBy_9 : decode cX1_solvedBy 9 = .ok (.iload 4, 2) := by decide +kernel
theorem dX1_solvedBy_11 : decode cX1_solvedBy 11 = .ok (.aload_n 0, 1) := by decide +kernel
theorem dX1_solvedBy_12 : decode cX1_solvedBy 12 = .ok (.getfield 46, 3) := by decide +kernel
theorem dX1_solvedBy_15 : decode cX1_solvedBy 15 = .ok (.if_icmp .ge 58, 3) := by decide +kernel
theorem dX1_solvedBy_18 : decode cX1_solvedBy 18 = .ok (.aload_n 0, 1) := by decide +kernel
theorem dX1_solvedBy_19 : decode cX1_solvedBy 19 = .ok (.iload 4, 2) := by decide +kernel
theorem dX1_solvedBy_21 : decode cX1_solvedBy 21 = .ok (.invokevirtual 100, 3) := by decide +kernel
theorem dX1_solvedBy_24 : decode cX1_solvedBy 24 = .ok (.ifCond .eq 43, 3) := by decide +kernel
theorem dX1_solvedBy_27 : decode cX1_solvedBy 27 = .ok (.aload_n 0, 1) := by decide +kernel
theorem dX1_solvedBy_28 : decode cX1_solvedBy 28 = .ok (.iload 4, 2) := by decide +kernel
theorem dX1_solvedBy_30 : decode cX1_solvedBy 30 = .ok (.invokevirtual 81, 3) := by decide +kernel
theorem dX1_solvedBy_33 : decode cX1_solvedBy 33 = .ok (.ifCond .ne 34, 3) := by decide +kernel
theorem dX1_solvedBy_36 : decode cX1_solvedBy 36 = .ok (.aload_n 0, 1) := by decide +kernel
theorem dX1_solvedBy_37 : decode cX1_solvedBy 37 = .ok (.iload 4, 2) := by decide +kernel
theorem dX1_solvedBy_39 : decode cX1_solvedBy 39 = .ok (.invokevirtual 103, 3) := by decide +kernel
theorem dX1_solvedBy_42 : decode cX1_solvedBy 42 = .ok (.istore 5, 2) := by decide +kernel
theorem dX1_solvedBy_44 : decode cX1_solvedBy 44 = .ok (.iload 5, 2) := by decide +kernel
theorem dX1_solvedBy_46 : decode cX1_solvedBy 46 = .ok (.iconst (-1), 1) := by decide +kernel
theorem dX1_solvedBy_47 : decode cX1_solvedBy 47 = .ok (.if_icmp .eq 20, 3) := by decide +kernel
theorem dX1_solvedBy_50 : decode cX1_solvedBy 50 = .ok (.aload_n 2, 1) := by decide +kernel
theorem dX1_solvedBy_51 : decode cX1_solvedBy 51 = .ok (.aload_n 0, 1) := by decide +kernel
theorem dX1_solvedBy_52 : decode cX1_solvedBy 52 = .ok (.iload 5, 2) := by decide +kernel
theorem dX1_solvedBy_54 : decode cX1_solvedBy 54 = .ok (.invokevirtual 106, 3) := by decide +kernel
theorem dX1_solvedBy_57 : decode cX1_solvedBy 57 = .ok (.invokevirtual 109, 3) := by decide +kernel
theorem dX1_solvedBy_60 : decode cX1_solvedBy 60 = .ok (.iload_n 1, 1) := by decide +kernel
theorem dX1_solvedBy_61 : decode cX1_solvedBy 61 = .ok (.if_icmp .ne 6, 3) := by decide +kernel
theorem dX1_solvedBy_64 : decode cX1_solvedBy 64 = .ok (.iinc 3 1, 3) := by decide +kernel
theorem dX1_solvedBy_67 : decode cX1_solvedBy 67 = .ok (.iinc 4 1, 3) := by decide +kernel
theorem dX1_solvedBy_70 : decode cX1_solvedBy 70 = .ok (.goto (-61), 3) := by decide +kernel
theorem dX1_solvedBy_73 : decode cX1_solvedBy 73 = .ok (.iload_n 3, 1) := by decide +kernel
theorem dX1_solvedBy_74 : decode cX1_solvedBy 74 = .ok (.ireturn, 1) := by decide +kernel
theorem dX1_lowestAnswerTo_0 : decode cX1_lowestAnswerTo 0 = .ok (.iload_n 1, 1) := by decide +kernel
theorem dX1_lowestAnswerTo_1 : decode cX1_lowestAnswerTo 1 = .ok (.iconst 1, 1) := by decide +kernel
theorem dX1_lowestAnswerTo_2 : decode cX1_lowestAnswerTo 2 = .ok (.iadd, 1) := by decide +kernel
theorem dX1_lowestAnswerTo_3 : decode cX1_lowestAnswerTo 3 = .ok (.istore_n 2, 1) := by decide +kernel
theorem dX1_lowestAnswerTo_4 : decode cX1_lowestAnswerTo 4 = .ok (.iload_n 2, 1) := by decide +kernel
theorem dX1_lowestAnswerTo_5 : decode cX1_lowestAnswerTo 5 = .ok (.aload_n 0, 1) := by decide +kernel
theorem dX1_lowestAnswerTo_6 : decode cX1_lowestAnswerTo 6 = .ok (.getfield 46, 3) := by decide +kernel
theorem dX1_lowestAnswerTo_9 : decode cX1_lowestAnswerTo 9 = .ok (.if_icmp .ge 37, 3) := by decide +kernel
theorem dX1_lowestAnswerTo_12 : decode cX1_lowestAnswerTo 12 = .ok (.aload_n 0, 1) := by decide +kernel
theorem dX1_lowestAnswerTo_13 : decode cX1_lowestAnswerTo 13 = .ok (.iload_n 2, 1) := by decide +kernel
theorem dX1_lowestAnswerTo_14 : decode cX1_lowestAnswerTo 14 = .ok (.invokevirtual 97, 3) := by decide +kernel
theorem dX1_lowestAnswerTo_17 : decode cX1_lowestAnswerTo 17 = .ok (.iload_n 1, 1) := by decide +kernel
theorem dX1_lowestAnswerTo_18 : decode cX1_lowestAnswerTo 18 = .ok (.if_icmp .ne 22, 3) := by decide +kernel
theorem dX1_lowestAnswerTo_21 : decode cX1_lowestAnswerTo 21 = .ok (.aload_n 0, 1) := by decide +kernel
theorem dX1_lowestAnswerTo_22 : decode cX1_lowestAnswerTo 22 = .ok (.iload_n 2, 1) := by decide +kernel
theorem dX1_lowestAnswerTo_23 : decode cX1_lowestAnswerTo 23 = .ok (.invokevirtual 94, 3) := by decide +kernel
theorem dX1_lowestAnswerTo_26 : decode cX1_lowestAnswerTo 26 = .ok (.iconst 3, 1) := by decide +kernel
theorem dX1_lowestAnswerTo_27 : decode cX1_lowestAnswerTo 27 = .ok (.if_icmp .ne 13, 3) := by decide +kernel
theorem dX1_lowestAnswerTo_30 : decode cX1_lowestAnswerTo 30 = .ok (.aload_n 0, 1) := by decide +kernel
theorem dX1_lowestAnswerTo_31 : decode cX1_lowestAnswerTo 31 = .ok (.iload_n 2, 1) := by decide +kernel
theorem dX1_lowestAnswerTo_32 : decode cX1_lowestAnswerTo 32 = .ok (.invokevirtual 81, 3) := by decide +kernel
theorem dX1_lowestAnswerTo_35 : decode cX1_lowestAnswerTo 35 = .ok (.ifCond .eq 5, 3) := by decide +kernel
theorem dX1_lowestAnswerTo_38 : decode cX1_lowestAnswerTo 38 = .ok (.iload_n 2, 1) := by decide +kernel
theorem dX1_lowestAnswerTo_39 : decode cX1_lowestAnswerTo 39 = .ok (.ireturn, 1) := by decide +kernel
theorem dX1_lowestAnswerTo_40 : decode cX1_lowestAnswerTo 40 = .ok (.iinc 2 1, 3) := by decide +kernel
theorem dX1_lowestAnswerTo_43 : decode cX1_lowestAnswerTo 43 = .ok (.goto (-39), 3) := by decide +kernel
theorem dX1_lowestAnswerTo_46 : decode cX1_lowestAnswerTo 46 = .ok (.iconst (-1), 1) := by decide +kernel
theorem dX1_lowestAnswerTo_47 : decode cX1_lowestAnswerTo 47 = .ok (.ireturn, 1) := by decide +kernel
theorem dX2_init_0 : decode cX2_init 0 = .ok (.aload_n 0, 1) := by decide +kernel
theorem dX2_init_1 : decode cX2_init 1 = .ok (.invokespecial 3, 3) := by decide +kernel
theorem dX2_init_4 : decode cX2_init 4 = .ok (.aload_n 0, 1) := by decide +kernel
theorem dX2_init_5 : decode cX2_init 5 = .ok (.sipush 160, 3) := by decide +kernel
theorem dX2_init_8 : decode cX2_init 8 = .ok (.newarray .int, 2) := by decide +kernel
theorem dX2_init_10 : decode cX2_init 10 = .ok (.putfield 9, 3) := by decide +kernel
theorem dX2_init_13 : decode cX2_init 13 = .ok (.aload_n 0, 1) := by decide +kernel
theorem dX2_init_14 : decode cX2_init 14 = .ok (.bipush 8, 2) := by decide +kernel
theorem dX2_init_16 : decode cX2_init 16 = .ok (.newarray .int, 2) := by decide +kernel
theorem dX2_init_18 : decode cX2_init 18 = .ok (.putfield 15, 3) := by decide +kernel
theorem dX2_init_21 : decode cX2_init 21 = .ok (.aload_n 0, 1) := by decide +kernel
theorem dX2_init_22 : decode cX2_init 22 = .ok (.bipush 8, 2) := by decide +kernel
theorem dX2_init_24 : decode cX2_init 24 = .ok (.newarray .int, 2) := by decide +kernel
theorem dX2_init_26 : decode cX2_init 26 = .ok (.putfield 18, 3) := by decide +kernel
theorem dX2_init_29 : decode cX2_init 29 = .ok (.return_, 1) := by decide +kernel
theorem dX2_count_0 : decode cX2_count 0 = .ok (.aload_n 0, 1) := by decide +kernel
theorem dX2_count_1 : decode cX2_count 1 = .ok (.getfield 21, 3) := by decide +kernel
theorem dX2_count_4 : decode cX2_count 4 = .ok (.ireturn, 1) := by decide +kernel
theorem dX2_isFull_0 : decode cX2_isFull 0 = .ok (.aload_n 0, 1) := by decide +kernel
theorem dX2_isFull_1 : decode cX2_isFull 1 = .ok (.getfield 21, 3) := by decide +kernel
theorem dX2_isFull_4 : decode cX2_isFull 4 = .ok (.bipush 8, 2) := by decide +kernel
theorem dX2_isFull_6 : decode cX2_isFull 6 = .ok (.if_icmp .lt 7, 3) := by decide +kernel
theorem dX2_isFull_9 : decode cX2_isFull 9 = .ok (.iconst 1, 1) := by decide +kernel
theorem dX2_isFull_10 : decode cX2_isFull 10 = .ok (.goto 4, 3) := by decide +kernel
theorem dX2_isFull_13 : decode cX2_isFull 13 = .ok (.iconst 0, 1) := by decide +kernel
theorem dX2_isFull_14 : decode cX2_isFull 14 = .ok (.ireturn, 1) := by decide +kernel
theorem dX2_has_0 : decode cX2_has 0 = .ok (.iload_n 1, 1) := by decide +kernel
theorem dX2_has_1 : decode cX2_has 1 = .ok (.ifCond .lt 15, 3) := by decide +kernel
theorem dX2_has_4 : decode cX2_has 4 = .ok (.iload_n 1, 1) := by decide +kernel
theorem dX2_has_5 : decode cX2_has 5 = .ok (.aload_n 0, 1) := by decide +kernel
theorem dX2_has_6 : decode cX2_has 6 = .ok (.getfield 21, 3) := by decide +kernel
theorem dX2_has_9 : decode cX2_has 9 = .ok (.if_icmp .ge 7, 3) := by decide +kernel
theorem dX2_has_12 : decode cX2_has 12 = .ok (.iconst 1, 1) := by decide +kernel
theorem dX2_has_13 : decode cX2_has 13 = .ok (.goto 4, 3) := by decide +kernel
theorem dX2_has_16 : decode cX2_has 16 = .ok (.iconst 0, 1) := by decide +kernel
theorem dX2_has_17 : decode cX2_has 17 = .ok (.ireturn, 1) := by decide +kernel
theorem dX2_latestWidth_0 : decode cX2_latestWidth 0 = .ok (.aload_n 0, 1) := by decide +kernel
theorem dX2_latestWidth_1 : decode cX2_latestWidth 1 = .ok (.getfield 25, 3) := by decide +kernel
theorem dX2_latestWidth_4 : decode cX2_latestWidth 4 = .ok (.ireturn, 1) := by decide +kernel
theorem dX2_add_0 : decode cX2_add 0 = .ok (.aload_n 0, 1) := by decide +kernel
theorem dX2_add_1 : decode cX2_add 1 = .ok (.invokevirtual 28, 3) := by decide +kernel
theorem dX2_add_4 : decode cX2_add 4 = .ok (.ifCond .ne 9, 3) := by decide +kernel
theorem dX2_add_7 : decode cX2_add 7 = .ok (.iload 4, 2) := by decide +kernel
theorem dX2_add_9 : decode cX2_add 9 = .ok (.iconst 1, 1) := by decide +kernel
theorem dX2_add_10 : decode cX2_add 10 = .ok (.if_icmp .ge 4, 3) := by decide +kernel
theorem dX2_add_13 : decode cX2_add 13 = .ok (.return_, 1) := by decide +kernel
theorem dX2_add_14 : decode cX2_add 14 = .ok (.aload_n 0, 1) := by decide +kernel
theorem dX2_add_15 : decode cX2_add 15 = .ok (.iload_n 3, 1) := by decide +kernel
theorem dX2_add_16 : decode cX2_add 16 = .ok (.putfield 25, 3) := by decide +kernel
theorem dX2_add_19 : decode cX2_add 19 = .ok (.aload_n 0, 1) := by decide +kernel
theorem dX2_add_20 : decode cX2_add 20 = .ok (.getfield 15, 3) := by decide +kernel
theorem dX2_add_23 : decode cX2_add 23 = .ok (.aload_n 0, 1) := by decide +kernel
theorem dX2_add_24 : decode cX2_add 24 = .ok (.getfield 21, 3) := by decide +kernel
theorem dX2_add_27 : decode cX2_add 27 = .ok (.aload_n 1, 1) := by decide +kernel
theorem dX2_add_28 : decode cX2_add 28 = .ok (.invokevirtual 32, 3) := by decide +kernel
theorem dX2_add_31 : decode cX2_add 31 = .ok (.iload 4, 2) := by decide +kernel
theorem dX2_add_33 : decode cX2_add 33 = .ok (.iadd, 1) := by decide +kernel
theorem dX2_add_34 : decode cX2_add 34 = .ok (.iconst 1, 1) := by decide +kernel
theorem dX2_add_35 : decode cX2_add 35 = .ok (.isub, 1) := by decide +kernel
theorem dX2_add_36 : decode cX2_add 36 = .ok (.iload 4, 2) := by decide +kernel
theorem dX2_add_38 : decode cX2_add 38 = .ok (.idiv, 1) := by decide +kernel
theorem dX2_add_39 : decode cX2_add 39 = .ok (.iastore, 1) := by decide +kernel
theorem dX2_add_40 : decode cX2_add 40 = .ok (.aload_n 0, 1) := by decide +kernel
theorem dX2_add_41 : decode cX2_add 41 = .ok (.getfield 18, 3) := by decide +kernel
theorem dX2_add_44 : decode cX2_add 44 = .ok (.aload_n 0, 1) := by decide +kernel
theorem dX2_add_45 : decode cX2_add 45 = .ok (.getfield 21, 3) := by decide +kernel
theorem dX2_add_48 : decode cX2_add 48 = .ok (.iload_n 2, 1) := by decide +kernel
theorem dX2_add_49 : decode cX2_add 49 = .ok (.iastore, 1) := by decide +kernel
theorem dX2_add_50 : decode cX2_add 50 = .ok (.iconst 0, 1) := by decide +kernel
theorem dX2_add_51 : decode cX2_add 51 = .ok (.istore 5, 2) := by decide +kernel
theorem dX2_add_53 : decode cX2_add 53 = .ok (.iload 5, 2) := by decide +kernel
theorem dX2_add_55 : decode cX2_add 55 = .ok (.iload_n 2, 1) := by decide +kernel
theorem dX2_add_56 : decode cX2_add 56 = .ok (.if_icmp .ge 53, 3) := by decide +kernel
theorem dX2_add_59 : decode cX2_add 59 = .ok (.iload 5, 2) := by decide +kernel
theorem dX2_add_61 : decode cX2_add 61 = .ok (.bipush 20, 2) := by decide +kernel
theorem dX2_add_63 : decode cX2_add 63 = .ok (.if_icmp .ge 46, 3) := by decide +kernel
theorem dX2_add_66 : decode cX2_add 66 = .ok (.aload_n 1, 1) := by decide +kernel
theorem dX2_add_67 : decode cX2_add 67 = .ok (.iload 5, 2) := by decide +kernel
theorem dX2_add_69 : decode cX2_add 69 = .ok (.invokevirtual 38, 3) := by decide +kernel
theorem dX2_add_72 : decode cX2_add 72 = .ok (.istore 6, 2) := by decide +kernel
theorem dX2_add_74 : decode cX2_add 74 = .ok (.aload_n 0, 1) := by decide +kernel
theorem dX2_add_75 : decode cX2_add 75 = .ok (.getfield 9, 3) := by decide +kernel
theorem dX2_add_78 : decode cX2_add 78 = .ok (.aload_n 0, 1) := by decide +kernel
theorem dX2_add_79 : decode cX2_add 79 = .ok (.getfield 21, 3) := by decide +kernel
theorem dX2_add_82 : decode cX2_add 82 = .ok (.bipush 20, 2) := by decide +kernel
theorem dX2_add_84 : decode cX2_add 84 = .ok (.imul, 1) := by decide +kernel
theorem dX2_add_85 : decode cX2_add 85 = .ok (.iload 5, 2) := by decide +kernel
theorem dX2_add_87 : decode cX2_add 87 = .ok (.iadd, 1) := by decide +kernel
theorem dX2_add_88 : decode cX2_add 88 = .ok (.bipush 100, 2) := by decide +kernel
theorem dX2_add_90 : decode cX2_add 90 = .ok (.iload 6, 2) := by decide +kernel
theorem dX2_add_92 : decode cX2_add 92 = .ok (.iload 4, 2) := by decide +kernel
theorem dX2_add_94 : decode cX2_add 94 = .ok (.idiv, 1) := by decide +kernel
theorem dX2_add_95 : decode cX2_add 95 = .ok (.imul, 1) := by decide +kernel
theorem dX2_add_96 : decode cX2_add 96 = .ok (.iload 6, 2) := by decide +kernel
theorem dX2_add_98 : decode cX2_add 98 = .ok (.iload 4, 2) := by decide +kernel
theorem dX2_add_100 : decode cX2_add 100 = .ok (.irem, 1) := by decide +kernel
theorem dX2_add_101 : decode cX2_add 101 = .ok (.iadd, 1) := by decide +kernel
theorem dX2_add_102 : decode cX2_add 102 = .ok (.iastore, 1) := by decide +kernel
theorem dX2_add_103 : decode cX2_add 103 = .ok (.iinc 5 1, 3) := by decide +kernel
theorem dX2_add_106 : decode cX2_add 106 = .ok (.goto (-53), 3) := by decide +kernel
theorem dX2_add_109 : decode cX2_add 109 = .ok (.aload_n 0, 1) := by decide +kernel
theorem dX2_add_110 : decode cX2_add 110 = .ok (.dup, 1) := by decide +kernel
theorem dX2_add_111 : decode cX2_add 111 = .ok (.getfield 21, 3) := by decide +kernel
theorem dX2_add_114 : decode cX2_add 114 = .ok (.iconst 1, 1) := by decide +kernel
theorem dX2_add_115 : decode cX2_add 115 = .ok (.iadd, 1) := by decide +kernel
theorem dX2_add_116 : decode cX2_add 116 = .ok (.putfield 21, 3) := by decide +kernel
theorem dX2_add_119 : decode cX2_add 119 = .ok (.return_, 1) := by decide +kernel
theorem dX2_pagesOf_0 : decode cX2_pagesOf 0 = .ok (.aload_n 0, 1) := by decide +kernel
theorem dX2_pagesOf_1 : decode cX2_pagesOf 1 = .ok (.getfield 15, 3) := by decide +kernel
theorem dX2_pagesOf_4 : decode cX2_pagesOf 4 = .ok (.iload_n 1, 1) := by decide +kernel
theorem dX2_pagesOf_5 : decode cX2_pagesOf 5 = .ok (.invokestatic 42, 3) := by decide +kernel
theorem dX2_pagesOf_8 : decode cX2_pagesOf 8 = .ok (.ireturn, 1) := by decide +kernel
theorem dX2_addressIn_0 : decode cX2_addressIn 0 = .ok (.aload_n 0, 1) := by decide +kernel
theorem dX2_addressIn_1 : decode cX2_addressIn 1 = .ok (.iload_n 1, 1) := by decide +kernel
theorem dX2_addressIn_2 : decode cX2_addressIn 2 = .ok (.invokevirtual 46, 3) := by decide +kernel
theorem dX2_addressIn_5 : decode cX2_addressIn 5 = .ok (.ifCond .eq 21, 3) := by decide +kernel
theorem dX2_addressIn_8 : decode cX2_addressIn 8 = .ok (.iload_n 2, 1) := by decide +kernel
theorem dX2_addressIn_9 : decode cX2_addressIn 9 = .ok (.ifCond .lt 17, 3) := by decide +kernel
theorem dX2_addressIn_12 : decode cX2_addressIn 12 = .ok (.iload_n 2, 1) := by decide +kernel
theorem dX2_addressIn_13 : decode cX2_addressIn 13 = .ok (.aload_n 0, 1) := by decide +kernel
theorem dX2_addressIn_14 : decode cX2_addressIn 14 = .ok (.getfield 18, 3) := by decide +kernel
theorem dX2_addressIn_17 : decode cX2_addressIn 17 = .ok (.iload_n 1, 1) := by decide +kernel
theorem dX2_addressIn_18 : decode cX2_addressIn 18 = .ok (.iaload, 1) := by decide +kernel
theorem dX2_addressIn_19 : decode cX2_addressIn 19 = .ok (.if_icmp .ge 7, 3) := by decide +kernel
theorem dX2_addressIn_22 : decode cX2_addressIn 22 = .ok (.iconst 1, 1) := by decide +kernel
theorem dX2_addressIn_23 : decode cX2_addressIn 23 = .ok (.goto 4, 3) := by decide +kernel
theorem dX2_addressIn_26 : decode cX2_addressIn 26 = .ok (.iconst 0, 1) := by decide +kernel
theorem dX2_addressIn_27 : decode cX2_addressIn 27 = .ok (.istore_n 3, 1) := by decide +kernel
theorem dX2_addressIn_28 : decode cX2_addressIn 28 = .ok (.iload_n 3, 1) := by decide +kernel
theorem dX2_addressIn_29 : decode cX2_addressIn 29 = .ok (.ifCond .eq 19, 3) := by decide +kernel
theorem dX2_addressIn_32 : decode cX2_addressIn 32 = .ok (.aload_n 0, 1) := by decide +kernel
theorem dX2_addressIn_33 : decode cX2_addressIn 33 = .ok (.getfield 9, 3) := by decide +kernel
theorem dX2_addressIn_36 : decode cX2_addressIn 36 = .ok (.iload_n 1, 1) := by decide +kernel
theorem dX2_addressIn_37 : decode cX2_addressIn 37 = .ok (.bipush 20, 2) := by decide +kernel
theorem dX2_addressIn_39 : decode cX2_addressIn 39 = .ok (.imul, 1) := by decide +kernel
theorem dX2_addressIn_40 : decode cX2_addressIn 40 = .ok (.iload_n 2, 1) := by decide +kernel
theorem dX2_addressIn_41 : decode cX2_addressIn 41 = .ok (.iadd, 1) := by decide +kernel
theorem dX2_addressIn_42 : decode cX2_addressIn 42 = .ok (.invokestatic 42, 3) := by decide +kernel
theorem dX2_addressIn_45 : decode cX2_addressIn 45 = .ok (.goto 4, 3) := by decide +kernel
theorem dX2_addressIn_48 : decode cX2_addressIn 48 = .ok (.iconst (-1), 1) := by decide +kernel
theorem dX2_addressIn_49 : decode cX2_addressIn 49 = .ok (.ireturn, 1) := by decide +kernel
theorem dX2_pageIn_0 : decode cX2_pageIn 0 = .ok (.aload_n 0, 1) := by decide +kernel
theorem dX2_pageIn_1 : decode cX2_pageIn 1 = .ok (.iload_n 1, 1) := by decide +kernel
theorem dX2_pageIn_2 : decode cX2_pageIn 2 = .ok (.iload_n 2, 1) := by decide +kernel
theorem dX2_pageIn_3 : decode cX2_pageIn 3 = .ok (.invokevirtual 50, 3) := by decide +kernel
theorem dX2_pageIn_6 : decode cX2_pageIn 6 = .ok (.istore_n 3, 1) := by decide +kernel
theorem dX2_pageIn_7 : decode cX2_pageIn 7 = .ok (.iload_n 3, 1) := by decide +kernel
theorem dX2_pageIn_8 : decode cX2_pageIn 8 = .ok (.iconst (-1), 1) := by decide +kernel
theorem dX2_pageIn_9 : decode cX2_pageIn 9 = .ok (.if_icmp .ne 7, 3) := by decide +kernel
theorem dX2_pageIn_12 : decode cX2_pageIn 12 = .ok (.iconst (-1), 1) := by decide +kernel
theorem dX2_pageIn_13 : decode cX2_pageIn 13 = .ok (.goto 7, 3) := by decide +kernel
theorem dX2_pageIn_16 : decode cX2_pageIn 16 = .ok (.iload_n 3, 1) := by decide +kernel
theorem dX2_pageIn_17 : decode cX2_pageIn 17 = .ok (.bipush 100, 2) := by decide +kernel
theorem dX2_pageIn_19 : decode cX2_pageIn 19 = .ok (.idiv, 1) := by decide +kernel
theorem dX2_pageIn_20 : decode cX2_pageIn 20 = .ok (.ireturn, 1) := by decide +kernel
theorem dX2_countHeld_0 : decode cX2_countHeld 0 = .ok (.iconst 0, 1) := by decide +kernel
theorem dX2_countHeld_1 : decode cX2_countHeld 1 = .ok (.istore_n 2, 1) := by decide +kernel
theorem dX2_countHeld_2 : decode cX2_countHeld 2 = .ok (.iconst 0, 1) := by decide +kernel
theorem dX2_countHeld_3 : decode cX2_countHeld 3 = .ok (.istore_n 3, 1) := by decide +kernel
theorem dX2_countHeld_4 : decode cX2_countHeld 4 = .ok (.iload_n 3, 1) := by decide +kernel
theorem dX2_countHeld_5 : decode cX2_countHeld 5 = .ok (.bipush 20, 2) := by decide +kernel
theorem dX2_countHeld_7 : decode cX2_countHeld 7 = .ok (.if_icmp .ge 37, 3) := by decide +kernel
theorem dX2_countHeld_10 : decode cX2_countHeld 10 = .ok (.aload_n 0, 1) := by decide +kernel
theorem dX2_countHeld_11 : decode cX2_countHeld 11 = .ok (.iload_n 1, 1) := by decide +kernel
theorem dX2_countHeld_12 : decode cX2_countHeld 12 = .ok (.iload_n 3, 1) := by decide +kernel
theorem dX2_countHeld_13 : decode cX2_countHeld 13 = .ok (.invokevirtual 54, 3) := by decide +kernel
theorem dX2_countHeld_16 : decode cX2_countHeld 16 = .ok (.istore 4, 2) := by decide +kernel
theorem dX2_countHeld_18 : decode cX2_countHeld 18 = .ok (.iload 4, 2) := by decide +kernel
theorem dX2_countHeld_20 : decode cX2_countHeld 20 = .ok (.iconst (-1), 1) := by decide +kernel
theorem dX2_countHeld_21 : decode cX2_countHeld 21 = .ok (.if_icmp .eq 17, 3) := by decide +kernel
theorem dX2_countHeld_24 : decode cX2_countHeld 24 = .ok (.iload 4, 2) := by decide +kernel
theorem dX2_countHeld_26 : decode cX2_countHeld 26 = .ok (.aload_n 0, 1) := by decide +kernel
theorem dX2_countHeld_27 : decode cX2_countHeld 27 = .ok (.iconst 0, 1) := by decide +kernel
theorem dX2_countHeld_28 : decode cX2_countHeld 28 = .ok (.iload_n 3, 1) := by decide +kernel
theorem dX2_countHeld_29 : decode cX2_countHeld 29 = .ok (.invokevirtual 54, 3) := by decide +kernel
theorem dX2_countHeld_32 : decode cX2_countHeld 32 = .ok (.if_icmp .ne 6, 3) := by decide +kernel
theorem dX2_countHeld_35 : decode cX2_countHeld 35 = .ok (.iinc 2 1, 3) := by decide +kernel
theorem dX2_countHeld_38 : decode cX2_countHeld 38 = .ok (.iinc 3 1, 3) := by decide +kernel
theorem dX2_countHeld_41 : decode cX2_countHeld 41 = .ok (.goto (-37), 3) := by decide +kernel
theorem dX2_countHeld_44 : decode cX2_countHeld 44 = .ok (.iload_n 2, 1) := by decide +kernel
theorem dX2_countHeld_45 : decode cX2_countHeld 45 = .ok (.ireturn, 1) := by decide +kernel
theorem dX2_unitsOn_0 : decode cX2_unitsOn 0 = .ok (.aload_n 0, 1) := by decide +kernel
theorem dX2_unitsOn_1 : decode cX2_unitsOn 1 = .ok (.getfield 21, 3) := by decide +kernel
theorem dX2_unitsOn_4 : decode cX2_unitsOn 4 = .ok (.iconst 1, 1) := by decide +kernel
theorem dX2_unitsOn_5 : decode cX2_unitsOn 5 = .ok (.isub, 1) := by decide +kernel
theorem dX2_unitsOn_6 : decode cX2_unitsOn 6 = .ok (.istore_n 2, 1) := by decide +kernel
theorem dX2_unitsOn_7 : decode cX2_unitsOn 7 = .ok (.aload_n 0, 1) := by decide +kernel
theorem dX2_unitsOn_8 : decode cX2_unitsOn 8 = .ok (.iload_n 2, 1) := by decide +kernel
theorem dX2_unitsOn_9 : decode cX2_unitsOn 9 = .ok (.invokevirtual 57, 3) := by decide +kernel
theorem dX2_unitsOn_12 : decode cX2_unitsOn 12 = .ok (.istore_n 3, 1) := by decide +kernel
theorem dX2_unitsOn_13 : decode cX2_unitsOn 13 = .ok (.iload_n 3, 1) := by decide +kernel
theorem dX2_unitsOn_14 : decode cX2_unitsOn 14 = .ok (.iconst 1, 1) := by decide +kernel
theorem dX2_unitsOn_15 : decode cX2_unitsOn 15 = .ok (.if_icmp .ge 5, 3) := by decide +kernel
theorem dX2_unitsOn_18 : decode cX2_unitsOn 18 = .ok (.iconst 0, 1) := by decide +kernel
theorem dX2_unitsOn_19 : decode cX2_unitsOn 19 = .ok (.ireturn, 1) := by decide +kernel
theorem dX2_unitsOn_20 : decode cX2_unitsOn 20 = .ok (.iconst 0, 1) := by decide +kernel
theorem dX2_unitsOn_21 : decode cX2_unitsOn 21 = .ok (.istore 4, 2) := by decide +kernel
theorem dX2_unitsOn_23 : decode cX2_unitsOn 23 = .ok (.iconst 0, 1) := by decide +kernel
theorem dX2_unitsOn_24 : decode cX2_unitsOn 24 = .ok (.istore 5, 2) := by decide +kernel
theorem dX2_unitsOn_26 : decode cX2_unitsOn 26 = .ok (.iload 5, 2) := by decide +kernel
theorem dX2_unitsOn_28 : decode cX2_unitsOn 28 = .ok (.bipush 20, 2) := by decide +kernel
theorem dX2_unitsOn_30 : decode cX2_unitsOn 30 = .ok (.if_icmp .ge 31, 3) := by decide +kernel
theorem dX2_unitsOn_33 : decode cX2_unitsOn 33 = .ok (.aload_n 0, 1) := by decide +kernel
theorem dX2_unitsOn_34 : decode cX2_unitsOn 34 = .ok (.iload_n 2, 1) := by decide +kernel
theorem dX2_unitsOn_35 : decode cX2_unitsOn 35 = .ok (.iload 5, 2) := by decide +kernel
theorem dX2_unitsOn_37 : decode cX2_unitsOn 37 = .ok (.invokevirtual 54, 3) := by decide +kernel
theorem dX2_unitsOn_40 : decode cX2_unitsOn 40 = .ok (.iload_n 1, 1) := by decide +kernel
theorem dX2_unitsOn_41 : decode cX2_unitsOn 41 = .ok (.iload_n 3, 1) := by decide +kernel
theorem dX2_unitsOn_42 : decode cX2_unitsOn 42 = .ok (.irem, 1) := by decide +kernel
theorem dX2_unitsOn_43 : decode cX2_unitsOn 43 = .ok (.if_icmp .ne 12, 3) := by decide +kernel
theorem dX2_unitsOn_46 : decode cX2_unitsOn 46 = .ok (.iload 4, 2) := by decide +kernel
theorem dX2_unitsOn_48 : decode cX2_unitsOn 48 = .ok (.iconst 1, 1) := by decide +kernel
theorem dX2_unitsOn_49 : decode cX2_unitsOn 49 = .ok (.iload 5, 2) := by decide +kernel
theorem dX2_unitsOn_51 : decode cX2_unitsOn 51 = .ok (.ishl, 1) := by decide +kernel
theorem dX2_unitsOn_52 : decode cX2_unitsOn 52 = .ok (.ior, 1) := by decide +kernel
theorem dX2_unitsOn_53 : decode cX2_unitsOn 53 = .ok (.istore 4, 2) := by decide +kernel
theorem dX2_unitsOn_55 : decode cX2_unitsOn 55 = .ok (.iinc 5 1, 3) := by decide +kernel
theorem dX2_unitsOn_58 : decode cX2_unitsOn 58 = .ok (.goto (-32), 3) := by decide +kernel
theorem dX2_unitsOn_61 : decode cX2_unitsOn 61 = .ok (.iload 4, 2) := by decide +kernel
theorem dX2_unitsOn_63 : decode cX2_unitsOn 63 = .ok (.ireturn, 1) := by decide +kernel
theorem dX3_init_0 : decode cX3_init 0 = .ok (.aload_n 0, 1) := by decide +kernel
theorem dX3_init_1 : decode cX3_init 1 = .ok (.invokespecial 3, 3) := by decide +kernel
theorem dX3_init_4 : decode cX3_init 4 = .ok (.aload_n 0, 1) := by decide +kernel
theorem dX3_init_5 : decode cX3_init 5 = .ok (.sipush 240, 3) := by decide +kernel
theorem dX3_init_8 : decode cX3_init 8 = .ok (.newarray .int, 2) := by decide +kernel
theorem dX3_init_10 : decode cX3_init 10 = .ok (.putfield 9, 3) := by decide +kernel
theorem dX3_init_13 : decode cX3_init 13 = .ok (.return_, 1) := by decide +kernel
theorem dX3_free_0 : decode cX3_free 0 = .ok (.aload_n 0, 1) := by decide +kernel
theorem dX3_free_1 : decode cX3_free 1 = .ok (.getfield 15, 3) := by decide +kernel
theorem dX3_free_4 : decode cX3_free 4 = .ok (.ireturn, 1) := by decide +kernel
theorem dX3_clear_0 : decode cX3_clear 0 = .ok (.aload_n 0, 1) := by decide +kernel
theorem dX3_clear_1 : decode cX3_clear 1 = .ok (.getfield 9, 3) := by decide +kernel
theorem dX3_clear_4 : decode cX3_clear 4 = .ok (.iconst 0, 1) := by decide +kernel
theorem dX3_clear_5 : decode cX3_clear 5 = .ok (.invokestatic 19, 3) := by decide +kernel
theorem dX3_clear_8 : decode cX3_clear 8 = .ok (.aload_n 0, 1) := by decide +kernel
theorem dX3_clear_9 : decode cX3_clear 9 = .ok (.iconst 0, 1) := by decide +kernel
theorem dX3_clear_10 : decode cX3_clear 10 = .ok (.putfield 15, 3) := by decide +kernel
theorem dX3_clear_13 : decode cX3_clear 13 = .ok (.return_, 1) := by decide +kernel
theorem dX3_add_0 : decode cX3_add 0 = .ok (.iload_n 1, 1) := by decide +kernel
theorem dX3_add_1 : decode cX3_add 1 = .ok (.ifCond .lt 22, 3) := by decide +kernel
theorem dX3_add_4 : decode cX3_add 4 = .ok (.iload_n 1, 1) := by decide +kernel
theorem dX3_add_5 : decode cX3_add 5 = .ok (.aload_n 0, 1) := by decide +kernel
theorem dX3_add_6 : decode cX3_add 6 = .ok (.getfield 9, 3) := by decide +kernel
theorem dX3_add_9 : decode cX3_add 9 = .ok (.arraylength, 1) := by decide +kernel
theorem dX3_add_10 : decode cX3_add 10 = .ok (.if_icmp .ge 13, 3) := by decide +kernel
theorem dX3_add_13 : decode cX3_add 13 = .ok (.aload_n 0, 1) := by decide +kernel
theorem dX3_add_14 : decode cX3_add 14 = .ok (.getfield 9, 3) := by decide +kernel
theorem dX3_add_17 : decode cX3_add 17 = .ok (.iload_n 1, 1) := by decide +kernel
theorem dX3_add_18 : decode cX3_add 18 = .ok (.dup2, 1) := by decide +kernel
theorem dX3_add_19 : decode cX3_add 19 = .ok (.iaload, 1) := by decide +kernel
theorem dX3_add_20 : decode cX3_add 20 = .ok (.iload_n 2, 1) := by decide +kernel
theorem dX3_add_21 : decode cX3_add 21 = .ok (.iadd, 1) := by decide +kernel
theorem dX3_add_22 : decode cX3_add 22 = .ok (.iastore, 1) := by decide +kernel
theorem dX3_add_23 : decode cX3_add 23 = .ok (.return_, 1) := by decide +kernel
theorem dX3_rowFor_0 : decode cX3_rowFor 0 = .ok (.aload_n 0, 1) := by decide +kernel
theorem dX3_rowFor_1 : decode cX3_rowFor 1 = .ok (.getfield 9, 3) := by decide +kernel
theorem dX3_rowFor_4 : decode cX3_rowFor 4 = .ok (.iload_n 1, 1) := by decide +kernel
theorem dX3_rowFor_5 : decode cX3_rowFor 5 = .ok (.invokestatic 25, 3) := by decide +kernel
theorem dX3_rowFor_8 : decode cX3_rowFor 8 = .ok (.ifCond .le 14, 3) := by decide +kernel
theorem dX3_rowFor_11 : decode cX3_rowFor 11 = .ok (.iload_n 2, 1) := by decide +kernel
theorem dX3_rowFor_12 : decode cX3_rowFor 12 = .ok (.aload_n 0, 1) := by decide +kernel
theorem dX3_rowFor_13 : decode cX3_rowFor 13 = .ok (.getfield 15, 3) := by decide +kernel
theorem dX3_rowFor_16 : decode cX3_rowFor 16 = .ok (.invokestatic 29, 3) := by decide +kernel
theorem dX3_rowFor_19 : decode cX3_rowFor 19 = .ok (.goto 4, 3) := by decide +kernel
theorem dX3_rowFor_22 : decode cX3_rowFor 22 = .ok (.iload_n 2, 1) := by decide +kernel
theorem dX3_rowFor_23 : decode cX3_rowFor 23 = .ok (.ireturn, 1) := by decide +kernel
theorem dX3_fill_0 : decode cX3_fill 0 = .ok (.aload_n 0, 1) := by decide +kernel
theorem dX3_fill_1 : decode cX3_fill 1 = .ok (.getfield 9, 3) := by decide +kernel
theorem dX3_fill_4 : decode cX3_fill 4 = .ok (.iload_n 1, 1) := by decide +kernel
theorem dX3_fill_5 : decode cX3_fill 5 = .ok (.invokestatic 25, 3) := by decide +kernel
theorem dX3_fill_8 : decode cX3_fill 8 = .ok (.ifCond .le 17, 3) := by decide +kernel
theorem dX3_fill_11 : decode cX3_fill 11 = .ok (.aload_n 0, 1) := by decide +kernel
theorem dX3_fill_12 : decode cX3_fill 12 = .ok (.iload_n 2, 1) := by decide +kernel
theorem dX3_fill_13 : decode cX3_fill 13 = .ok (.aload_n 0, 1) := by decide +kernel
theorem dX3_fill_14 : decode cX3_fill 14 = .ok (.getfield 9, 3) := by decide +kernel
theorem dX3_fill_17 : decode cX3_fill 17 = .ok (.iload_n 1, 1) := by decide +kernel
theorem dX3_fill_18 : decode cX3_fill 18 = .ok (.invokestatic 25, 3) := by decide +kernel
theorem dX3_fill_21 : decode cX3_fill 21 = .ok (.iadd, 1) := by decide +kernel
theorem dX3_fill_22 : decode cX3_fill 22 = .ok (.putfield 15, 3) := by decide +kernel
theorem dX3_fill_25 : decode cX3_fill 25 = .ok (.return_, 1) := by decide +kernel
theorem dX4_init_0 : decode cX4_init 0 = .ok (.aload_n 0, 1) := by decide +kernel
theorem dX4_init_1 : decode cX4_init 1 = .ok (.invokespecial 3, 3) := by decide +kernel
theorem dX4_init_4 : decode cX4_init 4 = .ok (.aload_n 0, 1) := by decide +kernel
theorem dX4_init_5 : decode cX4_init 5 = .ok (.bipush 12, 2) := by decide +kernel
theorem dX4_init_7 : decode cX4_init 7 = .ok (.newarray .int, 2) := by decide +kernel
theorem dX4_init_9 : decode cX4_init 9 = .ok (.putfield 9, 3) := by decide +kernel
theorem dX4_init_12 : decode cX4_init 12 = .ok (.return_, 1) := by decide +kernel
theorem dX4_size_0 : decode cX4_size 0 = .ok (.aload_n 0, 1) := by decide +kernel
theorem dX4_size_1 : decode cX4_size 1 = .ok (.getfield 15, 3) := by decide +kernel
theorem dX4_size_4 : decode cX4_size 4 = .ok (.ireturn, 1) := by decide +kernel
theorem dX4_isFull_0 : decode cX4_isFull 0 = .ok (.aload_n 0, 1) := by decide +kernel
theorem dX4_isFull_1 : decode cX4_isFull 1 = .ok (.getfield 15, 3) := by decide +kernel
theorem dX4_isFull_4 : decode cX4_isFull 4 = .ok (.aload_n 0, 1) := by decide +kernel
theorem dX4_isFull_5 : decode cX4_isFull 5 = .ok (.getfield 9, 3) := by decide +kernel
theorem dX4_isFull_8 : decode cX4_isFull 8 = .ok (.arraylength, 1) := by decide +kernel
theorem dX4_isFull_9 : decode cX4_isFull 9 = .ok (.if_icmp .lt 7, 3) := by decide +kernel
theorem dX4_isFull_12 : decode cX4_isFull 12 = .ok (.iconst 1, 1) := by decide +kernel
theorem dX4_isFull_13 : decode cX4_isFull 13 = .ok (.goto 4, 3) := by decide +kernel
theorem dX4_isFull_16 : decode cX4_isFull 16 = .ok (.iconst 0, 1) := by decide +kernel
theorem dX4_isFull_17 : decode cX4_isFull 17 = .ok (.ireturn, 1) := by decide +kernel
theorem dX4_add_0 : decode cX4_add 0 = .ok (.aload_n 0, 1) := by decide +kernel
theorem dX4_add_1 : decode cX4_add 1 = .ok (.invokevirtual 19, 3) := by decide +kernel
theorem dX4_add_4 : decode cX4_add 4 = .ok (.ifCond .ne 23, 3) := by decide +kernel
theorem dX4_add_7 : decode cX4_add 7 = .ok (.aload_n 0, 1) := by decide +kernel
theorem dX4_add_8 : decode cX4_add 8 = .ok (.getfield 9, 3) := by decide +kernel
theorem dX4_add_11 : decode cX4_add 11 = .ok (.aload_n 0, 1) := by decide +kernel
theorem dX4_add_12 : decode cX4_add 12 = .ok (.getfield 15, 3) := by decide +kernel
theorem dX4_add_15 : decode cX4_add 15 = .ok (.iload_n 1, 1) := by decide +kernel
theorem dX4_add_16 : decode cX4_add 16 = .ok (.iastore, 1) := by decide +kernel
theorem dX4_add_17 : decode cX4_add 17 = .ok (.aload_n 0, 1) := by decide +kernel
theorem dX4_add_18 : decode cX4_add 18 = .ok (.dup, 1) := by decide +kernel
theorem dX4_add_19 : decode cX4_add 19 = .ok (.getfield 15, 3) := by decide +kernel
theorem dX4_add_22 : decode cX4_add 22 = .ok (.iconst 1, 1) := by decide +kernel
theorem dX4_add_23 : decode cX4_add 23 = .ok (.iadd, 1) := by decide +kernel
theorem dX4_add_24 : decode cX4_add 24 = .ok (.putfield 15, 3) := by decide +kernel
theorem dX4_add_27 : decode cX4_add 27 = .ok (.return_, 1) := by decide +kernel
theorem dX4_clear_0 : decode cX4_clear 0 = .ok (.aload_n 0, 1) := by decide +kernel
theorem dX4_clear_1 : decode cX4_clear 1 = .ok (.iconst 0, 1) := by decide +kernel
theorem dX4_clear_2 : decode cX4_clear 2 = .ok (.putfield 15, 3) := by decide +kernel
theorem dX4_clear_5 : decode cX4_clear 5 = .ok (.return_, 1) := by decide +kernel
theorem dX4_wordAt_0 : decode cX4_wordAt 0 = .ok (.iload_n 1, 1) := by decide +kernel
theorem dX4_wordAt_1 : decode cX4_wordAt 1 = .ok (.aload_n 0, 1) := by decide +kernel
theorem dX4_wordAt_2 : decode cX4_wordAt 2 = .ok (.getfield 15, 3) := by decide +kernel
theorem dX4_wordAt_5 : decode cX4_wordAt 5 = .ok (.if_icmp .ge 14, 3) := by decide +kernel
theorem dX4_wordAt_8 : decode cX4_wordAt 8 = .ok (.aload_n 0, 1) := by decide +kernel
theorem dX4_wordAt_9 : decode cX4_wordAt 9 = .ok (.getfield 9, 3) := by decide +kernel
theorem dX4_wordAt_12 : decode cX4_wordAt 12 = .ok (.iload_n 1, 1) := by decide +kernel
theorem dX4_wordAt_13 : decode cX4_wordAt 13 = .ok (.invokestatic 23, 3) := by decide +kernel
theorem dX4_wordAt_16 : decode cX4_wordAt 16 = .ok (.goto 4, 3) := by decide +kernel
theorem dX4_wordAt_19 : decode cX4_wordAt 19 = .ok (.iconst (-1), 1) := by decide +kernel
theorem dX4_wordAt_20 : decode cX4_wordAt 20 = .ok (.ireturn, 1) := by decide +kernel
theorem dX5_init_0 : decode cX5_init 0 = .ok (.aload_n 0, 1) := by decide +kernel
theorem dX5_init_1 : decode cX5_init 1 = .ok (.invokespecial 3, 3) := by decide +kernel
theorem dX5_init_4 : decode cX5_init 4 = .ok (.aload_n 0, 1) := by decide +kernel
theorem dX5_init_5 : decode cX5_init 5 = .ok (.bipush 10, 2) := by decide +kernel
theorem dX5_init_7 : decode cX5_init 7 = .ok (.newarray .int, 2) := by decide +kernel
theorem dX5_init_9 : decode cX5_init 9 = .ok (.putfield 9, 3) := by decide +kernel
theorem dX5_init_12 : decode cX5_init 12 = .ok (.aload_n 0, 1) := by decide +kernel
theorem dX5_init_13 : decode cX5_init 13 = .ok (.bipush 10, 2) := by decide +kernel
theorem dX5_init_15 : decode cX5_init 15 = .ok (.newarray .int, 2) := by decide +kernel
theorem dX5_init_17 : decode cX5_init 17 = .ok (.putfield 15, 3) := by decide +kernel
theorem dX5_init_20 : decode cX5_init 20 = .ok (.aload_n 0, 1) := by decide +kernel
theorem dX5_init_21 : decode cX5_init 21 = .ok (.bipush 6, 2) := by decide +kernel
theorem dX5_init_23 : decode cX5_init 23 = .ok (.newarray .int, 2) := by decide +kernel
theorem dX5_init_25 : decode cX5_init 25 = .ok (.putfield 18, 3) := by decide +kernel
theorem dX5_init_28 : decode cX5_init 28 = .ok (.aload_n 0, 1) := by decide +kernel
theorem dX5_init_29 : decode cX5_init 29 = .ok (.bipush 6, 2) := by decide +kernel
theorem dX5_init_31 : decode cX5_init 31 = .ok (.newarray .int, 2) := by decide +kernel
theorem dX5_init_33 : decode cX5_init 33 = .ok (.putfield 21, 3) := by decide +kernel
theorem dX5_init_36 : decode cX5_init 36 = .ok (.return_, 1) := by decide +kernel
theorem dX5_has_0 : decode cX5_has 0 = .ok (.aload_n 0, 1) := by decide +kernel
theorem dX5_has_1 : decode cX5_has 1 = .ok (.getfield 9, 3) := by decide +kernel
theorem dX5_has_4 : decode cX5_has 4 = .ok (.iload_n 2, 1) := by decide +kernel
theorem dX5_has_5 : decode cX5_has 5 = .ok (.invokestatic 24, 3) := by decide +kernel
theorem dX5_has_8 : decode cX5_has 8 = .ok (.iload_n 1, 1) := by decide +kernel
theorem dX5_has_9 : decode cX5_has 9 = .ok (.ishr, 1) := by decide +kernel
theorem dX5_has_10 : decode cX5_has 10 = .ok (.iconst 1, 1) := by decide +kernel
theorem dX5_has_11 : decode cX5_has 11 = .ok (.iand, 1) := by decide +kernel
theorem dX5_has_12 : decode cX5_has 12 = .ok (.iconst 1, 1) := by decide +kernel
theorem dX5_has_13 : decode cX5_has 13 = .ok (.if_icmp .ne 7, 3) := by decide +kernel
theorem dX5_has_16 : decode cX5_has 16 = .ok (.iconst 1, 1) := by decide +kernel
theorem dX5_has_17 : decode cX5_has 17 = .ok (.goto 4, 3) := by decide +kernel
theorem dX5_has_20 : decode cX5_has 20 = .ok (.iconst 0, 1) := by decide +kernel
theorem dX5_has_21 : decode cX5_has 21 = .ok (.ireturn, 1) := by decide +kernel
theorem dX5_add_0 : decode cX5_add 0 = .ok (.iload_n 2, 1) := by decide +kernel
theorem dX5_add_1 : decode cX5_add 1 = .ok (.ifCond .lt 41, 3) := by decide +kernel
theorem dX5_add_4 : decode cX5_add 4 = .ok (.iload_n 2, 1) := by decide +kernel
theorem dX5_add_5 : decode cX5_add 5 = .ok (.bipush 10, 2) := by decide +kernel
theorem dX5_add_7 : decode cX5_add 7 = .ok (.if_icmp .ge 35, 3) := by decide +kernel
theorem dX5_add_10 : decode cX5_add 10 = .ok (.aload_n 0, 1) := by decide +kernel
theorem dX5_add_11 : decode cX5_add 11 = .ok (.getfield 9, 3) := by decide +kernel
theorem dX5_add_14 : decode cX5_add 14 = .ok (.iload_n 2, 1) := by decide +kernel
theorem dX5_add_15 : decode cX5_add 15 = .ok (.dup2, 1) := by decide +kernel
theorem dX5_add_16 : decode cX5_add 16 = .ok (.iaload, 1) := by decide +kernel
theorem dX5_add_17 : decode cX5_add 17 = .ok (.iconst 1, 1) := by decide +kernel
theorem dX5_add_18 : decode cX5_add 18 = .ok (.iload_n 1, 1) := by decide +kernel
theorem dX5_add_19 : decode cX5_add 19 = .ok (.ishl, 1) := by decide +kernel
theorem dX5_add_20 : decode cX5_add 20 = .ok (.ior, 1) := by decide +kernel
theorem dX5_add_21 : decode cX5_add 21 = .ok (.iastore, 1) := by decide +kernel
theorem dX5_add_22 : decode cX5_add 22 = .ok (.aload_n 0, 1) := by decide +kernel
theorem dX5_add_23 : decode cX5_add 23 = .ok (.getfield 15, 3) := by decide +kernel
theorem dX5_add_26 : decode cX5_add 26 = .ok (.iload_n 2, 1) := by decide +kernel
theorem dX5_add_27 : decode cX5_add 27 = .ok (.dup2, 1) := by decide +kernel
theorem dX5_add_28 : decode cX5_add 28 = .ok (.iaload, 1) := by decide +kernel
theorem dX5_add_29 : decode cX5_add 29 = .ok (.iload_n 3, 1) := by decide +kernel
theorem dX5_add_30 : decode cX5_add 30 = .ok (.ifCond .eq 9, 3) := by decide +kernel
theorem dX5_add_33 : decode cX5_add 33 = .ok (.iconst 1, 1) := by decide +kernel
theorem dX5_add_34 : decode cX5_add 34 = .ok (.iload_n 1, 1) := by decide +kernel
theorem dX5_add_35 : decode cX5_add 35 = .ok (.ishl, 1) := by decide +kernel
theorem dX5_add_36 : decode cX5_add 36 = .ok (.goto 4, 3) := by decide +kernel
theorem dX5_add_39 : decode cX5_add 39 = .ok (.iconst 0, 1) := by decide +kernel
theorem dX5_add_40 : decode cX5_add 40 = .ok (.ior, 1) := by decide +kernel
theorem dX5_add_41 : decode cX5_add 41 = .ok (.iastore, 1) := by decide +kernel
theorem dX5_add_42 : decode cX5_add 42 = .ok (.return_, 1) := by decide +kernel
theorem dX5_countOn_0 : decode cX5_countOn 0 = .ok (.aload_n 0, 1) := by decide +kernel
theorem dX5_countOn_1 : decode cX5_countOn 1 = .ok (.getfield 9, 3) := by decide +kernel
theorem dX5_countOn_4 : decode cX5_countOn 4 = .ok (.iload_n 1, 1) := by decide +kernel
theorem dX5_countOn_5 : decode cX5_countOn 5 = .ok (.invokestatic 24, 3) := by decide +kernel
theorem dX5_countOn_8 : decode cX5_countOn 8 = .ok (.invokestatic 28, 3) := by decide +kernel
theorem dX5_countOn_11 : decode cX5_countOn 11 = .ok (.ireturn, 1) := by decide +kernel
theorem dX5_areRulesFull_0 : decode cX5_areRulesFull 0 = .ok (.aload_n 0, 1) := by decide +kernel
theorem dX5_areRulesFull_1 : decode cX5_areRulesFull 1 = .ok (.getfield 34, 3) := by decide +kernel
theorem dX5_areRulesFull_4 : decode cX5_areRulesFull 4 = .ok (.bipush 6, 2) := by decide +kernel
theorem dX5_areRulesFull_6 : decode cX5_areRulesFull 6 = .ok (.if_icmp .lt 7, 3) := by decide +kernel
theorem dX5_areRulesFull_9 : decode cX5_areRulesFull 9 = .ok (.iconst 1, 1) := by decide +kernel
theorem dX5_areRulesFull_10 : decode cX5_areRulesFull 10 = .ok (.goto 4, 3) := by decide +kernel
theorem dX5_areRulesFull_13 : decode cX5_areRulesFull 13 = .ok (.iconst 0, 1) := by decide +kernel
theorem dX5_areRulesFull_14 : decode cX5_areRulesFull 14 = .ok (.ireturn, 1) := by decide +kernel
theorem dX5_countRules_0 : decode cX5_countRules 0 = .ok (.aload_n 0, 1) := by decide +kernel
theorem dX5_countRules_1 : decode cX5_countRules 1 = .ok (.getfield 34, 3) := by decide +kernel
theorem dX5_countRules_4 : decode cX5_countRules 4 = .ok (.ireturn, 1) := by decide +kernel
theorem dX5_hasRule_0 : decode cX5_hasRule 0 = .ok (.iload_n 1, 1) := by decide +kernel
theorem dX5_hasRule_1 : decode cX5_hasRule 1 = .ok (.ifCond .lt 15, 3) := by decide +kernel
theorem dX5_hasRule_4 : decode cX5_hasRule 4 = .ok (.iload_n 1, 1) := by decide +kernel
theorem dX5_hasRule_5 : decode cX5_hasRule 5 = .ok (.aload_n 0, 1) := by decide +kernel
theorem dX5_hasRule_6 : decode cX5_hasRule 6 = .ok (.getfield 34, 3) := by decide +kernel
theorem dX5_hasRule_9 : decode cX5_hasRule 9 = .ok (.if_icmp .ge 7, 3) := by decide +kernel
theorem dX5_hasRule_12 : decode cX5_hasRule 12 = .ok (.iconst 1, 1) := by decide +kernel
theorem dX5_hasRule_13 : decode cX5_hasRule 13 = .ok (.goto 4, 3) := by decide +kernel
theorem dX5_hasRule_16 : decode cX5_hasRule 16 = .ok (.iconst 0, 1) := by decide +kernel
theorem dX5_hasRule_17 : decode cX5_hasRule 17 = .ok (.ireturn, 1) := by decide +kernel
theorem dX5_kindOfRule_0 : decode cX5_kindOfRule 0 = .ok (.aload_n 0, 1) := by decide +kernel
theorem dX5_kindOfRule_1 : decode cX5_kindOfRule 1 = .ok (.getfield 18, 3) := by decide +kernel
theorem dX5_kindOfRule_4 : decode cX5_kindOfRule 4 = .ok (.iload_n 1, 1) := by decide +kernel
theorem dX5_kindOfRule_5 : decode cX5_kindOfRule 5 = .ok (.invokestatic 24, 3) := by decide +kernel
theorem dX5_kindOfRule_8 : decode cX5_kindOfRule 8 = .ok (.ireturn, 1) := by decide +kernel
theorem dX5_addRule_0 : decode cX5_addRule 0 = .ok (.aload_n 0, 1) := by decide +kernel
theorem dX5_addRule_1 : decode cX5_addRule 1 = .ok (.invokevirtual 38, 3) := by decide +kernel
theorem dX5_addRule_4 : decode cX5_addRule 4 = .ok (.ifCond .ne 33, 3) := by decide +kernel
theorem dX5_addRule_7 : decode cX5_addRule 7 = .ok (.aload_n 0, 1) := by decide +kernel
theorem dX5_addRule_8 : decode cX5_addRule 8 = .ok (.getfield 18, 3) := by decide +kernel
theorem dX5_addRule_11 : decode cX5_addRule 11 = .ok (.aload_n 0, 1) := by decide +kernel
theorem dX5_addRule_12 : decode cX5_addRule 12 = .ok (.getfield 34, 3) := by decide +kernel
theorem dX5_addRule_15 : decode cX5_addRule 15 = .ok (.iload_n 1, 1) := by decide +kernel
theorem dX5_addRule_16 : decode cX5_addRule 16 = .ok (.iastore, 1) := by decide +kernel
theorem dX5_addRule_17 : decode cX5_addRule 17 = .ok (.aload_n 0, 1) := by decide +kernel
theorem dX5_addRule_18 : decode cX5_addRule 18 = .ok (.getfield 21, 3) := by decide +kernel
theorem dX5_addRule_21 : decode cX5_addRule 21 = .ok (.aload_n 0, 1) := by decide +kernel
theorem dX5_addRule_22 : decode cX5_addRule 22 = .ok (.getfield 34, 3) := by decide +kernel
theorem dX5_addRule_25 : decode cX5_addRule 25 = .ok (.iload_n 2, 1) := by decide +kernel
theorem dX5_addRule_26 : decode cX5_addRule 26 = .ok (.iastore, 1) := by decide +kernel
theorem dX5_addRule_27 : decode cX5_addRule 27 = .ok (.aload_n 0, 1) := by decide +kernel
theorem dX5_addRule_28 : decode cX5_addRule 28 = .ok (.dup, 1) := by decide +kernel
theorem dX5_addRule_29 : decode cX5_addRule 29 = .ok (.getfield 34, 3) := by decide +kernel
theorem dX5_addRule_32 : decode cX5_addRule 32 = .ok (.iconst 1, 1) := by decide +kernel
theorem dX5_addRule_33 : decode cX5_addRule 33 = .ok (.iadd, 1) := by decide +kernel
theorem dX5_addRule_34 : decode cX5_addRule 34 = .ok (.putfield 34, 3) := by decide +kernel
theorem dX5_addRule_37 : decode cX5_addRule 37 = .ok (.return_, 1) := by decide +kernel
theorem dX5_removeRule_0 : decode cX5_removeRule 0 = .ok (.aload_n 0, 1) := by decide +kernel
theorem dX5_removeRule_1 : decode cX5_removeRule 1 = .ok (.iload_n 1, 1) := by decide +kernel
theorem dX5_removeRule_2 : decode cX5_removeRule 2 = .ok (.invokevirtual 42, 3) := by decide +kernel
theorem dX5_removeRule_5 : decode cX5_removeRule 5 = .ok (.ifCond .ne 4, 3) := by decide +kernel
theorem dX5_removeRule_8 : decode cX5_removeRule 8 = .ok (.return_, 1) := by decide +kernel
theorem dX5_removeRule_9 : decode cX5_removeRule 9 = .ok (.aload_n 0, 1) := by decide +kernel
theorem dX5_removeRule_10 : decode cX5_removeRule 10 = .ok (.dup, 1) := by decide +kernel
theorem dX5_removeRule_11 : decode cX5_removeRule 11 = .ok (.getfield 34, 3) := by decide +kernel
theorem dX5_removeRule_14 : decode cX5_removeRule 14 = .ok (.iconst 1, 1) := by decide +kernel
theorem dX5_removeRule_15 : decode cX5_removeRule 15 = .ok (.isub, 1) := by decide +kernel
theorem dX5_removeRule_16 : decode cX5_removeRule 16 = .ok (.putfield 34, 3) := by decide +kernel
theorem dX5_removeRule_19 : decode cX5_removeRule 19 = .ok (.iload_n 1, 1) := by decide +kernel
theorem dX5_removeRule_20 : decode cX5_removeRule 20 = .ok (.istore_n 2, 1) := by decide +kernel
theorem dX5_removeRule_21 : decode cX5_removeRule 21 = .ok (.iload_n 2, 1) := by decide +kernel
theorem dX5_removeRule_22 : decode cX5_removeRule 22 = .ok (.aload_n 0, 1) := by decide +kernel
theorem dX5_removeRule_23 : decode cX5_removeRule 23 = .ok (.getfield 34, 3) := by decide +kernel
theorem dX5_removeRule_26 : decode cX5_removeRule 26 = .ok (.if_icmp .ge 45, 3) := by decide +kernel
theorem dX5_removeRule_29 : decode cX5_removeRule 29 = .ok (.iload_n 2, 1) := by decide +kernel
theorem dX5_removeRule_30 : decode cX5_removeRule 30 = .ok (.iconst 1, 1) := by decide +kernel
theorem dX5_removeRule_31 : decode cX5_removeRule 31 = .ok (.iadd, 1) := by decide +kernel
theorem dX5_removeRule_32 : decode cX5_removeRule 32 = .ok (.bipush 6, 2) := by decide +kernel
theorem dX5_removeRule_34 : decode cX5_removeRule 34 = .ok (.if_icmp .ge 37, 3) := by decide +kernel
theorem dX5_removeRule_37 : decode cX5_removeRule 37 = .ok (.aload_n 0, 1) := by decide +kernel
theorem dX5_removeRule_38 : decode cX5_removeRule 38 = .ok (.getfield 18, 3) := by decide +kernel
theorem dX5_removeRule_41 : decode cX5_removeRule 41 = .ok (.iload_n 2, 1) := by decide +kernel
theorem dX5_removeRule_42 : decode cX5_removeRule 42 = .ok (.aload_n 0, 1) := by decide +kernel
theorem dX5_removeRule_43 : decode cX5_removeRule 43 = .ok (.getfield 18, 3) := by decide +kernel
theorem dX5_removeRule_46 : decode cX5_removeRule 46 = .ok (.iload_n 2, 1) := by decide +kernel
theorem dX5_removeRule_47 : decode cX5_removeRule 47 = .ok (.iconst 1, 1) := by decide +kernel
theorem dX5_removeRule_48 : decode cX5_removeRule 48 = .ok (.iadd, 1) := by decide +kernel
theorem dX5_removeRule_49 : decode cX5_removeRule 49 = .ok (.iaload, 1) := by decide +kernel
theorem dX5_removeRule_50 : decode cX5_removeRule 50 = .ok (.iastore, 1) := by decide +kernel
theorem dX5_removeRule_51 : decode cX5_removeRule 51 = .ok (.aload_n 0, 1) := by decide +kernel
theorem dX5_removeRule_52 : decode cX5_removeRule 52 = .ok (.getfield 21, 3) := by decide +kernel
theorem dX5_removeRule_55 : decode cX5_removeRule 55 = .ok (.iload_n 2, 1) := by decide +kernel
theorem dX5_removeRule_56 : decode cX5_removeRule 56 = .ok (.aload_n 0, 1) := by decide +kernel
theorem dX5_removeRule_57 : decode cX5_removeRule 57 = .ok (.getfield 21, 3) := by decide +kernel
theorem dX5_removeRule_60 : decode cX5_removeRule 60 = .ok (.iload_n 2, 1) := by decide +kernel
theorem dX5_removeRule_61 : decode cX5_removeRule 61 = .ok (.iconst 1, 1) := by decide +kernel
theorem dX5_removeRule_62 : decode cX5_removeRule 62 = .ok (.iadd, 1) := by decide +kernel
theorem dX5_removeRule_63 : decode cX5_removeRule 63 = .ok (.iaload, 1) := by decide +kernel
theorem dX5_removeRule_64 : decode cX5_removeRule 64 = .ok (.iastore, 1) := by decide +kernel
theorem dX5_removeRule_65 : decode cX5_removeRule 65 = .ok (.iinc 2 1, 3) := by decide +kernel
theorem dX5_removeRule_68 : decode cX5_removeRule 68 = .ok (.goto (-47), 3) := by decide +kernel
theorem dX5_removeRule_71 : decode cX5_removeRule 71 = .ok (.return_, 1) := by decide +kernel
theorem dX5_decide_0 : decode cX5_decide 0 = .ok (.iconst 0, 1) := by decide +kernel
theorem dX5_decide_1 : decode cX5_decide 1 = .ok (.istore_n 3, 1) := by decide +kernel
theorem dX5_decide_2 : decode cX5_decide 2 = .ok (.iload_n 3, 1) := by decide +kernel
theorem dX5_decide_3 : decode cX5_decide 3 = .ok (.aload_n 0, 1) := by decide +kernel
theorem dX5_decide_4 : decode cX5_decide 4 = .ok (.getfield 34, 3) := by decide +kernel
theorem dX5_decide_7 : decode cX5_decide 7 = .ok (.if_icmp .ge 43, 3) := by decide +kernel
theorem dX5_decide_10 : decode cX5_decide 10 = .ok (.aload_n 0, 1) := by decide +kernel
theorem dX5_decide_11 : decode cX5_decide 11 = .ok (.aload_n 0, 1) := by decide +kernel
theorem dX5_decide_12 : decode cX5_decide 12 = .ok (.getfield 18, 3) := by decide +kernel
theorem dX5_decide_15 : decode cX5_decide 15 = .ok (.iload_n 3, 1) := by decide +kernel
theorem dX5_decide_16 : decode cX5_decide 16 = .ok (.iaload, 1) := by decide +kernel
theorem dX5_decide_17 : decode cX5_decide 17 = .ok (.aload_n 0, 1) := by decide +kernel
theorem dX5_decide_18 : decode cX5_decide 18 = .ok (.getfield 21, 3) := by decide +kernel
theorem dX5_decide_21 : decode cX5_decide 21 = .ok (.iload_n 3, 1) := by decide +kernel
theorem dX5_decide_22 : decode cX5_decide 22 = .ok (.iaload, 1) := by decide +kernel
theorem dX5_decide_23 : decode cX5_decide 23 = .ok (.iload_n 1, 1) := by decide +kernel
theorem dX5_decide_24 : decode cX5_decide 24 = .ok (.aload_n 2, 1) := by decide +kernel
theorem dX5_decide_25 : decode cX5_decide 25 = .ok (.invokevirtual 46, 3) := by decide +kernel
theorem dX5_decide_28 : decode cX5_decide 28 = .ok (.istore 4, 2) := by decide +kernel
theorem dX5_decide_30 : decode cX5_decide 30 = .ok (.iload 4, 2) := by decide +kernel
theorem dX5_decide_32 : decode cX5_decide 32 = .ok (.iconst (-1), 1) := by decide +kernel
theorem dX5_decide_33 : decode cX5_decide 33 = .ok (.if_icmp .eq 11, 3) := by decide +kernel
theorem dX5_decide_36 : decode cX5_decide 36 = .ok (.bipush 10, 2) := by decide +kernel
theorem dX5_decide_38 : decode cX5_decide 38 = .ok (.iload_n 3, 1) := by decide +kernel
theorem dX5_decide_39 : decode cX5_decide 39 = .ok (.imul, 1) := by decide +kernel
theorem dX5_decide_40 : decode cX5_decide 40 = .ok (.iload 4, 2) := by decide +kernel
theorem dX5_decide_42 : decode cX5_decide 42 = .ok (.iadd, 1) := by decide +kernel
theorem dX5_decide_43 : decode cX5_decide 43 = .ok (.ireturn, 1) := by decide +kernel
theorem dX5_decide_44 : decode cX5_decide 44 = .ok (.iinc 3 1, 3) := by decide +kernel
theorem dX5_decide_47 : decode cX5_decide 47 = .ok (.goto (-45), 3) := by decide +kernel
theorem dX5_decide_50 : decode cX5_decide 50 = .ok (.iconst (-1), 1) := by decide +kernel
theorem dX5_decide_51 : decode cX5_decide 51 = .ok (.ireturn, 1) := by decide +kernel
theorem dX5_tell_0 : decode cX5_tell 0 = .ok (.iload_n 1, 1) := by decide +kernel
theorem dX5_tell_1 : decode cX5_tell 1 = .ok (.tableswitch 73 0 2 #[27, 47, 67], 27) := by decide +kernel
theorem dX5_tell_28 : decode cX5_tell 28 = .ok (.aload_n 0, 1) := by decide +kernel
theorem dX5_tell_29 : decode cX5_tell 29 = .ok (.aload 4, 2) := by decide +kernel
theorem dX5_tell_31 : decode cX5_tell 31 = .ok (.aload_n 0, 1) := by decide +kernel
theorem dX5_tell_32 : decode cX5_tell 32 = .ok (.getfield 9, 3) := by decide +kernel
theorem dX5_tell_35 : decode cX5_tell 35 = .ok (.iload_n 3, 1) := by decide +kernel
theorem dX5_tell_36 : decode cX5_tell 36 = .ok (.invokestatic 24, 3) := by decide +kernel
theorem dX5_tell_39 : decode cX5_tell 39 = .ok (.iload_n 2, 1) := by decide +kernel
theorem dX5_tell_40 : decode cX5_tell 40 = .ok (.invokevirtual 50, 3) := by decide +kernel
theorem dX5_tell_43 : decode cX5_tell 43 = .ok (.iload_n 3, 1) := by decide +kernel
theorem dX5_tell_44 : decode cX5_tell 44 = .ok (.invokevirtual 56, 3) := by decide +kernel
theorem dX5_tell_47 : decode cX5_tell 47 = .ok (.ireturn, 1) := by decide +kernel
theorem dX5_tell_48 : decode cX5_tell 48 = .ok (.aload_n 0, 1) := by decide +kernel
theorem dX5_tell_49 : decode cX5_tell 49 = .ok (.aload 4, 2) := by decide +kernel
theorem dX5_tell_51 : decode cX5_tell 51 = .ok (.aload_n 0, 1) := by decide +kernel
theorem dX5_tell_52 : decode cX5_tell 52 = .ok (.getfield 9, 3) := by decide +kernel
theorem dX5_tell_55 : decode cX5_tell 55 = .ok (.iload_n 3, 1) := by decide +kernel
theorem dX5_tell_56 : decode cX5_tell 56 = .ok (.invokestatic 24, 3) := by decide +kernel
theorem dX5_tell_59 : decode cX5_tell 59 = .ok (.iconst (-1), 1) := by decide +kernel
theorem dX5_tell_60 : decode cX5_tell 60 = .ok (.invokevirtual 50, 3) := by decide +kernel
theorem dX5_tell_63 : decode cX5_tell 63 = .ok (.iload_n 3, 1) := by decide +kernel
theorem dX5_tell_64 : decode cX5_tell 64 = .ok (.invokevirtual 56, 3) := by decide +kernel
theorem dX5_tell_67 : decode cX5_tell 67 = .ok (.ireturn, 1) := by decide +kernel
theorem dX5_tell_68 : decode cX5_tell 68 = .ok (.aload_n 0, 1) := by decide +kernel
theorem dX5_tell_69 : decode cX5_tell 69 = .ok (.iload_n 3, 1) := by decide +kernel
theorem dX5_tell_70 : decode cX5_tell 70 = .ok (.invokevirtual 59, 3) := by decide +kernel
theorem dX5_tell_73 : decode cX5_tell 73 = .ok (.ireturn, 1) := by decide +kernel
theorem dX5_tell_74 : decode cX5_tell 74 = .ok (.iload_n 2, 1) := by decide +kernel
theorem dX5_tell_75 : decode cX5_tell 75 = .ok (.iconst 1, 1) := by decide +kernel
theorem dX5_tell_76 : decode cX5_tell 76 = .ok (.ishr, 1) := by decide +kernel
theorem dX5_tell_77 : decode cX5_tell 77 = .ok (.iload_n 3, 1) := by decide +kernel
theorem dX5_tell_78 : decode cX5_tell 78 = .ok (.if_icmp .ne 9, 3) := by decide +kernel
theorem dX5_tell_81 : decode cX5_tell 81 = .ok (.iload_n 2, 1) := by decide +kernel
theorem dX5_tell_82 : decode cX5_tell 82 = .ok (.iconst 1, 1) := by decide +kernel
theorem dX5_tell_83 : decode cX5_tell 83 = .ok (.iand, 1) := by decide +kernel
theorem dX5_tell_84 : decode cX5_tell 84 = .ok (.goto 4, 3) := by decide +kernel
theorem dX5_tell_87 : decode cX5_tell 87 = .ok (.iconst (-1), 1) := by decide +kernel
theorem dX5_tell_88 : decode cX5_tell 88 = .ok (.ireturn, 1) := by decide +kernel
theorem dX5_rulingOf_0 : decode cX5_rulingOf 0 = .ok (.iload_n 1, 1) := by decide +kernel
theorem dX5_rulingOf_1 : decode cX5_rulingOf 1 = .ok (.iconst (-1), 1) := by decide +kernel
theorem dX5_rulingOf_2 : decode cX5_rulingOf 2 = .ok (.if_icmp .ne 7, 3) := by decide +kernel
theorem dX5_rulingOf_5 : decode cX5_rulingOf 5 = .ok (.iconst (-1), 1) := by decide +kernel
theorem dX5_rulingOf_6 : decode cX5_rulingOf 6 = .ok (.goto 15, 3) := by decide +kernel
theorem dX5_rulingOf_9 : decode cX5_rulingOf 9 = .ok (.aload_n 0, 1) := by decide +kernel
theorem dX5_rulingOf_10 : decode cX5_rulingOf 10 = .ok (.getfield 15, 3) := by decide +kernel
theorem dX5_rulingOf_13 : decode cX5_rulingOf 13 = .ok (.iload_n 2, 1) := by decide +kernel
theorem dX5_rulingOf_14 : decode cX5_rulingOf 14 = .ok (.invokestatic 24, 3) := by decide +kernel
theorem dX5_rulingOf_17 : decode cX5_rulingOf 17 = .ok (.iload_n 1, 1) := by decide +kernel
theorem dX5_rulingOf_18 : decode cX5_rulingOf 18 = .ok (.ishr, 1) := by decide +kernel
theorem dX5_rulingOf_19 : decode cX5_rulingOf 19 = .ok (.iconst 1, 1) := by decide +kernel
theorem dX5_rulingOf_20 : decode cX5_rulingOf 20 = .ok (.iand, 1) := by decide +kernel
theorem dX5_rulingOf_21 : decode cX5_rulingOf 21 = .ok (.ireturn, 1) := by decide +kernel
theorem dX5_rulingOfMost_0 : decode cX5_rulingOfMost 0 = .ok (.aload_n 0, 1) := by decide +kernel
theorem dX5_rulingOfMost_1 : decode cX5_rulingOfMost 1 = .ok (.getfield 15, 3) := by decide +kernel
theorem dX5_rulingOfMost_4 : decode cX5_rulingOfMost 4 = .ok (.iload_n 1, 1) := by decide +kernel
theorem dX5_rulingOfMost_5 : decode cX5_rulingOfMost 5 = .ok (.invokestatic 24, 3) := by decide +kernel
theorem dX5_rulingOfMost_8 : decode cX5_rulingOfMost 8 = .ok (.invokestatic 28, 3) := by decide +kernel
theorem dX5_rulingOfMost_11 : decode cX5_rulingOfMost 11 = .ok (.istore_n 2, 1) := by decide +kernel
theorem dX5_rulingOfMost_12 : decode cX5_rulingOfMost 12 = .ok (.aload_n 0, 1) := by decide +kernel
theorem dX5_rulingOfMost_13 : decode cX5_rulingOfMost 13 = .ok (.iload_n 1, 1) := by decide +kernel
theorem dX5_rulingOfMost_14 : decode cX5_rulingOfMost 14 = .ok (.invokevirtual 62, 3) := by decide +kernel
theorem dX5_rulingOfMost_17 : decode cX5_rulingOfMost 17 = .ok (.iload_n 2, 1) := by decide +kernel
theorem dX5_rulingOfMost_18 : decode cX5_rulingOfMost 18 = .ok (.isub, 1) := by decide +kernel
theorem dX5_rulingOfMost_19 : decode cX5_rulingOfMost 19 = .ok (.istore_n 3, 1) := by decide +kernel
theorem dX5_rulingOfMost_20 : decode cX5_rulingOfMost 20 = .ok (.iload_n 2, 1) := by decide +kernel
theorem dX5_rulingOfMost_21 : decode cX5_rulingOfMost 21 = .ok (.iload_n 3, 1) := by decide +kernel
theorem dX5_rulingOfMost_22 : decode cX5_rulingOfMost 22 = .ok (.if_icmp .ne 5, 3) := by decide +kernel
theorem dX5_rulingOfMost_25 : decode cX5_rulingOfMost 25 = .ok (.iconst (-1), 1) := by decide +kernel
theorem dX5_rulingOfMost_26 : decode cX5_rulingOfMost 26 = .ok (.ireturn, 1) := by decide +kernel
theorem dX5_rulingOfMost_27 : decode cX5_rulingOfMost 27 = .ok (.iload_n 2, 1) := by decide +kernel
theorem dX5_rulingOfMost_28 : decode cX5_rulingOfMost 28 = .ok (.iload_n 3, 1) := by decide +kernel
theorem dX5_rulingOfMost_29 : decode cX5_rulingOfMost 29 = .ok (.if_icmp .le 7, 3) := by decide +kernel
theorem dX5_rulingOfMost_32 : decode cX5_rulingOfMost 32 = .ok (.iconst 1, 1) := by decide +kernel
theorem dX5_rulingOfMost_33 : decode cX5_rulingOfMost 33 = .ok (.goto 4, 3) := by decide +kernel
theorem dX5_rulingOfMost_36 : decode cX5_rulingOfMost 36 = .ok (.iconst 0, 1) := by decide +kernel
theorem dX5_rulingOfMost_37 : decode cX5_rulingOfMost 37 = .ok (.ireturn, 1) := by decide +kernel
theorem dX6_init_0 : decode cX6_init 0 = .ok (.aload_n 0, 1) := by decide +kernel
theorem dX6_init_1 : decode cX6_init 1 = .ok (.invokespecial 3, 3) := by decide +kernel
theorem dX6_init_4 : decode cX6_init 4 = .ok (.aload_n 0, 1) := by decide +kernel
theorem dX6_init_5 : decode cX6_init 5 = .ok (.new 9, 3) := by decide +kernel
theorem dX6_init_8 : decode cX6_init 8 = .ok (.dup, 1) := by decide +kernel
theorem dX6_init_9 : decode cX6_init 9 = .ok (.invokespecial 11, 3) := by decide +kernel
theorem dX6_init_12 : decode cX6_init 12 = .ok (.putfield 12, 3) := by decide +kernel
theorem dX6_init_15 : decode cX6_init 15 = .ok (.aload_n 0, 1) := by decide +kernel
theorem dX6_init_16 : decode cX6_init 16 = .ok (.new 9, 3) := by decide +kernel
theorem dX6_init_19 : decode cX6_init 19 = .ok (.dup, 1) := by decide +kernel
theorem dX6_init_20 : decode cX6_init 20 = .ok (.invokespecial 11, 3) := by decide +kernel
theorem dX6_init_23 : decode cX6_init 23 = .ok (.putfield 18, 3) := by decide +kernel
theorem dX6_init_26 : decode cX6_init 26 = .ok (.aload_n 0, 1) := by decide +kernel
theorem dX6_init_27 : decode cX6_init 27 = .ok (.sipush 240, 3) := by decide +kernel
theorem dX6_init_30 : decode cX6_init 30 = .ok (.newarray .int, 2) := by decide +kernel
theorem dX6_init_32 : decode cX6_init 32 = .ok (.putfield 21, 3) := by decide +kernel
theorem dX6_init_35 : decode cX6_init 35 = .ok (.return_, 1) := by decide +kernel
theorem dX6_set_0 : decode cX6_set 0 = .ok (.aload_n 0, 1) := by decide +kernel
theorem dX6_set_1 : decode cX6_set 1 = .ok (.iload_n 3, 1) := by decide +kernel
theorem dX6_set_2 : decode cX6_set 2 = .ok (.putfield 25, 3) := by decide +kernel
theorem dX6_set_5 : decode cX6_set 5 = .ok (.aload_n 0, 1) := by decide +kernel
theorem dX6_set_6 : decode cX6_set 6 = .ok (.iconst 0, 1) := by decide +kernel
theorem dX6_set_7 : decode cX6_set 7 = .ok (.putfield 29, 3) := by decide +kernel
theorem dX6_set_10 : decode cX6_set 10 = .ok (.aload_n 0, 1) := by decide +kernel
theorem dX6_set_11 : decode cX6_set 11 = .ok (.getfield 12, 3) := by decide +kernel
theorem dX6_set_14 : decode cX6_set 14 = .ok (.invokevirtual 32, 3) := by decide +kernel
theorem dX6_set_17 : decode cX6_set 17 = .ok (.aload_n 0, 1) := by decide +kernel
theorem dX6_set_18 : decode cX6_set 18 = .ok (.getfield 18, 3) := by decide +kernel
theorem dX6_set_21 : decode cX6_set 21 = .ok (.invokevirtual 32, 3) := by decide +kernel
theorem dX6_set_24 : decode cX6_set 24 = .ok (.aload_n 0, 1) := by decide +kernel
theorem dX6_set_25 : decode cX6_set 25 = .ok (.aload_n 2, 1) := by decide +kernel
theorem dX6_set_26 : decode cX6_set 26 = .ok (.invokevirtual 35, 3) := by decide +kernel
theorem dX6_set_29 : decode cX6_set 29 = .ok (.iconst 0, 1) := by decide +kernel
theorem dX6_set_30 : decode cX6_set 30 = .ok (.istore 4, 2) := by decide +kernel
theorem dX6_set_32 : decode cX6_set 32 = .ok (.iload 4, 2) := by decide +kernel
theorem dX6_set_34 : decode cX6_set 34 = .ok (.aload_n 1, 1) := by decide +kernel
theorem dX6_set_35 : decode cX6_set 35 = .ok (.invokevirtual 39, 3) := by decide +kernel
theorem dX6_set_38 : decode cX6_set 38 = .ok (.if_icmp .ge 52, 3) := by decide +kernel
theorem dX6_set_41 : decode cX6_set 41 = .ok (.iconst 0, 1) := by decide +kernel
theorem dX6_set_42 : decode cX6_set 42 = .ok (.istore 5, 2) := by decide +kernel
theorem dX6_set_44 : decode cX6_set 44 = .ok (.iload 5, 2) := by decide +kernel
theorem dX6_set_46 : decode cX6_set 46 = .ok (.aload_n 1, 1) := by decide +kernel
theorem dX6_set_47 : decode cX6_set 47 = .ok (.iload 4, 2) := by decide +kernel
theorem dX6_set_49 : decode cX6_set 49 = .ok (.invokevirtual 45, 3) := by decide +kernel
theorem dX6_set_52 : decode cX6_set 52 = .ok (.if_icmp .ge 32, 3) := by decide +kernel
theorem dX6_set_55 : decode cX6_set 55 = .ok (.aload_n 0, 1) := by decide +kernel
theorem dX6_set_56 : decode cX6_set 56 = .ok (.iload 5, 2) := by decide +kernel
theorem dX6_set_58 : decode cX6_set 58 = .ok (.invokevirtual 49, 3) := by decide +kernel
theorem dX6_set_61 : decode cX6_set 61 = .ok (.iload 5, 2) := by decide +kernel
theorem dX6_set_63 : decode cX6_set 63 = .ok (.if_icmp .ne 15, 3) := by decide +kernel
theorem dX6_set_66 : decode cX6_set 66 = .ok (.aload_n 0, 1) := by decide +kernel
theorem dX6_set_67 : decode cX6_set 67 = .ok (.iload 4, 2) := by decide +kernel
theorem dX6_set_69 : decode cX6_set 69 = .ok (.bipush 12, 2) := by decide +kernel
theorem dX6_set_71 : decode cX6_set 71 = .ok (.imul, 1) := by decide +kernel
theorem dX6_set_72 : decode cX6_set 72 = .ok (.iload 5, 2) := by decide +kernel
theorem dX6_set_74 : decode cX6_set 74 = .ok (.iadd, 1) := by decide +kernel
theorem dX6_set_75 : decode cX6_set 75 = .ok (.invokevirtual 52, 3) := by decide +kernel
theorem dX6_set_78 : decode cX6_set 78 = .ok (.iinc 5 1, 3) := by decide +kernel
theorem dX6_set_81 : decode cX6_set 81 = .ok (.goto (-37), 3) := by decide +kernel
theorem dX6_set_84 : decode cX6_set 84 = .ok (.iinc 4 1, 3) := by decide +kernel
theorem dX6_set_87 : decode cX6_set 87 = .ok (.goto (-55), 3) := by decide +kernel
theorem dX6_set_90 : decode cX6_set 90 = .ok (.return_, 1) := by decide +kernel
theorem dX6_firstOfLine_0 : decode cX6_firstOfLine 0 = .ok (.aload_n 0, 1) := by decide +kernel
theorem dX6_firstOfLine_1 : decode cX6_firstOfLine 1 = .ok (.getfield 25, 3) := by decide +kernel
theorem dX6_firstOfLine_4 : decode cX6_firstOfLine 4 = .ok (.iconst 1, 1) := by decide +kernel
theorem dX6_firstOfLine_5 : decode cX6_firstOfLine 5 = .ok (.if_icmp .ge 7, 3) := by decide +kernel
theorem dX6_firstOfLine_8 : decode cX6_firstOfLine 8 = .ok (.iload_n 1, 1) := by decide +kernel
theorem dX6_firstOfLine_9 : decode cX6_firstOfLine 9 = .ok (.goto 11, 3) := by decide +kernel
theorem dX6_firstOfLine_12 : decode cX6_firstOfLine 12 = .ok (.iload_n 1, 1) := by decide +kernel
theorem dX6_firstOfLine_13 : decode cX6_firstOfLine 13 = .ok (.iload_n 1, 1) := by decide +kernel
theorem dX6_firstOfLine_14 : decode cX6_firstOfLine 14 = .ok (.aload_n 0, 1) := by decide +kernel
theorem dX6_firstOfLine_15 : decode cX6_firstOfLine 15 = .ok (.getfield 25, 3) := by decide +kernel
theorem dX6_firstOfLine_18 : decode cX6_firstOfLine 18 = .ok (.irem, 1) := by decide +kernel
theorem dX6_firstOfLine_19 : decode cX6_firstOfLine 19 = .ok (.isub, 1) := by decide +kernel
theorem dX6_firstOfLine_20 : decode cX6_firstOfLine 20 = .ok (.ireturn, 1) := by decide +kernel
theorem dX6_gatherNotes_0 : decode cX6_gatherNotes 0 = .ok (.iconst 0, 1) := by decide +kernel
theorem dX6_gatherNotes_1 : decode cX6_gatherNotes 1 = .ok (.istore_n 2, 1) := by decide +kernel
theorem dX6_gatherNotes_2 : decode cX6_gatherNotes 2 = .ok (.iload_n 2, 1) := by decide +kernel
theorem dX6_gatherNotes_3 : decode cX6_gatherNotes 3 = .ok (.aload_n 1, 1) := by decide +kernel
theorem dX6_gatherNotes_4 : decode cX6_gatherNotes 4 = .ok (.invokevirtual 56, 3) := by decide +kernel
theorem dX6_gatherNotes_7 : decode cX6_gatherNotes 7 = .ok (.if_icmp .ge 52, 3) := by decide +kernel
theorem dX6_gatherNotes_10 : decode cX6_gatherNotes 10 = .ok (.aload_n 1, 1) := by decide +kernel
theorem dX6_gatherNotes_11 : decode cX6_gatherNotes 11 = .ok (.iload_n 2, 1) := by decide +kernel
theorem dX6_gatherNotes_12 : decode cX6_gatherNotes 12 = .ok (.invokevirtual 59, 3) := by decide +kernel
theorem dX6_gatherNotes_15 : decode cX6_gatherNotes 15 = .ok (.ifCond .ne 38, 3) := by decide +kernel
theorem dX6_gatherNotes_18 : decode cX6_gatherNotes 18 = .ok (.aload_n 1, 1) := by decide +kernel
theorem dX6_gatherNotes_19 : decode cX6_gatherNotes 19 = .ok (.iload_n 2, 1) := by decide +kernel
theorem dX6_gatherNotes_20 : decode cX6_gatherNotes 20 = .ok (.invokevirtual 63, 3) := by decide +kernel
theorem dX6_gatherNotes_23 : decode cX6_gatherNotes 23 = .ok (.ifCond .ne 10, 3) := by decide +kernel
theorem dX6_gatherNotes_26 : decode cX6_gatherNotes 26 = .ok (.aload_n 0, 1) := by decide +kernel
theorem dX6_gatherNotes_27 : decode cX6_gatherNotes 27 = .ok (.getfield 12, 3) := by decide +kernel
theorem dX6_gatherNotes_30 : decode cX6_gatherNotes 30 = .ok (.goto 7, 3) := by decide +kernel
theorem dX6_gatherNotes_33 : decode cX6_gatherNotes 33 = .ok (.aload_n 0, 1) := by decide +kernel
theorem dX6_gatherNotes_34 : decode cX6_gatherNotes 34 = .ok (.getfield 18, 3) := by decide +kernel
theorem dX6_gatherNotes_37 : decode cX6_gatherNotes 37 = .ok (.astore_n 3, 1) := by decide +kernel
theorem dX6_gatherNotes_38 : decode cX6_gatherNotes 38 = .ok (.aload_n 3, 1) := by decide +kernel
theorem dX6_gatherNotes_39 : decode cX6_gatherNotes 39 = .ok (.aload_n 0, 1) := by decide +kernel
theorem dX6_gatherNotes_40 : decode cX6_gatherNotes 40 = .ok (.iload_n 2, 1) := by decide +kernel
theorem dX6_gatherNotes_41 : decode cX6_gatherNotes 41 = .ok (.aload_n 1, 1) := by decide +kernel
theorem dX6_gatherNotes_42 : decode cX6_gatherNotes 42 = .ok (.invokevirtual 66, 3) := by decide +kernel
theorem dX6_gatherNotes_45 : decode cX6_gatherNotes 45 = .ok (.aload_n 1, 1) := by decide +kernel
theorem dX6_gatherNotes_46 : decode cX6_gatherNotes 46 = .ok (.iload_n 2, 1) := by decide +kernel
theorem dX6_gatherNotes_47 : decode cX6_gatherNotes 47 = .ok (.invokevirtual 70, 3) := by decide +kernel
theorem dX6_gatherNotes_50 : decode cX6_gatherNotes 50 = .ok (.invokevirtual 73, 3) := by decide +kernel
theorem dX6_gatherNotes_53 : decode cX6_gatherNotes 53 = .ok (.iinc 2 1, 3) := by decide +kernel
theorem dX6_gatherNotes_56 : decode cX6_gatherNotes 56 = .ok (.goto (-54), 3) := by decide +kernel
theorem dX6_gatherNotes_59 : decode cX6_gatherNotes 59 = .ok (.return_, 1) := by decide +kernel
theorem dX6_lineOf_0 : decode cX6_lineOf 0 = .ok (.aload_n 2, 1) := by decide +kernel
theorem dX6_lineOf_1 : decode cX6_lineOf 1 = .ok (.iload_n 1, 1) := by decide +kernel
theorem dX6_lineOf_2 : decode cX6_lineOf 2 = .ok (.invokevirtual 77, 3) := by decide +kernel
theorem dX6_lineOf_5 : decode cX6_lineOf 5 = .ok (.bipush 12, 2) := by decide +kernel
theorem dX6_lineOf_7 : decode cX6_lineOf 7 = .ok (.imul, 1) := by decide +kernel
theorem dX6_lineOf_8 : decode cX6_lineOf 8 = .ok (.aload_n 0, 1) := by decide +kernel
theorem dX6_lineOf_9 : decode cX6_lineOf 9 = .ok (.aload_n 2, 1) := by decide +kernel
theorem dX6_lineOf_10 : decode cX6_lineOf 10 = .ok (.iload_n 1, 1) := by decide +kernel
theorem dX6_lineOf_11 : decode cX6_lineOf 11 = .ok (.invokevirtual 80, 3) := by decide +kernel
theorem dX6_lineOf_14 : decode cX6_lineOf 14 = .ok (.invokevirtual 49, 3) := by decide +kernel
theorem dX6_lineOf_17 : decode cX6_lineOf 17 = .ok (.iadd, 1) := by decide +kernel
theorem dX6_lineOf_18 : decode cX6_lineOf 18 = .ok (.ireturn, 1) := by decide +kernel
theorem dX6_setLine_0 : decode cX6_setLine 0 = .ok (.aload_n 0, 1) := by decide +kernel
theorem dX6_setLine_1 : decode cX6_setLine 1 = .ok (.getfield 18, 3) := by decide +kernel
theorem dX6_setLine_4 : decode cX6_setLine 4 = .ok (.iload_n 1, 1) := by decide +kernel
theorem dX6_setLine_5 : decode cX6_setLine 5 = .ok (.aload_n 0, 1) := by decide +kernel
theorem dX6_setLine_6 : decode cX6_setLine 6 = .ok (.getfield 12, 3) := by decide +kernel
theorem dX6_setLine_9 : decode cX6_setLine 9 = .ok (.iload_n 1, 1) := by decide +kernel
theorem dX6_setLine_10 : decode cX6_setLine 10 = .ok (.aload_n 0, 1) := by decide +kernel
theorem dX6_setLine_11 : decode cX6_setLine 11 = .ok (.getfield 29, 3) := by decide +kernel
theorem dX6_setLine_14 : decode cX6_setLine 14 = .ok (.invokevirtual 83, 3) := by decide +kernel
theorem dX6_setLine_17 : decode cX6_setLine 17 = .ok (.invokevirtual 83, 3) := by decide +kernel
theorem dX6_setLine_20 : decode cX6_setLine 20 = .ok (.istore_n 2, 1) := by decide +kernel
theorem dX6_setLine_21 : decode cX6_setLine 21 = .ok (.aload_n 0, 1) := by decide +kernel
theorem dX6_setLine_22 : decode cX6_setLine 22 = .ok (.getfield 12, 3) := by decide +kernel
theorem dX6_setLine_25 : decode cX6_setLine 25 = .ok (.iload_n 1, 1) := by decide +kernel
theorem dX6_setLine_26 : decode cX6_setLine 26 = .ok (.iload_n 2, 1) := by decide +kernel
theorem dX6_setLine_27 : decode cX6_setLine 27 = .ok (.invokevirtual 87, 3) := by decide +kernel
theorem dX6_setLine_30 : decode cX6_setLine 30 = .ok (.aload_n 0, 1) := by decide +kernel
theorem dX6_setLine_31 : decode cX6_setLine 31 = .ok (.getfield 18, 3) := by decide +kernel
theorem dX6_setLine_34 : decode cX6_setLine 34 = .ok (.iload_n 1, 1) := by decide +kernel
theorem dX6_setLine_35 : decode cX6_setLine 35 = .ok (.iload_n 2, 1) := by decide +kernel
theorem dX6_setLine_36 : decode cX6_setLine 36 = .ok (.invokevirtual 87, 3) := by decide +kernel
theorem dX6_setLine_39 : decode cX6_setLine 39 = .ok (.iload_n 1, 1) := by decide +kernel
theorem dX6_setLine_40 : decode cX6_setLine 40 = .ok (.ifCond .lt 19, 3) := by decide +kernel
theorem dX6_setLine_43 : decode cX6_setLine 43 = .ok (.iload_n 1, 1) := by decide +kernel
theorem dX6_setLine_44 : decode cX6_setLine 44 = .ok (.aload_n 0, 1) := by decide +kernel
theorem dX6_setLine_45 : decode cX6_setLine 45 = .ok (.getfield 21, 3) := by decide +kernel
theorem dX6_setLine_48 : decode cX6_setLine 48 = .ok (.arraylength, 1) := by decide +kernel
theorem dX6_setLine_49 : decode cX6_setLine 49 = .ok (.if_icmp .ge 10, 3) := by decide +kernel
theorem dX6_setLine_52 : decode cX6_setLine 52 = .ok (.aload_n 0, 1) := by decide +kernel
theorem dX6_setLine_53 : decode cX6_setLine 53 = .ok (.getfield 21, 3) := by decide +kernel
theorem dX6_setLine_56 : decode cX6_setLine 56 = .ok (.iload_n 1, 1) := by decide +kernel
theorem dX6_setLine_57 : decode cX6_setLine 57 = .ok (.iload_n 2, 1) := by decide +kernel
theorem dX6_setLine_58 : decode cX6_setLine 58 = .ok (.iastore, 1) := by decide +kernel
theorem dX6_setLine_59 : decode cX6_setLine 59 = .ok (.aload_n 0, 1) := by decide +kernel
theorem dX6_setLine_60 : decode cX6_setLine 60 = .ok (.iload_n 2, 1) := by decide +kernel
theorem dX6_setLine_61 : decode cX6_setLine 61 = .ok (.iconst 1, 1) := by decide +kernel
theorem dX6_setLine_62 : decode cX6_setLine 62 = .ok (.iadd, 1) := by decide +kernel
theorem dX6_setLine_63 : decode cX6_setLine 63 = .ok (.putfield 29, 3) := by decide +kernel
theorem dX6_setLine_66 : decode cX6_setLine 66 = .ok (.return_, 1) := by decide +kernel
theorem dX6_rowOfUnit_0 : decode cX6_rowOfUnit 0 = .ok (.aload_n 0, 1) := by decide +kernel
theorem dX6_rowOfUnit_1 : decode cX6_rowOfUnit 1 = .ok (.getfield 21, 3) := by decide +kernel
theorem dX6_rowOfUnit_4 : decode cX6_rowOfUnit 4 = .ok (.iload_n 1, 1) := by decide +kernel
theorem dX6_rowOfUnit_5 : decode cX6_rowOfUnit 5 = .ok (.bipush 12, 2) := by decide +kernel
theorem dX6_rowOfUnit_7 : decode cX6_rowOfUnit 7 = .ok (.imul, 1) := by decide +kernel
theorem dX6_rowOfUnit_8 : decode cX6_rowOfUnit 8 = .ok (.invokestatic 90, 3) := by decide +kernel
theorem dX6_rowOfUnit_11 : decode cX6_rowOfUnit 11 = .ok (.ireturn, 1) := by decide +kernel
theorem dX6_rowOfNote_0 : decode cX6_rowOfNote 0 = .ok (.aload_n 0, 1) := by decide +kernel
theorem dX6_rowOfNote_1 : decode cX6_rowOfNote 1 = .ok (.iload_n 1, 1) := by decide +kernel
theorem dX6_rowOfNote_2 : decode cX6_rowOfNote 2 = .ok (.aload_n 2, 1) := by decide +kernel
theorem dX6_rowOfNote_3 : decode cX6_rowOfNote 3 = .ok (.invokevirtual 66, 3) := by decide +kernel
theorem dX6_rowOfNote_6 : decode cX6_rowOfNote 6 = .ok (.istore_n 3, 1) := by decide +kernel
theorem dX6_rowOfNote_7 : decode cX6_rowOfNote 7 = .ok (.aload_n 0, 1) := by decide +kernel
theorem dX6_rowOfNote_8 : decode cX6_rowOfNote 8 = .ok (.getfield 21, 3) := by decide +kernel
theorem dX6_rowOfNote_11 : decode cX6_rowOfNote 11 = .ok (.iload_n 3, 1) := by decide +kernel
theorem dX6_rowOfNote_12 : decode cX6_rowOfNote 12 = .ok (.invokestatic 90, 3) := by decide +kernel
theorem dX6_rowOfNote_15 : decode cX6_rowOfNote 15 = .ok (.istore 4, 2) := by decide +kernel
theorem dX6_rowOfNote_17 : decode cX6_rowOfNote 17 = .ok (.iconst 0, 1) := by decide +kernel
theorem dX6_rowOfNote_18 : decode cX6_rowOfNote 18 = .ok (.istore 5, 2) := by decide +kernel
theorem dX6_rowOfNote_20 : decode cX6_rowOfNote 20 = .ok (.iload 5, 2) := by decide +kernel
theorem dX6_rowOfNote_22 : decode cX6_rowOfNote 22 = .ok (.iload_n 1, 1) := by decide +kernel
theorem dX6_rowOfNote_23 : decode cX6_rowOfNote 23 = .ok (.if_icmp .ge 54, 3) := by decide +kernel
theorem dX6_rowOfNote_26 : decode cX6_rowOfNote 26 = .ok (.aload_n 2, 1) := by decide +kernel
theorem dX6_rowOfNote_27 : decode cX6_rowOfNote 27 = .ok (.iload 5, 2) := by decide +kernel
theorem dX6_rowOfNote_29 : decode cX6_rowOfNote 29 = .ok (.invokevirtual 59, 3) := by decide +kernel
theorem dX6_rowOfNote_32 : decode cX6_rowOfNote 32 = .ok (.ifCond .ne 39, 3) := by decide +kernel
theorem dX6_rowOfNote_35 : decode cX6_rowOfNote 35 = .ok (.aload_n 0, 1) := by decide +kernel
theorem dX6_rowOfNote_36 : decode cX6_rowOfNote 36 = .ok (.iload 5, 2) := by decide +kernel
theorem dX6_rowOfNote_38 : decode cX6_rowOfNote 38 = .ok (.aload_n 2, 1) := by decide +kernel
theorem dX6_rowOfNote_39 : decode cX6_rowOfNote 39 = .ok (.invokevirtual 66, 3) := by decide +kernel
theorem dX6_rowOfNote_42 : decode cX6_rowOfNote 42 = .ok (.iload_n 3, 1) := by decide +kernel
theorem dX6_rowOfNote_43 : decode cX6_rowOfNote 43 = .ok (.if_icmp .ne 28, 3) := by decide +kernel
theorem dX6_rowOfNote_46 : decode cX6_rowOfNote 46 = .ok (.aload_n 2, 1) := by decide +kernel
theorem dX6_rowOfNote_47 : decode cX6_rowOfNote 47 = .ok (.iload 5, 2) := by decide +kernel
theorem dX6_rowOfNote_49 : decode cX6_rowOfNote 49 = .ok (.invokevirtual 63, 3) := by decide +kernel
theorem dX6_rowOfNote_52 : decode cX6_rowOfNote 52 = .ok (.aload_n 2, 1) := by decide +kernel
theorem dX6_rowOfNote_53 : decode cX6_rowOfNote 53 = .ok (.iload_n 1, 1) := by decide +kernel
theorem dX6_rowOfNote_54 : decode cX6_rowOfNote 54 = .ok (.invokevirtual 63, 3) := by decide +kernel
theorem dX6_rowOfNote_57 : decode cX6_rowOfNote 57 = .ok (.if_icmp .ne 14, 3) := by decide +kernel
theorem dX6_rowOfNote_60 : decode cX6_rowOfNote 60 = .ok (.iload 4, 2) := by decide +kernel
theorem dX6_rowOfNote_62 : decode cX6_rowOfNote 62 = .ok (.aload_n 2, 1) := by decide +kernel
theorem dX6_rowOfNote_63 : decode cX6_rowOfNote 63 = .ok (.iload 5, 2) := by decide +kernel
theorem dX6_rowOfNote_65 : decode cX6_rowOfNote 65 = .ok (.invokevirtual 70, 3) := by decide +kernel
theorem dX6_rowOfNote_68 : decode cX6_rowOfNote 68 = .ok (.iadd, 1) := by decide +kernel
theorem dX6_rowOfNote_69 : decode cX6_rowOfNote 69 = .ok (.istore 4, 2) := by decide +kernel
theorem dX6_rowOfNote_71 : decode cX6_rowOfNote 71 = .ok (.iinc 5 1, 3) := by decide +kernel
theorem dX6_rowOfNote_74 : decode cX6_rowOfNote 74 = .ok (.goto (-54), 3) := by decide +kernel
theorem dX6_rowOfNote_77 : decode cX6_rowOfNote 77 = .ok (.iload 4, 2) := by decide +kernel
theorem dX6_rowOfNote_79 : decode cX6_rowOfNote 79 = .ok (.ireturn, 1) := by decide +kernel
theorem dX6_height_0 : decode cX6_height 0 = .ok (.aload_n 0, 1) := by decide +kernel
theorem dX6_height_1 : decode cX6_height 1 = .ok (.getfield 29, 3) := by decide +kernel
theorem dX6_height_4 : decode cX6_height 4 = .ok (.aload_n 0, 1) := by decide +kernel
theorem dX6_height_5 : decode cX6_height 5 = .ok (.getfield 12, 3) := by decide +kernel
theorem dX6_height_8 : decode cX6_height 8 = .ok (.invokevirtual 94, 3) := by decide +kernel
theorem dX6_height_11 : decode cX6_height 11 = .ok (.aload_n 0, 1) := by decide +kernel
theorem dX6_height_12 : decode cX6_height 12 = .ok (.getfield 18, 3) := by decide +kernel
theorem dX6_height_15 : decode cX6_height 15 = .ok (.invokevirtual 94, 3) := by decide +kernel
theorem dX6_height_18 : decode cX6_height 18 = .ok (.invokestatic 97, 3) := by decide +kernel
theorem dX6_height_21 : decode cX6_height 21 = .ok (.invokestatic 97, 3) := by decide +kernel
theorem dX6_height_24 : decode cX6_height 24 = .ok (.ireturn, 1) := by decide +kernel
theorem dX7_init_0 : decode cX7_init 0 = .ok (.aload_n 0, 1) := by decide +kernel
theorem dX7_init_1 : decode cX7_init 1 = .ok (.invokespecial 3, 3) := by decide +kernel
theorem dX7_init_4 : decode cX7_init 4 = .ok (.aload_n 0, 1) := by decide +kernel
theorem dX7_init_5 : decode cX7_init 5 = .ok (.sipush 240, 3) := by decide +kernel
theorem dX7_init_8 : decode cX7_init 8 = .ok (.newarray .int, 2) := by decide +kernel
theorem dX7_init_10 : decode cX7_init 10 = .ok (.putfield 9, 3) := by decide +kernel
theorem dX7_init_13 : decode cX7_init 13 = .ok (.aload_n 0, 1) := by decide +kernel
theorem dX7_init_14 : decode cX7_init 14 = .ok (.bipush 20, 2) := by decide +kernel
theorem dX7_init_16 : decode cX7_init 16 = .ok (.newarray .int, 2) := by decide +kernel
theorem dX7_init_18 : decode cX7_init 18 = .ok (.putfield 15, 3) := by decide +kernel
theorem dX7_init_21 : decode cX7_init 21 = .ok (.aload_n 0, 1) := by decide +kernel
theorem dX7_init_22 : decode cX7_init 22 = .ok (.bipush 13, 2) := by decide +kernel
theorem dX7_init_24 : decode cX7_init 24 = .ok (.newarray .int, 2) := by decide +kernel
theorem dX7_init_26 : decode cX7_init 26 = .ok (.putfield 18, 3) := by decide +kernel
theorem dX7_init_29 : decode cX7_init 29 = .ok (.return_, 1) := by decide +kernel
theorem dX7_count_0 : decode cX7_count 0 = .ok (.aload_n 0, 1) := by decide +kernel
theorem dX7_count_1 : decode cX7_count 1 = .ok (.getfield 21, 3) := by decide +kernel
theorem dX7_count_4 : decode cX7_count 4 = .ok (.ireturn, 1) := by decide +kernel
theorem dX7_isFull_0 : decode cX7_isFull 0 = .ok (.aload_n 0, 1) := by decide +kernel
theorem dX7_isFull_1 : decode cX7_isFull 1 = .ok (.getfield 21, 3) := by decide +kernel
theorem dX7_isFull_4 : decode cX7_isFull 4 = .ok (.aload_n 0, 1) := by decide +kernel
theorem dX7_isFull_5 : decode cX7_isFull 5 = .ok (.getfield 15, 3) := by decide +kernel
theorem dX7_isFull_8 : decode cX7_isFull 8 = .ok (.arraylength, 1) := by decide +kernel
theorem dX7_isFull_9 : decode cX7_isFull 9 = .ok (.if_icmp .lt 7, 3) := by decide +kernel
theorem dX7_isFull_12 : decode cX7_isFull 12 = .ok (.iconst 1, 1) := by decide +kernel
theorem dX7_isFull_13 : decode cX7_isFull 13 = .ok (.goto 4, 3) := by decide +kernel
theorem dX7_isFull_16 : decode cX7_isFull 16 = .ok (.iconst 0, 1) := by decide +kernel
theorem dX7_isFull_17 : decode cX7_isFull 17 = .ok (.ireturn, 1) := by decide +kernel
theorem dX7_has_0 : decode cX7_has 0 = .ok (.iload_n 1, 1) := by decide +kernel
theorem dX7_has_1 : decode cX7_has 1 = .ok (.ifCond .lt 15, 3) := by decide +kernel
theorem dX7_has_4 : decode cX7_has 4 = .ok (.iload_n 1, 1) := by decide +kernel
theorem dX7_has_5 : decode cX7_has 5 = .ok (.aload_n 0, 1) := by decide +kernel
theorem dX7_has_6 : decode cX7_has 6 = .ok (.getfield 21, 3) := by decide +kernel
theorem dX7_has_9 : decode cX7_has 9 = .ok (.if_icmp .ge 7, 3) := by decide +kernel
theorem dX7_has_12 : decode cX7_has 12 = .ok (.iconst 1, 1) := by decide +kernel
theorem dX7_has_13 : decode cX7_has 13 = .ok (.goto 4, 3) := by decide +kernel
theorem dX7_has_16 : decode cX7_has 16 = .ok (.iconst 0, 1) := by decide +kernel
theorem dX7_has_17 : decode cX7_has 17 = .ok (.ireturn, 1) := by decide +kernel
theorem dX7_hasPlace_0 : decode cX7_hasPlace 0 = .ok (.iload_n 2, 1) := by decide +kernel
theorem dX7_hasPlace_1 : decode cX7_hasPlace 1 = .ok (.ifCond .lt 16, 3) := by decide +kernel
theorem dX7_hasPlace_4 : decode cX7_hasPlace 4 = .ok (.iload_n 2, 1) := by decide +kernel
theorem dX7_hasPlace_5 : decode cX7_hasPlace 5 = .ok (.aload_n 0, 1) := by decide +kernel
theorem dX7_hasPlace_6 : decode cX7_hasPlace 6 = .ok (.iload_n 1, 1) := by decide +kernel
theorem dX7_hasPlace_7 : decode cX7_hasPlace 7 = .ok (.invokevirtual 25, 3) := by decide +kernel
theorem dX7_hasPlace_10 : decode cX7_hasPlace 10 = .ok (.if_icmp .ge 7, 3) := by decide +kernel
theorem dX7_hasPlace_13 : decode cX7_hasPlace 13 = .ok (.iconst 1, 1) := by decide +kernel
theorem dX7_hasPlace_14 : decode cX7_hasPlace 14 = .ok (.goto 4, 3) := by decide +kernel
theorem dX7_hasPlace_17 : decode cX7_hasPlace 17 = .ok (.iconst 0, 1) := by decide +kernel
theorem dX7_hasPlace_18 : decode cX7_hasPlace 18 = .ok (.ireturn, 1) := by decide +kernel
theorem dX7_sizeOf_0 : decode cX7_sizeOf 0 = .ok (.aload_n 0, 1) := by decide +kernel
theorem dX7_sizeOf_1 : decode cX7_sizeOf 1 = .ok (.iload_n 1, 1) := by decide +kernel
theorem dX7_sizeOf_2 : decode cX7_sizeOf 2 = .ok (.invokevirtual 29, 3) := by decide +kernel
theorem dX7_sizeOf_5 : decode cX7_sizeOf 5 = .ok (.ifCond .eq 12, 3) := by decide +kernel
theorem dX7_sizeOf_8 : decode cX7_sizeOf 8 = .ok (.aload_n 0, 1) := by decide +kernel
theorem dX7_sizeOf_9 : decode cX7_sizeOf 9 = .ok (.getfield 15, 3) := by decide +kernel
theorem dX7_sizeOf_12 : decode cX7_sizeOf 12 = .ok (.iload_n 1, 1) := by decide +kernel
theorem dX7_sizeOf_13 : decode cX7_sizeOf 13 = .ok (.iaload, 1) := by decide +kernel
theorem dX7_sizeOf_14 : decode cX7_sizeOf 14 = .ok (.goto 4, 3) := by decide +kernel
theorem dX7_sizeOf_17 : decode cX7_sizeOf 17 = .ok (.iconst 0, 1) := by decide +kernel
theorem dX7_sizeOf_18 : decode cX7_sizeOf 18 = .ok (.ireturn, 1) := by decide +kernel
theorem dX7_wordAt_0 : decode cX7_wordAt 0 = .ok (.aload_n 0, 1) := by decide +kernel
theorem dX7_wordAt_1 : decode cX7_wordAt 1 = .ok (.iload_n 1, 1) := by decide +kernel
theorem dX7_wordAt_2 : decode cX7_wordAt 2 = .ok (.iload_n 2, 1) := by decide +kernel
theorem dX7_wordAt_3 : decode cX7_wordAt 3 = .ok (.invokevirtual 33, 3) := by decide +kernel
theorem dX7_wordAt_6 : decode cX7_wordAt 6 = .ok (.ifCond .eq 17, 3) := by decide +kernel
theorem dX7_wordAt_9 : decode cX7_wordAt 9 = .ok (.aload_n 0, 1) := by decide +kernel
theorem dX7_wordAt_10 : decode cX7_wordAt 10 = .ok (.getfield 9, 3) := by decide +kernel
theorem dX7_wordAt_13 : decode cX7_wordAt 13 = .ok (.iload_n 1, 1) := by decide +kernel
theorem dX7_wordAt_14 : decode cX7_wordAt 14 = .ok (.bipush 12, 2) := by decide +kernel
theorem dX7_wordAt_16 : decode cX7_wordAt 16 = .ok (.imul, 1) := by decide +kernel
theorem dX7_wordAt_17 : decode cX7_wordAt 17 = .ok (.iload_n 2, 1) := by decide +kernel
theorem dX7_wordAt_18 : decode cX7_wordAt 18 = .ok (.iadd, 1) := by decide +kernel
theorem dX7_wordAt_19 : decode cX7_wordAt 19 = .ok (.iaload, 1) := by decide +kernel
theorem dX7_wordAt_20 : decode cX7_wordAt 20 = .ok (.goto 4, 3) := by decide +kernel
theorem dX7_wordAt_23 : decode cX7_wordAt 23 = .ok (.iconst (-1), 1) := by decide +kernel
theorem dX7_wordAt_24 : decode cX7_wordAt 24 = .ok (.ireturn, 1) := by decide +kernel
theorem dX7_put_0 : decode cX7_put 0 = .ok (.aload_n 0, 1) := by decide +kernel
theorem dX7_put_1 : decode cX7_put 1 = .ok (.iload_n 1, 1) := by decide +kernel
theorem dX7_put_2 : decode cX7_put 2 = .ok (.iload_n 2, 1) := by decide +kernel
theorem dX7_put_3 : decode cX7_put 3 = .ok (.invokevirtual 33, 3) := by decide +kernel
theorem dX7_put_6 : decode cX7_put 6 = .ok (.ifCond .eq 15, 3) := by decide +kernel
theorem dX7_put_9 : decode cX7_put 9 = .ok (.aload_n 0, 1) := by decide +kernel
theorem dX7_put_10 : decode cX7_put 10 = .ok (.getfield 9, 3) := by decide +kernel
theorem dX7_put_13 : decode cX7_put 13 = .ok (.iload_n 1, 1) := by decide +kernel
theorem dX7_put_14 : decode cX7_put 14 = .ok (.bipush 12, 2) := by decide +kernel
theorem dX7_put_16 : decode cX7_put 16 = .ok (.imul, 1) := by decide +kernel
theorem dX7_put_17 : decode cX7_put 17 = .ok (.iload_n 2, 1) := by decide +kernel
theorem dX7_put_18 : decode cX7_put 18 = .ok (.iadd, 1) := by decide +kernel
theorem dX7_put_19 : decode cX7_put 19 = .ok (.iload_n 3, 1) := by decide +kernel
theorem dX7_put_20 : decode cX7_put 20 = .ok (.iastore, 1) := by decide +kernel
theorem dX7_put_21 : decode cX7_put 21 = .ok (.return_, 1) := by decide +kernel
theorem dX7_add_0 : decode cX7_add 0 = .ok (.aload_n 0, 1) := by decide +kernel
theorem dX7_add_1 : decode cX7_add 1 = .ok (.invokevirtual 37, 3) := by decide +kernel
theorem dX7_add_4 : decode cX7_add 4 = .ok (.ifCond .eq 4, 3) := by decide +kernel
theorem dX7_add_7 : decode cX7_add 7 = .ok (.return_, 1) := by decide +kernel
theorem dX7_add_8 : decode cX7_add 8 = .ok (.aload_n 0, 1) := by decide +kernel
theorem dX7_add_9 : decode cX7_add 9 = .ok (.getfield 21, 3) := by decide +kernel
theorem dX7_add_12 : decode cX7_add 12 = .ok (.istore_n 2, 1) := by decide +kernel
theorem dX7_add_13 : decode cX7_add 13 = .ok (.aload_n 0, 1) := by decide +kernel
theorem dX7_add_14 : decode cX7_add 14 = .ok (.dup, 1) := by decide +kernel
theorem dX7_add_15 : decode cX7_add 15 = .ok (.getfield 21, 3) := by decide +kernel
theorem dX7_add_18 : decode cX7_add 18 = .ok (.iconst 1, 1) := by decide +kernel
theorem dX7_add_19 : decode cX7_add 19 = .ok (.iadd, 1) := by decide +kernel
theorem dX7_add_20 : decode cX7_add 20 = .ok (.putfield 21, 3) := by decide +kernel
theorem dX7_add_23 : decode cX7_add 23 = .ok (.aload_n 0, 1) := by decide +kernel
theorem dX7_add_24 : decode cX7_add 24 = .ok (.getfield 15, 3) := by decide +kernel
theorem dX7_add_27 : decode cX7_add 27 = .ok (.iload_n 2, 1) := by decide +kernel
theorem dX7_add_28 : decode cX7_add 28 = .ok (.aload_n 1, 1) := by decide +kernel
theorem dX7_add_29 : decode cX7_add 29 = .ok (.invokevirtual 41, 3) := by decide +kernel
theorem dX7_add_32 : decode cX7_add 32 = .ok (.iastore, 1) := by decide +kernel
theorem dX7_add_33 : decode cX7_add 33 = .ok (.iconst 0, 1) := by decide +kernel
theorem dX7_add_34 : decode cX7_add 34 = .ok (.istore_n 3, 1) := by decide +kernel
theorem dX7_add_35 : decode cX7_add 35 = .ok (.iload_n 3, 1) := by decide +kernel
theorem dX7_add_36 : decode cX7_add 36 = .ok (.aload_n 1, 1) := by decide +kernel
theorem dX7_add_37 : decode cX7_add 37 = .ok (.invokevirtual 41, 3) := by decide +kernel
theorem dX7_add_40 : decode cX7_add 40 = .ok (.if_icmp .ge 20, 3) := by decide +kernel
theorem dX7_add_43 : decode cX7_add 43 = .ok (.aload_n 0, 1) := by decide +kernel
theorem dX7_add_44 : decode cX7_add 44 = .ok (.iload_n 2, 1) := by decide +kernel
theorem dX7_add_45 : decode cX7_add 45 = .ok (.iload_n 3, 1) := by decide +kernel
theorem dX7_add_46 : decode cX7_add 46 = .ok (.aload_n 1, 1) := by decide +kernel
theorem dX7_add_47 : decode cX7_add 47 = .ok (.iload_n 3, 1) := by decide +kernel
theorem dX7_add_48 : decode cX7_add 48 = .ok (.invokevirtual 47, 3) := by decide +kernel
theorem dX7_add_51 : decode cX7_add 51 = .ok (.invokevirtual 50, 3) := by decide +kernel
theorem dX7_add_54 : decode cX7_add 54 = .ok (.iinc 3 1, 3) := by decide +kernel
theorem dX7_add_57 : decode cX7_add 57 = .ok (.goto (-22), 3) := by decide +kernel
theorem dX7_add_60 : decode cX7_add 60 = .ok (.return_, 1) := by decide +kernel
theorem dX7_takeOut_0 : decode cX7_takeOut 0 = .ok (.aload_n 0, 1) := by decide +kernel
theorem dX7_takeOut_1 : decode cX7_takeOut 1 = .ok (.iload_n 1, 1) := by decide +kernel
theorem dX7_takeOut_2 : decode cX7_takeOut 2 = .ok (.iload_n 2, 1) := by decide +kernel
theorem dX7_takeOut_3 : decode cX7_takeOut 3 = .ok (.invokevirtual 33, 3) := by decide +kernel
theorem dX7_takeOut_6 : decode cX7_takeOut 6 = .ok (.ifCond .ne 4, 3) := by decide +kernel
theorem dX7_takeOut_9 : decode cX7_takeOut 9 = .ok (.return_, 1) := by decide +kernel
theorem dX7_takeOut_10 : decode cX7_takeOut 10 = .ok (.iload_n 2, 1) := by decide +kernel
theorem dX7_takeOut_11 : decode cX7_takeOut 11 = .ok (.istore_n 3, 1) := by decide +kernel
theorem dX7_takeOut_12 : decode cX7_takeOut 12 = .ok (.iload_n 3, 1) := by decide +kernel
theorem dX7_takeOut_13 : decode cX7_takeOut 13 = .ok (.iconst 1, 1) := by decide +kernel
theorem dX7_takeOut_14 : decode cX7_takeOut 14 = .ok (.iadd, 1) := by decide +kernel
theorem dX7_takeOut_15 : decode cX7_takeOut 15 = .ok (.aload_n 0, 1) := by decide +kernel
theorem dX7_takeOut_16 : decode cX7_takeOut 16 = .ok (.getfield 15, 3) := by decide +kernel
theorem dX7_takeOut_19 : decode cX7_takeOut 19 = .ok (.iload_n 1, 1) := by decide +kernel
theorem dX7_takeOut_20 : decode cX7_takeOut 20 = .ok (.iaload, 1) := by decide +kernel
theorem dX7_takeOut_21 : decode cX7_takeOut 21 = .ok (.if_icmp .ge 23, 3) := by decide +kernel
theorem dX7_takeOut_24 : decode cX7_takeOut 24 = .ok (.aload_n 0, 1) := by decide +kernel
theorem dX7_takeOut_25 : decode cX7_takeOut 25 = .ok (.iload_n 1, 1) := by decide +kernel
theorem dX7_takeOut_26 : decode cX7_takeOut 26 = .ok (.iload_n 3, 1) := by decide +kernel
theorem dX7_takeOut_27 : decode cX7_takeOut 27 = .ok (.aload_n 0, 1) := by decide +kernel
theorem dX7_takeOut_28 : decode cX7_takeOut 28 = .ok (.iload_n 1, 1) := by decide +kernel
theorem dX7_takeOut_29 : decode cX7_takeOut 29 = .ok (.iload_n 3, 1) := by decide +kernel
theorem dX7_takeOut_30 : decode cX7_takeOut 30 = .ok (.iconst 1, 1) := by decide +kernel
theorem dX7_takeOut_31 : decode cX7_takeOut 31 = .ok (.iadd, 1) := by decide +kernel
theorem dX7_takeOut_32 : decode cX7_takeOut 32 = .ok (.invokevirtual 54, 3) := by decide +kernel
theorem dX7_takeOut_35 : decode cX7_takeOut 35 = .ok (.invokevirtual 50, 3) := by decide +kernel
theorem dX7_takeOut_38 : decode cX7_takeOut 38 = .ok (.iinc 3 1, 3) := by decide +kernel
theorem dX7_takeOut_41 : decode cX7_takeOut 41 = .ok (.goto (-29), 3) := by decide +kernel
theorem dX7_takeOut_44 : decode cX7_takeOut 44 = .ok (.aload_n 0, 1) := by decide +kernel
theorem dX7_takeOut_45 : decode cX7_takeOut 45 = .ok (.getfield 15, 3) := by decide +kernel
theorem dX7_takeOut_48 : decode cX7_takeOut 48 = .ok (.iload_n 1, 1) := by decide +kernel
theorem dX7_takeOut_49 : decode cX7_takeOut 49 = .ok (.dup2, 1) := by decide +kernel
theorem dX7_takeOut_50 : decode cX7_takeOut 50 = .ok (.iaload, 1) := by decide +kernel
theorem dX7_takeOut_51 : decode cX7_takeOut 51 = .ok (.iconst 1, 1) := by decide +kernel
theorem dX7_takeOut_52 : decode cX7_takeOut 52 = .ok (.isub, 1) := by decide +kernel
theorem dX7_takeOut_53 : decode cX7_takeOut 53 = .ok (.iastore, 1) := by decide +kernel
theorem dX7_takeOut_54 : decode cX7_takeOut 54 = .ok (.return_, 1) := by decide +kernel
theorem dX7_placeOf_0 : decode cX7_placeOf 0 = .ok (.iconst 0, 1) := by decide +kernel
theorem dX7_placeOf_1 : decode cX7_placeOf 1 = .ok (.istore 4, 2) := by decide +kernel
theorem dX7_placeOf_3 : decode cX7_placeOf 3 = .ok (.iconst 0, 1) := by decide +kernel
theorem dX7_placeOf_4 : decode cX7_placeOf 4 = .ok (.istore 5, 2) := by decide +kernel
theorem dX7_placeOf_6 : decode cX7_placeOf 6 = .ok (.iload 5, 2) := by decide +kernel
theorem dX7_placeOf_8 : decode cX7_placeOf 8 = .ok (.aload_n 0, 1) := by decide +kernel
theorem dX7_placeOf_9 : decode cX7_placeOf 9 = .ok (.iload_n 1, 1) := by decide +kernel
theorem dX7_placeOf_10 : decode cX7_placeOf 10 = .ok (.invokevirtual 25, 3) := by decide +kernel
theorem dX7_placeOf_13 : decode cX7_placeOf 13 = .ok (.if_icmp .ge 32, 3) := by decide +kernel
theorem dX7_placeOf_16 : decode cX7_placeOf 16 = .ok (.aload_n 0, 1) := by decide +kernel
theorem dX7_placeOf_17 : decode cX7_placeOf 17 = .ok (.iload_n 1, 1) := by decide +kernel
theorem dX7_placeOf_18 : decode cX7_placeOf 18 = .ok (.iload 5, 2) := by decide +kernel
theorem dX7_placeOf_20 : decode cX7_placeOf 20 = .ok (.invokevirtual 54, 3) := by decide +kernel
theorem dX7_placeOf_23 : decode cX7_placeOf 23 = .ok (.iload_n 2, 1) := by decide +kernel
theorem dX7_placeOf_24 : decode cX7_placeOf 24 = .ok (.if_icmp .ne 15, 3) := by decide +kernel
theorem dX7_placeOf_27 : decode cX7_placeOf 27 = .ok (.iinc 4 1, 3) := by decide +kernel
theorem dX7_placeOf_30 : decode cX7_placeOf 30 = .ok (.iload 4, 2) := by decide +kernel
theorem dX7_placeOf_32 : decode cX7_placeOf 32 = .ok (.iload_n 3, 1) := by decide +kernel
theorem dX7_placeOf_33 : decode cX7_placeOf 33 = .ok (.if_icmp .ne 6, 3) := by decide +kernel
theorem dX7_placeOf_36 : decode cX7_placeOf 36 = .ok (.iload 5, 2) := by decide +kernel
theorem dX7_placeOf_38 : decode cX7_placeOf 38 = .ok (.ireturn, 1) := by decide +kernel
theorem dX7_placeOf_39 : decode cX7_placeOf 39 = .ok (.iinc 5 1, 3) := by decide +kernel
theorem dX7_placeOf_42 : decode cX7_placeOf 42 = .ok (.goto (-36), 3) := by decide +kernel
theorem dX7_placeOf_45 : decode cX7_placeOf 45 = .ok (.iconst (-1), 1) := by decide +kernel
theorem dX7_placeOf_46 : decode cX7_placeOf 46 = .ok (.ireturn, 1) := by decide +kernel
theorem dX7_nearest_0 : decode cX7_nearest 0 = .ok (.iconst (-1), 1) := by decide +kernel
theorem dX7_nearest_1 : decode cX7_nearest 1 = .ok (.istore 4, 2) := by decide +kernel
theorem dX7_nearest_3 : decode cX7_nearest 3 = .ok (.iconst 0, 1) := by decide +kernel
theorem dX7_nearest_4 : decode cX7_nearest 4 = .ok (.istore 5, 2) := by decide +kernel
theorem dX7_nearest_6 : decode cX7_nearest 6 = .ok (.iload 5, 2) := by decide +kernel
theorem dX7_nearest_8 : decode cX7_nearest 8 = .ok (.aload_n 0, 1) := by decide +kernel
theorem dX7_nearest_9 : decode cX7_nearest 9 = .ok (.iload_n 1, 1) := by decide +kernel
theorem dX7_nearest_10 : decode cX7_nearest 10 = .ok (.invokevirtual 25, 3) := by decide +kernel
theorem dX7_nearest_13 : decode cX7_nearest 13 = .ok (.if_icmp .ge 47, 3) := by decide +kernel
theorem dX7_nearest_16 : decode cX7_nearest 16 = .ok (.aload_n 0, 1) := by decide +kernel
theorem dX7_nearest_17 : decode cX7_nearest 17 = .ok (.iload_n 1, 1) := by decide +kernel
theorem dX7_nearest_18 : decode cX7_nearest 18 = .ok (.iload 5, 2) := by decide +kernel
theorem dX7_nearest_20 : decode cX7_nearest 20 = .ok (.invokevirtual 54, 3) := by decide +kernel
theorem dX7_nearest_23 : decode cX7_nearest 23 = .ok (.iload_n 2, 1) := by decide +kernel
theorem dX7_nearest_24 : decode cX7_nearest 24 = .ok (.if_icmp .ne 30, 3) := by decide +kernel
theorem dX7_nearest_27 : decode cX7_nearest 27 = .ok (.iload 4, 2) := by decide +kernel
theorem dX7_nearest_29 : decode cX7_nearest 29 = .ok (.iconst (-1), 1) := by decide +kernel
theorem dX7_nearest_30 : decode cX7_nearest 30 = .ok (.if_icmp .eq 20, 3) := by decide +kernel
theorem dX7_nearest_33 : decode cX7_nearest 33 = .ok (.iload 5, 2) := by decide +kernel
theorem dX7_nearest_35 : decode cX7_nearest 35 = .ok (.iload_n 3, 1) := by decide +kernel
theorem dX7_nearest_36 : decode cX7_nearest 36 = .ok (.isub, 1) := by decide +kernel
theorem dX7_nearest_37 : decode cX7_nearest 37 = .ok (.invokestatic 57, 3) := by decide +kernel
theorem dX7_nearest_40 : decode cX7_nearest 40 = .ok (.iload 4, 2) := by decide +kernel
theorem dX7_nearest_42 : decode cX7_nearest 42 = .ok (.iload_n 3, 1) := by decide +kernel
theorem dX7_nearest_43 : decode cX7_nearest 43 = .ok (.isub, 1) := by decide +kernel
theorem dX7_nearest_44 : decode cX7_nearest 44 = .ok (.invokestatic 57, 3) := by decide +kernel
theorem dX7_nearest_47 : decode cX7_nearest 47 = .ok (.if_icmp .ge 7, 3) := by decide +kernel
theorem dX7_nearest_50 : decode cX7_nearest 50 = .ok (.iload 5, 2) := by decide +kernel
theorem dX7_nearest_52 : decode cX7_nearest 52 = .ok (.istore 4, 2) := by decide +kernel
theorem dX7_nearest_54 : decode cX7_nearest 54 = .ok (.iinc 5 1, 3) := by decide +kernel
theorem dX7_nearest_57 : decode cX7_nearest 57 = .ok (.goto (-51), 3) := by decide +kernel
theorem dX7_nearest_60 : decode cX7_nearest 60 = .ok (.iload 4, 2) := by decide +kernel
theorem dX7_nearest_62 : decode cX7_nearest 62 = .ok (.ireturn, 1) := by decide +kernel
theorem dX7_mostLike_0 : decode cX7_mostLike 0 = .ok (.iconst (-1), 1) := by decide +kernel
theorem dX7_mostLike_1 : decode cX7_mostLike 1 = .ok (.istore_n 2, 1) := by decide +kernel
theorem dX7_mostLike_2 : decode cX7_mostLike 2 = .ok (.iconst 0, 1) := by decide +kernel
theorem dX7_mostLike_3 : decode cX7_mostLike 3 = .ok (.istore_n 3, 1) := by decide +kernel
theorem dX7_mostLike_4 : decode cX7_mostLike 4 = .ok (.iconst 0, 1) := by decide +kernel
theorem dX7_mostLike_5 : decode cX7_mostLike 5 = .ok (.istore 4, 2) := by decide +kernel
theorem dX7_mostLike_7 : decode cX7_mostLike 7 = .ok (.iload 4, 2) := by decide +kernel
theorem dX7_mostLike_9 : decode cX7_mostLike 9 = .ok (.aload_n 0, 1) := by decide +kernel
theorem dX7_mostLike_10 : decode cX7_mostLike 10 = .ok (.getfield 21, 3) := by decide +kernel
theorem dX7_mostLike_13 : decode cX7_mostLike 13 = .ok (.if_icmp .ge 30, 3) := by decide +kernel
theorem dX7_mostLike_16 : decode cX7_mostLike 16 = .ok (.aload_n 0, 1) := by decide +kernel
theorem dX7_mostLike_17 : decode cX7_mostLike 17 = .ok (.iload 4, 2) := by decide +kernel
theorem dX7_mostLike_19 : decode cX7_mostLike 19 = .ok (.aload_n 1, 1) := by decide +kernel
theorem dX7_mostLike_20 : decode cX7_mostLike 20 = .ok (.invokevirtual 62, 3) := by decide +kernel
theorem dX7_mostLike_23 : decode cX7_mostLike 23 = .ok (.istore 5, 2) := by decide +kernel
theorem dX7_mostLike_25 : decode cX7_mostLike 25 = .ok (.iload 5, 2) := by decide +kernel
theorem dX7_mostLike_27 : decode cX7_mostLike 27 = .ok (.iload_n 3, 1) := by decide +kernel
theorem dX7_mostLike_28 : decode cX7_mostLike 28 = .ok (.if_icmp .le 9, 3) := by decide +kernel
theorem dX7_mostLike_31 : decode cX7_mostLike 31 = .ok (.iload 5, 2) := by decide +kernel
theorem dX7_mostLike_33 : decode cX7_mostLike 33 = .ok (.istore_n 3, 1) := by decide +kernel
theorem dX7_mostLike_34 : decode cX7_mostLike 34 = .ok (.iload 4, 2) := by decide +kernel
theorem dX7_mostLike_36 : decode cX7_mostLike 36 = .ok (.istore_n 2, 1) := by decide +kernel
theorem dX7_mostLike_37 : decode cX7_mostLike 37 = .ok (.iinc 4 1, 3) := by decide +kernel
theorem dX7_mostLike_40 : decode cX7_mostLike 40 = .ok (.goto (-33), 3) := by decide +kernel
theorem dX7_mostLike_43 : decode cX7_mostLike 43 = .ok (.iload_n 2, 1) := by decide +kernel
theorem dX7_mostLike_44 : decode cX7_mostLike 44 = .ok (.ireturn, 1) := by decide +kernel
theorem dX7_likeness_0 : decode cX7_likeness 0 = .ok (.aload_n 0, 1) := by decide +kernel
theorem dX7_likeness_1 : decode cX7_likeness 1 = .ok (.getfield 18, 3) := by decide +kernel
theorem dX7_likeness_4 : decode cX7_likeness 4 = .ok (.iconst 0, 1) := by decide +kernel
theorem dX7_likeness_5 : decode cX7_likeness 5 = .ok (.invokestatic 66, 3) := by decide +kernel
theorem dX7_likeness_8 : decode cX7_likeness 8 = .ok (.iconst 0, 1) := by decide +kernel
theorem dX7_likeness_9 : decode cX7_likeness 9 = .ok (.istore_n 3, 1) := by decide +kernel
theorem dX7_likeness_10 : decode cX7_likeness 10 = .ok (.iload_n 3, 1) := by decide +kernel
theorem dX7_likeness_11 : decode cX7_likeness 11 = .ok (.aload_n 0, 1) := by decide +kernel
theorem dX7_likeness_12 : decode cX7_likeness 12 = .ok (.iload_n 1, 1) := by decide +kernel
theorem dX7_likeness_13 : decode cX7_likeness 13 = .ok (.invokevirtual 25, 3) := by decide +kernel
theorem dX7_likeness_16 : decode cX7_likeness 16 = .ok (.if_icmp .ge 102, 3) := by decide +kernel
theorem dX7_likeness_19 : decode cX7_likeness 19 = .ok (.aload_n 0, 1) := by decide +kernel
theorem dX7_likeness_20 : decode cX7_likeness 20 = .ok (.iload_n 1, 1) := by decide +kernel
theorem dX7_likeness_21 : decode cX7_likeness 21 = .ok (.iload_n 3, 1) := by decide +kernel
theorem dX7_likeness_22 : decode cX7_likeness 22 = .ok (.invokevirtual 54, 3) := by decide +kernel
theorem dX7_likeness_25 : decode cX7_likeness 25 = .ok (.istore 4, 2) := by decide +kernel
theorem dX7_likeness_27 : decode cX7_likeness 27 = .ok (.iconst 0, 1) := by decide +kernel
theorem dX7_likeness_28 : decode cX7_likeness 28 = .ok (.istore 5, 2) := by decide +kernel
theorem dX7_likeness_30 : decode cX7_likeness 30 = .ok (.iconst 1, 1) := by decide +kernel
theorem dX7_likeness_31 : decode cX7_likeness 31 = .ok (.istore 6, 2) := by decide +kernel
theorem dX7_likeness_33 : decode cX7_likeness 33 = .ok (.iload 6, 2) := by decide +kernel
theorem dX7_likeness_35 : decode cX7_likeness 35 = .ok (.aload_n 2, 1) := by decide +kernel
theorem dX7_likeness_36 : decode cX7_likeness 36 = .ok (.invokevirtual 41, 3) := by decide +kernel
theorem dX7_likeness_39 : decode cX7_likeness 39 = .ok (.if_icmp .gt 73, 3) := by decide +kernel
theorem dX7_likeness_42 : decode cX7_likeness 42 = .ok (.iload 6, 2) := by decide +kernel
theorem dX7_likeness_44 : decode cX7_likeness 44 = .ok (.aload_n 0, 1) := by decide +kernel
theorem dX7_likeness_45 : decode cX7_likeness 45 = .ok (.getfield 18, 3) := by decide +kernel
theorem dX7_likeness_48 : decode cX7_likeness 48 = .ok (.arraylength, 1) := by decide +kernel
theorem dX7_likeness_49 : decode cX7_likeness 49 = .ok (.if_icmp .ge 63, 3) := by decide +kernel
theorem dX7_likeness_52 : decode cX7_likeness 52 = .ok (.aload_n 0, 1) := by decide +kernel
theorem dX7_likeness_53 : decode cX7_likeness 53 = .ok (.getfield 18, 3) := by decide +kernel
theorem dX7_likeness_56 : decode cX7_likeness 56 = .ok (.iload 6, 2) := by decide +kernel
theorem dX7_likeness_58 : decode cX7_likeness 58 = .ok (.iaload, 1) := by decide +kernel
theorem dX7_likeness_59 : decode cX7_likeness 59 = .ok (.istore 7, 2) := by decide +kernel
theorem dX7_likeness_61 : decode cX7_likeness 61 = .ok (.aload_n 0, 1) := by decide +kernel
theorem dX7_likeness_62 : decode cX7_likeness 62 = .ok (.getfield 18, 3) := by decide +kernel
theorem dX7_likeness_65 : decode cX7_likeness 65 = .ok (.iload 6, 2) := by decide +kernel
theorem dX7_likeness_67 : decode cX7_likeness 67 = .ok (.aload_n 2, 1) := by decide +kernel
theorem dX7_likeness_68 : decode cX7_likeness 68 = .ok (.iload 6, 2) := by decide +kernel
theorem dX7_likeness_70 : decode cX7_likeness 70 = .ok (.iconst 1, 1) := by decide +kernel
theorem dX7_likeness_71 : decode cX7_likeness 71 = .ok (.isub, 1) := by decide +kernel
theorem dX7_likeness_72 : decode cX7_likeness 72 = .ok (.invokevirtual 47, 3) := by decide +kernel
theorem dX7_likeness_75 : decode cX7_likeness 75 = .ok (.iload 4, 2) := by decide +kernel
theorem dX7_likeness_77 : decode cX7_likeness 77 = .ok (.if_icmp .ne 10, 3) := by decide +kernel
theorem dX7_likeness_80 : decode cX7_likeness 80 = .ok (.iload 5, 2) := by decide +kernel
theorem dX7_likeness_82 : decode cX7_likeness 82 = .ok (.iconst 1, 1) := by decide +kernel
theorem dX7_likeness_83 : decode cX7_likeness 83 = .ok (.iadd, 1) := by decide +kernel
theorem dX7_likeness_84 : decode cX7_likeness 84 = .ok (.goto 17, 3) := by decide +kernel
theorem dX7_likeness_87 : decode cX7_likeness 87 = .ok (.iload 7, 2) := by decide +kernel
theorem dX7_likeness_89 : decode cX7_likeness 89 = .ok (.aload_n 0, 1) := by decide +kernel
theorem dX7_likeness_90 : decode cX7_likeness 90 = .ok (.getfield 18, 3) := by decide +kernel
theorem dX7_likeness_93 : decode cX7_likeness 93 = .ok (.iload 6, 2) := by decide +kernel
theorem dX7_likeness_95 : decode cX7_likeness 95 = .ok (.iconst 1, 1) := by decide +kernel
theorem dX7_likeness_96 : decode cX7_likeness 96 = .ok (.isub, 1) := by decide +kernel
theorem dX7_likeness_97 : decode cX7_likeness 97 = .ok (.iaload, 1) := by decide +kernel
theorem dX7_likeness_98 : decode cX7_likeness 98 = .ok (.invokestatic 72, 3) := by decide +kernel
theorem dX7_likeness_101 : decode cX7_likeness 101 = .ok (.iastore, 1) := by decide +kernel
theorem dX7_likeness_102 : decode cX7_likeness 102 = .ok (.iload 7, 2) := by decide +kernel
theorem dX7_likeness_104 : decode cX7_likeness 104 = .ok (.istore 5, 2) := by decide +kernel
theorem dX7_likeness_106 : decode cX7_likeness 106 = .ok (.iinc 6 1, 3) := by decide +kernel
theorem dX7_likeness_109 : decode cX7_likeness 109 = .ok (.goto (-76), 3) := by decide +kernel
theorem dX7_likeness_112 : decode cX7_likeness 112 = .ok (.iinc 3 1, 3) := by decide +kernel
theorem dX7_likeness_115 : decode cX7_likeness 115 = .ok (.goto (-105), 3) := by decide +kernel
theorem dX7_likeness_118 : decode cX7_likeness 118 = .ok (.aload_n 0, 1) := by decide +kernel
theorem dX7_likeness_119 : decode cX7_likeness 119 = .ok (.getfield 18, 3) := by decide +kernel
theorem dX7_likeness_122 : decode cX7_likeness 122 = .ok (.aload_n 2, 1) := by decide +kernel
theorem dX7_likeness_123 : decode cX7_likeness 123 = .ok (.invokevirtual 41, 3) := by decide +kernel
theorem dX7_likeness_126 : decode cX7_likeness 126 = .ok (.invokestatic 75, 3) := by decide +kernel
theorem dX7_likeness_129 : decode cX7_likeness 129 = .ok (.ireturn, 1) := by decide +kernel
theorem dX8_init_0 : decode cX8_init 0 = .ok (.aload_n 0, 1) := by decide +kernel
theorem dX8_init_1 : decode cX8_init 1 = .ok (.invokespecial 3, 3) := by decide +kernel
theorem dX8_init_4 : decode cX8_init 4 = .ok (.aload_n 0, 1) := by decide +kernel
theorem dX8_init_5 : decode cX8_init 5 = .ok (.new 9, 3) := by decide +kernel
theorem dX8_init_8 : decode cX8_init 8 = .ok (.dup, 1) := by decide +kernel
theorem dX8_init_9 : decode cX8_init 9 = .ok (.invokespecial 11, 3) := by decide +kernel
theorem dX8_init_12 : decode cX8_init 12 = .ok (.putfield 12, 3) := by decide +kernel
theorem dX8_init_15 : decode cX8_init 15 = .ok (.aload_n 0, 1) := by decide +kernel
theorem dX8_init_16 : decode cX8_init 16 = .ok (.new 16, 3) := by decide +kernel
theorem dX8_init_19 : decode cX8_init 19 = .ok (.dup, 1) := by decide +kernel
theorem dX8_init_20 : decode cX8_init 20 = .ok (.invokespecial 18, 3) := by decide +kernel
theorem dX8_init_23 : decode cX8_init 23 = .ok (.putfield 19, 3) := by decide +kernel
theorem dX8_init_26 : decode cX8_init 26 = .ok (.aload_n 0, 1) := by decide +kernel
theorem dX8_init_27 : decode cX8_init 27 = .ok (.new 23, 3) := by decide +kernel
theorem dX8_init_30 : decode cX8_init 30 = .ok (.dup, 1) := by decide +kernel
theorem dX8_init_31 : decode cX8_init 31 = .ok (.invokespecial 25, 3) := by decide +kernel
theorem dX8_init_34 : decode cX8_init 34 = .ok (.putfield 26, 3) := by decide +kernel
theorem dX8_init_37 : decode cX8_init 37 = .ok (.aload_n 0, 1) := by decide +kernel
theorem dX8_init_38 : decode cX8_init 38 = .ok (.new 30, 3) := by decide +kernel
theorem dX8_init_41 : decode cX8_init 41 = .ok (.dup, 1) := by decide +kernel
theorem dX8_init_42 : decode cX8_init 42 = .ok (.invokespecial 32, 3) := by decide +kernel
theorem dX8_init_45 : decode cX8_init 45 = .ok (.putfield 33, 3) := by decide +kernel
theorem dX8_init_48 : decode cX8_init 48 = .ok (.aload_n 0, 1) := by decide +kernel
theorem dX8_init_49 : decode cX8_init 49 = .ok (.new 37, 3) := by decide +kernel
theorem dX8_init_52 : decode cX8_init 52 = .ok (.dup, 1) := by decide +kernel
theorem dX8_init_53 : decode cX8_init 53 = .ok (.invokespecial 39, 3) := by decide +kernel
theorem dX8_init_56 : decode cX8_init 56 = .ok (.putfield 40, 3) := by decide +kernel
theorem dX8_init_59 : decode cX8_init 59 = .ok (.aload_n 0, 1) := by decide +kernel
theorem dX8_init_60 : decode cX8_init 60 = .ok (.new 44, 3) := by decide +kernel
theorem dX8_init_63 : decode cX8_init 63 = .ok (.dup, 1) := by decide +kernel
theorem dX8_init_64 : decode cX8_init 64 = .ok (.invokespecial 46, 3) := by decide +kernel
theorem dX8_init_67 : decode cX8_init 67 = .ok (.putfield 47, 3) := by decide +kernel
theorem dX8_init_70 : decode cX8_init 70 = .ok (.aload_n 0, 1) := by decide +kernel
theorem dX8_init_71 : decode cX8_init 71 = .ok (.new 51, 3) := by decide +kernel
theorem dX8_init_74 : decode cX8_init 74 = .ok (.dup, 1) := by decide +kernel
theorem dX8_init_75 : decode cX8_init 75 = .ok (.invokespecial 53, 3) := by decide +kernel
theorem dX8_init_78 : decode cX8_init 78 = .ok (.putfield 54, 3) := by decide +kernel
theorem dX8_init_81 : decode cX8_init 81 = .ok (.return_, 1) := by decide +kernel
theorem dX8_word_0 : decode cX8_word 0 = .ok (.iload_n 1, 1) := by decide +kernel
theorem dX8_word_1 : decode cX8_word 1 = .ok (.iconst 0, 1) := by decide +kernel
theorem dX8_word_2 : decode cX8_word 2 = .ok (.bipush 59, 2) := by decide +kernel
theorem dX8_word_4 : decode cX8_word 4 = .ok (.invokestatic 58, 3) := by decide +kernel
theorem dX8_word_7 : decode cX8_word 7 = .ok (.aload_n 0, 1) := by decide +kernel
theorem dX8_word_8 : decode cX8_word 8 = .ok (.getfield 12, 3) := by decide +kernel
theorem dX8_word_11 : decode cX8_word 11 = .ok (.invokevirtual 62, 3) := by decide +kernel
theorem dX8_word_14 : decode cX8_word 14 = .ok (.ifCond .eq 13, 3) := by decide +kernel
theorem dX8_word_17 : decode cX8_word 17 = .ok (.new 66, 3) := by decide +kernel
theorem dX8_word_20 : decode cX8_word 20 = .ok (.dup, 1) := by decide +kernel
theorem dX8_word_21 : decode cX8_word 21 = .ok (.ldc 68, 2) := by decide +kernel
theorem dX8_word_23 : decode cX8_word 23 = .ok (.invokespecial 70, 3) := by decide +kernel
theorem dX8_word_26 : decode cX8_word 26 = .ok (.athrow, 1) := by decide +kernel
theorem dX8_word_27 : decode cX8_word 27 = .ok (.aload_n 0, 1) := by decide +kernel
theorem dX8_word_28 : decode cX8_word 28 = .ok (.getfield 12, 3) := by decide +kernel
theorem dX8_word_31 : decode cX8_word 31 = .ok (.iload_n 1, 1) := by decide +kernel
theorem dX8_word_32 : decode cX8_word 32 = .ok (.invokevirtual 73, 3) := by decide +kernel
theorem dX8_word_35 : decode cX8_word 35 = .ok (.aload_n 0, 1) := by decide +kernel
theorem dX8_word_36 : decode cX8_word 36 = .ok (.getfield 12, 3) := by decide +kernel
theorem dX8_word_39 : decode cX8_word 39 = .ok (.invokevirtual 77, 3) := by decide +kernel
theorem dX8_word_42 : decode cX8_word 42 = .ok (.ireturn, 1) := by decide +kernel
theorem dX8_wipe_0 : decode cX8_wipe 0 = .ok (.aload_n 0, 1) := by decide +kernel
theorem dX8_wipe_1 : decode cX8_wipe 1 = .ok (.getfield 12, 3) := by decide +kernel
theorem dX8_wipe_4 : decode cX8_wipe 4 = .ok (.invokevirtual 77, 3) := by decide +kernel
theorem dX8_wipe_7 : decode cX8_wipe 7 = .ok (.istore_n 1, 1) := by decide +kernel
theorem dX8_wipe_8 : decode cX8_wipe 8 = .ok (.aload_n 0, 1) := by decide +kernel
theorem dX8_wipe_9 : decode cX8_wipe 9 = .ok (.getfield 12, 3) := by decide +kernel
theorem dX8_wipe_12 : decode cX8_wipe 12 = .ok (.invokevirtual 81, 3) := by decide +kernel
theorem dX8_wipe_15 : decode cX8_wipe 15 = .ok (.iload_n 1, 1) := by decide +kernel
theorem dX8_wipe_16 : decode cX8_wipe 16 = .ok (.ireturn, 1) := by decide +kernel
theorem dX8_unit_0 : decode cX8_unit 0 = .ok (.aload_n 0, 1) := by decide +kernel
theorem dX8_unit_1 : decode cX8_unit 1 = .ok (.getfield 12, 3) := by decide +kernel
theorem dX8_unit_4 : decode cX8_unit 4 = .ok (.invokevirtual 77, 3) := by decide +kernel
theorem dX8_unit_7 : decode cX8_unit 7 = .ok (.ifCond .ne 13, 3) := by decide +kernel
theorem dX8_unit_10 : decode cX8_unit 10 = .ok (.new 66, 3) := by decide +kernel
theorem dX8_unit_13 : decode cX8_unit 13 = .ok (.dup, 1) := by decide +kernel
theorem dX8_unit_14 : decode cX8_unit 14 = .ok (.ldc 84, 2) := by decide +kernel
theorem dX8_unit_16 : decode cX8_unit 16 = .ok (.invokespecial 70, 3) := by decide +kernel
theorem dX8_unit_19 : decode cX8_unit 19 = .ok (.athrow, 1) := by decide +kernel
theorem dX8_unit_20 : decode cX8_unit 20 = .ok (.aload_n 0, 1) := by decide +kernel
theorem dX8_unit_21 : decode cX8_unit 21 = .ok (.getfield 19, 3) := by decide +kernel
theorem dX8_unit_24 : decode cX8_unit 24 = .ok (.invokevirtual 86, 3) := by decide +kernel
theorem dX8_unit_27 : decode cX8_unit 27 = .ok (.ifCond .eq 13, 3) := by decide +kernel
theorem dX8_unit_30 : decode cX8_unit 30 = .ok (.new 66, 3) := by decide +kernel
theorem dX8_unit_33 : decode cX8_unit 33 = .ok (.dup, 1) := by decide +kernel
theorem dX8_unit_34 : decode cX8_unit 34 = .ok (.ldc 87, 2) := by decide +kernel
theorem dX8_unit_36 : decode cX8_unit 36 = .ok (.invokespecial 70, 3) := by decide +kernel
theorem dX8_unit_39 : decode cX8_unit 39 = .ok (.athrow, 1) := by decide +kernel
theorem dX8_unit_40 : decode cX8_unit 40 = .ok (.aload_n 0, 1) := by decide +kernel
theorem dX8_unit_41 : decode cX8_unit 41 = .ok (.getfield 19, 3) := by decide +kernel
theorem dX8_unit_44 : decode cX8_unit 44 = .ok (.aload_n 0, 1) := by decide +kernel
theorem dX8_unit_45 : decode cX8_unit 45 = .ok (.getfield 12, 3) := by decide +kernel
theorem dX8_unit_48 : decode cX8_unit 48 = .ok (.invokevirtual 89, 3) := by decide +kernel
theorem dX8_unit_51 : decode cX8_unit 51 = .ok (.aload_n 0, 1) := by decide +kernel
theorem dX8_unit_52 : decode cX8_unit 52 = .ok (.getfield 12, 3) := by decide +kernel
theorem dX8_unit_55 : decode cX8_unit 55 = .ok (.invokevirtual 81, 3) := by decide +kernel
theorem dX8_unit_58 : decode cX8_unit 58 = .ok (.aload_n 0, 1) := by decide +kernel
theorem dX8_unit_59 : decode cX8_unit 59 = .ok (.getfield 19, 3) := by decide +kernel
theorem dX8_unit_62 : decode cX8_unit 62 = .ok (.invokevirtual 92, 3) := by decide +kernel
theorem dX8_unit_65 : decode cX8_unit 65 = .ok (.iconst 1, 1) := by decide +kernel
theorem dX8_unit_66 : decode cX8_unit 66 = .ok (.isub, 1) := by decide +kernel
theorem dX8_unit_67 : decode cX8_unit 67 = .ok (.ireturn, 1) := by decide +kernel
theorem dX8_emend_0 : decode cX8_emend 0 = .ok (.aload_n 0, 1) := by decide +kernel
theorem dX8_emend_1 : decode cX8_emend 1 = .ok (.getfield 19, 3) := by decide +kernel
theorem dX8_emend_4 : decode cX8_emend 4 = .ok (.iload_n 1, 1) := by decide +kernel
theorem dX8_emend_5 : decode cX8_emend 5 = .ok (.iload_n 2, 1) := by decide +kernel
theorem dX8_emend_6 : decode cX8_emend 6 = .ok (.invokevirtual 95, 3) := by decide +kernel
theorem dX8_emend_9 : decode cX8_emend 9 = .ok (.ifCond .ne 13, 3) := by decide +kernel
theorem dX8_emend_12 : decode cX8_emend 12 = .ok (.new 99, 3) := by decide +kernel
theorem dX8_emend_15 : decode cX8_emend 15 = .ok (.dup, 1) := by decide +kernel
theorem dX8_emend_16 : decode cX8_emend 16 = .ok (.ldc 101, 2) := by decide +kernel
theorem dX8_emend_18 : decode cX8_emend 18 = .ok (.invokespecial 103, 3) := by decide +kernel
theorem dX8_emend_21 : decode cX8_emend 21 = .ok (.athrow, 1) := by decide +kernel
theorem dX8_emend_22 : decode cX8_emend 22 = .ok (.iload_n 3, 1) := by decide +kernel
theorem dX8_emend_23 : decode cX8_emend 23 = .ok (.iconst (-1), 1) := by decide +kernel
theorem dX8_emend_24 : decode cX8_emend 24 = .ok (.bipush 59, 2) := by decide +kernel
theorem dX8_emend_26 : decode cX8_emend 26 = .ok (.invokestatic 58, 3) := by decide +kernel
theorem dX8_emend_29 : decode cX8_emend 29 = .ok (.iload_n 3, 1) := by decide +kernel
theorem dX8_emend_30 : decode cX8_emend 30 = .ok (.iconst (-1), 1) := by decide +kernel
theorem dX8_emend_31 : decode cX8_emend 31 = .ok (.if_icmp .eq 26, 3) := by decide +kernel
theorem dX8_emend_34 : decode cX8_emend 34 = .ok (.aload_n 0, 1) := by decide +kernel
theorem dX8_emend_35 : decode cX8_emend 35 = .ok (.getfield 19, 3) := by decide +kernel
theorem dX8_emend_38 : decode cX8_emend 38 = .ok (.iload_n 1, 1) := by decide +kernel
theorem dX8_emend_39 : decode cX8_emend 39 = .ok (.iload_n 2, 1) := by decide +kernel
theorem dX8_emend_40 : decode cX8_emend 40 = .ok (.iload_n 3, 1) := by decide +kernel
theorem dX8_emend_41 : decode cX8_emend 41 = .ok (.invokevirtual 104, 3) := by decide +kernel
theorem dX8_emend_44 : decode cX8_emend 44 = .ok (.aload_n 0, 1) := by decide +kernel
theorem dX8_emend_45 : decode cX8_emend 45 = .ok (.getfield 33, 3) := by decide +kernel
theorem dX8_emend_48 : decode cX8_emend 48 = .ok (.iload_n 1, 1) := by decide +kernel
theorem dX8_emend_49 : decode cX8_emend 49 = .ok (.aload_n 0, 1) := by decide +kernel
theorem dX8_emend_50 : decode cX8_emend 50 = .ok (.getfield 19, 3) := by decide +kernel
theorem dX8_emend_53 : decode cX8_emend 53 = .ok (.invokevirtual 107, 3) := by decide +kernel
theorem dX8_emend_56 : decode cX8_emend 56 = .ok (.ireturn, 1) := by decide +kernel
theorem dX8_emend_57 : decode cX8_emend 57 = .ok (.aload_n 0, 1) := by decide +kernel
theorem dX8_emend_58 : decode cX8_emend 58 = .ok (.getfield 19, 3) := by decide +kernel
theorem dX8_emend_61 : decode cX8_emend 61 = .ok (.iload_n 1, 1) := by decide +kernel
theorem dX8_emend_62 : decode cX8_emend 62 = .ok (.invokevirtual 111, 3) := by decide +kernel
theorem dX8_emend_65 : decode cX8_emend 65 = .ok (.iconst 1, 1) := by decide +kernel
theorem dX8_emend_66 : decode cX8_emend 66 = .ok (.if_icmp .gt 13, 3) := by decide +kernel
theorem dX8_emend_69 : decode cX8_emend 69 = .ok (.new 66, 3) := by decide +kernel
theorem dX8_emend_72 : decode cX8_emend 72 = .ok (.dup, 1) := by decide +kernel
theorem dX8_emend_73 : decode cX8_emend 73 = .ok (.ldc 115, 2) := by decide +kernel
theorem dX8_emend_75 : decode cX8_emend 75 = .ok (.invokespecial 70, 3) := by decide +kernel
theorem dX8_emend_78 : decode cX8_emend 78 = .ok (.athrow, 1) := by decide +kernel
theorem dX8_emend_79 : decode cX8_emend 79 = .ok (.aload_n 0, 1) := by decide +kernel
theorem dX8_emend_80 : decode cX8_emend 80 = .ok (.getfield 19, 3) := by decide +kernel
theorem dX8_emend_83 : decode cX8_emend 83 = .ok (.iload_n 1, 1) := by decide +kernel
theorem dX8_emend_84 : decode cX8_emend 84 = .ok (.iload_n 2, 1) := by decide +kernel
theorem dX8_emend_85 : decode cX8_emend 85 = .ok (.invokevirtual 117, 3) := by decide +kernel
theorem dX8_emend_88 : decode cX8_emend 88 = .ok (.aload_n 0, 1) := by decide +kernel
theorem dX8_emend_89 : decode cX8_emend 89 = .ok (.getfield 33, 3) := by decide +kernel
theorem dX8_emend_92 : decode cX8_emend 92 = .ok (.iload_n 1, 1) := by decide +kernel
theorem dX8_emend_93 : decode cX8_emend 93 = .ok (.iload_n 2, 1) := by decide +kernel
theorem dX8_emend_94 : decode cX8_emend 94 = .ok (.aload_n 0, 1) := by decide +kernel
theorem dX8_emend_95 : decode cX8_emend 95 = .ok (.getfield 19, 3) := by decide +kernel
theorem dX8_emend_98 : decode cX8_emend 98 = .ok (.iload_n 1, 1) := by decide +kernel
theorem dX8_emend_99 : decode cX8_emend 99 = .ok (.invokevirtual 111, 3) := by decide +kernel
theorem dX8_emend_102 : decode cX8_emend 102 = .ok (.iconst 1, 1) := by decide +kernel
theorem dX8_emend_103 : decode cX8_emend 103 = .ok (.isub, 1) := by decide +kernel
theorem dX8_emend_104 : decode cX8_emend 104 = .ok (.invokevirtual 121, 3) := by decide +kernel
theorem dX8_emend_107 : decode cX8_emend 107 = .ok (.aload_n 0, 1) := by decide +kernel
theorem dX8_emend_108 : decode cX8_emend 108 = .ok (.getfield 33, 3) := by decide +kernel
theorem dX8_emend_111 : decode cX8_emend 111 = .ok (.iload_n 1, 1) := by decide +kernel
theorem dX8_emend_112 : decode cX8_emend 112 = .ok (.aload_n 0, 1) := by decide +kernel
theorem dX8_emend_113 : decode cX8_emend 113 = .ok (.getfield 19, 3) := by decide +kernel
theorem dX8_emend_116 : decode cX8_emend 116 = .ok (.invokevirtual 107, 3) := by decide +kernel
theorem dX8_emend_119 : decode cX8_emend 119 = .ok (.ireturn, 1) := by decide +kernel
theorem dX8_textOf_0 : decode cX8_textOf 0 = .ok (.aload_n 0, 1) := by decide +kernel
theorem dX8_textOf_1 : decode cX8_textOf 1 = .ok (.iload_n 1, 1) := by decide +kernel
theorem dX8_textOf_2 : decode cX8_textOf 2 = .ok (.invokevirtual 124, 3) := by decide +kernel
theorem dX8_textOf_5 : decode cX8_textOf 5 = .ok (.iload_n 2, 1) := by decide +kernel
theorem dX8_textOf_6 : decode cX8_textOf 6 = .ok (.ifCond .ge 13, 3) := by decide +kernel
theorem dX8_textOf_9 : decode cX8_textOf 9 = .ok (.new 99, 3) := by decide +kernel
theorem dX8_textOf_12 : decode cX8_textOf 12 = .ok (.dup, 1) := by decide +kernel
theorem dX8_textOf_13 : decode cX8_textOf 13 = .ok (.ldc 127, 2) := by decide +kernel
theorem dX8_textOf_15 : decode cX8_textOf 15 = .ok (.invokespecial 103, 3) := by decide +kernel
theorem dX8_textOf_18 : decode cX8_textOf 18 = .ok (.athrow, 1) := by decide +kernel
theorem dX8_textOf_19 : decode cX8_textOf 19 = .ok (.aload_n 0, 1) := by decide +kernel
theorem dX8_textOf_20 : decode cX8_textOf 20 = .ok (.getfield 19, 3) := by decide +kernel
theorem dX8_textOf_23 : decode cX8_textOf 23 = .ok (.iload_n 1, 1) := by decide +kernel
theorem dX8_textOf_24 : decode cX8_textOf 24 = .ok (.iload_n 2, 1) := by decide +kernel
theorem dX8_textOf_25 : decode cX8_textOf 25 = .ok (.invokevirtual 129, 3) := by decide +kernel
theorem dX8_textOf_28 : decode cX8_textOf 28 = .ok (.ireturn, 1) := by decide +kernel
theorem dX8_author_0 : decode cX8_author 0 = .ok (.iload_n 1, 1) := by decide +kernel
theorem dX8_author_1 : decode cX8_author 1 = .ok (.iconst 0, 1) := by decide +kernel
theorem dX8_author_2 : decode cX8_author 2 = .ok (.sipush 2000, 3) := by decide +kernel
theorem dX8_author_5 : decode cX8_author 5 = .ok (.invokestatic 58, 3) := by decide +kernel
theorem dX8_author_8 : decode cX8_author 8 = .ok (.iload_n 2, 1) := by decide +kernel
theorem dX8_author_9 : decode cX8_author 9 = .ok (.iconst 0, 1) := by decide +kernel
theorem dX8_author_10 : decode cX8_author 10 = .ok (.iconst 3, 1) := by decide +kernel
theorem dX8_author_11 : decode cX8_author 11 = .ok (.invokestatic 58, 3) := by decide +kernel
theorem dX8_author_14 : decode cX8_author 14 = .ok (.iload_n 3, 1) := by decide +kernel
theorem dX8_author_15 : decode cX8_author 15 = .ok (.iconst 0, 1) := by decide +kernel
theorem dX8_author_16 : decode cX8_author 16 = .ok (.bipush 99, 2) := by decide +kernel
theorem dX8_author_18 : decode cX8_author 18 = .ok (.invokestatic 58, 3) := by decide +kernel
theorem dX8_author_21 : decode cX8_author 21 = .ok (.aload_n 0, 1) := by decide +kernel
theorem dX8_author_22 : decode cX8_author 22 = .ok (.getfield 26, 3) := by decide +kernel
theorem dX8_author_25 : decode cX8_author 25 = .ok (.invokevirtual 133, 3) := by decide +kernel
theorem dX8_author_28 : decode cX8_author 28 = .ok (.ifCond .eq 13, 3) := by decide +kernel
theorem dX8_author_31 : decode cX8_author 31 = .ok (.new 66, 3) := by decide +kernel
theorem dX8_author_34 : decode cX8_author 34 = .ok (.dup, 1) := by decide +kernel
theorem dX8_author_35 : decode cX8_author 35 = .ok (.ldc 134, 2) := by decide +kernel
theorem dX8_author_37 : decode cX8_author 37 = .ok (.invokespecial 70, 3) := by decide +kernel
theorem dX8_author_40 : decode cX8_author 40 = .ok (.athrow, 1) := by decide +kernel
theorem dX8_author_41 : decode cX8_author 41 = .ok (.aload_n 0, 1) := by decide +kernel
theorem dX8_author_42 : decode cX8_author 42 = .ok (.getfield 26, 3) := by decide +kernel
theorem dX8_author_45 : decode cX8_author 45 = .ok (.iload_n 1, 1) := by decide +kernel
theorem dX8_author_46 : decode cX8_author 46 = .ok (.iload_n 2, 1) := by decide +kernel
theorem dX8_author_47 : decode cX8_author 47 = .ok (.iload_n 3, 1) := by decide +kernel
theorem dX8_author_48 : decode cX8_author 48 = .ok (.invokevirtual 136, 3) := by decide +kernel
theorem dX8_author_51 : decode cX8_author 51 = .ok (.aload_n 0, 1) := by decide +kernel
theorem dX8_author_52 : decode cX8_author 52 = .ok (.getfield 26, 3) := by decide +kernel
theorem dX8_author_55 : decode cX8_author 55 = .ok (.invokevirtual 138, 3) := by decide +kernel
theorem dX8_author_58 : decode cX8_author 58 = .ok (.iconst 1, 1) := by decide +kernel
theorem dX8_author_59 : decode cX8_author 59 = .ok (.isub, 1) := by decide +kernel
theorem dX8_author_60 : decode cX8_author 60 = .ok (.ireturn, 1) := by decide +kernel
theorem dX8_meant_0 : decode cX8_meant 0 = .ok (.iload_n 1, 1) := by decide +kernel
theorem dX8_meant_1 : decode cX8_meant 1 = .ok (.iconst 0, 1) := by decide +kernel
theorem dX8_meant_2 : decode cX8_meant 2 = .ok (.bipush 99, 2) := by decide +kernel
theorem dX8_meant_4 : decode cX8_meant 4 = .ok (.invokestatic 58, 3) := by decide +kernel
theorem dX8_meant_7 : decode cX8_meant 7 = .ok (.iload_n 2, 1) := by decide +kernel
theorem dX8_meant_8 : decode cX8_meant 8 = .ok (.iconst 0, 1) := by decide +kernel
theorem dX8_meant_9 : decode cX8_meant 9 = .ok (.sipush 2000, 3) := by decide +kernel
theorem dX8_meant_12 : decode cX8_meant 12 = .ok (.invokestatic 58, 3) := by decide +kernel
theorem dX8_meant_15 : decode cX8_meant 15 = .ok (.aload_n 0, 1) := by decide +kernel
theorem dX8_meant_16 : decode cX8_meant 16 = .ok (.getfield 26, 3) := by decide +kernel
theorem dX8_meant_19 : decode cX8_meant 19 = .ok (.iload_n 1, 1) := by decide +kernel
theorem dX8_meant_20 : decode cX8_meant 20 = .ok (.iload_n 2, 1) := by decide +kernel
theorem dX8_meant_21 : decode cX8_meant 21 = .ok (.invokevirtual 139, 3) := by decide +kernel
theorem dX8_meant_24 : decode cX8_meant 24 = .ok (.ireturn, 1) := by decide +kernel
theorem dX8_comment_0 : decode cX8_comment 0 = .ok (.aload_n 0, 1) := by decide +kernel
theorem dX8_comment_1 : decode cX8_comment 1 = .ok (.iload_n 1, 1) := by decide +kernel
theorem dX8_comment_2 : decode cX8_comment 2 = .ok (.invokevirtual 142, 3) := by decide +kernel
theorem dX8_comment_5 : decode cX8_comment 5 = .ok (.aload_n 0, 1) := by decide +kernel
theorem dX8_comment_6 : decode cX8_comment 6 = .ok (.iload_n 2, 1) := by decide +kernel
theorem dX8_comment_7 : decode cX8_comment 7 = .ok (.invokevirtual 124, 3) := by decide +kernel
theorem dX8_comment_10 : decode cX8_comment 10 = .ok (.iload_n 3, 1) := by decide +kernel
theorem dX8_comment_11 : decode cX8_comment 11 = .ok (.iconst 0, 1) := by decide +kernel
theorem dX8_comment_12 : decode cX8_comment 12 = .ok (.iconst 4, 1) := by decide +kernel
theorem dX8_comment_13 : decode cX8_comment 13 = .ok (.invokestatic 58, 3) := by decide +kernel
theorem dX8_comment_16 : decode cX8_comment 16 = .ok (.iload 4, 2) := by decide +kernel
theorem dX8_comment_18 : decode cX8_comment 18 = .ok (.iconst 0, 1) := by decide +kernel
theorem dX8_comment_19 : decode cX8_comment 19 = .ok (.bipush 59, 2) := by decide +kernel
theorem dX8_comment_21 : decode cX8_comment 21 = .ok (.invokestatic 58, 3) := by decide +kernel
theorem dX8_comment_24 : decode cX8_comment 24 = .ok (.iload 5, 2) := by decide +kernel
theorem dX8_comment_26 : decode cX8_comment 26 = .ok (.iconst 1, 1) := by decide +kernel
theorem dX8_comment_27 : decode cX8_comment 27 = .ok (.bipush 12, 2) := by decide +kernel
theorem dX8_comment_29 : decode cX8_comment 29 = .ok (.invokestatic 58, 3) := by decide +kernel
theorem dX8_comment_32 : decode cX8_comment 32 = .ok (.iload 6, 2) := by decide +kernel
theorem dX8_comment_34 : decode cX8_comment 34 = .ok (.iconst 1, 1) := by decide +kernel
theorem dX8_comment_35 : decode cX8_comment 35 = .ok (.bipush 9, 2) := by decide +kernel
theorem dX8_comment_37 : decode cX8_comment 37 = .ok (.invokestatic 58, 3) := by decide +kernel
theorem dX8_comment_40 : decode cX8_comment 40 = .ok (.iload 7, 2) := by decide +kernel
theorem dX8_comment_42 : decode cX8_comment 42 = .ok (.iconst 0, 1) := by decide +kernel
theorem dX8_comment_43 : decode cX8_comment 43 = .ok (.iconst 1, 1) := by decide +kernel
theorem dX8_comment_44 : decode cX8_comment 44 = .ok (.invokestatic 58, 3) := by decide +kernel
theorem dX8_comment_47 : decode cX8_comment 47 = .ok (.aload_n 0, 1) := by decide +kernel
theorem dX8_comment_48 : decode cX8_comment 48 = .ok (.invokevirtual 145, 3) := by decide +kernel
theorem dX8_comment_51 : decode cX8_comment 51 = .ok (.aload_n 0, 1) := by decide +kernel
theorem dX8_comment_52 : decode cX8_comment 52 = .ok (.getfield 19, 3) := by decide +kernel
theorem dX8_comment_55 : decode cX8_comment 55 = .ok (.iload_n 2, 1) := by decide +kernel
theorem dX8_comment_56 : decode cX8_comment 56 = .ok (.iload 4, 2) := by decide +kernel
theorem dX8_comment_58 : decode cX8_comment 58 = .ok (.iload 5, 2) := by decide +kernel
theorem dX8_comment_60 : decode cX8_comment 60 = .ok (.invokevirtual 148, 3) := by decide +kernel
theorem dX8_comment_63 : decode cX8_comment 63 = .ok (.istore 8, 2) := by decide +kernel
theorem dX8_comment_65 : decode cX8_comment 65 = .ok (.iload 8, 2) := by decide +kernel
theorem dX8_comment_67 : decode cX8_comment 67 = .ok (.iconst (-1), 1) := by decide +kernel
theorem dX8_comment_68 : decode cX8_comment 68 = .ok (.if_icmp .ne 13, 3) := by decide +kernel
theorem dX8_comment_71 : decode cX8_comment 71 = .ok (.new 66, 3) := by decide +kernel
theorem dX8_comment_74 : decode cX8_comment 74 = .ok (.dup, 1) := by decide +kernel
theorem dX8_comment_75 : decode cX8_comment 75 = .ok (.ldc 152, 2) := by decide +kernel
theorem dX8_comment_77 : decode cX8_comment 77 = .ok (.invokespecial 70, 3) := by decide +kernel
theorem dX8_comment_80 : decode cX8_comment 80 = .ok (.athrow, 1) := by decide +kernel
theorem dX8_comment_81 : decode cX8_comment 81 = .ok (.aload_n 0, 1) := by decide +kernel
theorem dX8_comment_82 : decode cX8_comment 82 = .ok (.getfield 33, 3) := by decide +kernel
theorem dX8_comment_85 : decode cX8_comment 85 = .ok (.iload_n 1, 1) := by decide +kernel
theorem dX8_comment_86 : decode cX8_comment 86 = .ok (.iload_n 3, 1) := by decide +kernel
theorem dX8_comment_87 : decode cX8_comment 87 = .ok (.iload 6, 2) := by decide +kernel
theorem dX8_comment_89 : decode cX8_comment 89 = .ok (.iload 7, 2) := by decide +kernel
theorem dX8_comment_91 : decode cX8_comment 91 = .ok (.invokevirtual 154, 3) := by decide +kernel
theorem dX8_comment_94 : decode cX8_comment 94 = .ok (.istore 9, 2) := by decide +kernel
theorem dX8_comment_96 : decode cX8_comment 96 = .ok (.aload_n 0, 1) := by decide +kernel
theorem dX8_comment_97 : decode cX8_comment 97 = .ok (.getfield 33, 3) := by decide +kernel
theorem dX8_comment_100 : decode cX8_comment 100 = .ok (.iload 9, 2) := by decide +kernel
theorem dX8_comment_102 : decode cX8_comment 102 = .ok (.iload_n 2, 1) := by decide +kernel
theorem dX8_comment_103 : decode cX8_comment 103 = .ok (.iload 8, 2) := by decide +kernel
theorem dX8_comment_105 : decode cX8_comment 105 = .ok (.iload 4, 2) := by decide +kernel
theorem dX8_comment_107 : decode cX8_comment 107 = .ok (.invokevirtual 157, 3) := by decide +kernel
theorem dX8_comment_110 : decode cX8_comment 110 = .ok (.iload 9, 2) := by decide +kernel
theorem dX8_comment_112 : decode cX8_comment 112 = .ok (.ireturn, 1) := by decide +kernel
theorem dX8_gloss_0 : decode cX8_gloss 0 = .ok (.aload_n 0, 1) := by decide +kernel
theorem dX8_gloss_1 : decode cX8_gloss 1 = .ok (.iload_n 1, 1) := by decide +kernel
theorem dX8_gloss_2 : decode cX8_gloss 2 = .ok (.invokevirtual 142, 3) := by decide +kernel
theorem dX8_gloss_5 : decode cX8_gloss 5 = .ok (.aload_n 0, 1) := by decide +kernel
theorem dX8_gloss_6 : decode cX8_gloss 6 = .ok (.iload_n 2, 1) := by decide +kernel
theorem dX8_gloss_7 : decode cX8_gloss 7 = .ok (.invokevirtual 161, 3) := by decide +kernel
theorem dX8_gloss_10 : decode cX8_gloss 10 = .ok (.iload_n 3, 1) := by decide +kernel
theorem dX8_gloss_11 : decode cX8_gloss 11 = .ok (.iconst 0, 1) := by decide +kernel
theorem dX8_gloss_12 : decode cX8_gloss 12 = .ok (.iconst 4, 1) := by decide +kernel
theorem dX8_gloss_13 : decode cX8_gloss 13 = .ok (.invokestatic 58, 3) := by decide +kernel
theorem dX8_gloss_16 : decode cX8_gloss 16 = .ok (.iload 4, 2) := by decide +kernel
theorem dX8_gloss_18 : decode cX8_gloss 18 = .ok (.iconst 1, 1) := by decide +kernel
theorem dX8_gloss_19 : decode cX8_gloss 19 = .ok (.bipush 9, 2) := by decide +kernel
theorem dX8_gloss_21 : decode cX8_gloss 21 = .ok (.invokestatic 58, 3) := by decide +kernel
theorem dX8_gloss_24 : decode cX8_gloss 24 = .ok (.iload 5, 2) := by decide +kernel
theorem dX8_gloss_26 : decode cX8_gloss 26 = .ok (.iconst 0, 1) := by decide +kernel
theorem dX8_gloss_27 : decode cX8_gloss 27 = .ok (.iconst 1, 1) := by decide +kernel
theorem dX8_gloss_28 : decode cX8_gloss 28 = .ok (.invokestatic 58, 3) := by decide +kernel
theorem dX8_gloss_31 : decode cX8_gloss 31 = .ok (.aload_n 0, 1) := by decide +kernel
theorem dX8_gloss_32 : decode cX8_gloss 32 = .ok (.invokevirtual 145, 3) := by decide +kernel
theorem dX8_gloss_35 : decode cX8_gloss 35 = .ok (.aload_n 0, 1) := by decide +kernel
theorem dX8_gloss_36 : decode cX8_gloss 36 = .ok (.getfield 26, 3) := by decide +kernel
theorem dX8_gloss_39 : decode cX8_gloss 39 = .ok (.aload_n 0, 1) := by decide +kernel
theorem dX8_gloss_40 : decode cX8_gloss 40 = .ok (.getfield 33, 3) := by decide +kernel
theorem dX8_gloss_43 : decode cX8_gloss 43 = .ok (.iload_n 2, 1) := by decide +kernel
theorem dX8_gloss_44 : decode cX8_gloss 44 = .ok (.invokevirtual 164, 3) := by decide +kernel
theorem dX8_gloss_47 : decode cX8_gloss 47 = .ok (.invokevirtual 167, 3) := by decide +kernel
theorem dX8_gloss_50 : decode cX8_gloss 50 = .ok (.aload_n 0, 1) := by decide +kernel
theorem dX8_gloss_51 : decode cX8_gloss 51 = .ok (.getfield 26, 3) := by decide +kernel
theorem dX8_gloss_54 : decode cX8_gloss 54 = .ok (.iload_n 1, 1) := by decide +kernel
theorem dX8_gloss_55 : decode cX8_gloss 55 = .ok (.invokevirtual 167, 3) := by decide +kernel
theorem dX8_gloss_58 : decode cX8_gloss 58 = .ok (.if_icmp .le 13, 3) := by decide +kernel
theorem dX8_gloss_61 : decode cX8_gloss 61 = .ok (.new 66, 3) := by decide +kernel
theorem dX8_gloss_64 : decode cX8_gloss 64 = .ok (.dup, 1) := by decide +kernel
theorem dX8_gloss_65 : decode cX8_gloss 65 = .ok (.ldc 170, 2) := by decide +kernel
theorem dX8_gloss_67 : decode cX8_gloss 67 = .ok (.invokespecial 70, 3) := by decide +kernel
theorem dX8_gloss_70 : decode cX8_gloss 70 = .ok (.athrow, 1) := by decide +kernel
theorem dX8_gloss_71 : decode cX8_gloss 71 = .ok (.aload_n 0, 1) := by decide +kernel
theorem dX8_gloss_72 : decode cX8_gloss 72 = .ok (.getfield 33, 3) := by decide +kernel
theorem dX8_gloss_75 : decode cX8_gloss 75 = .ok (.iload_n 1, 1) := by decide +kernel
theorem dX8_gloss_76 : decode cX8_gloss 76 = .ok (.iload_n 3, 1) := by decide +kernel
theorem dX8_gloss_77 : decode cX8_gloss 77 = .ok (.iload 4, 2) := by decide +kernel
theorem dX8_gloss_79 : decode cX8_gloss 79 = .ok (.iload 5, 2) := by decide +kernel
theorem dX8_gloss_81 : decode cX8_gloss 81 = .ok (.invokevirtual 154, 3) := by decide +kernel
theorem dX8_gloss_84 : decode cX8_gloss 84 = .ok (.istore 6, 2) := by decide +kernel
theorem dX8_gloss_86 : decode cX8_gloss 86 = .ok (.aload_n 0, 1) := by decide +kernel
theorem dX8_gloss_87 : decode cX8_gloss 87 = .ok (.getfield 33, 3) := by decide +kernel
theorem dX8_gloss_90 : decode cX8_gloss 90 = .ok (.iload 6, 2) := by decide +kernel
theorem dX8_gloss_92 : decode cX8_gloss 92 = .ok (.iload_n 2, 1) := by decide +kernel
theorem dX8_gloss_93 : decode cX8_gloss 93 = .ok (.invokevirtual 172, 3) := by decide +kernel
theorem dX8_gloss_96 : decode cX8_gloss 96 = .ok (.iload 6, 2) := by decide +kernel
theorem dX8_gloss_98 : decode cX8_gloss 98 = .ok (.ireturn, 1) := by decide +kernel
theorem dX8_told_0 : decode cX8_told 0 = .ok (.aload_n 0, 1) := by decide +kernel
theorem dX8_told_1 : decode cX8_told 1 = .ok (.iload_n 1, 1) := by decide +kernel
theorem dX8_told_2 : decode cX8_told 2 = .ok (.invokevirtual 161, 3) := by decide +kernel
theorem dX8_told_5 : decode cX8_told 5 = .ok (.iload_n 2, 1) := by decide +kernel
theorem dX8_told_6 : decode cX8_told 6 = .ok (.iconst 0, 1) := by decide +kernel
theorem dX8_told_7 : decode cX8_told 7 = .ok (.bipush 6, 2) := by decide +kernel
theorem dX8_told_9 : decode cX8_told 9 = .ok (.invokestatic 58, 3) := by decide +kernel
theorem dX8_told_12 : decode cX8_told 12 = .ok (.iload_n 2, 1) := by decide +kernel
theorem dX8_told_13 : decode cX8_told 13 = .ok (.tableswitch 109 0 5 #[39, 48, 57, 66, 83, 100], 39) := by decide +kernel
theorem dX8_told_52 : decode cX8_told 52 = .ok (.aload_n 0, 1) := by decide +kernel
theorem dX8_told_53 : decode cX8_told 53 = .ok (.getfield 33, 3) := by decide +kernel
theorem dX8_told_56 : decode cX8_told 56 = .ok (.iload_n 1, 1) := by decide +kernel
theorem dX8_told_57 : decode cX8_told 57 = .ok (.invokevirtual 164, 3) := by decide +kernel
theorem dX8_told_60 : decode cX8_told 60 = .ok (.ireturn, 1) := by decide +kernel
theorem dX8_told_61 : decode cX8_told 61 = .ok (.aload_n 0, 1) := by decide +kernel
theorem dX8_told_62 : decode cX8_told 62 = .ok (.getfield 33, 3) := by decide +kernel
theorem dX8_told_65 : decode cX8_told 65 = .ok (.iload_n 1, 1) := by decide +kernel
theorem dX8_told_66 : decode cX8_told 66 = .ok (.invokevirtual 175, 3) := by decide +kernel
theorem dX8_told_69 : decode cX8_told 69 = .ok (.ireturn, 1) := by decide +kernel
theorem dX8_told_70 : decode cX8_told 70 = .ok (.aload_n 0, 1) := by decide +kernel
theorem dX8_told_71 : decode cX8_told 71 = .ok (.getfield 33, 3) := by decide +kernel
theorem dX8_told_74 : decode cX8_told 74 = .ok (.iload_n 1, 1) := by decide +kernel
theorem dX8_told_75 : decode cX8_told 75 = .ok (.invokevirtual 178, 3) := by decide +kernel
theorem dX8_told_78 : decode cX8_told 78 = .ok (.ireturn, 1) := by decide +kernel
theorem dX8_told_79 : decode cX8_told 79 = .ok (.aload_n 0, 1) := by decide +kernel
theorem dX8_told_80 : decode cX8_told 80 = .ok (.getfield 33, 3) := by decide +kernel
theorem dX8_told_83 : decode cX8_told 83 = .ok (.iload_n 1, 1) := by decide +kernel
theorem dX8_told_84 : decode cX8_told 84 = .ok (.invokevirtual 180, 3) := by decide +kernel
theorem dX8_told_87 : decode cX8_told 87 = .ok (.ifCond .eq 7, 3) := by decide +kernel
theorem dX8_told_90 : decode cX8_told 90 = .ok (.iconst 1, 1) := by decide +kernel
theorem dX8_told_91 : decode cX8_told 91 = .ok (.goto 4, 3) := by decide +kernel
theorem dX8_told_94 : decode cX8_told 94 = .ok (.iconst 0, 1) := by decide +kernel
theorem dX8_told_95 : decode cX8_told 95 = .ok (.ireturn, 1) := by decide +kernel
theorem dX8_told_96 : decode cX8_told 96 = .ok (.aload_n 0, 1) := by decide +kernel
theorem dX8_told_97 : decode cX8_told 97 = .ok (.getfield 33, 3) := by decide +kernel
theorem dX8_told_100 : decode cX8_told 100 = .ok (.iload_n 1, 1) := by decide +kernel
theorem dX8_told_101 : decode cX8_told 101 = .ok (.invokevirtual 184, 3) := by decide +kernel
theorem dX8_told_104 : decode cX8_told 104 = .ok (.ifCond .eq 7, 3) := by decide +kernel
theorem dX8_told_107 : decode cX8_told 107 = .ok (.iconst 1, 1) := by decide +kernel
theorem dX8_told_108 : decode cX8_told 108 = .ok (.goto 4, 3) := by decide +kernel
theorem dX8_told_111 : decode cX8_told 111 = .ok (.iconst 0, 1) := by decide +kernel
theorem dX8_told_112 : decode cX8_told 112 = .ok (.ireturn, 1) := by decide +kernel
theorem dX8_told_113 : decode cX8_told 113 = .ok (.aload_n 0, 1) := by decide +kernel
theorem dX8_told_114 : decode cX8_told 114 = .ok (.getfield 33, 3) := by decide +kernel
theorem dX8_told_117 : decode cX8_told 117 = .ok (.iload_n 1, 1) := by decide +kernel
theorem dX8_told_118 : decode cX8_told 118 = .ok (.invokevirtual 187, 3) := by decide +kernel
theorem dX8_told_121 : decode cX8_told 121 = .ok (.ireturn, 1) := by decide +kernel
theorem dX8_told_122 : decode cX8_told 122 = .ok (.aload_n 0, 1) := by decide +kernel
theorem dX8_told_123 : decode cX8_told 123 = .ok (.getfield 33, 3) := by decide +kernel
theorem dX8_told_126 : decode cX8_told 126 = .ok (.iload_n 1, 1) := by decide +kernel
theorem dX8_told_127 : decode cX8_told 127 = .ok (.invokevirtual 190, 3) := by decide +kernel
theorem dX8_told_130 : decode cX8_told 130 = .ok (.ireturn, 1) := by decide +kernel
theorem dX8_standsAnew_0 : decode cX8_standsAnew 0 = .ok (.aload_n 0, 1) := by decide +kernel
theorem dX8_standsAnew_1 : decode cX8_standsAnew 1 = .ok (.iload_n 1, 1) := by decide +kernel
theorem dX8_standsAnew_2 : decode cX8_standsAnew 2 = .ok (.invokevirtual 161, 3) := by decide +kernel
theorem dX8_standsAnew_5 : decode cX8_standsAnew 5 = .ok (.aload_n 0, 1) := by decide +kernel
theorem dX8_standsAnew_6 : decode cX8_standsAnew 6 = .ok (.getfield 33, 3) := by decide +kernel
theorem dX8_standsAnew_9 : decode cX8_standsAnew 9 = .ok (.iload_n 1, 1) := by decide +kernel
theorem dX8_standsAnew_10 : decode cX8_standsAnew 10 = .ok (.invokevirtual 184, 3) := by decide +kernel
theorem dX8_standsAnew_13 : decode cX8_standsAnew 13 = .ok (.ireturn, 1) := by decide +kernel
theorem dX8_isHard_0 : decode cX8_isHard 0 = .ok (.aload_n 0, 1) := by decide +kernel
theorem dX8_isHard_1 : decode cX8_isHard 1 = .ok (.iload_n 1, 1) := by decide +kernel
theorem dX8_isHard_2 : decode cX8_isHard 2 = .ok (.invokevirtual 124, 3) := by decide +kernel
theorem dX8_isHard_5 : decode cX8_isHard 5 = .ok (.aload_n 0, 1) := by decide +kernel
theorem dX8_isHard_6 : decode cX8_isHard 6 = .ok (.getfield 33, 3) := by decide +kernel
theorem dX8_isHard_9 : decode cX8_isHard 9 = .ok (.iload_n 1, 1) := by decide +kernel
theorem dX8_isHard_10 : decode cX8_isHard 10 = .ok (.invokevirtual 193, 3) := by decide +kernel
theorem dX8_isHard_13 : decode cX8_isHard 13 = .ok (.ireturn, 1) := by decide +kernel
theorem dX8_solved_0 : decode cX8_solved 0 = .ok (.iload_n 1, 1) := by decide +kernel
theorem dX8_solved_1 : decode cX8_solved 1 = .ok (.iconst 0, 1) := by decide +kernel
theorem dX8_solved_2 : decode cX8_solved 2 = .ok (.iconst 3, 1) := by decide +kernel
theorem dX8_solved_3 : decode cX8_solved 3 = .ok (.invokestatic 58, 3) := by decide +kernel
theorem dX8_solved_6 : decode cX8_solved 6 = .ok (.aload_n 0, 1) := by decide +kernel
theorem dX8_solved_7 : decode cX8_solved 7 = .ok (.getfield 33, 3) := by decide +kernel
theorem dX8_solved_10 : decode cX8_solved 10 = .ok (.iload_n 1, 1) := by decide +kernel
theorem dX8_solved_11 : decode cX8_solved 11 = .ok (.aload_n 0, 1) := by decide +kernel
theorem dX8_solved_12 : decode cX8_solved 12 = .ok (.getfield 26, 3) := by decide +kernel
theorem dX8_solved_15 : decode cX8_solved 15 = .ok (.invokevirtual 196, 3) := by decide +kernel
theorem dX8_solved_18 : decode cX8_solved 18 = .ok (.ireturn, 1) := by decide +kernel
theorem dX8_found_0 : decode cX8_found 0 = .ok (.aload_n 0, 1) := by decide +kernel
theorem dX8_found_1 : decode cX8_found 1 = .ok (.getfield 19, 3) := by decide +kernel
theorem dX8_found_4 : decode cX8_found 4 = .ok (.aload_n 0, 1) := by decide +kernel
theorem dX8_found_5 : decode cX8_found 5 = .ok (.getfield 12, 3) := by decide +kernel
theorem dX8_found_8 : decode cX8_found 8 = .ok (.invokevirtual 200, 3) := by decide +kernel
theorem dX8_found_11 : decode cX8_found 11 = .ok (.ireturn, 1) := by decide +kernel
theorem dX8_exact_0 : decode cX8_exact 0 = .ok (.aload_n 0, 1) := by decide +kernel
theorem dX8_exact_1 : decode cX8_exact 1 = .ok (.getfield 19, 3) := by decide +kernel
theorem dX8_exact_4 : decode cX8_exact 4 = .ok (.aload_n 0, 1) := by decide +kernel
theorem dX8_exact_5 : decode cX8_exact 5 = .ok (.getfield 12, 3) := by decide +kernel
theorem dX8_exact_8 : decode cX8_exact 8 = .ok (.invokevirtual 200, 3) := by decide +kernel
theorem dX8_exact_11 : decode cX8_exact 11 = .ok (.istore_n 1, 1) := by decide +kernel
theorem dX8_exact_12 : decode cX8_exact 12 = .ok (.aload_n 0, 1) := by decide +kernel
theorem dX8_exact_13 : decode cX8_exact 13 = .ok (.getfield 12, 3) := by decide +kernel
theorem dX8_exact_16 : decode cX8_exact 16 = .ok (.invokevirtual 77, 3) := by decide +kernel
theorem dX8_exact_19 : decode cX8_exact 19 = .ok (.aload_n 0, 1) := by decide +kernel
theorem dX8_exact_20 : decode cX8_exact 20 = .ok (.getfield 19, 3) := by decide +kernel
theorem dX8_exact_23 : decode cX8_exact 23 = .ok (.iload_n 1, 1) := by decide +kernel
theorem dX8_exact_24 : decode cX8_exact 24 = .ok (.invokevirtual 111, 3) := by decide +kernel
theorem dX8_exact_27 : decode cX8_exact 27 = .ok (.iadd, 1) := by decide +kernel
theorem dX8_exact_28 : decode cX8_exact 28 = .ok (.istore_n 2, 1) := by decide +kernel
theorem dX8_exact_29 : decode cX8_exact 29 = .ok (.iload_n 1, 1) := by decide +kernel
theorem dX8_exact_30 : decode cX8_exact 30 = .ok (.iconst (-1), 1) := by decide +kernel
theorem dX8_exact_31 : decode cX8_exact 31 = .ok (.if_icmp .eq 7, 3) := by decide +kernel
theorem dX8_exact_34 : decode cX8_exact 34 = .ok (.iload_n 2, 1) := by decide +kernel
theorem dX8_exact_35 : decode cX8_exact 35 = .ok (.ifCond .ne 5, 3) := by decide +kernel
theorem dX8_exact_38 : decode cX8_exact 38 = .ok (.iconst 0, 1) := by decide +kernel
theorem dX8_exact_39 : decode cX8_exact 39 = .ok (.ireturn, 1) := by decide +kernel
theorem dX8_exact_40 : decode cX8_exact 40 = .ok (.iconst 2, 1) := by decide +kernel
theorem dX8_exact_41 : decode cX8_exact 41 = .ok (.aload_n 0, 1) := by decide +kernel
theorem dX8_exact_42 : decode cX8_exact 42 = .ok (.getfield 19, 3) := by decide +kernel
theorem dX8_exact_45 : decode cX8_exact 45 = .ok (.iload_n 1, 1) := by decide +kernel
theorem dX8_exact_46 : decode cX8_exact 46 = .ok (.aload_n 0, 1) := by decide +kernel
theorem dX8_exact_47 : decode cX8_exact 47 = .ok (.getfield 12, 3) := by decide +kernel
theorem dX8_exact_50 : decode cX8_exact 50 = .ok (.invokevirtual 204, 3) := by decide +kernel
theorem dX8_exact_53 : decode cX8_exact 53 = .ok (.imul, 1) := by decide +kernel
theorem dX8_exact_54 : decode cX8_exact 54 = .ok (.bipush 100, 2) := by decide +kernel
theorem dX8_exact_56 : decode cX8_exact 56 = .ok (.imul, 1) := by decide +kernel
theorem dX8_exact_57 : decode cX8_exact 57 = .ok (.iload_n 2, 1) := by decide +kernel
theorem dX8_exact_58 : decode cX8_exact 58 = .ok (.idiv, 1) := by decide +kernel
theorem dX8_exact_59 : decode cX8_exact 59 = .ok (.ireturn, 1) := by decide +kernel
theorem dX8_ruling_0 : decode cX8_ruling 0 = .ok (.aload_n 0, 1) := by decide +kernel
theorem dX8_ruling_1 : decode cX8_ruling 1 = .ok (.iload_n 1, 1) := by decide +kernel
theorem dX8_ruling_2 : decode cX8_ruling 2 = .ok (.invokevirtual 142, 3) := by decide +kernel
theorem dX8_ruling_5 : decode cX8_ruling 5 = .ok (.iload_n 2, 1) := by decide +kernel
theorem dX8_ruling_6 : decode cX8_ruling 6 = .ok (.invokestatic 208, 3) := by decide +kernel
theorem dX8_ruling_9 : decode cX8_ruling 9 = .ok (.aload_n 0, 1) := by decide +kernel
theorem dX8_ruling_10 : decode cX8_ruling 10 = .ok (.getfield 40, 3) := by decide +kernel
theorem dX8_ruling_13 : decode cX8_ruling 13 = .ok (.iload_n 1, 1) := by decide +kernel
theorem dX8_ruling_14 : decode cX8_ruling 14 = .ok (.iload_n 2, 1) := by decide +kernel
theorem dX8_ruling_15 : decode cX8_ruling 15 = .ok (.invokevirtual 211, 3) := by decide +kernel
theorem dX8_ruling_18 : decode cX8_ruling 18 = .ok (.ifCond .eq 13, 3) := by decide +kernel
theorem dX8_ruling_21 : decode cX8_ruling 21 = .ok (.new 66, 3) := by decide +kernel
theorem dX8_ruling_24 : decode cX8_ruling 24 = .ok (.dup, 1) := by decide +kernel
theorem dX8_ruling_25 : decode cX8_ruling 25 = .ok (.ldc 214, 2) := by decide +kernel
theorem dX8_ruling_27 : decode cX8_ruling 27 = .ok (.invokespecial 70, 3) := by decide +kernel
theorem dX8_ruling_30 : decode cX8_ruling 30 = .ok (.athrow, 1) := by decide +kernel
theorem dX8_ruling_31 : decode cX8_ruling 31 = .ok (.aload_n 0, 1) := by decide +kernel
theorem dX8_ruling_32 : decode cX8_ruling 32 = .ok (.getfield 40, 3) := by decide +kernel
theorem dX8_ruling_35 : decode cX8_ruling 35 = .ok (.iload_n 1, 1) := by decide +kernel
theorem dX8_ruling_36 : decode cX8_ruling 36 = .ok (.iload_n 2, 1) := by decide +kernel
theorem dX8_ruling_37 : decode cX8_ruling 37 = .ok (.iload_n 3, 1) := by decide +kernel
theorem dX8_ruling_38 : decode cX8_ruling 38 = .ok (.invokevirtual 216, 3) := by decide +kernel
theorem dX8_ruling_41 : decode cX8_ruling 41 = .ok (.aload_n 0, 1) := by decide +kernel
theorem dX8_ruling_42 : decode cX8_ruling 42 = .ok (.getfield 40, 3) := by decide +kernel
theorem dX8_ruling_45 : decode cX8_ruling 45 = .ok (.iload_n 2, 1) := by decide +kernel
theorem dX8_ruling_46 : decode cX8_ruling 46 = .ok (.invokevirtual 219, 3) := by decide +kernel
theorem dX8_ruling_49 : decode cX8_ruling 49 = .ok (.ireturn, 1) := by decide +kernel
theorem dX8_follow_0 : decode cX8_follow 0 = .ok (.iload_n 1, 1) := by decide +kernel
theorem dX8_follow_1 : decode cX8_follow 1 = .ok (.iconst 0, 1) := by decide +kernel
theorem dX8_follow_2 : decode cX8_follow 2 = .ok (.iconst 3, 1) := by decide +kernel
theorem dX8_follow_3 : decode cX8_follow 3 = .ok (.invokestatic 58, 3) := by decide +kernel
theorem dX8_follow_6 : decode cX8_follow 6 = .ok (.iload_n 1, 1) := by decide +kernel
theorem dX8_follow_7 : decode cX8_follow 7 = .ok (.ifCond .ne 9, 3) := by decide +kernel
theorem dX8_follow_10 : decode cX8_follow 10 = .ok (.iload_n 2, 1) := by decide +kernel
theorem dX8_follow_11 : decode cX8_follow 11 = .ok (.iconst 0, 1) := by decide +kernel
theorem dX8_follow_12 : decode cX8_follow 12 = .ok (.iconst 3, 1) := by decide +kernel
theorem dX8_follow_13 : decode cX8_follow 13 = .ok (.invokestatic 58, 3) := by decide +kernel
theorem dX8_follow_16 : decode cX8_follow 16 = .ok (.iload_n 1, 1) := by decide +kernel
theorem dX8_follow_17 : decode cX8_follow 17 = .ok (.iconst 3, 1) := by decide +kernel
theorem dX8_follow_18 : decode cX8_follow 18 = .ok (.if_icmp .ne 10, 3) := by decide +kernel
theorem dX8_follow_21 : decode cX8_follow 21 = .ok (.iload_n 2, 1) := by decide +kernel
theorem dX8_follow_22 : decode cX8_follow 22 = .ok (.iconst 0, 1) := by decide +kernel
theorem dX8_follow_23 : decode cX8_follow 23 = .ok (.bipush 19, 2) := by decide +kernel
theorem dX8_follow_25 : decode cX8_follow 25 = .ok (.invokestatic 58, 3) := by decide +kernel
theorem dX8_follow_28 : decode cX8_follow 28 = .ok (.aload_n 0, 1) := by decide +kernel
theorem dX8_follow_29 : decode cX8_follow 29 = .ok (.getfield 40, 3) := by decide +kernel
theorem dX8_follow_32 : decode cX8_follow 32 = .ok (.invokevirtual 222, 3) := by decide +kernel
theorem dX8_follow_35 : decode cX8_follow 35 = .ok (.ifCond .eq 13, 3) := by decide +kernel
theorem dX8_follow_38 : decode cX8_follow 38 = .ok (.new 66, 3) := by decide +kernel
theorem dX8_follow_41 : decode cX8_follow 41 = .ok (.dup, 1) := by decide +kernel
theorem dX8_follow_42 : decode cX8_follow 42 = .ok (.ldc 225, 2) := by decide +kernel
theorem dX8_follow_44 : decode cX8_follow 44 = .ok (.invokespecial 70, 3) := by decide +kernel
theorem dX8_follow_47 : decode cX8_follow 47 = .ok (.athrow, 1) := by decide +kernel
theorem dX8_follow_48 : decode cX8_follow 48 = .ok (.aload_n 0, 1) := by decide +kernel
theorem dX8_follow_49 : decode cX8_follow 49 = .ok (.getfield 40, 3) := by decide +kernel
theorem dX8_follow_52 : decode cX8_follow 52 = .ok (.iload_n 1, 1) := by decide +kernel
theorem dX8_follow_53 : decode cX8_follow 53 = .ok (.iload_n 2, 1) := by decide +kernel
theorem dX8_follow_54 : decode cX8_follow 54 = .ok (.invokevirtual 227, 3) := by decide +kernel
theorem dX8_follow_57 : decode cX8_follow 57 = .ok (.aload_n 0, 1) := by decide +kernel
theorem dX8_follow_58 : decode cX8_follow 58 = .ok (.getfield 40, 3) := by decide +kernel
theorem dX8_follow_61 : decode cX8_follow 61 = .ok (.invokevirtual 230, 3) := by decide +kernel
theorem dX8_follow_64 : decode cX8_follow 64 = .ok (.ireturn, 1) := by decide +kernel
theorem dX8_unfollow_0 : decode cX8_unfollow 0 = .ok (.aload_n 0, 1) := by decide +kernel
theorem dX8_unfollow_1 : decode cX8_unfollow 1 = .ok (.getfield 40, 3) := by decide +kernel
theorem dX8_unfollow_4 : decode cX8_unfollow 4 = .ok (.iload_n 1, 1) := by decide +kernel
theorem dX8_unfollow_5 : decode cX8_unfollow 5 = .ok (.invokevirtual 233, 3) := by decide +kernel
theorem dX8_unfollow_8 : decode cX8_unfollow 8 = .ok (.ifCond .ne 13, 3) := by decide +kernel
theorem dX8_unfollow_11 : decode cX8_unfollow 11 = .ok (.new 99, 3) := by decide +kernel
theorem dX8_unfollow_14 : decode cX8_unfollow 14 = .ok (.dup, 1) := by decide +kernel
theorem dX8_unfollow_15 : decode cX8_unfollow 15 = .ok (.ldc 236, 2) := by decide +kernel
theorem dX8_unfollow_17 : decode cX8_unfollow 17 = .ok (.invokespecial 103, 3) := by decide +kernel
theorem dX8_unfollow_20 : decode cX8_unfollow 20 = .ok (.athrow, 1) := by decide +kernel
theorem dX8_unfollow_21 : decode cX8_unfollow 21 = .ok (.aload_n 0, 1) := by decide +kernel
theorem dX8_unfollow_22 : decode cX8_unfollow 22 = .ok (.getfield 40, 3) := by decide +kernel
theorem dX8_unfollow_25 : decode cX8_unfollow 25 = .ok (.iload_n 1, 1) := by decide +kernel
theorem dX8_unfollow_26 : decode cX8_unfollow 26 = .ok (.invokevirtual 238, 3) := by decide +kernel
theorem dX8_unfollow_29 : decode cX8_unfollow 29 = .ok (.istore_n 2, 1) := by decide +kernel
theorem dX8_unfollow_30 : decode cX8_unfollow 30 = .ok (.aload_n 0, 1) := by decide +kernel
theorem dX8_unfollow_31 : decode cX8_unfollow 31 = .ok (.getfield 40, 3) := by decide +kernel
theorem dX8_unfollow_34 : decode cX8_unfollow 34 = .ok (.iload_n 1, 1) := by decide +kernel
theorem dX8_unfollow_35 : decode cX8_unfollow 35 = .ok (.invokevirtual 241, 3) := by decide +kernel
theorem dX8_unfollow_38 : decode cX8_unfollow 38 = .ok (.iload_n 2, 1) := by decide +kernel
theorem dX8_unfollow_39 : decode cX8_unfollow 39 = .ok (.ireturn, 1) := by decide +kernel
theorem dX8_decided_0 : decode cX8_decided 0 = .ok (.iload_n 1, 1) := by decide +kernel
theorem dX8_decided_1 : decode cX8_decided 1 = .ok (.invokestatic 208, 3) := by decide +kernel
theorem dX8_decided_4 : decode cX8_decided 4 = .ok (.aload_n 0, 1) := by decide +kernel
theorem dX8_decided_5 : decode cX8_decided 5 = .ok (.getfield 40, 3) := by decide +kernel
theorem dX8_decided_8 : decode cX8_decided 8 = .ok (.iload_n 1, 1) := by decide +kernel
theorem dX8_decided_9 : decode cX8_decided 9 = .ok (.aload_n 0, 1) := by decide +kernel
theorem dX8_decided_10 : decode cX8_decided 10 = .ok (.getfield 26, 3) := by decide +kernel
theorem dX8_decided_13 : decode cX8_decided 13 = .ok (.invokevirtual 244, 3) := by decide +kernel
theorem dX8_decided_16 : decode cX8_decided 16 = .ok (.ireturn, 1) := by decide +kernel
theorem dX8_edition_0 : decode cX8_edition 0 = .ok (.iload_n 1, 1) := by decide +kernel
theorem dX8_edition_1 : decode cX8_edition 1 = .ok (.iconst 1, 1) := by decide +kernel
theorem dX8_edition_2 : decode cX8_edition 2 = .ok (.bipush 12, 2) := by decide +kernel
theorem dX8_edition_4 : decode cX8_edition 4 = .ok (.invokestatic 58, 3) := by decide +kernel
theorem dX8_edition_7 : decode cX8_edition 7 = .ok (.iload_n 2, 1) := by decide +kernel
theorem dX8_edition_8 : decode cX8_edition 8 = .ok (.iconst 1, 1) := by decide +kernel
theorem dX8_edition_9 : decode cX8_edition 9 = .ok (.bipush 60, 2) := by decide +kernel
theorem dX8_edition_11 : decode cX8_edition 11 = .ok (.invokestatic 58, 3) := by decide +kernel
theorem dX8_edition_14 : decode cX8_edition 14 = .ok (.aload_n 0, 1) := by decide +kernel
theorem dX8_edition_15 : decode cX8_edition 15 = .ok (.getfield 19, 3) := by decide +kernel
theorem dX8_edition_18 : decode cX8_edition 18 = .ok (.invokevirtual 92, 3) := by decide +kernel
theorem dX8_edition_21 : decode cX8_edition 21 = .ok (.ifCond .ne 13, 3) := by decide +kernel
theorem dX8_edition_24 : decode cX8_edition 24 = .ok (.new 66, 3) := by decide +kernel
theorem dX8_edition_27 : decode cX8_edition 27 = .ok (.dup, 1) := by decide +kernel
theorem dX8_edition_28 : decode cX8_edition 28 = .ok (.ldc 247, 2) := by decide +kernel
theorem dX8_edition_30 : decode cX8_edition 30 = .ok (.invokespecial 70, 3) := by decide +kernel
theorem dX8_edition_33 : decode cX8_edition 33 = .ok (.athrow, 1) := by decide +kernel
theorem dX8_edition_34 : decode cX8_edition 34 = .ok (.aload_n 0, 1) := by decide +kernel
theorem dX8_edition_35 : decode cX8_edition 35 = .ok (.getfield 54, 3) := by decide +kernel
theorem dX8_edition_38 : decode cX8_edition 38 = .ok (.invokevirtual 249, 3) := by decide +kernel
theorem dX8_edition_41 : decode cX8_edition 41 = .ok (.ifCond .eq 13, 3) := by decide +kernel
theorem dX8_edition_44 : decode cX8_edition 44 = .ok (.new 66, 3) := by decide +kernel
theorem dX8_edition_47 : decode cX8_edition 47 = .ok (.dup, 1) := by decide +kernel
theorem dX8_edition_48 : decode cX8_edition 48 = .ok (.ldc 250, 2) := by decide +kernel
theorem dX8_edition_50 : decode cX8_edition 50 = .ok (.invokespecial 70, 3) := by decide +kernel
theorem dX8_edition_53 : decode cX8_edition 53 = .ok (.athrow, 1) := by decide +kernel
theorem dX8_edition_54 : decode cX8_edition 54 = .ok (.aload_n 0, 1) := by decide +kernel
theorem dX8_edition_55 : decode cX8_edition 55 = .ok (.getfield 47, 3) := by decide +kernel
theorem dX8_edition_58 : decode cX8_edition 58 = .ok (.aload_n 0, 1) := by decide +kernel
theorem dX8_edition_59 : decode cX8_edition 59 = .ok (.getfield 19, 3) := by decide +kernel
theorem dX8_edition_62 : decode cX8_edition 62 = .ok (.aload_n 0, 1) := by decide +kernel
theorem dX8_edition_63 : decode cX8_edition 63 = .ok (.getfield 33, 3) := by decide +kernel
theorem dX8_edition_66 : decode cX8_edition 66 = .ok (.iload_n 1, 1) := by decide +kernel
theorem dX8_edition_67 : decode cX8_edition 67 = .ok (.invokevirtual 252, 3) := by decide +kernel
theorem dX8_edition_70 : decode cX8_edition 70 = .ok (.aload_n 0, 1) := by decide +kernel
theorem dX8_edition_71 : decode cX8_edition 71 = .ok (.getfield 54, 3) := by decide +kernel
theorem dX8_edition_74 : decode cX8_edition 74 = .ok (.aload_n 0, 1) := by decide +kernel
theorem dX8_edition_75 : decode cX8_edition 75 = .ok (.getfield 47, 3) := by decide +kernel
theorem dX8_edition_78 : decode cX8_edition 78 = .ok (.aload_n 0, 1) := by decide +kernel
theorem dX8_edition_79 : decode cX8_edition 79 = .ok (.getfield 19, 3) := by decide +kernel
theorem dX8_edition_82 : decode cX8_edition 82 = .ok (.invokevirtual 92, 3) := by decide +kernel
theorem dX8_edition_85 : decode cX8_edition 85 = .ok (.iload_n 1, 1) := by decide +kernel
theorem dX8_edition_86 : decode cX8_edition 86 = .ok (.iload_n 2, 1) := by decide +kernel
theorem dX8_edition_87 : decode cX8_edition 87 = .ok (.invokevirtual 256, 3) := by decide +kernel
theorem dX8_edition_90 : decode cX8_edition 90 = .ok (.aload_n 0, 1) := by decide +kernel
theorem dX8_edition_91 : decode cX8_edition 91 = .ok (.getfield 54, 3) := by decide +kernel
theorem dX8_edition_94 : decode cX8_edition 94 = .ok (.invokevirtual 259, 3) := by decide +kernel
theorem dX8_edition_97 : decode cX8_edition 97 = .ok (.iconst 1, 1) := by decide +kernel
theorem dX8_edition_98 : decode cX8_edition 98 = .ok (.isub, 1) := by decide +kernel
theorem dX8_edition_99 : decode cX8_edition 99 = .ok (.ireturn, 1) := by decide +kernel
theorem dX8_address_0 : decode cX8_address 0 = .ok (.aload_n 0, 1) := by decide +kernel
theorem dX8_address_1 : decode cX8_address 1 = .ok (.iload_n 1, 1) := by decide +kernel
theorem dX8_address_2 : decode cX8_address 2 = .ok (.invokevirtual 260, 3) := by decide +kernel
theorem dX8_address_5 : decode cX8_address 5 = .ok (.aload_n 0, 1) := by decide +kernel
theorem dX8_address_6 : decode cX8_address 6 = .ok (.iload_n 2, 1) := by decide +kernel
theorem dX8_address_7 : decode cX8_address 7 = .ok (.invokevirtual 124, 3) := by decide +kernel
theorem dX8_address_10 : decode cX8_address 10 = .ok (.aload_n 0, 1) := by decide +kernel
theorem dX8_address_11 : decode cX8_address 11 = .ok (.getfield 54, 3) := by decide +kernel
theorem dX8_address_14 : decode cX8_address 14 = .ok (.iload_n 1, 1) := by decide +kernel
theorem dX8_address_15 : decode cX8_address 15 = .ok (.iload_n 2, 1) := by decide +kernel
theorem dX8_address_16 : decode cX8_address 16 = .ok (.invokevirtual 263, 3) := by decide +kernel
theorem dX8_address_19 : decode cX8_address 19 = .ok (.ireturn, 1) := by decide +kernel
theorem dX8_pages_0 : decode cX8_pages 0 = .ok (.aload_n 0, 1) := by decide +kernel
theorem dX8_pages_1 : decode cX8_pages 1 = .ok (.iload_n 1, 1) := by decide +kernel
theorem dX8_pages_2 : decode cX8_pages 2 = .ok (.invokevirtual 260, 3) := by decide +kernel
theorem dX8_pages_5 : decode cX8_pages 5 = .ok (.aload_n 0, 1) := by decide +kernel
theorem dX8_pages_6 : decode cX8_pages 6 = .ok (.getfield 54, 3) := by decide +kernel
theorem dX8_pages_9 : decode cX8_pages 9 = .ok (.iload_n 1, 1) := by decide +kernel
theorem dX8_pages_10 : decode cX8_pages 10 = .ok (.invokevirtual 266, 3) := by decide +kernel
theorem dX8_pages_13 : decode cX8_pages 13 = .ok (.ireturn, 1) := by decide +kernel
theorem dX8_row_0 : decode cX8_row 0 = .ok (.aload_n 0, 1) := by decide +kernel
theorem dX8_row_1 : decode cX8_row 1 = .ok (.iload_n 1, 1) := by decide +kernel
theorem dX8_row_2 : decode cX8_row 2 = .ok (.invokevirtual 161, 3) := by decide +kernel
theorem dX8_row_5 : decode cX8_row 5 = .ok (.aload_n 0, 1) := by decide +kernel
theorem dX8_row_6 : decode cX8_row 6 = .ok (.getfield 54, 3) := by decide +kernel
theorem dX8_row_9 : decode cX8_row 9 = .ok (.invokevirtual 259, 3) := by decide +kernel
theorem dX8_row_12 : decode cX8_row 12 = .ok (.ifCond .eq 14, 3) := by decide +kernel
theorem dX8_row_15 : decode cX8_row 15 = .ok (.aload_n 0, 1) := by decide +kernel
theorem dX8_row_16 : decode cX8_row 16 = .ok (.getfield 33, 3) := by decide +kernel
theorem dX8_row_19 : decode cX8_row 19 = .ok (.iload_n 1, 1) := by decide +kernel
theorem dX8_row_20 : decode cX8_row 20 = .ok (.invokevirtual 180, 3) := by decide +kernel
theorem dX8_row_23 : decode cX8_row 23 = .ok (.ifCond .eq 5, 3) := by decide +kernel
theorem dX8_row_26 : decode cX8_row 26 = .ok (.iconst (-1), 1) := by decide +kernel
theorem dX8_row_27 : decode cX8_row 27 = .ok (.ireturn, 1) := by decide +kernel
theorem dX8_row_28 : decode cX8_row 28 = .ok (.aload_n 0, 1) := by decide +kernel
theorem dX8_row_29 : decode cX8_row 29 = .ok (.getfield 47, 3) := by decide +kernel
theorem dX8_row_32 : decode cX8_row 32 = .ok (.aload_n 0, 1) := by decide +kernel
theorem dX8_row_33 : decode cX8_row 33 = .ok (.getfield 19, 3) := by decide +kernel
theorem dX8_row_36 : decode cX8_row 36 = .ok (.aload_n 0, 1) := by decide +kernel
theorem dX8_row_37 : decode cX8_row 37 = .ok (.getfield 33, 3) := by decide +kernel
theorem dX8_row_40 : decode cX8_row 40 = .ok (.aload_n 0, 1) := by decide +kernel
theorem dX8_row_41 : decode cX8_row 41 = .ok (.getfield 54, 3) := by decide +kernel
theorem dX8_row_44 : decode cX8_row 44 = .ok (.invokevirtual 269, 3) := by decide +kernel
theorem dX8_row_47 : decode cX8_row 47 = .ok (.invokevirtual 252, 3) := by decide +kernel
theorem dX8_row_50 : decode cX8_row 50 = .ok (.aload_n 0, 1) := by decide +kernel
theorem dX8_row_51 : decode cX8_row 51 = .ok (.getfield 47, 3) := by decide +kernel
theorem dX8_row_54 : decode cX8_row 54 = .ok (.iload_n 1, 1) := by decide +kernel
theorem dX8_row_55 : decode cX8_row 55 = .ok (.aload_n 0, 1) := by decide +kernel
theorem dX8_row_56 : decode cX8_row 56 = .ok (.getfield 33, 3) := by decide +kernel
theorem dX8_row_59 : decode cX8_row 59 = .ok (.invokevirtual 272, 3) := by decide +kernel
theorem dX8_row_62 : decode cX8_row 62 = .ok (.ireturn, 1) := by decide +kernel
theorem dX8_holds_0 : decode cX8_holds 0 = .ok (.aload_n 0, 1) := by decide +kernel
theorem dX8_holds_1 : decode cX8_holds 1 = .ok (.iload_n 1, 1) := by decide +kernel
theorem dX8_holds_2 : decode cX8_holds 2 = .ok (.invokevirtual 260, 3) := by decide +kernel
theorem dX8_holds_5 : decode cX8_holds 5 = .ok (.aload_n 0, 1) := by decide +kernel
theorem dX8_holds_6 : decode cX8_holds 6 = .ok (.getfield 54, 3) := by decide +kernel
theorem dX8_holds_9 : decode cX8_holds 9 = .ok (.iload_n 1, 1) := by decide +kernel
theorem dX8_holds_10 : decode cX8_holds 10 = .ok (.invokevirtual 276, 3) := by decide +kernel
theorem dX8_holds_13 : decode cX8_holds 13 = .ok (.ireturn, 1) := by decide +kernel
theorem dX8_daily_0 : decode cX8_daily 0 = .ok (.iload_n 1, 1) := by decide +kernel
theorem dX8_daily_1 : decode cX8_daily 1 = .ok (.iconst 0, 1) := by decide +kernel
theorem dX8_daily_2 : decode cX8_daily 2 = .ok (.ldc_w 279, 3) := by decide +kernel
theorem dX8_daily_5 : decode cX8_daily 5 = .ok (.invokestatic 58, 3) := by decide +kernel
theorem dX8_daily_8 : decode cX8_daily 8 = .ok (.aload_n 0, 1) := by decide +kernel
theorem dX8_daily_9 : decode cX8_daily 9 = .ok (.getfield 54, 3) := by decide +kernel
theorem dX8_daily_12 : decode cX8_daily 12 = .ok (.iload_n 1, 1) := by decide +kernel
theorem dX8_daily_13 : decode cX8_daily 13 = .ok (.invokevirtual 280, 3) := by decide +kernel
theorem dX8_daily_16 : decode cX8_daily 16 = .ok (.ireturn, 1) := by decide +kernel
theorem dX8_needArgument_0 : decode cX8_needArgument 0 = .ok (.iload_n 0, 1) := by decide +kernel
theorem dX8_needArgument_1 : decode cX8_needArgument 1 = .ok (.iload_n 1, 1) := by decide +kernel
theorem dX8_needArgument_2 : decode cX8_needArgument 2 = .ok (.if_icmp .lt 8, 3) := by decide +kernel
theorem dX8_needArgument_5 : decode cX8_needArgument 5 = .ok (.iload_n 0, 1) := by decide +kernel
theorem dX8_needArgument_6 : decode cX8_needArgument 6 = .ok (.iload_n 2, 1) := by decide +kernel
theorem dX8_needArgument_7 : decode cX8_needArgument 7 = .ok (.if_icmp .le 14, 3) := by decide +kernel
theorem dX8_needArgument_10 : decode cX8_needArgument 10 = .ok (.new 283, 3) := by decide +kernel
theorem dX8_needArgument_13 : decode cX8_needArgument 13 = .ok (.dup, 1) := by decide +kernel
theorem dX8_needArgument_14 : decode cX8_needArgument 14 = .ok (.ldc_w 285, 3) := by decide +kernel
theorem dX8_needArgument_17 : decode cX8_needArgument 17 = .ok (.invokespecial 287, 3) := by decide +kernel
theorem dX8_needArgument_20 : decode cX8_needArgument 20 = .ok (.athrow, 1) := by decide +kernel
theorem dX8_needArgument_21 : decode cX8_needArgument 21 = .ok (.return_, 1) := by decide +kernel
theorem dX8_needUnit_0 : decode cX8_needUnit 0 = .ok (.aload_n 0, 1) := by decide +kernel
theorem dX8_needUnit_1 : decode cX8_needUnit 1 = .ok (.getfield 19, 3) := by decide +kernel
theorem dX8_needUnit_4 : decode cX8_needUnit 4 = .ok (.iload_n 1, 1) := by decide +kernel
theorem dX8_needUnit_5 : decode cX8_needUnit 5 = .ok (.invokevirtual 288, 3) := by decide +kernel
theorem dX8_needUnit_8 : decode cX8_needUnit 8 = .ok (.ifCond .ne 14, 3) := by decide +kernel
theorem dX8_needUnit_11 : decode cX8_needUnit 11 = .ok (.new 99, 3) := by decide +kernel
theorem dX8_needUnit_14 : decode cX8_needUnit 14 = .ok (.dup, 1) := by decide +kernel
theorem dX8_needUnit_15 : decode cX8_needUnit 15 = .ok (.ldc_w 290, 3) := by decide +kernel
theorem dX8_needUnit_18 : decode cX8_needUnit 18 = .ok (.invokespecial 103, 3) := by decide +kernel
theorem dX8_needUnit_21 : decode cX8_needUnit 21 = .ok (.athrow, 1) := by decide +kernel
theorem dX8_needUnit_22 : decode cX8_needUnit 22 = .ok (.return_, 1) := by decide +kernel
theorem dX8_needAuthor_0 : decode cX8_needAuthor 0 = .ok (.aload_n 0, 1) := by decide +kernel
theorem dX8_needAuthor_1 : decode cX8_needAuthor 1 = .ok (.getfield 26, 3) := by decide +kernel
theorem dX8_needAuthor_4 : decode cX8_needAuthor 4 = .ok (.iload_n 1, 1) := by decide +kernel
theorem dX8_needAuthor_5 : decode cX8_needAuthor 5 = .ok (.invokevirtual 292, 3) := by decide +kernel
theorem dX8_needAuthor_8 : decode cX8_needAuthor 8 = .ok (.ifCond .ne 14, 3) := by decide +kernel
theorem dX8_needAuthor_11 : decode cX8_needAuthor 11 = .ok (.new 99, 3) := by decide +kernel
theorem dX8_needAuthor_14 : decode cX8_needAuthor 14 = .ok (.dup, 1) := by decide +kernel
theorem dX8_needAuthor_15 : decode cX8_needAuthor 15 = .ok (.ldc_w 293, 3) := by decide +kernel
theorem dX8_needAuthor_18 : decode cX8_needAuthor 18 = .ok (.invokespecial 103, 3) := by decide +kernel
theorem dX8_needAuthor_21 : decode cX8_needAuthor 21 = .ok (.athrow, 1) := by decide +kernel
theorem dX8_needAuthor_22 : decode cX8_needAuthor 22 = .ok (.return_, 1) := by decide +kernel
theorem dX8_needComment_0 : decode cX8_needComment 0 = .ok (.aload_n 0, 1) := by decide +kernel
theorem dX8_needComment_1 : decode cX8_needComment 1 = .ok (.getfield 33, 3) := by decide +kernel
theorem dX8_needComment_4 : decode cX8_needComment 4 = .ok (.iload_n 1, 1) := by decide +kernel
theorem dX8_needComment_5 : decode cX8_needComment 5 = .ok (.invokevirtual 295, 3) := by decide +kernel
theorem dX8_needComment_8 : decode cX8_needComment 8 = .ok (.ifCond .ne 14, 3) := by decide +kernel
theorem dX8_needComment_11 : decode cX8_needComment 11 = .ok (.new 99, 3) := by decide +kernel
theorem dX8_needComment_14 : decode cX8_needComment 14 = .ok (.dup, 1) := by decide +kernel
theorem dX8_needComment_15 : decode cX8_needComment 15 = .ok (.ldc_w 296, 3) := by decide +kernel
theorem dX8_needComment_18 : decode cX8_needComment 18 = .ok (.invokespecial 103, 3) := by decide +kernel
theorem dX8_needComment_21 : decode cX8_needComment 21 = .ok (.athrow, 1) := by decide +kernel
theorem dX8_needComment_22 : decode cX8_needComment 22 = .ok (.return_, 1) := by decide +kernel
theorem dX8_needRoomForComment_0 : decode cX8_needRoomForComment 0 = .ok (.aload_n 0, 1) := by decide +kernel
theorem dX8_needRoomForComment_1 : decode cX8_needRoomForComment 1 = .ok (.getfield 33, 3) := by decide +kernel
theorem dX8_needRoomForComment_4 : decode cX8_needRoomForComment 4 = .ok (.invokevirtual 298, 3) := by decide +kernel
theorem dX8_needRoomForComment_7 : decode cX8_needRoomForComment 7 = .ok (.ifCond .eq 14, 3) := by decide +kernel
theorem dX8_needRoomForComment_10 : decode cX8_needRoomForComment 10 = .ok (.new 66, 3) := by decide +kernel
theorem dX8_needRoomForComment_13 : decode cX8_needRoomForComment 13 = .ok (.dup, 1) := by decide +kernel
theorem dX8_needRoomForComment_14 : decode cX8_needRoomForComment 14 = .ok (.ldc_w 299, 3) := by decide +kernel
theorem dX8_needRoomForComment_17 : decode cX8_needRoomForComment 17 = .ok (.invokespecial 70, 3) := by decide +kernel
theorem dX8_needRoomForComment_20 : decode cX8_needRoomForComment 20 = .ok (.athrow, 1) := by decide +kernel
theorem dX8_needRoomForComment_21 : decode cX8_needRoomForComment 21 = .ok (.return_, 1) := by decide +kernel
theorem dX8_needTopic_0 : decode cX8_needTopic 0 = .ok (.iload_n 0, 1) := by decide +kernel
theorem dX8_needTopic_1 : decode cX8_needTopic 1 = .ok (.ifCond .lt 9, 3) := by decide +kernel
theorem dX8_needTopic_4 : decode cX8_needTopic 4 = .ok (.iload_n 0, 1) := by decide +kernel
theorem dX8_needTopic_5 : decode cX8_needTopic 5 = .ok (.bipush 10, 2) := by decide +kernel
theorem dX8_needTopic_7 : decode cX8_needTopic 7 = .ok (.if_icmp .lt 14, 3) := by decide +kernel
theorem dX8_needTopic_10 : decode cX8_needTopic 10 = .ok (.new 99, 3) := by decide +kernel
theorem dX8_needTopic_13 : decode cX8_needTopic 13 = .ok (.dup, 1) := by decide +kernel
theorem dX8_needTopic_14 : decode cX8_needTopic 14 = .ok (.ldc_w 301, 3) := by decide +kernel
theorem dX8_needTopic_17 : decode cX8_needTopic 17 = .ok (.invokespecial 103, 3) := by decide +kernel
theorem dX8_needTopic_20 : decode cX8_needTopic 20 = .ok (.athrow, 1) := by decide +kernel
theorem dX8_needTopic_21 : decode cX8_needTopic 21 = .ok (.return_, 1) := by decide +kernel
theorem dX8_needEdition_0 : decode cX8_needEdition 0 = .ok (.aload_n 0, 1) := by decide +kernel
theorem dX8_needEdition_1 : decode cX8_needEdition 1 = .ok (.getfield 54, 3) := by decide +kernel
theorem dX8_needEdition_4 : decode cX8_needEdition 4 = .ok (.iload_n 1, 1) := by decide +kernel
theorem dX8_needEdition_5 : decode cX8_needEdition 5 = .ok (.invokevirtual 303, 3) := by decide +kernel
theorem dX8_needEdition_8 : decode cX8_needEdition 8 = .ok (.ifCond .ne 14, 3) := by decide +kernel
theorem dX8_needEdition_11 : decode cX8_needEdition 11 = .ok (.new 99, 3) := by decide +kernel
theorem dX8_needEdition_14 : decode cX8_needEdition 14 = .ok (.dup, 1) := by decide +kernel
theorem dX8_needEdition_15 : decode cX8_needEdition 15 = .ok (.ldc_w 304, 3) := by decide +kernel
theorem dX8_needEdition_18 : decode cX8_needEdition 18 = .ok (.invokespecial 103, 3) := by decide +kernel
theorem dX8_needEdition_21 : decode cX8_needEdition 21 = .ok (.athrow, 1) := by decide +kernel
theorem dX8_needEdition_22 : decode cX8_needEdition 22 = .ok (.return_, 1) := by decide +kernel
theorem dX8_at_0 : decode cX8_at 0 = .ok (.iload_n 1, 1) := by decide +kernel
theorem dX8_at_1 : decode cX8_at 1 = .ok (.ifCond .lt 15, 3) := by decide +kernel
theorem dX8_at_4 : decode cX8_at 4 = .ok (.iload_n 1, 1) := by decide +kernel
theorem dX8_at_5 : decode cX8_at 5 = .ok (.aload_n 0, 1) := by decide +kernel
theorem dX8_at_6 : decode cX8_at 6 = .ok (.arraylength, 1) := by decide +kernel
theorem dX8_at_7 : decode cX8_at 7 = .ok (.if_icmp .ge 9, 3) := by decide +kernel
theorem dX8_at_10 : decode cX8_at 10 = .ok (.aload_n 0, 1) := by decide +kernel
theorem dX8_at_11 : decode cX8_at 11 = .ok (.iload_n 1, 1) := by decide +kernel
theorem dX8_at_12 : decode cX8_at 12 = .ok (.iaload, 1) := by decide +kernel
theorem dX8_at_13 : decode cX8_at 13 = .ok (.goto 4, 3) := by decide +kernel
theorem dX8_at_16 : decode cX8_at 16 = .ok (.iconst (-1), 1) := by decide +kernel
theorem dX8_at_17 : decode cX8_at 17 = .ok (.ireturn, 1) := by decide +kernel
theorem dJ6_bitCount_0f7a4_0 : decode cJ6_bitCount_0f7a4 0 = .ok (.iload_n 0, 1) := by decide +kernel
theorem dJ6_bitCount_0f7a4_1 : decode cJ6_bitCount_0f7a4 1 = .ok (.iload_n 0, 1) := by decide +kernel
theorem dJ6_bitCount_0f7a4_2 : decode cJ6_bitCount_0f7a4 2 = .ok (.iconst 1, 1) := by decide +kernel
theorem dJ6_bitCount_0f7a4_3 : decode cJ6_bitCount_0f7a4 3 = .ok (.iushr, 1) := by decide +kernel
theorem dJ6_bitCount_0f7a4_4 : decode cJ6_bitCount_0f7a4 4 = .ok (.ldc_w 265, 3) := by decide +kernel
theorem dJ6_bitCount_0f7a4_7 : decode cJ6_bitCount_0f7a4 7 = .ok (.iand, 1) := by decide +kernel
theorem dJ6_bitCount_0f7a4_8 : decode cJ6_bitCount_0f7a4 8 = .ok (.isub, 1) := by decide +kernel
theorem dJ6_bitCount_0f7a4_9 : decode cJ6_bitCount_0f7a4 9 = .ok (.istore_n 0, 1) := by decide +kernel
theorem dJ6_bitCount_0f7a4_10 : decode cJ6_bitCount_0f7a4 10 = .ok (.iload_n 0, 1) := by decide +kernel
theorem dJ6_bitCount_0f7a4_11 : decode cJ6_bitCount_0f7a4 11 = .ok (.ldc_w 266, 3) := by decide +kernel
theorem dJ6_bitCount_0f7a4_14 : decode cJ6_bitCount_0f7a4 14 = .ok (.iand, 1) := by decide +kernel
theorem dJ6_bitCount_0f7a4_15 : decode cJ6_bitCount_0f7a4 15 = .ok (.iload_n 0, 1) := by decide +kernel
theorem dJ6_bitCount_0f7a4_16 : decode cJ6_bitCount_0f7a4 16 = .ok (.iconst 2, 1) := by decide +kernel
theorem dJ6_bitCount_0f7a4_17 : decode cJ6_bitCount_0f7a4 17 = .ok (.iushr, 1) := by decide +kernel
theorem dJ6_bitCount_0f7a4_18 : decode cJ6_bitCount_0f7a4 18 = .ok (.ldc_w 266, 3) := by decide +kernel
theorem dJ6_bitCount_0f7a4_21 : decode cJ6_bitCount_0f7a4 21 = .ok (.iand, 1) := by decide +kernel
theorem dJ6_bitCount_0f7a4_22 : decode cJ6_bitCount_0f7a4 22 = .ok (.iadd, 1) := by decide +kernel
theorem dJ6_bitCount_0f7a4_23 : decode cJ6_bitCount_0f7a4 23 = .ok (.istore_n 0, 1) := by decide +kernel
theorem dJ6_bitCount_0f7a4_24 : decode cJ6_bitCount_0f7a4 24 = .ok (.iload_n 0, 1) := by decide +kernel
theorem dJ6_bitCount_0f7a4_25 : decode cJ6_bitCount_0f7a4 25 = .ok (.iload_n 0, 1) := by decide +kernel
theorem dJ6_bitCount_0f7a4_26 : decode cJ6_bitCount_0f7a4 26 = .ok (.iconst 4, 1) := by decide +kernel
theorem dJ6_bitCount_0f7a4_27 : decode cJ6_bitCount_0f7a4 27 = .ok (.iushr, 1) := by decide +kernel
theorem dJ6_bitCount_0f7a4_28 : decode cJ6_bitCount_0f7a4 28 = .ok (.iadd, 1) := by decide +kernel
theorem dJ6_bitCount_0f7a4_29 : decode cJ6_bitCount_0f7a4 29 = .ok (.ldc_w 267, 3) := by decide +kernel
theorem dJ6_bitCount_0f7a4_32 : decode cJ6_bitCount_0f7a4 32 = .ok (.iand, 1) := by decide +kernel
theorem dJ6_bitCount_0f7a4_33 : decode cJ6_bitCount_0f7a4 33 = .ok (.istore_n 0, 1) := by decide +kernel
theorem dJ6_bitCount_0f7a4_34 : decode cJ6_bitCount_0f7a4 34 = .ok (.iload_n 0, 1) := by decide +kernel
theorem dJ6_bitCount_0f7a4_35 : decode cJ6_bitCount_0f7a4 35 = .ok (.iload_n 0, 1) := by decide +kernel
theorem dJ6_bitCount_0f7a4_36 : decode cJ6_bitCount_0f7a4 36 = .ok (.bipush 8, 2) := by decide +kernel
theorem dJ6_bitCount_0f7a4_38 : decode cJ6_bitCount_0f7a4 38 = .ok (.iushr, 1) := by decide +kernel
theorem dJ6_bitCount_0f7a4_39 : decode cJ6_bitCount_0f7a4 39 = .ok (.iadd, 1) := by decide +kernel
theorem dJ6_bitCount_0f7a4_40 : decode cJ6_bitCount_0f7a4 40 = .ok (.istore_n 0, 1) := by decide +kernel
theorem dJ6_bitCount_0f7a4_41 : decode cJ6_bitCount_0f7a4 41 = .ok (.iload_n 0, 1) := by decide +kernel
theorem dJ6_bitCount_0f7a4_42 : decode cJ6_bitCount_0f7a4 42 = .ok (.iload_n 0, 1) := by decide +kernel
theorem dJ6_bitCount_0f7a4_43 : decode cJ6_bitCount_0f7a4 43 = .ok (.bipush 16, 2) := by decide +kernel
theorem dJ6_bitCount_0f7a4_45 : decode cJ6_bitCount_0f7a4 45 = .ok (.iushr, 1) := by decide +kernel
theorem dJ6_bitCount_0f7a4_46 : decode cJ6_bitCount_0f7a4 46 = .ok (.iadd, 1) := by decide +kernel
theorem dJ6_bitCount_0f7a4_47 : decode cJ6_bitCount_0f7a4 47 = .ok (.istore_n 0, 1) := by decide +kernel
theorem dJ6_bitCount_0f7a4_48 : decode cJ6_bitCount_0f7a4 48 = .ok (.iload_n 0, 1) := by decide +kernel
theorem dJ6_bitCount_0f7a4_49 : decode cJ6_bitCount_0f7a4 49 = .ok (.bipush 63, 2) := by decide +kernel
theorem dJ6_bitCount_0f7a4_51 : decode cJ6_bitCount_0f7a4 51 = .ok (.iand, 1) := by decide +kernel
theorem dJ6_bitCount_0f7a4_52 : decode cJ6_bitCount_0f7a4 52 = .ok (.ireturn, 1) := by decide +kernel
theorem dJ9_abs_0f7a4_0 : decode cJ9_abs_0f7a4 0 = .ok (.iload_n 0, 1) := by decide +kernel
theorem dJ9_abs_0f7a4_1 : decode cJ9_abs_0f7a4 1 = .ok (.ifCond .ge 8, 3) := by decide +kernel
theorem dJ9_abs_0f7a4_4 : decode cJ9_abs_0f7a4 4 = .ok (.iload_n 0, 1) := by decide +kernel
theorem dJ9_abs_0f7a4_5 : decode cJ9_abs_0f7a4 5 = .ok (.ineg, 1) := by decide +kernel
theorem dJ9_abs_0f7a4_6 : decode cJ9_abs_0f7a4 6 = .ok (.goto 4, 3) := by decide +kernel
theorem dJ9_abs_0f7a4_9 : decode cJ9_abs_0f7a4 9 = .ok (.iload_n 0, 1) := by decide +kernel
theorem dJ9_abs_0f7a4_10 : decode cJ9_abs_0f7a4 10 = .ok (.ireturn, 1) := by decide +kernel
theorem dJ9_max_7cf53_0 : decode cJ9_max_7cf53 0 = .ok (.iload_n 0, 1) := by decide +kernel
theorem dJ9_max_7cf53_1 : decode cJ9_max_7cf53 1 = .ok (.iload_n 1, 1) := by decide +kernel
theorem dJ9_max_7cf53_2 : decode cJ9_max_7cf53 2 = .ok (.if_icmp .lt 7, 3) := by decide +kernel
theorem dJ9_max_7cf53_5 : decode cJ9_max_7cf53 5 = .ok (.iload_n 0, 1) := by decide +kernel
theorem dJ9_max_7cf53_6 : decode cJ9_max_7cf53 6 = .ok (.goto 4, 3) := by decide +kernel
theorem dJ9_max_7cf53_9 : decode cJ9_max_7cf53 9 = .ok (.iload_n 1, 1) := by decide +kernel
theorem dJ9_max_7cf53_10 : decode cJ9_max_7cf53 10 = .ok (.ireturn, 1) := by decide +kernel
theorem dJ9_min_7cf53_0 : decode cJ9_min_7cf53 0 = .ok (.iload_n 0, 1) := by decide +kernel
theorem dJ9_min_7cf53_1 : decode cJ9_min_7cf53 1 = .ok (.iload_n 1, 1) := by decide +kernel
theorem dJ9_min_7cf53_2 : decode cJ9_min_7cf53 2 = .ok (.if_icmp .gt 7, 3) := by decide +kernel
theorem dJ9_min_7cf53_5 : decode cJ9_min_7cf53 5 = .ok (.iload_n 0, 1) := by decide +kernel
theorem dJ9_min_7cf53_6 : decode cJ9_min_7cf53 6 = .ok (.goto 4, 3) := by decide +kernel
theorem dJ9_min_7cf53_9 : decode cJ9_min_7cf53 9 = .ok (.iload_n 1, 1) := by decide +kernel
theorem dJ9_min_7cf53_10 : decode cJ9_min_7cf53 10 = .ok (.ireturn, 1) := by decide +kernel
theorem dJ7_fill_53178_0 : decode cJ7_fill_53178 0 = .ok (.iconst 0, 1) := by decide +kernel
theorem dJ7_fill_53178_1 : decode cJ7_fill_53178 1 = .ok (.istore_n 2, 1) := by decide +kernel
theorem dJ7_fill_53178_2 : decode cJ7_fill_53178 2 = .ok (.aload_n 0, 1) := by decide +kernel
theorem dJ7_fill_53178_3 : decode cJ7_fill_53178 3 = .ok (.arraylength, 1) := by decide +kernel
theorem dJ7_fill_53178_4 : decode cJ7_fill_53178 4 = .ok (.istore_n 3, 1) := by decide +kernel
theorem dJ7_fill_53178_5 : decode cJ7_fill_53178 5 = .ok (.iload_n 2, 1) := by decide +kernel
theorem dJ7_fill_53178_6 : decode cJ7_fill_53178 6 = .ok (.iload_n 3, 1) := by decide +kernel
theorem dJ7_fill_53178_7 : decode cJ7_fill_53178 7 = .ok (.if_icmp .ge 13, 3) := by decide +kernel
theorem dJ7_fill_53178_10 : decode cJ7_fill_53178 10 = .ok (.aload_n 0, 1) := by decide +kernel
theorem dJ7_fill_53178_11 : decode cJ7_fill_53178 11 = .ok (.iload_n 2, 1) := by decide +kernel
theorem dJ7_fill_53178_12 : decode cJ7_fill_53178 12 = .ok (.iload_n 1, 1) := by decide +kernel
theorem dJ7_fill_53178_13 : decode cJ7_fill_53178 13 = .ok (.iastore, 1) := by decide +kernel
theorem dJ7_fill_53178_14 : decode cJ7_fill_53178 14 = .ok (.iinc 2 1, 3) := by decide +kernel
theorem dJ7_fill_53178_17 : decode cJ7_fill_53178 17 = .ok (.goto (-12), 3) := by decide +kernel
theorem dJ7_fill_53178_20 : decode cJ7_fill_53178 20 = .ok (.return_, 1) := by decide +kernel
end
section
theorem dX9_init_0 : decode cX9_init 0 = .ok (.aload_n 0, 1) := by decide +kernel
theorem dX9_init_1 : decode cX9_init 1 = .ok (.invokespecial 1, 3) := by decide +kernel
theorem dX9_init_4 : decode cX9_init 4 = .ok (.aload_n 0, 1) := by decide +kernel
theorem dX9_init_5 : decode cX9_init 5 = .ok (.bipush 12, 2) := by decide +kernel
theorem dX9_init_7 : decode cX9_init 7 = .ok (.newarray .int, 2) := by decide +kernel
theorem dX9_init_9 : decode cX9_init 9 = .ok (.putfield 7, 3) := by decide +kernel
theorem dX9_init_12 : decode cX9_init 12 = .ok (.aload_n 0, 1) := by decide +kernel
theorem dX9_init_13 : decode cX9_init 13 = .ok (.sipush 240, 3) := by decide +kernel
theorem dX9_init_16 : decode cX9_init 16 = .ok (.newarray .int, 2) := by decide +kernel
theorem dX9_init_18 : decode cX9_init 18 = .ok (.putfield 13, 3) := by decide +kernel
theorem dX9_init_21 : decode cX9_init 21 = .ok (.aload_n 0, 1) := by decide +kernel
theorem dX9_init_22 : decode cX9_init 22 = .ok (.bipush 20, 2) := by decide +kernel
theorem dX9_init_24 : decode cX9_init 24 = .ok (.newarray .int, 2) := by decide +kernel
theorem dX9_init_26 : decode cX9_init 26 = .ok (.putfield 16, 3) := by decide +kernel
theorem dX9_init_29 : decode cX9_init 29 = .ok (.aload_n 0, 1) := by decide +kernel
theorem dX9_init_30 : decode cX9_init 30 = .ok (.bipush 12, 2) := by decide +kernel
theorem dX9_init_32 : decode cX9_init 32 = .ok (.newarray .int, 2) := by decide +kernel
theorem dX9_init_34 : decode cX9_init 34 = .ok (.putfield 19, 3) := by decide +kernel
theorem dX9_init_37 : decode cX9_init 37 = .ok (.aload_n 0, 1) := by decide +kernel
theorem dX9_init_38 : decode cX9_init 38 = .ok (.bipush 12, 2) := by decide +kernel
theorem dX9_init_40 : decode cX9_init 40 = .ok (.newarray .int, 2) := by decide +kernel
theorem dX9_init_42 : decode cX9_init 42 = .ok (.putfield 22, 3) := by decide +kernel
theorem dX9_init_45 : decode cX9_init 45 = .ok (.aload_n 0, 1) := by decide +kernel
theorem dX9_init_46 : decode cX9_init 46 = .ok (.bipush 12, 2) := by decide +kernel
theorem dX9_init_48 : decode cX9_init 48 = .ok (.newarray .int, 2) := by decide +kernel
theorem dX9_init_50 : decode cX9_init 50 = .ok (.putfield 25, 3) := by decide +kernel
theorem dX9_init_53 : decode cX9_init 53 = .ok (.aload_n 0, 1) := by decide +kernel
theorem dX9_init_54 : decode cX9_init 54 = .ok (.bipush 60, 2) := by decide +kernel
theorem dX9_init_56 : decode cX9_init 56 = .ok (.newarray .int, 2) := by decide +kernel
theorem dX9_init_58 : decode cX9_init 58 = .ok (.putfield 28, 3) := by decide +kernel
theorem dX9_init_61 : decode cX9_init 61 = .ok (.aload_n 0, 1) := by decide +kernel
theorem dX9_init_62 : decode cX9_init 62 = .ok (.bipush 60, 2) := by decide +kernel
theorem dX9_init_64 : decode cX9_init 64 = .ok (.newarray .int, 2) := by decide +kernel
theorem dX9_init_66 : decode cX9_init 66 = .ok (.putfield 31, 3) := by decide +kernel
theorem dX9_init_69 : decode cX9_init 69 = .ok (.aload_n 0, 1) := by decide +kernel
theorem dX9_init_70 : decode cX9_init 70 = .ok (.bipush 60, 2) := by decide +kernel
theorem dX9_init_72 : decode cX9_init 72 = .ok (.newarray .int, 2) := by decide +kernel
theorem dX9_init_74 : decode cX9_init 74 = .ok (.putfield 34, 3) := by decide +kernel
theorem dX9_init_77 : decode cX9_init 77 = .ok (.aload_n 0, 1) := by decide +kernel
theorem dX9_init_78 : decode cX9_init 78 = .ok (.bipush 60, 2) := by decide +kernel
theorem dX9_init_80 : decode cX9_init 80 = .ok (.newarray .int, 2) := by decide +kernel
theorem dX9_init_82 : decode cX9_init 82 = .ok (.putfield 37, 3) := by decide +kernel
theorem dX9_init_85 : decode cX9_init 85 = .ok (.aload_n 0, 1) := by decide +kernel
theorem dX9_init_86 : decode cX9_init 86 = .ok (.bipush 60, 2) := by decide +kernel
theorem dX9_init_88 : decode cX9_init 88 = .ok (.newarray .int, 2) := by decide +kernel
theorem dX9_init_90 : decode cX9_init 90 = .ok (.putfield 40, 3) := by decide +kernel
theorem dX9_init_93 : decode cX9_init 93 = .ok (.aload_n 0, 1) := by decide +kernel
theorem dX9_init_94 : decode cX9_init 94 = .ok (.bipush 60, 2) := by decide +kernel
theorem dX9_init_96 : decode cX9_init 96 = .ok (.newarray .int, 2) := by decide +kernel
theorem dX9_init_98 : decode cX9_init 98 = .ok (.putfield 43, 3) := by decide +kernel
theorem dX9_init_101 : decode cX9_init 101 = .ok (.aload_n 0, 1) := by decide +kernel
theorem dX9_init_102 : decode cX9_init 102 = .ok (.bipush 60, 2) := by decide +kernel
theorem dX9_init_104 : decode cX9_init 104 = .ok (.newarray .int, 2) := by decide +kernel
theorem dX9_init_106 : decode cX9_init 106 = .ok (.putfield 46, 3) := by decide +kernel
theorem dX9_init_109 : decode cX9_init 109 = .ok (.aload_n 0, 1) := by decide +kernel
theorem dX9_init_110 : decode cX9_init 110 = .ok (.bipush 60, 2) := by decide +kernel
theorem dX9_init_112 : decode cX9_init 112 = .ok (.newarray .boolean, 2) := by decide +kernel
theorem dX9_init_114 : decode cX9_init 114 = .ok (.putfield 49, 3) := by decide +kernel
theorem dX9_init_117 : decode cX9_init 117 = .ok (.aload_n 0, 1) := by decide +kernel
theorem dX9_init_118 : decode cX9_init 118 = .ok (.bipush 60, 2) := by decide +kernel
theorem dX9_init_120 : decode cX9_init 120 = .ok (.newarray .int, 2) := by decide +kernel
theorem dX9_init_122 : decode cX9_init 122 = .ok (.putfield 53, 3) := by decide +kernel
theorem dX9_init_125 : decode cX9_init 125 = .ok (.aload_n 0, 1) := by decide +kernel
theorem dX9_init_126 : decode cX9_init 126 = .ok (.bipush 60, 2) := by decide +kernel
theorem dX9_init_128 : decode cX9_init 128 = .ok (.newarray .int, 2) := by decide +kernel
theorem dX9_init_130 : decode cX9_init 130 = .ok (.putfield 56, 3) := by decide +kernel
theorem dX9_init_133 : decode cX9_init 133 = .ok (.aload_n 0, 1) := by decide +kernel
theorem dX9_init_134 : decode cX9_init 134 = .ok (.bipush 60, 2) := by decide +kernel
theorem dX9_init_136 : decode cX9_init 136 = .ok (.newarray .boolean, 2) := by decide +kernel
theorem dX9_init_138 : decode cX9_init 138 = .ok (.putfield 59, 3) := by decide +kernel
theorem dX9_init_141 : decode cX9_init 141 = .ok (.aload_n 0, 1) := by decide +kernel
theorem dX9_init_142 : decode cX9_init 142 = .ok (.bipush 120, 2) := by decide +kernel
theorem dX9_init_144 : decode cX9_init 144 = .ok (.newarray .int, 2) := by decide +kernel
theorem dX9_init_146 : decode cX9_init 146 = .ok (.putfield 62, 3) := by decide +kernel
theorem dX9_init_149 : decode cX9_init 149 = .ok (.aload_n 0, 1) := by decide +kernel
theorem dX9_init_150 : decode cX9_init 150 = .ok (.bipush 6, 2) := by decide +kernel
theorem dX9_init_152 : decode cX9_init 152 = .ok (.newarray .int, 2) := by decide +kernel
theorem dX9_init_154 : decode cX9_init 154 = .ok (.putfield 65, 3) := by decide +kernel
theorem dX9_init_157 : decode cX9_init 157 = .ok (.aload_n 0, 1) := by decide +kernel
theorem dX9_init_158 : decode cX9_init 158 = .ok (.bipush 6, 2) := by decide +kernel
theorem dX9_init_160 : decode cX9_init 160 = .ok (.newarray .int, 2) := by decide +kernel
theorem dX9_init_162 : decode cX9_init 162 = .ok (.putfield 68, 3) := by decide +kernel
theorem dX9_init_165 : decode cX9_init 165 = .ok (.aload_n 0, 1) := by decide +kernel
theorem dX9_init_166 : decode cX9_init 166 = .ok (.bipush 8, 2) := by decide +kernel
theorem dX9_init_168 : decode cX9_init 168 = .ok (.newarray .int, 2) := by decide +kernel
theorem dX9_init_170 : decode cX9_init 170 = .ok (.putfield 71, 3) := by decide +kernel
theorem dX9_init_173 : decode cX9_init 173 = .ok (.aload_n 0, 1) := by decide +kernel
theorem dX9_init_174 : decode cX9_init 174 = .ok (.bipush 8, 2) := by decide +kernel
theorem dX9_init_176 : decode cX9_init 176 = .ok (.newarray .int, 2) := by decide +kernel
theorem dX9_init_178 : decode cX9_init 178 = .ok (.putfield 74, 3) := by decide +kernel
theorem dX9_init_181 : decode cX9_init 181 = .ok (.aload_n 0, 1) := by decide +kernel
theorem dX9_init_182 : decode cX9_init 182 = .ok (.sipush 160, 3) := by decide +kernel
theorem dX9_init_185 : decode cX9_init 185 = .ok (.newarray .int, 2) := by decide +kernel
theorem dX9_init_187 : decode cX9_init 187 = .ok (.putfield 77, 3) := by decide +kernel
theorem dX9_init_190 : decode cX9_init 190 = .ok (.aload_n 0, 1) := by decide +kernel
theorem dX9_init_191 : decode cX9_init 191 = .ok (.bipush 20, 2) := by decide +kernel
theorem dX9_init_193 : decode cX9_init 193 = .ok (.newarray .int, 2) := by decide +kernel
theorem dX9_init_195 : decode cX9_init 195 = .ok (.putfield 80, 3) := by decide +kernel
theorem dX9_init_198 : decode cX9_init 198 = .ok (.aload_n 0, 1) := by decide +kernel
theorem dX9_init_199 : decode cX9_init 199 = .ok (.bipush 60, 2) := by decide +kernel
theorem dX9_init_201 : decode cX9_init 201 = .ok (.newarray .int, 2) := by decide +kernel
theorem dX9_init_203 : decode cX9_init 203 = .ok (.putfield 83, 3) := by decide +kernel
theorem dX9_init_206 : decode cX9_init 206 = .ok (.aload_n 0, 1) := by decide +kernel
theorem dX9_init_207 : decode cX9_init 207 = .ok (.bipush 13, 2) := by decide +kernel
theorem dX9_init_209 : decode cX9_init 209 = .ok (.newarray .int, 2) := by decide +kernel
theorem dX9_init_211 : decode cX9_init 211 = .ok (.putfield 86, 3) := by decide +kernel
theorem dX9_init_214 : decode cX9_init 214 = .ok (.iconst 0, 1) := by decide +kernel
theorem dX9_init_215 : decode cX9_init 215 = .ok (.istore_n 1, 1) := by decide +kernel
theorem dX9_init_216 : decode cX9_init 216 = .ok (.iload_n 1, 1) := by decide +kernel
theorem dX9_init_217 : decode cX9_init 217 = .ok (.bipush 120, 2) := by decide +kernel
theorem dX9_init_219 : decode cX9_init 219 = .ok (.if_icmp .ge 16, 3) := by decide +kernel
theorem dX9_init_222 : decode cX9_init 222 = .ok (.aload_n 0, 1) := by decide +kernel
theorem dX9_init_223 : decode cX9_init 223 = .ok (.getfield 62, 3) := by decide +kernel
theorem dX9_init_226 : decode cX9_init 226 = .ok (.iload_n 1, 1) := by decide +kernel
theorem dX9_init_227 : decode cX9_init 227 = .ok (.iconst (-1), 1) := by decide +kernel
theorem dX9_init_228 : decode cX9_init 228 = .ok (.iastore, 1) := by decide +kernel
theorem dX9_init_229 : decode cX9_init 229 = .ok (.iinc 1 1, 3) := by decide +kernel
theorem dX9_init_232 : decode cX9_init 232 = .ok (.goto (-16), 3) := by decide +kernel
theorem dX9_init_235 : decode cX9_init 235 = .ok (.return_, 1) := by decide +kernel
theorem dX9_thrown_0 : decode cX9_thrown 0 = .ok (.aload_n 0, 1) := by decide +kernel
theorem dX9_thrown_1 : decode cX9_thrown 1 = .ok (.getfield 89, 3) := by decide +kernel
theorem dX9_thrown_4 : decode cX9_thrown 4 = .ok (.ireturn, 1) := by decide +kernel
theorem dX9_between_0 : decode cX9_between 0 = .ok (.iload_n 1, 1) := by decide +kernel
theorem dX9_between_1 : decode cX9_between 1 = .ok (.iload_n 2, 1) := by decide +kernel
theorem dX9_between_2 : decode cX9_between 2 = .ok (.if_icmp .lt 12, 3) := by decide +kernel
theorem dX9_between_5 : decode cX9_between 5 = .ok (.iload_n 1, 1) := by decide +kernel
theorem dX9_between_6 : decode cX9_between 6 = .ok (.iload_n 3, 1) := by decide +kernel
theorem dX9_between_7 : decode cX9_between 7 = .ok (.if_icmp .gt 7, 3) := by decide +kernel
theorem dX9_between_10 : decode cX9_between 10 = .ok (.iconst 1, 1) := by decide +kernel
theorem dX9_between_11 : decode cX9_between 11 = .ok (.goto 4, 3) := by decide +kernel
theorem dX9_between_14 : decode cX9_between 14 = .ok (.iconst 0, 1) := by decide +kernel
theorem dX9_between_15 : decode cX9_between 15 = .ok (.ireturn, 1) := by decide +kernel
theorem dX9_isUnit_0 : decode cX9_isUnit 0 = .ok (.aload_n 0, 1) := by decide +kernel
theorem dX9_isUnit_1 : decode cX9_isUnit 1 = .ok (.iload_n 1, 1) := by decide +kernel
theorem dX9_isUnit_2 : decode cX9_isUnit 2 = .ok (.iconst 0, 1) := by decide +kernel
theorem dX9_isUnit_3 : decode cX9_isUnit 3 = .ok (.aload_n 0, 1) := by decide +kernel
theorem dX9_isUnit_4 : decode cX9_isUnit 4 = .ok (.getfield 93, 3) := by decide +kernel
theorem dX9_isUnit_7 : decode cX9_isUnit 7 = .ok (.iconst 1, 1) := by decide +kernel
theorem dX9_isUnit_8 : decode cX9_isUnit 8 = .ok (.isub, 1) := by decide +kernel
theorem dX9_isUnit_9 : decode cX9_isUnit 9 = .ok (.invokevirtual 96, 3) := by decide +kernel
theorem dX9_isUnit_12 : decode cX9_isUnit 12 = .ok (.ireturn, 1) := by decide +kernel
theorem dX9_isAuthor_0 : decode cX9_isAuthor 0 = .ok (.aload_n 0, 1) := by decide +kernel
theorem dX9_isAuthor_1 : decode cX9_isAuthor 1 = .ok (.iload_n 1, 1) := by decide +kernel
theorem dX9_isAuthor_2 : decode cX9_isAuthor 2 = .ok (.iconst 0, 1) := by decide +kernel
theorem dX9_isAuthor_3 : decode cX9_isAuthor 3 = .ok (.aload_n 0, 1) := by decide +kernel
theorem dX9_isAuthor_4 : decode cX9_isAuthor 4 = .ok (.getfield 100, 3) := by decide +kernel
theorem dX9_isAuthor_7 : decode cX9_isAuthor 7 = .ok (.iconst 1, 1) := by decide +kernel
theorem dX9_isAuthor_8 : decode cX9_isAuthor 8 = .ok (.isub, 1) := by decide +kernel
theorem dX9_isAuthor_9 : decode cX9_isAuthor 9 = .ok (.invokevirtual 96, 3) := by decide +kernel
theorem dX9_isAuthor_12 : decode cX9_isAuthor 12 = .ok (.ireturn, 1) := by decide +kernel
theorem dX9_isComment_0 : decode cX9_isComment 0 = .ok (.aload_n 0, 1) := by decide +kernel
theorem dX9_isComment_1 : decode cX9_isComment 1 = .ok (.iload_n 1, 1) := by decide +kernel
theorem dX9_isComment_2 : decode cX9_isComment 2 = .ok (.iconst 0, 1) := by decide +kernel
theorem dX9_isComment_3 : decode cX9_isComment 3 = .ok (.aload_n 0, 1) := by decide +kernel
theorem dX9_isComment_4 : decode cX9_isComment 4 = .ok (.getfield 103, 3) := by decide +kernel
theorem dX9_isComment_7 : decode cX9_isComment 7 = .ok (.iconst 1, 1) := by decide +kernel
theorem dX9_isComment_8 : decode cX9_isComment 8 = .ok (.isub, 1) := by decide +kernel
theorem dX9_isComment_9 : decode cX9_isComment 9 = .ok (.invokevirtual 96, 3) := by decide +kernel
theorem dX9_isComment_12 : decode cX9_isComment 12 = .ok (.ireturn, 1) := by decide +kernel
theorem dX9_word_0 : decode cX9_word 0 = .ok (.aload_n 0, 1) := by decide +kernel
theorem dX9_word_1 : decode cX9_word 1 = .ok (.aload_n 0, 1) := by decide +kernel
theorem dX9_word_2 : decode cX9_word 2 = .ok (.iload_n 1, 1) := by decide +kernel
theorem dX9_word_3 : decode cX9_word 3 = .ok (.iconst 0, 1) := by decide +kernel
theorem dX9_word_4 : decode cX9_word 4 = .ok (.bipush 59, 2) := by decide +kernel
theorem dX9_word_6 : decode cX9_word 6 = .ok (.invokevirtual 96, 3) := by decide +kernel
theorem dX9_word_9 : decode cX9_word 9 = .ok (.ifCond .ne 7, 3) := by decide +kernel
theorem dX9_word_12 : decode cX9_word 12 = .ok (.iconst 1, 1) := by decide +kernel
theorem dX9_word_13 : decode cX9_word 13 = .ok (.goto 17, 3) := by decide +kernel
theorem dX9_word_16 : decode cX9_word 16 = .ok (.aload_n 0, 1) := by decide +kernel
theorem dX9_word_17 : decode cX9_word 17 = .ok (.getfield 106, 3) := by decide +kernel
theorem dX9_word_20 : decode cX9_word 20 = .ok (.bipush 12, 2) := by decide +kernel
theorem dX9_word_22 : decode cX9_word 22 = .ok (.if_icmp .ne 7, 3) := by decide +kernel
theorem dX9_word_25 : decode cX9_word 25 = .ok (.iconst 2, 1) := by decide +kernel
theorem dX9_word_26 : decode cX9_word 26 = .ok (.goto 4, 3) := by decide +kernel
theorem dX9_word_29 : decode cX9_word 29 = .ok (.iconst 0, 1) := by decide +kernel
theorem dX9_word_30 : decode cX9_word 30 = .ok (.putfield 89, 3) := by decide +kernel
theorem dX9_word_33 : decode cX9_word 33 = .ok (.aload_n 0, 1) := by decide +kernel
theorem dX9_word_34 : decode cX9_word 34 = .ok (.getfield 89, 3) := by decide +kernel
theorem dX9_word_37 : decode cX9_word 37 = .ok (.ifCond .le 5, 3) := by decide +kernel
theorem dX9_word_40 : decode cX9_word 40 = .ok (.iconst 0, 1) := by decide +kernel
theorem dX9_word_41 : decode cX9_word 41 = .ok (.ireturn, 1) := by decide +kernel
theorem dX9_word_42 : decode cX9_word 42 = .ok (.aload_n 0, 1) := by decide +kernel
theorem dX9_word_43 : decode cX9_word 43 = .ok (.getfield 7, 3) := by decide +kernel
theorem dX9_word_46 : decode cX9_word 46 = .ok (.aload_n 0, 1) := by decide +kernel
theorem dX9_word_47 : decode cX9_word 47 = .ok (.getfield 106, 3) := by decide +kernel
theorem dX9_word_50 : decode cX9_word 50 = .ok (.iload_n 1, 1) := by decide +kernel
theorem dX9_word_51 : decode cX9_word 51 = .ok (.iastore, 1) := by decide +kernel
theorem dX9_word_52 : decode cX9_word 52 = .ok (.aload_n 0, 1) := by decide +kernel
theorem dX9_word_53 : decode cX9_word 53 = .ok (.dup, 1) := by decide +kernel
theorem dX9_word_54 : decode cX9_word 54 = .ok (.getfield 106, 3) := by decide +kernel
theorem dX9_word_57 : decode cX9_word 57 = .ok (.iconst 1, 1) := by decide +kernel
theorem dX9_word_58 : decode cX9_word 58 = .ok (.iadd, 1) := by decide +kernel
theorem dX9_word_59 : decode cX9_word 59 = .ok (.putfield 106, 3) := by decide +kernel
theorem dX9_word_62 : decode cX9_word 62 = .ok (.aload_n 0, 1) := by decide +kernel
theorem dX9_word_63 : decode cX9_word 63 = .ok (.getfield 106, 3) := by decide +kernel
theorem dX9_word_66 : decode cX9_word 66 = .ok (.ireturn, 1) := by decide +kernel
theorem dX9_wipe_0 : decode cX9_wipe 0 = .ok (.aload_n 0, 1) := by decide +kernel
theorem dX9_wipe_1 : decode cX9_wipe 1 = .ok (.iconst 0, 1) := by decide +kernel
theorem dX9_wipe_2 : decode cX9_wipe 2 = .ok (.putfield 89, 3) := by decide +kernel
theorem dX9_wipe_5 : decode cX9_wipe 5 = .ok (.aload_n 0, 1) := by decide +kernel
theorem dX9_wipe_6 : decode cX9_wipe 6 = .ok (.getfield 106, 3) := by decide +kernel
theorem dX9_wipe_9 : decode cX9_wipe 9 = .ok (.istore_n 1, 1) := by decide +kernel
theorem dX9_wipe_10 : decode cX9_wipe 10 = .ok (.aload_n 0, 1) := by decide +kernel
theorem dX9_wipe_11 : decode cX9_wipe 11 = .ok (.iconst 0, 1) := by decide +kernel
theorem dX9_wipe_12 : decode cX9_wipe 12 = .ok (.putfield 106, 3) := by decide +kernel
theorem dX9_wipe_15 : decode cX9_wipe 15 = .ok (.iload_n 1, 1) := by decide +kernel
theorem dX9_wipe_16 : decode cX9_wipe 16 = .ok (.ireturn, 1) := by decide +kernel
theorem dX9_unit_0 : decode cX9_unit 0 = .ok (.aload_n 0, 1) := by decide +kernel
theorem dX9_unit_1 : decode cX9_unit 1 = .ok (.aload_n 0, 1) := by decide +kernel
theorem dX9_unit_2 : decode cX9_unit 2 = .ok (.getfield 106, 3) := by decide +kernel
theorem dX9_unit_5 : decode cX9_unit 5 = .ok (.ifCond .eq 12, 3) := by decide +kernel
theorem dX9_unit_8 : decode cX9_unit 8 = .ok (.aload_n 0, 1) := by decide +kernel
theorem dX9_unit_9 : decode cX9_unit 9 = .ok (.getfield 93, 3) := by decide +kernel
theorem dX9_unit_12 : decode cX9_unit 12 = .ok (.bipush 20, 2) := by decide +kernel
theorem dX9_unit_14 : decode cX9_unit 14 = .ok (.if_icmp .ne 7, 3) := by decide +kernel
theorem dX9_unit_17 : decode cX9_unit 17 = .ok (.iconst 1, 1) := by decide +kernel
theorem dX9_unit_18 : decode cX9_unit 18 = .ok (.goto 4, 3) := by decide +kernel
theorem dX9_unit_21 : decode cX9_unit 21 = .ok (.iconst 0, 1) := by decide +kernel
theorem dX9_unit_22 : decode cX9_unit 22 = .ok (.putfield 89, 3) := by decide +kernel
theorem dX9_unit_25 : decode cX9_unit 25 = .ok (.aload_n 0, 1) := by decide +kernel
theorem dX9_unit_26 : decode cX9_unit 26 = .ok (.getfield 89, 3) := by decide +kernel
theorem dX9_unit_29 : decode cX9_unit 29 = .ok (.ifCond .le 5, 3) := by decide +kernel
theorem dX9_unit_32 : decode cX9_unit 32 = .ok (.iconst 0, 1) := by decide +kernel
theorem dX9_unit_33 : decode cX9_unit 33 = .ok (.ireturn, 1) := by decide +kernel
theorem dX9_unit_34 : decode cX9_unit 34 = .ok (.iconst 0, 1) := by decide +kernel
theorem dX9_unit_35 : decode cX9_unit 35 = .ok (.istore_n 1, 1) := by decide +kernel
theorem dX9_unit_36 : decode cX9_unit 36 = .ok (.iload_n 1, 1) := by decide +kernel
theorem dX9_unit_37 : decode cX9_unit 37 = .ok (.aload_n 0, 1) := by decide +kernel
theorem dX9_unit_38 : decode cX9_unit 38 = .ok (.getfield 106, 3) := by decide +kernel
theorem dX9_unit_41 : decode cX9_unit 41 = .ok (.if_icmp .ge 29, 3) := by decide +kernel
theorem dX9_unit_44 : decode cX9_unit 44 = .ok (.aload_n 0, 1) := by decide +kernel
theorem dX9_unit_45 : decode cX9_unit 45 = .ok (.getfield 13, 3) := by decide +kernel
theorem dX9_unit_48 : decode cX9_unit 48 = .ok (.bipush 12, 2) := by decide +kernel
theorem dX9_unit_50 : decode cX9_unit 50 = .ok (.aload_n 0, 1) := by decide +kernel
theorem dX9_unit_51 : decode cX9_unit 51 = .ok (.getfield 93, 3) := by decide +kernel
theorem dX9_unit_54 : decode cX9_unit 54 = .ok (.imul, 1) := by decide +kernel
theorem dX9_unit_55 : decode cX9_unit 55 = .ok (.iload_n 1, 1) := by decide +kernel
theorem dX9_unit_56 : decode cX9_unit 56 = .ok (.iadd, 1) := by decide +kernel
theorem dX9_unit_57 : decode cX9_unit 57 = .ok (.aload_n 0, 1) := by decide +kernel
theorem dX9_unit_58 : decode cX9_unit 58 = .ok (.getfield 7, 3) := by decide +kernel
theorem dX9_unit_61 : decode cX9_unit 61 = .ok (.iload_n 1, 1) := by decide +kernel
theorem dX9_unit_62 : decode cX9_unit 62 = .ok (.iaload, 1) := by decide +kernel
theorem dX9_unit_63 : decode cX9_unit 63 = .ok (.iastore, 1) := by decide +kernel
theorem dX9_unit_64 : decode cX9_unit 64 = .ok (.iinc 1 1, 3) := by decide +kernel
theorem dX9_unit_67 : decode cX9_unit 67 = .ok (.goto (-31), 3) := by decide +kernel
theorem dX9_unit_70 : decode cX9_unit 70 = .ok (.aload_n 0, 1) := by decide +kernel
theorem dX9_unit_71 : decode cX9_unit 71 = .ok (.getfield 16, 3) := by decide +kernel
theorem dX9_unit_74 : decode cX9_unit 74 = .ok (.aload_n 0, 1) := by decide +kernel
theorem dX9_unit_75 : decode cX9_unit 75 = .ok (.getfield 93, 3) := by decide +kernel
theorem dX9_unit_78 : decode cX9_unit 78 = .ok (.aload_n 0, 1) := by decide +kernel
theorem dX9_unit_79 : decode cX9_unit 79 = .ok (.getfield 106, 3) := by decide +kernel
theorem dX9_unit_82 : decode cX9_unit 82 = .ok (.iastore, 1) := by decide +kernel
theorem dX9_unit_83 : decode cX9_unit 83 = .ok (.aload_n 0, 1) := by decide +kernel
theorem dX9_unit_84 : decode cX9_unit 84 = .ok (.iconst 0, 1) := by decide +kernel
theorem dX9_unit_85 : decode cX9_unit 85 = .ok (.putfield 106, 3) := by decide +kernel
theorem dX9_unit_88 : decode cX9_unit 88 = .ok (.aload_n 0, 1) := by decide +kernel
theorem dX9_unit_89 : decode cX9_unit 89 = .ok (.dup, 1) := by decide +kernel
theorem dX9_unit_90 : decode cX9_unit 90 = .ok (.getfield 93, 3) := by decide +kernel
theorem dX9_unit_93 : decode cX9_unit 93 = .ok (.iconst 1, 1) := by decide +kernel
theorem dX9_unit_94 : decode cX9_unit 94 = .ok (.iadd, 1) := by decide +kernel
theorem dX9_unit_95 : decode cX9_unit 95 = .ok (.putfield 93, 3) := by decide +kernel
theorem dX9_unit_98 : decode cX9_unit 98 = .ok (.aload_n 0, 1) := by decide +kernel
theorem dX9_unit_99 : decode cX9_unit 99 = .ok (.getfield 93, 3) := by decide +kernel
theorem dX9_unit_102 : decode cX9_unit 102 = .ok (.iconst 1, 1) := by decide +kernel
theorem dX9_unit_103 : decode cX9_unit 103 = .ok (.isub, 1) := by decide +kernel
theorem dX9_unit_104 : decode cX9_unit 104 = .ok (.ireturn, 1) := by decide +kernel
theorem dX9_nearest_0 : decode cX9_nearest 0 = .ok (.iconst (-1), 1) := by decide +kernel
theorem dX9_nearest_1 : decode cX9_nearest 1 = .ok (.istore 4, 2) := by decide +kernel
theorem dX9_nearest_3 : decode cX9_nearest 3 = .ok (.bipush 99, 2) := by decide +kernel
theorem dX9_nearest_5 : decode cX9_nearest 5 = .ok (.istore 5, 2) := by decide +kernel
theorem dX9_nearest_7 : decode cX9_nearest 7 = .ok (.iconst 0, 1) := by decide +kernel
theorem dX9_nearest_8 : decode cX9_nearest 8 = .ok (.istore 6, 2) := by decide +kernel
theorem dX9_nearest_10 : decode cX9_nearest 10 = .ok (.iload 6, 2) := by decide +kernel
theorem dX9_nearest_12 : decode cX9_nearest 12 = .ok (.aload_n 0, 1) := by decide +kernel
theorem dX9_nearest_13 : decode cX9_nearest 13 = .ok (.getfield 16, 3) := by decide +kernel
theorem dX9_nearest_16 : decode cX9_nearest 16 = .ok (.iload_n 1, 1) := by decide +kernel
theorem dX9_nearest_17 : decode cX9_nearest 17 = .ok (.iaload, 1) := by decide +kernel
theorem dX9_nearest_18 : decode cX9_nearest 18 = .ok (.if_icmp .ge 59, 3) := by decide +kernel
theorem dX9_nearest_21 : decode cX9_nearest 21 = .ok (.iload 6, 2) := by decide +kernel
theorem dX9_nearest_23 : decode cX9_nearest 23 = .ok (.iload_n 3, 1) := by decide +kernel
theorem dX9_nearest_24 : decode cX9_nearest 24 = .ok (.if_icmp .ge 10, 3) := by decide +kernel
theorem dX9_nearest_27 : decode cX9_nearest 27 = .ok (.iload_n 3, 1) := by decide +kernel
theorem dX9_nearest_28 : decode cX9_nearest 28 = .ok (.iload 6, 2) := by decide +kernel
theorem dX9_nearest_30 : decode cX9_nearest 30 = .ok (.isub, 1) := by decide +kernel
theorem dX9_nearest_31 : decode cX9_nearest 31 = .ok (.goto 7, 3) := by decide +kernel
theorem dX9_nearest_34 : decode cX9_nearest 34 = .ok (.iload 6, 2) := by decide +kernel
theorem dX9_nearest_36 : decode cX9_nearest 36 = .ok (.iload_n 3, 1) := by decide +kernel
theorem dX9_nearest_37 : decode cX9_nearest 37 = .ok (.isub, 1) := by decide +kernel
theorem dX9_nearest_38 : decode cX9_nearest 38 = .ok (.istore 7, 2) := by decide +kernel
theorem dX9_nearest_40 : decode cX9_nearest 40 = .ok (.aload_n 0, 1) := by decide +kernel
theorem dX9_nearest_41 : decode cX9_nearest 41 = .ok (.getfield 13, 3) := by decide +kernel
theorem dX9_nearest_44 : decode cX9_nearest 44 = .ok (.bipush 12, 2) := by decide +kernel
theorem dX9_nearest_46 : decode cX9_nearest 46 = .ok (.iload_n 1, 1) := by decide +kernel
theorem dX9_nearest_47 : decode cX9_nearest 47 = .ok (.imul, 1) := by decide +kernel
theorem dX9_nearest_48 : decode cX9_nearest 48 = .ok (.iload 6, 2) := by decide +kernel
theorem dX9_nearest_50 : decode cX9_nearest 50 = .ok (.iadd, 1) := by decide +kernel
theorem dX9_nearest_51 : decode cX9_nearest 51 = .ok (.iaload, 1) := by decide +kernel
theorem dX9_nearest_52 : decode cX9_nearest 52 = .ok (.iload_n 2, 1) := by decide +kernel
theorem dX9_nearest_53 : decode cX9_nearest 53 = .ok (.if_icmp .ne 18, 3) := by decide +kernel
theorem dX9_nearest_56 : decode cX9_nearest 56 = .ok (.iload 7, 2) := by decide +kernel
theorem dX9_nearest_58 : decode cX9_nearest 58 = .ok (.iload 5, 2) := by decide +kernel
theorem dX9_nearest_60 : decode cX9_nearest 60 = .ok (.if_icmp .ge 11, 3) := by decide +kernel
theorem dX9_nearest_63 : decode cX9_nearest 63 = .ok (.iload 6, 2) := by decide +kernel
theorem dX9_nearest_65 : decode cX9_nearest 65 = .ok (.istore 4, 2) := by decide +kernel
theorem dX9_nearest_67 : decode cX9_nearest 67 = .ok (.iload 7, 2) := by decide +kernel
theorem dX9_nearest_69 : decode cX9_nearest 69 = .ok (.istore 5, 2) := by decide +kernel
theorem dX9_nearest_71 : decode cX9_nearest 71 = .ok (.iinc 6 1, 3) := by decide +kernel
theorem dX9_nearest_74 : decode cX9_nearest 74 = .ok (.goto (-64), 3) := by decide +kernel
theorem dX9_nearest_77 : decode cX9_nearest 77 = .ok (.iload 4, 2) := by decide +kernel
theorem dX9_nearest_79 : decode cX9_nearest 79 = .ok (.ireturn, 1) := by decide +kernel
theorem dX9_emend_0 : decode cX9_emend 0 = .ok (.aload_n 0, 1) := by decide +kernel
theorem dX9_emend_1 : decode cX9_emend 1 = .ok (.aload_n 0, 1) := by decide +kernel
theorem dX9_emend_2 : decode cX9_emend 2 = .ok (.iload_n 1, 1) := by decide +kernel
theorem dX9_emend_3 : decode cX9_emend 3 = .ok (.invokevirtual 109, 3) := by decide +kernel
theorem dX9_emend_6 : decode cX9_emend 6 = .ok (.ifCond .eq 20, 3) := by decide +kernel
theorem dX9_emend_9 : decode cX9_emend 9 = .ok (.aload_n 0, 1) := by decide +kernel
theorem dX9_emend_10 : decode cX9_emend 10 = .ok (.iload_n 2, 1) := by decide +kernel
theorem dX9_emend_11 : decode cX9_emend 11 = .ok (.iconst 0, 1) := by decide +kernel
theorem dX9_emend_12 : decode cX9_emend 12 = .ok (.aload_n 0, 1) := by decide +kernel
theorem dX9_emend_13 : decode cX9_emend 13 = .ok (.getfield 16, 3) := by decide +kernel
theorem dX9_emend_16 : decode cX9_emend 16 = .ok (.iload_n 1, 1) := by decide +kernel
theorem dX9_emend_17 : decode cX9_emend 17 = .ok (.iaload, 1) := by decide +kernel
theorem dX9_emend_18 : decode cX9_emend 18 = .ok (.iconst 1, 1) := by decide +kernel
theorem dX9_emend_19 : decode cX9_emend 19 = .ok (.isub, 1) := by decide +kernel
theorem dX9_emend_20 : decode cX9_emend 20 = .ok (.invokevirtual 96, 3) := by decide +kernel
theorem dX9_emend_23 : decode cX9_emend 23 = .ok (.ifCond .ne 7, 3) := by decide +kernel
theorem dX9_emend_26 : decode cX9_emend 26 = .ok (.iconst 1, 1) := by decide +kernel
theorem dX9_emend_27 : decode cX9_emend 27 = .ok (.goto 38, 3) := by decide +kernel
theorem dX9_emend_30 : decode cX9_emend 30 = .ok (.aload_n 0, 1) := by decide +kernel
theorem dX9_emend_31 : decode cX9_emend 31 = .ok (.iload_n 3, 1) := by decide +kernel
theorem dX9_emend_32 : decode cX9_emend 32 = .ok (.iconst (-1), 1) := by decide +kernel
theorem dX9_emend_33 : decode cX9_emend 33 = .ok (.bipush 59, 2) := by decide +kernel
theorem dX9_emend_35 : decode cX9_emend 35 = .ok (.invokevirtual 96, 3) := by decide +kernel
theorem dX9_emend_38 : decode cX9_emend 38 = .ok (.ifCond .ne 7, 3) := by decide +kernel
theorem dX9_emend_41 : decode cX9_emend 41 = .ok (.iconst 2, 1) := by decide +kernel
theorem dX9_emend_42 : decode cX9_emend 42 = .ok (.goto 23, 3) := by decide +kernel
theorem dX9_emend_45 : decode cX9_emend 45 = .ok (.iload_n 3, 1) := by decide +kernel
theorem dX9_emend_46 : decode cX9_emend 46 = .ok (.iconst (-1), 1) := by decide +kernel
theorem dX9_emend_47 : decode cX9_emend 47 = .ok (.if_icmp .ne 17, 3) := by decide +kernel
theorem dX9_emend_50 : decode cX9_emend 50 = .ok (.aload_n 0, 1) := by decide +kernel
theorem dX9_emend_51 : decode cX9_emend 51 = .ok (.getfield 16, 3) := by decide +kernel
theorem dX9_emend_54 : decode cX9_emend 54 = .ok (.iload_n 1, 1) := by decide +kernel
theorem dX9_emend_55 : decode cX9_emend 55 = .ok (.iaload, 1) := by decide +kernel
theorem dX9_emend_56 : decode cX9_emend 56 = .ok (.iconst 1, 1) := by decide +kernel
theorem dX9_emend_57 : decode cX9_emend 57 = .ok (.if_icmp .ne 7, 3) := by decide +kernel
theorem dX9_emend_60 : decode cX9_emend 60 = .ok (.iconst 3, 1) := by decide +kernel
theorem dX9_emend_61 : decode cX9_emend 61 = .ok (.goto 4, 3) := by decide +kernel
theorem dX9_emend_64 : decode cX9_emend 64 = .ok (.iconst 0, 1) := by decide +kernel
theorem dX9_emend_65 : decode cX9_emend 65 = .ok (.putfield 89, 3) := by decide +kernel
theorem dX9_emend_68 : decode cX9_emend 68 = .ok (.aload_n 0, 1) := by decide +kernel
theorem dX9_emend_69 : decode cX9_emend 69 = .ok (.getfield 89, 3) := by decide +kernel
theorem dX9_emend_72 : decode cX9_emend 72 = .ok (.ifCond .le 5, 3) := by decide +kernel
theorem dX9_emend_75 : decode cX9_emend 75 = .ok (.iconst 0, 1) := by decide +kernel
theorem dX9_emend_76 : decode cX9_emend 76 = .ok (.ireturn, 1) := by decide +kernel
theorem dX9_emend_77 : decode cX9_emend 77 = .ok (.iload_n 3, 1) := by decide +kernel
theorem dX9_emend_78 : decode cX9_emend 78 = .ok (.iconst (-1), 1) := by decide +kernel
theorem dX9_emend_79 : decode cX9_emend 79 = .ok (.if_icmp .ne 64, 3) := by decide +kernel
theorem dX9_emend_82 : decode cX9_emend 82 = .ok (.iload_n 2, 1) := by decide +kernel
theorem dX9_emend_83 : decode cX9_emend 83 = .ok (.istore 4, 2) := by decide +kernel
theorem dX9_emend_85 : decode cX9_emend 85 = .ok (.iload 4, 2) := by decide +kernel
theorem dX9_emend_87 : decode cX9_emend 87 = .ok (.aload_n 0, 1) := by decide +kernel
theorem dX9_emend_88 : decode cX9_emend 88 = .ok (.getfield 16, 3) := by decide +kernel
theorem dX9_emend_91 : decode cX9_emend 91 = .ok (.iload_n 1, 1) := by decide +kernel
theorem dX9_emend_92 : decode cX9_emend 92 = .ok (.iaload, 1) := by decide +kernel
theorem dX9_emend_93 : decode cX9_emend 93 = .ok (.iconst 1, 1) := by decide +kernel
theorem dX9_emend_94 : decode cX9_emend 94 = .ok (.isub, 1) := by decide +kernel
theorem dX9_emend_95 : decode cX9_emend 95 = .ok (.if_icmp .ge 35, 3) := by decide +kernel
theorem dX9_emend_98 : decode cX9_emend 98 = .ok (.aload_n 0, 1) := by decide +kernel
theorem dX9_emend_99 : decode cX9_emend 99 = .ok (.getfield 13, 3) := by decide +kernel
theorem dX9_emend_102 : decode cX9_emend 102 = .ok (.bipush 12, 2) := by decide +kernel
theorem dX9_emend_104 : decode cX9_emend 104 = .ok (.iload_n 1, 1) := by decide +kernel
theorem dX9_emend_105 : decode cX9_emend 105 = .ok (.imul, 1) := by decide +kernel
theorem dX9_emend_106 : decode cX9_emend 106 = .ok (.iload 4, 2) := by decide +kernel
theorem dX9_emend_108 : decode cX9_emend 108 = .ok (.iadd, 1) := by decide +kernel
theorem dX9_emend_109 : decode cX9_emend 109 = .ok (.aload_n 0, 1) := by decide +kernel
theorem dX9_emend_110 : decode cX9_emend 110 = .ok (.getfield 13, 3) := by decide +kernel
theorem dX9_emend_113 : decode cX9_emend 113 = .ok (.bipush 12, 2) := by decide +kernel
theorem dX9_emend_115 : decode cX9_emend 115 = .ok (.iload_n 1, 1) := by decide +kernel
theorem dX9_emend_116 : decode cX9_emend 116 = .ok (.imul, 1) := by decide +kernel
theorem dX9_emend_117 : decode cX9_emend 117 = .ok (.iload 4, 2) := by decide +kernel
theorem dX9_emend_119 : decode cX9_emend 119 = .ok (.iadd, 1) := by decide +kernel
theorem dX9_emend_120 : decode cX9_emend 120 = .ok (.iconst 1, 1) := by decide +kernel
theorem dX9_emend_121 : decode cX9_emend 121 = .ok (.iadd, 1) := by decide +kernel
theorem dX9_emend_122 : decode cX9_emend 122 = .ok (.iaload, 1) := by decide +kernel
theorem dX9_emend_123 : decode cX9_emend 123 = .ok (.iastore, 1) := by decide +kernel
theorem dX9_emend_124 : decode cX9_emend 124 = .ok (.iinc 4 1, 3) := by decide +kernel
theorem dX9_emend_127 : decode cX9_emend 127 = .ok (.goto (-42), 3) := by decide +kernel
theorem dX9_emend_130 : decode cX9_emend 130 = .ok (.aload_n 0, 1) := by decide +kernel
theorem dX9_emend_131 : decode cX9_emend 131 = .ok (.getfield 16, 3) := by decide +kernel
theorem dX9_emend_134 : decode cX9_emend 134 = .ok (.iload_n 1, 1) := by decide +kernel
theorem dX9_emend_135 : decode cX9_emend 135 = .ok (.dup2, 1) := by decide +kernel
theorem dX9_emend_136 : decode cX9_emend 136 = .ok (.iaload, 1) := by decide +kernel
theorem dX9_emend_137 : decode cX9_emend 137 = .ok (.iconst 1, 1) := by decide +kernel
theorem dX9_emend_138 : decode cX9_emend 138 = .ok (.isub, 1) := by decide +kernel
theorem dX9_emend_139 : decode cX9_emend 139 = .ok (.iastore, 1) := by decide +kernel
theorem dX9_emend_140 : decode cX9_emend 140 = .ok (.goto 15, 3) := by decide +kernel
theorem dX9_emend_143 : decode cX9_emend 143 = .ok (.aload_n 0, 1) := by decide +kernel
theorem dX9_emend_144 : decode cX9_emend 144 = .ok (.getfield 13, 3) := by decide +kernel
theorem dX9_emend_147 : decode cX9_emend 147 = .ok (.bipush 12, 2) := by decide +kernel
theorem dX9_emend_149 : decode cX9_emend 149 = .ok (.iload_n 1, 1) := by decide +kernel
theorem dX9_emend_150 : decode cX9_emend 150 = .ok (.imul, 1) := by decide +kernel
theorem dX9_emend_151 : decode cX9_emend 151 = .ok (.iload_n 2, 1) := by decide +kernel
theorem dX9_emend_152 : decode cX9_emend 152 = .ok (.iadd, 1) := by decide +kernel
theorem dX9_emend_153 : decode cX9_emend 153 = .ok (.iload_n 3, 1) := by decide +kernel
theorem dX9_emend_154 : decode cX9_emend 154 = .ok (.iastore, 1) := by decide +kernel
theorem dX9_emend_155 : decode cX9_emend 155 = .ok (.iconst 0, 1) := by decide +kernel
theorem dX9_emend_156 : decode cX9_emend 156 = .ok (.istore 4, 2) := by decide +kernel
theorem dX9_emend_158 : decode cX9_emend 158 = .ok (.iconst 0, 1) := by decide +kernel
theorem dX9_emend_159 : decode cX9_emend 159 = .ok (.istore 5, 2) := by decide +kernel
theorem dX9_emend_161 : decode cX9_emend 161 = .ok (.iload 5, 2) := by decide +kernel
theorem dX9_emend_163 : decode cX9_emend 163 = .ok (.aload_n 0, 1) := by decide +kernel
theorem dX9_emend_164 : decode cX9_emend 164 = .ok (.getfield 103, 3) := by decide +kernel
theorem dX9_emend_167 : decode cX9_emend 167 = .ok (.if_icmp .ge 175, 3) := by decide +kernel
theorem dX9_emend_170 : decode cX9_emend 170 = .ok (.aload_n 0, 1) := by decide +kernel
theorem dX9_emend_171 : decode cX9_emend 171 = .ok (.getfield 34, 3) := by decide +kernel
theorem dX9_emend_174 : decode cX9_emend 174 = .ok (.iload 5, 2) := by decide +kernel
theorem dX9_emend_176 : decode cX9_emend 176 = .ok (.iaload, 1) := by decide +kernel
theorem dX9_emend_177 : decode cX9_emend 177 = .ok (.iconst (-1), 1) := by decide +kernel
theorem dX9_emend_178 : decode cX9_emend 178 = .ok (.if_icmp .ne 158, 3) := by decide +kernel
theorem dX9_emend_181 : decode cX9_emend 181 = .ok (.aload_n 0, 1) := by decide +kernel
theorem dX9_emend_182 : decode cX9_emend 182 = .ok (.getfield 40, 3) := by decide +kernel
theorem dX9_emend_185 : decode cX9_emend 185 = .ok (.iload 5, 2) := by decide +kernel
theorem dX9_emend_187 : decode cX9_emend 187 = .ok (.iaload, 1) := by decide +kernel
theorem dX9_emend_188 : decode cX9_emend 188 = .ok (.iload_n 1, 1) := by decide +kernel
theorem dX9_emend_189 : decode cX9_emend 189 = .ok (.if_icmp .ne 147, 3) := by decide +kernel
theorem dX9_emend_192 : decode cX9_emend 192 = .ok (.aload_n 0, 1) := by decide +kernel
theorem dX9_emend_193 : decode cX9_emend 193 = .ok (.getfield 46, 3) := by decide +kernel
theorem dX9_emend_196 : decode cX9_emend 196 = .ok (.iload 5, 2) := by decide +kernel
theorem dX9_emend_198 : decode cX9_emend 198 = .ok (.iaload, 1) := by decide +kernel
theorem dX9_emend_199 : decode cX9_emend 199 = .ok (.istore 6, 2) := by decide +kernel
theorem dX9_emend_201 : decode cX9_emend 201 = .ok (.iload_n 3, 1) := by decide +kernel
theorem dX9_emend_202 : decode cX9_emend 202 = .ok (.iconst (-1), 1) := by decide +kernel
theorem dX9_emend_203 : decode cX9_emend 203 = .ok (.if_icmp .ne 16, 3) := by decide +kernel
theorem dX9_emend_206 : decode cX9_emend 206 = .ok (.iload 6, 2) := by decide +kernel
theorem dX9_emend_208 : decode cX9_emend 208 = .ok (.iload_n 2, 1) := by decide +kernel
theorem dX9_emend_209 : decode cX9_emend 209 = .ok (.if_icmp .le 10, 3) := by decide +kernel
theorem dX9_emend_212 : decode cX9_emend 212 = .ok (.iload 6, 2) := by decide +kernel
theorem dX9_emend_214 : decode cX9_emend 214 = .ok (.iconst 1, 1) := by decide +kernel
theorem dX9_emend_215 : decode cX9_emend 215 = .ok (.isub, 1) := by decide +kernel
theorem dX9_emend_216 : decode cX9_emend 216 = .ok (.goto 5, 3) := by decide +kernel
theorem dX9_emend_219 : decode cX9_emend 219 = .ok (.iload 6, 2) := by decide +kernel
theorem dX9_emend_221 : decode cX9_emend 221 = .ok (.istore 6, 2) := by decide +kernel
theorem dX9_emend_223 : decode cX9_emend 223 = .ok (.iload 6, 2) := by decide +kernel
theorem dX9_emend_225 : decode cX9_emend 225 = .ok (.aload_n 0, 1) := by decide +kernel
theorem dX9_emend_226 : decode cX9_emend 226 = .ok (.getfield 16, 3) := by decide +kernel
theorem dX9_emend_229 : decode cX9_emend 229 = .ok (.iload_n 1, 1) := by decide +kernel
theorem dX9_emend_230 : decode cX9_emend 230 = .ok (.iaload, 1) := by decide +kernel
theorem dX9_emend_231 : decode cX9_emend 231 = .ok (.iconst 1, 1) := by decide +kernel
theorem dX9_emend_232 : decode cX9_emend 232 = .ok (.isub, 1) := by decide +kernel
theorem dX9_emend_233 : decode cX9_emend 233 = .ok (.if_icmp .le 14, 3) := by decide +kernel
theorem dX9_emend_236 : decode cX9_emend 236 = .ok (.aload_n 0, 1) := by decide +kernel
theorem dX9_emend_237 : decode cX9_emend 237 = .ok (.getfield 16, 3) := by decide +kernel
theorem dX9_emend_240 : decode cX9_emend 240 = .ok (.iload_n 1, 1) := by decide +kernel
theorem dX9_emend_241 : decode cX9_emend 241 = .ok (.iaload, 1) := by decide +kernel
theorem dX9_emend_242 : decode cX9_emend 242 = .ok (.iconst 1, 1) := by decide +kernel
theorem dX9_emend_243 : decode cX9_emend 243 = .ok (.isub, 1) := by decide +kernel
theorem dX9_emend_244 : decode cX9_emend 244 = .ok (.goto 5, 3) := by decide +kernel
theorem dX9_emend_247 : decode cX9_emend 247 = .ok (.iload 6, 2) := by decide +kernel
theorem dX9_emend_249 : decode cX9_emend 249 = .ok (.istore 6, 2) := by decide +kernel
theorem dX9_emend_251 : decode cX9_emend 251 = .ok (.aload_n 0, 1) := by decide +kernel
theorem dX9_emend_252 : decode cX9_emend 252 = .ok (.iload_n 1, 1) := by decide +kernel
theorem dX9_emend_253 : decode cX9_emend 253 = .ok (.aload_n 0, 1) := by decide +kernel
theorem dX9_emend_254 : decode cX9_emend 254 = .ok (.getfield 43, 3) := by decide +kernel
theorem dX9_emend_257 : decode cX9_emend 257 = .ok (.iload 5, 2) := by decide +kernel
theorem dX9_emend_259 : decode cX9_emend 259 = .ok (.iaload, 1) := by decide +kernel
theorem dX9_emend_260 : decode cX9_emend 260 = .ok (.iload 6, 2) := by decide +kernel
theorem dX9_emend_262 : decode cX9_emend 262 = .ok (.invokevirtual 113, 3) := by decide +kernel
theorem dX9_emend_265 : decode cX9_emend 265 = .ok (.istore 7, 2) := by decide +kernel
theorem dX9_emend_267 : decode cX9_emend 267 = .ok (.iload 4, 2) := by decide +kernel
theorem dX9_emend_269 : decode cX9_emend 269 = .ok (.aload_n 0, 1) := by decide +kernel
theorem dX9_emend_270 : decode cX9_emend 270 = .ok (.getfield 49, 3) := by decide +kernel
theorem dX9_emend_273 : decode cX9_emend 273 = .ok (.iload 5, 2) := by decide +kernel
theorem dX9_emend_275 : decode cX9_emend 275 = .ok (.baload, 1) := by decide +kernel
theorem dX9_emend_276 : decode cX9_emend 276 = .ok (.iload 7, 2) := by decide +kernel
theorem dX9_emend_278 : decode cX9_emend 278 = .ok (.iconst (-1), 1) := by decide +kernel
theorem dX9_emend_279 : decode cX9_emend 279 = .ok (.if_icmp .ne 7, 3) := by decide +kernel
theorem dX9_emend_282 : decode cX9_emend 282 = .ok (.iconst 1, 1) := by decide +kernel
theorem dX9_emend_283 : decode cX9_emend 283 = .ok (.goto 4, 3) := by decide +kernel
theorem dX9_emend_286 : decode cX9_emend 286 = .ok (.iconst 0, 1) := by decide +kernel
theorem dX9_emend_287 : decode cX9_emend 287 = .ok (.if_icmp .eq 7, 3) := by decide +kernel
theorem dX9_emend_290 : decode cX9_emend 290 = .ok (.iconst 1, 1) := by decide +kernel
theorem dX9_emend_291 : decode cX9_emend 291 = .ok (.goto 4, 3) := by decide +kernel
theorem dX9_emend_294 : decode cX9_emend 294 = .ok (.iconst 0, 1) := by decide +kernel
theorem dX9_emend_295 : decode cX9_emend 295 = .ok (.iadd, 1) := by decide +kernel
theorem dX9_emend_296 : decode cX9_emend 296 = .ok (.istore 4, 2) := by decide +kernel
theorem dX9_emend_298 : decode cX9_emend 298 = .ok (.aload_n 0, 1) := by decide +kernel
theorem dX9_emend_299 : decode cX9_emend 299 = .ok (.getfield 49, 3) := by decide +kernel
theorem dX9_emend_302 : decode cX9_emend 302 = .ok (.iload 5, 2) := by decide +kernel
theorem dX9_emend_304 : decode cX9_emend 304 = .ok (.iload 7, 2) := by decide +kernel
theorem dX9_emend_306 : decode cX9_emend 306 = .ok (.iconst (-1), 1) := by decide +kernel
theorem dX9_emend_307 : decode cX9_emend 307 = .ok (.if_icmp .ne 7, 3) := by decide +kernel
theorem dX9_emend_310 : decode cX9_emend 310 = .ok (.iconst 1, 1) := by decide +kernel
theorem dX9_emend_311 : decode cX9_emend 311 = .ok (.goto 4, 3) := by decide +kernel
theorem dX9_emend_314 : decode cX9_emend 314 = .ok (.iconst 0, 1) := by decide +kernel
theorem dX9_emend_315 : decode cX9_emend 315 = .ok (.bastore, 1) := by decide +kernel
theorem dX9_emend_316 : decode cX9_emend 316 = .ok (.aload_n 0, 1) := by decide +kernel
theorem dX9_emend_317 : decode cX9_emend 317 = .ok (.getfield 46, 3) := by decide +kernel
theorem dX9_emend_320 : decode cX9_emend 320 = .ok (.iload 5, 2) := by decide +kernel
theorem dX9_emend_322 : decode cX9_emend 322 = .ok (.iload 7, 2) := by decide +kernel
theorem dX9_emend_324 : decode cX9_emend 324 = .ok (.iconst (-1), 1) := by decide +kernel
theorem dX9_emend_325 : decode cX9_emend 325 = .ok (.if_icmp .ne 8, 3) := by decide +kernel
theorem dX9_emend_328 : decode cX9_emend 328 = .ok (.iload 6, 2) := by decide +kernel
theorem dX9_emend_330 : decode cX9_emend 330 = .ok (.goto 5, 3) := by decide +kernel
theorem dX9_emend_333 : decode cX9_emend 333 = .ok (.iload 7, 2) := by decide +kernel
theorem dX9_emend_335 : decode cX9_emend 335 = .ok (.iastore, 1) := by decide +kernel
theorem dX9_emend_336 : decode cX9_emend 336 = .ok (.iinc 5 1, 3) := by decide +kernel
theorem dX9_emend_339 : decode cX9_emend 339 = .ok (.goto (-178), 3) := by decide +kernel
theorem dX9_emend_342 : decode cX9_emend 342 = .ok (.iload 4, 2) := by decide +kernel
theorem dX9_emend_344 : decode cX9_emend 344 = .ok (.ireturn, 1) := by decide +kernel
theorem dX9_textOf_0 : decode cX9_textOf 0 = .ok (.aload_n 0, 1) := by decide +kernel
theorem dX9_textOf_1 : decode cX9_textOf 1 = .ok (.aload_n 0, 1) := by decide +kernel
theorem dX9_textOf_2 : decode cX9_textOf 2 = .ok (.iload_n 1, 1) := by decide +kernel
theorem dX9_textOf_3 : decode cX9_textOf 3 = .ok (.invokevirtual 109, 3) := by decide +kernel
theorem dX9_textOf_6 : decode cX9_textOf 6 = .ok (.ifCond .eq 7, 3) := by decide +kernel
theorem dX9_textOf_9 : decode cX9_textOf 9 = .ok (.iload_n 2, 1) := by decide +kernel
theorem dX9_textOf_10 : decode cX9_textOf 10 = .ok (.ifCond .ge 7, 3) := by decide +kernel
theorem dX9_textOf_13 : decode cX9_textOf 13 = .ok (.iconst 1, 1) := by decide +kernel
theorem dX9_textOf_14 : decode cX9_textOf 14 = .ok (.goto 4, 3) := by decide +kernel
theorem dX9_textOf_17 : decode cX9_textOf 17 = .ok (.iconst 0, 1) := by decide +kernel
theorem dX9_textOf_18 : decode cX9_textOf 18 = .ok (.putfield 89, 3) := by decide +kernel
theorem dX9_textOf_21 : decode cX9_textOf 21 = .ok (.aload_n 0, 1) := by decide +kernel
theorem dX9_textOf_22 : decode cX9_textOf 22 = .ok (.getfield 89, 3) := by decide +kernel
theorem dX9_textOf_25 : decode cX9_textOf 25 = .ok (.ifCond .le 7, 3) := by decide +kernel
theorem dX9_textOf_28 : decode cX9_textOf 28 = .ok (.iconst 0, 1) := by decide +kernel
theorem dX9_textOf_29 : decode cX9_textOf 29 = .ok (.goto 28, 3) := by decide +kernel
theorem dX9_textOf_32 : decode cX9_textOf 32 = .ok (.iload_n 2, 1) := by decide +kernel
theorem dX9_textOf_33 : decode cX9_textOf 33 = .ok (.aload_n 0, 1) := by decide +kernel
theorem dX9_textOf_34 : decode cX9_textOf 34 = .ok (.getfield 16, 3) := by decide +kernel
theorem dX9_textOf_37 : decode cX9_textOf 37 = .ok (.iload_n 1, 1) := by decide +kernel
theorem dX9_textOf_38 : decode cX9_textOf 38 = .ok (.iaload, 1) := by decide +kernel
theorem dX9_textOf_39 : decode cX9_textOf 39 = .ok (.if_icmp .ge 17, 3) := by decide +kernel
theorem dX9_textOf_42 : decode cX9_textOf 42 = .ok (.aload_n 0, 1) := by decide +kernel
theorem dX9_textOf_43 : decode cX9_textOf 43 = .ok (.getfield 13, 3) := by decide +kernel
theorem dX9_textOf_46 : decode cX9_textOf 46 = .ok (.bipush 12, 2) := by decide +kernel
theorem dX9_textOf_48 : decode cX9_textOf 48 = .ok (.iload_n 1, 1) := by decide +kernel
theorem dX9_textOf_49 : decode cX9_textOf 49 = .ok (.imul, 1) := by decide +kernel
theorem dX9_textOf_50 : decode cX9_textOf 50 = .ok (.iload_n 2, 1) := by decide +kernel
theorem dX9_textOf_51 : decode cX9_textOf 51 = .ok (.iadd, 1) := by decide +kernel
theorem dX9_textOf_52 : decode cX9_textOf 52 = .ok (.iaload, 1) := by decide +kernel
theorem dX9_textOf_53 : decode cX9_textOf 53 = .ok (.goto 4, 3) := by decide +kernel
theorem dX9_textOf_56 : decode cX9_textOf 56 = .ok (.iconst (-1), 1) := by decide +kernel
theorem dX9_textOf_57 : decode cX9_textOf 57 = .ok (.ireturn, 1) := by decide +kernel
theorem dX9_author_0 : decode cX9_author 0 = .ok (.aload_n 0, 1) := by decide +kernel
theorem dX9_author_1 : decode cX9_author 1 = .ok (.aload_n 0, 1) := by decide +kernel
theorem dX9_author_2 : decode cX9_author 2 = .ok (.iload_n 1, 1) := by decide +kernel
theorem dX9_author_3 : decode cX9_author 3 = .ok (.iconst 0, 1) := by decide +kernel
theorem dX9_author_4 : decode cX9_author 4 = .ok (.sipush 2000, 3) := by decide +kernel
theorem dX9_author_7 : decode cX9_author 7 = .ok (.invokevirtual 96, 3) := by decide +kernel
theorem dX9_author_10 : decode cX9_author 10 = .ok (.ifCond .eq 24, 3) := by decide +kernel
theorem dX9_author_13 : decode cX9_author 13 = .ok (.aload_n 0, 1) := by decide +kernel
theorem dX9_author_14 : decode cX9_author 14 = .ok (.iload_n 2, 1) := by decide +kernel
theorem dX9_author_15 : decode cX9_author 15 = .ok (.iconst 0, 1) := by decide +kernel
theorem dX9_author_16 : decode cX9_author 16 = .ok (.iconst 3, 1) := by decide +kernel
theorem dX9_author_17 : decode cX9_author 17 = .ok (.invokevirtual 96, 3) := by decide +kernel
theorem dX9_author_20 : decode cX9_author 20 = .ok (.ifCond .eq 14, 3) := by decide +kernel
theorem dX9_author_23 : decode cX9_author 23 = .ok (.aload_n 0, 1) := by decide +kernel
theorem dX9_author_24 : decode cX9_author 24 = .ok (.iload_n 3, 1) := by decide +kernel
theorem dX9_author_25 : decode cX9_author 25 = .ok (.iconst 0, 1) := by decide +kernel
theorem dX9_author_26 : decode cX9_author 26 = .ok (.bipush 99, 2) := by decide +kernel
theorem dX9_author_28 : decode cX9_author 28 = .ok (.invokevirtual 96, 3) := by decide +kernel
theorem dX9_author_31 : decode cX9_author 31 = .ok (.ifCond .ne 7, 3) := by decide +kernel
theorem dX9_author_34 : decode cX9_author 34 = .ok (.iconst 1, 1) := by decide +kernel
theorem dX9_author_35 : decode cX9_author 35 = .ok (.goto 17, 3) := by decide +kernel
theorem dX9_author_38 : decode cX9_author 38 = .ok (.aload_n 0, 1) := by decide +kernel
theorem dX9_author_39 : decode cX9_author 39 = .ok (.getfield 100, 3) := by decide +kernel
theorem dX9_author_42 : decode cX9_author 42 = .ok (.bipush 12, 2) := by decide +kernel
theorem dX9_author_44 : decode cX9_author 44 = .ok (.if_icmp .ne 7, 3) := by decide +kernel
theorem dX9_author_47 : decode cX9_author 47 = .ok (.iconst 2, 1) := by decide +kernel
theorem dX9_author_48 : decode cX9_author 48 = .ok (.goto 4, 3) := by decide +kernel
theorem dX9_author_51 : decode cX9_author 51 = .ok (.iconst 0, 1) := by decide +kernel
theorem dX9_author_52 : decode cX9_author 52 = .ok (.putfield 89, 3) := by decide +kernel
theorem dX9_author_55 : decode cX9_author 55 = .ok (.aload_n 0, 1) := by decide +kernel
theorem dX9_author_56 : decode cX9_author 56 = .ok (.getfield 89, 3) := by decide +kernel
theorem dX9_author_59 : decode cX9_author 59 = .ok (.ifCond .le 5, 3) := by decide +kernel
theorem dX9_author_62 : decode cX9_author 62 = .ok (.iconst 0, 1) := by decide +kernel
theorem dX9_author_63 : decode cX9_author 63 = .ok (.ireturn, 1) := by decide +kernel
theorem dX9_author_64 : decode cX9_author 64 = .ok (.aload_n 0, 1) := by decide +kernel
theorem dX9_author_65 : decode cX9_author 65 = .ok (.getfield 19, 3) := by decide +kernel
theorem dX9_author_68 : decode cX9_author 68 = .ok (.aload_n 0, 1) := by decide +kernel
theorem dX9_author_69 : decode cX9_author 69 = .ok (.getfield 100, 3) := by decide +kernel
theorem dX9_author_72 : decode cX9_author 72 = .ok (.iload_n 1, 1) := by decide +kernel
theorem dX9_author_73 : decode cX9_author 73 = .ok (.iastore, 1) := by decide +kernel
theorem dX9_author_74 : decode cX9_author 74 = .ok (.aload_n 0, 1) := by decide +kernel
theorem dX9_author_75 : decode cX9_author 75 = .ok (.getfield 22, 3) := by decide +kernel
theorem dX9_author_78 : decode cX9_author 78 = .ok (.aload_n 0, 1) := by decide +kernel
theorem dX9_author_79 : decode cX9_author 79 = .ok (.getfield 100, 3) := by decide +kernel
theorem dX9_author_82 : decode cX9_author 82 = .ok (.iload_n 2, 1) := by decide +kernel
theorem dX9_author_83 : decode cX9_author 83 = .ok (.iastore, 1) := by decide +kernel
theorem dX9_author_84 : decode cX9_author 84 = .ok (.aload_n 0, 1) := by decide +kernel
theorem dX9_author_85 : decode cX9_author 85 = .ok (.getfield 25, 3) := by decide +kernel
theorem dX9_author_88 : decode cX9_author 88 = .ok (.aload_n 0, 1) := by decide +kernel
theorem dX9_author_89 : decode cX9_author 89 = .ok (.getfield 100, 3) := by decide +kernel
theorem dX9_author_92 : decode cX9_author 92 = .ok (.iload_n 3, 1) := by decide +kernel
theorem dX9_author_93 : decode cX9_author 93 = .ok (.iastore, 1) := by decide +kernel
theorem dX9_author_94 : decode cX9_author 94 = .ok (.aload_n 0, 1) := by decide +kernel
theorem dX9_author_95 : decode cX9_author 95 = .ok (.dup, 1) := by decide +kernel
theorem dX9_author_96 : decode cX9_author 96 = .ok (.getfield 100, 3) := by decide +kernel
theorem dX9_author_99 : decode cX9_author 99 = .ok (.iconst 1, 1) := by decide +kernel
theorem dX9_author_100 : decode cX9_author 100 = .ok (.iadd, 1) := by decide +kernel
theorem dX9_author_101 : decode cX9_author 101 = .ok (.putfield 100, 3) := by decide +kernel
theorem dX9_author_104 : decode cX9_author 104 = .ok (.aload_n 0, 1) := by decide +kernel
theorem dX9_author_105 : decode cX9_author 105 = .ok (.getfield 100, 3) := by decide +kernel
theorem dX9_author_108 : decode cX9_author 108 = .ok (.iconst 1, 1) := by decide +kernel
theorem dX9_author_109 : decode cX9_author 109 = .ok (.isub, 1) := by decide +kernel
theorem dX9_author_110 : decode cX9_author 110 = .ok (.ireturn, 1) := by decide +kernel
theorem dX9_meant_0 : decode cX9_meant 0 = .ok (.aload_n 0, 1) := by decide +kernel
theorem dX9_meant_1 : decode cX9_meant 1 = .ok (.aload_n 0, 1) := by decide +kernel
theorem dX9_meant_2 : decode cX9_meant 2 = .ok (.iload_n 1, 1) := by decide +kernel
theorem dX9_meant_3 : decode cX9_meant 3 = .ok (.iconst 0, 1) := by decide +kernel
theorem dX9_meant_4 : decode cX9_meant 4 = .ok (.bipush 99, 2) := by decide +kernel
theorem dX9_meant_6 : decode cX9_meant 6 = .ok (.invokevirtual 96, 3) := by decide +kernel
theorem dX9_meant_9 : decode cX9_meant 9 = .ok (.ifCond .eq 15, 3) := by decide +kernel
theorem dX9_meant_12 : decode cX9_meant 12 = .ok (.aload_n 0, 1) := by decide +kernel
theorem dX9_meant_13 : decode cX9_meant 13 = .ok (.iload_n 2, 1) := by decide +kernel
theorem dX9_meant_14 : decode cX9_meant 14 = .ok (.iconst 0, 1) := by decide +kernel
theorem dX9_meant_15 : decode cX9_meant 15 = .ok (.sipush 2000, 3) := by decide +kernel
theorem dX9_meant_18 : decode cX9_meant 18 = .ok (.invokevirtual 96, 3) := by decide +kernel
theorem dX9_meant_21 : decode cX9_meant 21 = .ok (.ifCond .ne 7, 3) := by decide +kernel
theorem dX9_meant_24 : decode cX9_meant 24 = .ok (.iconst 1, 1) := by decide +kernel
theorem dX9_meant_25 : decode cX9_meant 25 = .ok (.goto 4, 3) := by decide +kernel
theorem dX9_meant_28 : decode cX9_meant 28 = .ok (.iconst 0, 1) := by decide +kernel
theorem dX9_meant_29 : decode cX9_meant 29 = .ok (.putfield 89, 3) := by decide +kernel
theorem dX9_meant_32 : decode cX9_meant 32 = .ok (.iconst (-1), 1) := by decide +kernel
theorem dX9_meant_33 : decode cX9_meant 33 = .ok (.istore_n 3, 1) := by decide +kernel
theorem dX9_meant_34 : decode cX9_meant 34 = .ok (.iconst 0, 1) := by decide +kernel
theorem dX9_meant_35 : decode cX9_meant 35 = .ok (.istore 4, 2) := by decide +kernel
theorem dX9_meant_37 : decode cX9_meant 37 = .ok (.iload 4, 2) := by decide +kernel
theorem dX9_meant_39 : decode cX9_meant 39 = .ok (.aload_n 0, 1) := by decide +kernel
theorem dX9_meant_40 : decode cX9_meant 40 = .ok (.getfield 100, 3) := by decide +kernel
theorem dX9_meant_43 : decode cX9_meant 43 = .ok (.if_icmp .ge 78, 3) := by decide +kernel
theorem dX9_meant_46 : decode cX9_meant 46 = .ok (.aload_n 0, 1) := by decide +kernel
theorem dX9_meant_47 : decode cX9_meant 47 = .ok (.getfield 89, 3) := by decide +kernel
theorem dX9_meant_50 : decode cX9_meant 50 = .ok (.ifCond .ne 71, 3) := by decide +kernel
theorem dX9_meant_53 : decode cX9_meant 53 = .ok (.aload_n 0, 1) := by decide +kernel
theorem dX9_meant_54 : decode cX9_meant 54 = .ok (.getfield 25, 3) := by decide +kernel
theorem dX9_meant_57 : decode cX9_meant 57 = .ok (.iload 4, 2) := by decide +kernel
theorem dX9_meant_59 : decode cX9_meant 59 = .ok (.iaload, 1) := by decide +kernel
theorem dX9_meant_60 : decode cX9_meant 60 = .ok (.iload_n 1, 1) := by decide +kernel
theorem dX9_meant_61 : decode cX9_meant 61 = .ok (.if_icmp .ne 18, 3) := by decide +kernel
theorem dX9_meant_64 : decode cX9_meant 64 = .ok (.aload_n 0, 1) := by decide +kernel
theorem dX9_meant_65 : decode cX9_meant 65 = .ok (.getfield 19, 3) := by decide +kernel
theorem dX9_meant_68 : decode cX9_meant 68 = .ok (.iload 4, 2) := by decide +kernel
theorem dX9_meant_70 : decode cX9_meant 70 = .ok (.iaload, 1) := by decide +kernel
theorem dX9_meant_71 : decode cX9_meant 71 = .ok (.iload_n 2, 1) := by decide +kernel
theorem dX9_meant_72 : decode cX9_meant 72 = .ok (.if_icmp .gt 7, 3) := by decide +kernel
theorem dX9_meant_75 : decode cX9_meant 75 = .ok (.iconst 1, 1) := by decide +kernel
theorem dX9_meant_76 : decode cX9_meant 76 = .ok (.goto 4, 3) := by decide +kernel
theorem dX9_meant_79 : decode cX9_meant 79 = .ok (.iconst 0, 1) := by decide +kernel
theorem dX9_meant_80 : decode cX9_meant 80 = .ok (.istore 5, 2) := by decide +kernel
theorem dX9_meant_82 : decode cX9_meant 82 = .ok (.iload 5, 2) := by decide +kernel
theorem dX9_meant_84 : decode cX9_meant 84 = .ok (.ifCond .eq 29, 3) := by decide +kernel
theorem dX9_meant_87 : decode cX9_meant 87 = .ok (.iload_n 3, 1) := by decide +kernel
theorem dX9_meant_88 : decode cX9_meant 88 = .ok (.iconst (-1), 1) := by decide +kernel
theorem dX9_meant_89 : decode cX9_meant 89 = .ok (.if_icmp .eq 19, 3) := by decide +kernel
theorem dX9_meant_92 : decode cX9_meant 92 = .ok (.aload_n 0, 1) := by decide +kernel
theorem dX9_meant_93 : decode cX9_meant 93 = .ok (.getfield 19, 3) := by decide +kernel
theorem dX9_meant_96 : decode cX9_meant 96 = .ok (.iload 4, 2) := by decide +kernel
theorem dX9_meant_98 : decode cX9_meant 98 = .ok (.iaload, 1) := by decide +kernel
theorem dX9_meant_99 : decode cX9_meant 99 = .ok (.aload_n 0, 1) := by decide +kernel
theorem dX9_meant_100 : decode cX9_meant 100 = .ok (.getfield 19, 3) := by decide +kernel
theorem dX9_meant_103 : decode cX9_meant 103 = .ok (.iload_n 3, 1) := by decide +kernel
theorem dX9_meant_104 : decode cX9_meant 104 = .ok (.iaload, 1) := by decide +kernel
theorem dX9_meant_105 : decode cX9_meant 105 = .ok (.if_icmp .le 8, 3) := by decide +kernel
theorem dX9_meant_108 : decode cX9_meant 108 = .ok (.iload 4, 2) := by decide +kernel
theorem dX9_meant_110 : decode cX9_meant 110 = .ok (.goto 4, 3) := by decide +kernel
theorem dX9_meant_113 : decode cX9_meant 113 = .ok (.iload_n 3, 1) := by decide +kernel
theorem dX9_meant_114 : decode cX9_meant 114 = .ok (.istore_n 3, 1) := by decide +kernel
theorem dX9_meant_115 : decode cX9_meant 115 = .ok (.iinc 4 1, 3) := by decide +kernel
theorem dX9_meant_118 : decode cX9_meant 118 = .ok (.goto (-81), 3) := by decide +kernel
theorem dX9_meant_121 : decode cX9_meant 121 = .ok (.aload_n 0, 1) := by decide +kernel
theorem dX9_meant_122 : decode cX9_meant 122 = .ok (.getfield 89, 3) := by decide +kernel
theorem dX9_meant_125 : decode cX9_meant 125 = .ok (.ifCond .le 7, 3) := by decide +kernel
theorem dX9_meant_128 : decode cX9_meant 128 = .ok (.iconst 0, 1) := by decide +kernel
theorem dX9_meant_129 : decode cX9_meant 129 = .ok (.goto 4, 3) := by decide +kernel
theorem dX9_meant_132 : decode cX9_meant 132 = .ok (.iload_n 3, 1) := by decide +kernel
theorem dX9_meant_133 : decode cX9_meant 133 = .ok (.ireturn, 1) := by decide +kernel
theorem dX9_isNote_0 : decode cX9_isNote 0 = .ok (.aload_n 0, 1) := by decide +kernel
theorem dX9_isNote_1 : decode cX9_isNote 1 = .ok (.iload_n 1, 1) := by decide +kernel
theorem dX9_isNote_2 : decode cX9_isNote 2 = .ok (.iconst 0, 1) := by decide +kernel
theorem dX9_isNote_3 : decode cX9_isNote 3 = .ok (.iconst 4, 1) := by decide +kernel
theorem dX9_isNote_4 : decode cX9_isNote 4 = .ok (.invokevirtual 96, 3) := by decide +kernel
theorem dX9_isNote_7 : decode cX9_isNote 7 = .ok (.ifCond .eq 28, 3) := by decide +kernel
theorem dX9_isNote_10 : decode cX9_isNote 10 = .ok (.aload_n 0, 1) := by decide +kernel
theorem dX9_isNote_11 : decode cX9_isNote 11 = .ok (.iload_n 2, 1) := by decide +kernel
theorem dX9_isNote_12 : decode cX9_isNote 12 = .ok (.iconst 1, 1) := by decide +kernel
theorem dX9_isNote_13 : decode cX9_isNote 13 = .ok (.bipush 9, 2) := by decide +kernel
theorem dX9_isNote_15 : decode cX9_isNote 15 = .ok (.invokevirtual 96, 3) := by decide +kernel
theorem dX9_isNote_18 : decode cX9_isNote 18 = .ok (.ifCond .eq 17, 3) := by decide +kernel
theorem dX9_isNote_21 : decode cX9_isNote 21 = .ok (.aload_n 0, 1) := by decide +kernel
theorem dX9_isNote_22 : decode cX9_isNote 22 = .ok (.iload_n 3, 1) := by decide +kernel
theorem dX9_isNote_23 : decode cX9_isNote 23 = .ok (.iconst 0, 1) := by decide +kernel
theorem dX9_isNote_24 : decode cX9_isNote 24 = .ok (.iconst 1, 1) := by decide +kernel
theorem dX9_isNote_25 : decode cX9_isNote 25 = .ok (.invokevirtual 96, 3) := by decide +kernel
theorem dX9_isNote_28 : decode cX9_isNote 28 = .ok (.ifCond .eq 7, 3) := by decide +kernel
theorem dX9_isNote_31 : decode cX9_isNote 31 = .ok (.iconst 1, 1) := by decide +kernel
theorem dX9_isNote_32 : decode cX9_isNote 32 = .ok (.goto 4, 3) := by decide +kernel
theorem dX9_isNote_35 : decode cX9_isNote 35 = .ok (.iconst 0, 1) := by decide +kernel
theorem dX9_isNote_36 : decode cX9_isNote 36 = .ok (.ireturn, 1) := by decide +kernel
theorem dX9_added_0 : decode cX9_added 0 = .ok (.aload_n 0, 1) := by decide +kernel
theorem dX9_added_1 : decode cX9_added 1 = .ok (.getfield 103, 3) := by decide +kernel
theorem dX9_added_4 : decode cX9_added 4 = .ok (.istore 5, 2) := by decide +kernel
theorem dX9_added_6 : decode cX9_added 6 = .ok (.aload_n 0, 1) := by decide +kernel
theorem dX9_added_7 : decode cX9_added 7 = .ok (.getfield 28, 3) := by decide +kernel
theorem dX9_added_10 : decode cX9_added 10 = .ok (.iload 5, 2) := by decide +kernel
theorem dX9_added_12 : decode cX9_added 12 = .ok (.iload_n 1, 1) := by decide +kernel
theorem dX9_added_13 : decode cX9_added 13 = .ok (.iastore, 1) := by decide +kernel
theorem dX9_added_14 : decode cX9_added 14 = .ok (.aload_n 0, 1) := by decide +kernel
theorem dX9_added_15 : decode cX9_added 15 = .ok (.getfield 31, 3) := by decide +kernel
theorem dX9_added_18 : decode cX9_added 18 = .ok (.iload 5, 2) := by decide +kernel
theorem dX9_added_20 : decode cX9_added 20 = .ok (.iload_n 2, 1) := by decide +kernel
theorem dX9_added_21 : decode cX9_added 21 = .ok (.iastore, 1) := by decide +kernel
theorem dX9_added_22 : decode cX9_added 22 = .ok (.aload_n 0, 1) := by decide +kernel
theorem dX9_added_23 : decode cX9_added 23 = .ok (.getfield 53, 3) := by decide +kernel
theorem dX9_added_26 : decode cX9_added 26 = .ok (.iload 5, 2) := by decide +kernel
theorem dX9_added_28 : decode cX9_added 28 = .ok (.iload_n 3, 1) := by decide +kernel
theorem dX9_added_29 : decode cX9_added 29 = .ok (.iastore, 1) := by decide +kernel
theorem dX9_added_30 : decode cX9_added 30 = .ok (.aload_n 0, 1) := by decide +kernel
theorem dX9_added_31 : decode cX9_added 31 = .ok (.getfield 56, 3) := by decide +kernel
theorem dX9_added_34 : decode cX9_added 34 = .ok (.iload 5, 2) := by decide +kernel
theorem dX9_added_36 : decode cX9_added 36 = .ok (.iload 4, 2) := by decide +kernel
theorem dX9_added_38 : decode cX9_added 38 = .ok (.iastore, 1) := by decide +kernel
theorem dX9_added_39 : decode cX9_added 39 = .ok (.aload_n 0, 1) := by decide +kernel
theorem dX9_added_40 : decode cX9_added 40 = .ok (.dup, 1) := by decide +kernel
theorem dX9_added_41 : decode cX9_added 41 = .ok (.getfield 103, 3) := by decide +kernel
theorem dX9_added_44 : decode cX9_added 44 = .ok (.iconst 1, 1) := by decide +kernel
theorem dX9_added_45 : decode cX9_added 45 = .ok (.iadd, 1) := by decide +kernel
theorem dX9_added_46 : decode cX9_added 46 = .ok (.putfield 103, 3) := by decide +kernel
theorem dX9_added_49 : decode cX9_added 49 = .ok (.iload 5, 2) := by decide +kernel
theorem dX9_added_51 : decode cX9_added 51 = .ok (.ireturn, 1) := by decide +kernel
theorem dX9_comment_0 : decode cX9_comment 0 = .ok (.aload_n 0, 1) := by decide +kernel
theorem dX9_comment_1 : decode cX9_comment 1 = .ok (.aload_n 0, 1) := by decide +kernel
theorem dX9_comment_2 : decode cX9_comment 2 = .ok (.iload_n 1, 1) := by decide +kernel
theorem dX9_comment_3 : decode cX9_comment 3 = .ok (.invokevirtual 117, 3) := by decide +kernel
theorem dX9_comment_6 : decode cX9_comment 6 = .ok (.ifCond .eq 11, 3) := by decide +kernel
theorem dX9_comment_9 : decode cX9_comment 9 = .ok (.aload_n 0, 1) := by decide +kernel
theorem dX9_comment_10 : decode cX9_comment 10 = .ok (.iload_n 2, 1) := by decide +kernel
theorem dX9_comment_11 : decode cX9_comment 11 = .ok (.invokevirtual 109, 3) := by decide +kernel
theorem dX9_comment_14 : decode cX9_comment 14 = .ok (.ifCond .ne 7, 3) := by decide +kernel
theorem dX9_comment_17 : decode cX9_comment 17 = .ok (.iconst 1, 1) := by decide +kernel
theorem dX9_comment_18 : decode cX9_comment 18 = .ok (.goto 44, 3) := by decide +kernel
theorem dX9_comment_21 : decode cX9_comment 21 = .ok (.aload_n 0, 1) := by decide +kernel
theorem dX9_comment_22 : decode cX9_comment 22 = .ok (.iload_n 3, 1) := by decide +kernel
theorem dX9_comment_23 : decode cX9_comment 23 = .ok (.iload 6, 2) := by decide +kernel
theorem dX9_comment_25 : decode cX9_comment 25 = .ok (.iload 7, 2) := by decide +kernel
theorem dX9_comment_27 : decode cX9_comment 27 = .ok (.invokevirtual 120, 3) := by decide +kernel
theorem dX9_comment_30 : decode cX9_comment 30 = .ok (.ifCond .eq 27, 3) := by decide +kernel
theorem dX9_comment_33 : decode cX9_comment 33 = .ok (.aload_n 0, 1) := by decide +kernel
theorem dX9_comment_34 : decode cX9_comment 34 = .ok (.iload 4, 2) := by decide +kernel
theorem dX9_comment_36 : decode cX9_comment 36 = .ok (.iconst 0, 1) := by decide +kernel
theorem dX9_comment_37 : decode cX9_comment 37 = .ok (.bipush 59, 2) := by decide +kernel
theorem dX9_comment_39 : decode cX9_comment 39 = .ok (.invokevirtual 96, 3) := by decide +kernel
theorem dX9_comment_42 : decode cX9_comment 42 = .ok (.ifCond .eq 15, 3) := by decide +kernel
theorem dX9_comment_45 : decode cX9_comment 45 = .ok (.aload_n 0, 1) := by decide +kernel
theorem dX9_comment_46 : decode cX9_comment 46 = .ok (.iload 5, 2) := by decide +kernel
theorem dX9_comment_48 : decode cX9_comment 48 = .ok (.iconst 1, 1) := by decide +kernel
theorem dX9_comment_49 : decode cX9_comment 49 = .ok (.bipush 12, 2) := by decide +kernel
theorem dX9_comment_51 : decode cX9_comment 51 = .ok (.invokevirtual 96, 3) := by decide +kernel
theorem dX9_comment_54 : decode cX9_comment 54 = .ok (.ifCond .ne 7, 3) := by decide +kernel
theorem dX9_comment_57 : decode cX9_comment 57 = .ok (.iconst 2, 1) := by decide +kernel
theorem dX9_comment_58 : decode cX9_comment 58 = .ok (.goto 4, 3) := by decide +kernel
theorem dX9_comment_61 : decode cX9_comment 61 = .ok (.iconst 0, 1) := by decide +kernel
theorem dX9_comment_62 : decode cX9_comment 62 = .ok (.putfield 89, 3) := by decide +kernel
theorem dX9_comment_65 : decode cX9_comment 65 = .ok (.aload_n 0, 1) := by decide +kernel
theorem dX9_comment_66 : decode cX9_comment 66 = .ok (.getfield 89, 3) := by decide +kernel
theorem dX9_comment_69 : decode cX9_comment 69 = .ok (.ifCond .le 5, 3) := by decide +kernel
theorem dX9_comment_72 : decode cX9_comment 72 = .ok (.iconst 0, 1) := by decide +kernel
theorem dX9_comment_73 : decode cX9_comment 73 = .ok (.ireturn, 1) := by decide +kernel
theorem dX9_comment_74 : decode cX9_comment 74 = .ok (.iconst (-1), 1) := by decide +kernel
theorem dX9_comment_75 : decode cX9_comment 75 = .ok (.istore 8, 2) := by decide +kernel
theorem dX9_comment_77 : decode cX9_comment 77 = .ok (.iconst 0, 1) := by decide +kernel
theorem dX9_comment_78 : decode cX9_comment 78 = .ok (.istore 9, 2) := by decide +kernel
theorem dX9_comment_80 : decode cX9_comment 80 = .ok (.iconst 0, 1) := by decide +kernel
theorem dX9_comment_81 : decode cX9_comment 81 = .ok (.istore 10, 2) := by decide +kernel
theorem dX9_comment_83 : decode cX9_comment 83 = .ok (.iload 10, 2) := by decide +kernel
theorem dX9_comment_85 : decode cX9_comment 85 = .ok (.aload_n 0, 1) := by decide +kernel
theorem dX9_comment_86 : decode cX9_comment 86 = .ok (.getfield 16, 3) := by decide +kernel
theorem dX9_comment_89 : decode cX9_comment 89 = .ok (.iload_n 2, 1) := by decide +kernel
theorem dX9_comment_90 : decode cX9_comment 90 = .ok (.iaload, 1) := by decide +kernel
theorem dX9_comment_91 : decode cX9_comment 91 = .ok (.if_icmp .ge 69, 3) := by decide +kernel
theorem dX9_comment_94 : decode cX9_comment 94 = .ok (.iload 9, 2) := by decide +kernel
theorem dX9_comment_96 : decode cX9_comment 96 = .ok (.aload_n 0, 1) := by decide +kernel
theorem dX9_comment_97 : decode cX9_comment 97 = .ok (.getfield 13, 3) := by decide +kernel
theorem dX9_comment_100 : decode cX9_comment 100 = .ok (.bipush 12, 2) := by decide +kernel
theorem dX9_comment_102 : decode cX9_comment 102 = .ok (.iload_n 2, 1) := by decide +kernel
theorem dX9_comment_103 : decode cX9_comment 103 = .ok (.imul, 1) := by decide +kernel
theorem dX9_comment_104 : decode cX9_comment 104 = .ok (.iload 10, 2) := by decide +kernel
theorem dX9_comment_106 : decode cX9_comment 106 = .ok (.iadd, 1) := by decide +kernel
theorem dX9_comment_107 : decode cX9_comment 107 = .ok (.iaload, 1) := by decide +kernel
theorem dX9_comment_108 : decode cX9_comment 108 = .ok (.iload 4, 2) := by decide +kernel
theorem dX9_comment_110 : decode cX9_comment 110 = .ok (.if_icmp .ne 7, 3) := by decide +kernel
theorem dX9_comment_113 : decode cX9_comment 113 = .ok (.iconst 1, 1) := by decide +kernel
theorem dX9_comment_114 : decode cX9_comment 114 = .ok (.goto 4, 3) := by decide +kernel
theorem dX9_comment_117 : decode cX9_comment 117 = .ok (.iconst 0, 1) := by decide +kernel
theorem dX9_comment_118 : decode cX9_comment 118 = .ok (.iadd, 1) := by decide +kernel
theorem dX9_comment_119 : decode cX9_comment 119 = .ok (.istore 9, 2) := by decide +kernel
theorem dX9_comment_121 : decode cX9_comment 121 = .ok (.aload_n 0, 1) := by decide +kernel
theorem dX9_comment_122 : decode cX9_comment 122 = .ok (.getfield 13, 3) := by decide +kernel
theorem dX9_comment_125 : decode cX9_comment 125 = .ok (.bipush 12, 2) := by decide +kernel
theorem dX9_comment_127 : decode cX9_comment 127 = .ok (.iload_n 2, 1) := by decide +kernel
theorem dX9_comment_128 : decode cX9_comment 128 = .ok (.imul, 1) := by decide +kernel
theorem dX9_comment_129 : decode cX9_comment 129 = .ok (.iload 10, 2) := by decide +kernel
theorem dX9_comment_131 : decode cX9_comment 131 = .ok (.iadd, 1) := by decide +kernel
theorem dX9_comment_132 : decode cX9_comment 132 = .ok (.iaload, 1) := by decide +kernel
theorem dX9_comment_133 : decode cX9_comment 133 = .ok (.iload 4, 2) := by decide +kernel
theorem dX9_comment_135 : decode cX9_comment 135 = .ok (.if_icmp .ne 15, 3) := by decide +kernel
theorem dX9_comment_138 : decode cX9_comment 138 = .ok (.iload 9, 2) := by decide +kernel
theorem dX9_comment_140 : decode cX9_comment 140 = .ok (.iload 5, 2) := by decide +kernel
theorem dX9_comment_142 : decode cX9_comment 142 = .ok (.if_icmp .ne 8, 3) := by decide +kernel
theorem dX9_comment_145 : decode cX9_comment 145 = .ok (.iload 10, 2) := by decide +kernel
theorem dX9_comment_147 : decode cX9_comment 147 = .ok (.goto 5, 3) := by decide +kernel
theorem dX9_comment_150 : decode cX9_comment 150 = .ok (.iload 8, 2) := by decide +kernel
theorem dX9_comment_152 : decode cX9_comment 152 = .ok (.istore 8, 2) := by decide +kernel
theorem dX9_comment_154 : decode cX9_comment 154 = .ok (.iinc 10 1, 3) := by decide +kernel
theorem dX9_comment_157 : decode cX9_comment 157 = .ok (.goto (-74), 3) := by decide +kernel
theorem dX9_comment_160 : decode cX9_comment 160 = .ok (.aload_n 0, 1) := by decide +kernel
theorem dX9_comment_161 : decode cX9_comment 161 = .ok (.aload_n 0, 1) := by decide +kernel
theorem dX9_comment_162 : decode cX9_comment 162 = .ok (.getfield 103, 3) := by decide +kernel
theorem dX9_comment_165 : decode cX9_comment 165 = .ok (.bipush 60, 2) := by decide +kernel
theorem dX9_comment_167 : decode cX9_comment 167 = .ok (.if_icmp .eq 9, 3) := by decide +kernel
theorem dX9_comment_170 : decode cX9_comment 170 = .ok (.iload 8, 2) := by decide +kernel
theorem dX9_comment_172 : decode cX9_comment 172 = .ok (.iconst (-1), 1) := by decide +kernel
theorem dX9_comment_173 : decode cX9_comment 173 = .ok (.if_icmp .ne 7, 3) := by decide +kernel
theorem dX9_comment_176 : decode cX9_comment 176 = .ok (.iconst 3, 1) := by decide +kernel
theorem dX9_comment_177 : decode cX9_comment 177 = .ok (.goto 4, 3) := by decide +kernel
theorem dX9_comment_180 : decode cX9_comment 180 = .ok (.iconst 0, 1) := by decide +kernel
theorem dX9_comment_181 : decode cX9_comment 181 = .ok (.putfield 89, 3) := by decide +kernel
theorem dX9_comment_184 : decode cX9_comment 184 = .ok (.aload_n 0, 1) := by decide +kernel
theorem dX9_comment_185 : decode cX9_comment 185 = .ok (.getfield 89, 3) := by decide +kernel
theorem dX9_comment_188 : decode cX9_comment 188 = .ok (.ifCond .le 5, 3) := by decide +kernel
theorem dX9_comment_191 : decode cX9_comment 191 = .ok (.iconst 0, 1) := by decide +kernel
theorem dX9_comment_192 : decode cX9_comment 192 = .ok (.ireturn, 1) := by decide +kernel
theorem dX9_comment_193 : decode cX9_comment 193 = .ok (.aload_n 0, 1) := by decide +kernel
theorem dX9_comment_194 : decode cX9_comment 194 = .ok (.iload_n 1, 1) := by decide +kernel
theorem dX9_comment_195 : decode cX9_comment 195 = .ok (.iload_n 3, 1) := by decide +kernel
theorem dX9_comment_196 : decode cX9_comment 196 = .ok (.iload 6, 2) := by decide +kernel
theorem dX9_comment_198 : decode cX9_comment 198 = .ok (.iload 7, 2) := by decide +kernel
theorem dX9_comment_200 : decode cX9_comment 200 = .ok (.invokevirtual 123, 3) := by decide +kernel
theorem dX9_comment_203 : decode cX9_comment 203 = .ok (.istore 10, 2) := by decide +kernel
theorem dX9_comment_205 : decode cX9_comment 205 = .ok (.aload_n 0, 1) := by decide +kernel
theorem dX9_comment_206 : decode cX9_comment 206 = .ok (.getfield 34, 3) := by decide +kernel
theorem dX9_comment_209 : decode cX9_comment 209 = .ok (.iload 10, 2) := by decide +kernel
theorem dX9_comment_211 : decode cX9_comment 211 = .ok (.iconst (-1), 1) := by decide +kernel
theorem dX9_comment_212 : decode cX9_comment 212 = .ok (.iastore, 1) := by decide +kernel
theorem dX9_comment_213 : decode cX9_comment 213 = .ok (.aload_n 0, 1) := by decide +kernel
theorem dX9_comment_214 : decode cX9_comment 214 = .ok (.getfield 37, 3) := by decide +kernel
theorem dX9_comment_217 : decode cX9_comment 217 = .ok (.iload 10, 2) := by decide +kernel
theorem dX9_comment_219 : decode cX9_comment 219 = .ok (.iload 10, 2) := by decide +kernel
theorem dX9_comment_221 : decode cX9_comment 221 = .ok (.iastore, 1) := by decide +kernel
theorem dX9_comment_222 : decode cX9_comment 222 = .ok (.aload_n 0, 1) := by decide +kernel
theorem dX9_comment_223 : decode cX9_comment 223 = .ok (.getfield 40, 3) := by decide +kernel
theorem dX9_comment_226 : decode cX9_comment 226 = .ok (.iload 10, 2) := by decide +kernel
theorem dX9_comment_228 : decode cX9_comment 228 = .ok (.iload_n 2, 1) := by decide +kernel
theorem dX9_comment_229 : decode cX9_comment 229 = .ok (.iastore, 1) := by decide +kernel
theorem dX9_comment_230 : decode cX9_comment 230 = .ok (.aload_n 0, 1) := by decide +kernel
theorem dX9_comment_231 : decode cX9_comment 231 = .ok (.getfield 43, 3) := by decide +kernel
theorem dX9_comment_234 : decode cX9_comment 234 = .ok (.iload 10, 2) := by decide +kernel
theorem dX9_comment_236 : decode cX9_comment 236 = .ok (.iload 4, 2) := by decide +kernel
theorem dX9_comment_238 : decode cX9_comment 238 = .ok (.iastore, 1) := by decide +kernel
theorem dX9_comment_239 : decode cX9_comment 239 = .ok (.aload_n 0, 1) := by decide +kernel
theorem dX9_comment_240 : decode cX9_comment 240 = .ok (.getfield 46, 3) := by decide +kernel
theorem dX9_comment_243 : decode cX9_comment 243 = .ok (.iload 10, 2) := by decide +kernel
theorem dX9_comment_245 : decode cX9_comment 245 = .ok (.iload 8, 2) := by decide +kernel
theorem dX9_comment_247 : decode cX9_comment 247 = .ok (.iastore, 1) := by decide +kernel
theorem dX9_comment_248 : decode cX9_comment 248 = .ok (.iload 10, 2) := by decide +kernel
theorem dX9_comment_250 : decode cX9_comment 250 = .ok (.ireturn, 1) := by decide +kernel
theorem dX9_gloss_0 : decode cX9_gloss 0 = .ok (.aload_n 0, 1) := by decide +kernel
theorem dX9_gloss_1 : decode cX9_gloss 1 = .ok (.aload_n 0, 1) := by decide +kernel
theorem dX9_gloss_2 : decode cX9_gloss 2 = .ok (.iload_n 1, 1) := by decide +kernel
theorem dX9_gloss_3 : decode cX9_gloss 3 = .ok (.invokevirtual 117, 3) := by decide +kernel
theorem dX9_gloss_6 : decode cX9_gloss 6 = .ok (.ifCond .eq 11, 3) := by decide +kernel
theorem dX9_gloss_9 : decode cX9_gloss 9 = .ok (.aload_n 0, 1) := by decide +kernel
theorem dX9_gloss_10 : decode cX9_gloss 10 = .ok (.iload_n 2, 1) := by decide +kernel
theorem dX9_gloss_11 : decode cX9_gloss 11 = .ok (.invokevirtual 127, 3) := by decide +kernel
theorem dX9_gloss_14 : decode cX9_gloss 14 = .ok (.ifCond .ne 7, 3) := by decide +kernel
theorem dX9_gloss_17 : decode cX9_gloss 17 = .ok (.iconst 1, 1) := by decide +kernel
theorem dX9_gloss_18 : decode cX9_gloss 18 = .ok (.goto 20, 3) := by decide +kernel
theorem dX9_gloss_21 : decode cX9_gloss 21 = .ok (.aload_n 0, 1) := by decide +kernel
theorem dX9_gloss_22 : decode cX9_gloss 22 = .ok (.iload_n 3, 1) := by decide +kernel
theorem dX9_gloss_23 : decode cX9_gloss 23 = .ok (.iload 4, 2) := by decide +kernel
theorem dX9_gloss_25 : decode cX9_gloss 25 = .ok (.iload 5, 2) := by decide +kernel
theorem dX9_gloss_27 : decode cX9_gloss 27 = .ok (.invokevirtual 120, 3) := by decide +kernel
theorem dX9_gloss_30 : decode cX9_gloss 30 = .ok (.ifCond .ne 7, 3) := by decide +kernel
theorem dX9_gloss_33 : decode cX9_gloss 33 = .ok (.iconst 2, 1) := by decide +kernel
theorem dX9_gloss_34 : decode cX9_gloss 34 = .ok (.goto 4, 3) := by decide +kernel
theorem dX9_gloss_37 : decode cX9_gloss 37 = .ok (.iconst 0, 1) := by decide +kernel
theorem dX9_gloss_38 : decode cX9_gloss 38 = .ok (.putfield 89, 3) := by decide +kernel
theorem dX9_gloss_41 : decode cX9_gloss 41 = .ok (.aload_n 0, 1) := by decide +kernel
theorem dX9_gloss_42 : decode cX9_gloss 42 = .ok (.getfield 89, 3) := by decide +kernel
theorem dX9_gloss_45 : decode cX9_gloss 45 = .ok (.ifCond .ne 41, 3) := by decide +kernel
theorem dX9_gloss_48 : decode cX9_gloss 48 = .ok (.aload_n 0, 1) := by decide +kernel
theorem dX9_gloss_49 : decode cX9_gloss 49 = .ok (.aload_n 0, 1) := by decide +kernel
theorem dX9_gloss_50 : decode cX9_gloss 50 = .ok (.getfield 103, 3) := by decide +kernel
theorem dX9_gloss_53 : decode cX9_gloss 53 = .ok (.bipush 60, 2) := by decide +kernel
theorem dX9_gloss_55 : decode cX9_gloss 55 = .ok (.if_icmp .eq 23, 3) := by decide +kernel
theorem dX9_gloss_58 : decode cX9_gloss 58 = .ok (.aload_n 0, 1) := by decide +kernel
theorem dX9_gloss_59 : decode cX9_gloss 59 = .ok (.getfield 19, 3) := by decide +kernel
theorem dX9_gloss_62 : decode cX9_gloss 62 = .ok (.aload_n 0, 1) := by decide +kernel
theorem dX9_gloss_63 : decode cX9_gloss 63 = .ok (.getfield 28, 3) := by decide +kernel
theorem dX9_gloss_66 : decode cX9_gloss 66 = .ok (.iload_n 2, 1) := by decide +kernel
theorem dX9_gloss_67 : decode cX9_gloss 67 = .ok (.iaload, 1) := by decide +kernel
theorem dX9_gloss_68 : decode cX9_gloss 68 = .ok (.iaload, 1) := by decide +kernel
theorem dX9_gloss_69 : decode cX9_gloss 69 = .ok (.aload_n 0, 1) := by decide +kernel
theorem dX9_gloss_70 : decode cX9_gloss 70 = .ok (.getfield 19, 3) := by decide +kernel
theorem dX9_gloss_73 : decode cX9_gloss 73 = .ok (.iload_n 1, 1) := by decide +kernel
theorem dX9_gloss_74 : decode cX9_gloss 74 = .ok (.iaload, 1) := by decide +kernel
theorem dX9_gloss_75 : decode cX9_gloss 75 = .ok (.if_icmp .le 7, 3) := by decide +kernel
theorem dX9_gloss_78 : decode cX9_gloss 78 = .ok (.iconst 3, 1) := by decide +kernel
theorem dX9_gloss_79 : decode cX9_gloss 79 = .ok (.goto 4, 3) := by decide +kernel
theorem dX9_gloss_82 : decode cX9_gloss 82 = .ok (.iconst 0, 1) := by decide +kernel
theorem dX9_gloss_83 : decode cX9_gloss 83 = .ok (.putfield 89, 3) := by decide +kernel
theorem dX9_gloss_86 : decode cX9_gloss 86 = .ok (.aload_n 0, 1) := by decide +kernel
theorem dX9_gloss_87 : decode cX9_gloss 87 = .ok (.getfield 89, 3) := by decide +kernel
theorem dX9_gloss_90 : decode cX9_gloss 90 = .ok (.ifCond .le 5, 3) := by decide +kernel
theorem dX9_gloss_93 : decode cX9_gloss 93 = .ok (.iconst 0, 1) := by decide +kernel
theorem dX9_gloss_94 : decode cX9_gloss 94 = .ok (.ireturn, 1) := by decide +kernel
theorem dX9_gloss_95 : decode cX9_gloss 95 = .ok (.aload_n 0, 1) := by decide +kernel
theorem dX9_gloss_96 : decode cX9_gloss 96 = .ok (.iload_n 1, 1) := by decide +kernel
theorem dX9_gloss_97 : decode cX9_gloss 97 = .ok (.iload_n 3, 1) := by decide +kernel
theorem dX9_gloss_98 : decode cX9_gloss 98 = .ok (.iload 4, 2) := by decide +kernel
theorem dX9_gloss_100 : decode cX9_gloss 100 = .ok (.iload 5, 2) := by decide +kernel
theorem dX9_gloss_102 : decode cX9_gloss 102 = .ok (.invokevirtual 123, 3) := by decide +kernel
theorem dX9_gloss_105 : decode cX9_gloss 105 = .ok (.istore 6, 2) := by decide +kernel
theorem dX9_gloss_107 : decode cX9_gloss 107 = .ok (.aload_n 0, 1) := by decide +kernel
theorem dX9_gloss_108 : decode cX9_gloss 108 = .ok (.getfield 34, 3) := by decide +kernel
theorem dX9_gloss_111 : decode cX9_gloss 111 = .ok (.iload 6, 2) := by decide +kernel
theorem dX9_gloss_113 : decode cX9_gloss 113 = .ok (.iload_n 2, 1) := by decide +kernel
theorem dX9_gloss_114 : decode cX9_gloss 114 = .ok (.iastore, 1) := by decide +kernel
theorem dX9_gloss_115 : decode cX9_gloss 115 = .ok (.aload_n 0, 1) := by decide +kernel
theorem dX9_gloss_116 : decode cX9_gloss 116 = .ok (.getfield 37, 3) := by decide +kernel
theorem dX9_gloss_119 : decode cX9_gloss 119 = .ok (.iload 6, 2) := by decide +kernel
theorem dX9_gloss_121 : decode cX9_gloss 121 = .ok (.aload_n 0, 1) := by decide +kernel
theorem dX9_gloss_122 : decode cX9_gloss 122 = .ok (.getfield 37, 3) := by decide +kernel
theorem dX9_gloss_125 : decode cX9_gloss 125 = .ok (.iload_n 2, 1) := by decide +kernel
theorem dX9_gloss_126 : decode cX9_gloss 126 = .ok (.iaload, 1) := by decide +kernel
theorem dX9_gloss_127 : decode cX9_gloss 127 = .ok (.iastore, 1) := by decide +kernel
theorem dX9_gloss_128 : decode cX9_gloss 128 = .ok (.aload_n 0, 1) := by decide +kernel
theorem dX9_gloss_129 : decode cX9_gloss 129 = .ok (.getfield 40, 3) := by decide +kernel
theorem dX9_gloss_132 : decode cX9_gloss 132 = .ok (.iload 6, 2) := by decide +kernel
theorem dX9_gloss_134 : decode cX9_gloss 134 = .ok (.aload_n 0, 1) := by decide +kernel
theorem dX9_gloss_135 : decode cX9_gloss 135 = .ok (.getfield 40, 3) := by decide +kernel
theorem dX9_gloss_138 : decode cX9_gloss 138 = .ok (.iload_n 2, 1) := by decide +kernel
theorem dX9_gloss_139 : decode cX9_gloss 139 = .ok (.iaload, 1) := by decide +kernel
theorem dX9_gloss_140 : decode cX9_gloss 140 = .ok (.iastore, 1) := by decide +kernel
theorem dX9_gloss_141 : decode cX9_gloss 141 = .ok (.iload 6, 2) := by decide +kernel
theorem dX9_gloss_143 : decode cX9_gloss 143 = .ok (.ireturn, 1) := by decide +kernel
theorem dX9_layStands_0 : decode cX9_layStands 0 = .ok (.aload_n 0, 1) := by decide +kernel
theorem dX9_layStands_1 : decode cX9_layStands 1 = .ok (.getfield 103, 3) := by decide +kernel
theorem dX9_layStands_4 : decode cX9_layStands 4 = .ok (.iconst 1, 1) := by decide +kernel
theorem dX9_layStands_5 : decode cX9_layStands 5 = .ok (.isub, 1) := by decide +kernel
theorem dX9_layStands_6 : decode cX9_layStands 6 = .ok (.istore_n 1, 1) := by decide +kernel
theorem dX9_layStands_7 : decode cX9_layStands 7 = .ok (.iload_n 1, 1) := by decide +kernel
theorem dX9_layStands_8 : decode cX9_layStands 8 = .ok (.ifCond .lt 121, 3) := by decide +kernel
theorem dX9_layStands_11 : decode cX9_layStands 11 = .ok (.iconst 0, 1) := by decide +kernel
theorem dX9_layStands_12 : decode cX9_layStands 12 = .ok (.istore_n 2, 1) := by decide +kernel
theorem dX9_layStands_13 : decode cX9_layStands 13 = .ok (.iconst 0, 1) := by decide +kernel
theorem dX9_layStands_14 : decode cX9_layStands 14 = .ok (.istore_n 3, 1) := by decide +kernel
theorem dX9_layStands_15 : decode cX9_layStands 15 = .ok (.iload_n 1, 1) := by decide +kernel
theorem dX9_layStands_16 : decode cX9_layStands 16 = .ok (.iconst 1, 1) := by decide +kernel
theorem dX9_layStands_17 : decode cX9_layStands 17 = .ok (.iadd, 1) := by decide +kernel
theorem dX9_layStands_18 : decode cX9_layStands 18 = .ok (.istore 4, 2) := by decide +kernel
theorem dX9_layStands_20 : decode cX9_layStands 20 = .ok (.iload 4, 2) := by decide +kernel
theorem dX9_layStands_22 : decode cX9_layStands 22 = .ok (.aload_n 0, 1) := by decide +kernel
theorem dX9_layStands_23 : decode cX9_layStands 23 = .ok (.getfield 103, 3) := by decide +kernel
theorem dX9_layStands_26 : decode cX9_layStands 26 = .ok (.if_icmp .ge 79, 3) := by decide +kernel
theorem dX9_layStands_29 : decode cX9_layStands 29 = .ok (.aload_n 0, 1) := by decide +kernel
theorem dX9_layStands_30 : decode cX9_layStands 30 = .ok (.getfield 34, 3) := by decide +kernel
theorem dX9_layStands_33 : decode cX9_layStands 33 = .ok (.iload 4, 2) := by decide +kernel
theorem dX9_layStands_35 : decode cX9_layStands 35 = .ok (.iaload, 1) := by decide +kernel
theorem dX9_layStands_36 : decode cX9_layStands 36 = .ok (.iload_n 1, 1) := by decide +kernel
theorem dX9_layStands_37 : decode cX9_layStands 37 = .ok (.if_icmp .ne 62, 3) := by decide +kernel
theorem dX9_layStands_40 : decode cX9_layStands 40 = .ok (.aload_n 0, 1) := by decide +kernel
theorem dX9_layStands_41 : decode cX9_layStands 41 = .ok (.getfield 59, 3) := by decide +kernel
theorem dX9_layStands_44 : decode cX9_layStands 44 = .ok (.iload 4, 2) := by decide +kernel
theorem dX9_layStands_46 : decode cX9_layStands 46 = .ok (.baload, 1) := by decide +kernel
theorem dX9_layStands_47 : decode cX9_layStands 47 = .ok (.ifCond .eq 52, 3) := by decide +kernel
theorem dX9_layStands_50 : decode cX9_layStands 50 = .ok (.iload_n 2, 1) := by decide +kernel
theorem dX9_layStands_51 : decode cX9_layStands 51 = .ok (.aload_n 0, 1) := by decide +kernel
theorem dX9_layStands_52 : decode cX9_layStands 52 = .ok (.getfield 31, 3) := by decide +kernel
theorem dX9_layStands_55 : decode cX9_layStands 55 = .ok (.iload 4, 2) := by decide +kernel
theorem dX9_layStands_57 : decode cX9_layStands 57 = .ok (.iaload, 1) := by decide +kernel
theorem dX9_layStands_58 : decode cX9_layStands 58 = .ok (.iconst 1, 1) := by decide +kernel
theorem dX9_layStands_59 : decode cX9_layStands 59 = .ok (.if_icmp .eq 14, 3) := by decide +kernel
theorem dX9_layStands_62 : decode cX9_layStands 62 = .ok (.aload_n 0, 1) := by decide +kernel
theorem dX9_layStands_63 : decode cX9_layStands 63 = .ok (.getfield 31, 3) := by decide +kernel
theorem dX9_layStands_66 : decode cX9_layStands 66 = .ok (.iload 4, 2) := by decide +kernel
theorem dX9_layStands_68 : decode cX9_layStands 68 = .ok (.iaload, 1) := by decide +kernel
theorem dX9_layStands_69 : decode cX9_layStands 69 = .ok (.iconst 3, 1) := by decide +kernel
theorem dX9_layStands_70 : decode cX9_layStands 70 = .ok (.if_icmp .ne 7, 3) := by decide +kernel
theorem dX9_layStands_73 : decode cX9_layStands 73 = .ok (.iconst 1, 1) := by decide +kernel
theorem dX9_layStands_74 : decode cX9_layStands 74 = .ok (.goto 4, 3) := by decide +kernel
theorem dX9_layStands_77 : decode cX9_layStands 77 = .ok (.iconst 0, 1) := by decide +kernel
theorem dX9_layStands_78 : decode cX9_layStands 78 = .ok (.iadd, 1) := by decide +kernel
theorem dX9_layStands_79 : decode cX9_layStands 79 = .ok (.istore_n 2, 1) := by decide +kernel
theorem dX9_layStands_80 : decode cX9_layStands 80 = .ok (.iload_n 3, 1) := by decide +kernel
theorem dX9_layStands_81 : decode cX9_layStands 81 = .ok (.aload_n 0, 1) := by decide +kernel
theorem dX9_layStands_82 : decode cX9_layStands 82 = .ok (.getfield 31, 3) := by decide +kernel
theorem dX9_layStands_85 : decode cX9_layStands 85 = .ok (.iload 4, 2) := by decide +kernel
theorem dX9_layStands_87 : decode cX9_layStands 87 = .ok (.iaload, 1) := by decide +kernel
theorem dX9_layStands_88 : decode cX9_layStands 88 = .ok (.iconst 2, 1) := by decide +kernel
theorem dX9_layStands_89 : decode cX9_layStands 89 = .ok (.if_icmp .ne 7, 3) := by decide +kernel
theorem dX9_layStands_92 : decode cX9_layStands 92 = .ok (.iconst 1, 1) := by decide +kernel
theorem dX9_layStands_93 : decode cX9_layStands 93 = .ok (.goto 4, 3) := by decide +kernel
theorem dX9_layStands_96 : decode cX9_layStands 96 = .ok (.iconst 0, 1) := by decide +kernel
theorem dX9_layStands_97 : decode cX9_layStands 97 = .ok (.iadd, 1) := by decide +kernel
theorem dX9_layStands_98 : decode cX9_layStands 98 = .ok (.istore_n 3, 1) := by decide +kernel
theorem dX9_layStands_99 : decode cX9_layStands 99 = .ok (.iinc 4 1, 3) := by decide +kernel
theorem dX9_layStands_102 : decode cX9_layStands 102 = .ok (.goto (-82), 3) := by decide +kernel
theorem dX9_layStands_105 : decode cX9_layStands 105 = .ok (.aload_n 0, 1) := by decide +kernel
theorem dX9_layStands_106 : decode cX9_layStands 106 = .ok (.getfield 59, 3) := by decide +kernel
theorem dX9_layStands_109 : decode cX9_layStands 109 = .ok (.iload_n 1, 1) := by decide +kernel
theorem dX9_layStands_110 : decode cX9_layStands 110 = .ok (.iload_n 2, 1) := by decide +kernel
theorem dX9_layStands_111 : decode cX9_layStands 111 = .ok (.iconst 1, 1) := by decide +kernel
theorem dX9_layStands_112 : decode cX9_layStands 112 = .ok (.iload_n 3, 1) := by decide +kernel
theorem dX9_layStands_113 : decode cX9_layStands 113 = .ok (.iadd, 1) := by decide +kernel
theorem dX9_layStands_114 : decode cX9_layStands 114 = .ok (.if_icmp .ge 7, 3) := by decide +kernel
theorem dX9_layStands_117 : decode cX9_layStands 117 = .ok (.iconst 1, 1) := by decide +kernel
theorem dX9_layStands_118 : decode cX9_layStands 118 = .ok (.goto 4, 3) := by decide +kernel
theorem dX9_layStands_121 : decode cX9_layStands 121 = .ok (.iconst 0, 1) := by decide +kernel
theorem dX9_layStands_122 : decode cX9_layStands 122 = .ok (.bastore, 1) := by decide +kernel
theorem dX9_layStands_123 : decode cX9_layStands 123 = .ok (.iinc 1 (-1), 3) := by decide +kernel
theorem dX9_layStands_126 : decode cX9_layStands 126 = .ok (.goto (-119), 3) := by decide +kernel
theorem dX9_layStands_129 : decode cX9_layStands 129 = .ok (.return_, 1) := by decide +kernel
theorem dX9_told_0 : decode cX9_told 0 = .ok (.aload_n 0, 1) := by decide +kernel
theorem dX9_told_1 : decode cX9_told 1 = .ok (.aload_n 0, 1) := by decide +kernel
theorem dX9_told_2 : decode cX9_told 2 = .ok (.iload_n 1, 1) := by decide +kernel
theorem dX9_told_3 : decode cX9_told 3 = .ok (.invokevirtual 127, 3) := by decide +kernel
theorem dX9_told_6 : decode cX9_told 6 = .ok (.ifCond .ne 7, 3) := by decide +kernel
theorem dX9_told_9 : decode cX9_told 9 = .ok (.iconst 1, 1) := by decide +kernel
theorem dX9_told_10 : decode cX9_told 10 = .ok (.goto 19, 3) := by decide +kernel
theorem dX9_told_13 : decode cX9_told 13 = .ok (.aload_n 0, 1) := by decide +kernel
theorem dX9_told_14 : decode cX9_told 14 = .ok (.iload_n 2, 1) := by decide +kernel
theorem dX9_told_15 : decode cX9_told 15 = .ok (.iconst 0, 1) := by decide +kernel
theorem dX9_told_16 : decode cX9_told 16 = .ok (.bipush 6, 2) := by decide +kernel
theorem dX9_told_18 : decode cX9_told 18 = .ok (.invokevirtual 96, 3) := by decide +kernel
theorem dX9_told_21 : decode cX9_told 21 = .ok (.ifCond .ne 7, 3) := by decide +kernel
theorem dX9_told_24 : decode cX9_told 24 = .ok (.iconst 2, 1) := by decide +kernel
theorem dX9_told_25 : decode cX9_told 25 = .ok (.goto 4, 3) := by decide +kernel
theorem dX9_told_28 : decode cX9_told 28 = .ok (.iconst 0, 1) := by decide +kernel
theorem dX9_told_29 : decode cX9_told 29 = .ok (.putfield 89, 3) := by decide +kernel
theorem dX9_told_32 : decode cX9_told 32 = .ok (.aload_n 0, 1) := by decide +kernel
theorem dX9_told_33 : decode cX9_told 33 = .ok (.getfield 89, 3) := by decide +kernel
theorem dX9_told_36 : decode cX9_told 36 = .ok (.ifCond .le 5, 3) := by decide +kernel
theorem dX9_told_39 : decode cX9_told 39 = .ok (.iconst 0, 1) := by decide +kernel
theorem dX9_told_40 : decode cX9_told 40 = .ok (.ireturn, 1) := by decide +kernel
theorem dX9_told_41 : decode cX9_told 41 = .ok (.aload_n 0, 1) := by decide +kernel
theorem dX9_told_42 : decode cX9_told 42 = .ok (.invokevirtual 130, 3) := by decide +kernel
theorem dX9_told_45 : decode cX9_told 45 = .ok (.iload_n 2, 1) := by decide +kernel
theorem dX9_told_46 : decode cX9_told 46 = .ok (.tableswitch 106 0 5 #[38, 45, 52, 64, 84, 99], 38) := by decide +kernel
theorem dX9_told_84 : decode cX9_told 84 = .ok (.aload_n 0, 1) := by decide +kernel
theorem dX9_told_85 : decode cX9_told 85 = .ok (.getfield 28, 3) := by decide +kernel
theorem dX9_told_88 : decode cX9_told 88 = .ok (.iload_n 1, 1) := by decide +kernel
theorem dX9_told_89 : decode cX9_told 89 = .ok (.iaload, 1) := by decide +kernel
theorem dX9_told_90 : decode cX9_told 90 = .ok (.ireturn, 1) := by decide +kernel
theorem dX9_told_91 : decode cX9_told 91 = .ok (.aload_n 0, 1) := by decide +kernel
theorem dX9_told_92 : decode cX9_told 92 = .ok (.getfield 40, 3) := by decide +kernel
theorem dX9_told_95 : decode cX9_told 95 = .ok (.iload_n 1, 1) := by decide +kernel
theorem dX9_told_96 : decode cX9_told 96 = .ok (.iaload, 1) := by decide +kernel
theorem dX9_told_97 : decode cX9_told 97 = .ok (.ireturn, 1) := by decide +kernel
theorem dX9_told_98 : decode cX9_told 98 = .ok (.aload_n 0, 1) := by decide +kernel
theorem dX9_told_99 : decode cX9_told 99 = .ok (.getfield 46, 3) := by decide +kernel
theorem dX9_told_102 : decode cX9_told 102 = .ok (.aload_n 0, 1) := by decide +kernel
theorem dX9_told_103 : decode cX9_told 103 = .ok (.getfield 37, 3) := by decide +kernel
theorem dX9_told_106 : decode cX9_told 106 = .ok (.iload_n 1, 1) := by decide +kernel
theorem dX9_told_107 : decode cX9_told 107 = .ok (.iaload, 1) := by decide +kernel
theorem dX9_told_108 : decode cX9_told 108 = .ok (.iaload, 1) := by decide +kernel
theorem dX9_told_109 : decode cX9_told 109 = .ok (.ireturn, 1) := by decide +kernel
theorem dX9_told_110 : decode cX9_told 110 = .ok (.aload_n 0, 1) := by decide +kernel
theorem dX9_told_111 : decode cX9_told 111 = .ok (.getfield 49, 3) := by decide +kernel
theorem dX9_told_114 : decode cX9_told 114 = .ok (.aload_n 0, 1) := by decide +kernel
theorem dX9_told_115 : decode cX9_told 115 = .ok (.getfield 37, 3) := by decide +kernel
theorem dX9_told_118 : decode cX9_told 118 = .ok (.iload_n 1, 1) := by decide +kernel
theorem dX9_told_119 : decode cX9_told 119 = .ok (.iaload, 1) := by decide +kernel
theorem dX9_told_120 : decode cX9_told 120 = .ok (.baload, 1) := by decide +kernel
theorem dX9_told_121 : decode cX9_told 121 = .ok (.ifCond .eq 7, 3) := by decide +kernel
theorem dX9_told_124 : decode cX9_told 124 = .ok (.iconst 1, 1) := by decide +kernel
theorem dX9_told_125 : decode cX9_told 125 = .ok (.goto 4, 3) := by decide +kernel
theorem dX9_told_128 : decode cX9_told 128 = .ok (.iconst 0, 1) := by decide +kernel
theorem dX9_told_129 : decode cX9_told 129 = .ok (.ireturn, 1) := by decide +kernel
theorem dX9_told_130 : decode cX9_told 130 = .ok (.aload_n 0, 1) := by decide +kernel
theorem dX9_told_131 : decode cX9_told 131 = .ok (.getfield 59, 3) := by decide +kernel
theorem dX9_told_134 : decode cX9_told 134 = .ok (.iload_n 1, 1) := by decide +kernel
theorem dX9_told_135 : decode cX9_told 135 = .ok (.baload, 1) := by decide +kernel
theorem dX9_told_136 : decode cX9_told 136 = .ok (.ifCond .eq 7, 3) := by decide +kernel
theorem dX9_told_139 : decode cX9_told 139 = .ok (.iconst 1, 1) := by decide +kernel
theorem dX9_told_140 : decode cX9_told 140 = .ok (.goto 4, 3) := by decide +kernel
theorem dX9_told_143 : decode cX9_told 143 = .ok (.iconst 0, 1) := by decide +kernel
theorem dX9_told_144 : decode cX9_told 144 = .ok (.ireturn, 1) := by decide +kernel
theorem dX9_told_145 : decode cX9_told 145 = .ok (.aload_n 0, 1) := by decide +kernel
theorem dX9_told_146 : decode cX9_told 146 = .ok (.getfield 34, 3) := by decide +kernel
theorem dX9_told_149 : decode cX9_told 149 = .ok (.iload_n 1, 1) := by decide +kernel
theorem dX9_told_150 : decode cX9_told 150 = .ok (.iaload, 1) := by decide +kernel
theorem dX9_told_151 : decode cX9_told 151 = .ok (.ireturn, 1) := by decide +kernel
theorem dX9_told_152 : decode cX9_told 152 = .ok (.aload_n 0, 1) := by decide +kernel
theorem dX9_told_153 : decode cX9_told 153 = .ok (.getfield 31, 3) := by decide +kernel
theorem dX9_told_156 : decode cX9_told 156 = .ok (.iload_n 1, 1) := by decide +kernel
theorem dX9_told_157 : decode cX9_told 157 = .ok (.iaload, 1) := by decide +kernel
theorem dX9_told_158 : decode cX9_told 158 = .ok (.ireturn, 1) := by decide +kernel
theorem dX9_standsAnew_0 : decode cX9_standsAnew 0 = .ok (.aload_n 0, 1) := by decide +kernel
theorem dX9_standsAnew_1 : decode cX9_standsAnew 1 = .ok (.aload_n 0, 1) := by decide +kernel
theorem dX9_standsAnew_2 : decode cX9_standsAnew 2 = .ok (.iload_n 1, 1) := by decide +kernel
theorem dX9_standsAnew_3 : decode cX9_standsAnew 3 = .ok (.invokevirtual 127, 3) := by decide +kernel
theorem dX9_standsAnew_6 : decode cX9_standsAnew 6 = .ok (.ifCond .ne 7, 3) := by decide +kernel
theorem dX9_standsAnew_9 : decode cX9_standsAnew 9 = .ok (.iconst 1, 1) := by decide +kernel
theorem dX9_standsAnew_10 : decode cX9_standsAnew 10 = .ok (.goto 4, 3) := by decide +kernel
theorem dX9_standsAnew_13 : decode cX9_standsAnew 13 = .ok (.iconst 0, 1) := by decide +kernel
theorem dX9_standsAnew_14 : decode cX9_standsAnew 14 = .ok (.putfield 89, 3) := by decide +kernel
theorem dX9_standsAnew_17 : decode cX9_standsAnew 17 = .ok (.aload_n 0, 1) := by decide +kernel
theorem dX9_standsAnew_18 : decode cX9_standsAnew 18 = .ok (.getfield 89, 3) := by decide +kernel
theorem dX9_standsAnew_21 : decode cX9_standsAnew 21 = .ok (.ifCond .le 5, 3) := by decide +kernel
theorem dX9_standsAnew_24 : decode cX9_standsAnew 24 = .ok (.iconst 0, 1) := by decide +kernel
theorem dX9_standsAnew_25 : decode cX9_standsAnew 25 = .ok (.ireturn, 1) := by decide +kernel
theorem dX9_standsAnew_26 : decode cX9_standsAnew 26 = .ok (.aload_n 0, 1) := by decide +kernel
theorem dX9_standsAnew_27 : decode cX9_standsAnew 27 = .ok (.invokevirtual 130, 3) := by decide +kernel
theorem dX9_standsAnew_30 : decode cX9_standsAnew 30 = .ok (.aload_n 0, 1) := by decide +kernel
theorem dX9_standsAnew_31 : decode cX9_standsAnew 31 = .ok (.getfield 59, 3) := by decide +kernel
theorem dX9_standsAnew_34 : decode cX9_standsAnew 34 = .ok (.iload_n 1, 1) := by decide +kernel
theorem dX9_standsAnew_35 : decode cX9_standsAnew 35 = .ok (.baload, 1) := by decide +kernel
theorem dX9_standsAnew_36 : decode cX9_standsAnew 36 = .ok (.ireturn, 1) := by decide +kernel
theorem dX9_asks_0 : decode cX9_asks 0 = .ok (.aload_n 0, 1) := by decide +kernel
theorem dX9_asks_1 : decode cX9_asks 1 = .ok (.getfield 34, 3) := by decide +kernel
theorem dX9_asks_4 : decode cX9_asks 4 = .ok (.iload_n 1, 1) := by decide +kernel
theorem dX9_asks_5 : decode cX9_asks 5 = .ok (.iaload, 1) := by decide +kernel
theorem dX9_asks_6 : decode cX9_asks 6 = .ok (.iconst (-1), 1) := by decide +kernel
theorem dX9_asks_7 : decode cX9_asks 7 = .ok (.if_icmp .ne 26, 3) := by decide +kernel
theorem dX9_asks_10 : decode cX9_asks 10 = .ok (.aload_n 0, 1) := by decide +kernel
theorem dX9_asks_11 : decode cX9_asks 11 = .ok (.getfield 31, 3) := by decide +kernel
theorem dX9_asks_14 : decode cX9_asks 14 = .ok (.iload_n 1, 1) := by decide +kernel
theorem dX9_asks_15 : decode cX9_asks 15 = .ok (.iaload, 1) := by decide +kernel
theorem dX9_asks_16 : decode cX9_asks 16 = .ok (.ifCond .eq 13, 3) := by decide +kernel
theorem dX9_asks_19 : decode cX9_asks 19 = .ok (.aload_n 0, 1) := by decide +kernel
theorem dX9_asks_20 : decode cX9_asks 20 = .ok (.getfield 31, 3) := by decide +kernel
theorem dX9_asks_23 : decode cX9_asks 23 = .ok (.iload_n 1, 1) := by decide +kernel
theorem dX9_asks_24 : decode cX9_asks 24 = .ok (.iaload, 1) := by decide +kernel
theorem dX9_asks_25 : decode cX9_asks 25 = .ok (.iconst 1, 1) := by decide +kernel
theorem dX9_asks_26 : decode cX9_asks 26 = .ok (.if_icmp .ne 7, 3) := by decide +kernel
theorem dX9_asks_29 : decode cX9_asks 29 = .ok (.iconst 1, 1) := by decide +kernel
theorem dX9_asks_30 : decode cX9_asks 30 = .ok (.goto 4, 3) := by decide +kernel
theorem dX9_asks_33 : decode cX9_asks 33 = .ok (.iconst 0, 1) := by decide +kernel
theorem dX9_asks_34 : decode cX9_asks 34 = .ok (.ireturn, 1) := by decide +kernel
theorem dX9_isHard_0 : decode cX9_isHard 0 = .ok (.aload_n 0, 1) := by decide +kernel
theorem dX9_isHard_1 : decode cX9_isHard 1 = .ok (.aload_n 0, 1) := by decide +kernel
theorem dX9_isHard_2 : decode cX9_isHard 2 = .ok (.iload_n 1, 1) := by decide +kernel
theorem dX9_isHard_3 : decode cX9_isHard 3 = .ok (.invokevirtual 109, 3) := by decide +kernel
theorem dX9_isHard_6 : decode cX9_isHard 6 = .ok (.ifCond .ne 7, 3) := by decide +kernel
theorem dX9_isHard_9 : decode cX9_isHard 9 = .ok (.iconst 1, 1) := by decide +kernel
theorem dX9_isHard_10 : decode cX9_isHard 10 = .ok (.goto 4, 3) := by decide +kernel
theorem dX9_isHard_13 : decode cX9_isHard 13 = .ok (.iconst 0, 1) := by decide +kernel
theorem dX9_isHard_14 : decode cX9_isHard 14 = .ok (.putfield 89, 3) := by decide +kernel
theorem dX9_isHard_17 : decode cX9_isHard 17 = .ok (.aload_n 0, 1) := by decide +kernel
theorem dX9_isHard_18 : decode cX9_isHard 18 = .ok (.invokevirtual 130, 3) := by decide +kernel
theorem dX9_isHard_21 : decode cX9_isHard 21 = .ok (.iconst 0, 1) := by decide +kernel
theorem dX9_isHard_22 : decode cX9_isHard 22 = .ok (.istore_n 2, 1) := by decide +kernel
theorem dX9_isHard_23 : decode cX9_isHard 23 = .ok (.iconst 0, 1) := by decide +kernel
theorem dX9_isHard_24 : decode cX9_isHard 24 = .ok (.istore_n 3, 1) := by decide +kernel
theorem dX9_isHard_25 : decode cX9_isHard 25 = .ok (.iload_n 3, 1) := by decide +kernel
theorem dX9_isHard_26 : decode cX9_isHard 26 = .ok (.aload_n 0, 1) := by decide +kernel
theorem dX9_isHard_27 : decode cX9_isHard 27 = .ok (.getfield 103, 3) := by decide +kernel
theorem dX9_isHard_30 : decode cX9_isHard 30 = .ok (.if_icmp .ge 53, 3) := by decide +kernel
theorem dX9_isHard_33 : decode cX9_isHard 33 = .ok (.aload_n 0, 1) := by decide +kernel
theorem dX9_isHard_34 : decode cX9_isHard 34 = .ok (.getfield 89, 3) := by decide +kernel
theorem dX9_isHard_37 : decode cX9_isHard 37 = .ok (.ifCond .ne 46, 3) := by decide +kernel
theorem dX9_isHard_40 : decode cX9_isHard 40 = .ok (.iload_n 2, 1) := by decide +kernel
theorem dX9_isHard_41 : decode cX9_isHard 41 = .ok (.ifCond .ne 30, 3) := by decide +kernel
theorem dX9_isHard_44 : decode cX9_isHard 44 = .ok (.aload_n 0, 1) := by decide +kernel
theorem dX9_isHard_45 : decode cX9_isHard 45 = .ok (.getfield 40, 3) := by decide +kernel
theorem dX9_isHard_48 : decode cX9_isHard 48 = .ok (.iload_n 3, 1) := by decide +kernel
theorem dX9_isHard_49 : decode cX9_isHard 49 = .ok (.iaload, 1) := by decide +kernel
theorem dX9_isHard_50 : decode cX9_isHard 50 = .ok (.iload_n 1, 1) := by decide +kernel
theorem dX9_isHard_51 : decode cX9_isHard 51 = .ok (.if_icmp .ne 24, 3) := by decide +kernel
theorem dX9_isHard_54 : decode cX9_isHard 54 = .ok (.aload_n 0, 1) := by decide +kernel
theorem dX9_isHard_55 : decode cX9_isHard 55 = .ok (.iload_n 3, 1) := by decide +kernel
theorem dX9_isHard_56 : decode cX9_isHard 56 = .ok (.invokevirtual 133, 3) := by decide +kernel
theorem dX9_isHard_59 : decode cX9_isHard 59 = .ok (.ifCond .eq 16, 3) := by decide +kernel
theorem dX9_isHard_62 : decode cX9_isHard 62 = .ok (.aload_n 0, 1) := by decide +kernel
theorem dX9_isHard_63 : decode cX9_isHard 63 = .ok (.getfield 59, 3) := by decide +kernel
theorem dX9_isHard_66 : decode cX9_isHard 66 = .ok (.iload_n 3, 1) := by decide +kernel
theorem dX9_isHard_67 : decode cX9_isHard 67 = .ok (.baload, 1) := by decide +kernel
theorem dX9_isHard_68 : decode cX9_isHard 68 = .ok (.ifCond .eq 7, 3) := by decide +kernel
theorem dX9_isHard_71 : decode cX9_isHard 71 = .ok (.iconst 1, 1) := by decide +kernel
theorem dX9_isHard_72 : decode cX9_isHard 72 = .ok (.goto 4, 3) := by decide +kernel
theorem dX9_isHard_75 : decode cX9_isHard 75 = .ok (.iconst 0, 1) := by decide +kernel
theorem dX9_isHard_76 : decode cX9_isHard 76 = .ok (.istore_n 2, 1) := by decide +kernel
theorem dX9_isHard_77 : decode cX9_isHard 77 = .ok (.iinc 3 1, 3) := by decide +kernel
theorem dX9_isHard_80 : decode cX9_isHard 80 = .ok (.goto (-55), 3) := by decide +kernel
theorem dX9_isHard_83 : decode cX9_isHard 83 = .ok (.iload_n 2, 1) := by decide +kernel
theorem dX9_isHard_84 : decode cX9_isHard 84 = .ok (.ireturn, 1) := by decide +kernel
theorem dX9_solved_0 : decode cX9_solved 0 = .ok (.aload_n 0, 1) := by decide +kernel
theorem dX9_solved_1 : decode cX9_solved 1 = .ok (.aload_n 0, 1) := by decide +kernel
theorem dX9_solved_2 : decode cX9_solved 2 = .ok (.iload_n 1, 1) := by decide +kernel
theorem dX9_solved_3 : decode cX9_solved 3 = .ok (.iconst 0, 1) := by decide +kernel
theorem dX9_solved_4 : decode cX9_solved 4 = .ok (.iconst 3, 1) := by decide +kernel
theorem dX9_solved_5 : decode cX9_solved 5 = .ok (.invokevirtual 96, 3) := by decide +kernel
theorem dX9_solved_8 : decode cX9_solved 8 = .ok (.ifCond .ne 7, 3) := by decide +kernel
theorem dX9_solved_11 : decode cX9_solved 11 = .ok (.iconst 1, 1) := by decide +kernel
theorem dX9_solved_12 : decode cX9_solved 12 = .ok (.goto 4, 3) := by decide +kernel
theorem dX9_solved_15 : decode cX9_solved 15 = .ok (.iconst 0, 1) := by decide +kernel
theorem dX9_solved_16 : decode cX9_solved 16 = .ok (.putfield 89, 3) := by decide +kernel
theorem dX9_solved_19 : decode cX9_solved 19 = .ok (.aload_n 0, 1) := by decide +kernel
theorem dX9_solved_20 : decode cX9_solved 20 = .ok (.invokevirtual 130, 3) := by decide +kernel
theorem dX9_solved_23 : decode cX9_solved 23 = .ok (.iconst 0, 1) := by decide +kernel
theorem dX9_solved_24 : decode cX9_solved 24 = .ok (.istore_n 2, 1) := by decide +kernel
theorem dX9_solved_25 : decode cX9_solved 25 = .ok (.iconst 0, 1) := by decide +kernel
theorem dX9_solved_26 : decode cX9_solved 26 = .ok (.istore_n 3, 1) := by decide +kernel
theorem dX9_solved_27 : decode cX9_solved 27 = .ok (.iload_n 3, 1) := by decide +kernel
theorem dX9_solved_28 : decode cX9_solved 28 = .ok (.aload_n 0, 1) := by decide +kernel
theorem dX9_solved_29 : decode cX9_solved 29 = .ok (.getfield 103, 3) := by decide +kernel
theorem dX9_solved_32 : decode cX9_solved 32 = .ok (.if_icmp .ge 127, 3) := by decide +kernel
theorem dX9_solved_35 : decode cX9_solved 35 = .ok (.aload_n 0, 1) := by decide +kernel
theorem dX9_solved_36 : decode cX9_solved 36 = .ok (.getfield 89, 3) := by decide +kernel
theorem dX9_solved_39 : decode cX9_solved 39 = .ok (.ifCond .ne 120, 3) := by decide +kernel
theorem dX9_solved_42 : decode cX9_solved 42 = .ok (.iconst (-1), 1) := by decide +kernel
theorem dX9_solved_43 : decode cX9_solved 43 = .ok (.istore 4, 2) := by decide +kernel
theorem dX9_solved_45 : decode cX9_solved 45 = .ok (.aload_n 0, 1) := by decide +kernel
theorem dX9_solved_46 : decode cX9_solved 46 = .ok (.getfield 103, 3) := by decide +kernel
theorem dX9_solved_49 : decode cX9_solved 49 = .ok (.iconst 1, 1) := by decide +kernel
theorem dX9_solved_50 : decode cX9_solved 50 = .ok (.isub, 1) := by decide +kernel
theorem dX9_solved_51 : decode cX9_solved 51 = .ok (.istore 5, 2) := by decide +kernel
theorem dX9_solved_53 : decode cX9_solved 53 = .ok (.iload 5, 2) := by decide +kernel
theorem dX9_solved_55 : decode cX9_solved 55 = .ok (.iload_n 3, 1) := by decide +kernel
theorem dX9_solved_56 : decode cX9_solved 56 = .ok (.if_icmp .le 50, 3) := by decide +kernel
theorem dX9_solved_59 : decode cX9_solved 59 = .ok (.aload_n 0, 1) := by decide +kernel
theorem dX9_solved_60 : decode cX9_solved 60 = .ok (.getfield 34, 3) := by decide +kernel
theorem dX9_solved_63 : decode cX9_solved 63 = .ok (.iload 5, 2) := by decide +kernel
theorem dX9_solved_65 : decode cX9_solved 65 = .ok (.iaload, 1) := by decide +kernel
theorem dX9_solved_66 : decode cX9_solved 66 = .ok (.iload_n 3, 1) := by decide +kernel
theorem dX9_solved_67 : decode cX9_solved 67 = .ok (.if_icmp .ne 29, 3) := by decide +kernel
theorem dX9_solved_70 : decode cX9_solved 70 = .ok (.aload_n 0, 1) := by decide +kernel
theorem dX9_solved_71 : decode cX9_solved 71 = .ok (.getfield 31, 3) := by decide +kernel
theorem dX9_solved_74 : decode cX9_solved 74 = .ok (.iload 5, 2) := by decide +kernel
theorem dX9_solved_76 : decode cX9_solved 76 = .ok (.iaload, 1) := by decide +kernel
theorem dX9_solved_77 : decode cX9_solved 77 = .ok (.iconst 3, 1) := by decide +kernel
theorem dX9_solved_78 : decode cX9_solved 78 = .ok (.if_icmp .ne 18, 3) := by decide +kernel
theorem dX9_solved_81 : decode cX9_solved 81 = .ok (.aload_n 0, 1) := by decide +kernel
theorem dX9_solved_82 : decode cX9_solved 82 = .ok (.getfield 59, 3) := by decide +kernel
theorem dX9_solved_85 : decode cX9_solved 85 = .ok (.iload 5, 2) := by decide +kernel
theorem dX9_solved_87 : decode cX9_solved 87 = .ok (.baload, 1) := by decide +kernel
theorem dX9_solved_88 : decode cX9_solved 88 = .ok (.ifCond .eq 8, 3) := by decide +kernel
theorem dX9_solved_91 : decode cX9_solved 91 = .ok (.iload 5, 2) := by decide +kernel
theorem dX9_solved_93 : decode cX9_solved 93 = .ok (.goto 5, 3) := by decide +kernel
theorem dX9_solved_96 : decode cX9_solved 96 = .ok (.iload 4, 2) := by decide +kernel
theorem dX9_solved_98 : decode cX9_solved 98 = .ok (.istore 4, 2) := by decide +kernel
theorem dX9_solved_100 : decode cX9_solved 100 = .ok (.iinc 5 (-1), 3) := by decide +kernel
theorem dX9_solved_103 : decode cX9_solved 103 = .ok (.goto (-50), 3) := by decide +kernel
theorem dX9_solved_106 : decode cX9_solved 106 = .ok (.iload_n 2, 1) := by decide +kernel
theorem dX9_solved_107 : decode cX9_solved 107 = .ok (.aload_n 0, 1) := by decide +kernel
theorem dX9_solved_108 : decode cX9_solved 108 = .ok (.iload_n 3, 1) := by decide +kernel
theorem dX9_solved_109 : decode cX9_solved 109 = .ok (.invokevirtual 133, 3) := by decide +kernel
theorem dX9_solved_112 : decode cX9_solved 112 = .ok (.ifCond .eq 38, 3) := by decide +kernel
theorem dX9_solved_115 : decode cX9_solved 115 = .ok (.aload_n 0, 1) := by decide +kernel
theorem dX9_solved_116 : decode cX9_solved 116 = .ok (.getfield 59, 3) := by decide +kernel
theorem dX9_solved_119 : decode cX9_solved 119 = .ok (.iload_n 3, 1) := by decide +kernel
theorem dX9_solved_120 : decode cX9_solved 120 = .ok (.baload, 1) := by decide +kernel
theorem dX9_solved_121 : decode cX9_solved 121 = .ok (.ifCond .ne 29, 3) := by decide +kernel
theorem dX9_solved_124 : decode cX9_solved 124 = .ok (.iload 4, 2) := by decide +kernel
theorem dX9_solved_126 : decode cX9_solved 126 = .ok (.iconst (-1), 1) := by decide +kernel
theorem dX9_solved_127 : decode cX9_solved 127 = .ok (.if_icmp .eq 23, 3) := by decide +kernel
theorem dX9_solved_130 : decode cX9_solved 130 = .ok (.aload_n 0, 1) := by decide +kernel
theorem dX9_solved_131 : decode cX9_solved 131 = .ok (.getfield 22, 3) := by decide +kernel
theorem dX9_solved_134 : decode cX9_solved 134 = .ok (.aload_n 0, 1) := by decide +kernel
theorem dX9_solved_135 : decode cX9_solved 135 = .ok (.getfield 28, 3) := by decide +kernel
theorem dX9_solved_138 : decode cX9_solved 138 = .ok (.iload 4, 2) := by decide +kernel
theorem dX9_solved_140 : decode cX9_solved 140 = .ok (.iaload, 1) := by decide +kernel
theorem dX9_solved_141 : decode cX9_solved 141 = .ok (.iaload, 1) := by decide +kernel
theorem dX9_solved_142 : decode cX9_solved 142 = .ok (.iload_n 1, 1) := by decide +kernel
theorem dX9_solved_143 : decode cX9_solved 143 = .ok (.if_icmp .ne 7, 3) := by decide +kernel
theorem dX9_solved_146 : decode cX9_solved 146 = .ok (.iconst 1, 1) := by decide +kernel
theorem dX9_solved_147 : decode cX9_solved 147 = .ok (.goto 4, 3) := by decide +kernel
theorem dX9_solved_150 : decode cX9_solved 150 = .ok (.iconst 0, 1) := by decide +kernel
theorem dX9_solved_151 : decode cX9_solved 151 = .ok (.iadd, 1) := by decide +kernel
theorem dX9_solved_152 : decode cX9_solved 152 = .ok (.istore_n 2, 1) := by decide +kernel
theorem dX9_solved_153 : decode cX9_solved 153 = .ok (.iinc 3 1, 3) := by decide +kernel
theorem dX9_solved_156 : decode cX9_solved 156 = .ok (.goto (-129), 3) := by decide +kernel
theorem dX9_solved_159 : decode cX9_solved 159 = .ok (.iload_n 2, 1) := by decide +kernel
theorem dX9_solved_160 : decode cX9_solved 160 = .ok (.ireturn, 1) := by decide +kernel
theorem dX9_likeness_0 : decode cX9_likeness 0 = .ok (.iconst 0, 1) := by decide +kernel
theorem dX9_likeness_1 : decode cX9_likeness 1 = .ok (.istore_n 2, 1) := by decide +kernel
theorem dX9_likeness_2 : decode cX9_likeness 2 = .ok (.iload_n 2, 1) := by decide +kernel
theorem dX9_likeness_3 : decode cX9_likeness 3 = .ok (.bipush 13, 2) := by decide +kernel
theorem dX9_likeness_5 : decode cX9_likeness 5 = .ok (.if_icmp .ge 16, 3) := by decide +kernel
theorem dX9_likeness_8 : decode cX9_likeness 8 = .ok (.aload_n 0, 1) := by decide +kernel
theorem dX9_likeness_9 : decode cX9_likeness 9 = .ok (.getfield 86, 3) := by decide +kernel
theorem dX9_likeness_12 : decode cX9_likeness 12 = .ok (.iload_n 2, 1) := by decide +kernel
theorem dX9_likeness_13 : decode cX9_likeness 13 = .ok (.iconst 0, 1) := by decide +kernel
theorem dX9_likeness_14 : decode cX9_likeness 14 = .ok (.iastore, 1) := by decide +kernel
theorem dX9_likeness_15 : decode cX9_likeness 15 = .ok (.iinc 2 1, 3) := by decide +kernel
theorem dX9_likeness_18 : decode cX9_likeness 18 = .ok (.goto (-16), 3) := by decide +kernel
theorem dX9_likeness_21 : decode cX9_likeness 21 = .ok (.iconst 0, 1) := by decide +kernel
theorem dX9_likeness_22 : decode cX9_likeness 22 = .ok (.istore_n 2, 1) := by decide +kernel
theorem dX9_likeness_23 : decode cX9_likeness 23 = .ok (.iload_n 2, 1) := by decide +kernel
theorem dX9_likeness_24 : decode cX9_likeness 24 = .ok (.aload_n 0, 1) := by decide +kernel
theorem dX9_likeness_25 : decode cX9_likeness 25 = .ok (.getfield 106, 3) := by decide +kernel
theorem dX9_likeness_28 : decode cX9_likeness 28 = .ok (.if_icmp .ge 108, 3) := by decide +kernel
theorem dX9_likeness_31 : decode cX9_likeness 31 = .ok (.iconst 0, 1) := by decide +kernel
theorem dX9_likeness_32 : decode cX9_likeness 32 = .ok (.istore_n 3, 1) := by decide +kernel
theorem dX9_likeness_33 : decode cX9_likeness 33 = .ok (.iconst 0, 1) := by decide +kernel
theorem dX9_likeness_34 : decode cX9_likeness 34 = .ok (.istore 4, 2) := by decide +kernel
theorem dX9_likeness_36 : decode cX9_likeness 36 = .ok (.iload 4, 2) := by decide +kernel
theorem dX9_likeness_38 : decode cX9_likeness 38 = .ok (.aload_n 0, 1) := by decide +kernel
theorem dX9_likeness_39 : decode cX9_likeness 39 = .ok (.getfield 16, 3) := by decide +kernel
theorem dX9_likeness_42 : decode cX9_likeness 42 = .ok (.iload_n 1, 1) := by decide +kernel
theorem dX9_likeness_43 : decode cX9_likeness 43 = .ok (.iaload, 1) := by decide +kernel
theorem dX9_likeness_44 : decode cX9_likeness 44 = .ok (.if_icmp .ge 86, 3) := by decide +kernel
theorem dX9_likeness_47 : decode cX9_likeness 47 = .ok (.aload_n 0, 1) := by decide +kernel
theorem dX9_likeness_48 : decode cX9_likeness 48 = .ok (.getfield 86, 3) := by decide +kernel
theorem dX9_likeness_51 : decode cX9_likeness 51 = .ok (.iload 4, 2) := by decide +kernel
theorem dX9_likeness_53 : decode cX9_likeness 53 = .ok (.iconst 1, 1) := by decide +kernel
theorem dX9_likeness_54 : decode cX9_likeness 54 = .ok (.iadd, 1) := by decide +kernel
theorem dX9_likeness_55 : decode cX9_likeness 55 = .ok (.iaload, 1) := by decide +kernel
theorem dX9_likeness_56 : decode cX9_likeness 56 = .ok (.istore 5, 2) := by decide +kernel
theorem dX9_likeness_58 : decode cX9_likeness 58 = .ok (.aload_n 0, 1) := by decide +kernel
theorem dX9_likeness_59 : decode cX9_likeness 59 = .ok (.getfield 86, 3) := by decide +kernel
theorem dX9_likeness_62 : decode cX9_likeness 62 = .ok (.iload 4, 2) := by decide +kernel
theorem dX9_likeness_64 : decode cX9_likeness 64 = .ok (.iaload, 1) := by decide +kernel
theorem dX9_likeness_65 : decode cX9_likeness 65 = .ok (.istore 6, 2) := by decide +kernel
theorem dX9_likeness_67 : decode cX9_likeness 67 = .ok (.iload 5, 2) := by decide +kernel
theorem dX9_likeness_69 : decode cX9_likeness 69 = .ok (.iload 6, 2) := by decide +kernel
theorem dX9_likeness_71 : decode cX9_likeness 71 = .ok (.if_icmp .le 8, 3) := by decide +kernel
theorem dX9_likeness_74 : decode cX9_likeness 74 = .ok (.iload 5, 2) := by decide +kernel
theorem dX9_likeness_76 : decode cX9_likeness 76 = .ok (.goto 5, 3) := by decide +kernel
theorem dX9_likeness_79 : decode cX9_likeness 79 = .ok (.iload 6, 2) := by decide +kernel
theorem dX9_likeness_81 : decode cX9_likeness 81 = .ok (.istore 7, 2) := by decide +kernel
theorem dX9_likeness_83 : decode cX9_likeness 83 = .ok (.aload_n 0, 1) := by decide +kernel
theorem dX9_likeness_84 : decode cX9_likeness 84 = .ok (.getfield 86, 3) := by decide +kernel
theorem dX9_likeness_87 : decode cX9_likeness 87 = .ok (.iload 4, 2) := by decide +kernel
theorem dX9_likeness_89 : decode cX9_likeness 89 = .ok (.iconst 1, 1) := by decide +kernel
theorem dX9_likeness_90 : decode cX9_likeness 90 = .ok (.iadd, 1) := by decide +kernel
theorem dX9_likeness_91 : decode cX9_likeness 91 = .ok (.aload_n 0, 1) := by decide +kernel
theorem dX9_likeness_92 : decode cX9_likeness 92 = .ok (.getfield 7, 3) := by decide +kernel
theorem dX9_likeness_95 : decode cX9_likeness 95 = .ok (.iload_n 2, 1) := by decide +kernel
theorem dX9_likeness_96 : decode cX9_likeness 96 = .ok (.iaload, 1) := by decide +kernel
theorem dX9_likeness_97 : decode cX9_likeness 97 = .ok (.aload_n 0, 1) := by decide +kernel
theorem dX9_likeness_98 : decode cX9_likeness 98 = .ok (.getfield 13, 3) := by decide +kernel
theorem dX9_likeness_101 : decode cX9_likeness 101 = .ok (.bipush 12, 2) := by decide +kernel
theorem dX9_likeness_103 : decode cX9_likeness 103 = .ok (.iload_n 1, 1) := by decide +kernel
theorem dX9_likeness_104 : decode cX9_likeness 104 = .ok (.imul, 1) := by decide +kernel
theorem dX9_likeness_105 : decode cX9_likeness 105 = .ok (.iload 4, 2) := by decide +kernel
theorem dX9_likeness_107 : decode cX9_likeness 107 = .ok (.iadd, 1) := by decide +kernel
theorem dX9_likeness_108 : decode cX9_likeness 108 = .ok (.iaload, 1) := by decide +kernel
theorem dX9_likeness_109 : decode cX9_likeness 109 = .ok (.if_icmp .ne 9, 3) := by decide +kernel
theorem dX9_likeness_112 : decode cX9_likeness 112 = .ok (.iload_n 3, 1) := by decide +kernel
theorem dX9_likeness_113 : decode cX9_likeness 113 = .ok (.iconst 1, 1) := by decide +kernel
theorem dX9_likeness_114 : decode cX9_likeness 114 = .ok (.iadd, 1) := by decide +kernel
theorem dX9_likeness_115 : decode cX9_likeness 115 = .ok (.goto 5, 3) := by decide +kernel
theorem dX9_likeness_118 : decode cX9_likeness 118 = .ok (.iload 7, 2) := by decide +kernel
theorem dX9_likeness_120 : decode cX9_likeness 120 = .ok (.iastore, 1) := by decide +kernel
theorem dX9_likeness_121 : decode cX9_likeness 121 = .ok (.iload 5, 2) := by decide +kernel
theorem dX9_likeness_123 : decode cX9_likeness 123 = .ok (.istore_n 3, 1) := by decide +kernel
theorem dX9_likeness_124 : decode cX9_likeness 124 = .ok (.iinc 4 1, 3) := by decide +kernel
theorem dX9_likeness_127 : decode cX9_likeness 127 = .ok (.goto (-91), 3) := by decide +kernel
theorem dX9_likeness_130 : decode cX9_likeness 130 = .ok (.iinc 2 1, 3) := by decide +kernel
theorem dX9_likeness_133 : decode cX9_likeness 133 = .ok (.goto (-110), 3) := by decide +kernel
theorem dX9_likeness_136 : decode cX9_likeness 136 = .ok (.aload_n 0, 1) := by decide +kernel
theorem dX9_likeness_137 : decode cX9_likeness 137 = .ok (.getfield 86, 3) := by decide +kernel
theorem dX9_likeness_140 : decode cX9_likeness 140 = .ok (.aload_n 0, 1) := by decide +kernel
theorem dX9_likeness_141 : decode cX9_likeness 141 = .ok (.getfield 16, 3) := by decide +kernel
theorem dX9_likeness_144 : decode cX9_likeness 144 = .ok (.iload_n 1, 1) := by decide +kernel
theorem dX9_likeness_145 : decode cX9_likeness 145 = .ok (.iaload, 1) := by decide +kernel
theorem dX9_likeness_146 : decode cX9_likeness 146 = .ok (.iaload, 1) := by decide +kernel
theorem dX9_likeness_147 : decode cX9_likeness 147 = .ok (.ireturn, 1) := by decide +kernel
theorem dX9_findUnit_0 : decode cX9_findUnit 0 = .ok (.iconst (-1), 1) := by decide +kernel
theorem dX9_findUnit_1 : decode cX9_findUnit 1 = .ok (.istore_n 1, 1) := by decide +kernel
theorem dX9_findUnit_2 : decode cX9_findUnit 2 = .ok (.iconst 0, 1) := by decide +kernel
theorem dX9_findUnit_3 : decode cX9_findUnit 3 = .ok (.istore_n 2, 1) := by decide +kernel
theorem dX9_findUnit_4 : decode cX9_findUnit 4 = .ok (.iconst 0, 1) := by decide +kernel
theorem dX9_findUnit_5 : decode cX9_findUnit 5 = .ok (.istore_n 3, 1) := by decide +kernel
theorem dX9_findUnit_6 : decode cX9_findUnit 6 = .ok (.iload_n 3, 1) := by decide +kernel
theorem dX9_findUnit_7 : decode cX9_findUnit 7 = .ok (.aload_n 0, 1) := by decide +kernel
theorem dX9_findUnit_8 : decode cX9_findUnit 8 = .ok (.getfield 93, 3) := by decide +kernel
theorem dX9_findUnit_11 : decode cX9_findUnit 11 = .ok (.if_icmp .ge 41, 3) := by decide +kernel
theorem dX9_findUnit_14 : decode cX9_findUnit 14 = .ok (.aload_n 0, 1) := by decide +kernel
theorem dX9_findUnit_15 : decode cX9_findUnit 15 = .ok (.iload_n 3, 1) := by decide +kernel
theorem dX9_findUnit_16 : decode cX9_findUnit 16 = .ok (.invokevirtual 136, 3) := by decide +kernel
theorem dX9_findUnit_19 : decode cX9_findUnit 19 = .ok (.istore 4, 2) := by decide +kernel
theorem dX9_findUnit_21 : decode cX9_findUnit 21 = .ok (.iload 4, 2) := by decide +kernel
theorem dX9_findUnit_23 : decode cX9_findUnit 23 = .ok (.iload_n 2, 1) := by decide +kernel
theorem dX9_findUnit_24 : decode cX9_findUnit 24 = .ok (.if_icmp .le 7, 3) := by decide +kernel
theorem dX9_findUnit_27 : decode cX9_findUnit 27 = .ok (.iload_n 3, 1) := by decide +kernel
theorem dX9_findUnit_28 : decode cX9_findUnit 28 = .ok (.goto 4, 3) := by decide +kernel
theorem dX9_findUnit_31 : decode cX9_findUnit 31 = .ok (.iload_n 1, 1) := by decide +kernel
theorem dX9_findUnit_32 : decode cX9_findUnit 32 = .ok (.istore_n 1, 1) := by decide +kernel
theorem dX9_findUnit_33 : decode cX9_findUnit 33 = .ok (.iload 4, 2) := by decide +kernel
theorem dX9_findUnit_35 : decode cX9_findUnit 35 = .ok (.iload_n 2, 1) := by decide +kernel
theorem dX9_findUnit_36 : decode cX9_findUnit 36 = .ok (.if_icmp .le 8, 3) := by decide +kernel
theorem dX9_findUnit_39 : decode cX9_findUnit 39 = .ok (.iload 4, 2) := by decide +kernel
theorem dX9_findUnit_41 : decode cX9_findUnit 41 = .ok (.goto 4, 3) := by decide +kernel
theorem dX9_findUnit_44 : decode cX9_findUnit 44 = .ok (.iload_n 2, 1) := by decide +kernel
theorem dX9_findUnit_45 : decode cX9_findUnit 45 = .ok (.istore_n 2, 1) := by decide +kernel
theorem dX9_findUnit_46 : decode cX9_findUnit 46 = .ok (.iinc 3 1, 3) := by decide +kernel
theorem dX9_findUnit_49 : decode cX9_findUnit 49 = .ok (.goto (-43), 3) := by decide +kernel
theorem dX9_findUnit_52 : decode cX9_findUnit 52 = .ok (.iload_n 1, 1) := by decide +kernel
theorem dX9_findUnit_53 : decode cX9_findUnit 53 = .ok (.ireturn, 1) := by decide +kernel
theorem dX9_found_0 : decode cX9_found 0 = .ok (.aload_n 0, 1) := by decide +kernel
theorem dX9_found_1 : decode cX9_found 1 = .ok (.iconst 0, 1) := by decide +kernel
theorem dX9_found_2 : decode cX9_found 2 = .ok (.putfield 89, 3) := by decide +kernel
theorem dX9_found_5 : decode cX9_found 5 = .ok (.aload_n 0, 1) := by decide +kernel
theorem dX9_found_6 : decode cX9_found 6 = .ok (.invokevirtual 140, 3) := by decide +kernel
theorem dX9_found_9 : decode cX9_found 9 = .ok (.ireturn, 1) := by decide +kernel
theorem dX9_exact_0 : decode cX9_exact 0 = .ok (.aload_n 0, 1) := by decide +kernel
theorem dX9_exact_1 : decode cX9_exact 1 = .ok (.iconst 0, 1) := by decide +kernel
theorem dX9_exact_2 : decode cX9_exact 2 = .ok (.putfield 89, 3) := by decide +kernel
theorem dX9_exact_5 : decode cX9_exact 5 = .ok (.aload_n 0, 1) := by decide +kernel
theorem dX9_exact_6 : decode cX9_exact 6 = .ok (.invokevirtual 140, 3) := by decide +kernel
theorem dX9_exact_9 : decode cX9_exact 9 = .ok (.istore_n 1, 1) := by decide +kernel
theorem dX9_exact_10 : decode cX9_exact 10 = .ok (.iload_n 1, 1) := by decide +kernel
theorem dX9_exact_11 : decode cX9_exact 11 = .ok (.iconst (-1), 1) := by decide +kernel
theorem dX9_exact_12 : decode cX9_exact 12 = .ok (.if_icmp .ne 7, 3) := by decide +kernel
theorem dX9_exact_15 : decode cX9_exact 15 = .ok (.iconst 0, 1) := by decide +kernel
theorem dX9_exact_16 : decode cX9_exact 16 = .ok (.goto 25, 3) := by decide +kernel
theorem dX9_exact_19 : decode cX9_exact 19 = .ok (.iconst 2, 1) := by decide +kernel
theorem dX9_exact_20 : decode cX9_exact 20 = .ok (.aload_n 0, 1) := by decide +kernel
theorem dX9_exact_21 : decode cX9_exact 21 = .ok (.iload_n 1, 1) := by decide +kernel
theorem dX9_exact_22 : decode cX9_exact 22 = .ok (.invokevirtual 136, 3) := by decide +kernel
theorem dX9_exact_25 : decode cX9_exact 25 = .ok (.imul, 1) := by decide +kernel
theorem dX9_exact_26 : decode cX9_exact 26 = .ok (.bipush 100, 2) := by decide +kernel
theorem dX9_exact_28 : decode cX9_exact 28 = .ok (.imul, 1) := by decide +kernel
theorem dX9_exact_29 : decode cX9_exact 29 = .ok (.aload_n 0, 1) := by decide +kernel
theorem dX9_exact_30 : decode cX9_exact 30 = .ok (.getfield 106, 3) := by decide +kernel
theorem dX9_exact_33 : decode cX9_exact 33 = .ok (.aload_n 0, 1) := by decide +kernel
theorem dX9_exact_34 : decode cX9_exact 34 = .ok (.getfield 16, 3) := by decide +kernel
theorem dX9_exact_37 : decode cX9_exact 37 = .ok (.iload_n 1, 1) := by decide +kernel
theorem dX9_exact_38 : decode cX9_exact 38 = .ok (.iaload, 1) := by decide +kernel
theorem dX9_exact_39 : decode cX9_exact 39 = .ok (.iadd, 1) := by decide +kernel
theorem dX9_exact_40 : decode cX9_exact 40 = .ok (.idiv, 1) := by decide +kernel
theorem dX9_exact_41 : decode cX9_exact 41 = .ok (.ireturn, 1) := by decide +kernel
theorem dX9_ruling_0 : decode cX9_ruling 0 = .ok (.aload_n 0, 1) := by decide +kernel
theorem dX9_ruling_1 : decode cX9_ruling 1 = .ok (.aload_n 0, 1) := by decide +kernel
theorem dX9_ruling_2 : decode cX9_ruling 2 = .ok (.iload_n 1, 1) := by decide +kernel
theorem dX9_ruling_3 : decode cX9_ruling 3 = .ok (.invokevirtual 117, 3) := by decide +kernel
theorem dX9_ruling_6 : decode cX9_ruling 6 = .ok (.ifCond .eq 14, 3) := by decide +kernel
theorem dX9_ruling_9 : decode cX9_ruling 9 = .ok (.aload_n 0, 1) := by decide +kernel
theorem dX9_ruling_10 : decode cX9_ruling 10 = .ok (.iload_n 2, 1) := by decide +kernel
theorem dX9_ruling_11 : decode cX9_ruling 11 = .ok (.iconst 0, 1) := by decide +kernel
theorem dX9_ruling_12 : decode cX9_ruling 12 = .ok (.bipush 9, 2) := by decide +kernel
theorem dX9_ruling_14 : decode cX9_ruling 14 = .ok (.invokevirtual 96, 3) := by decide +kernel
theorem dX9_ruling_17 : decode cX9_ruling 17 = .ok (.ifCond .ne 7, 3) := by decide +kernel
theorem dX9_ruling_20 : decode cX9_ruling 20 = .ok (.iconst 1, 1) := by decide +kernel
theorem dX9_ruling_21 : decode cX9_ruling 21 = .ok (.goto 4, 3) := by decide +kernel
theorem dX9_ruling_24 : decode cX9_ruling 24 = .ok (.iconst 0, 1) := by decide +kernel
theorem dX9_ruling_25 : decode cX9_ruling 25 = .ok (.putfield 89, 3) := by decide +kernel
theorem dX9_ruling_28 : decode cX9_ruling 28 = .ok (.aload_n 0, 1) := by decide +kernel
theorem dX9_ruling_29 : decode cX9_ruling 29 = .ok (.getfield 89, 3) := by decide +kernel
theorem dX9_ruling_32 : decode cX9_ruling 32 = .ok (.ifCond .ne 27, 3) := by decide +kernel
theorem dX9_ruling_35 : decode cX9_ruling 35 = .ok (.aload_n 0, 1) := by decide +kernel
theorem dX9_ruling_36 : decode cX9_ruling 36 = .ok (.aload_n 0, 1) := by decide +kernel
theorem dX9_ruling_37 : decode cX9_ruling 37 = .ok (.getfield 62, 3) := by decide +kernel
theorem dX9_ruling_40 : decode cX9_ruling 40 = .ok (.bipush 10, 2) := by decide +kernel
theorem dX9_ruling_42 : decode cX9_ruling 42 = .ok (.iload_n 1, 1) := by decide +kernel
theorem dX9_ruling_43 : decode cX9_ruling 43 = .ok (.imul, 1) := by decide +kernel
theorem dX9_ruling_44 : decode cX9_ruling 44 = .ok (.iload_n 2, 1) := by decide +kernel
theorem dX9_ruling_45 : decode cX9_ruling 45 = .ok (.iadd, 1) := by decide +kernel
theorem dX9_ruling_46 : decode cX9_ruling 46 = .ok (.iaload, 1) := by decide +kernel
theorem dX9_ruling_47 : decode cX9_ruling 47 = .ok (.iconst (-1), 1) := by decide +kernel
theorem dX9_ruling_48 : decode cX9_ruling 48 = .ok (.if_icmp .eq 7, 3) := by decide +kernel
theorem dX9_ruling_51 : decode cX9_ruling 51 = .ok (.iconst 2, 1) := by decide +kernel
theorem dX9_ruling_52 : decode cX9_ruling 52 = .ok (.goto 4, 3) := by decide +kernel
theorem dX9_ruling_55 : decode cX9_ruling 55 = .ok (.iconst 0, 1) := by decide +kernel
theorem dX9_ruling_56 : decode cX9_ruling 56 = .ok (.putfield 89, 3) := by decide +kernel
theorem dX9_ruling_59 : decode cX9_ruling 59 = .ok (.aload_n 0, 1) := by decide +kernel
theorem dX9_ruling_60 : decode cX9_ruling 60 = .ok (.getfield 89, 3) := by decide +kernel
theorem dX9_ruling_63 : decode cX9_ruling 63 = .ok (.ifCond .le 5, 3) := by decide +kernel
theorem dX9_ruling_66 : decode cX9_ruling 66 = .ok (.iconst 0, 1) := by decide +kernel
theorem dX9_ruling_67 : decode cX9_ruling 67 = .ok (.ireturn, 1) := by decide +kernel
theorem dX9_ruling_68 : decode cX9_ruling 68 = .ok (.aload_n 0, 1) := by decide +kernel
theorem dX9_ruling_69 : decode cX9_ruling 69 = .ok (.getfield 62, 3) := by decide +kernel
theorem dX9_ruling_72 : decode cX9_ruling 72 = .ok (.bipush 10, 2) := by decide +kernel
theorem dX9_ruling_74 : decode cX9_ruling 74 = .ok (.iload_n 1, 1) := by decide +kernel
theorem dX9_ruling_75 : decode cX9_ruling 75 = .ok (.imul, 1) := by decide +kernel
theorem dX9_ruling_76 : decode cX9_ruling 76 = .ok (.iload_n 2, 1) := by decide +kernel
theorem dX9_ruling_77 : decode cX9_ruling 77 = .ok (.iadd, 1) := by decide +kernel
theorem dX9_ruling_78 : decode cX9_ruling 78 = .ok (.iload_n 3, 1) := by decide +kernel
theorem dX9_ruling_79 : decode cX9_ruling 79 = .ok (.ifCond .eq 7, 3) := by decide +kernel
theorem dX9_ruling_82 : decode cX9_ruling 82 = .ok (.iconst 1, 1) := by decide +kernel
theorem dX9_ruling_83 : decode cX9_ruling 83 = .ok (.goto 4, 3) := by decide +kernel
theorem dX9_ruling_86 : decode cX9_ruling 86 = .ok (.iconst 0, 1) := by decide +kernel
theorem dX9_ruling_87 : decode cX9_ruling 87 = .ok (.iastore, 1) := by decide +kernel
theorem dX9_ruling_88 : decode cX9_ruling 88 = .ok (.iconst 0, 1) := by decide +kernel
theorem dX9_ruling_89 : decode cX9_ruling 89 = .ok (.istore 4, 2) := by decide +kernel
theorem dX9_ruling_91 : decode cX9_ruling 91 = .ok (.iconst 0, 1) := by decide +kernel
theorem dX9_ruling_92 : decode cX9_ruling 92 = .ok (.istore 5, 2) := by decide +kernel
theorem dX9_ruling_94 : decode cX9_ruling 94 = .ok (.iload 5, 2) := by decide +kernel
theorem dX9_ruling_96 : decode cX9_ruling 96 = .ok (.aload_n 0, 1) := by decide +kernel
theorem dX9_ruling_97 : decode cX9_ruling 97 = .ok (.getfield 100, 3) := by decide +kernel
theorem dX9_ruling_100 : decode cX9_ruling 100 = .ok (.if_icmp .ge 35, 3) := by decide +kernel
theorem dX9_ruling_103 : decode cX9_ruling 103 = .ok (.iload 4, 2) := by decide +kernel
theorem dX9_ruling_105 : decode cX9_ruling 105 = .ok (.aload_n 0, 1) := by decide +kernel
theorem dX9_ruling_106 : decode cX9_ruling 106 = .ok (.getfield 62, 3) := by decide +kernel
theorem dX9_ruling_109 : decode cX9_ruling 109 = .ok (.bipush 10, 2) := by decide +kernel
theorem dX9_ruling_111 : decode cX9_ruling 111 = .ok (.iload 5, 2) := by decide +kernel
theorem dX9_ruling_113 : decode cX9_ruling 113 = .ok (.imul, 1) := by decide +kernel
theorem dX9_ruling_114 : decode cX9_ruling 114 = .ok (.iload_n 2, 1) := by decide +kernel
theorem dX9_ruling_115 : decode cX9_ruling 115 = .ok (.iadd, 1) := by decide +kernel
theorem dX9_ruling_116 : decode cX9_ruling 116 = .ok (.iaload, 1) := by decide +kernel
theorem dX9_ruling_117 : decode cX9_ruling 117 = .ok (.iconst (-1), 1) := by decide +kernel
theorem dX9_ruling_118 : decode cX9_ruling 118 = .ok (.if_icmp .eq 7, 3) := by decide +kernel
theorem dX9_ruling_121 : decode cX9_ruling 121 = .ok (.iconst 1, 1) := by decide +kernel
theorem dX9_ruling_122 : decode cX9_ruling 122 = .ok (.goto 4, 3) := by decide +kernel
theorem dX9_ruling_125 : decode cX9_ruling 125 = .ok (.iconst 0, 1) := by decide +kernel
theorem dX9_ruling_126 : decode cX9_ruling 126 = .ok (.iadd, 1) := by decide +kernel
theorem dX9_ruling_127 : decode cX9_ruling 127 = .ok (.istore 4, 2) := by decide +kernel
theorem dX9_ruling_129 : decode cX9_ruling 129 = .ok (.iinc 5 1, 3) := by decide +kernel
theorem dX9_ruling_132 : decode cX9_ruling 132 = .ok (.goto (-38), 3) := by decide +kernel
theorem dX9_ruling_135 : decode cX9_ruling 135 = .ok (.iload 4, 2) := by decide +kernel
theorem dX9_ruling_137 : decode cX9_ruling 137 = .ok (.ireturn, 1) := by decide +kernel
theorem dX9_follow_0 : decode cX9_follow 0 = .ok (.aload_n 0, 1) := by decide +kernel
theorem dX9_follow_1 : decode cX9_follow 1 = .ok (.iload_n 1, 1) := by decide +kernel
theorem dX9_follow_2 : decode cX9_follow 2 = .ok (.iconst 0, 1) := by decide +kernel
theorem dX9_follow_3 : decode cX9_follow 3 = .ok (.iconst 3, 1) := by decide +kernel
theorem dX9_follow_4 : decode cX9_follow 4 = .ok (.invokevirtual 96, 3) := by decide +kernel
theorem dX9_follow_7 : decode cX9_follow 7 = .ok (.ifCond .eq 37, 3) := by decide +kernel
theorem dX9_follow_10 : decode cX9_follow 10 = .ok (.iload_n 1, 1) := by decide +kernel
theorem dX9_follow_11 : decode cX9_follow 11 = .ok (.ifCond .ne 13, 3) := by decide +kernel
theorem dX9_follow_14 : decode cX9_follow 14 = .ok (.aload_n 0, 1) := by decide +kernel
theorem dX9_follow_15 : decode cX9_follow 15 = .ok (.iload_n 2, 1) := by decide +kernel
theorem dX9_follow_16 : decode cX9_follow 16 = .ok (.iconst 0, 1) := by decide +kernel
theorem dX9_follow_17 : decode cX9_follow 17 = .ok (.iconst 3, 1) := by decide +kernel
theorem dX9_follow_18 : decode cX9_follow 18 = .ok (.invokevirtual 96, 3) := by decide +kernel
theorem dX9_follow_21 : decode cX9_follow 21 = .ok (.ifCond .eq 23, 3) := by decide +kernel
theorem dX9_follow_24 : decode cX9_follow 24 = .ok (.iload_n 1, 1) := by decide +kernel
theorem dX9_follow_25 : decode cX9_follow 25 = .ok (.iconst 3, 1) := by decide +kernel
theorem dX9_follow_26 : decode cX9_follow 26 = .ok (.if_icmp .ne 14, 3) := by decide +kernel
theorem dX9_follow_29 : decode cX9_follow 29 = .ok (.aload_n 0, 1) := by decide +kernel
theorem dX9_follow_30 : decode cX9_follow 30 = .ok (.iload_n 2, 1) := by decide +kernel
theorem dX9_follow_31 : decode cX9_follow 31 = .ok (.iconst 0, 1) := by decide +kernel
theorem dX9_follow_32 : decode cX9_follow 32 = .ok (.bipush 19, 2) := by decide +kernel
theorem dX9_follow_34 : decode cX9_follow 34 = .ok (.invokevirtual 96, 3) := by decide +kernel
theorem dX9_follow_37 : decode cX9_follow 37 = .ok (.ifCond .eq 7, 3) := by decide +kernel
theorem dX9_follow_40 : decode cX9_follow 40 = .ok (.iconst 1, 1) := by decide +kernel
theorem dX9_follow_41 : decode cX9_follow 41 = .ok (.goto 4, 3) := by decide +kernel
theorem dX9_follow_44 : decode cX9_follow 44 = .ok (.iconst 0, 1) := by decide +kernel
theorem dX9_follow_45 : decode cX9_follow 45 = .ok (.istore_n 3, 1) := by decide +kernel
theorem dX9_follow_46 : decode cX9_follow 46 = .ok (.aload_n 0, 1) := by decide +kernel
theorem dX9_follow_47 : decode cX9_follow 47 = .ok (.iload_n 3, 1) := by decide +kernel
theorem dX9_follow_48 : decode cX9_follow 48 = .ok (.ifCond .ne 7, 3) := by decide +kernel
theorem dX9_follow_51 : decode cX9_follow 51 = .ok (.iconst 1, 1) := by decide +kernel
theorem dX9_follow_52 : decode cX9_follow 52 = .ok (.goto 17, 3) := by decide +kernel
theorem dX9_follow_55 : decode cX9_follow 55 = .ok (.aload_n 0, 1) := by decide +kernel
theorem dX9_follow_56 : decode cX9_follow 56 = .ok (.getfield 144, 3) := by decide +kernel
theorem dX9_follow_59 : decode cX9_follow 59 = .ok (.bipush 6, 2) := by decide +kernel
theorem dX9_follow_61 : decode cX9_follow 61 = .ok (.if_icmp .ne 7, 3) := by decide +kernel
theorem dX9_follow_64 : decode cX9_follow 64 = .ok (.iconst 2, 1) := by decide +kernel
theorem dX9_follow_65 : decode cX9_follow 65 = .ok (.goto 4, 3) := by decide +kernel
theorem dX9_follow_68 : decode cX9_follow 68 = .ok (.iconst 0, 1) := by decide +kernel
theorem dX9_follow_69 : decode cX9_follow 69 = .ok (.putfield 89, 3) := by decide +kernel
theorem dX9_follow_72 : decode cX9_follow 72 = .ok (.aload_n 0, 1) := by decide +kernel
theorem dX9_follow_73 : decode cX9_follow 73 = .ok (.getfield 89, 3) := by decide +kernel
theorem dX9_follow_76 : decode cX9_follow 76 = .ok (.ifCond .le 5, 3) := by decide +kernel
theorem dX9_follow_79 : decode cX9_follow 79 = .ok (.iconst 0, 1) := by decide +kernel
theorem dX9_follow_80 : decode cX9_follow 80 = .ok (.ireturn, 1) := by decide +kernel
theorem dX9_follow_81 : decode cX9_follow 81 = .ok (.aload_n 0, 1) := by decide +kernel
theorem dX9_follow_82 : decode cX9_follow 82 = .ok (.getfield 65, 3) := by decide +kernel
theorem dX9_follow_85 : decode cX9_follow 85 = .ok (.aload_n 0, 1) := by decide +kernel
theorem dX9_follow_86 : decode cX9_follow 86 = .ok (.getfield 144, 3) := by decide +kernel
theorem dX9_follow_89 : decode cX9_follow 89 = .ok (.iload_n 1, 1) := by decide +kernel
theorem dX9_follow_90 : decode cX9_follow 90 = .ok (.iastore, 1) := by decide +kernel
theorem dX9_follow_91 : decode cX9_follow 91 = .ok (.aload_n 0, 1) := by decide +kernel
theorem dX9_follow_92 : decode cX9_follow 92 = .ok (.getfield 68, 3) := by decide +kernel
theorem dX9_follow_95 : decode cX9_follow 95 = .ok (.aload_n 0, 1) := by decide +kernel
theorem dX9_follow_96 : decode cX9_follow 96 = .ok (.getfield 144, 3) := by decide +kernel
theorem dX9_follow_99 : decode cX9_follow 99 = .ok (.iload_n 2, 1) := by decide +kernel
theorem dX9_follow_100 : decode cX9_follow 100 = .ok (.iastore, 1) := by decide +kernel
theorem dX9_follow_101 : decode cX9_follow 101 = .ok (.aload_n 0, 1) := by decide +kernel
theorem dX9_follow_102 : decode cX9_follow 102 = .ok (.dup, 1) := by decide +kernel
theorem dX9_follow_103 : decode cX9_follow 103 = .ok (.getfield 144, 3) := by decide +kernel
theorem dX9_follow_106 : decode cX9_follow 106 = .ok (.iconst 1, 1) := by decide +kernel
theorem dX9_follow_107 : decode cX9_follow 107 = .ok (.iadd, 1) := by decide +kernel
theorem dX9_follow_108 : decode cX9_follow 108 = .ok (.putfield 144, 3) := by decide +kernel
theorem dX9_follow_111 : decode cX9_follow 111 = .ok (.aload_n 0, 1) := by decide +kernel
theorem dX9_follow_112 : decode cX9_follow 112 = .ok (.getfield 144, 3) := by decide +kernel
theorem dX9_follow_115 : decode cX9_follow 115 = .ok (.ireturn, 1) := by decide +kernel
theorem dX9_unfollow_0 : decode cX9_unfollow 0 = .ok (.aload_n 0, 1) := by decide +kernel
theorem dX9_unfollow_1 : decode cX9_unfollow 1 = .ok (.aload_n 0, 1) := by decide +kernel
theorem dX9_unfollow_2 : decode cX9_unfollow 2 = .ok (.iload_n 1, 1) := by decide +kernel
theorem dX9_unfollow_3 : decode cX9_unfollow 3 = .ok (.iconst 0, 1) := by decide +kernel
theorem dX9_unfollow_4 : decode cX9_unfollow 4 = .ok (.aload_n 0, 1) := by decide +kernel
theorem dX9_unfollow_5 : decode cX9_unfollow 5 = .ok (.getfield 144, 3) := by decide +kernel
theorem dX9_unfollow_8 : decode cX9_unfollow 8 = .ok (.iconst 1, 1) := by decide +kernel
theorem dX9_unfollow_9 : decode cX9_unfollow 9 = .ok (.isub, 1) := by decide +kernel
theorem dX9_unfollow_10 : decode cX9_unfollow 10 = .ok (.invokevirtual 96, 3) := by decide +kernel
theorem dX9_unfollow_13 : decode cX9_unfollow 13 = .ok (.ifCond .ne 7, 3) := by decide +kernel
theorem dX9_unfollow_16 : decode cX9_unfollow 16 = .ok (.iconst 1, 1) := by decide +kernel
theorem dX9_unfollow_17 : decode cX9_unfollow 17 = .ok (.goto 4, 3) := by decide +kernel
theorem dX9_unfollow_20 : decode cX9_unfollow 20 = .ok (.iconst 0, 1) := by decide +kernel
theorem dX9_unfollow_21 : decode cX9_unfollow 21 = .ok (.putfield 89, 3) := by decide +kernel
theorem dX9_unfollow_24 : decode cX9_unfollow 24 = .ok (.aload_n 0, 1) := by decide +kernel
theorem dX9_unfollow_25 : decode cX9_unfollow 25 = .ok (.getfield 89, 3) := by decide +kernel
theorem dX9_unfollow_28 : decode cX9_unfollow 28 = .ok (.ifCond .le 5, 3) := by decide +kernel
theorem dX9_unfollow_31 : decode cX9_unfollow 31 = .ok (.iconst 0, 1) := by decide +kernel
theorem dX9_unfollow_32 : decode cX9_unfollow 32 = .ok (.ireturn, 1) := by decide +kernel
theorem dX9_unfollow_33 : decode cX9_unfollow 33 = .ok (.aload_n 0, 1) := by decide +kernel
theorem dX9_unfollow_34 : decode cX9_unfollow 34 = .ok (.getfield 65, 3) := by decide +kernel
theorem dX9_unfollow_37 : decode cX9_unfollow 37 = .ok (.iload_n 1, 1) := by decide +kernel
theorem dX9_unfollow_38 : decode cX9_unfollow 38 = .ok (.iaload, 1) := by decide +kernel
theorem dX9_unfollow_39 : decode cX9_unfollow 39 = .ok (.istore_n 2, 1) := by decide +kernel
theorem dX9_unfollow_40 : decode cX9_unfollow 40 = .ok (.iload_n 1, 1) := by decide +kernel
theorem dX9_unfollow_41 : decode cX9_unfollow 41 = .ok (.istore_n 3, 1) := by decide +kernel
theorem dX9_unfollow_42 : decode cX9_unfollow 42 = .ok (.iload_n 3, 1) := by decide +kernel
theorem dX9_unfollow_43 : decode cX9_unfollow 43 = .ok (.aload_n 0, 1) := by decide +kernel
theorem dX9_unfollow_44 : decode cX9_unfollow 44 = .ok (.getfield 144, 3) := by decide +kernel
theorem dX9_unfollow_47 : decode cX9_unfollow 47 = .ok (.iconst 1, 1) := by decide +kernel
theorem dX9_unfollow_48 : decode cX9_unfollow 48 = .ok (.isub, 1) := by decide +kernel
theorem dX9_unfollow_49 : decode cX9_unfollow 49 = .ok (.if_icmp .ge 37, 3) := by decide +kernel
theorem dX9_unfollow_52 : decode cX9_unfollow 52 = .ok (.aload_n 0, 1) := by decide +kernel
theorem dX9_unfollow_53 : decode cX9_unfollow 53 = .ok (.getfield 65, 3) := by decide +kernel
theorem dX9_unfollow_56 : decode cX9_unfollow 56 = .ok (.iload_n 3, 1) := by decide +kernel
theorem dX9_unfollow_57 : decode cX9_unfollow 57 = .ok (.aload_n 0, 1) := by decide +kernel
theorem dX9_unfollow_58 : decode cX9_unfollow 58 = .ok (.getfield 65, 3) := by decide +kernel
theorem dX9_unfollow_61 : decode cX9_unfollow 61 = .ok (.iload_n 3, 1) := by decide +kernel
theorem dX9_unfollow_62 : decode cX9_unfollow 62 = .ok (.iconst 1, 1) := by decide +kernel
theorem dX9_unfollow_63 : decode cX9_unfollow 63 = .ok (.iadd, 1) := by decide +kernel
theorem dX9_unfollow_64 : decode cX9_unfollow 64 = .ok (.iaload, 1) := by decide +kernel
theorem dX9_unfollow_65 : decode cX9_unfollow 65 = .ok (.iastore, 1) := by decide +kernel
theorem dX9_unfollow_66 : decode cX9_unfollow 66 = .ok (.aload_n 0, 1) := by decide +kernel
theorem dX9_unfollow_67 : decode cX9_unfollow 67 = .ok (.getfield 68, 3) := by decide +kernel
theorem dX9_unfollow_70 : decode cX9_unfollow 70 = .ok (.iload_n 3, 1) := by decide +kernel
theorem dX9_unfollow_71 : decode cX9_unfollow 71 = .ok (.aload_n 0, 1) := by decide +kernel
theorem dX9_unfollow_72 : decode cX9_unfollow 72 = .ok (.getfield 68, 3) := by decide +kernel
theorem dX9_unfollow_75 : decode cX9_unfollow 75 = .ok (.iload_n 3, 1) := by decide +kernel
theorem dX9_unfollow_76 : decode cX9_unfollow 76 = .ok (.iconst 1, 1) := by decide +kernel
theorem dX9_unfollow_77 : decode cX9_unfollow 77 = .ok (.iadd, 1) := by decide +kernel
theorem dX9_unfollow_78 : decode cX9_unfollow 78 = .ok (.iaload, 1) := by decide +kernel
theorem dX9_unfollow_79 : decode cX9_unfollow 79 = .ok (.iastore, 1) := by decide +kernel
theorem dX9_unfollow_80 : decode cX9_unfollow 80 = .ok (.iinc 3 1, 3) := by decide +kernel
theorem dX9_unfollow_83 : decode cX9_unfollow 83 = .ok (.goto (-41), 3) := by decide +kernel
theorem dX9_unfollow_86 : decode cX9_unfollow 86 = .ok (.aload_n 0, 1) := by decide +kernel
theorem dX9_unfollow_87 : decode cX9_unfollow 87 = .ok (.dup, 1) := by decide +kernel
theorem dX9_unfollow_88 : decode cX9_unfollow 88 = .ok (.getfield 144, 3) := by decide +kernel
theorem dX9_unfollow_91 : decode cX9_unfollow 91 = .ok (.iconst 1, 1) := by decide +kernel
theorem dX9_unfollow_92 : decode cX9_unfollow 92 = .ok (.isub, 1) := by decide +kernel
theorem dX9_unfollow_93 : decode cX9_unfollow 93 = .ok (.putfield 144, 3) := by decide +kernel
theorem dX9_unfollow_96 : decode cX9_unfollow 96 = .ok (.iload_n 2, 1) := by decide +kernel
theorem dX9_unfollow_97 : decode cX9_unfollow 97 = .ok (.ireturn, 1) := by decide +kernel
theorem dX9_latestRuling_0 : decode cX9_latestRuling 0 = .ok (.iconst (-1), 1) := by decide +kernel
theorem dX9_latestRuling_1 : decode cX9_latestRuling 1 = .ok (.istore_n 3, 1) := by decide +kernel
theorem dX9_latestRuling_2 : decode cX9_latestRuling 2 = .ok (.iconst 0, 1) := by decide +kernel
theorem dX9_latestRuling_3 : decode cX9_latestRuling 3 = .ok (.istore 4, 2) := by decide +kernel
theorem dX9_latestRuling_5 : decode cX9_latestRuling 5 = .ok (.iload 4, 2) := by decide +kernel
theorem dX9_latestRuling_7 : decode cX9_latestRuling 7 = .ok (.aload_n 0, 1) := by decide +kernel
theorem dX9_latestRuling_8 : decode cX9_latestRuling 8 = .ok (.getfield 100, 3) := by decide +kernel
theorem dX9_latestRuling_11 : decode cX9_latestRuling 11 = .ok (.if_icmp .ge 81, 3) := by decide +kernel
theorem dX9_latestRuling_14 : decode cX9_latestRuling 14 = .ok (.aload_n 0, 1) := by decide +kernel
theorem dX9_latestRuling_15 : decode cX9_latestRuling 15 = .ok (.getfield 62, 3) := by decide +kernel
theorem dX9_latestRuling_18 : decode cX9_latestRuling 18 = .ok (.bipush 10, 2) := by decide +kernel
theorem dX9_latestRuling_20 : decode cX9_latestRuling 20 = .ok (.iload 4, 2) := by decide +kernel
theorem dX9_latestRuling_22 : decode cX9_latestRuling 22 = .ok (.imul, 1) := by decide +kernel
theorem dX9_latestRuling_23 : decode cX9_latestRuling 23 = .ok (.iload_n 2, 1) := by decide +kernel
theorem dX9_latestRuling_24 : decode cX9_latestRuling 24 = .ok (.iadd, 1) := by decide +kernel
theorem dX9_latestRuling_25 : decode cX9_latestRuling 25 = .ok (.iaload, 1) := by decide +kernel
theorem dX9_latestRuling_26 : decode cX9_latestRuling 26 = .ok (.iconst (-1), 1) := by decide +kernel
theorem dX9_latestRuling_27 : decode cX9_latestRuling 27 = .ok (.if_icmp .eq 23, 3) := by decide +kernel
theorem dX9_latestRuling_30 : decode cX9_latestRuling 30 = .ok (.iload_n 1, 1) := by decide +kernel
theorem dX9_latestRuling_31 : decode cX9_latestRuling 31 = .ok (.iconst (-1), 1) := by decide +kernel
theorem dX9_latestRuling_32 : decode cX9_latestRuling 32 = .ok (.if_icmp .eq 14, 3) := by decide +kernel
theorem dX9_latestRuling_35 : decode cX9_latestRuling 35 = .ok (.aload_n 0, 1) := by decide +kernel
theorem dX9_latestRuling_36 : decode cX9_latestRuling 36 = .ok (.getfield 22, 3) := by decide +kernel
theorem dX9_latestRuling_39 : decode cX9_latestRuling 39 = .ok (.iload 4, 2) := by decide +kernel
theorem dX9_latestRuling_41 : decode cX9_latestRuling 41 = .ok (.iaload, 1) := by decide +kernel
theorem dX9_latestRuling_42 : decode cX9_latestRuling 42 = .ok (.iload_n 1, 1) := by decide +kernel
theorem dX9_latestRuling_43 : decode cX9_latestRuling 43 = .ok (.if_icmp .ne 7, 3) := by decide +kernel
theorem dX9_latestRuling_46 : decode cX9_latestRuling 46 = .ok (.iconst 1, 1) := by decide +kernel
theorem dX9_latestRuling_47 : decode cX9_latestRuling 47 = .ok (.goto 4, 3) := by decide +kernel
theorem dX9_latestRuling_50 : decode cX9_latestRuling 50 = .ok (.iconst 0, 1) := by decide +kernel
theorem dX9_latestRuling_51 : decode cX9_latestRuling 51 = .ok (.istore 5, 2) := by decide +kernel
theorem dX9_latestRuling_53 : decode cX9_latestRuling 53 = .ok (.iload 5, 2) := by decide +kernel
theorem dX9_latestRuling_55 : decode cX9_latestRuling 55 = .ok (.ifCond .eq 29, 3) := by decide +kernel
theorem dX9_latestRuling_58 : decode cX9_latestRuling 58 = .ok (.iload_n 3, 1) := by decide +kernel
theorem dX9_latestRuling_59 : decode cX9_latestRuling 59 = .ok (.iconst (-1), 1) := by decide +kernel
theorem dX9_latestRuling_60 : decode cX9_latestRuling 60 = .ok (.if_icmp .eq 19, 3) := by decide +kernel
theorem dX9_latestRuling_63 : decode cX9_latestRuling 63 = .ok (.aload_n 0, 1) := by decide +kernel
theorem dX9_latestRuling_64 : decode cX9_latestRuling 64 = .ok (.getfield 19, 3) := by decide +kernel
theorem dX9_latestRuling_67 : decode cX9_latestRuling 67 = .ok (.iload 4, 2) := by decide +kernel
theorem dX9_latestRuling_69 : decode cX9_latestRuling 69 = .ok (.iaload, 1) := by decide +kernel
theorem dX9_latestRuling_70 : decode cX9_latestRuling 70 = .ok (.aload_n 0, 1) := by decide +kernel
theorem dX9_latestRuling_71 : decode cX9_latestRuling 71 = .ok (.getfield 19, 3) := by decide +kernel
theorem dX9_latestRuling_74 : decode cX9_latestRuling 74 = .ok (.iload_n 3, 1) := by decide +kernel
theorem dX9_latestRuling_75 : decode cX9_latestRuling 75 = .ok (.iaload, 1) := by decide +kernel
theorem dX9_latestRuling_76 : decode cX9_latestRuling 76 = .ok (.if_icmp .le 8, 3) := by decide +kernel
theorem dX9_latestRuling_79 : decode cX9_latestRuling 79 = .ok (.iload 4, 2) := by decide +kernel
theorem dX9_latestRuling_81 : decode cX9_latestRuling 81 = .ok (.goto 4, 3) := by decide +kernel
theorem dX9_latestRuling_84 : decode cX9_latestRuling 84 = .ok (.iload_n 3, 1) := by decide +kernel
theorem dX9_latestRuling_85 : decode cX9_latestRuling 85 = .ok (.istore_n 3, 1) := by decide +kernel
theorem dX9_latestRuling_86 : decode cX9_latestRuling 86 = .ok (.iinc 4 1, 3) := by decide +kernel
theorem dX9_latestRuling_89 : decode cX9_latestRuling 89 = .ok (.goto (-84), 3) := by decide +kernel
theorem dX9_latestRuling_92 : decode cX9_latestRuling 92 = .ok (.iload_n 3, 1) := by decide +kernel
theorem dX9_latestRuling_93 : decode cX9_latestRuling 93 = .ok (.iconst (-1), 1) := by decide +kernel
theorem dX9_latestRuling_94 : decode cX9_latestRuling 94 = .ok (.if_icmp .ne 7, 3) := by decide +kernel
theorem dX9_latestRuling_97 : decode cX9_latestRuling 97 = .ok (.iconst (-1), 1) := by decide +kernel
theorem dX9_latestRuling_98 : decode cX9_latestRuling 98 = .ok (.goto 14, 3) := by decide +kernel
theorem dX9_latestRuling_101 : decode cX9_latestRuling 101 = .ok (.aload_n 0, 1) := by decide +kernel
theorem dX9_latestRuling_102 : decode cX9_latestRuling 102 = .ok (.getfield 62, 3) := by decide +kernel
theorem dX9_latestRuling_105 : decode cX9_latestRuling 105 = .ok (.bipush 10, 2) := by decide +kernel
theorem dX9_latestRuling_107 : decode cX9_latestRuling 107 = .ok (.iload_n 3, 1) := by decide +kernel
theorem dX9_latestRuling_108 : decode cX9_latestRuling 108 = .ok (.imul, 1) := by decide +kernel
theorem dX9_latestRuling_109 : decode cX9_latestRuling 109 = .ok (.iload_n 2, 1) := by decide +kernel
theorem dX9_latestRuling_110 : decode cX9_latestRuling 110 = .ok (.iadd, 1) := by decide +kernel
theorem dX9_latestRuling_111 : decode cX9_latestRuling 111 = .ok (.iaload, 1) := by decide +kernel
theorem dX9_latestRuling_112 : decode cX9_latestRuling 112 = .ok (.ireturn, 1) := by decide +kernel
theorem dX9_tells_0 : decode cX9_tells 0 = .ok (.aload_n 0, 1) := by decide +kernel
theorem dX9_tells_1 : decode cX9_tells 1 = .ok (.getfield 65, 3) := by decide +kernel
theorem dX9_tells_4 : decode cX9_tells 4 = .ok (.iload_n 1, 1) := by decide +kernel
theorem dX9_tells_5 : decode cX9_tells 5 = .ok (.iaload, 1) := by decide +kernel
theorem dX9_tells_6 : decode cX9_tells 6 = .ok (.istore_n 3, 1) := by decide +kernel
theorem dX9_tells_7 : decode cX9_tells 7 = .ok (.iload_n 3, 1) := by decide +kernel
theorem dX9_tells_8 : decode cX9_tells 8 = .ok (.ifCond .eq 8, 3) := by decide +kernel
theorem dX9_tells_11 : decode cX9_tells 11 = .ok (.iload_n 3, 1) := by decide +kernel
theorem dX9_tells_12 : decode cX9_tells 12 = .ok (.iconst 1, 1) := by decide +kernel
theorem dX9_tells_13 : decode cX9_tells 13 = .ok (.if_icmp .ne 23, 3) := by decide +kernel
theorem dX9_tells_16 : decode cX9_tells 16 = .ok (.aload_n 0, 1) := by decide +kernel
theorem dX9_tells_17 : decode cX9_tells 17 = .ok (.iload_n 3, 1) := by decide +kernel
theorem dX9_tells_18 : decode cX9_tells 18 = .ok (.ifCond .ne 12, 3) := by decide +kernel
theorem dX9_tells_21 : decode cX9_tells 21 = .ok (.aload_n 0, 1) := by decide +kernel
theorem dX9_tells_22 : decode cX9_tells 22 = .ok (.getfield 68, 3) := by decide +kernel
theorem dX9_tells_25 : decode cX9_tells 25 = .ok (.iload_n 1, 1) := by decide +kernel
theorem dX9_tells_26 : decode cX9_tells 26 = .ok (.iaload, 1) := by decide +kernel
theorem dX9_tells_27 : decode cX9_tells 27 = .ok (.goto 4, 3) := by decide +kernel
theorem dX9_tells_30 : decode cX9_tells 30 = .ok (.iconst (-1), 1) := by decide +kernel
theorem dX9_tells_31 : decode cX9_tells 31 = .ok (.iload_n 2, 1) := by decide +kernel
theorem dX9_tells_32 : decode cX9_tells 32 = .ok (.invokevirtual 147, 3) := by decide +kernel
theorem dX9_tells_35 : decode cX9_tells 35 = .ok (.ireturn, 1) := by decide +kernel
theorem dX9_tells_36 : decode cX9_tells 36 = .ok (.iload_n 3, 1) := by decide +kernel
theorem dX9_tells_37 : decode cX9_tells 37 = .ok (.iconst 3, 1) := by decide +kernel
theorem dX9_tells_38 : decode cX9_tells 38 = .ok (.if_icmp .ne 28, 3) := by decide +kernel
theorem dX9_tells_41 : decode cX9_tells 41 = .ok (.aload_n 0, 1) := by decide +kernel
theorem dX9_tells_42 : decode cX9_tells 42 = .ok (.getfield 68, 3) := by decide +kernel
theorem dX9_tells_45 : decode cX9_tells 45 = .ok (.iload_n 1, 1) := by decide +kernel
theorem dX9_tells_46 : decode cX9_tells 46 = .ok (.iaload, 1) := by decide +kernel
theorem dX9_tells_47 : decode cX9_tells 47 = .ok (.iconst 2, 1) := by decide +kernel
theorem dX9_tells_48 : decode cX9_tells 48 = .ok (.idiv, 1) := by decide +kernel
theorem dX9_tells_49 : decode cX9_tells 49 = .ok (.iload_n 2, 1) := by decide +kernel
theorem dX9_tells_50 : decode cX9_tells 50 = .ok (.if_icmp .ne 14, 3) := by decide +kernel
theorem dX9_tells_53 : decode cX9_tells 53 = .ok (.aload_n 0, 1) := by decide +kernel
theorem dX9_tells_54 : decode cX9_tells 54 = .ok (.getfield 68, 3) := by decide +kernel
theorem dX9_tells_57 : decode cX9_tells 57 = .ok (.iload_n 1, 1) := by decide +kernel
theorem dX9_tells_58 : decode cX9_tells 58 = .ok (.iaload, 1) := by decide +kernel
theorem dX9_tells_59 : decode cX9_tells 59 = .ok (.iconst 2, 1) := by decide +kernel
theorem dX9_tells_60 : decode cX9_tells 60 = .ok (.irem, 1) := by decide +kernel
theorem dX9_tells_61 : decode cX9_tells 61 = .ok (.goto 4, 3) := by decide +kernel
theorem dX9_tells_64 : decode cX9_tells 64 = .ok (.iconst (-1), 1) := by decide +kernel
theorem dX9_tells_65 : decode cX9_tells 65 = .ok (.ireturn, 1) := by decide +kernel
theorem dX9_tells_66 : decode cX9_tells 66 = .ok (.iconst 0, 1) := by decide +kernel
theorem dX9_tells_67 : decode cX9_tells 67 = .ok (.istore 4, 2) := by decide +kernel
theorem dX9_tells_69 : decode cX9_tells 69 = .ok (.iconst 0, 1) := by decide +kernel
theorem dX9_tells_70 : decode cX9_tells 70 = .ok (.istore 5, 2) := by decide +kernel
theorem dX9_tells_72 : decode cX9_tells 72 = .ok (.iload 5, 2) := by decide +kernel
theorem dX9_tells_74 : decode cX9_tells 74 = .ok (.aload_n 0, 1) := by decide +kernel
theorem dX9_tells_75 : decode cX9_tells 75 = .ok (.getfield 100, 3) := by decide +kernel
theorem dX9_tells_78 : decode cX9_tells 78 = .ok (.if_icmp .ge 48, 3) := by decide +kernel
theorem dX9_tells_81 : decode cX9_tells 81 = .ok (.aload_n 0, 1) := by decide +kernel
theorem dX9_tells_82 : decode cX9_tells 82 = .ok (.getfield 62, 3) := by decide +kernel
theorem dX9_tells_85 : decode cX9_tells 85 = .ok (.bipush 10, 2) := by decide +kernel
theorem dX9_tells_87 : decode cX9_tells 87 = .ok (.iload 5, 2) := by decide +kernel
theorem dX9_tells_89 : decode cX9_tells 89 = .ok (.imul, 1) := by decide +kernel
theorem dX9_tells_90 : decode cX9_tells 90 = .ok (.iload_n 2, 1) := by decide +kernel
theorem dX9_tells_91 : decode cX9_tells 91 = .ok (.iadd, 1) := by decide +kernel
theorem dX9_tells_92 : decode cX9_tells 92 = .ok (.iaload, 1) := by decide +kernel
theorem dX9_tells_93 : decode cX9_tells 93 = .ok (.istore 6, 2) := by decide +kernel
theorem dX9_tells_95 : decode cX9_tells 95 = .ok (.iload 4, 2) := by decide +kernel
theorem dX9_tells_97 : decode cX9_tells 97 = .ok (.iload 6, 2) := by decide +kernel
theorem dX9_tells_99 : decode cX9_tells 99 = .ok (.iconst 1, 1) := by decide +kernel
theorem dX9_tells_100 : decode cX9_tells 100 = .ok (.if_icmp .ne 7, 3) := by decide +kernel
theorem dX9_tells_103 : decode cX9_tells 103 = .ok (.iconst 1, 1) := by decide +kernel
theorem dX9_tells_104 : decode cX9_tells 104 = .ok (.goto 13, 3) := by decide +kernel
theorem dX9_tells_107 : decode cX9_tells 107 = .ok (.iload 6, 2) := by decide +kernel
theorem dX9_tells_109 : decode cX9_tells 109 = .ok (.ifCond .ne 7, 3) := by decide +kernel
theorem dX9_tells_112 : decode cX9_tells 112 = .ok (.iconst (-1), 1) := by decide +kernel
theorem dX9_tells_113 : decode cX9_tells 113 = .ok (.goto 4, 3) := by decide +kernel
theorem dX9_tells_116 : decode cX9_tells 116 = .ok (.iconst 0, 1) := by decide +kernel
theorem dX9_tells_117 : decode cX9_tells 117 = .ok (.iadd, 1) := by decide +kernel
theorem dX9_tells_118 : decode cX9_tells 118 = .ok (.istore 4, 2) := by decide +kernel
theorem dX9_tells_120 : decode cX9_tells 120 = .ok (.iinc 5 1, 3) := by decide +kernel
theorem dX9_tells_123 : decode cX9_tells 123 = .ok (.goto (-51), 3) := by decide +kernel
theorem dX9_tells_126 : decode cX9_tells 126 = .ok (.iload 4, 2) := by decide +kernel
theorem dX9_tells_128 : decode cX9_tells 128 = .ok (.ifCond .le 7, 3) := by decide +kernel
theorem dX9_tells_131 : decode cX9_tells 131 = .ok (.iconst 1, 1) := by decide +kernel
theorem dX9_tells_132 : decode cX9_tells 132 = .ok (.goto 13, 3) := by decide +kernel
theorem dX9_tells_135 : decode cX9_tells 135 = .ok (.iload 4, 2) := by decide +kernel
theorem dX9_tells_137 : decode cX9_tells 137 = .ok (.ifCond .ge 7, 3) := by decide +kernel
theorem dX9_tells_140 : decode cX9_tells 140 = .ok (.iconst 0, 1) := by decide +kernel
theorem dX9_tells_141 : decode cX9_tells 141 = .ok (.goto 4, 3) := by decide +kernel
theorem dX9_tells_144 : decode cX9_tells 144 = .ok (.iconst (-1), 1) := by decide +kernel
theorem dX9_tells_145 : decode cX9_tells 145 = .ok (.ireturn, 1) := by decide +kernel
theorem dX9_decided_0 : decode cX9_decided 0 = .ok (.aload_n 0, 1) := by decide +kernel
theorem dX9_decided_1 : decode cX9_decided 1 = .ok (.aload_n 0, 1) := by decide +kernel
theorem dX9_decided_2 : decode cX9_decided 2 = .ok (.iload_n 1, 1) := by decide +kernel
theorem dX9_decided_3 : decode cX9_decided 3 = .ok (.iconst 0, 1) := by decide +kernel
theorem dX9_decided_4 : decode cX9_decided 4 = .ok (.bipush 9, 2) := by decide +kernel
theorem dX9_decided_6 : decode cX9_decided 6 = .ok (.invokevirtual 96, 3) := by decide +kernel
theorem dX9_decided_9 : decode cX9_decided 9 = .ok (.ifCond .ne 7, 3) := by decide +kernel
theorem dX9_decided_12 : decode cX9_decided 12 = .ok (.iconst 1, 1) := by decide +kernel
theorem dX9_decided_13 : decode cX9_decided 13 = .ok (.goto 4, 3) := by decide +kernel
theorem dX9_decided_16 : decode cX9_decided 16 = .ok (.iconst 0, 1) := by decide +kernel
theorem dX9_decided_17 : decode cX9_decided 17 = .ok (.putfield 89, 3) := by decide +kernel
theorem dX9_decided_20 : decode cX9_decided 20 = .ok (.aload_n 0, 1) := by decide +kernel
theorem dX9_decided_21 : decode cX9_decided 21 = .ok (.getfield 89, 3) := by decide +kernel
theorem dX9_decided_24 : decode cX9_decided 24 = .ok (.ifCond .le 5, 3) := by decide +kernel
theorem dX9_decided_27 : decode cX9_decided 27 = .ok (.iconst 0, 1) := by decide +kernel
theorem dX9_decided_28 : decode cX9_decided 28 = .ok (.ireturn, 1) := by decide +kernel
theorem dX9_decided_29 : decode cX9_decided 29 = .ok (.iconst 0, 1) := by decide +kernel
theorem dX9_decided_30 : decode cX9_decided 30 = .ok (.istore_n 2, 1) := by decide +kernel
theorem dX9_decided_31 : decode cX9_decided 31 = .ok (.iload_n 2, 1) := by decide +kernel
theorem dX9_decided_32 : decode cX9_decided 32 = .ok (.aload_n 0, 1) := by decide +kernel
theorem dX9_decided_33 : decode cX9_decided 33 = .ok (.getfield 144, 3) := by decide +kernel
theorem dX9_decided_36 : decode cX9_decided 36 = .ok (.if_icmp .ge 28, 3) := by decide +kernel
theorem dX9_decided_39 : decode cX9_decided 39 = .ok (.aload_n 0, 1) := by decide +kernel
theorem dX9_decided_40 : decode cX9_decided 40 = .ok (.iload_n 2, 1) := by decide +kernel
theorem dX9_decided_41 : decode cX9_decided 41 = .ok (.iload_n 1, 1) := by decide +kernel
theorem dX9_decided_42 : decode cX9_decided 42 = .ok (.invokevirtual 151, 3) := by decide +kernel
theorem dX9_decided_45 : decode cX9_decided 45 = .ok (.istore_n 3, 1) := by decide +kernel
theorem dX9_decided_46 : decode cX9_decided 46 = .ok (.iload_n 3, 1) := by decide +kernel
theorem dX9_decided_47 : decode cX9_decided 47 = .ok (.iconst (-1), 1) := by decide +kernel
theorem dX9_decided_48 : decode cX9_decided 48 = .ok (.if_icmp .eq 10, 3) := by decide +kernel
theorem dX9_decided_51 : decode cX9_decided 51 = .ok (.bipush 10, 2) := by decide +kernel
theorem dX9_decided_53 : decode cX9_decided 53 = .ok (.iload_n 2, 1) := by decide +kernel
theorem dX9_decided_54 : decode cX9_decided 54 = .ok (.imul, 1) := by decide +kernel
theorem dX9_decided_55 : decode cX9_decided 55 = .ok (.iload_n 3, 1) := by decide +kernel
theorem dX9_decided_56 : decode cX9_decided 56 = .ok (.iadd, 1) := by decide +kernel
theorem dX9_decided_57 : decode cX9_decided 57 = .ok (.ireturn, 1) := by decide +kernel
theorem dX9_decided_58 : decode cX9_decided 58 = .ok (.iinc 2 1, 3) := by decide +kernel
theorem dX9_decided_61 : decode cX9_decided 61 = .ok (.goto (-30), 3) := by decide +kernel
theorem dX9_decided_64 : decode cX9_decided 64 = .ok (.iconst (-1), 1) := by decide +kernel
theorem dX9_decided_65 : decode cX9_decided 65 = .ok (.ireturn, 1) := by decide +kernel
theorem dX9_isIn_0 : decode cX9_isIn 0 = .ok (.aload_n 0, 1) := by decide +kernel
theorem dX9_isIn_1 : decode cX9_isIn 1 = .ok (.getfield 37, 3) := by decide +kernel
theorem dX9_isIn_4 : decode cX9_isIn 4 = .ok (.iload_n 1, 1) := by decide +kernel
theorem dX9_isIn_5 : decode cX9_isIn 5 = .ok (.iaload, 1) := by decide +kernel
theorem dX9_isIn_6 : decode cX9_isIn 6 = .ok (.istore 5, 2) := by decide +kernel
theorem dX9_isIn_8 : decode cX9_isIn 8 = .ok (.aload_n 0, 1) := by decide +kernel
theorem dX9_isIn_9 : decode cX9_isIn 9 = .ok (.getfield 40, 3) := by decide +kernel
theorem dX9_isIn_12 : decode cX9_isIn 12 = .ok (.iload_n 1, 1) := by decide +kernel
theorem dX9_isIn_13 : decode cX9_isIn 13 = .ok (.iaload, 1) := by decide +kernel
theorem dX9_isIn_14 : decode cX9_isIn 14 = .ok (.iload_n 2, 1) := by decide +kernel
theorem dX9_isIn_15 : decode cX9_isIn 15 = .ok (.if_icmp .ne 34, 3) := by decide +kernel
theorem dX9_isIn_18 : decode cX9_isIn 18 = .ok (.aload_n 0, 1) := by decide +kernel
theorem dX9_isIn_19 : decode cX9_isIn 19 = .ok (.getfield 49, 3) := by decide +kernel
theorem dX9_isIn_22 : decode cX9_isIn 22 = .ok (.iload 5, 2) := by decide +kernel
theorem dX9_isIn_24 : decode cX9_isIn 24 = .ok (.baload, 1) := by decide +kernel
theorem dX9_isIn_25 : decode cX9_isIn 25 = .ok (.ifCond .ne 24, 3) := by decide +kernel
theorem dX9_isIn_28 : decode cX9_isIn 28 = .ok (.aload_n 0, 1) := by decide +kernel
theorem dX9_isIn_29 : decode cX9_isIn 29 = .ok (.aload_n 0, 1) := by decide +kernel
theorem dX9_isIn_30 : decode cX9_isIn 30 = .ok (.getfield 46, 3) := by decide +kernel
theorem dX9_isIn_33 : decode cX9_isIn 33 = .ok (.iload 5, 2) := by decide +kernel
theorem dX9_isIn_35 : decode cX9_isIn 35 = .ok (.iaload, 1) := by decide +kernel
theorem dX9_isIn_36 : decode cX9_isIn 36 = .ok (.iload_n 3, 1) := by decide +kernel
theorem dX9_isIn_37 : decode cX9_isIn 37 = .ok (.iload 4, 2) := by decide +kernel
theorem dX9_isIn_39 : decode cX9_isIn 39 = .ok (.invokevirtual 96, 3) := by decide +kernel
theorem dX9_isIn_42 : decode cX9_isIn 42 = .ok (.ifCond .eq 7, 3) := by decide +kernel
theorem dX9_isIn_45 : decode cX9_isIn 45 = .ok (.iconst 1, 1) := by decide +kernel
theorem dX9_isIn_46 : decode cX9_isIn 46 = .ok (.goto 4, 3) := by decide +kernel
theorem dX9_isIn_49 : decode cX9_isIn 49 = .ok (.iconst 0, 1) := by decide +kernel
theorem dX9_isIn_50 : decode cX9_isIn 50 = .ok (.ireturn, 1) := by decide +kernel
theorem dX9_set_0 : decode cX9_set 0 = .ok (.iconst (-1), 1) := by decide +kernel
theorem dX9_set_1 : decode cX9_set 1 = .ok (.istore_n 2, 1) := by decide +kernel
theorem dX9_set_2 : decode cX9_set 2 = .ok (.iconst 0, 1) := by decide +kernel
theorem dX9_set_3 : decode cX9_set 3 = .ok (.istore_n 3, 1) := by decide +kernel
theorem dX9_set_4 : decode cX9_set 4 = .ok (.iconst 0, 1) := by decide +kernel
theorem dX9_set_5 : decode cX9_set 5 = .ok (.istore 4, 2) := by decide +kernel
theorem dX9_set_7 : decode cX9_set 7 = .ok (.aload_n 0, 1) := by decide +kernel
theorem dX9_set_8 : decode cX9_set 8 = .ok (.iconst 0, 1) := by decide +kernel
theorem dX9_set_9 : decode cX9_set 9 = .ok (.putfield 154, 3) := by decide +kernel
theorem dX9_set_12 : decode cX9_set 12 = .ok (.iconst 0, 1) := by decide +kernel
theorem dX9_set_13 : decode cX9_set 13 = .ok (.istore 5, 2) := by decide +kernel
theorem dX9_set_15 : decode cX9_set 15 = .ok (.iload 5, 2) := by decide +kernel
theorem dX9_set_17 : decode cX9_set 17 = .ok (.aload_n 0, 1) := by decide +kernel
theorem dX9_set_18 : decode cX9_set 18 = .ok (.getfield 93, 3) := by decide +kernel
theorem dX9_set_21 : decode cX9_set 21 = .ok (.if_icmp .ge 345, 3) := by decide +kernel
theorem dX9_set_24 : decode cX9_set 24 = .ok (.iconst 0, 1) := by decide +kernel
theorem dX9_set_25 : decode cX9_set 25 = .ok (.istore 6, 2) := by decide +kernel
theorem dX9_set_27 : decode cX9_set 27 = .ok (.iload 6, 2) := by decide +kernel
theorem dX9_set_29 : decode cX9_set 29 = .ok (.aload_n 0, 1) := by decide +kernel
theorem dX9_set_30 : decode cX9_set 30 = .ok (.getfield 16, 3) := by decide +kernel
theorem dX9_set_33 : decode cX9_set 33 = .ok (.iload 5, 2) := by decide +kernel
theorem dX9_set_35 : decode cX9_set 35 = .ok (.iaload, 1) := by decide +kernel
theorem dX9_set_36 : decode cX9_set 36 = .ok (.if_icmp .ge 324, 3) := by decide +kernel
theorem dX9_set_39 : decode cX9_set 39 = .ok (.iload 6, 2) := by decide +kernel
theorem dX9_set_41 : decode cX9_set 41 = .ok (.iload_n 1, 1) := by decide +kernel
theorem dX9_set_42 : decode cX9_set 42 = .ok (.iadd, 1) := by decide +kernel
theorem dX9_set_43 : decode cX9_set 43 = .ok (.iconst 1, 1) := by decide +kernel
theorem dX9_set_44 : decode cX9_set 44 = .ok (.isub, 1) := by decide +kernel
theorem dX9_set_45 : decode cX9_set 45 = .ok (.istore 7, 2) := by decide +kernel
theorem dX9_set_47 : decode cX9_set 47 = .ok (.iconst 0, 1) := by decide +kernel
theorem dX9_set_48 : decode cX9_set 48 = .ok (.istore 8, 2) := by decide +kernel
theorem dX9_set_50 : decode cX9_set 50 = .ok (.iconst 0, 1) := by decide +kernel
theorem dX9_set_51 : decode cX9_set 51 = .ok (.istore 9, 2) := by decide +kernel
theorem dX9_set_53 : decode cX9_set 53 = .ok (.iconst 0, 1) := by decide +kernel
theorem dX9_set_54 : decode cX9_set 54 = .ok (.istore 10, 2) := by decide +kernel
theorem dX9_set_56 : decode cX9_set 56 = .ok (.iload 10, 2) := by decide +kernel
theorem dX9_set_58 : decode cX9_set 58 = .ok (.aload_n 0, 1) := by decide +kernel
theorem dX9_set_59 : decode cX9_set 59 = .ok (.getfield 103, 3) := by decide +kernel
theorem dX9_set_62 : decode cX9_set 62 = .ok (.if_icmp .ge 78, 3) := by decide +kernel
theorem dX9_set_65 : decode cX9_set 65 = .ok (.aload_n 0, 1) := by decide +kernel
theorem dX9_set_66 : decode cX9_set 66 = .ok (.iload 10, 2) := by decide +kernel
theorem dX9_set_68 : decode cX9_set 68 = .ok (.iload 5, 2) := by decide +kernel
theorem dX9_set_70 : decode cX9_set 70 = .ok (.iload 6, 2) := by decide +kernel
theorem dX9_set_72 : decode cX9_set 72 = .ok (.iload 7, 2) := by decide +kernel
theorem dX9_set_74 : decode cX9_set 74 = .ok (.invokevirtual 157, 3) := by decide +kernel
theorem dX9_set_77 : decode cX9_set 77 = .ok (.istore 11, 2) := by decide +kernel
theorem dX9_set_79 : decode cX9_set 79 = .ok (.iload 8, 2) := by decide +kernel
theorem dX9_set_81 : decode cX9_set 81 = .ok (.ifCond .ne 18, 3) := by decide +kernel
theorem dX9_set_84 : decode cX9_set 84 = .ok (.iload 11, 2) := by decide +kernel
theorem dX9_set_86 : decode cX9_set 86 = .ok (.ifCond .eq 17, 3) := by decide +kernel
theorem dX9_set_89 : decode cX9_set 89 = .ok (.aload_n 0, 1) := by decide +kernel
theorem dX9_set_90 : decode cX9_set 90 = .ok (.getfield 56, 3) := by decide +kernel
theorem dX9_set_93 : decode cX9_set 93 = .ok (.iload 10, 2) := by decide +kernel
theorem dX9_set_95 : decode cX9_set 95 = .ok (.iaload, 1) := by decide +kernel
theorem dX9_set_96 : decode cX9_set 96 = .ok (.ifCond .ne 7, 3) := by decide +kernel
theorem dX9_set_99 : decode cX9_set 99 = .ok (.iconst 1, 1) := by decide +kernel
theorem dX9_set_100 : decode cX9_set 100 = .ok (.goto 4, 3) := by decide +kernel
theorem dX9_set_103 : decode cX9_set 103 = .ok (.iconst 0, 1) := by decide +kernel
theorem dX9_set_104 : decode cX9_set 104 = .ok (.istore 8, 2) := by decide +kernel
theorem dX9_set_106 : decode cX9_set 106 = .ok (.iload 9, 2) := by decide +kernel
theorem dX9_set_108 : decode cX9_set 108 = .ok (.ifCond .ne 19, 3) := by decide +kernel
theorem dX9_set_111 : decode cX9_set 111 = .ok (.iload 11, 2) := by decide +kernel
theorem dX9_set_113 : decode cX9_set 113 = .ok (.ifCond .eq 18, 3) := by decide +kernel
theorem dX9_set_116 : decode cX9_set 116 = .ok (.aload_n 0, 1) := by decide +kernel
theorem dX9_set_117 : decode cX9_set 117 = .ok (.getfield 56, 3) := by decide +kernel
theorem dX9_set_120 : decode cX9_set 120 = .ok (.iload 10, 2) := by decide +kernel
theorem dX9_set_122 : decode cX9_set 122 = .ok (.iaload, 1) := by decide +kernel
theorem dX9_set_123 : decode cX9_set 123 = .ok (.iconst 1, 1) := by decide +kernel
theorem dX9_set_124 : decode cX9_set 124 = .ok (.if_icmp .ne 7, 3) := by decide +kernel
theorem dX9_set_127 : decode cX9_set 127 = .ok (.iconst 1, 1) := by decide +kernel
theorem dX9_set_128 : decode cX9_set 128 = .ok (.goto 4, 3) := by decide +kernel
theorem dX9_set_131 : decode cX9_set 131 = .ok (.iconst 0, 1) := by decide +kernel
theorem dX9_set_132 : decode cX9_set 132 = .ok (.istore 9, 2) := by decide +kernel
theorem dX9_set_134 : decode cX9_set 134 = .ok (.iinc 10 1, 3) := by decide +kernel
theorem dX9_set_137 : decode cX9_set 137 = .ok (.goto (-81), 3) := by decide +kernel
theorem dX9_set_140 : decode cX9_set 140 = .ok (.iinc 2 1, 3) := by decide +kernel
theorem dX9_set_143 : decode cX9_set 143 = .ok (.iload 8, 2) := by decide +kernel
theorem dX9_set_145 : decode cX9_set 145 = .ok (.ifCond .eq 12, 3) := by decide +kernel
theorem dX9_set_148 : decode cX9_set 148 = .ok (.iload_n 3, 1) := by decide +kernel
theorem dX9_set_149 : decode cX9_set 149 = .ok (.iload_n 2, 1) := by decide +kernel
theorem dX9_set_150 : decode cX9_set 150 = .ok (.if_icmp .le 7, 3) := by decide +kernel
theorem dX9_set_153 : decode cX9_set 153 = .ok (.iload_n 3, 1) := by decide +kernel
theorem dX9_set_154 : decode cX9_set 154 = .ok (.goto 4, 3) := by decide +kernel
theorem dX9_set_157 : decode cX9_set 157 = .ok (.iload_n 2, 1) := by decide +kernel
theorem dX9_set_158 : decode cX9_set 158 = .ok (.istore_n 2, 1) := by decide +kernel
theorem dX9_set_159 : decode cX9_set 159 = .ok (.iload 9, 2) := by decide +kernel
theorem dX9_set_161 : decode cX9_set 161 = .ok (.ifCond .eq 14, 3) := by decide +kernel
theorem dX9_set_164 : decode cX9_set 164 = .ok (.iload 4, 2) := by decide +kernel
theorem dX9_set_166 : decode cX9_set 166 = .ok (.iload_n 2, 1) := by decide +kernel
theorem dX9_set_167 : decode cX9_set 167 = .ok (.if_icmp .le 8, 3) := by decide +kernel
theorem dX9_set_170 : decode cX9_set 170 = .ok (.iload 4, 2) := by decide +kernel
theorem dX9_set_172 : decode cX9_set 172 = .ok (.goto 4, 3) := by decide +kernel
theorem dX9_set_175 : decode cX9_set 175 = .ok (.iload_n 2, 1) := by decide +kernel
theorem dX9_set_176 : decode cX9_set 176 = .ok (.istore_n 2, 1) := by decide +kernel
theorem dX9_set_177 : decode cX9_set 177 = .ok (.aload_n 0, 1) := by decide +kernel
theorem dX9_set_178 : decode cX9_set 178 = .ok (.getfield 80, 3) := by decide +kernel
theorem dX9_set_181 : decode cX9_set 181 = .ok (.iload 5, 2) := by decide +kernel
theorem dX9_set_183 : decode cX9_set 183 = .ok (.iload 6, 2) := by decide +kernel
theorem dX9_set_185 : decode cX9_set 185 = .ok (.ifCond .ne 7, 3) := by decide +kernel
theorem dX9_set_188 : decode cX9_set 188 = .ok (.iload_n 2, 1) := by decide +kernel
theorem dX9_set_189 : decode cX9_set 189 = .ok (.goto 10, 3) := by decide +kernel
theorem dX9_set_192 : decode cX9_set 192 = .ok (.aload_n 0, 1) := by decide +kernel
theorem dX9_set_193 : decode cX9_set 193 = .ok (.getfield 80, 3) := by decide +kernel
theorem dX9_set_196 : decode cX9_set 196 = .ok (.iload 5, 2) := by decide +kernel
theorem dX9_set_198 : decode cX9_set 198 = .ok (.iaload, 1) := by decide +kernel
theorem dX9_set_199 : decode cX9_set 199 = .ok (.iastore, 1) := by decide +kernel
theorem dX9_set_200 : decode cX9_set 200 = .ok (.iload 8, 2) := by decide +kernel
theorem dX9_set_202 : decode cX9_set 202 = .ok (.ifCond .eq 7, 3) := by decide +kernel
theorem dX9_set_205 : decode cX9_set 205 = .ok (.iload_n 2, 1) := by decide +kernel
theorem dX9_set_206 : decode cX9_set 206 = .ok (.goto 4, 3) := by decide +kernel
theorem dX9_set_209 : decode cX9_set 209 = .ok (.iload_n 3, 1) := by decide +kernel
theorem dX9_set_210 : decode cX9_set 210 = .ok (.istore_n 3, 1) := by decide +kernel
theorem dX9_set_211 : decode cX9_set 211 = .ok (.iload 9, 2) := by decide +kernel
theorem dX9_set_213 : decode cX9_set 213 = .ok (.ifCond .eq 7, 3) := by decide +kernel
theorem dX9_set_216 : decode cX9_set 216 = .ok (.iload_n 2, 1) := by decide +kernel
theorem dX9_set_217 : decode cX9_set 217 = .ok (.goto 5, 3) := by decide +kernel
theorem dX9_set_220 : decode cX9_set 220 = .ok (.iload 4, 2) := by decide +kernel
theorem dX9_set_222 : decode cX9_set 222 = .ok (.istore 4, 2) := by decide +kernel
theorem dX9_set_224 : decode cX9_set 224 = .ok (.iconst 0, 1) := by decide +kernel
theorem dX9_set_225 : decode cX9_set 225 = .ok (.istore 10, 2) := by decide +kernel
theorem dX9_set_227 : decode cX9_set 227 = .ok (.iload 10, 2) := by decide +kernel
theorem dX9_set_229 : decode cX9_set 229 = .ok (.aload_n 0, 1) := by decide +kernel
theorem dX9_set_230 : decode cX9_set 230 = .ok (.getfield 103, 3) := by decide +kernel
theorem dX9_set_233 : decode cX9_set 233 = .ok (.if_icmp .ge 98, 3) := by decide +kernel
theorem dX9_set_236 : decode cX9_set 236 = .ok (.aload_n 0, 1) := by decide +kernel
theorem dX9_set_237 : decode cX9_set 237 = .ok (.iload 10, 2) := by decide +kernel
theorem dX9_set_239 : decode cX9_set 239 = .ok (.iload 5, 2) := by decide +kernel
theorem dX9_set_241 : decode cX9_set 241 = .ok (.iload 6, 2) := by decide +kernel
theorem dX9_set_243 : decode cX9_set 243 = .ok (.iload 7, 2) := by decide +kernel
theorem dX9_set_245 : decode cX9_set 245 = .ok (.invokevirtual 157, 3) := by decide +kernel
theorem dX9_set_248 : decode cX9_set 248 = .ok (.ifCond .eq 77, 3) := by decide +kernel
theorem dX9_set_251 : decode cX9_set 251 = .ok (.aload_n 0, 1) := by decide +kernel
theorem dX9_set_252 : decode cX9_set 252 = .ok (.getfield 83, 3) := by decide +kernel
theorem dX9_set_255 : decode cX9_set 255 = .ok (.iload 10, 2) := by decide +kernel
theorem dX9_set_257 : decode cX9_set 257 = .ok (.aload_n 0, 1) := by decide +kernel
theorem dX9_set_258 : decode cX9_set 258 = .ok (.getfield 56, 3) := by decide +kernel
theorem dX9_set_261 : decode cX9_set 261 = .ok (.iload 10, 2) := by decide +kernel
theorem dX9_set_263 : decode cX9_set 263 = .ok (.iaload, 1) := by decide +kernel
theorem dX9_set_264 : decode cX9_set 264 = .ok (.ifCond .ne 7, 3) := by decide +kernel
theorem dX9_set_267 : decode cX9_set 267 = .ok (.iload_n 3, 1) := by decide +kernel
theorem dX9_set_268 : decode cX9_set 268 = .ok (.goto 5, 3) := by decide +kernel
theorem dX9_set_271 : decode cX9_set 271 = .ok (.iload 4, 2) := by decide +kernel
theorem dX9_set_273 : decode cX9_set 273 = .ok (.iastore, 1) := by decide +kernel
theorem dX9_set_274 : decode cX9_set 274 = .ok (.iload_n 3, 1) := by decide +kernel
theorem dX9_set_275 : decode cX9_set 275 = .ok (.aload_n 0, 1) := by decide +kernel
theorem dX9_set_276 : decode cX9_set 276 = .ok (.getfield 56, 3) := by decide +kernel
theorem dX9_set_279 : decode cX9_set 279 = .ok (.iload 10, 2) := by decide +kernel
theorem dX9_set_281 : decode cX9_set 281 = .ok (.iaload, 1) := by decide +kernel
theorem dX9_set_282 : decode cX9_set 282 = .ok (.ifCond .ne 13, 3) := by decide +kernel
theorem dX9_set_285 : decode cX9_set 285 = .ok (.aload_n 0, 1) := by decide +kernel
theorem dX9_set_286 : decode cX9_set 286 = .ok (.getfield 53, 3) := by decide +kernel
theorem dX9_set_289 : decode cX9_set 289 = .ok (.iload 10, 2) := by decide +kernel
theorem dX9_set_291 : decode cX9_set 291 = .ok (.iaload, 1) := by decide +kernel
theorem dX9_set_292 : decode cX9_set 292 = .ok (.goto 4, 3) := by decide +kernel
theorem dX9_set_295 : decode cX9_set 295 = .ok (.iconst 0, 1) := by decide +kernel
theorem dX9_set_296 : decode cX9_set 296 = .ok (.iadd, 1) := by decide +kernel
theorem dX9_set_297 : decode cX9_set 297 = .ok (.istore_n 3, 1) := by decide +kernel
theorem dX9_set_298 : decode cX9_set 298 = .ok (.iload 4, 2) := by decide +kernel
theorem dX9_set_300 : decode cX9_set 300 = .ok (.aload_n 0, 1) := by decide +kernel
theorem dX9_set_301 : decode cX9_set 301 = .ok (.getfield 56, 3) := by decide +kernel
theorem dX9_set_304 : decode cX9_set 304 = .ok (.iload 10, 2) := by decide +kernel
theorem dX9_set_306 : decode cX9_set 306 = .ok (.iaload, 1) := by decide +kernel
theorem dX9_set_307 : decode cX9_set 307 = .ok (.iconst 1, 1) := by decide +kernel
theorem dX9_set_308 : decode cX9_set 308 = .ok (.if_icmp .ne 13, 3) := by decide +kernel
theorem dX9_set_311 : decode cX9_set 311 = .ok (.aload_n 0, 1) := by decide +kernel
theorem dX9_set_312 : decode cX9_set 312 = .ok (.getfield 53, 3) := by decide +kernel
theorem dX9_set_315 : decode cX9_set 315 = .ok (.iload 10, 2) := by decide +kernel
theorem dX9_set_317 : decode cX9_set 317 = .ok (.iaload, 1) := by decide +kernel
theorem dX9_set_318 : decode cX9_set 318 = .ok (.goto 4, 3) := by decide +kernel
theorem dX9_set_321 : decode cX9_set 321 = .ok (.iconst 0, 1) := by decide +kernel
theorem dX9_set_322 : decode cX9_set 322 = .ok (.iadd, 1) := by decide +kernel
theorem dX9_set_323 : decode cX9_set 323 = .ok (.istore 4, 2) := by decide +kernel
theorem dX9_set_325 : decode cX9_set 325 = .ok (.iinc 10 1, 3) := by decide +kernel
theorem dX9_set_328 : decode cX9_set 328 = .ok (.goto (-101), 3) := by decide +kernel
theorem dX9_set_331 : decode cX9_set 331 = .ok (.aload_n 0, 1) := by decide +kernel
theorem dX9_set_332 : decode cX9_set 332 = .ok (.iload_n 2, 1) := by decide +kernel
theorem dX9_set_333 : decode cX9_set 333 = .ok (.aload_n 0, 1) := by decide +kernel
theorem dX9_set_334 : decode cX9_set 334 = .ok (.getfield 154, 3) := by decide +kernel
theorem dX9_set_337 : decode cX9_set 337 = .ok (.if_icmp .le 7, 3) := by decide +kernel
theorem dX9_set_340 : decode cX9_set 340 = .ok (.iload_n 2, 1) := by decide +kernel
theorem dX9_set_341 : decode cX9_set 341 = .ok (.goto 7, 3) := by decide +kernel
theorem dX9_set_344 : decode cX9_set 344 = .ok (.aload_n 0, 1) := by decide +kernel
theorem dX9_set_345 : decode cX9_set 345 = .ok (.getfield 154, 3) := by decide +kernel
theorem dX9_set_348 : decode cX9_set 348 = .ok (.putfield 154, 3) := by decide +kernel
theorem dX9_set_351 : decode cX9_set 351 = .ok (.iload 6, 2) := by decide +kernel
theorem dX9_set_353 : decode cX9_set 353 = .ok (.iload_n 1, 1) := by decide +kernel
theorem dX9_set_354 : decode cX9_set 354 = .ok (.iadd, 1) := by decide +kernel
theorem dX9_set_355 : decode cX9_set 355 = .ok (.istore 6, 2) := by decide +kernel
theorem dX9_set_357 : decode cX9_set 357 = .ok (.goto (-330), 3) := by decide +kernel
theorem dX9_set_360 : decode cX9_set 360 = .ok (.iinc 5 1, 3) := by decide +kernel
theorem dX9_set_363 : decode cX9_set 363 = .ok (.goto (-348), 3) := by decide +kernel
theorem dX9_set_366 : decode cX9_set 366 = .ok (.aload_n 0, 1) := by decide +kernel
theorem dX9_set_367 : decode cX9_set 367 = .ok (.iload_n 3, 1) := by decide +kernel
theorem dX9_set_368 : decode cX9_set 368 = .ok (.iconst 1, 1) := by decide +kernel
theorem dX9_set_369 : decode cX9_set 369 = .ok (.isub, 1) := by decide +kernel
theorem dX9_set_370 : decode cX9_set 370 = .ok (.aload_n 0, 1) := by decide +kernel
theorem dX9_set_371 : decode cX9_set 371 = .ok (.getfield 154, 3) := by decide +kernel
theorem dX9_set_374 : decode cX9_set 374 = .ok (.if_icmp .le 9, 3) := by decide +kernel
theorem dX9_set_377 : decode cX9_set 377 = .ok (.iload_n 3, 1) := by decide +kernel
theorem dX9_set_378 : decode cX9_set 378 = .ok (.iconst 1, 1) := by decide +kernel
theorem dX9_set_379 : decode cX9_set 379 = .ok (.isub, 1) := by decide +kernel
theorem dX9_set_380 : decode cX9_set 380 = .ok (.goto 7, 3) := by decide +kernel
theorem dX9_set_383 : decode cX9_set 383 = .ok (.aload_n 0, 1) := by decide +kernel
theorem dX9_set_384 : decode cX9_set 384 = .ok (.getfield 154, 3) := by decide +kernel
theorem dX9_set_387 : decode cX9_set 387 = .ok (.putfield 154, 3) := by decide +kernel
theorem dX9_set_390 : decode cX9_set 390 = .ok (.aload_n 0, 1) := by decide +kernel
theorem dX9_set_391 : decode cX9_set 391 = .ok (.iload 4, 2) := by decide +kernel
theorem dX9_set_393 : decode cX9_set 393 = .ok (.iconst 1, 1) := by decide +kernel
theorem dX9_set_394 : decode cX9_set 394 = .ok (.isub, 1) := by decide +kernel
theorem dX9_set_395 : decode cX9_set 395 = .ok (.aload_n 0, 1) := by decide +kernel
theorem dX9_set_396 : decode cX9_set 396 = .ok (.getfield 154, 3) := by decide +kernel
theorem dX9_set_399 : decode cX9_set 399 = .ok (.if_icmp .le 10, 3) := by decide +kernel
theorem dX9_set_402 : decode cX9_set 402 = .ok (.iload 4, 2) := by decide +kernel
theorem dX9_set_404 : decode cX9_set 404 = .ok (.iconst 1, 1) := by decide +kernel
theorem dX9_set_405 : decode cX9_set 405 = .ok (.isub, 1) := by decide +kernel
theorem dX9_set_406 : decode cX9_set 406 = .ok (.goto 7, 3) := by decide +kernel
theorem dX9_set_409 : decode cX9_set 409 = .ok (.aload_n 0, 1) := by decide +kernel
theorem dX9_set_410 : decode cX9_set 410 = .ok (.getfield 154, 3) := by decide +kernel
theorem dX9_set_413 : decode cX9_set 413 = .ok (.putfield 154, 3) := by decide +kernel
theorem dX9_set_416 : decode cX9_set 416 = .ok (.return_, 1) := by decide +kernel
theorem dX9_edition_0 : decode cX9_edition 0 = .ok (.aload_n 0, 1) := by decide +kernel
theorem dX9_edition_1 : decode cX9_edition 1 = .ok (.aload_n 0, 1) := by decide +kernel
theorem dX9_edition_2 : decode cX9_edition 2 = .ok (.iload_n 1, 1) := by decide +kernel
theorem dX9_edition_3 : decode cX9_edition 3 = .ok (.iconst 1, 1) := by decide +kernel
theorem dX9_edition_4 : decode cX9_edition 4 = .ok (.bipush 12, 2) := by decide +kernel
theorem dX9_edition_6 : decode cX9_edition 6 = .ok (.invokevirtual 96, 3) := by decide +kernel
theorem dX9_edition_9 : decode cX9_edition 9 = .ok (.ifCond .eq 14, 3) := by decide +kernel
theorem dX9_edition_12 : decode cX9_edition 12 = .ok (.aload_n 0, 1) := by decide +kernel
theorem dX9_edition_13 : decode cX9_edition 13 = .ok (.iload_n 2, 1) := by decide +kernel
theorem dX9_edition_14 : decode cX9_edition 14 = .ok (.iconst 1, 1) := by decide +kernel
theorem dX9_edition_15 : decode cX9_edition 15 = .ok (.bipush 60, 2) := by decide +kernel
theorem dX9_edition_17 : decode cX9_edition 17 = .ok (.invokevirtual 96, 3) := by decide +kernel
theorem dX9_edition_20 : decode cX9_edition 20 = .ok (.ifCond .ne 7, 3) := by decide +kernel
theorem dX9_edition_23 : decode cX9_edition 23 = .ok (.iconst 1, 1) := by decide +kernel
theorem dX9_edition_24 : decode cX9_edition 24 = .ok (.goto 24, 3) := by decide +kernel
theorem dX9_edition_27 : decode cX9_edition 27 = .ok (.aload_n 0, 1) := by decide +kernel
theorem dX9_edition_28 : decode cX9_edition 28 = .ok (.getfield 93, 3) := by decide +kernel
theorem dX9_edition_31 : decode cX9_edition 31 = .ok (.ifCond .eq 12, 3) := by decide +kernel
theorem dX9_edition_34 : decode cX9_edition 34 = .ok (.aload_n 0, 1) := by decide +kernel
theorem dX9_edition_35 : decode cX9_edition 35 = .ok (.getfield 161, 3) := by decide +kernel
theorem dX9_edition_38 : decode cX9_edition 38 = .ok (.bipush 8, 2) := by decide +kernel
theorem dX9_edition_40 : decode cX9_edition 40 = .ok (.if_icmp .ne 7, 3) := by decide +kernel
theorem dX9_edition_43 : decode cX9_edition 43 = .ok (.iconst 2, 1) := by decide +kernel
theorem dX9_edition_44 : decode cX9_edition 44 = .ok (.goto 4, 3) := by decide +kernel
theorem dX9_edition_47 : decode cX9_edition 47 = .ok (.iconst 0, 1) := by decide +kernel
theorem dX9_edition_48 : decode cX9_edition 48 = .ok (.putfield 89, 3) := by decide +kernel
theorem dX9_edition_51 : decode cX9_edition 51 = .ok (.aload_n 0, 1) := by decide +kernel
theorem dX9_edition_52 : decode cX9_edition 52 = .ok (.getfield 89, 3) := by decide +kernel
theorem dX9_edition_55 : decode cX9_edition 55 = .ok (.ifCond .le 5, 3) := by decide +kernel
theorem dX9_edition_58 : decode cX9_edition 58 = .ok (.iconst 0, 1) := by decide +kernel
theorem dX9_edition_59 : decode cX9_edition 59 = .ok (.ireturn, 1) := by decide +kernel
theorem dX9_edition_60 : decode cX9_edition 60 = .ok (.aload_n 0, 1) := by decide +kernel
theorem dX9_edition_61 : decode cX9_edition 61 = .ok (.iload_n 1, 1) := by decide +kernel
theorem dX9_edition_62 : decode cX9_edition 62 = .ok (.invokevirtual 164, 3) := by decide +kernel
theorem dX9_edition_65 : decode cX9_edition 65 = .ok (.aload_n 0, 1) := by decide +kernel
theorem dX9_edition_66 : decode cX9_edition 66 = .ok (.getfield 161, 3) := by decide +kernel
theorem dX9_edition_69 : decode cX9_edition 69 = .ok (.istore_n 3, 1) := by decide +kernel
theorem dX9_edition_70 : decode cX9_edition 70 = .ok (.aload_n 0, 1) := by decide +kernel
theorem dX9_edition_71 : decode cX9_edition 71 = .ok (.getfield 71, 3) := by decide +kernel
theorem dX9_edition_74 : decode cX9_edition 74 = .ok (.iload_n 3, 1) := by decide +kernel
theorem dX9_edition_75 : decode cX9_edition 75 = .ok (.iload_n 1, 1) := by decide +kernel
theorem dX9_edition_76 : decode cX9_edition 76 = .ok (.iastore, 1) := by decide +kernel
theorem dX9_edition_77 : decode cX9_edition 77 = .ok (.aload_n 0, 1) := by decide +kernel
theorem dX9_edition_78 : decode cX9_edition 78 = .ok (.getfield 74, 3) := by decide +kernel
theorem dX9_edition_81 : decode cX9_edition 81 = .ok (.iload_n 3, 1) := by decide +kernel
theorem dX9_edition_82 : decode cX9_edition 82 = .ok (.aload_n 0, 1) := by decide +kernel
theorem dX9_edition_83 : decode cX9_edition 83 = .ok (.getfield 154, 3) := by decide +kernel
theorem dX9_edition_86 : decode cX9_edition 86 = .ok (.iload_n 2, 1) := by decide +kernel
theorem dX9_edition_87 : decode cX9_edition 87 = .ok (.idiv, 1) := by decide +kernel
theorem dX9_edition_88 : decode cX9_edition 88 = .ok (.iconst 1, 1) := by decide +kernel
theorem dX9_edition_89 : decode cX9_edition 89 = .ok (.iadd, 1) := by decide +kernel
theorem dX9_edition_90 : decode cX9_edition 90 = .ok (.iastore, 1) := by decide +kernel
theorem dX9_edition_91 : decode cX9_edition 91 = .ok (.iconst 0, 1) := by decide +kernel
theorem dX9_edition_92 : decode cX9_edition 92 = .ok (.istore 4, 2) := by decide +kernel
theorem dX9_edition_94 : decode cX9_edition 94 = .ok (.iload 4, 2) := by decide +kernel
theorem dX9_edition_96 : decode cX9_edition 96 = .ok (.bipush 20, 2) := by decide +kernel
theorem dX9_edition_98 : decode cX9_edition 98 = .ok (.if_icmp .ge 56, 3) := by decide +kernel
theorem dX9_edition_101 : decode cX9_edition 101 = .ok (.aload_n 0, 1) := by decide +kernel
theorem dX9_edition_102 : decode cX9_edition 102 = .ok (.getfield 77, 3) := by decide +kernel
theorem dX9_edition_105 : decode cX9_edition 105 = .ok (.bipush 20, 2) := by decide +kernel
theorem dX9_edition_107 : decode cX9_edition 107 = .ok (.iload_n 3, 1) := by decide +kernel
theorem dX9_edition_108 : decode cX9_edition 108 = .ok (.imul, 1) := by decide +kernel
theorem dX9_edition_109 : decode cX9_edition 109 = .ok (.iload 4, 2) := by decide +kernel
theorem dX9_edition_111 : decode cX9_edition 111 = .ok (.iadd, 1) := by decide +kernel
theorem dX9_edition_112 : decode cX9_edition 112 = .ok (.iload 4, 2) := by decide +kernel
theorem dX9_edition_114 : decode cX9_edition 114 = .ok (.aload_n 0, 1) := by decide +kernel
theorem dX9_edition_115 : decode cX9_edition 115 = .ok (.getfield 93, 3) := by decide +kernel
theorem dX9_edition_118 : decode cX9_edition 118 = .ok (.if_icmp .ge 28, 3) := by decide +kernel
theorem dX9_edition_121 : decode cX9_edition 121 = .ok (.bipush 100, 2) := by decide +kernel
theorem dX9_edition_123 : decode cX9_edition 123 = .ok (.aload_n 0, 1) := by decide +kernel
theorem dX9_edition_124 : decode cX9_edition 124 = .ok (.getfield 80, 3) := by decide +kernel
theorem dX9_edition_127 : decode cX9_edition 127 = .ok (.iload 4, 2) := by decide +kernel
theorem dX9_edition_129 : decode cX9_edition 129 = .ok (.iaload, 1) := by decide +kernel
theorem dX9_edition_130 : decode cX9_edition 130 = .ok (.iload_n 2, 1) := by decide +kernel
theorem dX9_edition_131 : decode cX9_edition 131 = .ok (.idiv, 1) := by decide +kernel
theorem dX9_edition_132 : decode cX9_edition 132 = .ok (.imul, 1) := by decide +kernel
theorem dX9_edition_133 : decode cX9_edition 133 = .ok (.aload_n 0, 1) := by decide +kernel
theorem dX9_edition_134 : decode cX9_edition 134 = .ok (.getfield 80, 3) := by decide +kernel
theorem dX9_edition_137 : decode cX9_edition 137 = .ok (.iload 4, 2) := by decide +kernel
theorem dX9_edition_139 : decode cX9_edition 139 = .ok (.iaload, 1) := by decide +kernel
theorem dX9_edition_140 : decode cX9_edition 140 = .ok (.iload_n 2, 1) := by decide +kernel
theorem dX9_edition_141 : decode cX9_edition 141 = .ok (.irem, 1) := by decide +kernel
theorem dX9_edition_142 : decode cX9_edition 142 = .ok (.iadd, 1) := by decide +kernel
theorem dX9_edition_143 : decode cX9_edition 143 = .ok (.goto 4, 3) := by decide +kernel
theorem dX9_edition_146 : decode cX9_edition 146 = .ok (.iconst (-1), 1) := by decide +kernel
theorem dX9_edition_147 : decode cX9_edition 147 = .ok (.iastore, 1) := by decide +kernel
theorem dX9_edition_148 : decode cX9_edition 148 = .ok (.iinc 4 1, 3) := by decide +kernel
theorem dX9_edition_151 : decode cX9_edition 151 = .ok (.goto (-57), 3) := by decide +kernel
theorem dX9_edition_154 : decode cX9_edition 154 = .ok (.aload_n 0, 1) := by decide +kernel
theorem dX9_edition_155 : decode cX9_edition 155 = .ok (.dup, 1) := by decide +kernel
theorem dX9_edition_156 : decode cX9_edition 156 = .ok (.getfield 161, 3) := by decide +kernel
theorem dX9_edition_159 : decode cX9_edition 159 = .ok (.iconst 1, 1) := by decide +kernel
theorem dX9_edition_160 : decode cX9_edition 160 = .ok (.iadd, 1) := by decide +kernel
theorem dX9_edition_161 : decode cX9_edition 161 = .ok (.putfield 161, 3) := by decide +kernel
theorem dX9_edition_164 : decode cX9_edition 164 = .ok (.iload_n 3, 1) := by decide +kernel
theorem dX9_edition_165 : decode cX9_edition 165 = .ok (.ireturn, 1) := by decide +kernel
theorem dX9_isEdition_0 : decode cX9_isEdition 0 = .ok (.aload_n 0, 1) := by decide +kernel
theorem dX9_isEdition_1 : decode cX9_isEdition 1 = .ok (.iload_n 1, 1) := by decide +kernel
theorem dX9_isEdition_2 : decode cX9_isEdition 2 = .ok (.iconst 0, 1) := by decide +kernel
theorem dX9_isEdition_3 : decode cX9_isEdition 3 = .ok (.aload_n 0, 1) := by decide +kernel
theorem dX9_isEdition_4 : decode cX9_isEdition 4 = .ok (.getfield 161, 3) := by decide +kernel
theorem dX9_isEdition_7 : decode cX9_isEdition 7 = .ok (.iconst 1, 1) := by decide +kernel
theorem dX9_isEdition_8 : decode cX9_isEdition 8 = .ok (.isub, 1) := by decide +kernel
theorem dX9_isEdition_9 : decode cX9_isEdition 9 = .ok (.invokevirtual 96, 3) := by decide +kernel
theorem dX9_isEdition_12 : decode cX9_isEdition 12 = .ok (.ireturn, 1) := by decide +kernel
theorem dX9_address_0 : decode cX9_address 0 = .ok (.aload_n 0, 1) := by decide +kernel
theorem dX9_address_1 : decode cX9_address 1 = .ok (.aload_n 0, 1) := by decide +kernel
theorem dX9_address_2 : decode cX9_address 2 = .ok (.iload_n 1, 1) := by decide +kernel
theorem dX9_address_3 : decode cX9_address 3 = .ok (.invokevirtual 168, 3) := by decide +kernel
theorem dX9_address_6 : decode cX9_address 6 = .ok (.ifCond .eq 11, 3) := by decide +kernel
theorem dX9_address_9 : decode cX9_address 9 = .ok (.aload_n 0, 1) := by decide +kernel
theorem dX9_address_10 : decode cX9_address 10 = .ok (.iload_n 2, 1) := by decide +kernel
theorem dX9_address_11 : decode cX9_address 11 = .ok (.invokevirtual 109, 3) := by decide +kernel
theorem dX9_address_14 : decode cX9_address 14 = .ok (.ifCond .ne 7, 3) := by decide +kernel
theorem dX9_address_17 : decode cX9_address 17 = .ok (.iconst 1, 1) := by decide +kernel
theorem dX9_address_18 : decode cX9_address 18 = .ok (.goto 4, 3) := by decide +kernel
theorem dX9_address_21 : decode cX9_address 21 = .ok (.iconst 0, 1) := by decide +kernel
theorem dX9_address_22 : decode cX9_address 22 = .ok (.putfield 89, 3) := by decide +kernel
theorem dX9_address_25 : decode cX9_address 25 = .ok (.aload_n 0, 1) := by decide +kernel
theorem dX9_address_26 : decode cX9_address 26 = .ok (.getfield 89, 3) := by decide +kernel
theorem dX9_address_29 : decode cX9_address 29 = .ok (.ifCond .le 7, 3) := by decide +kernel
theorem dX9_address_32 : decode cX9_address 32 = .ok (.iconst 0, 1) := by decide +kernel
theorem dX9_address_33 : decode cX9_address 33 = .ok (.goto 14, 3) := by decide +kernel
theorem dX9_address_36 : decode cX9_address 36 = .ok (.aload_n 0, 1) := by decide +kernel
theorem dX9_address_37 : decode cX9_address 37 = .ok (.getfield 77, 3) := by decide +kernel
theorem dX9_address_40 : decode cX9_address 40 = .ok (.bipush 20, 2) := by decide +kernel
theorem dX9_address_42 : decode cX9_address 42 = .ok (.iload_n 1, 1) := by decide +kernel
theorem dX9_address_43 : decode cX9_address 43 = .ok (.imul, 1) := by decide +kernel
theorem dX9_address_44 : decode cX9_address 44 = .ok (.iload_n 2, 1) := by decide +kernel
theorem dX9_address_45 : decode cX9_address 45 = .ok (.iadd, 1) := by decide +kernel
theorem dX9_address_46 : decode cX9_address 46 = .ok (.iaload, 1) := by decide +kernel
theorem dX9_address_47 : decode cX9_address 47 = .ok (.ireturn, 1) := by decide +kernel
theorem dX9_pages_0 : decode cX9_pages 0 = .ok (.aload_n 0, 1) := by decide +kernel
theorem dX9_pages_1 : decode cX9_pages 1 = .ok (.aload_n 0, 1) := by decide +kernel
theorem dX9_pages_2 : decode cX9_pages 2 = .ok (.iload_n 1, 1) := by decide +kernel
theorem dX9_pages_3 : decode cX9_pages 3 = .ok (.invokevirtual 168, 3) := by decide +kernel
theorem dX9_pages_6 : decode cX9_pages 6 = .ok (.ifCond .ne 7, 3) := by decide +kernel
theorem dX9_pages_9 : decode cX9_pages 9 = .ok (.iconst 1, 1) := by decide +kernel
theorem dX9_pages_10 : decode cX9_pages 10 = .ok (.goto 4, 3) := by decide +kernel
theorem dX9_pages_13 : decode cX9_pages 13 = .ok (.iconst 0, 1) := by decide +kernel
theorem dX9_pages_14 : decode cX9_pages 14 = .ok (.putfield 89, 3) := by decide +kernel
theorem dX9_pages_17 : decode cX9_pages 17 = .ok (.aload_n 0, 1) := by decide +kernel
theorem dX9_pages_18 : decode cX9_pages 18 = .ok (.getfield 89, 3) := by decide +kernel
theorem dX9_pages_21 : decode cX9_pages 21 = .ok (.ifCond .le 7, 3) := by decide +kernel
theorem dX9_pages_24 : decode cX9_pages 24 = .ok (.iconst 0, 1) := by decide +kernel
theorem dX9_pages_25 : decode cX9_pages 25 = .ok (.goto 9, 3) := by decide +kernel
theorem dX9_pages_28 : decode cX9_pages 28 = .ok (.aload_n 0, 1) := by decide +kernel
theorem dX9_pages_29 : decode cX9_pages 29 = .ok (.getfield 74, 3) := by decide +kernel
theorem dX9_pages_32 : decode cX9_pages 32 = .ok (.iload_n 1, 1) := by decide +kernel
theorem dX9_pages_33 : decode cX9_pages 33 = .ok (.iaload, 1) := by decide +kernel
theorem dX9_pages_34 : decode cX9_pages 34 = .ok (.ireturn, 1) := by decide +kernel
theorem dX9_row_0 : decode cX9_row 0 = .ok (.aload_n 0, 1) := by decide +kernel
theorem dX9_row_1 : decode cX9_row 1 = .ok (.aload_n 0, 1) := by decide +kernel
theorem dX9_row_2 : decode cX9_row 2 = .ok (.iload_n 1, 1) := by decide +kernel
theorem dX9_row_3 : decode cX9_row 3 = .ok (.invokevirtual 127, 3) := by decide +kernel
theorem dX9_row_6 : decode cX9_row 6 = .ok (.ifCond .ne 7, 3) := by decide +kernel
theorem dX9_row_9 : decode cX9_row 9 = .ok (.iconst 1, 1) := by decide +kernel
theorem dX9_row_10 : decode cX9_row 10 = .ok (.goto 4, 3) := by decide +kernel
theorem dX9_row_13 : decode cX9_row 13 = .ok (.iconst 0, 1) := by decide +kernel
theorem dX9_row_14 : decode cX9_row 14 = .ok (.putfield 89, 3) := by decide +kernel
theorem dX9_row_17 : decode cX9_row 17 = .ok (.aload_n 0, 1) := by decide +kernel
theorem dX9_row_18 : decode cX9_row 18 = .ok (.getfield 89, 3) := by decide +kernel
theorem dX9_row_21 : decode cX9_row 21 = .ok (.ifCond .le 5, 3) := by decide +kernel
theorem dX9_row_24 : decode cX9_row 24 = .ok (.iconst 0, 1) := by decide +kernel
theorem dX9_row_25 : decode cX9_row 25 = .ok (.ireturn, 1) := by decide +kernel
theorem dX9_row_26 : decode cX9_row 26 = .ok (.aload_n 0, 1) := by decide +kernel
theorem dX9_row_27 : decode cX9_row 27 = .ok (.getfield 49, 3) := by decide +kernel
theorem dX9_row_30 : decode cX9_row 30 = .ok (.aload_n 0, 1) := by decide +kernel
theorem dX9_row_31 : decode cX9_row 31 = .ok (.getfield 37, 3) := by decide +kernel
theorem dX9_row_34 : decode cX9_row 34 = .ok (.iload_n 1, 1) := by decide +kernel
theorem dX9_row_35 : decode cX9_row 35 = .ok (.iaload, 1) := by decide +kernel
theorem dX9_row_36 : decode cX9_row 36 = .ok (.baload, 1) := by decide +kernel
theorem dX9_row_37 : decode cX9_row 37 = .ok (.ifCond .ne 10, 3) := by decide +kernel
theorem dX9_row_40 : decode cX9_row 40 = .ok (.aload_n 0, 1) := by decide +kernel
theorem dX9_row_41 : decode cX9_row 41 = .ok (.getfield 161, 3) := by decide +kernel
theorem dX9_row_44 : decode cX9_row 44 = .ok (.ifCond .ne 5, 3) := by decide +kernel
theorem dX9_row_47 : decode cX9_row 47 = .ok (.iconst (-1), 1) := by decide +kernel
theorem dX9_row_48 : decode cX9_row 48 = .ok (.ireturn, 1) := by decide +kernel
theorem dX9_row_49 : decode cX9_row 49 = .ok (.aload_n 0, 1) := by decide +kernel
theorem dX9_row_50 : decode cX9_row 50 = .ok (.aload_n 0, 1) := by decide +kernel
theorem dX9_row_51 : decode cX9_row 51 = .ok (.getfield 71, 3) := by decide +kernel
theorem dX9_row_54 : decode cX9_row 54 = .ok (.aload_n 0, 1) := by decide +kernel
theorem dX9_row_55 : decode cX9_row 55 = .ok (.getfield 161, 3) := by decide +kernel
theorem dX9_row_58 : decode cX9_row 58 = .ok (.iconst 1, 1) := by decide +kernel
theorem dX9_row_59 : decode cX9_row 59 = .ok (.isub, 1) := by decide +kernel
theorem dX9_row_60 : decode cX9_row 60 = .ok (.iaload, 1) := by decide +kernel
theorem dX9_row_61 : decode cX9_row 61 = .ok (.invokevirtual 164, 3) := by decide +kernel
theorem dX9_row_64 : decode cX9_row 64 = .ok (.aload_n 0, 1) := by decide +kernel
theorem dX9_row_65 : decode cX9_row 65 = .ok (.getfield 83, 3) := by decide +kernel
theorem dX9_row_68 : decode cX9_row 68 = .ok (.iload_n 1, 1) := by decide +kernel
theorem dX9_row_69 : decode cX9_row 69 = .ok (.iaload, 1) := by decide +kernel
theorem dX9_row_70 : decode cX9_row 70 = .ok (.ireturn, 1) := by decide +kernel
theorem dX9_holds_0 : decode cX9_holds 0 = .ok (.aload_n 0, 1) := by decide +kernel
theorem dX9_holds_1 : decode cX9_holds 1 = .ok (.aload_n 0, 1) := by decide +kernel
theorem dX9_holds_2 : decode cX9_holds 2 = .ok (.iload_n 1, 1) := by decide +kernel
theorem dX9_holds_3 : decode cX9_holds 3 = .ok (.invokevirtual 168, 3) := by decide +kernel
theorem dX9_holds_6 : decode cX9_holds 6 = .ok (.ifCond .ne 7, 3) := by decide +kernel
theorem dX9_holds_9 : decode cX9_holds 9 = .ok (.iconst 1, 1) := by decide +kernel
theorem dX9_holds_10 : decode cX9_holds 10 = .ok (.goto 4, 3) := by decide +kernel
theorem dX9_holds_13 : decode cX9_holds 13 = .ok (.iconst 0, 1) := by decide +kernel
theorem dX9_holds_14 : decode cX9_holds 14 = .ok (.putfield 89, 3) := by decide +kernel
theorem dX9_holds_17 : decode cX9_holds 17 = .ok (.iconst 0, 1) := by decide +kernel
theorem dX9_holds_18 : decode cX9_holds 18 = .ok (.istore_n 2, 1) := by decide +kernel
theorem dX9_holds_19 : decode cX9_holds 19 = .ok (.iconst 0, 1) := by decide +kernel
theorem dX9_holds_20 : decode cX9_holds 20 = .ok (.istore_n 3, 1) := by decide +kernel
theorem dX9_holds_21 : decode cX9_holds 21 = .ok (.iload_n 3, 1) := by decide +kernel
theorem dX9_holds_22 : decode cX9_holds 22 = .ok (.bipush 20, 2) := by decide +kernel
theorem dX9_holds_24 : decode cX9_holds 24 = .ok (.if_icmp .ge 70, 3) := by decide +kernel
theorem dX9_holds_27 : decode cX9_holds 27 = .ok (.aload_n 0, 1) := by decide +kernel
theorem dX9_holds_28 : decode cX9_holds 28 = .ok (.getfield 89, 3) := by decide +kernel
theorem dX9_holds_31 : decode cX9_holds 31 = .ok (.ifCond .ne 63, 3) := by decide +kernel
theorem dX9_holds_34 : decode cX9_holds 34 = .ok (.aload_n 0, 1) := by decide +kernel
theorem dX9_holds_35 : decode cX9_holds 35 = .ok (.getfield 77, 3) := by decide +kernel
theorem dX9_holds_38 : decode cX9_holds 38 = .ok (.bipush 20, 2) := by decide +kernel
theorem dX9_holds_40 : decode cX9_holds 40 = .ok (.iload_n 1, 1) := by decide +kernel
theorem dX9_holds_41 : decode cX9_holds 41 = .ok (.imul, 1) := by decide +kernel
theorem dX9_holds_42 : decode cX9_holds 42 = .ok (.iload_n 3, 1) := by decide +kernel
theorem dX9_holds_43 : decode cX9_holds 43 = .ok (.iadd, 1) := by decide +kernel
theorem dX9_holds_44 : decode cX9_holds 44 = .ok (.iaload, 1) := by decide +kernel
theorem dX9_holds_45 : decode cX9_holds 45 = .ok (.istore 4, 2) := by decide +kernel
theorem dX9_holds_47 : decode cX9_holds 47 = .ok (.aload_n 0, 1) := by decide +kernel
theorem dX9_holds_48 : decode cX9_holds 48 = .ok (.getfield 77, 3) := by decide +kernel
theorem dX9_holds_51 : decode cX9_holds 51 = .ok (.iload_n 3, 1) := by decide +kernel
theorem dX9_holds_52 : decode cX9_holds 52 = .ok (.iaload, 1) := by decide +kernel
theorem dX9_holds_53 : decode cX9_holds 53 = .ok (.istore 5, 2) := by decide +kernel
theorem dX9_holds_55 : decode cX9_holds 55 = .ok (.iload_n 2, 1) := by decide +kernel
theorem dX9_holds_56 : decode cX9_holds 56 = .ok (.iload 4, 2) := by decide +kernel
theorem dX9_holds_58 : decode cX9_holds 58 = .ok (.iconst (-1), 1) := by decide +kernel
theorem dX9_holds_59 : decode cX9_holds 59 = .ok (.if_icmp .eq 26, 3) := by decide +kernel
theorem dX9_holds_62 : decode cX9_holds 62 = .ok (.iload 5, 2) := by decide +kernel
theorem dX9_holds_64 : decode cX9_holds 64 = .ok (.iconst (-1), 1) := by decide +kernel
theorem dX9_holds_65 : decode cX9_holds 65 = .ok (.if_icmp .eq 20, 3) := by decide +kernel
theorem dX9_holds_68 : decode cX9_holds 68 = .ok (.iload 4, 2) := by decide +kernel
theorem dX9_holds_70 : decode cX9_holds 70 = .ok (.bipush 100, 2) := by decide +kernel
theorem dX9_holds_72 : decode cX9_holds 72 = .ok (.idiv, 1) := by decide +kernel
theorem dX9_holds_73 : decode cX9_holds 73 = .ok (.iload 5, 2) := by decide +kernel
theorem dX9_holds_75 : decode cX9_holds 75 = .ok (.bipush 100, 2) := by decide +kernel
theorem dX9_holds_77 : decode cX9_holds 77 = .ok (.idiv, 1) := by decide +kernel
theorem dX9_holds_78 : decode cX9_holds 78 = .ok (.if_icmp .ne 7, 3) := by decide +kernel
theorem dX9_holds_81 : decode cX9_holds 81 = .ok (.iconst 1, 1) := by decide +kernel
theorem dX9_holds_82 : decode cX9_holds 82 = .ok (.goto 4, 3) := by decide +kernel
theorem dX9_holds_85 : decode cX9_holds 85 = .ok (.iconst 0, 1) := by decide +kernel
theorem dX9_holds_86 : decode cX9_holds 86 = .ok (.iadd, 1) := by decide +kernel
theorem dX9_holds_87 : decode cX9_holds 87 = .ok (.istore_n 2, 1) := by decide +kernel
theorem dX9_holds_88 : decode cX9_holds 88 = .ok (.iinc 3 1, 3) := by decide +kernel
theorem dX9_holds_91 : decode cX9_holds 91 = .ok (.goto (-70), 3) := by decide +kernel
theorem dX9_holds_94 : decode cX9_holds 94 = .ok (.iload_n 2, 1) := by decide +kernel
theorem dX9_holds_95 : decode cX9_holds 95 = .ok (.ireturn, 1) := by decide +kernel
theorem dX9_daily_0 : decode cX9_daily 0 = .ok (.aload_n 0, 1) := by decide +kernel
theorem dX9_daily_1 : decode cX9_daily 1 = .ok (.aload_n 0, 1) := by decide +kernel
theorem dX9_daily_2 : decode cX9_daily 2 = .ok (.iload_n 1, 1) := by decide +kernel
theorem dX9_daily_3 : decode cX9_daily 3 = .ok (.iconst 0, 1) := by decide +kernel
theorem dX9_daily_4 : decode cX9_daily 4 = .ok (.ldc 171, 2) := by decide +kernel
theorem dX9_daily_6 : decode cX9_daily 6 = .ok (.invokevirtual 96, 3) := by decide +kernel
theorem dX9_daily_9 : decode cX9_daily 9 = .ok (.ifCond .ne 7, 3) := by decide +kernel
theorem dX9_daily_12 : decode cX9_daily 12 = .ok (.iconst 1, 1) := by decide +kernel
theorem dX9_daily_13 : decode cX9_daily 13 = .ok (.goto 4, 3) := by decide +kernel
theorem dX9_daily_16 : decode cX9_daily 16 = .ok (.iconst 0, 1) := by decide +kernel
theorem dX9_daily_17 : decode cX9_daily 17 = .ok (.putfield 89, 3) := by decide +kernel
theorem dX9_daily_20 : decode cX9_daily 20 = .ok (.aload_n 0, 1) := by decide +kernel
theorem dX9_daily_21 : decode cX9_daily 21 = .ok (.getfield 89, 3) := by decide +kernel
theorem dX9_daily_24 : decode cX9_daily 24 = .ok (.ifCond .gt 10, 3) := by decide +kernel
theorem dX9_daily_27 : decode cX9_daily 27 = .ok (.aload_n 0, 1) := by decide +kernel
theorem dX9_daily_28 : decode cX9_daily 28 = .ok (.getfield 161, 3) := by decide +kernel
theorem dX9_daily_31 : decode cX9_daily 31 = .ok (.ifCond .ne 5, 3) := by decide +kernel
theorem dX9_daily_34 : decode cX9_daily 34 = .ok (.iconst 0, 1) := by decide +kernel
theorem dX9_daily_35 : decode cX9_daily 35 = .ok (.ireturn, 1) := by decide +kernel
theorem dX9_daily_36 : decode cX9_daily 36 = .ok (.aload_n 0, 1) := by decide +kernel
theorem dX9_daily_37 : decode cX9_daily 37 = .ok (.getfield 161, 3) := by decide +kernel
theorem dX9_daily_40 : decode cX9_daily 40 = .ok (.iconst 1, 1) := by decide +kernel
theorem dX9_daily_41 : decode cX9_daily 41 = .ok (.isub, 1) := by decide +kernel
theorem dX9_daily_42 : decode cX9_daily 42 = .ok (.istore_n 2, 1) := by decide +kernel
theorem dX9_daily_43 : decode cX9_daily 43 = .ok (.iload_n 1, 1) := by decide +kernel
theorem dX9_daily_44 : decode cX9_daily 44 = .ok (.aload_n 0, 1) := by decide +kernel
theorem dX9_daily_45 : decode cX9_daily 45 = .ok (.getfield 74, 3) := by decide +kernel
theorem dX9_daily_48 : decode cX9_daily 48 = .ok (.iload_n 2, 1) := by decide +kernel
theorem dX9_daily_49 : decode cX9_daily 49 = .ok (.iaload, 1) := by decide +kernel
theorem dX9_daily_50 : decode cX9_daily 50 = .ok (.irem, 1) := by decide +kernel
theorem dX9_daily_51 : decode cX9_daily 51 = .ok (.istore_n 3, 1) := by decide +kernel
theorem dX9_daily_52 : decode cX9_daily 52 = .ok (.iconst 0, 1) := by decide +kernel
theorem dX9_daily_53 : decode cX9_daily 53 = .ok (.istore 4, 2) := by decide +kernel
theorem dX9_daily_55 : decode cX9_daily 55 = .ok (.iconst 0, 1) := by decide +kernel
theorem dX9_daily_56 : decode cX9_daily 56 = .ok (.istore 5, 2) := by decide +kernel
theorem dX9_daily_58 : decode cX9_daily 58 = .ok (.iload 5, 2) := by decide +kernel
theorem dX9_daily_60 : decode cX9_daily 60 = .ok (.bipush 20, 2) := by decide +kernel
theorem dX9_daily_62 : decode cX9_daily 62 = .ok (.if_icmp .ge 52, 3) := by decide +kernel
theorem dX9_daily_65 : decode cX9_daily 65 = .ok (.aload_n 0, 1) := by decide +kernel
theorem dX9_daily_66 : decode cX9_daily 66 = .ok (.getfield 77, 3) := by decide +kernel
theorem dX9_daily_69 : decode cX9_daily 69 = .ok (.bipush 20, 2) := by decide +kernel
theorem dX9_daily_71 : decode cX9_daily 71 = .ok (.iload_n 2, 1) := by decide +kernel
theorem dX9_daily_72 : decode cX9_daily 72 = .ok (.imul, 1) := by decide +kernel
theorem dX9_daily_73 : decode cX9_daily 73 = .ok (.iload 5, 2) := by decide +kernel
theorem dX9_daily_75 : decode cX9_daily 75 = .ok (.iadd, 1) := by decide +kernel
theorem dX9_daily_76 : decode cX9_daily 76 = .ok (.iaload, 1) := by decide +kernel
theorem dX9_daily_77 : decode cX9_daily 77 = .ok (.istore 6, 2) := by decide +kernel
theorem dX9_daily_79 : decode cX9_daily 79 = .ok (.iload 6, 2) := by decide +kernel
theorem dX9_daily_81 : decode cX9_daily 81 = .ok (.iconst (-1), 1) := by decide +kernel
theorem dX9_daily_82 : decode cX9_daily 82 = .ok (.if_icmp .eq 22, 3) := by decide +kernel
theorem dX9_daily_85 : decode cX9_daily 85 = .ok (.iload 6, 2) := by decide +kernel
theorem dX9_daily_87 : decode cX9_daily 87 = .ok (.bipush 100, 2) := by decide +kernel
theorem dX9_daily_89 : decode cX9_daily 89 = .ok (.idiv, 1) := by decide +kernel
theorem dX9_daily_90 : decode cX9_daily 90 = .ok (.iload_n 3, 1) := by decide +kernel
theorem dX9_daily_91 : decode cX9_daily 91 = .ok (.if_icmp .ne 13, 3) := by decide +kernel
theorem dX9_daily_94 : decode cX9_daily 94 = .ok (.iload 4, 2) := by decide +kernel
theorem dX9_daily_96 : decode cX9_daily 96 = .ok (.iconst 1, 1) := by decide +kernel
theorem dX9_daily_97 : decode cX9_daily 97 = .ok (.iload 5, 2) := by decide +kernel
theorem dX9_daily_99 : decode cX9_daily 99 = .ok (.ishl, 1) := by decide +kernel
theorem dX9_daily_100 : decode cX9_daily 100 = .ok (.ior, 1) := by decide +kernel
theorem dX9_daily_101 : decode cX9_daily 101 = .ok (.goto 5, 3) := by decide +kernel
theorem dX9_daily_104 : decode cX9_daily 104 = .ok (.iload 4, 2) := by decide +kernel
theorem dX9_daily_106 : decode cX9_daily 106 = .ok (.istore 4, 2) := by decide +kernel
theorem dX9_daily_108 : decode cX9_daily 108 = .ok (.iinc 5 1, 3) := by decide +kernel
theorem dX9_daily_111 : decode cX9_daily 111 = .ok (.goto (-53), 3) := by decide +kernel
theorem dX9_daily_114 : decode cX9_daily 114 = .ok (.iload 4, 2) := by decide +kernel
theorem dX9_daily_116 : decode cX9_daily 116 = .ok (.ireturn, 1) := by decide +kernel
end
section
theorem dL_word_0 : decode cL_word 0 = .ok (.aload_n 2, 1) := by decide +kernel
theorem dL_word_1 : decode cL_word 1 = .ok (.iconst 0, 1) := by decide +kernel
theorem dL_word_2 : decode cL_word 2 = .ok (.aload_n 0, 1) := by decide +kernel
theorem dL_word_3 : decode cL_word 3 = .ok (.iload_n 1, 1) := by decide +kernel
theorem dL_word_4 : decode cL_word 4 = .ok (.invokevirtual 7, 3) := by decide +kernel
theorem dL_word_7 : decode cL_word 7 = .ok (.i2l, 1) := by decide +kernel
theorem dL_word_8 : decode cL_word 8 = .ok (.lastore, 1) := by decide +kernel
theorem dL_word_9 : decode cL_word 9 = .ok (.goto 9, 3) := by decide +kernel
theorem dL_word_12 : decode cL_word 12 = .ok (.astore_n 3, 1) := by decide +kernel
theorem dL_word_13 : decode cL_word 13 = .ok (.iconst 1, 1) := by decide +kernel
theorem dL_word_14 : decode cL_word 14 = .ok (.ireturn, 1) := by decide +kernel
theorem dL_word_15 : decode cL_word 15 = .ok (.astore_n 3, 1) := by decide +kernel
theorem dL_word_16 : decode cL_word 16 = .ok (.iconst 2, 1) := by decide +kernel
theorem dL_word_17 : decode cL_word 17 = .ok (.ireturn, 1) := by decide +kernel
theorem dL_word_18 : decode cL_word 18 = .ok (.iconst 0, 1) := by decide +kernel
theorem dL_word_19 : decode cL_word 19 = .ok (.ireturn, 1) := by decide +kernel
theorem dL_unit_0 : decode cL_unit 0 = .ok (.aload_n 1, 1) := by decide +kernel
theorem dL_unit_1 : decode cL_unit 1 = .ok (.iconst 0, 1) := by decide +kernel
theorem dL_unit_2 : decode cL_unit 2 = .ok (.aload_n 0, 1) := by decide +kernel
theorem dL_unit_3 : decode cL_unit 3 = .ok (.invokevirtual 17, 3) := by decide +kernel
theorem dL_unit_6 : decode cL_unit 6 = .ok (.i2l, 1) := by decide +kernel
theorem dL_unit_7 : decode cL_unit 7 = .ok (.lastore, 1) := by decide +kernel
theorem dL_unit_8 : decode cL_unit 8 = .ok (.goto 6, 3) := by decide +kernel
theorem dL_unit_11 : decode cL_unit 11 = .ok (.astore_n 2, 1) := by decide +kernel
theorem dL_unit_12 : decode cL_unit 12 = .ok (.iconst 1, 1) := by decide +kernel
theorem dL_unit_13 : decode cL_unit 13 = .ok (.ireturn, 1) := by decide +kernel
theorem dL_unit_14 : decode cL_unit 14 = .ok (.iconst 0, 1) := by decide +kernel
theorem dL_unit_15 : decode cL_unit 15 = .ok (.ireturn, 1) := by decide +kernel
theorem dL_emend_0 : decode cL_emend 0 = .ok (.aload 4, 2) := by decide +kernel
theorem dL_emend_2 : decode cL_emend 2 = .ok (.iconst 0, 1) := by decide +kernel
theorem dL_emend_3 : decode cL_emend 3 = .ok (.aload_n 0, 1) := by decide +kernel
theorem dL_emend_4 : decode cL_emend 4 = .ok (.iload_n 1, 1) := by decide +kernel
theorem dL_emend_5 : decode cL_emend 5 = .ok (.iload_n 2, 1) := by decide +kernel
theorem dL_emend_6 : decode cL_emend 6 = .ok (.iload_n 3, 1) := by decide +kernel
theorem dL_emend_7 : decode cL_emend 7 = .ok (.invokevirtual 21, 3) := by decide +kernel
theorem dL_emend_10 : decode cL_emend 10 = .ok (.i2l, 1) := by decide +kernel
theorem dL_emend_11 : decode cL_emend 11 = .ok (.lastore, 1) := by decide +kernel
theorem dL_emend_12 : decode cL_emend 12 = .ok (.goto 15, 3) := by decide +kernel
theorem dL_emend_15 : decode cL_emend 15 = .ok (.astore 5, 2) := by decide +kernel
theorem dL_emend_17 : decode cL_emend 17 = .ok (.iconst 1, 1) := by decide +kernel
theorem dL_emend_18 : decode cL_emend 18 = .ok (.ireturn, 1) := by decide +kernel
theorem dL_emend_19 : decode cL_emend 19 = .ok (.astore 5, 2) := by decide +kernel
theorem dL_emend_21 : decode cL_emend 21 = .ok (.iconst 2, 1) := by decide +kernel
theorem dL_emend_22 : decode cL_emend 22 = .ok (.ireturn, 1) := by decide +kernel
theorem dL_emend_23 : decode cL_emend 23 = .ok (.astore 5, 2) := by decide +kernel
theorem dL_emend_25 : decode cL_emend 25 = .ok (.iconst 3, 1) := by decide +kernel
theorem dL_emend_26 : decode cL_emend 26 = .ok (.ireturn, 1) := by decide +kernel
theorem dL_emend_27 : decode cL_emend 27 = .ok (.iconst 0, 1) := by decide +kernel
theorem dL_emend_28 : decode cL_emend 28 = .ok (.ireturn, 1) := by decide +kernel
theorem dL_textOf_0 : decode cL_textOf 0 = .ok (.aload_n 3, 1) := by decide +kernel
theorem dL_textOf_1 : decode cL_textOf 1 = .ok (.iconst 0, 1) := by decide +kernel
theorem dL_textOf_2 : decode cL_textOf 2 = .ok (.aload_n 0, 1) := by decide +kernel
theorem dL_textOf_3 : decode cL_textOf 3 = .ok (.iload_n 1, 1) := by decide +kernel
theorem dL_textOf_4 : decode cL_textOf 4 = .ok (.iload_n 2, 1) := by decide +kernel
theorem dL_textOf_5 : decode cL_textOf 5 = .ok (.invokevirtual 27, 3) := by decide +kernel
theorem dL_textOf_8 : decode cL_textOf 8 = .ok (.i2l, 1) := by decide +kernel
theorem dL_textOf_9 : decode cL_textOf 9 = .ok (.lastore, 1) := by decide +kernel
theorem dL_textOf_10 : decode cL_textOf 10 = .ok (.goto 7, 3) := by decide +kernel
theorem dL_textOf_13 : decode cL_textOf 13 = .ok (.astore 4, 2) := by decide +kernel
theorem dL_textOf_15 : decode cL_textOf 15 = .ok (.iconst 1, 1) := by decide +kernel
theorem dL_textOf_16 : decode cL_textOf 16 = .ok (.ireturn, 1) := by decide +kernel
theorem dL_textOf_17 : decode cL_textOf 17 = .ok (.iconst 0, 1) := by decide +kernel
theorem dL_textOf_18 : decode cL_textOf 18 = .ok (.ireturn, 1) := by decide +kernel
theorem dL_author_0 : decode cL_author 0 = .ok (.aload 4, 2) := by decide +kernel
theorem dL_author_2 : decode cL_author 2 = .ok (.iconst 0, 1) := by decide +kernel
theorem dL_author_3 : decode cL_author 3 = .ok (.aload_n 0, 1) := by decide +kernel
theorem dL_author_4 : decode cL_author 4 = .ok (.iload_n 1, 1) := by decide +kernel
theorem dL_author_5 : decode cL_author 5 = .ok (.iload_n 2, 1) := by decide +kernel
theorem dL_author_6 : decode cL_author 6 = .ok (.iload_n 3, 1) := by decide +kernel
theorem dL_author_7 : decode cL_author 7 = .ok (.invokevirtual 31, 3) := by decide +kernel
theorem dL_author_10 : decode cL_author 10 = .ok (.i2l, 1) := by decide +kernel
theorem dL_author_11 : decode cL_author 11 = .ok (.lastore, 1) := by decide +kernel
theorem dL_author_12 : decode cL_author 12 = .ok (.goto 11, 3) := by decide +kernel
theorem dL_author_15 : decode cL_author 15 = .ok (.astore 5, 2) := by decide +kernel
theorem dL_author_17 : decode cL_author 17 = .ok (.iconst 1, 1) := by decide +kernel
theorem dL_author_18 : decode cL_author 18 = .ok (.ireturn, 1) := by decide +kernel
theorem dL_author_19 : decode cL_author 19 = .ok (.astore 5, 2) := by decide +kernel
theorem dL_author_21 : decode cL_author 21 = .ok (.iconst 2, 1) := by decide +kernel
theorem dL_author_22 : decode cL_author 22 = .ok (.ireturn, 1) := by decide +kernel
theorem dL_author_23 : decode cL_author 23 = .ok (.iconst 0, 1) := by decide +kernel
theorem dL_author_24 : decode cL_author 24 = .ok (.ireturn, 1) := by decide +kernel
theorem dL_meant_0 : decode cL_meant 0 = .ok (.aload_n 3, 1) := by decide +kernel
theorem dL_meant_1 : decode cL_meant 1 = .ok (.iconst 0, 1) := by decide +kernel
theorem dL_meant_2 : decode cL_meant 2 = .ok (.aload_n 0, 1) := by decide +kernel
theorem dL_meant_3 : decode cL_meant 3 = .ok (.iload_n 1, 1) := by decide +kernel
theorem dL_meant_4 : decode cL_meant 4 = .ok (.iload_n 2, 1) := by decide +kernel
theorem dL_meant_5 : decode cL_meant 5 = .ok (.invokevirtual 34, 3) := by decide +kernel
theorem dL_meant_8 : decode cL_meant 8 = .ok (.i2l, 1) := by decide +kernel
theorem dL_meant_9 : decode cL_meant 9 = .ok (.lastore, 1) := by decide +kernel
theorem dL_meant_10 : decode cL_meant 10 = .ok (.goto 7, 3) := by decide +kernel
theorem dL_meant_13 : decode cL_meant 13 = .ok (.astore 4, 2) := by decide +kernel
theorem dL_meant_15 : decode cL_meant 15 = .ok (.iconst 1, 1) := by decide +kernel
theorem dL_meant_16 : decode cL_meant 16 = .ok (.ireturn, 1) := by decide +kernel
theorem dL_meant_17 : decode cL_meant 17 = .ok (.iconst 0, 1) := by decide +kernel
theorem dL_meant_18 : decode cL_meant 18 = .ok (.ireturn, 1) := by decide +kernel
theorem dL_comment_0 : decode cL_comment 0 = .ok (.aload 8, 2) := by decide +kernel
theorem dL_comment_2 : decode cL_comment 2 = .ok (.iconst 0, 1) := by decide +kernel
theorem dL_comment_3 : decode cL_comment 3 = .ok (.aload_n 0, 1) := by decide +kernel
theorem dL_comment_4 : decode cL_comment 4 = .ok (.iload_n 1, 1) := by decide +kernel
theorem dL_comment_5 : decode cL_comment 5 = .ok (.iload_n 2, 1) := by decide +kernel
theorem dL_comment_6 : decode cL_comment 6 = .ok (.iload_n 3, 1) := by decide +kernel
theorem dL_comment_7 : decode cL_comment 7 = .ok (.iload 4, 2) := by decide +kernel
theorem dL_comment_9 : decode cL_comment 9 = .ok (.iload 5, 2) := by decide +kernel
theorem dL_comment_11 : decode cL_comment 11 = .ok (.iload 6, 2) := by decide +kernel
theorem dL_comment_13 : decode cL_comment 13 = .ok (.iload 7, 2) := by decide +kernel
theorem dL_comment_15 : decode cL_comment 15 = .ok (.invokevirtual 37, 3) := by decide +kernel
theorem dL_comment_18 : decode cL_comment 18 = .ok (.i2l, 1) := by decide +kernel
theorem dL_comment_19 : decode cL_comment 19 = .ok (.lastore, 1) := by decide +kernel
theorem dL_comment_20 : decode cL_comment 20 = .ok (.goto 15, 3) := by decide +kernel
theorem dL_comment_23 : decode cL_comment 23 = .ok (.astore 9, 2) := by decide +kernel
theorem dL_comment_25 : decode cL_comment 25 = .ok (.iconst 1, 1) := by decide +kernel
theorem dL_comment_26 : decode cL_comment 26 = .ok (.ireturn, 1) := by decide +kernel
theorem dL_comment_27 : decode cL_comment 27 = .ok (.astore 9, 2) := by decide +kernel
theorem dL_comment_29 : decode cL_comment 29 = .ok (.iconst 2, 1) := by decide +kernel
theorem dL_comment_30 : decode cL_comment 30 = .ok (.ireturn, 1) := by decide +kernel
theorem dL_comment_31 : decode cL_comment 31 = .ok (.astore 9, 2) := by decide +kernel
theorem dL_comment_33 : decode cL_comment 33 = .ok (.iconst 3, 1) := by decide +kernel
theorem dL_comment_34 : decode cL_comment 34 = .ok (.ireturn, 1) := by decide +kernel
theorem dL_comment_35 : decode cL_comment 35 = .ok (.iconst 0, 1) := by decide +kernel
theorem dL_comment_36 : decode cL_comment 36 = .ok (.ireturn, 1) := by decide +kernel
theorem dL_gloss_0 : decode cL_gloss 0 = .ok (.aload 6, 2) := by decide +kernel
theorem dL_gloss_2 : decode cL_gloss 2 = .ok (.iconst 0, 1) := by decide +kernel
theorem dL_gloss_3 : decode cL_gloss 3 = .ok (.aload_n 0, 1) := by decide +kernel
theorem dL_gloss_4 : decode cL_gloss 4 = .ok (.iload_n 1, 1) := by decide +kernel
theorem dL_gloss_5 : decode cL_gloss 5 = .ok (.iload_n 2, 1) := by decide +kernel
theorem dL_gloss_6 : decode cL_gloss 6 = .ok (.iload_n 3, 1) := by decide +kernel
theorem dL_gloss_7 : decode cL_gloss 7 = .ok (.iload 4, 2) := by decide +kernel
theorem dL_gloss_9 : decode cL_gloss 9 = .ok (.iload 5, 2) := by decide +kernel
theorem dL_gloss_11 : decode cL_gloss 11 = .ok (.invokevirtual 41, 3) := by decide +kernel
theorem dL_gloss_14 : decode cL_gloss 14 = .ok (.i2l, 1) := by decide +kernel
theorem dL_gloss_15 : decode cL_gloss 15 = .ok (.lastore, 1) := by decide +kernel
theorem dL_gloss_16 : decode cL_gloss 16 = .ok (.goto 15, 3) := by decide +kernel
theorem dL_gloss_19 : decode cL_gloss 19 = .ok (.astore 7, 2) := by decide +kernel
theorem dL_gloss_21 : decode cL_gloss 21 = .ok (.iconst 1, 1) := by decide +kernel
theorem dL_gloss_22 : decode cL_gloss 22 = .ok (.ireturn, 1) := by decide +kernel
theorem dL_gloss_23 : decode cL_gloss 23 = .ok (.astore 7, 2) := by decide +kernel
theorem dL_gloss_25 : decode cL_gloss 25 = .ok (.iconst 2, 1) := by decide +kernel
theorem dL_gloss_26 : decode cL_gloss 26 = .ok (.ireturn, 1) := by decide +kernel
theorem dL_gloss_27 : decode cL_gloss 27 = .ok (.astore 7, 2) := by decide +kernel
theorem dL_gloss_29 : decode cL_gloss 29 = .ok (.iconst 3, 1) := by decide +kernel
theorem dL_gloss_30 : decode cL_gloss 30 = .ok (.ireturn, 1) := by decide +kernel
theorem dL_gloss_31 : decode cL_gloss 31 = .ok (.iconst 0, 1) := by decide +kernel
theorem dL_gloss_32 : decode cL_gloss 32 = .ok (.ireturn, 1) := by decide +kernel
theorem dL_told_0 : decode cL_told 0 = .ok (.aload_n 3, 1) := by decide +kernel
theorem dL_told_1 : decode cL_told 1 = .ok (.iconst 0, 1) := by decide +kernel
theorem dL_told_2 : decode cL_told 2 = .ok (.aload_n 0, 1) := by decide +kernel
theorem dL_told_3 : decode cL_told 3 = .ok (.iload_n 1, 1) := by decide +kernel
theorem dL_told_4 : decode cL_told 4 = .ok (.iload_n 2, 1) := by decide +kernel
theorem dL_told_5 : decode cL_told 5 = .ok (.invokevirtual 45, 3) := by decide +kernel
theorem dL_told_8 : decode cL_told 8 = .ok (.i2l, 1) := by decide +kernel
theorem dL_told_9 : decode cL_told 9 = .ok (.lastore, 1) := by decide +kernel
theorem dL_told_10 : decode cL_told 10 = .ok (.goto 11, 3) := by decide +kernel
theorem dL_told_13 : decode cL_told 13 = .ok (.astore 4, 2) := by decide +kernel
theorem dL_told_15 : decode cL_told 15 = .ok (.iconst 1, 1) := by decide +kernel
theorem dL_told_16 : decode cL_told 16 = .ok (.ireturn, 1) := by decide +kernel
theorem dL_told_17 : decode cL_told 17 = .ok (.astore 4, 2) := by decide +kernel
theorem dL_told_19 : decode cL_told 19 = .ok (.iconst 2, 1) := by decide +kernel
theorem dL_told_20 : decode cL_told 20 = .ok (.ireturn, 1) := by decide +kernel
theorem dL_told_21 : decode cL_told 21 = .ok (.iconst 0, 1) := by decide +kernel
theorem dL_told_22 : decode cL_told 22 = .ok (.ireturn, 1) := by decide +kernel
theorem dL_standsAnew_0 : decode cL_standsAnew 0 = .ok (.aload_n 2, 1) := by decide +kernel
theorem dL_standsAnew_1 : decode cL_standsAnew 1 = .ok (.iconst 0, 1) := by decide +kernel
theorem dL_standsAnew_2 : decode cL_standsAnew 2 = .ok (.aload_n 0, 1) := by decide +kernel
theorem dL_standsAnew_3 : decode cL_standsAnew 3 = .ok (.iload_n 1, 1) := by decide +kernel
theorem dL_standsAnew_4 : decode cL_standsAnew 4 = .ok (.invokevirtual 48, 3) := by decide +kernel
theorem dL_standsAnew_7 : decode cL_standsAnew 7 = .ok (.ifCond .eq 7, 3) := by decide +kernel
theorem dL_standsAnew_10 : decode cL_standsAnew 10 = .ok (.lconst 1, 1) := by decide +kernel
theorem dL_standsAnew_11 : decode cL_standsAnew 11 = .ok (.goto 4, 3) := by decide +kernel
theorem dL_standsAnew_14 : decode cL_standsAnew 14 = .ok (.lconst 0, 1) := by decide +kernel
theorem dL_standsAnew_15 : decode cL_standsAnew 15 = .ok (.lastore, 1) := by decide +kernel
theorem dL_standsAnew_16 : decode cL_standsAnew 16 = .ok (.goto 6, 3) := by decide +kernel
theorem dL_standsAnew_19 : decode cL_standsAnew 19 = .ok (.astore_n 3, 1) := by decide +kernel
theorem dL_standsAnew_20 : decode cL_standsAnew 20 = .ok (.iconst 1, 1) := by decide +kernel
theorem dL_standsAnew_21 : decode cL_standsAnew 21 = .ok (.ireturn, 1) := by decide +kernel
theorem dL_standsAnew_22 : decode cL_standsAnew 22 = .ok (.iconst 0, 1) := by decide +kernel
theorem dL_standsAnew_23 : decode cL_standsAnew 23 = .ok (.ireturn, 1) := by decide +kernel
theorem dL_isHard_0 : decode cL_isHard 0 = .ok (.aload_n 2, 1) := by decide +kernel
theorem dL_isHard_1 : decode cL_isHard 1 = .ok (.iconst 0, 1) := by decide +kernel
theorem dL_isHard_2 : decode cL_isHard 2 = .ok (.aload_n 0, 1) := by decide +kernel
theorem dL_isHard_3 : decode cL_isHard 3 = .ok (.iload_n 1, 1) := by decide +kernel
theorem dL_isHard_4 : decode cL_isHard 4 = .ok (.invokevirtual 52, 3) := by decide +kernel
theorem dL_isHard_7 : decode cL_isHard 7 = .ok (.ifCond .eq 7, 3) := by decide +kernel
theorem dL_isHard_10 : decode cL_isHard 10 = .ok (.lconst 1, 1) := by decide +kernel
theorem dL_isHard_11 : decode cL_isHard 11 = .ok (.goto 4, 3) := by decide +kernel
theorem dL_isHard_14 : decode cL_isHard 14 = .ok (.lconst 0, 1) := by decide +kernel
theorem dL_isHard_15 : decode cL_isHard 15 = .ok (.lastore, 1) := by decide +kernel
theorem dL_isHard_16 : decode cL_isHard 16 = .ok (.goto 6, 3) := by decide +kernel
theorem dL_isHard_19 : decode cL_isHard 19 = .ok (.astore_n 3, 1) := by decide +kernel
theorem dL_isHard_20 : decode cL_isHard 20 = .ok (.iconst 1, 1) := by decide +kernel
theorem dL_isHard_21 : decode cL_isHard 21 = .ok (.ireturn, 1) := by decide +kernel
theorem dL_isHard_22 : decode cL_isHard 22 = .ok (.iconst 0, 1) := by decide +kernel
theorem dL_isHard_23 : decode cL_isHard 23 = .ok (.ireturn, 1) := by decide +kernel
theorem dL_solved_0 : decode cL_solved 0 = .ok (.aload_n 2, 1) := by decide +kernel
theorem dL_solved_1 : decode cL_solved 1 = .ok (.iconst 0, 1) := by decide +kernel
theorem dL_solved_2 : decode cL_solved 2 = .ok (.aload_n 0, 1) := by decide +kernel
theorem dL_solved_3 : decode cL_solved 3 = .ok (.iload_n 1, 1) := by decide +kernel
theorem dL_solved_4 : decode cL_solved 4 = .ok (.invokevirtual 55, 3) := by decide +kernel
theorem dL_solved_7 : decode cL_solved 7 = .ok (.i2l, 1) := by decide +kernel
theorem dL_solved_8 : decode cL_solved 8 = .ok (.lastore, 1) := by decide +kernel
theorem dL_solved_9 : decode cL_solved 9 = .ok (.goto 6, 3) := by decide +kernel
theorem dL_solved_12 : decode cL_solved 12 = .ok (.astore_n 3, 1) := by decide +kernel
theorem dL_solved_13 : decode cL_solved 13 = .ok (.iconst 1, 1) := by decide +kernel
theorem dL_solved_14 : decode cL_solved 14 = .ok (.ireturn, 1) := by decide +kernel
theorem dL_solved_15 : decode cL_solved 15 = .ok (.iconst 0, 1) := by decide +kernel
theorem dL_solved_16 : decode cL_solved 16 = .ok (.ireturn, 1) := by decide +kernel
theorem dL_ruling_0 : decode cL_ruling 0 = .ok (.aload 4, 2) := by decide +kernel
theorem dL_ruling_2 : decode cL_ruling 2 = .ok (.iconst 0, 1) := by decide +kernel
theorem dL_ruling_3 : decode cL_ruling 3 = .ok (.aload_n 0, 1) := by decide +kernel
theorem dL_ruling_4 : decode cL_ruling 4 = .ok (.iload_n 1, 1) := by decide +kernel
theorem dL_ruling_5 : decode cL_ruling 5 = .ok (.iload_n 2, 1) := by decide +kernel
theorem dL_ruling_6 : decode cL_ruling 6 = .ok (.iload_n 3, 1) := by decide +kernel
theorem dL_ruling_7 : decode cL_ruling 7 = .ok (.invokevirtual 58, 3) := by decide +kernel
theorem dL_ruling_10 : decode cL_ruling 10 = .ok (.i2l, 1) := by decide +kernel
theorem dL_ruling_11 : decode cL_ruling 11 = .ok (.lastore, 1) := by decide +kernel
theorem dL_ruling_12 : decode cL_ruling 12 = .ok (.goto 11, 3) := by decide +kernel
theorem dL_ruling_15 : decode cL_ruling 15 = .ok (.astore 5, 2) := by decide +kernel
theorem dL_ruling_17 : decode cL_ruling 17 = .ok (.iconst 1, 1) := by decide +kernel
theorem dL_ruling_18 : decode cL_ruling 18 = .ok (.ireturn, 1) := by decide +kernel
theorem dL_ruling_19 : decode cL_ruling 19 = .ok (.astore 5, 2) := by decide +kernel
theorem dL_ruling_21 : decode cL_ruling 21 = .ok (.iconst 2, 1) := by decide +kernel
theorem dL_ruling_22 : decode cL_ruling 22 = .ok (.ireturn, 1) := by decide +kernel
theorem dL_ruling_23 : decode cL_ruling 23 = .ok (.iconst 0, 1) := by decide +kernel
theorem dL_ruling_24 : decode cL_ruling 24 = .ok (.ireturn, 1) := by decide +kernel
theorem dL_follow_0 : decode cL_follow 0 = .ok (.aload_n 3, 1) := by decide +kernel
theorem dL_follow_1 : decode cL_follow 1 = .ok (.iconst 0, 1) := by decide +kernel
theorem dL_follow_2 : decode cL_follow 2 = .ok (.aload_n 0, 1) := by decide +kernel
theorem dL_follow_3 : decode cL_follow 3 = .ok (.iload_n 1, 1) := by decide +kernel
theorem dL_follow_4 : decode cL_follow 4 = .ok (.iload_n 2, 1) := by decide +kernel
theorem dL_follow_5 : decode cL_follow 5 = .ok (.invokevirtual 62, 3) := by decide +kernel
theorem dL_follow_8 : decode cL_follow 8 = .ok (.i2l, 1) := by decide +kernel
theorem dL_follow_9 : decode cL_follow 9 = .ok (.lastore, 1) := by decide +kernel
theorem dL_follow_10 : decode cL_follow 10 = .ok (.goto 11, 3) := by decide +kernel
theorem dL_follow_13 : decode cL_follow 13 = .ok (.astore 4, 2) := by decide +kernel
theorem dL_follow_15 : decode cL_follow 15 = .ok (.iconst 1, 1) := by decide +kernel
theorem dL_follow_16 : decode cL_follow 16 = .ok (.ireturn, 1) := by decide +kernel
theorem dL_follow_17 : decode cL_follow 17 = .ok (.astore 4, 2) := by decide +kernel
theorem dL_follow_19 : decode cL_follow 19 = .ok (.iconst 2, 1) := by decide +kernel
theorem dL_follow_20 : decode cL_follow 20 = .ok (.ireturn, 1) := by decide +kernel
theorem dL_follow_21 : decode cL_follow 21 = .ok (.iconst 0, 1) := by decide +kernel
theorem dL_follow_22 : decode cL_follow 22 = .ok (.ireturn, 1) := by decide +kernel
theorem dL_unfollow_0 : decode cL_unfollow 0 = .ok (.aload_n 2, 1) := by decide +kernel
theorem dL_unfollow_1 : decode cL_unfollow 1 = .ok (.iconst 0, 1) := by decide +kernel
theorem dL_unfollow_2 : decode cL_unfollow 2 = .ok (.aload_n 0, 1) := by decide +kernel
theorem dL_unfollow_3 : decode cL_unfollow 3 = .ok (.iload_n 1, 1) := by decide +kernel
theorem dL_unfollow_4 : decode cL_unfollow 4 = .ok (.invokevirtual 65, 3) := by decide +kernel
theorem dL_unfollow_7 : decode cL_unfollow 7 = .ok (.i2l, 1) := by decide +kernel
theorem dL_unfollow_8 : decode cL_unfollow 8 = .ok (.lastore, 1) := by decide +kernel
theorem dL_unfollow_9 : decode cL_unfollow 9 = .ok (.goto 6, 3) := by decide +kernel
theorem dL_unfollow_12 : decode cL_unfollow 12 = .ok (.astore_n 3, 1) := by decide +kernel
theorem dL_unfollow_13 : decode cL_unfollow 13 = .ok (.iconst 1, 1) := by decide +kernel
theorem dL_unfollow_14 : decode cL_unfollow 14 = .ok (.ireturn, 1) := by decide +kernel
theorem dL_unfollow_15 : decode cL_unfollow 15 = .ok (.iconst 0, 1) := by decide +kernel
theorem dL_unfollow_16 : decode cL_unfollow 16 = .ok (.ireturn, 1) := by decide +kernel
theorem dL_decided_0 : decode cL_decided 0 = .ok (.aload_n 2, 1) := by decide +kernel
theorem dL_decided_1 : decode cL_decided 1 = .ok (.iconst 0, 1) := by decide +kernel
theorem dL_decided_2 : decode cL_decided 2 = .ok (.aload_n 0, 1) := by decide +kernel
theorem dL_decided_3 : decode cL_decided 3 = .ok (.iload_n 1, 1) := by decide +kernel
theorem dL_decided_4 : decode cL_decided 4 = .ok (.invokevirtual 68, 3) := by decide +kernel
theorem dL_decided_7 : decode cL_decided 7 = .ok (.i2l, 1) := by decide +kernel
theorem dL_decided_8 : decode cL_decided 8 = .ok (.lastore, 1) := by decide +kernel
theorem dL_decided_9 : decode cL_decided 9 = .ok (.goto 6, 3) := by decide +kernel
theorem dL_decided_12 : decode cL_decided 12 = .ok (.astore_n 3, 1) := by decide +kernel
theorem dL_decided_13 : decode cL_decided 13 = .ok (.iconst 1, 1) := by decide +kernel
theorem dL_decided_14 : decode cL_decided 14 = .ok (.ireturn, 1) := by decide +kernel
theorem dL_decided_15 : decode cL_decided 15 = .ok (.iconst 0, 1) := by decide +kernel
theorem dL_decided_16 : decode cL_decided 16 = .ok (.ireturn, 1) := by decide +kernel
theorem dL_edition_0 : decode cL_edition 0 = .ok (.aload_n 3, 1) := by decide +kernel
theorem dL_edition_1 : decode cL_edition 1 = .ok (.iconst 0, 1) := by decide +kernel
theorem dL_edition_2 : decode cL_edition 2 = .ok (.aload_n 0, 1) := by decide +kernel
theorem dL_edition_3 : decode cL_edition 3 = .ok (.iload_n 1, 1) := by decide +kernel
theorem dL_edition_4 : decode cL_edition 4 = .ok (.iload_n 2, 1) := by decide +kernel
theorem dL_edition_5 : decode cL_edition 5 = .ok (.invokevirtual 71, 3) := by decide +kernel
theorem dL_edition_8 : decode cL_edition 8 = .ok (.i2l, 1) := by decide +kernel
theorem dL_edition_9 : decode cL_edition 9 = .ok (.lastore, 1) := by decide +kernel
theorem dL_edition_10 : decode cL_edition 10 = .ok (.goto 11, 3) := by decide +kernel
theorem dL_edition_13 : decode cL_edition 13 = .ok (.astore 4, 2) := by decide +kernel
theorem dL_edition_15 : decode cL_edition 15 = .ok (.iconst 1, 1) := by decide +kernel
theorem dL_edition_16 : decode cL_edition 16 = .ok (.ireturn, 1) := by decide +kernel
theorem dL_edition_17 : decode cL_edition 17 = .ok (.astore 4, 2) := by decide +kernel
theorem dL_edition_19 : decode cL_edition 19 = .ok (.iconst 2, 1) := by decide +kernel
theorem dL_edition_20 : decode cL_edition 20 = .ok (.ireturn, 1) := by decide +kernel
theorem dL_edition_21 : decode cL_edition 21 = .ok (.iconst 0, 1) := by decide +kernel
theorem dL_edition_22 : decode cL_edition 22 = .ok (.ireturn, 1) := by decide +kernel
theorem dL_address_0 : decode cL_address 0 = .ok (.aload_n 3, 1) := by decide +kernel
theorem dL_address_1 : decode cL_address 1 = .ok (.iconst 0, 1) := by decide +kernel
theorem dL_address_2 : decode cL_address 2 = .ok (.aload_n 0, 1) := by decide +kernel
theorem dL_address_3 : decode cL_address 3 = .ok (.iload_n 1, 1) := by decide +kernel
theorem dL_address_4 : decode cL_address 4 = .ok (.iload_n 2, 1) := by decide +kernel
theorem dL_address_5 : decode cL_address 5 = .ok (.invokevirtual 74, 3) := by decide +kernel
theorem dL_address_8 : decode cL_address 8 = .ok (.i2l, 1) := by decide +kernel
theorem dL_address_9 : decode cL_address 9 = .ok (.lastore, 1) := by decide +kernel
theorem dL_address_10 : decode cL_address 10 = .ok (.goto 7, 3) := by decide +kernel
theorem dL_address_13 : decode cL_address 13 = .ok (.astore 4, 2) := by decide +kernel
theorem dL_address_15 : decode cL_address 15 = .ok (.iconst 1, 1) := by decide +kernel
theorem dL_address_16 : decode cL_address 16 = .ok (.ireturn, 1) := by decide +kernel
theorem dL_address_17 : decode cL_address 17 = .ok (.iconst 0, 1) := by decide +kernel
theorem dL_address_18 : decode cL_address 18 = .ok (.ireturn, 1) := by decide +kernel
theorem dL_pages_0 : decode cL_pages 0 = .ok (.aload_n 2, 1) := by decide +kernel
theorem dL_pages_1 : decode cL_pages 1 = .ok (.iconst 0, 1) := by decide +kernel
theorem dL_pages_2 : decode cL_pages 2 = .ok (.aload_n 0, 1) := by decide +kernel
theorem dL_pages_3 : decode cL_pages 3 = .ok (.iload_n 1, 1) := by decide +kernel
theorem dL_pages_4 : decode cL_pages 4 = .ok (.invokevirtual 77, 3) := by decide +kernel
theorem dL_pages_7 : decode cL_pages 7 = .ok (.i2l, 1) := by decide +kernel
theorem dL_pages_8 : decode cL_pages 8 = .ok (.lastore, 1) := by decide +kernel
theorem dL_pages_9 : decode cL_pages 9 = .ok (.goto 6, 3) := by decide +kernel
theorem dL_pages_12 : decode cL_pages 12 = .ok (.astore_n 3, 1) := by decide +kernel
theorem dL_pages_13 : decode cL_pages 13 = .ok (.iconst 1, 1) := by decide +kernel
theorem dL_pages_14 : decode cL_pages 14 = .ok (.ireturn, 1) := by decide +kernel
theorem dL_pages_15 : decode cL_pages 15 = .ok (.iconst 0, 1) := by decide +kernel
theorem dL_pages_16 : decode cL_pages 16 = .ok (.ireturn, 1) := by decide +kernel
theorem dL_row_0 : decode cL_row 0 = .ok (.aload_n 2, 1) := by decide +kernel
theorem dL_row_1 : decode cL_row 1 = .ok (.iconst 0, 1) := by decide +kernel
theorem dL_row_2 : decode cL_row 2 = .ok (.aload_n 0, 1) := by decide +kernel
theorem dL_row_3 : decode cL_row 3 = .ok (.iload_n 1, 1) := by decide +kernel
theorem dL_row_4 : decode cL_row 4 = .ok (.invokevirtual 80, 3) := by decide +kernel
theorem dL_row_7 : decode cL_row 7 = .ok (.i2l, 1) := by decide +kernel
theorem dL_row_8 : decode cL_row 8 = .ok (.lastore, 1) := by decide +kernel
theorem dL_row_9 : decode cL_row 9 = .ok (.goto 6, 3) := by decide +kernel
theorem dL_row_12 : decode cL_row 12 = .ok (.astore_n 3, 1) := by decide +kernel
theorem dL_row_13 : decode cL_row 13 = .ok (.iconst 1, 1) := by decide +kernel
theorem dL_row_14 : decode cL_row 14 = .ok (.ireturn, 1) := by decide +kernel
theorem dL_row_15 : decode cL_row 15 = .ok (.iconst 0, 1) := by decide +kernel
theorem dL_row_16 : decode cL_row 16 = .ok (.ireturn, 1) := by decide +kernel
theorem dL_holds_0 : decode cL_holds 0 = .ok (.aload_n 2, 1) := by decide +kernel
theorem dL_holds_1 : decode cL_holds 1 = .ok (.iconst 0, 1) := by decide +kernel
theorem dL_holds_2 : decode cL_holds 2 = .ok (.aload_n 0, 1) := by decide +kernel
theorem dL_holds_3 : decode cL_holds 3 = .ok (.iload_n 1, 1) := by decide +kernel
theorem dL_holds_4 : decode cL_holds 4 = .ok (.invokevirtual 83, 3) := by decide +kernel
theorem dL_holds_7 : decode cL_holds 7 = .ok (.i2l, 1) := by decide +kernel
theorem dL_holds_8 : decode cL_holds 8 = .ok (.lastore, 1) := by decide +kernel
theorem dL_holds_9 : decode cL_holds 9 = .ok (.goto 6, 3) := by decide +kernel
theorem dL_holds_12 : decode cL_holds 12 = .ok (.astore_n 3, 1) := by decide +kernel
theorem dL_holds_13 : decode cL_holds 13 = .ok (.iconst 1, 1) := by decide +kernel
theorem dL_holds_14 : decode cL_holds 14 = .ok (.ireturn, 1) := by decide +kernel
theorem dL_holds_15 : decode cL_holds 15 = .ok (.iconst 0, 1) := by decide +kernel
theorem dL_holds_16 : decode cL_holds 16 = .ok (.ireturn, 1) := by decide +kernel
theorem dL_daily_0 : decode cL_daily 0 = .ok (.aload_n 2, 1) := by decide +kernel
theorem dL_daily_1 : decode cL_daily 1 = .ok (.iconst 0, 1) := by decide +kernel
theorem dL_daily_2 : decode cL_daily 2 = .ok (.aload_n 0, 1) := by decide +kernel
theorem dL_daily_3 : decode cL_daily 3 = .ok (.iload_n 1, 1) := by decide +kernel
theorem dL_daily_4 : decode cL_daily 4 = .ok (.invokevirtual 86, 3) := by decide +kernel
theorem dL_daily_7 : decode cL_daily 7 = .ok (.i2l, 1) := by decide +kernel
theorem dL_daily_8 : decode cL_daily 8 = .ok (.lastore, 1) := by decide +kernel
theorem dL_daily_9 : decode cL_daily 9 = .ok (.goto 6, 3) := by decide +kernel
theorem dL_daily_12 : decode cL_daily 12 = .ok (.astore_n 3, 1) := by decide +kernel
theorem dL_daily_13 : decode cL_daily 13 = .ok (.iconst 1, 1) := by decide +kernel
theorem dL_daily_14 : decode cL_daily 14 = .ok (.ireturn, 1) := by decide +kernel
theorem dL_daily_15 : decode cL_daily 15 = .ok (.iconst 0, 1) := by decide +kernel
theorem dL_daily_16 : decode cL_daily 16 = .ok (.ireturn, 1) := by decide +kernel
theorem dL_law_0 : decode cL_law 0 = .ok (.new 8, 3) := by decide +kernel
theorem dL_law_3 : decode cL_law 3 = .ok (.dup, 1) := by decide +kernel
theorem dL_law_4 : decode cL_law 4 = .ok (.invokespecial 89, 3) := by decide +kernel
theorem dL_law_7 : decode cL_law 7 = .ok (.astore_n 1, 1) := by decide +kernel
theorem dL_law_8 : decode cL_law 8 = .ok (.new 90, 3) := by decide +kernel
theorem dL_law_11 : decode cL_law 11 = .ok (.dup, 1) := by decide +kernel
theorem dL_law_12 : decode cL_law 12 = .ok (.invokespecial 92, 3) := by decide +kernel
theorem dL_law_15 : decode cL_law 15 = .ok (.astore_n 2, 1) := by decide +kernel
theorem dL_law_16 : decode cL_law 16 = .ok (.iconst 1, 1) := by decide +kernel
theorem dL_law_17 : decode cL_law 17 = .ok (.newarray .long, 2) := by decide +kernel
theorem dL_law_19 : decode cL_law 19 = .ok (.astore_n 3, 1) := by decide +kernel
theorem dL_law_20 : decode cL_law 20 = .ok (.iconst 0, 1) := by decide +kernel
theorem dL_law_21 : decode cL_law 21 = .ok (.istore 4, 2) := by decide +kernel
theorem dL_law_23 : decode cL_law 23 = .ok (.iload 4, 2) := by decide +kernel
theorem dL_law_25 : decode cL_law 25 = .ok (.aload_n 0, 1) := by decide +kernel
theorem dL_law_26 : decode cL_law 26 = .ok (.arraylength, 1) := by decide +kernel
theorem dL_law_27 : decode cL_law 27 = .ok (.bipush 8, 2) := by decide +kernel
theorem dL_law_29 : decode cL_law 29 = .ok (.isub, 1) := by decide +kernel
theorem dL_law_30 : decode cL_law 30 = .ok (.if_icmp .gt 1689, 3) := by decide +kernel
theorem dL_law_33 : decode cL_law 33 = .ok (.aload_n 0, 1) := by decide +kernel
theorem dL_law_34 : decode cL_law 34 = .ok (.iload 4, 2) := by decide +kernel
theorem dL_law_36 : decode cL_law 36 = .ok (.iaload, 1) := by decide +kernel
theorem dL_law_37 : decode cL_law 37 = .ok (.bipush 31, 2) := by decide +kernel
theorem dL_law_39 : decode cL_law 39 = .ok (.iand, 1) := by decide +kernel
theorem dL_law_40 : decode cL_law 40 = .ok (.tableswitch 1673 0 24 #[116, 172, 185, 229, 309, 377, 457, 525, 657, 761, 829, 892, 955, 1011, 1024, 1037, 1133, 1201, 1257, 1313, 1381, 1449, 1505, 1561, 1617], 116) := by decide +kernel
theorem dL_law_156 : decode cL_law 156 = .ok (.aload_n 1, 1) := by decide +kernel
theorem dL_law_157 : decode cL_law 157 = .ok (.aload_n 0, 1) := by decide +kernel
theorem dL_law_158 : decode cL_law 158 = .ok (.iload 4, 2) := by decide +kernel
theorem dL_law_160 : decode cL_law 160 = .ok (.iconst 1, 1) := by decide +kernel
theorem dL_law_161 : decode cL_law 161 = .ok (.iadd, 1) := by decide +kernel
theorem dL_law_162 : decode cL_law 162 = .ok (.iaload, 1) := by decide +kernel
theorem dL_law_163 : decode cL_law 163 = .ok (.aload_n 3, 1) := by decide +kernel
theorem dL_law_164 : decode cL_law 164 = .ok (.invokestatic 93, 3) := by decide +kernel
theorem dL_law_167 : decode cL_law 167 = .ok (.istore 5, 2) := by decide +kernel
theorem dL_law_169 : decode cL_law 169 = .ok (.aload_n 2, 1) := by decide +kernel
theorem dL_law_170 : decode cL_law 170 = .ok (.aload_n 0, 1) := by decide +kernel
theorem dL_law_171 : decode cL_law 171 = .ok (.iload 4, 2) := by decide +kernel
theorem dL_law_173 : decode cL_law 173 = .ok (.iconst 1, 1) := by decide +kernel
theorem dL_law_174 : decode cL_law 174 = .ok (.iadd, 1) := by decide +kernel
theorem dL_law_175 : decode cL_law 175 = .ok (.iaload, 1) := by decide +kernel
theorem dL_law_176 : decode cL_law 176 = .ok (.invokevirtual 98, 3) := by decide +kernel
theorem dL_law_179 : decode cL_law 179 = .ok (.istore 6, 2) := by decide +kernel
theorem dL_law_181 : decode cL_law 181 = .ok (.aload_n 2, 1) := by decide +kernel
theorem dL_law_182 : decode cL_law 182 = .ok (.invokevirtual 99, 3) := by decide +kernel
theorem dL_law_185 : decode cL_law 185 = .ok (.iload 5, 2) := by decide +kernel
theorem dL_law_187 : decode cL_law 187 = .ok (.if_icmp .eq 5, 3) := by decide +kernel
theorem dL_law_190 : decode cL_law 190 = .ok (.iconst 0, 1) := by decide +kernel
theorem dL_law_191 : decode cL_law 191 = .ok (.ireturn, 1) := by decide +kernel
theorem dL_law_192 : decode cL_law 192 = .ok (.iload 5, 2) := by decide +kernel
theorem dL_law_194 : decode cL_law 194 = .ok (.ifCond .ne 15, 3) := by decide +kernel
theorem dL_law_197 : decode cL_law 197 = .ok (.aload_n 3, 1) := by decide +kernel
theorem dL_law_198 : decode cL_law 198 = .ok (.iconst 0, 1) := by decide +kernel
theorem dL_law_199 : decode cL_law 199 = .ok (.laload, 1) := by decide +kernel
theorem dL_law_200 : decode cL_law 200 = .ok (.iload 6, 2) := by decide +kernel
theorem dL_law_202 : decode cL_law 202 = .ok (.i2l, 1) := by decide +kernel
theorem dL_law_203 : decode cL_law 203 = .ok (.lcmp, 1) := by decide +kernel
theorem dL_law_204 : decode cL_law 204 = .ok (.ifCond .eq 5, 3) := by decide +kernel
theorem dL_law_207 : decode cL_law 207 = .ok (.iconst 0, 1) := by decide +kernel
theorem dL_law_208 : decode cL_law 208 = .ok (.ireturn, 1) := by decide +kernel
theorem dL_law_209 : decode cL_law 209 = .ok (.goto 1504, 3) := by decide +kernel
theorem dL_law_212 : decode cL_law 212 = .ok (.aload_n 1, 1) := by decide +kernel
theorem dL_law_213 : decode cL_law 213 = .ok (.invokevirtual 102, 3) := by decide +kernel
theorem dL_law_216 : decode cL_law 216 = .ok (.aload_n 2, 1) := by decide +kernel
theorem dL_law_217 : decode cL_law 217 = .ok (.invokevirtual 105, 3) := by decide +kernel
theorem dL_law_220 : decode cL_law 220 = .ok (.if_icmp .eq 1493, 3) := by decide +kernel
theorem dL_law_223 : decode cL_law 223 = .ok (.iconst 0, 1) := by decide +kernel
theorem dL_law_224 : decode cL_law 224 = .ok (.ireturn, 1) := by decide +kernel
theorem dL_law_225 : decode cL_law 225 = .ok (.aload_n 1, 1) := by decide +kernel
theorem dL_law_226 : decode cL_law 226 = .ok (.aload_n 3, 1) := by decide +kernel
theorem dL_law_227 : decode cL_law 227 = .ok (.invokestatic 106, 3) := by decide +kernel
theorem dL_law_230 : decode cL_law 230 = .ok (.istore 5, 2) := by decide +kernel
theorem dL_law_232 : decode cL_law 232 = .ok (.aload_n 2, 1) := by decide +kernel
theorem dL_law_233 : decode cL_law 233 = .ok (.invokevirtual 109, 3) := by decide +kernel
theorem dL_law_236 : decode cL_law 236 = .ok (.istore 6, 2) := by decide +kernel
theorem dL_law_238 : decode cL_law 238 = .ok (.aload_n 2, 1) := by decide +kernel
theorem dL_law_239 : decode cL_law 239 = .ok (.invokevirtual 99, 3) := by decide +kernel
theorem dL_law_242 : decode cL_law 242 = .ok (.iload 5, 2) := by decide +kernel
theorem dL_law_244 : decode cL_law 244 = .ok (.if_icmp .eq 5, 3) := by decide +kernel
theorem dL_law_247 : decode cL_law 247 = .ok (.iconst 0, 1) := by decide +kernel
theorem dL_law_248 : decode cL_law 248 = .ok (.ireturn, 1) := by decide +kernel
theorem dL_law_249 : decode cL_law 249 = .ok (.iload 5, 2) := by decide +kernel
theorem dL_law_251 : decode cL_law 251 = .ok (.ifCond .ne 15, 3) := by decide +kernel
theorem dL_law_254 : decode cL_law 254 = .ok (.aload_n 3, 1) := by decide +kernel
theorem dL_law_255 : decode cL_law 255 = .ok (.iconst 0, 1) := by decide +kernel
theorem dL_law_256 : decode cL_law 256 = .ok (.laload, 1) := by decide +kernel
theorem dL_law_257 : decode cL_law 257 = .ok (.iload 6, 2) := by decide +kernel
theorem dL_law_259 : decode cL_law 259 = .ok (.i2l, 1) := by decide +kernel
theorem dL_law_260 : decode cL_law 260 = .ok (.lcmp, 1) := by decide +kernel
theorem dL_law_261 : decode cL_law 261 = .ok (.ifCond .eq 5, 3) := by decide +kernel
theorem dL_law_264 : decode cL_law 264 = .ok (.iconst 0, 1) := by decide +kernel
theorem dL_law_265 : decode cL_law 265 = .ok (.ireturn, 1) := by decide +kernel
theorem dL_law_266 : decode cL_law 266 = .ok (.goto 1447, 3) := by decide +kernel
theorem dL_law_269 : decode cL_law 269 = .ok (.aload_n 1, 1) := by decide +kernel
theorem dL_law_270 : decode cL_law 270 = .ok (.aload_n 0, 1) := by decide +kernel
theorem dL_law_271 : decode cL_law 271 = .ok (.iload 4, 2) := by decide +kernel
theorem dL_law_273 : decode cL_law 273 = .ok (.iconst 1, 1) := by decide +kernel
theorem dL_law_274 : decode cL_law 274 = .ok (.iadd, 1) := by decide +kernel
theorem dL_law_275 : decode cL_law 275 = .ok (.iaload, 1) := by decide +kernel
theorem dL_law_276 : decode cL_law 276 = .ok (.aload_n 0, 1) := by decide +kernel
theorem dL_law_277 : decode cL_law 277 = .ok (.iload 4, 2) := by decide +kernel
theorem dL_law_279 : decode cL_law 279 = .ok (.iconst 2, 1) := by decide +kernel
theorem dL_law_280 : decode cL_law 280 = .ok (.iadd, 1) := by decide +kernel
theorem dL_law_281 : decode cL_law 281 = .ok (.iaload, 1) := by decide +kernel
theorem dL_law_282 : decode cL_law 282 = .ok (.aload_n 0, 1) := by decide +kernel
theorem dL_law_283 : decode cL_law 283 = .ok (.iload 4, 2) := by decide +kernel
theorem dL_law_285 : decode cL_law 285 = .ok (.iconst 3, 1) := by decide +kernel
theorem dL_law_286 : decode cL_law 286 = .ok (.iadd, 1) := by decide +kernel
theorem dL_law_287 : decode cL_law 287 = .ok (.iaload, 1) := by decide +kernel
theorem dL_law_288 : decode cL_law 288 = .ok (.aload_n 3, 1) := by decide +kernel
theorem dL_law_289 : decode cL_law 289 = .ok (.invokestatic 110, 3) := by decide +kernel
theorem dL_law_292 : decode cL_law 292 = .ok (.istore 5, 2) := by decide +kernel
theorem dL_law_294 : decode cL_law 294 = .ok (.aload_n 2, 1) := by decide +kernel
theorem dL_law_295 : decode cL_law 295 = .ok (.aload_n 0, 1) := by decide +kernel
theorem dL_law_296 : decode cL_law 296 = .ok (.iload 4, 2) := by decide +kernel
theorem dL_law_298 : decode cL_law 298 = .ok (.iconst 1, 1) := by decide +kernel
theorem dL_law_299 : decode cL_law 299 = .ok (.iadd, 1) := by decide +kernel
theorem dL_law_300 : decode cL_law 300 = .ok (.iaload, 1) := by decide +kernel
theorem dL_law_301 : decode cL_law 301 = .ok (.aload_n 0, 1) := by decide +kernel
theorem dL_law_302 : decode cL_law 302 = .ok (.iload 4, 2) := by decide +kernel
theorem dL_law_304 : decode cL_law 304 = .ok (.iconst 2, 1) := by decide +kernel
theorem dL_law_305 : decode cL_law 305 = .ok (.iadd, 1) := by decide +kernel
theorem dL_law_306 : decode cL_law 306 = .ok (.iaload, 1) := by decide +kernel
theorem dL_law_307 : decode cL_law 307 = .ok (.aload_n 0, 1) := by decide +kernel
theorem dL_law_308 : decode cL_law 308 = .ok (.iload 4, 2) := by decide +kernel
theorem dL_law_310 : decode cL_law 310 = .ok (.iconst 3, 1) := by decide +kernel
theorem dL_law_311 : decode cL_law 311 = .ok (.iadd, 1) := by decide +kernel
theorem dL_law_312 : decode cL_law 312 = .ok (.iaload, 1) := by decide +kernel
theorem dL_law_313 : decode cL_law 313 = .ok (.invokevirtual 113, 3) := by decide +kernel
theorem dL_law_316 : decode cL_law 316 = .ok (.istore 6, 2) := by decide +kernel
theorem dL_law_318 : decode cL_law 318 = .ok (.aload_n 2, 1) := by decide +kernel
theorem dL_law_319 : decode cL_law 319 = .ok (.invokevirtual 99, 3) := by decide +kernel
theorem dL_law_322 : decode cL_law 322 = .ok (.iload 5, 2) := by decide +kernel
theorem dL_law_324 : decode cL_law 324 = .ok (.if_icmp .eq 5, 3) := by decide +kernel
theorem dL_law_327 : decode cL_law 327 = .ok (.iconst 0, 1) := by decide +kernel
theorem dL_law_328 : decode cL_law 328 = .ok (.ireturn, 1) := by decide +kernel
theorem dL_law_329 : decode cL_law 329 = .ok (.iload 5, 2) := by decide +kernel
theorem dL_law_331 : decode cL_law 331 = .ok (.ifCond .ne 15, 3) := by decide +kernel
theorem dL_law_334 : decode cL_law 334 = .ok (.aload_n 3, 1) := by decide +kernel
theorem dL_law_335 : decode cL_law 335 = .ok (.iconst 0, 1) := by decide +kernel
theorem dL_law_336 : decode cL_law 336 = .ok (.laload, 1) := by decide +kernel
theorem dL_law_337 : decode cL_law 337 = .ok (.iload 6, 2) := by decide +kernel
theorem dL_law_339 : decode cL_law 339 = .ok (.i2l, 1) := by decide +kernel
theorem dL_law_340 : decode cL_law 340 = .ok (.lcmp, 1) := by decide +kernel
theorem dL_law_341 : decode cL_law 341 = .ok (.ifCond .eq 5, 3) := by decide +kernel
theorem dL_law_344 : decode cL_law 344 = .ok (.iconst 0, 1) := by decide +kernel
theorem dL_law_345 : decode cL_law 345 = .ok (.ireturn, 1) := by decide +kernel
theorem dL_law_346 : decode cL_law 346 = .ok (.goto 1367, 3) := by decide +kernel
theorem dL_law_349 : decode cL_law 349 = .ok (.aload_n 1, 1) := by decide +kernel
theorem dL_law_350 : decode cL_law 350 = .ok (.aload_n 0, 1) := by decide +kernel
theorem dL_law_351 : decode cL_law 351 = .ok (.iload 4, 2) := by decide +kernel
theorem dL_law_353 : decode cL_law 353 = .ok (.iconst 1, 1) := by decide +kernel
theorem dL_law_354 : decode cL_law 354 = .ok (.iadd, 1) := by decide +kernel
theorem dL_law_355 : decode cL_law 355 = .ok (.iaload, 1) := by decide +kernel
theorem dL_law_356 : decode cL_law 356 = .ok (.aload_n 0, 1) := by decide +kernel
theorem dL_law_357 : decode cL_law 357 = .ok (.iload 4, 2) := by decide +kernel
theorem dL_law_359 : decode cL_law 359 = .ok (.iconst 2, 1) := by decide +kernel
theorem dL_law_360 : decode cL_law 360 = .ok (.iadd, 1) := by decide +kernel
theorem dL_law_361 : decode cL_law 361 = .ok (.iaload, 1) := by decide +kernel
theorem dL_law_362 : decode cL_law 362 = .ok (.aload_n 3, 1) := by decide +kernel
theorem dL_law_363 : decode cL_law 363 = .ok (.invokestatic 114, 3) := by decide +kernel
theorem dL_law_366 : decode cL_law 366 = .ok (.istore 5, 2) := by decide +kernel
theorem dL_law_368 : decode cL_law 368 = .ok (.aload_n 2, 1) := by decide +kernel
theorem dL_law_369 : decode cL_law 369 = .ok (.aload_n 0, 1) := by decide +kernel
theorem dL_law_370 : decode cL_law 370 = .ok (.iload 4, 2) := by decide +kernel
theorem dL_law_372 : decode cL_law 372 = .ok (.iconst 1, 1) := by decide +kernel
theorem dL_law_373 : decode cL_law 373 = .ok (.iadd, 1) := by decide +kernel
theorem dL_law_374 : decode cL_law 374 = .ok (.iaload, 1) := by decide +kernel
theorem dL_law_375 : decode cL_law 375 = .ok (.aload_n 0, 1) := by decide +kernel
theorem dL_law_376 : decode cL_law 376 = .ok (.iload 4, 2) := by decide +kernel
theorem dL_law_378 : decode cL_law 378 = .ok (.iconst 2, 1) := by decide +kernel
theorem dL_law_379 : decode cL_law 379 = .ok (.iadd, 1) := by decide +kernel
theorem dL_law_380 : decode cL_law 380 = .ok (.iaload, 1) := by decide +kernel
theorem dL_law_381 : decode cL_law 381 = .ok (.invokevirtual 117, 3) := by decide +kernel
theorem dL_law_384 : decode cL_law 384 = .ok (.istore 6, 2) := by decide +kernel
theorem dL_law_386 : decode cL_law 386 = .ok (.aload_n 2, 1) := by decide +kernel
theorem dL_law_387 : decode cL_law 387 = .ok (.invokevirtual 99, 3) := by decide +kernel
theorem dL_law_390 : decode cL_law 390 = .ok (.iload 5, 2) := by decide +kernel
theorem dL_law_392 : decode cL_law 392 = .ok (.if_icmp .eq 5, 3) := by decide +kernel
theorem dL_law_395 : decode cL_law 395 = .ok (.iconst 0, 1) := by decide +kernel
theorem dL_law_396 : decode cL_law 396 = .ok (.ireturn, 1) := by decide +kernel
theorem dL_law_397 : decode cL_law 397 = .ok (.iload 5, 2) := by decide +kernel
theorem dL_law_399 : decode cL_law 399 = .ok (.ifCond .ne 15, 3) := by decide +kernel
theorem dL_law_402 : decode cL_law 402 = .ok (.aload_n 3, 1) := by decide +kernel
theorem dL_law_403 : decode cL_law 403 = .ok (.iconst 0, 1) := by decide +kernel
theorem dL_law_404 : decode cL_law 404 = .ok (.laload, 1) := by decide +kernel
theorem dL_law_405 : decode cL_law 405 = .ok (.iload 6, 2) := by decide +kernel
theorem dL_law_407 : decode cL_law 407 = .ok (.i2l, 1) := by decide +kernel
theorem dL_law_408 : decode cL_law 408 = .ok (.lcmp, 1) := by decide +kernel
theorem dL_law_409 : decode cL_law 409 = .ok (.ifCond .eq 5, 3) := by decide +kernel
theorem dL_law_412 : decode cL_law 412 = .ok (.iconst 0, 1) := by decide +kernel
theorem dL_law_413 : decode cL_law 413 = .ok (.ireturn, 1) := by decide +kernel
theorem dL_law_414 : decode cL_law 414 = .ok (.goto 1299, 3) := by decide +kernel
theorem dL_law_417 : decode cL_law 417 = .ok (.aload_n 1, 1) := by decide +kernel
theorem dL_law_418 : decode cL_law 418 = .ok (.aload_n 0, 1) := by decide +kernel
theorem dL_law_419 : decode cL_law 419 = .ok (.iload 4, 2) := by decide +kernel
theorem dL_law_421 : decode cL_law 421 = .ok (.iconst 1, 1) := by decide +kernel
theorem dL_law_422 : decode cL_law 422 = .ok (.iadd, 1) := by decide +kernel
theorem dL_law_423 : decode cL_law 423 = .ok (.iaload, 1) := by decide +kernel
theorem dL_law_424 : decode cL_law 424 = .ok (.aload_n 0, 1) := by decide +kernel
theorem dL_law_425 : decode cL_law 425 = .ok (.iload 4, 2) := by decide +kernel
theorem dL_law_427 : decode cL_law 427 = .ok (.iconst 2, 1) := by decide +kernel
theorem dL_law_428 : decode cL_law 428 = .ok (.iadd, 1) := by decide +kernel
theorem dL_law_429 : decode cL_law 429 = .ok (.iaload, 1) := by decide +kernel
theorem dL_law_430 : decode cL_law 430 = .ok (.aload_n 0, 1) := by decide +kernel
theorem dL_law_431 : decode cL_law 431 = .ok (.iload 4, 2) := by decide +kernel
theorem dL_law_433 : decode cL_law 433 = .ok (.iconst 3, 1) := by decide +kernel
theorem dL_law_434 : decode cL_law 434 = .ok (.iadd, 1) := by decide +kernel
theorem dL_law_435 : decode cL_law 435 = .ok (.iaload, 1) := by decide +kernel
theorem dL_law_436 : decode cL_law 436 = .ok (.aload_n 3, 1) := by decide +kernel
theorem dL_law_437 : decode cL_law 437 = .ok (.invokestatic 118, 3) := by decide +kernel
theorem dL_law_440 : decode cL_law 440 = .ok (.istore 5, 2) := by decide +kernel
theorem dL_law_442 : decode cL_law 442 = .ok (.aload_n 2, 1) := by decide +kernel
theorem dL_law_443 : decode cL_law 443 = .ok (.aload_n 0, 1) := by decide +kernel
theorem dL_law_444 : decode cL_law 444 = .ok (.iload 4, 2) := by decide +kernel
theorem dL_law_446 : decode cL_law 446 = .ok (.iconst 1, 1) := by decide +kernel
theorem dL_law_447 : decode cL_law 447 = .ok (.iadd, 1) := by decide +kernel
theorem dL_law_448 : decode cL_law 448 = .ok (.iaload, 1) := by decide +kernel
theorem dL_law_449 : decode cL_law 449 = .ok (.aload_n 0, 1) := by decide +kernel
theorem dL_law_450 : decode cL_law 450 = .ok (.iload 4, 2) := by decide +kernel
theorem dL_law_452 : decode cL_law 452 = .ok (.iconst 2, 1) := by decide +kernel
theorem dL_law_453 : decode cL_law 453 = .ok (.iadd, 1) := by decide +kernel
theorem dL_law_454 : decode cL_law 454 = .ok (.iaload, 1) := by decide +kernel
theorem dL_law_455 : decode cL_law 455 = .ok (.aload_n 0, 1) := by decide +kernel
theorem dL_law_456 : decode cL_law 456 = .ok (.iload 4, 2) := by decide +kernel
theorem dL_law_458 : decode cL_law 458 = .ok (.iconst 3, 1) := by decide +kernel
theorem dL_law_459 : decode cL_law 459 = .ok (.iadd, 1) := by decide +kernel
theorem dL_law_460 : decode cL_law 460 = .ok (.iaload, 1) := by decide +kernel
theorem dL_law_461 : decode cL_law 461 = .ok (.invokevirtual 120, 3) := by decide +kernel
theorem dL_law_464 : decode cL_law 464 = .ok (.istore 6, 2) := by decide +kernel
theorem dL_law_466 : decode cL_law 466 = .ok (.aload_n 2, 1) := by decide +kernel
theorem dL_law_467 : decode cL_law 467 = .ok (.invokevirtual 99, 3) := by decide +kernel
theorem dL_law_470 : decode cL_law 470 = .ok (.iload 5, 2) := by decide +kernel
theorem dL_law_472 : decode cL_law 472 = .ok (.if_icmp .eq 5, 3) := by decide +kernel
theorem dL_law_475 : decode cL_law 475 = .ok (.iconst 0, 1) := by decide +kernel
theorem dL_law_476 : decode cL_law 476 = .ok (.ireturn, 1) := by decide +kernel
theorem dL_law_477 : decode cL_law 477 = .ok (.iload 5, 2) := by decide +kernel
theorem dL_law_479 : decode cL_law 479 = .ok (.ifCond .ne 15, 3) := by decide +kernel
theorem dL_law_482 : decode cL_law 482 = .ok (.aload_n 3, 1) := by decide +kernel
theorem dL_law_483 : decode cL_law 483 = .ok (.iconst 0, 1) := by decide +kernel
theorem dL_law_484 : decode cL_law 484 = .ok (.laload, 1) := by decide +kernel
theorem dL_law_485 : decode cL_law 485 = .ok (.iload 6, 2) := by decide +kernel
theorem dL_law_487 : decode cL_law 487 = .ok (.i2l, 1) := by decide +kernel
theorem dL_law_488 : decode cL_law 488 = .ok (.lcmp, 1) := by decide +kernel
theorem dL_law_489 : decode cL_law 489 = .ok (.ifCond .eq 5, 3) := by decide +kernel
theorem dL_law_492 : decode cL_law 492 = .ok (.iconst 0, 1) := by decide +kernel
theorem dL_law_493 : decode cL_law 493 = .ok (.ireturn, 1) := by decide +kernel
theorem dL_law_494 : decode cL_law 494 = .ok (.goto 1219, 3) := by decide +kernel
theorem dL_law_497 : decode cL_law 497 = .ok (.aload_n 1, 1) := by decide +kernel
theorem dL_law_498 : decode cL_law 498 = .ok (.aload_n 0, 1) := by decide +kernel
theorem dL_law_499 : decode cL_law 499 = .ok (.iload 4, 2) := by decide +kernel
theorem dL_law_501 : decode cL_law 501 = .ok (.iconst 1, 1) := by decide +kernel
theorem dL_law_502 : decode cL_law 502 = .ok (.iadd, 1) := by decide +kernel
theorem dL_law_503 : decode cL_law 503 = .ok (.iaload, 1) := by decide +kernel
theorem dL_law_504 : decode cL_law 504 = .ok (.aload_n 0, 1) := by decide +kernel
theorem dL_law_505 : decode cL_law 505 = .ok (.iload 4, 2) := by decide +kernel
theorem dL_law_507 : decode cL_law 507 = .ok (.iconst 2, 1) := by decide +kernel
theorem dL_law_508 : decode cL_law 508 = .ok (.iadd, 1) := by decide +kernel
theorem dL_law_509 : decode cL_law 509 = .ok (.iaload, 1) := by decide +kernel
theorem dL_law_510 : decode cL_law 510 = .ok (.aload_n 3, 1) := by decide +kernel
theorem dL_law_511 : decode cL_law 511 = .ok (.invokestatic 121, 3) := by decide +kernel
theorem dL_law_514 : decode cL_law 514 = .ok (.istore 5, 2) := by decide +kernel
theorem dL_law_516 : decode cL_law 516 = .ok (.aload_n 2, 1) := by decide +kernel
theorem dL_law_517 : decode cL_law 517 = .ok (.aload_n 0, 1) := by decide +kernel
theorem dL_law_518 : decode cL_law 518 = .ok (.iload 4, 2) := by decide +kernel
theorem dL_law_520 : decode cL_law 520 = .ok (.iconst 1, 1) := by decide +kernel
theorem dL_law_521 : decode cL_law 521 = .ok (.iadd, 1) := by decide +kernel
theorem dL_law_522 : decode cL_law 522 = .ok (.iaload, 1) := by decide +kernel
theorem dL_law_523 : decode cL_law 523 = .ok (.aload_n 0, 1) := by decide +kernel
theorem dL_law_524 : decode cL_law 524 = .ok (.iload 4, 2) := by decide +kernel
theorem dL_law_526 : decode cL_law 526 = .ok (.iconst 2, 1) := by decide +kernel
theorem dL_law_527 : decode cL_law 527 = .ok (.iadd, 1) := by decide +kernel
theorem dL_law_528 : decode cL_law 528 = .ok (.iaload, 1) := by decide +kernel
theorem dL_law_529 : decode cL_law 529 = .ok (.invokevirtual 123, 3) := by decide +kernel
theorem dL_law_532 : decode cL_law 532 = .ok (.istore 6, 2) := by decide +kernel
theorem dL_law_534 : decode cL_law 534 = .ok (.aload_n 2, 1) := by decide +kernel
theorem dL_law_535 : decode cL_law 535 = .ok (.invokevirtual 99, 3) := by decide +kernel
theorem dL_law_538 : decode cL_law 538 = .ok (.iload 5, 2) := by decide +kernel
theorem dL_law_540 : decode cL_law 540 = .ok (.if_icmp .eq 5, 3) := by decide +kernel
theorem dL_law_543 : decode cL_law 543 = .ok (.iconst 0, 1) := by decide +kernel
theorem dL_law_544 : decode cL_law 544 = .ok (.ireturn, 1) := by decide +kernel
theorem dL_law_545 : decode cL_law 545 = .ok (.iload 5, 2) := by decide +kernel
theorem dL_law_547 : decode cL_law 547 = .ok (.ifCond .ne 15, 3) := by decide +kernel
theorem dL_law_550 : decode cL_law 550 = .ok (.aload_n 3, 1) := by decide +kernel
theorem dL_law_551 : decode cL_law 551 = .ok (.iconst 0, 1) := by decide +kernel
theorem dL_law_552 : decode cL_law 552 = .ok (.laload, 1) := by decide +kernel
theorem dL_law_553 : decode cL_law 553 = .ok (.iload 6, 2) := by decide +kernel
theorem dL_law_555 : decode cL_law 555 = .ok (.i2l, 1) := by decide +kernel
theorem dL_law_556 : decode cL_law 556 = .ok (.lcmp, 1) := by decide +kernel
theorem dL_law_557 : decode cL_law 557 = .ok (.ifCond .eq 5, 3) := by decide +kernel
theorem dL_law_560 : decode cL_law 560 = .ok (.iconst 0, 1) := by decide +kernel
theorem dL_law_561 : decode cL_law 561 = .ok (.ireturn, 1) := by decide +kernel
theorem dL_law_562 : decode cL_law 562 = .ok (.goto 1151, 3) := by decide +kernel
theorem dL_law_565 : decode cL_law 565 = .ok (.aload_n 1, 1) := by decide +kernel
theorem dL_law_566 : decode cL_law 566 = .ok (.aload_n 0, 1) := by decide +kernel
theorem dL_law_567 : decode cL_law 567 = .ok (.iload 4, 2) := by decide +kernel
theorem dL_law_569 : decode cL_law 569 = .ok (.iconst 1, 1) := by decide +kernel
theorem dL_law_570 : decode cL_law 570 = .ok (.iadd, 1) := by decide +kernel
theorem dL_law_571 : decode cL_law 571 = .ok (.iaload, 1) := by decide +kernel
theorem dL_law_572 : decode cL_law 572 = .ok (.aload_n 0, 1) := by decide +kernel
theorem dL_law_573 : decode cL_law 573 = .ok (.iload 4, 2) := by decide +kernel
theorem dL_law_575 : decode cL_law 575 = .ok (.iconst 2, 1) := by decide +kernel
theorem dL_law_576 : decode cL_law 576 = .ok (.iadd, 1) := by decide +kernel
theorem dL_law_577 : decode cL_law 577 = .ok (.iaload, 1) := by decide +kernel
theorem dL_law_578 : decode cL_law 578 = .ok (.aload_n 0, 1) := by decide +kernel
theorem dL_law_579 : decode cL_law 579 = .ok (.iload 4, 2) := by decide +kernel
theorem dL_law_581 : decode cL_law 581 = .ok (.iconst 3, 1) := by decide +kernel
theorem dL_law_582 : decode cL_law 582 = .ok (.iadd, 1) := by decide +kernel
theorem dL_law_583 : decode cL_law 583 = .ok (.iaload, 1) := by decide +kernel
theorem dL_law_584 : decode cL_law 584 = .ok (.aload_n 0, 1) := by decide +kernel
theorem dL_law_585 : decode cL_law 585 = .ok (.iload 4, 2) := by decide +kernel
theorem dL_law_587 : decode cL_law 587 = .ok (.iconst 4, 1) := by decide +kernel
theorem dL_law_588 : decode cL_law 588 = .ok (.iadd, 1) := by decide +kernel
theorem dL_law_589 : decode cL_law 589 = .ok (.iaload, 1) := by decide +kernel
theorem dL_law_590 : decode cL_law 590 = .ok (.aload_n 0, 1) := by decide +kernel
theorem dL_law_591 : decode cL_law 591 = .ok (.iload 4, 2) := by decide +kernel
theorem dL_law_593 : decode cL_law 593 = .ok (.iconst 5, 1) := by decide +kernel
theorem dL_law_594 : decode cL_law 594 = .ok (.iadd, 1) := by decide +kernel
theorem dL_law_595 : decode cL_law 595 = .ok (.iaload, 1) := by decide +kernel
theorem dL_law_596 : decode cL_law 596 = .ok (.aload_n 0, 1) := by decide +kernel
theorem dL_law_597 : decode cL_law 597 = .ok (.iload 4, 2) := by decide +kernel
theorem dL_law_599 : decode cL_law 599 = .ok (.bipush 6, 2) := by decide +kernel
theorem dL_law_601 : decode cL_law 601 = .ok (.iadd, 1) := by decide +kernel
theorem dL_law_602 : decode cL_law 602 = .ok (.iaload, 1) := by decide +kernel
theorem dL_law_603 : decode cL_law 603 = .ok (.aload_n 0, 1) := by decide +kernel
theorem dL_law_604 : decode cL_law 604 = .ok (.iload 4, 2) := by decide +kernel
theorem dL_law_606 : decode cL_law 606 = .ok (.bipush 7, 2) := by decide +kernel
theorem dL_law_608 : decode cL_law 608 = .ok (.iadd, 1) := by decide +kernel
theorem dL_law_609 : decode cL_law 609 = .ok (.iaload, 1) := by decide +kernel
theorem dL_law_610 : decode cL_law 610 = .ok (.aload_n 3, 1) := by decide +kernel
theorem dL_law_611 : decode cL_law 611 = .ok (.invokestatic 124, 3) := by decide +kernel
theorem dL_law_614 : decode cL_law 614 = .ok (.istore 5, 2) := by decide +kernel
theorem dL_law_616 : decode cL_law 616 = .ok (.aload_n 2, 1) := by decide +kernel
theorem dL_law_617 : decode cL_law 617 = .ok (.aload_n 0, 1) := by decide +kernel
theorem dL_law_618 : decode cL_law 618 = .ok (.iload 4, 2) := by decide +kernel
theorem dL_law_620 : decode cL_law 620 = .ok (.iconst 1, 1) := by decide +kernel
theorem dL_law_621 : decode cL_law 621 = .ok (.iadd, 1) := by decide +kernel
theorem dL_law_622 : decode cL_law 622 = .ok (.iaload, 1) := by decide +kernel
theorem dL_law_623 : decode cL_law 623 = .ok (.aload_n 0, 1) := by decide +kernel
theorem dL_law_624 : decode cL_law 624 = .ok (.iload 4, 2) := by decide +kernel
theorem dL_law_626 : decode cL_law 626 = .ok (.iconst 2, 1) := by decide +kernel
theorem dL_law_627 : decode cL_law 627 = .ok (.iadd, 1) := by decide +kernel
theorem dL_law_628 : decode cL_law 628 = .ok (.iaload, 1) := by decide +kernel
theorem dL_law_629 : decode cL_law 629 = .ok (.aload_n 0, 1) := by decide +kernel
theorem dL_law_630 : decode cL_law 630 = .ok (.iload 4, 2) := by decide +kernel
theorem dL_law_632 : decode cL_law 632 = .ok (.iconst 3, 1) := by decide +kernel
theorem dL_law_633 : decode cL_law 633 = .ok (.iadd, 1) := by decide +kernel
theorem dL_law_634 : decode cL_law 634 = .ok (.iaload, 1) := by decide +kernel
theorem dL_law_635 : decode cL_law 635 = .ok (.aload_n 0, 1) := by decide +kernel
theorem dL_law_636 : decode cL_law 636 = .ok (.iload 4, 2) := by decide +kernel
theorem dL_law_638 : decode cL_law 638 = .ok (.iconst 4, 1) := by decide +kernel
theorem dL_law_639 : decode cL_law 639 = .ok (.iadd, 1) := by decide +kernel
theorem dL_law_640 : decode cL_law 640 = .ok (.iaload, 1) := by decide +kernel
theorem dL_law_641 : decode cL_law 641 = .ok (.aload_n 0, 1) := by decide +kernel
theorem dL_law_642 : decode cL_law 642 = .ok (.iload 4, 2) := by decide +kernel
theorem dL_law_644 : decode cL_law 644 = .ok (.iconst 5, 1) := by decide +kernel
theorem dL_law_645 : decode cL_law 645 = .ok (.iadd, 1) := by decide +kernel
theorem dL_law_646 : decode cL_law 646 = .ok (.iaload, 1) := by decide +kernel
theorem dL_law_647 : decode cL_law 647 = .ok (.aload_n 0, 1) := by decide +kernel
theorem dL_law_648 : decode cL_law 648 = .ok (.iload 4, 2) := by decide +kernel
theorem dL_law_650 : decode cL_law 650 = .ok (.bipush 6, 2) := by decide +kernel
theorem dL_law_652 : decode cL_law 652 = .ok (.iadd, 1) := by decide +kernel
theorem dL_law_653 : decode cL_law 653 = .ok (.iaload, 1) := by decide +kernel
theorem dL_law_654 : decode cL_law 654 = .ok (.aload_n 0, 1) := by decide +kernel
theorem dL_law_655 : decode cL_law 655 = .ok (.iload 4, 2) := by decide +kernel
theorem dL_law_657 : decode cL_law 657 = .ok (.bipush 7, 2) := by decide +kernel
theorem dL_law_659 : decode cL_law 659 = .ok (.iadd, 1) := by decide +kernel
theorem dL_law_660 : decode cL_law 660 = .ok (.iaload, 1) := by decide +kernel
theorem dL_law_661 : decode cL_law 661 = .ok (.invokevirtual 127, 3) := by decide +kernel
theorem dL_law_664 : decode cL_law 664 = .ok (.istore 6, 2) := by decide +kernel
theorem dL_law_666 : decode cL_law 666 = .ok (.aload_n 2, 1) := by decide +kernel
theorem dL_law_667 : decode cL_law 667 = .ok (.invokevirtual 99, 3) := by decide +kernel
theorem dL_law_670 : decode cL_law 670 = .ok (.iload 5, 2) := by decide +kernel
theorem dL_law_672 : decode cL_law 672 = .ok (.if_icmp .eq 5, 3) := by decide +kernel
theorem dL_law_675 : decode cL_law 675 = .ok (.iconst 0, 1) := by decide +kernel
theorem dL_law_676 : decode cL_law 676 = .ok (.ireturn, 1) := by decide +kernel
theorem dL_law_677 : decode cL_law 677 = .ok (.iload 5, 2) := by decide +kernel
theorem dL_law_679 : decode cL_law 679 = .ok (.ifCond .ne 15, 3) := by decide +kernel
theorem dL_law_682 : decode cL_law 682 = .ok (.aload_n 3, 1) := by decide +kernel
theorem dL_law_683 : decode cL_law 683 = .ok (.iconst 0, 1) := by decide +kernel
theorem dL_law_684 : decode cL_law 684 = .ok (.laload, 1) := by decide +kernel
theorem dL_law_685 : decode cL_law 685 = .ok (.iload 6, 2) := by decide +kernel
theorem dL_law_687 : decode cL_law 687 = .ok (.i2l, 1) := by decide +kernel
theorem dL_law_688 : decode cL_law 688 = .ok (.lcmp, 1) := by decide +kernel
theorem dL_law_689 : decode cL_law 689 = .ok (.ifCond .eq 5, 3) := by decide +kernel
theorem dL_law_692 : decode cL_law 692 = .ok (.iconst 0, 1) := by decide +kernel
theorem dL_law_693 : decode cL_law 693 = .ok (.ireturn, 1) := by decide +kernel
theorem dL_law_694 : decode cL_law 694 = .ok (.goto 1019, 3) := by decide +kernel
theorem dL_law_697 : decode cL_law 697 = .ok (.aload_n 1, 1) := by decide +kernel
theorem dL_law_698 : decode cL_law 698 = .ok (.aload_n 0, 1) := by decide +kernel
theorem dL_law_699 : decode cL_law 699 = .ok (.iload 4, 2) := by decide +kernel
theorem dL_law_701 : decode cL_law 701 = .ok (.iconst 1, 1) := by decide +kernel
theorem dL_law_702 : decode cL_law 702 = .ok (.iadd, 1) := by decide +kernel
theorem dL_law_703 : decode cL_law 703 = .ok (.iaload, 1) := by decide +kernel
theorem dL_law_704 : decode cL_law 704 = .ok (.aload_n 0, 1) := by decide +kernel
theorem dL_law_705 : decode cL_law 705 = .ok (.iload 4, 2) := by decide +kernel
theorem dL_law_707 : decode cL_law 707 = .ok (.iconst 2, 1) := by decide +kernel
theorem dL_law_708 : decode cL_law 708 = .ok (.iadd, 1) := by decide +kernel
theorem dL_law_709 : decode cL_law 709 = .ok (.iaload, 1) := by decide +kernel
theorem dL_law_710 : decode cL_law 710 = .ok (.aload_n 0, 1) := by decide +kernel
theorem dL_law_711 : decode cL_law 711 = .ok (.iload 4, 2) := by decide +kernel
theorem dL_law_713 : decode cL_law 713 = .ok (.iconst 3, 1) := by decide +kernel
theorem dL_law_714 : decode cL_law 714 = .ok (.iadd, 1) := by decide +kernel
theorem dL_law_715 : decode cL_law 715 = .ok (.iaload, 1) := by decide +kernel
theorem dL_law_716 : decode cL_law 716 = .ok (.aload_n 0, 1) := by decide +kernel
theorem dL_law_717 : decode cL_law 717 = .ok (.iload 4, 2) := by decide +kernel
theorem dL_law_719 : decode cL_law 719 = .ok (.iconst 4, 1) := by decide +kernel
theorem dL_law_720 : decode cL_law 720 = .ok (.iadd, 1) := by decide +kernel
theorem dL_law_721 : decode cL_law 721 = .ok (.iaload, 1) := by decide +kernel
theorem dL_law_722 : decode cL_law 722 = .ok (.aload_n 0, 1) := by decide +kernel
theorem dL_law_723 : decode cL_law 723 = .ok (.iload 4, 2) := by decide +kernel
theorem dL_law_725 : decode cL_law 725 = .ok (.iconst 5, 1) := by decide +kernel
theorem dL_law_726 : decode cL_law 726 = .ok (.iadd, 1) := by decide +kernel
theorem dL_law_727 : decode cL_law 727 = .ok (.iaload, 1) := by decide +kernel
theorem dL_law_728 : decode cL_law 728 = .ok (.aload_n 3, 1) := by decide +kernel
theorem dL_law_729 : decode cL_law 729 = .ok (.invokestatic 128, 3) := by decide +kernel
theorem dL_law_732 : decode cL_law 732 = .ok (.istore 5, 2) := by decide +kernel
theorem dL_law_734 : decode cL_law 734 = .ok (.aload_n 2, 1) := by decide +kernel
theorem dL_law_735 : decode cL_law 735 = .ok (.aload_n 0, 1) := by decide +kernel
theorem dL_law_736 : decode cL_law 736 = .ok (.iload 4, 2) := by decide +kernel
theorem dL_law_738 : decode cL_law 738 = .ok (.iconst 1, 1) := by decide +kernel
theorem dL_law_739 : decode cL_law 739 = .ok (.iadd, 1) := by decide +kernel
theorem dL_law_740 : decode cL_law 740 = .ok (.iaload, 1) := by decide +kernel
theorem dL_law_741 : decode cL_law 741 = .ok (.aload_n 0, 1) := by decide +kernel
theorem dL_law_742 : decode cL_law 742 = .ok (.iload 4, 2) := by decide +kernel
theorem dL_law_744 : decode cL_law 744 = .ok (.iconst 2, 1) := by decide +kernel
theorem dL_law_745 : decode cL_law 745 = .ok (.iadd, 1) := by decide +kernel
theorem dL_law_746 : decode cL_law 746 = .ok (.iaload, 1) := by decide +kernel
theorem dL_law_747 : decode cL_law 747 = .ok (.aload_n 0, 1) := by decide +kernel
theorem dL_law_748 : decode cL_law 748 = .ok (.iload 4, 2) := by decide +kernel
theorem dL_law_750 : decode cL_law 750 = .ok (.iconst 3, 1) := by decide +kernel
theorem dL_law_751 : decode cL_law 751 = .ok (.iadd, 1) := by decide +kernel
theorem dL_law_752 : decode cL_law 752 = .ok (.iaload, 1) := by decide +kernel
theorem dL_law_753 : decode cL_law 753 = .ok (.aload_n 0, 1) := by decide +kernel
theorem dL_law_754 : decode cL_law 754 = .ok (.iload 4, 2) := by decide +kernel
theorem dL_law_756 : decode cL_law 756 = .ok (.iconst 4, 1) := by decide +kernel
theorem dL_law_757 : decode cL_law 757 = .ok (.iadd, 1) := by decide +kernel
theorem dL_law_758 : decode cL_law 758 = .ok (.iaload, 1) := by decide +kernel
theorem dL_law_759 : decode cL_law 759 = .ok (.aload_n 0, 1) := by decide +kernel
theorem dL_law_760 : decode cL_law 760 = .ok (.iload 4, 2) := by decide +kernel
theorem dL_law_762 : decode cL_law 762 = .ok (.iconst 5, 1) := by decide +kernel
theorem dL_law_763 : decode cL_law 763 = .ok (.iadd, 1) := by decide +kernel
theorem dL_law_764 : decode cL_law 764 = .ok (.iaload, 1) := by decide +kernel
theorem dL_law_765 : decode cL_law 765 = .ok (.invokevirtual 131, 3) := by decide +kernel
theorem dL_law_768 : decode cL_law 768 = .ok (.istore 6, 2) := by decide +kernel
theorem dL_law_770 : decode cL_law 770 = .ok (.aload_n 2, 1) := by decide +kernel
theorem dL_law_771 : decode cL_law 771 = .ok (.invokevirtual 99, 3) := by decide +kernel
theorem dL_law_774 : decode cL_law 774 = .ok (.iload 5, 2) := by decide +kernel
theorem dL_law_776 : decode cL_law 776 = .ok (.if_icmp .eq 5, 3) := by decide +kernel
theorem dL_law_779 : decode cL_law 779 = .ok (.iconst 0, 1) := by decide +kernel
theorem dL_law_780 : decode cL_law 780 = .ok (.ireturn, 1) := by decide +kernel
theorem dL_law_781 : decode cL_law 781 = .ok (.iload 5, 2) := by decide +kernel
theorem dL_law_783 : decode cL_law 783 = .ok (.ifCond .ne 15, 3) := by decide +kernel
theorem dL_law_786 : decode cL_law 786 = .ok (.aload_n 3, 1) := by decide +kernel
theorem dL_law_787 : decode cL_law 787 = .ok (.iconst 0, 1) := by decide +kernel
theorem dL_law_788 : decode cL_law 788 = .ok (.laload, 1) := by decide +kernel
theorem dL_law_789 : decode cL_law 789 = .ok (.iload 6, 2) := by decide +kernel
theorem dL_law_791 : decode cL_law 791 = .ok (.i2l, 1) := by decide +kernel
theorem dL_law_792 : decode cL_law 792 = .ok (.lcmp, 1) := by decide +kernel
theorem dL_law_793 : decode cL_law 793 = .ok (.ifCond .eq 5, 3) := by decide +kernel
theorem dL_law_796 : decode cL_law 796 = .ok (.iconst 0, 1) := by decide +kernel
theorem dL_law_797 : decode cL_law 797 = .ok (.ireturn, 1) := by decide +kernel
theorem dL_law_798 : decode cL_law 798 = .ok (.goto 915, 3) := by decide +kernel
theorem dL_law_801 : decode cL_law 801 = .ok (.aload_n 1, 1) := by decide +kernel
theorem dL_law_802 : decode cL_law 802 = .ok (.aload_n 0, 1) := by decide +kernel
theorem dL_law_803 : decode cL_law 803 = .ok (.iload 4, 2) := by decide +kernel
theorem dL_law_805 : decode cL_law 805 = .ok (.iconst 1, 1) := by decide +kernel
theorem dL_law_806 : decode cL_law 806 = .ok (.iadd, 1) := by decide +kernel
theorem dL_law_807 : decode cL_law 807 = .ok (.iaload, 1) := by decide +kernel
theorem dL_law_808 : decode cL_law 808 = .ok (.aload_n 0, 1) := by decide +kernel
theorem dL_law_809 : decode cL_law 809 = .ok (.iload 4, 2) := by decide +kernel
theorem dL_law_811 : decode cL_law 811 = .ok (.iconst 2, 1) := by decide +kernel
theorem dL_law_812 : decode cL_law 812 = .ok (.iadd, 1) := by decide +kernel
theorem dL_law_813 : decode cL_law 813 = .ok (.iaload, 1) := by decide +kernel
theorem dL_law_814 : decode cL_law 814 = .ok (.aload_n 3, 1) := by decide +kernel
theorem dL_law_815 : decode cL_law 815 = .ok (.invokestatic 132, 3) := by decide +kernel
theorem dL_law_818 : decode cL_law 818 = .ok (.istore 5, 2) := by decide +kernel
theorem dL_law_820 : decode cL_law 820 = .ok (.aload_n 2, 1) := by decide +kernel
theorem dL_law_821 : decode cL_law 821 = .ok (.aload_n 0, 1) := by decide +kernel
theorem dL_law_822 : decode cL_law 822 = .ok (.iload 4, 2) := by decide +kernel
theorem dL_law_824 : decode cL_law 824 = .ok (.iconst 1, 1) := by decide +kernel
theorem dL_law_825 : decode cL_law 825 = .ok (.iadd, 1) := by decide +kernel
theorem dL_law_826 : decode cL_law 826 = .ok (.iaload, 1) := by decide +kernel
theorem dL_law_827 : decode cL_law 827 = .ok (.aload_n 0, 1) := by decide +kernel
theorem dL_law_828 : decode cL_law 828 = .ok (.iload 4, 2) := by decide +kernel
theorem dL_law_830 : decode cL_law 830 = .ok (.iconst 2, 1) := by decide +kernel
theorem dL_law_831 : decode cL_law 831 = .ok (.iadd, 1) := by decide +kernel
theorem dL_law_832 : decode cL_law 832 = .ok (.iaload, 1) := by decide +kernel
theorem dL_law_833 : decode cL_law 833 = .ok (.invokevirtual 134, 3) := by decide +kernel
theorem dL_law_836 : decode cL_law 836 = .ok (.istore 6, 2) := by decide +kernel
theorem dL_law_838 : decode cL_law 838 = .ok (.aload_n 2, 1) := by decide +kernel
theorem dL_law_839 : decode cL_law 839 = .ok (.invokevirtual 99, 3) := by decide +kernel
theorem dL_law_842 : decode cL_law 842 = .ok (.iload 5, 2) := by decide +kernel
theorem dL_law_844 : decode cL_law 844 = .ok (.if_icmp .eq 5, 3) := by decide +kernel
theorem dL_law_847 : decode cL_law 847 = .ok (.iconst 0, 1) := by decide +kernel
theorem dL_law_848 : decode cL_law 848 = .ok (.ireturn, 1) := by decide +kernel
theorem dL_law_849 : decode cL_law 849 = .ok (.iload 5, 2) := by decide +kernel
theorem dL_law_851 : decode cL_law 851 = .ok (.ifCond .ne 15, 3) := by decide +kernel
theorem dL_law_854 : decode cL_law 854 = .ok (.aload_n 3, 1) := by decide +kernel
theorem dL_law_855 : decode cL_law 855 = .ok (.iconst 0, 1) := by decide +kernel
theorem dL_law_856 : decode cL_law 856 = .ok (.laload, 1) := by decide +kernel
theorem dL_law_857 : decode cL_law 857 = .ok (.iload 6, 2) := by decide +kernel
theorem dL_law_859 : decode cL_law 859 = .ok (.i2l, 1) := by decide +kernel
theorem dL_law_860 : decode cL_law 860 = .ok (.lcmp, 1) := by decide +kernel
theorem dL_law_861 : decode cL_law 861 = .ok (.ifCond .eq 5, 3) := by decide +kernel
theorem dL_law_864 : decode cL_law 864 = .ok (.iconst 0, 1) := by decide +kernel
theorem dL_law_865 : decode cL_law 865 = .ok (.ireturn, 1) := by decide +kernel
theorem dL_law_866 : decode cL_law 866 = .ok (.goto 847, 3) := by decide +kernel
theorem dL_law_869 : decode cL_law 869 = .ok (.aload_n 1, 1) := by decide +kernel
theorem dL_law_870 : decode cL_law 870 = .ok (.aload_n 0, 1) := by decide +kernel
theorem dL_law_871 : decode cL_law 871 = .ok (.iload 4, 2) := by decide +kernel
theorem dL_law_873 : decode cL_law 873 = .ok (.iconst 1, 1) := by decide +kernel
theorem dL_law_874 : decode cL_law 874 = .ok (.iadd, 1) := by decide +kernel
theorem dL_law_875 : decode cL_law 875 = .ok (.iaload, 1) := by decide +kernel
theorem dL_law_876 : decode cL_law 876 = .ok (.aload_n 3, 1) := by decide +kernel
theorem dL_law_877 : decode cL_law 877 = .ok (.invokestatic 135, 3) := by decide +kernel
theorem dL_law_880 : decode cL_law 880 = .ok (.istore 5, 2) := by decide +kernel
theorem dL_law_882 : decode cL_law 882 = .ok (.aload_n 2, 1) := by decide +kernel
theorem dL_law_883 : decode cL_law 883 = .ok (.aload_n 0, 1) := by decide +kernel
theorem dL_law_884 : decode cL_law 884 = .ok (.iload 4, 2) := by decide +kernel
theorem dL_law_886 : decode cL_law 886 = .ok (.iconst 1, 1) := by decide +kernel
theorem dL_law_887 : decode cL_law 887 = .ok (.iadd, 1) := by decide +kernel
theorem dL_law_888 : decode cL_law 888 = .ok (.iaload, 1) := by decide +kernel
theorem dL_law_889 : decode cL_law 889 = .ok (.invokevirtual 137, 3) := by decide +kernel
theorem dL_law_892 : decode cL_law 892 = .ok (.istore 6, 2) := by decide +kernel
theorem dL_law_894 : decode cL_law 894 = .ok (.aload_n 2, 1) := by decide +kernel
theorem dL_law_895 : decode cL_law 895 = .ok (.invokevirtual 99, 3) := by decide +kernel
theorem dL_law_898 : decode cL_law 898 = .ok (.iload 5, 2) := by decide +kernel
theorem dL_law_900 : decode cL_law 900 = .ok (.if_icmp .eq 5, 3) := by decide +kernel
theorem dL_law_903 : decode cL_law 903 = .ok (.iconst 0, 1) := by decide +kernel
theorem dL_law_904 : decode cL_law 904 = .ok (.ireturn, 1) := by decide +kernel
theorem dL_law_905 : decode cL_law 905 = .ok (.iload 5, 2) := by decide +kernel
theorem dL_law_907 : decode cL_law 907 = .ok (.ifCond .ne 22, 3) := by decide +kernel
theorem dL_law_910 : decode cL_law 910 = .ok (.aload_n 3, 1) := by decide +kernel
theorem dL_law_911 : decode cL_law 911 = .ok (.iconst 0, 1) := by decide +kernel
theorem dL_law_912 : decode cL_law 912 = .ok (.laload, 1) := by decide +kernel
theorem dL_law_913 : decode cL_law 913 = .ok (.iload 6, 2) := by decide +kernel
theorem dL_law_915 : decode cL_law 915 = .ok (.ifCond .eq 7, 3) := by decide +kernel
theorem dL_law_918 : decode cL_law 918 = .ok (.lconst 1, 1) := by decide +kernel
theorem dL_law_919 : decode cL_law 919 = .ok (.goto 4, 3) := by decide +kernel
theorem dL_law_922 : decode cL_law 922 = .ok (.lconst 0, 1) := by decide +kernel
theorem dL_law_923 : decode cL_law 923 = .ok (.lcmp, 1) := by decide +kernel
theorem dL_law_924 : decode cL_law 924 = .ok (.ifCond .eq 5, 3) := by decide +kernel
theorem dL_law_927 : decode cL_law 927 = .ok (.iconst 0, 1) := by decide +kernel
theorem dL_law_928 : decode cL_law 928 = .ok (.ireturn, 1) := by decide +kernel
theorem dL_law_929 : decode cL_law 929 = .ok (.goto 784, 3) := by decide +kernel
theorem dL_law_932 : decode cL_law 932 = .ok (.aload_n 1, 1) := by decide +kernel
theorem dL_law_933 : decode cL_law 933 = .ok (.aload_n 0, 1) := by decide +kernel
theorem dL_law_934 : decode cL_law 934 = .ok (.iload 4, 2) := by decide +kernel
theorem dL_law_936 : decode cL_law 936 = .ok (.iconst 1, 1) := by decide +kernel
theorem dL_law_937 : decode cL_law 937 = .ok (.iadd, 1) := by decide +kernel
theorem dL_law_938 : decode cL_law 938 = .ok (.iaload, 1) := by decide +kernel
theorem dL_law_939 : decode cL_law 939 = .ok (.aload_n 3, 1) := by decide +kernel
theorem dL_law_940 : decode cL_law 940 = .ok (.invokestatic 138, 3) := by decide +kernel
theorem dL_law_943 : decode cL_law 943 = .ok (.istore 5, 2) := by decide +kernel
theorem dL_law_945 : decode cL_law 945 = .ok (.aload_n 2, 1) := by decide +kernel
theorem dL_law_946 : decode cL_law 946 = .ok (.aload_n 0, 1) := by decide +kernel
theorem dL_law_947 : decode cL_law 947 = .ok (.iload 4, 2) := by decide +kernel
theorem dL_law_949 : decode cL_law 949 = .ok (.iconst 1, 1) := by decide +kernel
theorem dL_law_950 : decode cL_law 950 = .ok (.iadd, 1) := by decide +kernel
theorem dL_law_951 : decode cL_law 951 = .ok (.iaload, 1) := by decide +kernel
theorem dL_law_952 : decode cL_law 952 = .ok (.invokevirtual 140, 3) := by decide +kernel
theorem dL_law_955 : decode cL_law 955 = .ok (.istore 6, 2) := by decide +kernel
theorem dL_law_957 : decode cL_law 957 = .ok (.aload_n 2, 1) := by decide +kernel
theorem dL_law_958 : decode cL_law 958 = .ok (.invokevirtual 99, 3) := by decide +kernel
theorem dL_law_961 : decode cL_law 961 = .ok (.iload 5, 2) := by decide +kernel
theorem dL_law_963 : decode cL_law 963 = .ok (.if_icmp .eq 5, 3) := by decide +kernel
theorem dL_law_966 : decode cL_law 966 = .ok (.iconst 0, 1) := by decide +kernel
theorem dL_law_967 : decode cL_law 967 = .ok (.ireturn, 1) := by decide +kernel
theorem dL_law_968 : decode cL_law 968 = .ok (.iload 5, 2) := by decide +kernel
theorem dL_law_970 : decode cL_law 970 = .ok (.ifCond .ne 22, 3) := by decide +kernel
theorem dL_law_973 : decode cL_law 973 = .ok (.aload_n 3, 1) := by decide +kernel
theorem dL_law_974 : decode cL_law 974 = .ok (.iconst 0, 1) := by decide +kernel
theorem dL_law_975 : decode cL_law 975 = .ok (.laload, 1) := by decide +kernel
theorem dL_law_976 : decode cL_law 976 = .ok (.iload 6, 2) := by decide +kernel
theorem dL_law_978 : decode cL_law 978 = .ok (.ifCond .eq 7, 3) := by decide +kernel
theorem dL_law_981 : decode cL_law 981 = .ok (.lconst 1, 1) := by decide +kernel
theorem dL_law_982 : decode cL_law 982 = .ok (.goto 4, 3) := by decide +kernel
theorem dL_law_985 : decode cL_law 985 = .ok (.lconst 0, 1) := by decide +kernel
theorem dL_law_986 : decode cL_law 986 = .ok (.lcmp, 1) := by decide +kernel
theorem dL_law_987 : decode cL_law 987 = .ok (.ifCond .eq 5, 3) := by decide +kernel
theorem dL_law_990 : decode cL_law 990 = .ok (.iconst 0, 1) := by decide +kernel
theorem dL_law_991 : decode cL_law 991 = .ok (.ireturn, 1) := by decide +kernel
theorem dL_law_992 : decode cL_law 992 = .ok (.goto 721, 3) := by decide +kernel
theorem dL_law_995 : decode cL_law 995 = .ok (.aload_n 1, 1) := by decide +kernel
theorem dL_law_996 : decode cL_law 996 = .ok (.aload_n 0, 1) := by decide +kernel
theorem dL_law_997 : decode cL_law 997 = .ok (.iload 4, 2) := by decide +kernel
theorem dL_law_999 : decode cL_law 999 = .ok (.iconst 1, 1) := by decide +kernel
theorem dL_law_1000 : decode cL_law 1000 = .ok (.iadd, 1) := by decide +kernel
theorem dL_law_1001 : decode cL_law 1001 = .ok (.iaload, 1) := by decide +kernel
theorem dL_law_1002 : decode cL_law 1002 = .ok (.aload_n 3, 1) := by decide +kernel
theorem dL_law_1003 : decode cL_law 1003 = .ok (.invokestatic 141, 3) := by decide +kernel
theorem dL_law_1006 : decode cL_law 1006 = .ok (.istore 5, 2) := by decide +kernel
theorem dL_law_1008 : decode cL_law 1008 = .ok (.aload_n 2, 1) := by decide +kernel
theorem dL_law_1009 : decode cL_law 1009 = .ok (.aload_n 0, 1) := by decide +kernel
theorem dL_law_1010 : decode cL_law 1010 = .ok (.iload 4, 2) := by decide +kernel
theorem dL_law_1012 : decode cL_law 1012 = .ok (.iconst 1, 1) := by decide +kernel
theorem dL_law_1013 : decode cL_law 1013 = .ok (.iadd, 1) := by decide +kernel
theorem dL_law_1014 : decode cL_law 1014 = .ok (.iaload, 1) := by decide +kernel
theorem dL_law_1015 : decode cL_law 1015 = .ok (.invokevirtual 143, 3) := by decide +kernel
theorem dL_law_1018 : decode cL_law 1018 = .ok (.istore 6, 2) := by decide +kernel
theorem dL_law_1020 : decode cL_law 1020 = .ok (.aload_n 2, 1) := by decide +kernel
theorem dL_law_1021 : decode cL_law 1021 = .ok (.invokevirtual 99, 3) := by decide +kernel
theorem dL_law_1024 : decode cL_law 1024 = .ok (.iload 5, 2) := by decide +kernel
theorem dL_law_1026 : decode cL_law 1026 = .ok (.if_icmp .eq 5, 3) := by decide +kernel
theorem dL_law_1029 : decode cL_law 1029 = .ok (.iconst 0, 1) := by decide +kernel
theorem dL_law_1030 : decode cL_law 1030 = .ok (.ireturn, 1) := by decide +kernel
theorem dL_law_1031 : decode cL_law 1031 = .ok (.iload 5, 2) := by decide +kernel
theorem dL_law_1033 : decode cL_law 1033 = .ok (.ifCond .ne 15, 3) := by decide +kernel
theorem dL_law_1036 : decode cL_law 1036 = .ok (.aload_n 3, 1) := by decide +kernel
theorem dL_law_1037 : decode cL_law 1037 = .ok (.iconst 0, 1) := by decide +kernel
theorem dL_law_1038 : decode cL_law 1038 = .ok (.laload, 1) := by decide +kernel
theorem dL_law_1039 : decode cL_law 1039 = .ok (.iload 6, 2) := by decide +kernel
theorem dL_law_1041 : decode cL_law 1041 = .ok (.i2l, 1) := by decide +kernel
theorem dL_law_1042 : decode cL_law 1042 = .ok (.lcmp, 1) := by decide +kernel
theorem dL_law_1043 : decode cL_law 1043 = .ok (.ifCond .eq 5, 3) := by decide +kernel
theorem dL_law_1046 : decode cL_law 1046 = .ok (.iconst 0, 1) := by decide +kernel
theorem dL_law_1047 : decode cL_law 1047 = .ok (.ireturn, 1) := by decide +kernel
theorem dL_law_1048 : decode cL_law 1048 = .ok (.goto 665, 3) := by decide +kernel
theorem dL_law_1051 : decode cL_law 1051 = .ok (.aload_n 1, 1) := by decide +kernel
theorem dL_law_1052 : decode cL_law 1052 = .ok (.invokevirtual 144, 3) := by decide +kernel
theorem dL_law_1055 : decode cL_law 1055 = .ok (.aload_n 2, 1) := by decide +kernel
theorem dL_law_1056 : decode cL_law 1056 = .ok (.invokevirtual 147, 3) := by decide +kernel
theorem dL_law_1059 : decode cL_law 1059 = .ok (.if_icmp .eq 654, 3) := by decide +kernel
theorem dL_law_1062 : decode cL_law 1062 = .ok (.iconst 0, 1) := by decide +kernel
theorem dL_law_1063 : decode cL_law 1063 = .ok (.ireturn, 1) := by decide +kernel
theorem dL_law_1064 : decode cL_law 1064 = .ok (.aload_n 1, 1) := by decide +kernel
theorem dL_law_1065 : decode cL_law 1065 = .ok (.invokevirtual 148, 3) := by decide +kernel
theorem dL_law_1068 : decode cL_law 1068 = .ok (.aload_n 2, 1) := by decide +kernel
theorem dL_law_1069 : decode cL_law 1069 = .ok (.invokevirtual 151, 3) := by decide +kernel
theorem dL_law_1072 : decode cL_law 1072 = .ok (.if_icmp .eq 641, 3) := by decide +kernel
theorem dL_law_1075 : decode cL_law 1075 = .ok (.iconst 0, 1) := by decide +kernel
theorem dL_law_1076 : decode cL_law 1076 = .ok (.ireturn, 1) := by decide +kernel
theorem dL_law_1077 : decode cL_law 1077 = .ok (.aload_n 1, 1) := by decide +kernel
theorem dL_law_1078 : decode cL_law 1078 = .ok (.aload_n 0, 1) := by decide +kernel
theorem dL_law_1079 : decode cL_law 1079 = .ok (.iload 4, 2) := by decide +kernel
theorem dL_law_1081 : decode cL_law 1081 = .ok (.iconst 1, 1) := by decide +kernel
theorem dL_law_1082 : decode cL_law 1082 = .ok (.iadd, 1) := by decide +kernel
theorem dL_law_1083 : decode cL_law 1083 = .ok (.iaload, 1) := by decide +kernel
theorem dL_law_1084 : decode cL_law 1084 = .ok (.aload_n 0, 1) := by decide +kernel
theorem dL_law_1085 : decode cL_law 1085 = .ok (.iload 4, 2) := by decide +kernel
theorem dL_law_1087 : decode cL_law 1087 = .ok (.iconst 2, 1) := by decide +kernel
theorem dL_law_1088 : decode cL_law 1088 = .ok (.iadd, 1) := by decide +kernel
theorem dL_law_1089 : decode cL_law 1089 = .ok (.iaload, 1) := by decide +kernel
theorem dL_law_1090 : decode cL_law 1090 = .ok (.aload_n 0, 1) := by decide +kernel
theorem dL_law_1091 : decode cL_law 1091 = .ok (.iload 4, 2) := by decide +kernel
theorem dL_law_1093 : decode cL_law 1093 = .ok (.iconst 3, 1) := by decide +kernel
theorem dL_law_1094 : decode cL_law 1094 = .ok (.iadd, 1) := by decide +kernel
theorem dL_law_1095 : decode cL_law 1095 = .ok (.iaload, 1) := by decide +kernel
theorem dL_law_1096 : decode cL_law 1096 = .ok (.ifCond .eq 7, 3) := by decide +kernel
theorem dL_law_1099 : decode cL_law 1099 = .ok (.iconst 1, 1) := by decide +kernel
theorem dL_law_1100 : decode cL_law 1100 = .ok (.goto 4, 3) := by decide +kernel
theorem dL_law_1103 : decode cL_law 1103 = .ok (.iconst 0, 1) := by decide +kernel
theorem dL_law_1104 : decode cL_law 1104 = .ok (.aload_n 3, 1) := by decide +kernel
theorem dL_law_1105 : decode cL_law 1105 = .ok (.invokestatic 152, 3) := by decide +kernel
theorem dL_law_1108 : decode cL_law 1108 = .ok (.istore 5, 2) := by decide +kernel
theorem dL_law_1110 : decode cL_law 1110 = .ok (.aload_n 2, 1) := by decide +kernel
theorem dL_law_1111 : decode cL_law 1111 = .ok (.aload_n 0, 1) := by decide +kernel
theorem dL_law_1112 : decode cL_law 1112 = .ok (.iload 4, 2) := by decide +kernel
theorem dL_law_1114 : decode cL_law 1114 = .ok (.iconst 1, 1) := by decide +kernel
theorem dL_law_1115 : decode cL_law 1115 = .ok (.iadd, 1) := by decide +kernel
theorem dL_law_1116 : decode cL_law 1116 = .ok (.iaload, 1) := by decide +kernel
theorem dL_law_1117 : decode cL_law 1117 = .ok (.aload_n 0, 1) := by decide +kernel
theorem dL_law_1118 : decode cL_law 1118 = .ok (.iload 4, 2) := by decide +kernel
theorem dL_law_1120 : decode cL_law 1120 = .ok (.iconst 2, 1) := by decide +kernel
theorem dL_law_1121 : decode cL_law 1121 = .ok (.iadd, 1) := by decide +kernel
theorem dL_law_1122 : decode cL_law 1122 = .ok (.iaload, 1) := by decide +kernel
theorem dL_law_1123 : decode cL_law 1123 = .ok (.aload_n 0, 1) := by decide +kernel
theorem dL_law_1124 : decode cL_law 1124 = .ok (.iload 4, 2) := by decide +kernel
theorem dL_law_1126 : decode cL_law 1126 = .ok (.iconst 3, 1) := by decide +kernel
theorem dL_law_1127 : decode cL_law 1127 = .ok (.iadd, 1) := by decide +kernel
theorem dL_law_1128 : decode cL_law 1128 = .ok (.iaload, 1) := by decide +kernel
theorem dL_law_1129 : decode cL_law 1129 = .ok (.ifCond .eq 7, 3) := by decide +kernel
theorem dL_law_1132 : decode cL_law 1132 = .ok (.iconst 1, 1) := by decide +kernel
theorem dL_law_1133 : decode cL_law 1133 = .ok (.goto 4, 3) := by decide +kernel
theorem dL_law_1136 : decode cL_law 1136 = .ok (.iconst 0, 1) := by decide +kernel
theorem dL_law_1137 : decode cL_law 1137 = .ok (.invokevirtual 155, 3) := by decide +kernel
theorem dL_law_1140 : decode cL_law 1140 = .ok (.istore 6, 2) := by decide +kernel
theorem dL_law_1142 : decode cL_law 1142 = .ok (.aload_n 2, 1) := by decide +kernel
theorem dL_law_1143 : decode cL_law 1143 = .ok (.invokevirtual 99, 3) := by decide +kernel
theorem dL_law_1146 : decode cL_law 1146 = .ok (.iload 5, 2) := by decide +kernel
theorem dL_law_1148 : decode cL_law 1148 = .ok (.if_icmp .eq 5, 3) := by decide +kernel
theorem dL_law_1151 : decode cL_law 1151 = .ok (.iconst 0, 1) := by decide +kernel
theorem dL_law_1152 : decode cL_law 1152 = .ok (.ireturn, 1) := by decide +kernel
theorem dL_law_1153 : decode cL_law 1153 = .ok (.iload 5, 2) := by decide +kernel
theorem dL_law_1155 : decode cL_law 1155 = .ok (.ifCond .ne 15, 3) := by decide +kernel
theorem dL_law_1158 : decode cL_law 1158 = .ok (.aload_n 3, 1) := by decide +kernel
theorem dL_law_1159 : decode cL_law 1159 = .ok (.iconst 0, 1) := by decide +kernel
theorem dL_law_1160 : decode cL_law 1160 = .ok (.laload, 1) := by decide +kernel
theorem dL_law_1161 : decode cL_law 1161 = .ok (.iload 6, 2) := by decide +kernel
theorem dL_law_1163 : decode cL_law 1163 = .ok (.i2l, 1) := by decide +kernel
theorem dL_law_1164 : decode cL_law 1164 = .ok (.lcmp, 1) := by decide +kernel
theorem dL_law_1165 : decode cL_law 1165 = .ok (.ifCond .eq 5, 3) := by decide +kernel
theorem dL_law_1168 : decode cL_law 1168 = .ok (.iconst 0, 1) := by decide +kernel
theorem dL_law_1169 : decode cL_law 1169 = .ok (.ireturn, 1) := by decide +kernel
theorem dL_law_1170 : decode cL_law 1170 = .ok (.goto 543, 3) := by decide +kernel
theorem dL_law_1173 : decode cL_law 1173 = .ok (.aload_n 1, 1) := by decide +kernel
theorem dL_law_1174 : decode cL_law 1174 = .ok (.aload_n 0, 1) := by decide +kernel
theorem dL_law_1175 : decode cL_law 1175 = .ok (.iload 4, 2) := by decide +kernel
theorem dL_law_1177 : decode cL_law 1177 = .ok (.iconst 1, 1) := by decide +kernel
theorem dL_law_1178 : decode cL_law 1178 = .ok (.iadd, 1) := by decide +kernel
theorem dL_law_1179 : decode cL_law 1179 = .ok (.iaload, 1) := by decide +kernel
theorem dL_law_1180 : decode cL_law 1180 = .ok (.aload_n 0, 1) := by decide +kernel
theorem dL_law_1181 : decode cL_law 1181 = .ok (.iload 4, 2) := by decide +kernel
theorem dL_law_1183 : decode cL_law 1183 = .ok (.iconst 2, 1) := by decide +kernel
theorem dL_law_1184 : decode cL_law 1184 = .ok (.iadd, 1) := by decide +kernel
theorem dL_law_1185 : decode cL_law 1185 = .ok (.iaload, 1) := by decide +kernel
theorem dL_law_1186 : decode cL_law 1186 = .ok (.aload_n 3, 1) := by decide +kernel
theorem dL_law_1187 : decode cL_law 1187 = .ok (.invokestatic 156, 3) := by decide +kernel
theorem dL_law_1190 : decode cL_law 1190 = .ok (.istore 5, 2) := by decide +kernel
theorem dL_law_1192 : decode cL_law 1192 = .ok (.aload_n 2, 1) := by decide +kernel
theorem dL_law_1193 : decode cL_law 1193 = .ok (.aload_n 0, 1) := by decide +kernel
theorem dL_law_1194 : decode cL_law 1194 = .ok (.iload 4, 2) := by decide +kernel
theorem dL_law_1196 : decode cL_law 1196 = .ok (.iconst 1, 1) := by decide +kernel
theorem dL_law_1197 : decode cL_law 1197 = .ok (.iadd, 1) := by decide +kernel
theorem dL_law_1198 : decode cL_law 1198 = .ok (.iaload, 1) := by decide +kernel
theorem dL_law_1199 : decode cL_law 1199 = .ok (.aload_n 0, 1) := by decide +kernel
theorem dL_law_1200 : decode cL_law 1200 = .ok (.iload 4, 2) := by decide +kernel
theorem dL_law_1202 : decode cL_law 1202 = .ok (.iconst 2, 1) := by decide +kernel
theorem dL_law_1203 : decode cL_law 1203 = .ok (.iadd, 1) := by decide +kernel
theorem dL_law_1204 : decode cL_law 1204 = .ok (.iaload, 1) := by decide +kernel
theorem dL_law_1205 : decode cL_law 1205 = .ok (.invokevirtual 158, 3) := by decide +kernel
theorem dL_law_1208 : decode cL_law 1208 = .ok (.istore 6, 2) := by decide +kernel
theorem dL_law_1210 : decode cL_law 1210 = .ok (.aload_n 2, 1) := by decide +kernel
theorem dL_law_1211 : decode cL_law 1211 = .ok (.invokevirtual 99, 3) := by decide +kernel
theorem dL_law_1214 : decode cL_law 1214 = .ok (.iload 5, 2) := by decide +kernel
theorem dL_law_1216 : decode cL_law 1216 = .ok (.if_icmp .eq 5, 3) := by decide +kernel
theorem dL_law_1219 : decode cL_law 1219 = .ok (.iconst 0, 1) := by decide +kernel
theorem dL_law_1220 : decode cL_law 1220 = .ok (.ireturn, 1) := by decide +kernel
theorem dL_law_1221 : decode cL_law 1221 = .ok (.iload 5, 2) := by decide +kernel
theorem dL_law_1223 : decode cL_law 1223 = .ok (.ifCond .ne 15, 3) := by decide +kernel
theorem dL_law_1226 : decode cL_law 1226 = .ok (.aload_n 3, 1) := by decide +kernel
theorem dL_law_1227 : decode cL_law 1227 = .ok (.iconst 0, 1) := by decide +kernel
theorem dL_law_1228 : decode cL_law 1228 = .ok (.laload, 1) := by decide +kernel
theorem dL_law_1229 : decode cL_law 1229 = .ok (.iload 6, 2) := by decide +kernel
theorem dL_law_1231 : decode cL_law 1231 = .ok (.i2l, 1) := by decide +kernel
theorem dL_law_1232 : decode cL_law 1232 = .ok (.lcmp, 1) := by decide +kernel
theorem dL_law_1233 : decode cL_law 1233 = .ok (.ifCond .eq 5, 3) := by decide +kernel
theorem dL_law_1236 : decode cL_law 1236 = .ok (.iconst 0, 1) := by decide +kernel
theorem dL_law_1237 : decode cL_law 1237 = .ok (.ireturn, 1) := by decide +kernel
theorem dL_law_1238 : decode cL_law 1238 = .ok (.goto 475, 3) := by decide +kernel
theorem dL_law_1241 : decode cL_law 1241 = .ok (.aload_n 1, 1) := by decide +kernel
theorem dL_law_1242 : decode cL_law 1242 = .ok (.aload_n 0, 1) := by decide +kernel
theorem dL_law_1243 : decode cL_law 1243 = .ok (.iload 4, 2) := by decide +kernel
theorem dL_law_1245 : decode cL_law 1245 = .ok (.iconst 1, 1) := by decide +kernel
theorem dL_law_1246 : decode cL_law 1246 = .ok (.iadd, 1) := by decide +kernel
theorem dL_law_1247 : decode cL_law 1247 = .ok (.iaload, 1) := by decide +kernel
theorem dL_law_1248 : decode cL_law 1248 = .ok (.aload_n 3, 1) := by decide +kernel
theorem dL_law_1249 : decode cL_law 1249 = .ok (.invokestatic 159, 3) := by decide +kernel
theorem dL_law_1252 : decode cL_law 1252 = .ok (.istore 5, 2) := by decide +kernel
theorem dL_law_1254 : decode cL_law 1254 = .ok (.aload_n 2, 1) := by decide +kernel
theorem dL_law_1255 : decode cL_law 1255 = .ok (.aload_n 0, 1) := by decide +kernel
theorem dL_law_1256 : decode cL_law 1256 = .ok (.iload 4, 2) := by decide +kernel
theorem dL_law_1258 : decode cL_law 1258 = .ok (.iconst 1, 1) := by decide +kernel
theorem dL_law_1259 : decode cL_law 1259 = .ok (.iadd, 1) := by decide +kernel
theorem dL_law_1260 : decode cL_law 1260 = .ok (.iaload, 1) := by decide +kernel
theorem dL_law_1261 : decode cL_law 1261 = .ok (.invokevirtual 161, 3) := by decide +kernel
theorem dL_law_1264 : decode cL_law 1264 = .ok (.istore 6, 2) := by decide +kernel
theorem dL_law_1266 : decode cL_law 1266 = .ok (.aload_n 2, 1) := by decide +kernel
theorem dL_law_1267 : decode cL_law 1267 = .ok (.invokevirtual 99, 3) := by decide +kernel
theorem dL_law_1270 : decode cL_law 1270 = .ok (.iload 5, 2) := by decide +kernel
theorem dL_law_1272 : decode cL_law 1272 = .ok (.if_icmp .eq 5, 3) := by decide +kernel
theorem dL_law_1275 : decode cL_law 1275 = .ok (.iconst 0, 1) := by decide +kernel
theorem dL_law_1276 : decode cL_law 1276 = .ok (.ireturn, 1) := by decide +kernel
theorem dL_law_1277 : decode cL_law 1277 = .ok (.iload 5, 2) := by decide +kernel
theorem dL_law_1279 : decode cL_law 1279 = .ok (.ifCond .ne 15, 3) := by decide +kernel
theorem dL_law_1282 : decode cL_law 1282 = .ok (.aload_n 3, 1) := by decide +kernel
theorem dL_law_1283 : decode cL_law 1283 = .ok (.iconst 0, 1) := by decide +kernel
theorem dL_law_1284 : decode cL_law 1284 = .ok (.laload, 1) := by decide +kernel
theorem dL_law_1285 : decode cL_law 1285 = .ok (.iload 6, 2) := by decide +kernel
theorem dL_law_1287 : decode cL_law 1287 = .ok (.i2l, 1) := by decide +kernel
theorem dL_law_1288 : decode cL_law 1288 = .ok (.lcmp, 1) := by decide +kernel
theorem dL_law_1289 : decode cL_law 1289 = .ok (.ifCond .eq 5, 3) := by decide +kernel
theorem dL_law_1292 : decode cL_law 1292 = .ok (.iconst 0, 1) := by decide +kernel
theorem dL_law_1293 : decode cL_law 1293 = .ok (.ireturn, 1) := by decide +kernel
theorem dL_law_1294 : decode cL_law 1294 = .ok (.goto 419, 3) := by decide +kernel
theorem dL_law_1297 : decode cL_law 1297 = .ok (.aload_n 1, 1) := by decide +kernel
theorem dL_law_1298 : decode cL_law 1298 = .ok (.aload_n 0, 1) := by decide +kernel
theorem dL_law_1299 : decode cL_law 1299 = .ok (.iload 4, 2) := by decide +kernel
theorem dL_law_1301 : decode cL_law 1301 = .ok (.iconst 1, 1) := by decide +kernel
theorem dL_law_1302 : decode cL_law 1302 = .ok (.iadd, 1) := by decide +kernel
theorem dL_law_1303 : decode cL_law 1303 = .ok (.iaload, 1) := by decide +kernel
theorem dL_law_1304 : decode cL_law 1304 = .ok (.aload_n 3, 1) := by decide +kernel
theorem dL_law_1305 : decode cL_law 1305 = .ok (.invokestatic 162, 3) := by decide +kernel
theorem dL_law_1308 : decode cL_law 1308 = .ok (.istore 5, 2) := by decide +kernel
theorem dL_law_1310 : decode cL_law 1310 = .ok (.aload_n 2, 1) := by decide +kernel
theorem dL_law_1311 : decode cL_law 1311 = .ok (.aload_n 0, 1) := by decide +kernel
theorem dL_law_1312 : decode cL_law 1312 = .ok (.iload 4, 2) := by decide +kernel
theorem dL_law_1314 : decode cL_law 1314 = .ok (.iconst 1, 1) := by decide +kernel
theorem dL_law_1315 : decode cL_law 1315 = .ok (.iadd, 1) := by decide +kernel
theorem dL_law_1316 : decode cL_law 1316 = .ok (.iaload, 1) := by decide +kernel
theorem dL_law_1317 : decode cL_law 1317 = .ok (.invokevirtual 164, 3) := by decide +kernel
theorem dL_law_1320 : decode cL_law 1320 = .ok (.istore 6, 2) := by decide +kernel
theorem dL_law_1322 : decode cL_law 1322 = .ok (.aload_n 2, 1) := by decide +kernel
theorem dL_law_1323 : decode cL_law 1323 = .ok (.invokevirtual 99, 3) := by decide +kernel
theorem dL_law_1326 : decode cL_law 1326 = .ok (.iload 5, 2) := by decide +kernel
theorem dL_law_1328 : decode cL_law 1328 = .ok (.if_icmp .eq 5, 3) := by decide +kernel
theorem dL_law_1331 : decode cL_law 1331 = .ok (.iconst 0, 1) := by decide +kernel
theorem dL_law_1332 : decode cL_law 1332 = .ok (.ireturn, 1) := by decide +kernel
theorem dL_law_1333 : decode cL_law 1333 = .ok (.iload 5, 2) := by decide +kernel
theorem dL_law_1335 : decode cL_law 1335 = .ok (.ifCond .ne 15, 3) := by decide +kernel
theorem dL_law_1338 : decode cL_law 1338 = .ok (.aload_n 3, 1) := by decide +kernel
theorem dL_law_1339 : decode cL_law 1339 = .ok (.iconst 0, 1) := by decide +kernel
theorem dL_law_1340 : decode cL_law 1340 = .ok (.laload, 1) := by decide +kernel
theorem dL_law_1341 : decode cL_law 1341 = .ok (.iload 6, 2) := by decide +kernel
theorem dL_law_1343 : decode cL_law 1343 = .ok (.i2l, 1) := by decide +kernel
theorem dL_law_1344 : decode cL_law 1344 = .ok (.lcmp, 1) := by decide +kernel
theorem dL_law_1345 : decode cL_law 1345 = .ok (.ifCond .eq 5, 3) := by decide +kernel
theorem dL_law_1348 : decode cL_law 1348 = .ok (.iconst 0, 1) := by decide +kernel
theorem dL_law_1349 : decode cL_law 1349 = .ok (.ireturn, 1) := by decide +kernel
theorem dL_law_1350 : decode cL_law 1350 = .ok (.goto 363, 3) := by decide +kernel
theorem dL_law_1353 : decode cL_law 1353 = .ok (.aload_n 1, 1) := by decide +kernel
theorem dL_law_1354 : decode cL_law 1354 = .ok (.aload_n 0, 1) := by decide +kernel
theorem dL_law_1355 : decode cL_law 1355 = .ok (.iload 4, 2) := by decide +kernel
theorem dL_law_1357 : decode cL_law 1357 = .ok (.iconst 1, 1) := by decide +kernel
theorem dL_law_1358 : decode cL_law 1358 = .ok (.iadd, 1) := by decide +kernel
theorem dL_law_1359 : decode cL_law 1359 = .ok (.iaload, 1) := by decide +kernel
theorem dL_law_1360 : decode cL_law 1360 = .ok (.aload_n 0, 1) := by decide +kernel
theorem dL_law_1361 : decode cL_law 1361 = .ok (.iload 4, 2) := by decide +kernel
theorem dL_law_1363 : decode cL_law 1363 = .ok (.iconst 2, 1) := by decide +kernel
theorem dL_law_1364 : decode cL_law 1364 = .ok (.iadd, 1) := by decide +kernel
theorem dL_law_1365 : decode cL_law 1365 = .ok (.iaload, 1) := by decide +kernel
theorem dL_law_1366 : decode cL_law 1366 = .ok (.aload_n 3, 1) := by decide +kernel
theorem dL_law_1367 : decode cL_law 1367 = .ok (.invokestatic 165, 3) := by decide +kernel
theorem dL_law_1370 : decode cL_law 1370 = .ok (.istore 5, 2) := by decide +kernel
theorem dL_law_1372 : decode cL_law 1372 = .ok (.aload_n 2, 1) := by decide +kernel
theorem dL_law_1373 : decode cL_law 1373 = .ok (.aload_n 0, 1) := by decide +kernel
theorem dL_law_1374 : decode cL_law 1374 = .ok (.iload 4, 2) := by decide +kernel
theorem dL_law_1376 : decode cL_law 1376 = .ok (.iconst 1, 1) := by decide +kernel
theorem dL_law_1377 : decode cL_law 1377 = .ok (.iadd, 1) := by decide +kernel
theorem dL_law_1378 : decode cL_law 1378 = .ok (.iaload, 1) := by decide +kernel
theorem dL_law_1379 : decode cL_law 1379 = .ok (.aload_n 0, 1) := by decide +kernel
theorem dL_law_1380 : decode cL_law 1380 = .ok (.iload 4, 2) := by decide +kernel
theorem dL_law_1382 : decode cL_law 1382 = .ok (.iconst 2, 1) := by decide +kernel
theorem dL_law_1383 : decode cL_law 1383 = .ok (.iadd, 1) := by decide +kernel
theorem dL_law_1384 : decode cL_law 1384 = .ok (.iaload, 1) := by decide +kernel
theorem dL_law_1385 : decode cL_law 1385 = .ok (.invokevirtual 167, 3) := by decide +kernel
theorem dL_law_1388 : decode cL_law 1388 = .ok (.istore 6, 2) := by decide +kernel
theorem dL_law_1390 : decode cL_law 1390 = .ok (.aload_n 2, 1) := by decide +kernel
theorem dL_law_1391 : decode cL_law 1391 = .ok (.invokevirtual 99, 3) := by decide +kernel
theorem dL_law_1394 : decode cL_law 1394 = .ok (.iload 5, 2) := by decide +kernel
theorem dL_law_1396 : decode cL_law 1396 = .ok (.if_icmp .eq 5, 3) := by decide +kernel
theorem dL_law_1399 : decode cL_law 1399 = .ok (.iconst 0, 1) := by decide +kernel
theorem dL_law_1400 : decode cL_law 1400 = .ok (.ireturn, 1) := by decide +kernel
theorem dL_law_1401 : decode cL_law 1401 = .ok (.iload 5, 2) := by decide +kernel
theorem dL_law_1403 : decode cL_law 1403 = .ok (.ifCond .ne 15, 3) := by decide +kernel
theorem dL_law_1406 : decode cL_law 1406 = .ok (.aload_n 3, 1) := by decide +kernel
theorem dL_law_1407 : decode cL_law 1407 = .ok (.iconst 0, 1) := by decide +kernel
theorem dL_law_1408 : decode cL_law 1408 = .ok (.laload, 1) := by decide +kernel
theorem dL_law_1409 : decode cL_law 1409 = .ok (.iload 6, 2) := by decide +kernel
theorem dL_law_1411 : decode cL_law 1411 = .ok (.i2l, 1) := by decide +kernel
theorem dL_law_1412 : decode cL_law 1412 = .ok (.lcmp, 1) := by decide +kernel
theorem dL_law_1413 : decode cL_law 1413 = .ok (.ifCond .eq 5, 3) := by decide +kernel
theorem dL_law_1416 : decode cL_law 1416 = .ok (.iconst 0, 1) := by decide +kernel
theorem dL_law_1417 : decode cL_law 1417 = .ok (.ireturn, 1) := by decide +kernel
theorem dL_law_1418 : decode cL_law 1418 = .ok (.goto 295, 3) := by decide +kernel
theorem dL_law_1421 : decode cL_law 1421 = .ok (.aload_n 1, 1) := by decide +kernel
theorem dL_law_1422 : decode cL_law 1422 = .ok (.aload_n 0, 1) := by decide +kernel
theorem dL_law_1423 : decode cL_law 1423 = .ok (.iload 4, 2) := by decide +kernel
theorem dL_law_1425 : decode cL_law 1425 = .ok (.iconst 1, 1) := by decide +kernel
theorem dL_law_1426 : decode cL_law 1426 = .ok (.iadd, 1) := by decide +kernel
theorem dL_law_1427 : decode cL_law 1427 = .ok (.iaload, 1) := by decide +kernel
theorem dL_law_1428 : decode cL_law 1428 = .ok (.aload_n 0, 1) := by decide +kernel
theorem dL_law_1429 : decode cL_law 1429 = .ok (.iload 4, 2) := by decide +kernel
theorem dL_law_1431 : decode cL_law 1431 = .ok (.iconst 2, 1) := by decide +kernel
theorem dL_law_1432 : decode cL_law 1432 = .ok (.iadd, 1) := by decide +kernel
theorem dL_law_1433 : decode cL_law 1433 = .ok (.iaload, 1) := by decide +kernel
theorem dL_law_1434 : decode cL_law 1434 = .ok (.aload_n 3, 1) := by decide +kernel
theorem dL_law_1435 : decode cL_law 1435 = .ok (.invokestatic 168, 3) := by decide +kernel
theorem dL_law_1438 : decode cL_law 1438 = .ok (.istore 5, 2) := by decide +kernel
theorem dL_law_1440 : decode cL_law 1440 = .ok (.aload_n 2, 1) := by decide +kernel
theorem dL_law_1441 : decode cL_law 1441 = .ok (.aload_n 0, 1) := by decide +kernel
theorem dL_law_1442 : decode cL_law 1442 = .ok (.iload 4, 2) := by decide +kernel
theorem dL_law_1444 : decode cL_law 1444 = .ok (.iconst 1, 1) := by decide +kernel
theorem dL_law_1445 : decode cL_law 1445 = .ok (.iadd, 1) := by decide +kernel
theorem dL_law_1446 : decode cL_law 1446 = .ok (.iaload, 1) := by decide +kernel
theorem dL_law_1447 : decode cL_law 1447 = .ok (.aload_n 0, 1) := by decide +kernel
theorem dL_law_1448 : decode cL_law 1448 = .ok (.iload 4, 2) := by decide +kernel
theorem dL_law_1450 : decode cL_law 1450 = .ok (.iconst 2, 1) := by decide +kernel
theorem dL_law_1451 : decode cL_law 1451 = .ok (.iadd, 1) := by decide +kernel
theorem dL_law_1452 : decode cL_law 1452 = .ok (.iaload, 1) := by decide +kernel
theorem dL_law_1453 : decode cL_law 1453 = .ok (.invokevirtual 170, 3) := by decide +kernel
theorem dL_law_1456 : decode cL_law 1456 = .ok (.istore 6, 2) := by decide +kernel
theorem dL_law_1458 : decode cL_law 1458 = .ok (.aload_n 2, 1) := by decide +kernel
theorem dL_law_1459 : decode cL_law 1459 = .ok (.invokevirtual 99, 3) := by decide +kernel
theorem dL_law_1462 : decode cL_law 1462 = .ok (.iload 5, 2) := by decide +kernel
theorem dL_law_1464 : decode cL_law 1464 = .ok (.if_icmp .eq 5, 3) := by decide +kernel
theorem dL_law_1467 : decode cL_law 1467 = .ok (.iconst 0, 1) := by decide +kernel
theorem dL_law_1468 : decode cL_law 1468 = .ok (.ireturn, 1) := by decide +kernel
theorem dL_law_1469 : decode cL_law 1469 = .ok (.iload 5, 2) := by decide +kernel
theorem dL_law_1471 : decode cL_law 1471 = .ok (.ifCond .ne 15, 3) := by decide +kernel
theorem dL_law_1474 : decode cL_law 1474 = .ok (.aload_n 3, 1) := by decide +kernel
theorem dL_law_1475 : decode cL_law 1475 = .ok (.iconst 0, 1) := by decide +kernel
theorem dL_law_1476 : decode cL_law 1476 = .ok (.laload, 1) := by decide +kernel
theorem dL_law_1477 : decode cL_law 1477 = .ok (.iload 6, 2) := by decide +kernel
theorem dL_law_1479 : decode cL_law 1479 = .ok (.i2l, 1) := by decide +kernel
theorem dL_law_1480 : decode cL_law 1480 = .ok (.lcmp, 1) := by decide +kernel
theorem dL_law_1481 : decode cL_law 1481 = .ok (.ifCond .eq 5, 3) := by decide +kernel
theorem dL_law_1484 : decode cL_law 1484 = .ok (.iconst 0, 1) := by decide +kernel
theorem dL_law_1485 : decode cL_law 1485 = .ok (.ireturn, 1) := by decide +kernel
theorem dL_law_1486 : decode cL_law 1486 = .ok (.goto 227, 3) := by decide +kernel
theorem dL_law_1489 : decode cL_law 1489 = .ok (.aload_n 1, 1) := by decide +kernel
theorem dL_law_1490 : decode cL_law 1490 = .ok (.aload_n 0, 1) := by decide +kernel
theorem dL_law_1491 : decode cL_law 1491 = .ok (.iload 4, 2) := by decide +kernel
theorem dL_law_1493 : decode cL_law 1493 = .ok (.iconst 1, 1) := by decide +kernel
theorem dL_law_1494 : decode cL_law 1494 = .ok (.iadd, 1) := by decide +kernel
theorem dL_law_1495 : decode cL_law 1495 = .ok (.iaload, 1) := by decide +kernel
theorem dL_law_1496 : decode cL_law 1496 = .ok (.aload_n 3, 1) := by decide +kernel
theorem dL_law_1497 : decode cL_law 1497 = .ok (.invokestatic 171, 3) := by decide +kernel
theorem dL_law_1500 : decode cL_law 1500 = .ok (.istore 5, 2) := by decide +kernel
theorem dL_law_1502 : decode cL_law 1502 = .ok (.aload_n 2, 1) := by decide +kernel
theorem dL_law_1503 : decode cL_law 1503 = .ok (.aload_n 0, 1) := by decide +kernel
theorem dL_law_1504 : decode cL_law 1504 = .ok (.iload 4, 2) := by decide +kernel
theorem dL_law_1506 : decode cL_law 1506 = .ok (.iconst 1, 1) := by decide +kernel
theorem dL_law_1507 : decode cL_law 1507 = .ok (.iadd, 1) := by decide +kernel
theorem dL_law_1508 : decode cL_law 1508 = .ok (.iaload, 1) := by decide +kernel
theorem dL_law_1509 : decode cL_law 1509 = .ok (.invokevirtual 173, 3) := by decide +kernel
theorem dL_law_1512 : decode cL_law 1512 = .ok (.istore 6, 2) := by decide +kernel
theorem dL_law_1514 : decode cL_law 1514 = .ok (.aload_n 2, 1) := by decide +kernel
theorem dL_law_1515 : decode cL_law 1515 = .ok (.invokevirtual 99, 3) := by decide +kernel
theorem dL_law_1518 : decode cL_law 1518 = .ok (.iload 5, 2) := by decide +kernel
theorem dL_law_1520 : decode cL_law 1520 = .ok (.if_icmp .eq 5, 3) := by decide +kernel
theorem dL_law_1523 : decode cL_law 1523 = .ok (.iconst 0, 1) := by decide +kernel
theorem dL_law_1524 : decode cL_law 1524 = .ok (.ireturn, 1) := by decide +kernel
theorem dL_law_1525 : decode cL_law 1525 = .ok (.iload 5, 2) := by decide +kernel
theorem dL_law_1527 : decode cL_law 1527 = .ok (.ifCond .ne 15, 3) := by decide +kernel
theorem dL_law_1530 : decode cL_law 1530 = .ok (.aload_n 3, 1) := by decide +kernel
theorem dL_law_1531 : decode cL_law 1531 = .ok (.iconst 0, 1) := by decide +kernel
theorem dL_law_1532 : decode cL_law 1532 = .ok (.laload, 1) := by decide +kernel
theorem dL_law_1533 : decode cL_law 1533 = .ok (.iload 6, 2) := by decide +kernel
theorem dL_law_1535 : decode cL_law 1535 = .ok (.i2l, 1) := by decide +kernel
theorem dL_law_1536 : decode cL_law 1536 = .ok (.lcmp, 1) := by decide +kernel
theorem dL_law_1537 : decode cL_law 1537 = .ok (.ifCond .eq 5, 3) := by decide +kernel
theorem dL_law_1540 : decode cL_law 1540 = .ok (.iconst 0, 1) := by decide +kernel
theorem dL_law_1541 : decode cL_law 1541 = .ok (.ireturn, 1) := by decide +kernel
theorem dL_law_1542 : decode cL_law 1542 = .ok (.goto 171, 3) := by decide +kernel
theorem dL_law_1545 : decode cL_law 1545 = .ok (.aload_n 1, 1) := by decide +kernel
theorem dL_law_1546 : decode cL_law 1546 = .ok (.aload_n 0, 1) := by decide +kernel
theorem dL_law_1547 : decode cL_law 1547 = .ok (.iload 4, 2) := by decide +kernel
theorem dL_law_1549 : decode cL_law 1549 = .ok (.iconst 1, 1) := by decide +kernel
theorem dL_law_1550 : decode cL_law 1550 = .ok (.iadd, 1) := by decide +kernel
theorem dL_law_1551 : decode cL_law 1551 = .ok (.iaload, 1) := by decide +kernel
theorem dL_law_1552 : decode cL_law 1552 = .ok (.aload_n 3, 1) := by decide +kernel
theorem dL_law_1553 : decode cL_law 1553 = .ok (.invokestatic 174, 3) := by decide +kernel
theorem dL_law_1556 : decode cL_law 1556 = .ok (.istore 5, 2) := by decide +kernel
theorem dL_law_1558 : decode cL_law 1558 = .ok (.aload_n 2, 1) := by decide +kernel
theorem dL_law_1559 : decode cL_law 1559 = .ok (.aload_n 0, 1) := by decide +kernel
theorem dL_law_1560 : decode cL_law 1560 = .ok (.iload 4, 2) := by decide +kernel
theorem dL_law_1562 : decode cL_law 1562 = .ok (.iconst 1, 1) := by decide +kernel
theorem dL_law_1563 : decode cL_law 1563 = .ok (.iadd, 1) := by decide +kernel
theorem dL_law_1564 : decode cL_law 1564 = .ok (.iaload, 1) := by decide +kernel
theorem dL_law_1565 : decode cL_law 1565 = .ok (.invokevirtual 176, 3) := by decide +kernel
theorem dL_law_1568 : decode cL_law 1568 = .ok (.istore 6, 2) := by decide +kernel
theorem dL_law_1570 : decode cL_law 1570 = .ok (.aload_n 2, 1) := by decide +kernel
theorem dL_law_1571 : decode cL_law 1571 = .ok (.invokevirtual 99, 3) := by decide +kernel
theorem dL_law_1574 : decode cL_law 1574 = .ok (.iload 5, 2) := by decide +kernel
theorem dL_law_1576 : decode cL_law 1576 = .ok (.if_icmp .eq 5, 3) := by decide +kernel
theorem dL_law_1579 : decode cL_law 1579 = .ok (.iconst 0, 1) := by decide +kernel
theorem dL_law_1580 : decode cL_law 1580 = .ok (.ireturn, 1) := by decide +kernel
theorem dL_law_1581 : decode cL_law 1581 = .ok (.iload 5, 2) := by decide +kernel
theorem dL_law_1583 : decode cL_law 1583 = .ok (.ifCond .ne 15, 3) := by decide +kernel
theorem dL_law_1586 : decode cL_law 1586 = .ok (.aload_n 3, 1) := by decide +kernel
theorem dL_law_1587 : decode cL_law 1587 = .ok (.iconst 0, 1) := by decide +kernel
theorem dL_law_1588 : decode cL_law 1588 = .ok (.laload, 1) := by decide +kernel
theorem dL_law_1589 : decode cL_law 1589 = .ok (.iload 6, 2) := by decide +kernel
theorem dL_law_1591 : decode cL_law 1591 = .ok (.i2l, 1) := by decide +kernel
theorem dL_law_1592 : decode cL_law 1592 = .ok (.lcmp, 1) := by decide +kernel
theorem dL_law_1593 : decode cL_law 1593 = .ok (.ifCond .eq 5, 3) := by decide +kernel
theorem dL_law_1596 : decode cL_law 1596 = .ok (.iconst 0, 1) := by decide +kernel
theorem dL_law_1597 : decode cL_law 1597 = .ok (.ireturn, 1) := by decide +kernel
theorem dL_law_1598 : decode cL_law 1598 = .ok (.goto 115, 3) := by decide +kernel
theorem dL_law_1601 : decode cL_law 1601 = .ok (.aload_n 1, 1) := by decide +kernel
theorem dL_law_1602 : decode cL_law 1602 = .ok (.aload_n 0, 1) := by decide +kernel
theorem dL_law_1603 : decode cL_law 1603 = .ok (.iload 4, 2) := by decide +kernel
theorem dL_law_1605 : decode cL_law 1605 = .ok (.iconst 1, 1) := by decide +kernel
theorem dL_law_1606 : decode cL_law 1606 = .ok (.iadd, 1) := by decide +kernel
theorem dL_law_1607 : decode cL_law 1607 = .ok (.iaload, 1) := by decide +kernel
theorem dL_law_1608 : decode cL_law 1608 = .ok (.aload_n 3, 1) := by decide +kernel
theorem dL_law_1609 : decode cL_law 1609 = .ok (.invokestatic 177, 3) := by decide +kernel
theorem dL_law_1612 : decode cL_law 1612 = .ok (.istore 5, 2) := by decide +kernel
theorem dL_law_1614 : decode cL_law 1614 = .ok (.aload_n 2, 1) := by decide +kernel
theorem dL_law_1615 : decode cL_law 1615 = .ok (.aload_n 0, 1) := by decide +kernel
theorem dL_law_1616 : decode cL_law 1616 = .ok (.iload 4, 2) := by decide +kernel
theorem dL_law_1618 : decode cL_law 1618 = .ok (.iconst 1, 1) := by decide +kernel
theorem dL_law_1619 : decode cL_law 1619 = .ok (.iadd, 1) := by decide +kernel
theorem dL_law_1620 : decode cL_law 1620 = .ok (.iaload, 1) := by decide +kernel
theorem dL_law_1621 : decode cL_law 1621 = .ok (.invokevirtual 179, 3) := by decide +kernel
theorem dL_law_1624 : decode cL_law 1624 = .ok (.istore 6, 2) := by decide +kernel
theorem dL_law_1626 : decode cL_law 1626 = .ok (.aload_n 2, 1) := by decide +kernel
theorem dL_law_1627 : decode cL_law 1627 = .ok (.invokevirtual 99, 3) := by decide +kernel
theorem dL_law_1630 : decode cL_law 1630 = .ok (.iload 5, 2) := by decide +kernel
theorem dL_law_1632 : decode cL_law 1632 = .ok (.if_icmp .eq 5, 3) := by decide +kernel
theorem dL_law_1635 : decode cL_law 1635 = .ok (.iconst 0, 1) := by decide +kernel
theorem dL_law_1636 : decode cL_law 1636 = .ok (.ireturn, 1) := by decide +kernel
theorem dL_law_1637 : decode cL_law 1637 = .ok (.iload 5, 2) := by decide +kernel
theorem dL_law_1639 : decode cL_law 1639 = .ok (.ifCond .ne 15, 3) := by decide +kernel
theorem dL_law_1642 : decode cL_law 1642 = .ok (.aload_n 3, 1) := by decide +kernel
theorem dL_law_1643 : decode cL_law 1643 = .ok (.iconst 0, 1) := by decide +kernel
theorem dL_law_1644 : decode cL_law 1644 = .ok (.laload, 1) := by decide +kernel
theorem dL_law_1645 : decode cL_law 1645 = .ok (.iload 6, 2) := by decide +kernel
theorem dL_law_1647 : decode cL_law 1647 = .ok (.i2l, 1) := by decide +kernel
theorem dL_law_1648 : decode cL_law 1648 = .ok (.lcmp, 1) := by decide +kernel
theorem dL_law_1649 : decode cL_law 1649 = .ok (.ifCond .eq 5, 3) := by decide +kernel
theorem dL_law_1652 : decode cL_law 1652 = .ok (.iconst 0, 1) := by decide +kernel
theorem dL_law_1653 : decode cL_law 1653 = .ok (.ireturn, 1) := by decide +kernel
theorem dL_law_1654 : decode cL_law 1654 = .ok (.goto 59, 3) := by decide +kernel
theorem dL_law_1657 : decode cL_law 1657 = .ok (.aload_n 1, 1) := by decide +kernel
theorem dL_law_1658 : decode cL_law 1658 = .ok (.aload_n 0, 1) := by decide +kernel
theorem dL_law_1659 : decode cL_law 1659 = .ok (.iload 4, 2) := by decide +kernel
theorem dL_law_1661 : decode cL_law 1661 = .ok (.iconst 1, 1) := by decide +kernel
theorem dL_law_1662 : decode cL_law 1662 = .ok (.iadd, 1) := by decide +kernel
theorem dL_law_1663 : decode cL_law 1663 = .ok (.iaload, 1) := by decide +kernel
theorem dL_law_1664 : decode cL_law 1664 = .ok (.aload_n 3, 1) := by decide +kernel
theorem dL_law_1665 : decode cL_law 1665 = .ok (.invokestatic 180, 3) := by decide +kernel
theorem dL_law_1668 : decode cL_law 1668 = .ok (.istore 5, 2) := by decide +kernel
theorem dL_law_1670 : decode cL_law 1670 = .ok (.aload_n 2, 1) := by decide +kernel
theorem dL_law_1671 : decode cL_law 1671 = .ok (.aload_n 0, 1) := by decide +kernel
theorem dL_law_1672 : decode cL_law 1672 = .ok (.iload 4, 2) := by decide +kernel
theorem dL_law_1674 : decode cL_law 1674 = .ok (.iconst 1, 1) := by decide +kernel
theorem dL_law_1675 : decode cL_law 1675 = .ok (.iadd, 1) := by decide +kernel
theorem dL_law_1676 : decode cL_law 1676 = .ok (.iaload, 1) := by decide +kernel
theorem dL_law_1677 : decode cL_law 1677 = .ok (.invokevirtual 182, 3) := by decide +kernel
theorem dL_law_1680 : decode cL_law 1680 = .ok (.istore 6, 2) := by decide +kernel
theorem dL_law_1682 : decode cL_law 1682 = .ok (.aload_n 2, 1) := by decide +kernel
theorem dL_law_1683 : decode cL_law 1683 = .ok (.invokevirtual 99, 3) := by decide +kernel
theorem dL_law_1686 : decode cL_law 1686 = .ok (.iload 5, 2) := by decide +kernel
theorem dL_law_1688 : decode cL_law 1688 = .ok (.if_icmp .eq 5, 3) := by decide +kernel
theorem dL_law_1691 : decode cL_law 1691 = .ok (.iconst 0, 1) := by decide +kernel
theorem dL_law_1692 : decode cL_law 1692 = .ok (.ireturn, 1) := by decide +kernel
theorem dL_law_1693 : decode cL_law 1693 = .ok (.iload 5, 2) := by decide +kernel
theorem dL_law_1695 : decode cL_law 1695 = .ok (.ifCond .ne 15, 3) := by decide +kernel
theorem dL_law_1698 : decode cL_law 1698 = .ok (.aload_n 3, 1) := by decide +kernel
theorem dL_law_1699 : decode cL_law 1699 = .ok (.iconst 0, 1) := by decide +kernel
theorem dL_law_1700 : decode cL_law 1700 = .ok (.laload, 1) := by decide +kernel
theorem dL_law_1701 : decode cL_law 1701 = .ok (.iload 6, 2) := by decide +kernel
theorem dL_law_1703 : decode cL_law 1703 = .ok (.i2l, 1) := by decide +kernel
theorem dL_law_1704 : decode cL_law 1704 = .ok (.lcmp, 1) := by decide +kernel
theorem dL_law_1705 : decode cL_law 1705 = .ok (.ifCond .eq 5, 3) := by decide +kernel
theorem dL_law_1708 : decode cL_law 1708 = .ok (.iconst 0, 1) := by decide +kernel
theorem dL_law_1709 : decode cL_law 1709 = .ok (.ireturn, 1) := by decide +kernel
theorem dL_law_1710 : decode cL_law 1710 = .ok (.goto 3, 3) := by decide +kernel
theorem dL_law_1713 : decode cL_law 1713 = .ok (.iinc 4 8, 3) := by decide +kernel
theorem dL_law_1716 : decode cL_law 1716 = .ok (.goto (-1693), 3) := by decide +kernel
theorem dL_law_1719 : decode cL_law 1719 = .ok (.iconst 1, 1) := by decide +kernel
theorem dL_law_1720 : decode cL_law 1720 = .ok (.ireturn, 1) := by decide +kernel
end
section
/-! THE WALK'S ROWS over a world that a state S draws (S.1: int fields by number, S.2: rows of ints by number); the mirror of a method is an option program over whole numbers -/
def WS : List Cond := lw_tbl.filter goodWord
theorem WS_in {w : Cond} (i : Nat) (h : lw_tbl[i]? = some w) (g : goodWord w = true) : w ∈ WS := List.mem_filter.mpr ⟨List.mem_of_getElem? h, g⟩
theorem WS_tbl : ∀ w ∈ WS, w ∈ lw_tbl := fun w h => (List.mem_filter.mp h).1
theorem WS_good {w : Cond} (h : w ∈ WS) : goodWord w = true := (List.mem_filter.mp h).2
theorem WS_sub {big ws : List Cond} (hb : ∀ w ∈ WS, w ∈ big) (h : ∀ w ∈ ws, w ∈ WS) : GoodIn big ws := fun w hw => ⟨hb w (h w hw), good_of_word (WS_good (h w hw))⟩
def zI (x : Int) : Int32 := Int32.ofInt x
abbrev inR (x : Int) : Prop := -2147483648 ≤ x ∧ x < 2147483648
abbrev zSt : Type := (Nat → Int) × (Nat → Int → Int)
abbrev zRes : Type := Int × zSt
def zA (a : Int → Int) : Nat → Int32 := fun j => zI (a (j : Int))
def zset (S : zSt) (j : Nat) (v : Int) : zSt := (fun q => if q = j then v else S.1 q, S.2)
def zput (S : zSt) (j : Nat) (i v : Int) : zSt := (S.1, fun q => if q = j then (fun t => if t = i then v else S.2 j t) else S.2 q)
def zfil (S : zSt) (j : Nat) (v : Int) : zSt := (S.1, fun q => if q = j then (fun _ => v) else S.2 q)
def RG (bs : List Nat) (S : zSt) : Prop := (∀ k, inR (S.1 k)) ∧ (∀ k j, inR (S.2 k j)) ∧ ∀ k ∈ bs, ∀ j, S.2 k j = 0 ∨ S.2 k j = 1
theorem RG_set {bs : List Nat} {S : zSt} (h : RG bs S) {j : Nat} {v : Int} (hv : inR v) : RG bs (zset S j v) := by
  refine ⟨fun k => ?_, h.2⟩
  show inR (if k = j then v else S.1 k)
  by_cases e : k = j
  · rw [if_pos e]; exact hv
  · rw [if_neg e]; exact h.1 k
theorem RG_put {bs : List Nat} {S : zSt} (h : RG bs S) {j : Nat} {i v : Int} (hv : inR v) (hb : j ∈ bs → v = 0 ∨ v = 1) : RG bs (zput S j i v) := by
  have e1 : ∀ k t, (zput S j i v).2 k t = if k = j then (if t = i then v else S.2 j t) else S.2 k t := by
    intro k t
    show (if k = j then (fun t => if t = i then v else S.2 j t) else S.2 k) t = _
    by_cases e : k = j
    · rw [if_pos e, if_pos e]
    · rw [if_neg e, if_neg e]
  refine ⟨h.1, fun k t => ?_, fun k hk t => ?_⟩
  · rw [e1]
    by_cases e : k = j
    · rw [if_pos e]
      by_cases e2 : t = i
      · rw [if_pos e2]; exact hv
      · rw [if_neg e2]; exact h.2.1 j t
    · rw [if_neg e]; exact h.2.1 k t
  · rw [e1]
    by_cases e : k = j
    · rw [if_pos e]
      by_cases e2 : t = i
      · rw [if_pos e2]; exact hb (e ▸ hk)
      · rw [if_neg e2]; exact h.2.2 j (e ▸ hk) t
    · rw [if_neg e]; exact h.2.2 k hk t
theorem RG_fil {bs : List Nat} {S : zSt} (h : RG bs S) {j : Nat} {v : Int} (hv : inR v) (hb : j ∉ bs) : RG bs (zfil S j v) := by
  have e1 : ∀ k t, (zfil S j v).2 k t = if k = j then v else S.2 k t := by
    intro k t
    show (if k = j then (fun _ => v) else S.2 k) t = _
    by_cases e : k = j
    · rw [if_pos e, if_pos e]
    · rw [if_neg e, if_neg e]
  refine ⟨h.1, fun k t => ?_, fun k hk t => ?_⟩
  · rw [e1]
    by_cases e : k = j
    · rw [if_pos e]; exact hv
    · rw [if_neg e]; exact h.2.1 k t
  · rw [e1]
    by_cases e : k = j
    · exact absurd (e ▸ hk) hb
    · rw [if_neg e]; exact h.2.2 k hk t
-- the numbers
theorem zI_toInt {x : Int} (h : inR x) : (zI x).toInt = x := Int32.toInt_ofInt_of_le (by have := h.1; omega) (by have := h.2; omega)
theorem zI_of (x : Int32) : zI x.toInt = x := Int32.ofInt_toInt x
theorem inR_of (x : Int32) : inR x.toInt := ⟨by have := Int32.le_toInt x; omega, by have := Int32.toInt_lt x; omega⟩
theorem zI_lt {a b : Int} (ha : inR a) (hb : inR b) : zI a < zI b ↔ a < b := by rw [Int32.lt_iff_toInt_lt, zI_toInt ha, zI_toInt hb]
theorem zI_le {a b : Int} (ha : inR a) (hb : inR b) : zI a ≤ zI b ↔ a ≤ b := by rw [Int32.le_iff_toInt_le, zI_toInt ha, zI_toInt hb]
theorem zI_eq {a b : Int} (ha : inR a) (hb : inR b) : zI a = zI b ↔ a = b := ⟨fun h => by rw [← zI_toInt ha, h, zI_toInt hb], fun h => by rw [h]⟩
theorem zI_zero : (0 : Int32) = zI 0 := by decide
theorem inR_0 : inR 0 := by decide
theorem zI_add (a b : Int) : zI a + zI b = zI (a + b) := (Int32.ofInt_add a b).symm
theorem zI_sub (a b : Int) : zI a - zI b = zI (a - b) := (Int32.ofInt_sub a b).symm
theorem zI_mul (a b : Int) : zI a * zI b = zI (a * b) := (Int32.ofInt_mul a b).symm
theorem inR_div {a b : Int} (ha : inR a) (h0 : 0 ≤ a) (hb : 0 < b) : inR (a / b) := by
  have h1 : 0 ≤ a / b := Int.ediv_nonneg h0 (Int.le_of_lt hb)
  have h2 : a / b ≤ a := Int.ediv_le_self b h0
  have := ha.2
  exact ⟨by omega, by omega⟩
theorem inR_mod {a b : Int} (hb' : inR b) (hb : 0 < b) : inR (a % b) := by
  have h1 : 0 ≤ a % b := Int.emod_nonneg a (by omega)
  have h2 : a % b < b := Int.emod_lt_of_pos a hb
  have := hb'.2
  exact ⟨by omega, by omega⟩
theorem zI_div {a b : Int} (ha : inR a) (hb : inR b) (h0 : 0 ≤ a) (h1 : 0 < b) : zI a / zI b = zI (a / b) := by
  apply Int32.toInt_inj.mp
  have hne : zI b ≠ -1 := by
    intro h
    have : zI b = zI (-1) := h
    rw [zI_eq hb (by decide)] at this
    omega
  rw [Int32.toInt_div_of_ne_right _ _ hne, zI_toInt ha, zI_toInt hb, zI_toInt (inR_div ha h0 h1), Int.tdiv_eq_ediv_of_nonneg h0]
theorem zI_rem {a b : Int} (ha : inR a) (hb : inR b) (h0 : 0 ≤ a) (h1 : 0 < b) : zI a - zI a / zI b * zI b = zI (a % b) := by
  rw [zI_div ha hb h0 h1, zI_mul, zI_sub]
  congr 1
  have := Int.emod_add_mul_ediv a b
  have h2 : a / b * b = b * (a / b) := Int.mul_comm _ _
  omega
theorem zI_clamp {i : Int} (h : inR i) : (zI i).toNatClampNeg = i.toNat := by
  show (zI i).toInt.toNat = _
  rw [zI_toInt h]
theorem zvp_in {i : Int} {n : Nat} (hi : inR i) (h : 0 ≤ i ∧ i < (n : Int)) : vp_in (zI i) n := vp_in_iff.mpr (by rw [zI_toInt hi]; exact h)
theorem zA_at {a : Int → Int} {i : Int} (h0 : 0 ≤ i) : zA a i.toNat = zI (a i) := by
  show zI (a ((i.toNat : Nat) : Int)) = _
  rw [Int.toNat_of_nonneg h0]
theorem zA_put {a : Int → Int} {i v : Int} (h0 : 0 ≤ i) : upd (zA a) i.toNat (zI v) = zA (fun t => if t = i then v else a t) := by
  funext j
  show (if j = i.toNat then zI v else zI (a j)) = zI (if (j : Int) = i then v else a j)
  by_cases e : j = i.toNat
  · rw [if_pos e, if_pos (by omega)]
  · rw [if_neg e, if_neg (by omega)]
theorem zA_fil {v : Int} : (fun _ : Nat => zI v) = zA (fun _ => v) := rfl
theorem z01_nar {x : Int} (h : x = 0 ∨ x = 1) : vp_nar .boolean (zI x) = zI x := by
  rcases h with rfl | rfl <;> decide
theorem z01_narrow {x : Int} (h : x = 0 ∨ x = 1) : narrow .boolean (.int (zI x)) = .int (zI x) := by
  rcases h with rfl | rfl <;> decide
-- the mirror's words
section Words
variable {R : Type}
def zlt {α : Type} (e : α) (k : α → Option R) : Option R := k e
def zar (e : Int) (k : Int → Option R) : Option R := if inR e then k e else none
def zld (a : Int → Int) (n i : Int) (k : Int → Option R) : Option R := if 0 ≤ i ∧ i < n then k (a i) else none
def zst (S : zSt) (j : Nat) (n i v : Int) (k : zSt → Option R) : Option R := if 0 ≤ i ∧ i < n then k (zput S j i v) else none
def zbd (x : Option zRes) (k : Int → zSt → Option R) : Option R := match x with
  | none => none
  | some q => k q.1 q.2
def zdv (a b : Int) (k : Int → Option R) : Option R := if 0 ≤ a ∧ 0 < b then k (a / b) else none
def zrm (a b : Int) (k : Int → Option R) : Option R := if 0 ≤ a ∧ 0 < b then k (a % b) else none
def zc01 (x : Int) (k : Option R) : Option R := if x = 0 ∨ x = 1 then k else none
theorem zar_e {e : Int} {k : Int → Option R} {r : R} (h : zar e k = some r) : inR e ∧ k e = some r := by
  unfold zar at h
  by_cases c : inR e
  · rw [if_pos c] at h; exact ⟨c, h⟩
  · rw [if_neg c] at h; cases h
theorem zld_e {a : Int → Int} {n i : Int} {k : Int → Option R} {r : R} (h : zld a n i k = some r) : (0 ≤ i ∧ i < n) ∧ k (a i) = some r := by
  unfold zld at h
  by_cases c : 0 ≤ i ∧ i < n
  · rw [if_pos c] at h; exact ⟨c, h⟩
  · rw [if_neg c] at h; cases h
theorem zst_e {S : zSt} {j : Nat} {n i v : Int} {k : zSt → Option R} {r : R} (h : zst S j n i v k = some r) : (0 ≤ i ∧ i < n) ∧ k (zput S j i v) = some r := by
  unfold zst at h
  by_cases c : 0 ≤ i ∧ i < n
  · rw [if_pos c] at h; exact ⟨c, h⟩
  · rw [if_neg c] at h; cases h
theorem zdv_e {a b : Int} {k : Int → Option R} {r : R} (h : zdv a b k = some r) : (0 ≤ a ∧ 0 < b) ∧ k (a / b) = some r := by
  unfold zdv at h
  by_cases c : 0 ≤ a ∧ 0 < b
  · rw [if_pos c] at h; exact ⟨c, h⟩
  · rw [if_neg c] at h; cases h
theorem zrm_e {a b : Int} {k : Int → Option R} {r : R} (h : zrm a b k = some r) : (0 ≤ a ∧ 0 < b) ∧ k (a % b) = some r := by
  unfold zrm at h
  by_cases c : 0 ≤ a ∧ 0 < b
  · rw [if_pos c] at h; exact ⟨c, h⟩
  · rw [if_neg c] at h; cases h
theorem zc01_e {x : Int} {k : Option R} {r : R} (h : zc01 x k = some r) : (x = 0 ∨ x = 1) ∧ k = some r := by
  unfold zc01 at h
  by_cases c : x = 0 ∨ x = 1
  · rw [if_pos c] at h; exact ⟨c, h⟩
  · rw [if_neg c] at h; cases h
theorem zbd_e {x : Option zRes} {k : Int → zSt → Option R} {r : R} (h : zbd x k = some r) : ∃ (v : Int) (S : zSt), x = some (v, S) ∧ k v S = some r := by
  cases x with
  | none => cases h
  | some q => exact ⟨q.1, q.2, rfl, h⟩
theorem zif_e {c : Prop} [Decidable c] {A B : Option R} {r : R} (h : (if c then A else B) = some r) : (c → A = some r) ∧ (¬ c → B = some r) := ⟨fun q => by rw [if_pos q] at h; exact h, fun q => by rw [if_neg q] at h; exact h⟩

def zj0 (K : zSt → Option R) (body : (zSt → Option R) → Option R) : Option R := body K
theorem zj0_e {K : zSt → Option R} {body : (zSt → Option R) → Option R} {r : R} {PJ : zSt → Prop} {G : Prop} (h : zj0 K body = some r) (hK : ∀ (S : zSt), K  S = some r → PJ  S) (hb : ∀ K' : zSt → Option R, (∀ (S : zSt), K'  S = some r → PJ  S) → body K' = some r → G) : G := hb K hK h
noncomputable def zl0 (n : Nat) (F : (zSt → Option R) → zSt → Option R) : zSt → Option R := Nat.rec (motive := fun _ => zSt → Option R) (fun _ => none) (fun _ ih => F ih) n
theorem zl0_e {F : (zSt → Option R) → zSt → Option R} {r : R} (PJ : zSt → Prop) (hs : ∀ (rec : zSt → Option R) (S : zSt), (∀ (S : zSt), rec  S = some r → PJ  S) → F rec  S = some r → PJ  S) : ∀ (n : Nat) (S : zSt), zl0 n F  S = some r → PJ  S := by
  intro n
  induction n with
  | zero => intro  S h; cases h
  | succ n ih => intro  S h; exact hs (zl0 n F)  S ih h
def zj1 (K : Int → zSt → Option R) (body : (Int → zSt → Option R) → Option R) : Option R := body K
theorem zj1_e {K : Int → zSt → Option R} {body : (Int → zSt → Option R) → Option R} {r : R} {PJ : Int → zSt → Prop} {G : Prop} (h : zj1 K body = some r) (hK : ∀ (a0 : Int) (S : zSt), K a0 S = some r → PJ a0 S) (hb : ∀ K' : Int → zSt → Option R, (∀ (a0 : Int) (S : zSt), K' a0 S = some r → PJ a0 S) → body K' = some r → G) : G := hb K hK h
noncomputable def zl1 (n : Nat) (F : (Int → zSt → Option R) → Int → zSt → Option R) : Int → zSt → Option R := Nat.rec (motive := fun _ => Int → zSt → Option R) (fun _ _ => none) (fun _ ih => F ih) n
theorem zl1_e {F : (Int → zSt → Option R) → Int → zSt → Option R} {r : R} (PJ : Int → zSt → Prop) (hs : ∀ (rec : Int → zSt → Option R) (a0 : Int) (S : zSt), (∀ (a0 : Int) (S : zSt), rec a0 S = some r → PJ a0 S) → F rec a0 S = some r → PJ a0 S) : ∀ (n : Nat) (a0 : Int) (S : zSt), zl1 n F a0 S = some r → PJ a0 S := by
  intro n
  induction n with
  | zero => intro a0 S h; cases h
  | succ n ih => intro a0 S h; exact hs (zl1 n F) a0 S ih h
def zj2 (K : Int → Int → zSt → Option R) (body : (Int → Int → zSt → Option R) → Option R) : Option R := body K
theorem zj2_e {K : Int → Int → zSt → Option R} {body : (Int → Int → zSt → Option R) → Option R} {r : R} {PJ : Int → Int → zSt → Prop} {G : Prop} (h : zj2 K body = some r) (hK : ∀ (a0 a1 : Int) (S : zSt), K a0 a1 S = some r → PJ a0 a1 S) (hb : ∀ K' : Int → Int → zSt → Option R, (∀ (a0 a1 : Int) (S : zSt), K' a0 a1 S = some r → PJ a0 a1 S) → body K' = some r → G) : G := hb K hK h
noncomputable def zl2 (n : Nat) (F : (Int → Int → zSt → Option R) → Int → Int → zSt → Option R) : Int → Int → zSt → Option R := Nat.rec (motive := fun _ => Int → Int → zSt → Option R) (fun _ _ _ => none) (fun _ ih => F ih) n
theorem zl2_e {F : (Int → Int → zSt → Option R) → Int → Int → zSt → Option R} {r : R} (PJ : Int → Int → zSt → Prop) (hs : ∀ (rec : Int → Int → zSt → Option R) (a0 a1 : Int) (S : zSt), (∀ (a0 a1 : Int) (S : zSt), rec a0 a1 S = some r → PJ a0 a1 S) → F rec a0 a1 S = some r → PJ a0 a1 S) : ∀ (n : Nat) (a0 a1 : Int) (S : zSt), zl2 n F a0 a1 S = some r → PJ a0 a1 S := by
  intro n
  induction n with
  | zero => intro a0 a1 S h; cases h
  | succ n ih => intro a0 a1 S h; exact hs (zl2 n F) a0 a1 S ih h
def zj3 (K : Int → Int → Int → zSt → Option R) (body : (Int → Int → Int → zSt → Option R) → Option R) : Option R := body K
theorem zj3_e {K : Int → Int → Int → zSt → Option R} {body : (Int → Int → Int → zSt → Option R) → Option R} {r : R} {PJ : Int → Int → Int → zSt → Prop} {G : Prop} (h : zj3 K body = some r) (hK : ∀ (a0 a1 a2 : Int) (S : zSt), K a0 a1 a2 S = some r → PJ a0 a1 a2 S) (hb : ∀ K' : Int → Int → Int → zSt → Option R, (∀ (a0 a1 a2 : Int) (S : zSt), K' a0 a1 a2 S = some r → PJ a0 a1 a2 S) → body K' = some r → G) : G := hb K hK h
noncomputable def zl3 (n : Nat) (F : (Int → Int → Int → zSt → Option R) → Int → Int → Int → zSt → Option R) : Int → Int → Int → zSt → Option R := Nat.rec (motive := fun _ => Int → Int → Int → zSt → Option R) (fun _ _ _ _ => none) (fun _ ih => F ih) n
theorem zl3_e {F : (Int → Int → Int → zSt → Option R) → Int → Int → Int → zSt → Option R} {r : R} (PJ : Int → Int → Int → zSt → Prop) (hs : ∀ (rec : Int → Int → Int → zSt → Option R) (a0 a1 a2 : Int) (S : zSt), (∀ (a0 a1 a2 : Int) (S : zSt), rec a0 a1 a2 S = some r → PJ a0 a1 a2 S) → F rec a0 a1 a2 S = some r → PJ a0 a1 a2 S) : ∀ (n : Nat) (a0 a1 a2 : Int) (S : zSt), zl3 n F a0 a1 a2 S = some r → PJ a0 a1 a2 S := by
  intro n
  induction n with
  | zero => intro a0 a1 a2 S h; cases h
  | succ n ih => intro a0 a1 a2 S h; exact hs (zl3 n F) a0 a1 a2 S ih h
def zj4 (K : Int → Int → Int → Int → zSt → Option R) (body : (Int → Int → Int → Int → zSt → Option R) → Option R) : Option R := body K
theorem zj4_e {K : Int → Int → Int → Int → zSt → Option R} {body : (Int → Int → Int → Int → zSt → Option R) → Option R} {r : R} {PJ : Int → Int → Int → Int → zSt → Prop} {G : Prop} (h : zj4 K body = some r) (hK : ∀ (a0 a1 a2 a3 : Int) (S : zSt), K a0 a1 a2 a3 S = some r → PJ a0 a1 a2 a3 S) (hb : ∀ K' : Int → Int → Int → Int → zSt → Option R, (∀ (a0 a1 a2 a3 : Int) (S : zSt), K' a0 a1 a2 a3 S = some r → PJ a0 a1 a2 a3 S) → body K' = some r → G) : G := hb K hK h
noncomputable def zl4 (n : Nat) (F : (Int → Int → Int → Int → zSt → Option R) → Int → Int → Int → Int → zSt → Option R) : Int → Int → Int → Int → zSt → Option R := Nat.rec (motive := fun _ => Int → Int → Int → Int → zSt → Option R) (fun _ _ _ _ _ => none) (fun _ ih => F ih) n
theorem zl4_e {F : (Int → Int → Int → Int → zSt → Option R) → Int → Int → Int → Int → zSt → Option R} {r : R} (PJ : Int → Int → Int → Int → zSt → Prop) (hs : ∀ (rec : Int → Int → Int → Int → zSt → Option R) (a0 a1 a2 a3 : Int) (S : zSt), (∀ (a0 a1 a2 a3 : Int) (S : zSt), rec a0 a1 a2 a3 S = some r → PJ a0 a1 a2 a3 S) → F rec a0 a1 a2 a3 S = some r → PJ a0 a1 a2 a3 S) : ∀ (n : Nat) (a0 a1 a2 a3 : Int) (S : zSt), zl4 n F a0 a1 a2 a3 S = some r → PJ a0 a1 a2 a3 S := by
  intro n
  induction n with
  | zero => intro a0 a1 a2 a3 S h; cases h
  | succ n ih => intro a0 a1 a2 a3 S h; exact hs (zl4 n F) a0 a1 a2 a3 S ih h
def zj5 (K : Int → Int → Int → Int → Int → zSt → Option R) (body : (Int → Int → Int → Int → Int → zSt → Option R) → Option R) : Option R := body K
theorem zj5_e {K : Int → Int → Int → Int → Int → zSt → Option R} {body : (Int → Int → Int → Int → Int → zSt → Option R) → Option R} {r : R} {PJ : Int → Int → Int → Int → Int → zSt → Prop} {G : Prop} (h : zj5 K body = some r) (hK : ∀ (a0 a1 a2 a3 a4 : Int) (S : zSt), K a0 a1 a2 a3 a4 S = some r → PJ a0 a1 a2 a3 a4 S) (hb : ∀ K' : Int → Int → Int → Int → Int → zSt → Option R, (∀ (a0 a1 a2 a3 a4 : Int) (S : zSt), K' a0 a1 a2 a3 a4 S = some r → PJ a0 a1 a2 a3 a4 S) → body K' = some r → G) : G := hb K hK h
noncomputable def zl5 (n : Nat) (F : (Int → Int → Int → Int → Int → zSt → Option R) → Int → Int → Int → Int → Int → zSt → Option R) : Int → Int → Int → Int → Int → zSt → Option R := Nat.rec (motive := fun _ => Int → Int → Int → Int → Int → zSt → Option R) (fun _ _ _ _ _ _ => none) (fun _ ih => F ih) n
theorem zl5_e {F : (Int → Int → Int → Int → Int → zSt → Option R) → Int → Int → Int → Int → Int → zSt → Option R} {r : R} (PJ : Int → Int → Int → Int → Int → zSt → Prop) (hs : ∀ (rec : Int → Int → Int → Int → Int → zSt → Option R) (a0 a1 a2 a3 a4 : Int) (S : zSt), (∀ (a0 a1 a2 a3 a4 : Int) (S : zSt), rec a0 a1 a2 a3 a4 S = some r → PJ a0 a1 a2 a3 a4 S) → F rec a0 a1 a2 a3 a4 S = some r → PJ a0 a1 a2 a3 a4 S) : ∀ (n : Nat) (a0 a1 a2 a3 a4 : Int) (S : zSt), zl5 n F a0 a1 a2 a3 a4 S = some r → PJ a0 a1 a2 a3 a4 S := by
  intro n
  induction n with
  | zero => intro a0 a1 a2 a3 a4 S h; cases h
  | succ n ih => intro a0 a1 a2 a3 a4 S h; exact hs (zl5 n F) a0 a1 a2 a3 a4 S ih h
def zj6 (K : Int → Int → Int → Int → Int → Int → zSt → Option R) (body : (Int → Int → Int → Int → Int → Int → zSt → Option R) → Option R) : Option R := body K
theorem zj6_e {K : Int → Int → Int → Int → Int → Int → zSt → Option R} {body : (Int → Int → Int → Int → Int → Int → zSt → Option R) → Option R} {r : R} {PJ : Int → Int → Int → Int → Int → Int → zSt → Prop} {G : Prop} (h : zj6 K body = some r) (hK : ∀ (a0 a1 a2 a3 a4 a5 : Int) (S : zSt), K a0 a1 a2 a3 a4 a5 S = some r → PJ a0 a1 a2 a3 a4 a5 S) (hb : ∀ K' : Int → Int → Int → Int → Int → Int → zSt → Option R, (∀ (a0 a1 a2 a3 a4 a5 : Int) (S : zSt), K' a0 a1 a2 a3 a4 a5 S = some r → PJ a0 a1 a2 a3 a4 a5 S) → body K' = some r → G) : G := hb K hK h
noncomputable def zl6 (n : Nat) (F : (Int → Int → Int → Int → Int → Int → zSt → Option R) → Int → Int → Int → Int → Int → Int → zSt → Option R) : Int → Int → Int → Int → Int → Int → zSt → Option R := Nat.rec (motive := fun _ => Int → Int → Int → Int → Int → Int → zSt → Option R) (fun _ _ _ _ _ _ _ => none) (fun _ ih => F ih) n
theorem zl6_e {F : (Int → Int → Int → Int → Int → Int → zSt → Option R) → Int → Int → Int → Int → Int → Int → zSt → Option R} {r : R} (PJ : Int → Int → Int → Int → Int → Int → zSt → Prop) (hs : ∀ (rec : Int → Int → Int → Int → Int → Int → zSt → Option R) (a0 a1 a2 a3 a4 a5 : Int) (S : zSt), (∀ (a0 a1 a2 a3 a4 a5 : Int) (S : zSt), rec a0 a1 a2 a3 a4 a5 S = some r → PJ a0 a1 a2 a3 a4 a5 S) → F rec a0 a1 a2 a3 a4 a5 S = some r → PJ a0 a1 a2 a3 a4 a5 S) : ∀ (n : Nat) (a0 a1 a2 a3 a4 a5 : Int) (S : zSt), zl6 n F a0 a1 a2 a3 a4 a5 S = some r → PJ a0 a1 a2 a3 a4 a5 S := by
  intro n
  induction n with
  | zero => intro a0 a1 a2 a3 a4 a5 S h; cases h
  | succ n ih => intro a0 a1 a2 a3 a4 a5 S h; exact hs (zl6 n F) a0 a1 a2 a3 a4 a5 S ih h
def zj7 (K : Int → Int → Int → Int → Int → Int → Int → zSt → Option R) (body : (Int → Int → Int → Int → Int → Int → Int → zSt → Option R) → Option R) : Option R := body K
theorem zj7_e {K : Int → Int → Int → Int → Int → Int → Int → zSt → Option R} {body : (Int → Int → Int → Int → Int → Int → Int → zSt → Option R) → Option R} {r : R} {PJ : Int → Int → Int → Int → Int → Int → Int → zSt → Prop} {G : Prop} (h : zj7 K body = some r) (hK : ∀ (a0 a1 a2 a3 a4 a5 a6 : Int) (S : zSt), K a0 a1 a2 a3 a4 a5 a6 S = some r → PJ a0 a1 a2 a3 a4 a5 a6 S) (hb : ∀ K' : Int → Int → Int → Int → Int → Int → Int → zSt → Option R, (∀ (a0 a1 a2 a3 a4 a5 a6 : Int) (S : zSt), K' a0 a1 a2 a3 a4 a5 a6 S = some r → PJ a0 a1 a2 a3 a4 a5 a6 S) → body K' = some r → G) : G := hb K hK h
noncomputable def zl7 (n : Nat) (F : (Int → Int → Int → Int → Int → Int → Int → zSt → Option R) → Int → Int → Int → Int → Int → Int → Int → zSt → Option R) : Int → Int → Int → Int → Int → Int → Int → zSt → Option R := Nat.rec (motive := fun _ => Int → Int → Int → Int → Int → Int → Int → zSt → Option R) (fun _ _ _ _ _ _ _ _ => none) (fun _ ih => F ih) n
theorem zl7_e {F : (Int → Int → Int → Int → Int → Int → Int → zSt → Option R) → Int → Int → Int → Int → Int → Int → Int → zSt → Option R} {r : R} (PJ : Int → Int → Int → Int → Int → Int → Int → zSt → Prop) (hs : ∀ (rec : Int → Int → Int → Int → Int → Int → Int → zSt → Option R) (a0 a1 a2 a3 a4 a5 a6 : Int) (S : zSt), (∀ (a0 a1 a2 a3 a4 a5 a6 : Int) (S : zSt), rec a0 a1 a2 a3 a4 a5 a6 S = some r → PJ a0 a1 a2 a3 a4 a5 a6 S) → F rec a0 a1 a2 a3 a4 a5 a6 S = some r → PJ a0 a1 a2 a3 a4 a5 a6 S) : ∀ (n : Nat) (a0 a1 a2 a3 a4 a5 a6 : Int) (S : zSt), zl7 n F a0 a1 a2 a3 a4 a5 a6 S = some r → PJ a0 a1 a2 a3 a4 a5 a6 S := by
  intro n
  induction n with
  | zero => intro a0 a1 a2 a3 a4 a5 a6 S h; cases h
  | succ n ih => intro a0 a1 a2 a3 a4 a5 a6 S h; exact hs (zl7 n F) a0 a1 a2 a3 a4 a5 a6 S ih h
def zj8 (K : Int → Int → Int → Int → Int → Int → Int → Int → zSt → Option R) (body : (Int → Int → Int → Int → Int → Int → Int → Int → zSt → Option R) → Option R) : Option R := body K
theorem zj8_e {K : Int → Int → Int → Int → Int → Int → Int → Int → zSt → Option R} {body : (Int → Int → Int → Int → Int → Int → Int → Int → zSt → Option R) → Option R} {r : R} {PJ : Int → Int → Int → Int → Int → Int → Int → Int → zSt → Prop} {G : Prop} (h : zj8 K body = some r) (hK : ∀ (a0 a1 a2 a3 a4 a5 a6 a7 : Int) (S : zSt), K a0 a1 a2 a3 a4 a5 a6 a7 S = some r → PJ a0 a1 a2 a3 a4 a5 a6 a7 S) (hb : ∀ K' : Int → Int → Int → Int → Int → Int → Int → Int → zSt → Option R, (∀ (a0 a1 a2 a3 a4 a5 a6 a7 : Int) (S : zSt), K' a0 a1 a2 a3 a4 a5 a6 a7 S = some r → PJ a0 a1 a2 a3 a4 a5 a6 a7 S) → body K' = some r → G) : G := hb K hK h
noncomputable def zl8 (n : Nat) (F : (Int → Int → Int → Int → Int → Int → Int → Int → zSt → Option R) → Int → Int → Int → Int → Int → Int → Int → Int → zSt → Option R) : Int → Int → Int → Int → Int → Int → Int → Int → zSt → Option R := Nat.rec (motive := fun _ => Int → Int → Int → Int → Int → Int → Int → Int → zSt → Option R) (fun _ _ _ _ _ _ _ _ _ => none) (fun _ ih => F ih) n
theorem zl8_e {F : (Int → Int → Int → Int → Int → Int → Int → Int → zSt → Option R) → Int → Int → Int → Int → Int → Int → Int → Int → zSt → Option R} {r : R} (PJ : Int → Int → Int → Int → Int → Int → Int → Int → zSt → Prop) (hs : ∀ (rec : Int → Int → Int → Int → Int → Int → Int → Int → zSt → Option R) (a0 a1 a2 a3 a4 a5 a6 a7 : Int) (S : zSt), (∀ (a0 a1 a2 a3 a4 a5 a6 a7 : Int) (S : zSt), rec a0 a1 a2 a3 a4 a5 a6 a7 S = some r → PJ a0 a1 a2 a3 a4 a5 a6 a7 S) → F rec a0 a1 a2 a3 a4 a5 a6 a7 S = some r → PJ a0 a1 a2 a3 a4 a5 a6 a7 S) : ∀ (n : Nat) (a0 a1 a2 a3 a4 a5 a6 a7 : Int) (S : zSt), zl8 n F a0 a1 a2 a3 a4 a5 a6 a7 S = some r → PJ a0 a1 a2 a3 a4 a5 a6 a7 S := by
  intro n
  induction n with
  | zero => intro a0 a1 a2 a3 a4 a5 a6 a7 S h; cases h
  | succ n ih => intro a0 a1 a2 a3 a4 a5 a6 a7 S h; exact hs (zl8 n F) a0 a1 a2 a3 a4 a5 a6 a7 S ih h
end Words
-- the machine's place
abbrev zG : Type := Program × Launch × Env × Room × State × MethodId × Array Value × List Frame × Method × Code × (State → Prop) × va_G × (Nat → Prop) × Nat × Nat × Nat
def gl (Γ : zG) : Launch := Γ.2.1
def gD (Γ : zG) : va_G := Γ.2.2.2.2.2.2.2.2.2.2.2.1
def gA (Γ : zG) : Nat → Prop := Γ.2.2.2.2.2.2.2.2.2.2.2.2.1
def tyL (cI cZ : ClassId) : List (ClassId × FieldType) := [(cI, .int), (cZ, .boolean)]
/-- what a method's place has for good -/
def zF (Γ : zG) (w : zSt → va_W) (cI cZ : ClassId) (cc : ByteArray) (rm : Room) (nL' : Nat) (own : String) : Prop :=
  match Γ with
  | (p, _, _, R, s, m, args, _, _, c, _, D, A, k, n, nL) => p.tables.exec = Jvm.exec ∧ c.code = cc ∧ c.maxLocals = nL ∧ s.vm.findClass own = some m.cls ∧ (∀ w ∈ WS, w.before args s = true) ∧ va_K D vwCl (tyL cI cZ) s ∧ (∀ S, va_D A (w S)) ∧ R = rm ∧ k = 0 ∧ n = 0 ∧ nL = nL'
/-- from here (the world, the locals, the place, the stack) the machine comes to its end -/
def zk (Γ : zG) (w : zSt → va_W) (G : zSt → Prop) (S : zSt) (lv : List (Nat × Value)) (pc : Nat) (st : List Value) : Prop :=
  match Γ with
  | (p, l, e, R, s, m, args, below, meth, c, Q, D, A, k, n, nL) => G S → ∀ (H : Heap) (locs : List Loc) (ls : Array Slot), va_P D vwCl (w S) H → va_S A s.heap H locs → lv_has ls nL lv → W p l e R s m args below meth c H locs k n Q (F0 m pc ls st)
section Rows
variable {Γ : zG} {w : zSt → va_W} {cI cZ : ClassId} {cc : ByteArray} {rm : Room} {nL' : Nat} {own : String} {G : zSt → Prop} {S : zSt} {lv : List (Nat × Value)} {pc : Nat} {st : List Value}
theorem k_sub (ks : List Nat) {lv' : List (Nat × Value)} (hl : lv_pick lv ks = lv') (kk : zk Γ w G S lv' pc st) : zk Γ w G S lv pc st := by
  obtain ⟨p, l, e, R, s, m, args, below, meth, c, Q, D, A, k0, n0, nL⟩ := Γ
  intro hG H locs ls hP hS hh
  exact kk hG H locs ls hP hS (lv_sub hh ks hl)
theorem k_at {pc' : Nat} (e : pc = pc') (kk : zk Γ w G S lv pc' st) : zk Γ w G S lv pc st := e ▸ kk
theorem k_iconst (F : zF Γ w cI cZ cc rm nL' own) {n : Int} (hd : decode cc pc = .ok (.iconst n, 1)) (kk : zk Γ w G S lv (pc + 1) (.int (zI n) :: st)) : zk Γ w G S lv (pc) (st) := by
  obtain ⟨p, l, e, R, s, m, args, below, meth, c, Q, D, A, k0, n0, nL⟩ := Γ
  obtain ⟨hx, hb, hml, hown, hts, hK, hD, rfl, rfl, rfl, rfl⟩ := F
  intro hG H locs ls hP hS hh
  exact lv_iconst hx hb hd rfl (kk hG H locs ls hP hS hh)
theorem k_bipush (F : zF Γ w cI cZ cc rm nL' own) {n : Int} (hd : decode cc pc = .ok (.bipush n, 2)) (hv : (Int8.ofInt n).toInt32 = zI n) (kk : zk Γ w G S lv (pc + 2) (.int (zI n) :: st)) : zk Γ w G S lv (pc) (st) := by
  obtain ⟨p, l, e, R, s, m, args, below, meth, c, Q, D, A, k0, n0, nL⟩ := Γ
  obtain ⟨hx, hb, hml, hown, hts, hK, hD, rfl, rfl, rfl, rfl⟩ := F
  intro hG H locs ls hP hS hh
  exact lv_bipush hx hb hd hv (kk hG H locs ls hP hS hh)
theorem k_sipush (F : zF Γ w cI cZ cc rm nL' own) {n : Int} (hd : decode cc pc = .ok (.sipush n, 3)) (hv : (Int16.ofInt n).toInt32 = zI n) (kk : zk Γ w G S lv (pc + 3) (.int (zI n) :: st)) : zk Γ w G S lv (pc) (st) := by
  obtain ⟨p, l, e, R, s, m, args, below, meth, c, Q, D, A, k0, n0, nL⟩ := Γ
  obtain ⟨hx, hb, hml, hown, hts, hK, hD, rfl, rfl, rfl, rfl⟩ := F
  intro hG H locs ls hP hS hh
  exact lv_sipush hx hb hd hv (kk hG H locs ls hP hS hh)
theorem k_iload_n (F : zF Γ w cI cZ cc rm nL' own) {k : Fin 4} {i : Nat} {x : Int32} (hd : decode cc pc = .ok (.iload_n k, 1)) (hi : (k : Nat) = i) (j : Nat) (hl : lv[j]? = some (i, .int x)) (kk : zk Γ w G S lv (pc + 1) (.int x :: st)) : zk Γ w G S lv (pc) (st) := by
  obtain ⟨p, l, e, R, s, m, args, below, meth, c, Q, D, A, k0, n0, nL⟩ := Γ
  obtain ⟨hx, hb, hml, hown, hts, hK, hD, rfl, rfl, rfl, rfl⟩ := F
  intro hG H locs ls hP hS hh
  exact lv_iload_n hx hb hd hi (lv_at hh j hl) (kk hG H locs ls hP hS hh)
theorem k_iload (F : zF Γ w cI cZ cc rm nL' own) {i : Nat} {x : Int32} (hd : decode cc pc = .ok (.iload i, 2)) (j : Nat) (hl : lv[j]? = some (i, .int x)) (kk : zk Γ w G S lv (pc + 2) (.int x :: st)) : zk Γ w G S lv (pc) (st) := by
  obtain ⟨p, l, e, R, s, m, args, below, meth, c, Q, D, A, k0, n0, nL⟩ := Γ
  obtain ⟨hx, hb, hml, hown, hts, hK, hD, rfl, rfl, rfl, rfl⟩ := F
  intro hG H locs ls hP hS hh
  exact lv_iload hx hb hd (lv_at hh j hl) (kk hG H locs ls hP hS hh)
theorem k_aload_n (F : zF Γ w cI cZ cc rm nL' own) {k : Fin 4} {i : Nat} {x : Nat} (hd : decode cc pc = .ok (.aload_n k, 1)) (hi : (k : Nat) = i) (j : Nat) (hl : lv[j]? = some (i, .ref x)) (kk : zk Γ w G S lv (pc + 1) (.ref x :: st)) : zk Γ w G S lv (pc) (st) := by
  obtain ⟨p, l, e, R, s, m, args, below, meth, c, Q, D, A, k0, n0, nL⟩ := Γ
  obtain ⟨hx, hb, hml, hown, hts, hK, hD, rfl, rfl, rfl, rfl⟩ := F
  intro hG H locs ls hP hS hh
  exact lv_aload_n hx hb hd hi (lv_at hh j hl) (kk hG H locs ls hP hS hh)
theorem k_aload (F : zF Γ w cI cZ cc rm nL' own) {i : Nat} {x : Nat} (hd : decode cc pc = .ok (.aload i, 2)) (j : Nat) (hl : lv[j]? = some (i, .ref x)) (kk : zk Γ w G S lv (pc + 2) (.ref x :: st)) : zk Γ w G S lv (pc) (st) := by
  obtain ⟨p, l, e, R, s, m, args, below, meth, c, Q, D, A, k0, n0, nL⟩ := Γ
  obtain ⟨hx, hb, hml, hown, hts, hK, hD, rfl, rfl, rfl, rfl⟩ := F
  intro hG H locs ls hP hS hh
  exact lv_aload hx hb hd (lv_at hh j hl) (kk hG H locs ls hP hS hh)
theorem k_istore_n (F : zF Γ w cI cZ cc rm nL' own) {k : Fin 4} {i : Nat} {x : Int32} {lv' : List (Nat × Value)} (hd : decode cc pc = .ok (.istore_n k, 1)) (hi : (k : Nat) = i) (hn : i < nL') (hl : (i, Value.int x) :: lv.filter (fun q => !(q.1 == i) && !(q.1 + 1 == i && q.2.category == 2)) = lv') (kk : zk Γ w G S lv' (pc + 1) (st)) : zk Γ w G S lv (pc) (.int x :: st) := by
  obtain ⟨p, l, e, R, s, m, args, below, meth, c, Q, D, A, k0, n0, nL⟩ := Γ
  obtain ⟨hx, hb, hml, hown, hts, hK, hD, rfl, rfl, rfl, rfl⟩ := F
  intro hG H locs ls hP hS hh
  exact lv_istore_n hx hb hd hi hh hn hl (fun ls hl => kk hG H locs ls hP hS hl)
theorem k_istore (F : zF Γ w cI cZ cc rm nL' own) {i : Nat} {x : Int32} {lv' : List (Nat × Value)} (hd : decode cc pc = .ok (.istore i, 2)) (hn : i < nL') (hl : (i, Value.int x) :: lv.filter (fun q => !(q.1 == i) && !(q.1 + 1 == i && q.2.category == 2)) = lv') (kk : zk Γ w G S lv' (pc + 2) (st)) : zk Γ w G S lv (pc) (.int x :: st) := by
  obtain ⟨p, l, e, R, s, m, args, below, meth, c, Q, D, A, k0, n0, nL⟩ := Γ
  obtain ⟨hx, hb, hml, hown, hts, hK, hD, rfl, rfl, rfl, rfl⟩ := F
  intro hG H locs ls hP hS hh
  exact lv_istore hx hb hd hh hn hl (fun ls hl => kk hG H locs ls hP hS hl)
theorem k_astore_n (F : zF Γ w cI cZ cc rm nL' own) {k : Fin 4} {i : Nat} {x : Nat} {lv' : List (Nat × Value)} (hd : decode cc pc = .ok (.astore_n k, 1)) (hi : (k : Nat) = i) (hn : i < nL') (hl : (i, Value.ref x) :: lv.filter (fun q => !(q.1 == i) && !(q.1 + 1 == i && q.2.category == 2)) = lv') (kk : zk Γ w G S lv' (pc + 1) (st)) : zk Γ w G S lv (pc) (.ref x :: st) := by
  obtain ⟨p, l, e, R, s, m, args, below, meth, c, Q, D, A, k0, n0, nL⟩ := Γ
  obtain ⟨hx, hb, hml, hown, hts, hK, hD, rfl, rfl, rfl, rfl⟩ := F
  intro hG H locs ls hP hS hh
  exact lv_astore_n hx hb hd hi hh hn hl (fun ls hl => kk hG H locs ls hP hS hl)
theorem k_astore (F : zF Γ w cI cZ cc rm nL' own) {i : Nat} {x : Nat} {lv' : List (Nat × Value)} (hd : decode cc pc = .ok (.astore i, 2)) (hn : i < nL') (hl : (i, Value.ref x) :: lv.filter (fun q => !(q.1 == i) && !(q.1 + 1 == i && q.2.category == 2)) = lv') (kk : zk Γ w G S lv' (pc + 2) (st)) : zk Γ w G S lv (pc) (.ref x :: st) := by
  obtain ⟨p, l, e, R, s, m, args, below, meth, c, Q, D, A, k0, n0, nL⟩ := Γ
  obtain ⟨hx, hb, hml, hown, hts, hK, hD, rfl, rfl, rfl, rfl⟩ := F
  intro hG H locs ls hP hS hh
  exact lv_astore hx hb hd hh hn hl (fun ls hl => kk hG H locs ls hP hS hl)
theorem k_iinc (F : zF Γ w cI cZ cc rm nL' own) {R : Type} {r : R} {i k : Nat} {n x : Int} {K : Int → Option R} {lv' : Int → List (Nat × Value)} (hd : decode cc pc = .ok (.iinc i n, 3)) (hk : lv[k]? = some (i, .int (zI x))) (hn : i < nL') (hl : ∀ y, (i, Value.int (zI y)) :: lv.filter (fun q => !(q.1 == i) && !(q.1 + 1 == i && q.2.category == 2)) = lv' y) (h : zar (x + n) K = some r) (kk : ∀ y, inR y → K y = some r → zk Γ w G S (lv' y) (pc + 3) (st)) : zk Γ w G S lv (pc) (st) := by
  obtain ⟨p, l, e, R, s, m, args, below, meth, c, Q, D, A, k0, n0, nL⟩ := Γ
  obtain ⟨hx, hb, hml, hown, hts, hK, hD, rfl, rfl, rfl, rfl⟩ := F
  intro hG H locs ls hP hS hh
  obtain ⟨h1, h2⟩ := zar_e h
  exact lv_iinc hx hb hd hh hk (zI_add x n) hn (hl (x + n)) (fun ls hl => kk _ h1 h2 hG H locs ls hP hS hl)
theorem k_dup (F : zF Γ w cI cZ cc rm nL' own) {v : Value} (hd : decode cc pc = .ok (.dup, 1)) (hv : v.category = 1) (kk : zk Γ w G S lv (pc + 1) (v :: v :: st)) : zk Γ w G S lv (pc) (v :: st) := by
  obtain ⟨p, l, e, R, s, m, args, below, meth, c, Q, D, A, k0, n0, nL⟩ := Γ
  obtain ⟨hx, hb, hml, hown, hts, hK, hD, rfl, rfl, rfl, rfl⟩ := F
  intro hG H locs ls hP hS hh
  exact lv_dup hx hb hd hv (kk hG H locs ls hP hS hh)
theorem k_dup2 (F : zF Γ w cI cZ cc rm nL' own) {v u : Value} (hd : decode cc pc = .ok (.dup2, 1)) (hv : v.category = 1) (hu : u.category = 1) (kk : zk Γ w G S lv (pc + 1) (v :: u :: v :: u :: st)) : zk Γ w G S lv (pc) (v :: u :: st) := by
  obtain ⟨p, l, e, R, s, m, args, below, meth, c, Q, D, A, k0, n0, nL⟩ := Γ
  obtain ⟨hx, hb, hml, hown, hts, hK, hD, rfl, rfl, rfl, rfl⟩ := F
  intro hG H locs ls hP hS hh
  exact lv_dup2_11 hx hb hd hv hu (kk hG H locs ls hP hS hh)
theorem k_dup_x1 (F : zF Γ w cI cZ cc rm nL' own) {v u : Value} (hd : decode cc pc = .ok (.dup_x1, 1)) (hv : v.category = 1) (hu : u.category = 1) (kk : zk Γ w G S lv (pc + 1) (v :: u :: v :: st)) : zk Γ w G S lv (pc) (v :: u :: st) := by
  obtain ⟨p, l, e, R, s, m, args, below, meth, c, Q, D, A, k0, n0, nL⟩ := Γ
  obtain ⟨hx, hb, hml, hown, hts, hK, hD, rfl, rfl, rfl, rfl⟩ := F
  intro hG H locs ls hP hS hh
  exact lv_dup_x1 hx hb hd hv hu (kk hG H locs ls hP hS hh)
theorem k_goto (F : zF Γ w cI cZ cc rm nL' own) {off : Int} {tgt : Nat} (hd : decode cc pc = .ok (.goto off, 3)) (ht : (pc : Int) + off = (tgt : Int)) (kk : zk Γ w G S lv (tgt) (st)) : zk Γ w G S lv (pc) (st) := by
  obtain ⟨p, l, e, R, s, m, args, below, meth, c, Q, D, A, k0, n0, nL⟩ := Γ
  obtain ⟨hx, hb, hml, hown, hts, hK, hD, rfl, rfl, rfl, rfl⟩ := F
  intro hG H locs ls hP hS hh
  exact lv_goto hx hb hd ht (kk hG H locs ls hP hS hh)
theorem k_iadd (F : zF Γ w cI cZ cc rm nL' own) {R : Type} {r : R} {a b : Int} {K : Int → Option R} (hd : decode cc pc = .ok (.iadd, 1)) (h : zar (a + b) K = some r) (kk : ∀ x, inR x → K x = some r → zk Γ w G S lv (pc + 1) (.int (zI x) :: st)) : zk Γ w G S lv (pc) (.int (zI b) :: .int (zI a) :: st) := by
  obtain ⟨p, l, e, R, s, m, args, below, meth, c, Q, D, A, k0, n0, nL⟩ := Γ
  obtain ⟨hx, hb, hml, hown, hts, hK, hD, rfl, rfl, rfl, rfl⟩ := F
  intro hG H locs ls hP hS hh
  obtain ⟨h1, h2⟩ := zar_e h
  refine lv_iadd hx hb hd ?_
  rw [zI_add a b]
  exact kk _ h1 h2 hG H locs ls hP hS hh
theorem k_isub (F : zF Γ w cI cZ cc rm nL' own) {R : Type} {r : R} {a b : Int} {K : Int → Option R} (hd : decode cc pc = .ok (.isub, 1)) (h : zar (a - b) K = some r) (kk : ∀ x, inR x → K x = some r → zk Γ w G S lv (pc + 1) (.int (zI x) :: st)) : zk Γ w G S lv (pc) (.int (zI b) :: .int (zI a) :: st) := by
  obtain ⟨p, l, e, R, s, m, args, below, meth, c, Q, D, A, k0, n0, nL⟩ := Γ
  obtain ⟨hx, hb, hml, hown, hts, hK, hD, rfl, rfl, rfl, rfl⟩ := F
  intro hG H locs ls hP hS hh
  obtain ⟨h1, h2⟩ := zar_e h
  refine lv_isub hx hb hd ?_
  rw [zI_sub a b]
  exact kk _ h1 h2 hG H locs ls hP hS hh
theorem k_imul (F : zF Γ w cI cZ cc rm nL' own) {R : Type} {r : R} {a b : Int} {K : Int → Option R} (hd : decode cc pc = .ok (.imul, 1)) (h : zar (a * b) K = some r) (kk : ∀ x, inR x → K x = some r → zk Γ w G S lv (pc + 1) (.int (zI x) :: st)) : zk Γ w G S lv (pc) (.int (zI b) :: .int (zI a) :: st) := by
  obtain ⟨p, l, e, R, s, m, args, below, meth, c, Q, D, A, k0, n0, nL⟩ := Γ
  obtain ⟨hx, hb, hml, hown, hts, hK, hD, rfl, rfl, rfl, rfl⟩ := F
  intro hG H locs ls hP hS hh
  obtain ⟨h1, h2⟩ := zar_e h
  refine lv_imul hx hb hd ?_
  rw [zI_mul a b]
  exact kk _ h1 h2 hG H locs ls hP hS hh
theorem k_idiv (F : zF Γ w cI cZ cc rm nL' own) {R : Type} {r : R} {a b : Int} {K : Int → Option R} (ha : inR a) (hb9 : inR b) (hd : decode cc pc = .ok (.idiv, 1)) (h : zdv a b K = some r) (kk : ∀ x, inR x → K x = some r → zk Γ w G S lv (pc + 1) (.int (zI x) :: st)) : zk Γ w G S lv (pc) (.int (zI b) :: .int (zI a) :: st) := by
  obtain ⟨p, l, e, R, s, m, args, below, meth, c, Q, D, A, k0, n0, nL⟩ := Γ
  obtain ⟨hx, hb, hml, hown, hts, hK, hD, rfl, rfl, rfl, rfl⟩ := F
  intro hG H locs ls hP hS hh
  obtain ⟨⟨h0, h1⟩, h2⟩ := zdv_e h
  refine lv_idiv hx hb hd (fun q => ?_) ?_
  · rw [zI_zero, zI_eq hb9 inR_0] at q; omega
  rw [zI_div ha hb9 h0 h1]
  exact kk _ (inR_div ha h0 h1) h2 hG H locs ls hP hS hh
theorem k_irem (F : zF Γ w cI cZ cc rm nL' own) {R : Type} {r : R} {a b : Int} {K : Int → Option R} (ha : inR a) (hb9 : inR b) (hd : decode cc pc = .ok (.irem, 1)) (h : zrm a b K = some r) (kk : ∀ x, inR x → K x = some r → zk Γ w G S lv (pc + 1) (.int (zI x) :: st)) : zk Γ w G S lv (pc) (.int (zI b) :: .int (zI a) :: st) := by
  obtain ⟨p, l, e, R, s, m, args, below, meth, c, Q, D, A, k0, n0, nL⟩ := Γ
  obtain ⟨hx, hb, hml, hown, hts, hK, hD, rfl, rfl, rfl, rfl⟩ := F
  intro hG H locs ls hP hS hh
  obtain ⟨⟨h0, h1⟩, h2⟩ := zrm_e h
  refine lv_irem hx hb hd (fun q => ?_) ?_
  · rw [zI_zero, zI_eq hb9 inR_0] at q; omega
  rw [zI_rem ha hb9 h0 h1]
  exact kk _ (inR_mod hb9 h1) h2 hG H locs ls hP hS hh
theorem k_icmp_lt (F : zF Γ w cI cZ cc rm nL' own) {R : Type} {r : R} {a b : Int} {A B : Option R} {off : Int} {tgt : Nat} (ha : inR a) (hb9 : inR b) (hd : decode cc pc = .ok (.if_icmp .lt off, 3)) (ht : (pc : Int) + off = (tgt : Int)) (h : (if a < b then A else B) = some r) (kt : A = some r → zk Γ w G S lv (tgt) (st)) (kf : B = some r → zk Γ w G S lv (pc + 3) (st)) : zk Γ w G S lv (pc) (.int (zI b) :: .int (zI a) :: st) := by
  obtain ⟨p, l, e, R, s, m, args, below, meth, c, Q, D, A, k0, n0, nL⟩ := Γ
  obtain ⟨hx, hb, hml, hown, hts, hK, hD, rfl, rfl, rfl, rfl⟩ := F
  intro hG H locs ls hP hS hh
  obtain ⟨h1, h2⟩ := zif_e h
  exact lv_icmp_lt hx hb hd ht (fun q => kt (h1 ((zI_lt ha hb9).mp q)) hG H locs ls hP hS hh) (fun q => kf (h2 (fun z => q ((zI_lt ha hb9).mpr z))) hG H locs ls hP hS hh)
theorem k_if_lt (F : zF Γ w cI cZ cc rm nL' own) {R : Type} {r : R} {a : Int} {A B : Option R} {off : Int} {tgt : Nat} (ha : inR a) (hd : decode cc pc = .ok (.ifCond .lt off, 3)) (ht : (pc : Int) + off = (tgt : Int)) (h : (if a < 0 then A else B) = some r) (kt : A = some r → zk Γ w G S lv (tgt) (st)) (kf : B = some r → zk Γ w G S lv (pc + 3) (st)) : zk Γ w G S lv (pc) (.int (zI a) :: st) := by
  obtain ⟨p, l, e, R, s, m, args, below, meth, c, Q, D, A, k0, n0, nL⟩ := Γ
  obtain ⟨hx, hb, hml, hown, hts, hK, hD, rfl, rfl, rfl, rfl⟩ := F
  intro hG H locs ls hP hS hh
  obtain ⟨h1, h2⟩ := zif_e h
  have e := zI_lt ha inR_0
  rw [← zI_zero] at e
  exact lv_if_lt hx hb hd ht (fun q => kt (h1 (e.mp q)) hG H locs ls hP hS hh) (fun q => kf (h2 (fun z => q (e.mpr z))) hG H locs ls hP hS hh)
theorem k_icmp_ge (F : zF Γ w cI cZ cc rm nL' own) {R : Type} {r : R} {a b : Int} {A B : Option R} {off : Int} {tgt : Nat} (ha : inR a) (hb9 : inR b) (hd : decode cc pc = .ok (.if_icmp .ge off, 3)) (ht : (pc : Int) + off = (tgt : Int)) (h : (if b ≤ a then A else B) = some r) (kt : A = some r → zk Γ w G S lv (tgt) (st)) (kf : B = some r → zk Γ w G S lv (pc + 3) (st)) : zk Γ w G S lv (pc) (.int (zI b) :: .int (zI a) :: st) := by
  obtain ⟨p, l, e, R, s, m, args, below, meth, c, Q, D, A, k0, n0, nL⟩ := Γ
  obtain ⟨hx, hb, hml, hown, hts, hK, hD, rfl, rfl, rfl, rfl⟩ := F
  intro hG H locs ls hP hS hh
  obtain ⟨h1, h2⟩ := zif_e h
  exact lv_icmp_ge hx hb hd ht (fun q => kt (h1 ((zI_le hb9 ha).mp q)) hG H locs ls hP hS hh) (fun q => kf (h2 (fun z => q ((zI_le hb9 ha).mpr z))) hG H locs ls hP hS hh)
theorem k_if_ge (F : zF Γ w cI cZ cc rm nL' own) {R : Type} {r : R} {a : Int} {A B : Option R} {off : Int} {tgt : Nat} (ha : inR a) (hd : decode cc pc = .ok (.ifCond .ge off, 3)) (ht : (pc : Int) + off = (tgt : Int)) (h : (if 0 ≤ a then A else B) = some r) (kt : A = some r → zk Γ w G S lv (tgt) (st)) (kf : B = some r → zk Γ w G S lv (pc + 3) (st)) : zk Γ w G S lv (pc) (.int (zI a) :: st) := by
  obtain ⟨p, l, e, R, s, m, args, below, meth, c, Q, D, A, k0, n0, nL⟩ := Γ
  obtain ⟨hx, hb, hml, hown, hts, hK, hD, rfl, rfl, rfl, rfl⟩ := F
  intro hG H locs ls hP hS hh
  obtain ⟨h1, h2⟩ := zif_e h
  have e := zI_le inR_0 ha
  rw [← zI_zero] at e
  exact lv_if_ge hx hb hd ht (fun q => kt (h1 (e.mp q)) hG H locs ls hP hS hh) (fun q => kf (h2 (fun z => q (e.mpr z))) hG H locs ls hP hS hh)
theorem k_icmp_gt (F : zF Γ w cI cZ cc rm nL' own) {R : Type} {r : R} {a b : Int} {A B : Option R} {off : Int} {tgt : Nat} (ha : inR a) (hb9 : inR b) (hd : decode cc pc = .ok (.if_icmp .gt off, 3)) (ht : (pc : Int) + off = (tgt : Int)) (h : (if b < a then A else B) = some r) (kt : A = some r → zk Γ w G S lv (tgt) (st)) (kf : B = some r → zk Γ w G S lv (pc + 3) (st)) : zk Γ w G S lv (pc) (.int (zI b) :: .int (zI a) :: st) := by
  obtain ⟨p, l, e, R, s, m, args, below, meth, c, Q, D, A, k0, n0, nL⟩ := Γ
  obtain ⟨hx, hb, hml, hown, hts, hK, hD, rfl, rfl, rfl, rfl⟩ := F
  intro hG H locs ls hP hS hh
  obtain ⟨h1, h2⟩ := zif_e h
  exact lv_icmp_gt hx hb hd ht (fun q => kt (h1 ((zI_lt hb9 ha).mp q)) hG H locs ls hP hS hh) (fun q => kf (h2 (fun z => q ((zI_lt hb9 ha).mpr z))) hG H locs ls hP hS hh)
theorem k_if_gt (F : zF Γ w cI cZ cc rm nL' own) {R : Type} {r : R} {a : Int} {A B : Option R} {off : Int} {tgt : Nat} (ha : inR a) (hd : decode cc pc = .ok (.ifCond .gt off, 3)) (ht : (pc : Int) + off = (tgt : Int)) (h : (if 0 < a then A else B) = some r) (kt : A = some r → zk Γ w G S lv (tgt) (st)) (kf : B = some r → zk Γ w G S lv (pc + 3) (st)) : zk Γ w G S lv (pc) (.int (zI a) :: st) := by
  obtain ⟨p, l, e, R, s, m, args, below, meth, c, Q, D, A, k0, n0, nL⟩ := Γ
  obtain ⟨hx, hb, hml, hown, hts, hK, hD, rfl, rfl, rfl, rfl⟩ := F
  intro hG H locs ls hP hS hh
  obtain ⟨h1, h2⟩ := zif_e h
  have e := zI_lt inR_0 ha
  rw [← zI_zero] at e
  exact lv_if_gt hx hb hd ht (fun q => kt (h1 (e.mp q)) hG H locs ls hP hS hh) (fun q => kf (h2 (fun z => q (e.mpr z))) hG H locs ls hP hS hh)
theorem k_icmp_le (F : zF Γ w cI cZ cc rm nL' own) {R : Type} {r : R} {a b : Int} {A B : Option R} {off : Int} {tgt : Nat} (ha : inR a) (hb9 : inR b) (hd : decode cc pc = .ok (.if_icmp .le off, 3)) (ht : (pc : Int) + off = (tgt : Int)) (h : (if a ≤ b then A else B) = some r) (kt : A = some r → zk Γ w G S lv (tgt) (st)) (kf : B = some r → zk Γ w G S lv (pc + 3) (st)) : zk Γ w G S lv (pc) (.int (zI b) :: .int (zI a) :: st) := by
  obtain ⟨p, l, e, R, s, m, args, below, meth, c, Q, D, A, k0, n0, nL⟩ := Γ
  obtain ⟨hx, hb, hml, hown, hts, hK, hD, rfl, rfl, rfl, rfl⟩ := F
  intro hG H locs ls hP hS hh
  obtain ⟨h1, h2⟩ := zif_e h
  exact lv_icmp_le hx hb hd ht (fun q => kt (h1 ((zI_le ha hb9).mp q)) hG H locs ls hP hS hh) (fun q => kf (h2 (fun z => q ((zI_le ha hb9).mpr z))) hG H locs ls hP hS hh)
theorem k_if_le (F : zF Γ w cI cZ cc rm nL' own) {R : Type} {r : R} {a : Int} {A B : Option R} {off : Int} {tgt : Nat} (ha : inR a) (hd : decode cc pc = .ok (.ifCond .le off, 3)) (ht : (pc : Int) + off = (tgt : Int)) (h : (if a ≤ 0 then A else B) = some r) (kt : A = some r → zk Γ w G S lv (tgt) (st)) (kf : B = some r → zk Γ w G S lv (pc + 3) (st)) : zk Γ w G S lv (pc) (.int (zI a) :: st) := by
  obtain ⟨p, l, e, R, s, m, args, below, meth, c, Q, D, A, k0, n0, nL⟩ := Γ
  obtain ⟨hx, hb, hml, hown, hts, hK, hD, rfl, rfl, rfl, rfl⟩ := F
  intro hG H locs ls hP hS hh
  obtain ⟨h1, h2⟩ := zif_e h
  have e := zI_le ha inR_0
  rw [← zI_zero] at e
  exact lv_if_le hx hb hd ht (fun q => kt (h1 (e.mp q)) hG H locs ls hP hS hh) (fun q => kf (h2 (fun z => q (e.mpr z))) hG H locs ls hP hS hh)
theorem k_icmp_eq (F : zF Γ w cI cZ cc rm nL' own) {R : Type} {r : R} {a b : Int} {A B : Option R} {off : Int} {tgt : Nat} (ha : inR a) (hb9 : inR b) (hd : decode cc pc = .ok (.if_icmp .eq off, 3)) (ht : (pc : Int) + off = (tgt : Int)) (h : (if a = b then A else B) = some r) (kt : A = some r → zk Γ w G S lv (tgt) (st)) (kf : B = some r → zk Γ w G S lv (pc + 3) (st)) : zk Γ w G S lv (pc) (.int (zI b) :: .int (zI a) :: st) := by
  obtain ⟨p, l, e, R, s, m, args, below, meth, c, Q, D, A, k0, n0, nL⟩ := Γ
  obtain ⟨hx, hb, hml, hown, hts, hK, hD, rfl, rfl, rfl, rfl⟩ := F
  intro hG H locs ls hP hS hh
  obtain ⟨h1, h2⟩ := zif_e h
  exact lv_icmp_eq hx hb hd ht (fun q => kt (h1 ((zI_eq ha hb9).mp q)) hG H locs ls hP hS hh) (fun q => kf (h2 (fun z => q ((zI_eq ha hb9).mpr z))) hG H locs ls hP hS hh)
theorem k_if_eq (F : zF Γ w cI cZ cc rm nL' own) {R : Type} {r : R} {a : Int} {A B : Option R} {off : Int} {tgt : Nat} (ha : inR a) (hd : decode cc pc = .ok (.ifCond .eq off, 3)) (ht : (pc : Int) + off = (tgt : Int)) (h : (if a = 0 then A else B) = some r) (kt : A = some r → zk Γ w G S lv (tgt) (st)) (kf : B = some r → zk Γ w G S lv (pc + 3) (st)) : zk Γ w G S lv (pc) (.int (zI a) :: st) := by
  obtain ⟨p, l, e, R, s, m, args, below, meth, c, Q, D, A, k0, n0, nL⟩ := Γ
  obtain ⟨hx, hb, hml, hown, hts, hK, hD, rfl, rfl, rfl, rfl⟩ := F
  intro hG H locs ls hP hS hh
  obtain ⟨h1, h2⟩ := zif_e h
  have e := zI_eq ha inR_0
  rw [← zI_zero] at e
  exact lv_if_eq hx hb hd ht (fun q => kt (h1 (e.mp q)) hG H locs ls hP hS hh) (fun q => kf (h2 (fun z => q (e.mpr z))) hG H locs ls hP hS hh)
theorem k_icmp_ne (F : zF Γ w cI cZ cc rm nL' own) {R : Type} {r : R} {a b : Int} {A B : Option R} {off : Int} {tgt : Nat} (ha : inR a) (hb9 : inR b) (hd : decode cc pc = .ok (.if_icmp .ne off, 3)) (ht : (pc : Int) + off = (tgt : Int)) (h : (if a = b then B else A) = some r) (kt : A = some r → zk Γ w G S lv (tgt) (st)) (kf : B = some r → zk Γ w G S lv (pc + 3) (st)) : zk Γ w G S lv (pc) (.int (zI b) :: .int (zI a) :: st) := by
  obtain ⟨p, l, e, R, s, m, args, below, meth, c, Q, D, A, k0, n0, nL⟩ := Γ
  obtain ⟨hx, hb, hml, hown, hts, hK, hD, rfl, rfl, rfl, rfl⟩ := F
  intro hG H locs ls hP hS hh
  obtain ⟨h1, h2⟩ := zif_e h
  exact lv_icmp_ne hx hb hd ht (fun q => kt (h2 (fun z => q ((zI_eq ha hb9).mpr z))) hG H locs ls hP hS hh) (fun q => kf (h1 ((zI_eq ha hb9).mp q)) hG H locs ls hP hS hh)
theorem k_if_ne (F : zF Γ w cI cZ cc rm nL' own) {R : Type} {r : R} {a : Int} {A B : Option R} {off : Int} {tgt : Nat} (ha : inR a) (hd : decode cc pc = .ok (.ifCond .ne off, 3)) (ht : (pc : Int) + off = (tgt : Int)) (h : (if a = 0 then B else A) = some r) (kt : A = some r → zk Γ w G S lv (tgt) (st)) (kf : B = some r → zk Γ w G S lv (pc + 3) (st)) : zk Γ w G S lv (pc) (.int (zI a) :: st) := by
  obtain ⟨p, l, e, R, s, m, args, below, meth, c, Q, D, A, k0, n0, nL⟩ := Γ
  obtain ⟨hx, hb, hml, hown, hts, hK, hD, rfl, rfl, rfl, rfl⟩ := F
  intro hG H locs ls hP hS hh
  obtain ⟨h1, h2⟩ := zif_e h
  exact lv_if_ne hx hb hd ht (fun q => kt (h2 (fun z => q (by rw [z]; exact zI_zero.symm))) hG H locs ls hP hS hh) (fun q => kf (h1 ((zI_eq ha inR_0).mp (by rw [q]; exact zI_zero))) hG H locs ls hP hS hh)
theorem k_getR (F : zF Γ w cI cZ cc rm nL' own) {C : String} {T : u_T} {N ci idx : Nat} {a : Nat} (q0 : Nat) {fs : zSt → List Value} (k : Nat) (hin : ∀ w ∈ u_ws C T N, w ∈ WS) (he : ∀ S, (w S)[q0]? = some (a, .inr (ci, fs S))) (hc : vwCl[ci]? = some (C, T, N)) (hk : k < N) (hlink : (Cond.fieldLink own idx (T k).1 (T k).2.1 (T k).2.2.1) ∈ WS) {x : Nat} (hv : ∀ S, (fs S)[k]? = some (.ref x)) (hd : decode cc pc = .ok (.getfield idx, 3)) (kk : zk Γ w G S lv (pc + 3) (.ref x :: st)) : zk Γ w G S lv (pc) (.ref a :: st) := by
  obtain ⟨p, l, e, R, s, m, args, below, meth, c, Q, D, A, k0, n0, nL⟩ := Γ
  obtain ⟨hx, hb, hml, hown, hts, hK, hD, rfl, rfl, rfl, rfl⟩ := F
  intro hG H locs ls hP hS hh
  exact va_get hx hb hts hin hown hK hP q0 (he S) hc k hk (hts _ hlink) (fun _ h9 => h9) (hv S) hd (kk hG H locs ls hP hS hh)
theorem k_getI (F : zF Γ w cI cZ cc rm nL' own) {R : Type} {r : R} {j : Nat} {bs : List Nat} {K : Int → Option R} (hGR : G = RG bs) {C : String} {T : u_T} {N ci idx : Nat} {a : Nat} (q0 : Nat) {fs : zSt → List Value} (k : Nat) (hin : ∀ w ∈ u_ws C T N, w ∈ WS) (he : ∀ S, (w S)[q0]? = some (a, .inr (ci, fs S))) (hc : vwCl[ci]? = some (C, T, N)) (hk : k < N) (hlink : (Cond.fieldLink own idx (T k).1 (T k).2.1 (T k).2.2.1) ∈ WS) (hv : ∀ S, (fs S)[k]? = some (.int (zI (S.1 j)))) (hd : decode cc pc = .ok (.getfield idx, 3)) (h : zlt (S.1 j) K = some r) (kk : ∀ x, inR x → K x = some r → zk Γ w G S lv (pc + 3) (.int (zI x) :: st)) : zk Γ w G S lv (pc) (.ref a :: st) := by
  obtain ⟨p, l, e, R, s, m, args, below, meth, c, Q, D, A, k0, n0, nL⟩ := Γ
  obtain ⟨hx, hb, hml, hown, hts, hK, hD, rfl, rfl, rfl, rfl⟩ := F
  intro hG H locs ls hP hS hh
  subst hGR
  exact va_get hx hb hts hin hown hK hP q0 (he S) hc k hk (hts _ hlink) (fun _ h9 => h9) (hv S) hd (kk _ (hG.1 j) h hG H locs ls hP hS hh)
theorem k_putI (F : zF Γ w cI cZ cc rm nL' own) {R : Type} {r : R} {j : Nat} {bs : List Nat} {v : Int} {K : zSt → Option R} (hGR : G = RG bs) {C : String} {T : u_T} {N ci idx : Nat} {a : Nat} (q0 : Nat) {fs : zSt → List Value} (k : Nat) (hin : ∀ w ∈ u_ws C T N, w ∈ WS) (he : ∀ S, (w S)[q0]? = some (a, .inr (ci, fs S))) (hc : vwCl[ci]? = some (C, T, N)) (hk : k < N) (hlink : (Cond.fieldLink own idx (T k).1 (T k).2.1 (T k).2.2.1) ∈ WS) (ty0 : Nat → FieldType) (hty : ∀ k, k < N → parseFieldDescriptor (T k).2.2.1 = some (ty0 k)) (hnm : ∀ a, a < N → ∀ b, b < N → a ≠ b → (T a).2.1 ≠ (T b).2.1) (hfin : (T k).2.2.2 = false) (hI : parseFieldDescriptor (T k).2.2.1 = some .int) (hl : ∀ S, k < (fs S).length) (hs : ∀ S v, (w S).set q0 (a, .inr (ci, (fs S).set k (.int (zI v)))) = w (zset S j v)) (hr : inR v) (hd : decode cc pc = .ok (.putfield idx, 3)) (h : zlt (zset S j v) K = some r) (kk : ∀ S, K S = some r → zk Γ w G S lv (pc + 3) (st)) : zk Γ w G S lv (pc) (.int (zI v) :: .ref a :: st) := by
  obtain ⟨p, l, e, R, s, m, args, below, meth, c, Q, D, A, k0, n0, nL⟩ := Γ
  obtain ⟨hx, hb, hml, hown, hts, hK, hD, rfl, rfl, rfl, rfl⟩ := F
  intro hG H locs ls hP hS hh
  subst hGR
  refine va_put hx hb hts hin ty0 hty hnm hown hK hP (hD S) hS q0 (he S) hc k hk (hts _ hlink) (fun _ h9 => h9) hfin hI rfl rfl (hl S) hd (fun H1 locs1 hP1 hD1 hS1 => ?_)
  rw [hs] at hP1
  exact kk _ h (RG_set hG hr) H1 locs1 ls hP1 hS1 hh
theorem k_iald (F : zF Γ w cI cZ cc rm nL' own) {a j n : Nat} {R : Type} {r : R} {bs : List Nat} (hGR : G = RG bs) (q0 : Nat) {i : Int} {K : Int → Option R} (ha : ∀ S, (w S)[q0]? = some (a, .inl (cI, n, .inl (zA (S.2 j))))) (hi : inR i) (hd : decode cc pc = .ok (.iaload, 1)) (h : zld (S.2 j) (n : Int) i K = some r) (kk : ∀ x, inR x → K x = some r → zk Γ w G S lv (pc + 1) (.int (zI x) :: st)) : zk Γ w G S lv (pc) (.int (zI i) :: .ref a :: st) := by
  obtain ⟨p, l, e, R, s, m, args, below, meth, c, Q, D, A, k0, n0, nL⟩ := Γ
  obtain ⟨hx, hb, hml, hown, hts, hK, hD, rfl, rfl, rfl, rfl⟩ := F
  intro hG H locs ls hP hS hh
  subst hGR
  obtain ⟨h1, h2⟩ := zld_e h
  refine va_iald hx hb hK hP q0 0 (ha S) rfl (zvp_in hi h1) hd ?_
  rw [zI_clamp hi, zA_at h1.1]
  exact kk _ (hG.2.1 j i) h2 hG H locs ls hP hS hh
theorem k_zald (F : zF Γ w cI cZ cc rm nL' own) {a j n : Nat} {R : Type} {r : R} {bs : List Nat} (hGR : G = RG bs) (q0 : Nat) {i : Int} {K : Int → Option R} (ha : ∀ S, (w S)[q0]? = some (a, .inl (cZ, n, .inl (zA (S.2 j))))) (hi : inR i) (hd : decode cc pc = .ok (.baload, 1)) (h : zld (S.2 j) (n : Int) i K = some r) (kk : ∀ x, inR x → K x = some r → zk Γ w G S lv (pc + 1) (.int (zI x) :: st)) : zk Γ w G S lv (pc) (.int (zI i) :: .ref a :: st) := by
  obtain ⟨p, l, e, R, s, m, args, below, meth, c, Q, D, A, k0, n0, nL⟩ := Γ
  obtain ⟨hx, hb, hml, hown, hts, hK, hD, rfl, rfl, rfl, rfl⟩ := F
  intro hG H locs ls hP hS hh
  subst hGR
  obtain ⟨h1, h2⟩ := zld_e h
  refine va_zald hx hb hK hP q0 1 (ha S) rfl (zvp_in hi h1) hd ?_
  rw [zI_clamp hi, zA_at h1.1]
  exact kk _ (hG.2.1 j i) h2 hG H locs ls hP hS hh
theorem k_zald01 (F : zF Γ w cI cZ cc rm nL' own) {a j n : Nat} {R : Type} {r : R} {bs : List Nat} (hGR : G = RG bs) (q0 : Nat) {i : Int} {K : Int → Option R} (hj : j ∈ bs) (ha : ∀ S, (w S)[q0]? = some (a, .inl (cZ, n, .inl (zA (S.2 j))))) (hi : inR i) (hd : decode cc pc = .ok (.baload, 1)) (h : zld (S.2 j) (n : Int) i K = some r) (kk : ∀ x, inR x → (x = 0 ∨ x = 1) → K x = some r → zk Γ w G S lv (pc + 1) (.int (zI x) :: st)) : zk Γ w G S lv (pc) (.int (zI i) :: .ref a :: st) := by
  obtain ⟨p, l, e, R, s, m, args, below, meth, c, Q, D, A, k0, n0, nL⟩ := Γ
  obtain ⟨hx, hb, hml, hown, hts, hK, hD, rfl, rfl, rfl, rfl⟩ := F
  intro hG H locs ls hP hS hh
  subst hGR
  obtain ⟨h1, h2⟩ := zld_e h
  refine va_zald hx hb hK hP q0 1 (ha S) rfl (zvp_in hi h1) hd ?_
  rw [zI_clamp hi, zA_at h1.1]
  exact kk _ (hG.2.1 j i) (hG.2.2 j hj i) h2 hG H locs ls hP hS hh
theorem k_iast (F : zF Γ w cI cZ cc rm nL' own) {a j n : Nat} {R : Type} {r : R} {bs : List Nat} (hGR : G = RG bs) (q0 : Nat) {i v : Int} {K : zSt → Option R} (ha : ∀ S, (w S)[q0]? = some (a, .inl (cI, n, .inl (zA (S.2 j))))) (hs : ∀ S i v, 0 ≤ i → (w S).set q0 (a, .inl (cI, n, .inl (upd (zA (S.2 j)) i.toNat (zI v)))) = w (zput S j i v)) (hj : j ∉ bs) (hi : inR i) (hv : inR v) (hd : decode cc pc = .ok (.iastore, 1)) (h : zst S j (n : Int) i v K = some r) (kk : ∀ S, K S = some r → zk Γ w G S lv (pc + 1) (st)) : zk Γ w G S lv (pc) (.int (zI v) :: .int (zI i) :: .ref a :: st) := by
  obtain ⟨p, l, e, R, s, m, args, below, meth, c, Q, D, A, k0, n0, nL⟩ := Γ
  obtain ⟨hx, hb, hml, hown, hts, hK, hD, rfl, rfl, rfl, rfl⟩ := F
  intro hG H locs ls hP hS hh
  subst hGR
  obtain ⟨h1, h2⟩ := zst_e h
  refine va_iast hx hb hK hP (hD S) hS q0 0 (ha S) rfl (zvp_in hi h1) hd (fun H1 locs1 hP1 hD1 hS1 => ?_)
  rw [zI_clamp hi, hs S i v h1.1] at hP1
  exact kk _ h2 (RG_put hG hv (fun q => absurd q hj)) H1 locs1 ls hP1 hS1 hh
theorem k_zast (F : zF Γ w cI cZ cc rm nL' own) {a j n : Nat} {R : Type} {r : R} {bs : List Nat} (hGR : G = RG bs) (q0 : Nat) {i v : Int} {K : zSt → Option R} (ha : ∀ S, (w S)[q0]? = some (a, .inl (cZ, n, .inl (zA (S.2 j))))) (hs : ∀ S i v, 0 ≤ i → (w S).set q0 (a, .inl (cZ, n, .inl (upd (zA (S.2 j)) i.toNat (zI v)))) = w (zput S j i v)) (hi : inR i) (hv : v = 0 ∨ v = 1) (hd : decode cc pc = .ok (.bastore, 1)) (h : zst S j (n : Int) i v K = some r) (kk : ∀ S, K S = some r → zk Γ w G S lv (pc + 1) (st)) : zk Γ w G S lv (pc) (.int (zI v) :: .int (zI i) :: .ref a :: st) := by
  obtain ⟨p, l, e, R, s, m, args, below, meth, c, Q, D, A, k0, n0, nL⟩ := Γ
  obtain ⟨hx, hb, hml, hown, hts, hK, hD, rfl, rfl, rfl, rfl⟩ := F
  intro hG H locs ls hP hS hh
  subst hGR
  obtain ⟨h1, h2⟩ := zst_e h
  refine va_zast hx hb hK hP (hD S) hS q0 1 (ha S) rfl (zvp_in hi h1) hd (fun H1 locs1 hP1 hD1 hS1 => ?_)
  rw [zI_clamp hi, z01_nar hv, hs S i v h1.1] at hP1
  exact kk _ h2 (RG_put hG (by rcases hv with rfl | rfl <;> decide) (fun _ => hv)) H1 locs1 ls hP1 hS1 hh
theorem k_alen (F : zF Γ w cI cZ cc rm nL' own) {a j n : Nat} (q0 : Nat) (ha : ∀ S, (w S)[q0]? = some (a, .inl (cI, n, .inl (zA (S.2 j))))) (hn : Int32.ofNat n = zI (n : Int)) (hd : decode cc pc = .ok (.arraylength, 1)) (kk : zk Γ w G S lv (pc + 1) (.int (zI (n : Int)) :: st)) : zk Γ w G S lv (pc) (.ref a :: st) := by
  obtain ⟨p, l, e, R, s, m, args, below, meth, c, Q, D, A, k0, n0, nL⟩ := Γ
  obtain ⟨hx, hb, hml, hown, hts, hK, hD, rfl, rfl, rfl, rfl⟩ := F
  intro hG H locs ls hP hS hh
  exact va_alen hx hb hK hP q0 0 (ha S) rfl hn hd (kk hG H locs ls hP hS hh)
end Rows
end
section
/-! CONTRACTS, CALLS, ENDS -/
def zMi (l : Launch) (y : MethodName) (cy : ByteArray) (mL : Nat) (ty : FieldType) (rm : Room) (D : va_G) (cI cZ : ClassId) (A : Nat → Prop) (w : zSt → va_W) (G : zSt → Prop) (av : List Value) (S : zSt) (x : Int) (S' : zSt) : Prop :=
  Met l y (.code y cy mL (some ty) :: WS) rm (va_Pc av (fun U => va_P D vwCl (w S) U.heap ∧ va_K D vwCl (tyL cI cZ) U)) (va_Qi (S := Unit) (fun r _ => r = zI x ∧ inR x ∧ G S' ∧ (ty = .boolean → x = 0 ∨ x = 1)) (fun _ t => va_P D vwCl (w S') t.heap) A) 0 0 A
def zMv (l : Launch) (y : MethodName) (cy : ByteArray) (mL : Nat) (rm : Room) (D : va_G) (cI cZ : ClassId) (A : Nat → Prop) (w : zSt → va_W) (G : zSt → Prop) (av : List Value) (S : zSt) (S' : zSt) : Prop :=
  Met l y (.code y cy mL none :: WS) rm (va_Pc av (fun U => va_P D vwCl (w S) U.heap ∧ va_K D vwCl (tyL cI cZ) U)) (va_Qv (S := Unit) (fun _ => G S') (fun _ t => va_P D vwCl (w S') t.heap) A) 0 0 A
/-- how the place ends: with an int, with nothing -/
def zQi (Γ : zG) (w : zSt → va_W) (G : zSt → Prop) (ty : FieldType) (x : Int) (S' : zSt) : Prop :=
  match Γ with
  | (_, _, _, _, s, _, args, below, meth, _, Q, D, A, _, _, _) => Q = MQ below (va_Qi (S := Unit) (fun r _ => r = zI x ∧ inR x ∧ G S' ∧ (ty = .boolean → x = 0 ∨ x = 1)) (fun _ t => va_P D vwCl (w S') t.heap) A) args s 0 0 A ∧ meth.sig.returnType = some ty ∧ meth.locks = false
def zQv (Γ : zG) (w : zSt → va_W) (G : zSt → Prop) (S' : zSt) : Prop :=
  match Γ with
  | (_, _, _, _, s, _, args, below, meth, _, Q, D, A, _, _, _) => Q = MQ below (va_Qv (S := Unit) (fun _ => G S') (fun _ t => va_P D vwCl (w S') t.heap) A) args s 0 0 A ∧ meth.sig.returnType = none ∧ meth.locks = false
section Ends
variable {Γ : zG} {w : zSt → va_W} {cI cZ : ClassId} {cc : ByteArray} {rm : Room} {nL' : Nat} {own : String} {G : zSt → Prop} {S : zSt} {lv : List (Nat × Value)} {pc : Nat} {st : List Value}
theorem k_iret (F : zF Γ w cI cZ cc rm nL' own) {x v : Int} {S' : zSt} (hQ : zQi Γ w G .int x S') (hv : inR v) (hd : decode cc pc = .ok (.ireturn, 1)) (h : some (v, S) = some (x, S')) : zk Γ w G S lv pc [.int (zI v)] := by
  obtain ⟨p, l, e, R, s, m, args, below, meth, c, Q, D, A, k0, n0, nL⟩ := Γ
  obtain ⟨hx, hb, hml, hown, hts, hK, hD, rfl, rfl, rfl, rfl⟩ := F
  obtain ⟨rfl, hr, hlk⟩ := hQ
  cases h
  intro hG H locs ls hP hS hh
  exact W.iret hx hb hr (fun t ht hW => ⟨⟨_, (), rfl, ⟨rfl, hv, hG, fun q => by cases q⟩, by show va_P D vwCl (w S) t.heap; rw [ht]; exact hP⟩, hS.F ht⟩) hS.2.2 hd hlk
theorem k_zret (F : zF Γ w cI cZ cc rm nL' own) {x v : Int} {S' : zSt} (hQ : zQi Γ w G .boolean x S') (hv : v = 0 ∨ v = 1) (hd : decode cc pc = .ok (.ireturn, 1)) (h : some (v, S) = some (x, S')) : zk Γ w G S lv pc [.int (zI v)] := by
  obtain ⟨p, l, e, R, s, m, args, below, meth, c, Q, D, A, k0, n0, nL⟩ := Γ
  obtain ⟨hx, hb, hml, hown, hts, hK, hD, rfl, rfl, rfl, rfl⟩ := F
  obtain ⟨rfl, hr, hlk⟩ := hQ
  cases h
  intro hG H locs ls hP hS hh
  exact W.zret hx hb hr (z01_narrow hv) (fun t ht hW => ⟨⟨_, (), rfl, ⟨rfl, by rcases hv with rfl | rfl <;> decide, hG, fun _ => hv⟩, by show va_P D vwCl (w S) t.heap; rw [ht]; exact hP⟩, hS.F ht⟩) hS.2.2 hd hlk
theorem k_vret (F : zF Γ w cI cZ cc rm nL' own) {x : Int} {S' : zSt} (hQ : zQv Γ w G S') (hd : decode cc pc = .ok (.return_, 1)) (h : some ((0 : Int), S) = some (x, S')) : zk Γ w G S lv pc [] := by
  obtain ⟨p, l, e, R, s, m, args, below, meth, c, Q, D, A, k0, n0, nL⟩ := Γ
  obtain ⟨hx, hb, hml, hown, hts, hK, hD, rfl, rfl, rfl, rfl⟩ := F
  obtain ⟨rfl, hr, hlk⟩ := hQ
  cases h
  intro hG H locs ls hP hS hh
  exact W.vret hx hb hr (fun t ht hW => ⟨⟨(), rfl, hG, by show va_P D vwCl (w S) t.heap; rw [ht]; exact hP⟩, hS.F ht⟩) hS.2.2 hd hlk
end Ends

theorem k_start_i {l : Launch} {y : MethodName} {cc : ByteArray} {maxL : Nat} {ty : FieldType} {rm : Room} {D : va_G} {cI cZ : ClassId} {A : Nat → Prop} {w : zSt → va_W} {G : zSt → Prop} {av : List Value} {S : zSt} {x : Int} {S' : zSt} (hy : plainName y.cls = true) (hD : ∀ S, va_D A (w S)) (hG : G S) (hlen : (lg_sl av).length ≤ maxL)
    (body : ∀ Γ : zG, zF Γ w cI cZ cc rm maxL y.cls → zQi Γ w G ty x S' → zk Γ w G S (lv_args 0 av) 0 []) : zMi l y cc maxL ty rm D cI cZ A w G av S x S' := by
  refine Met.ofW (cc := cc) (maxL := maxL) (ret := (some ty)) hy rfl ?_
  intro p e s m args below meth c s₁ B hml hv
  obtain ⟨rfl, hP, hK⟩ := hv
  have hts := atoms_spec (ws := .code y cc maxL (some ty) :: WS) B.pre
  have hown : s.vm.findClass y.cls = some m.cls := findClass_of_methodNamed B.named
  have hl := lv_entry av (n := maxL) hlen
  rw [lg_entry_eq]
  exact body (p, l, e, _, s, m, _, below, meth, c, _, D, A, 0, 0, maxL) ⟨B.exec, B.bytes, hml, hown, fun w hw => hts w (List.mem_cons_of_mem _ hw), hK, hD, rfl, rfl, rfl, rfl⟩ ⟨rfl, B.returns, B.notSynchronized⟩ hG s.heap [] _ hP va_S.rf hl
theorem k_start_v {l : Launch} {y : MethodName} {cc : ByteArray} {maxL : Nat} {rm : Room} {D : va_G} {cI cZ : ClassId} {A : Nat → Prop} {w : zSt → va_W} {G : zSt → Prop} {av : List Value} {S : zSt} {S' : zSt} (hy : plainName y.cls = true) (hD : ∀ S, va_D A (w S)) (hG : G S) (hlen : (lg_sl av).length ≤ maxL)
    (body : ∀ Γ : zG, zF Γ w cI cZ cc rm maxL y.cls → zQv Γ w G S' → zk Γ w G S (lv_args 0 av) 0 []) : zMv l y cc maxL rm D cI cZ A w G av S S' := by
  refine Met.ofW (cc := cc) (maxL := maxL) (ret := none) hy rfl ?_
  intro p e s m args below meth c s₁ B hml hv
  obtain ⟨rfl, hP, hK⟩ := hv
  have hts := atoms_spec (ws := .code y cc maxL none :: WS) B.pre
  have hown : s.vm.findClass y.cls = some m.cls := findClass_of_methodNamed B.named
  have hl := lv_entry av (n := maxL) hlen
  rw [lg_entry_eq]
  exact body (p, l, e, _, s, m, _, below, meth, c, _, D, A, 0, 0, maxL) ⟨B.exec, B.bytes, hml, hown, fun w hw => hts w (List.mem_cons_of_mem _ hw), hK, hD, rfl, rfl, rfl, rfl⟩ ⟨rfl, B.returns, B.notSynchronized⟩ hG s.heap [] _ hP va_S.rf hl
/-- a callee's own words -/
def zCal (C : String) (y : MethodName) (cy : ByteArray) (mL : Nat) (ret : Option FieldType) (n : Nat) : Prop :=
  Cond.instanceMethod y ∈ WS ∧ Cond.selects C y y ∈ WS ∧ Cond.initialized C ∈ WS ∧ Cond.code y cy mL ret ∈ WS ∧ y.cls = C ∧ (y.cls ≠ "java/lang/invoke/MethodHandle" ∧ y.cls ≠ "java/lang/invoke/VarHandle") ∧ (parseMethodDescriptor y.desc).map (fun d => d.parameters.length) = some n
def zCas (C : String) (y : MethodName) (cy : ByteArray) (mL : Nat) (ret : Option FieldType) (n : Nat) : Prop :=
  Cond.static y ∈ WS ∧ Cond.initialized C ∈ WS ∧ Cond.code y cy mL ret ∈ WS ∧ y.cls = C ∧ (y.cls ≠ "java/lang/invoke/MethodHandle" ∧ y.cls ≠ "java/lang/invoke/VarHandle") ∧ (parseMethodDescriptor y.desc).map (fun d => d.parameters.length) = some n
/-- an object of the world: its place, its class -/
def zOb (w : zSt → va_W) (a : Nat) (C : String) : Prop := ∃ (q0 ci : Nat) (q : vw_C) (fs : zSt → List Value), (∀ S, (w S)[q0]? = some (a, .inr (ci, fs S))) ∧ vwCl[ci]? = some q ∧ q.1 = C
theorem zOb.recv {w : zSt → va_W} {a : Nat} {C : String} (h : zOb w a C) {D : va_G} {tys : List (ClassId × FieldType)} {s : State} {H : Heap} {S : zSt} (hK : va_K D vwCl tys s) (hP : va_P D vwCl (w S) H) : ∃ cell : Cell, H[a]? = some cell ∧ cell.vm.isStatics = false ∧ s.vm.findClass C = some cell.cls := by
  obtain ⟨q0, ci, q, fs, h1, h2, rfl⟩ := h
  exact va_recv hK hP h2 (h1 S)
theorem zblind {av : List Value} {D : va_G} {cI cZ : ClassId} {ws : va_W} : FrameBlind (va_Pc av (fun U => va_P D vwCl ws U.heap ∧ va_K D vwCl (tyL cI cZ) U)) := fun a U g mk q => ⟨q.1, q.2.1, va_K.moved (u := U) (U := U.calling g mk a) (Vm.Alike.refl U.vm) q.2.2⟩
section Calls
variable {Γ : zG} {w : zSt → va_W} {cI cZ : ClassId} {cc : ByteArray} {rm : Room} {nL' : Nat} {own : String} {G : zSt → Prop} {S : zSt} {lv : List (Nat × Value)} {pc : Nat} {st : List Value}
theorem k_callVi (F : zF Γ w cI cZ cc rm nL' own) {R : Type} {r : R} {y : MethodName} {cy : ByteArray} {mL n idx : Nat} {rm2 : Room} {As : List Value} {K : Int → zSt → Option R} {x0 : Option zRes} {ty : FieldType} {C : String} {a : Nat} (hc : zCal C y cy mL (some ty) n) (hl : Cond.methodLink own idx y ∈ WS) (ho : zOb w a C)
    (hM : ∀ (l : Launch) (D : va_G) (A : Nat → Prop), (∀ S, va_D A (w S)) → G S → ∀ x S', x0 = some (x, S') → zMi l y cy mL ty rm2 D cI cZ A w G (.ref a :: As) S x S')
    (hR : rm2.cells = 0 ∧ rm2.slots = 0 ∧ rm2.frames + 1 ≤ rm.frames ∧ 8 + (mL + 11) + rm2.locals ≤ rm.locals) (hn : As.length = n) {st0 : List Value} (hst : st0 = As.reverse ++ .ref a :: st) (hW : (st.map fun v => v.category).sum ≤ 8) (hd : decode cc pc = .ok (.invokevirtual idx, 3)) (h : zbd x0 K = some r) (kk : ∀ x S, inR x → (ty = .boolean → x = 0 ∨ x = 1) → K x S = some r → zk Γ w G S lv (pc + 3) (.int (zI x) :: st)) : zk Γ w G S lv pc st0 := by
  obtain ⟨p, l, e, R, s, m, args, below, meth, c, Q, D, A, k0, n0, nL⟩ := Γ
  obtain ⟨hx, hb, hml, hown, hts, hK, hD, rfl, rfl, rfl, rfl⟩ := F
  intro hG H locs ls hP hS hh
  obtain ⟨x, S', h1, h2⟩ := zbd_e h
  obtain ⟨c1, c2, c3, c4, c5, c6, c7⟩ := hc
  have hg : GoodIn WS (wsV own idx C y (Cond.code y cy mL (some ty) :: WS)) := WS_sub (fun _ h => h) (fun w hw => by
    simp only [wsV, List.mem_append, List.mem_cons, List.not_mem_nil, or_false] at hw
    rcases hw with (rfl | rfl | rfl | rfl) | rfl | hw
    · exact hl
    · exact c1
    · exact c2
    · exact c3
    · exact c4
    · exact hw)
  subst hst
  refine va_calli (va_runV (As := As) (rest := st) ⟨hx, hb, hml, hown, hts⟩ (hM l D A hD hG x S' h1) (cwV n hts hg rfl hR.1 hR.2.1 ⟨c5, c6.1, c6.2, c7⟩ ⟨hR.2.2.1, hR.2.2.2⟩) ⟨zblind, ho.recv hK hP, fun U hU hW => ⟨rfl, by rw [hU]; exact hP, va_K.moved hW.alike hK⟩⟩ rfl hn hh.1 rfl (lv_room hW) hd ⟨Nat.zero_le _, Nat.zero_le _⟩) hS (fun q _ h => h) (fun q h => h) (fun r0 u t H1 locs1 ht hvm hw hB hz1 hk1 hS1 => ?_)
  obtain ⟨rfl, hx1, hG1, h01⟩ := hw
  rw [ht] at hB
  exact kk x S' hx1 h01 h2 hG1 H1 locs1 ls hB hS1 hh
theorem k_callSi (F : zF Γ w cI cZ cc rm nL' own) {R : Type} {r : R} {y : MethodName} {cy : ByteArray} {mL n idx : Nat} {rm2 : Room} {As : List Value} {K : Int → zSt → Option R} {x0 : Option zRes} {ty : FieldType} (hc : zCas own y cy mL (some ty) n) (hl : Cond.methodLink own idx y ∈ WS)
    (hM : ∀ (l : Launch) (D : va_G) (A : Nat → Prop), (∀ S, va_D A (w S)) → G S → ∀ x S', x0 = some (x, S') → zMi l y cy mL ty rm2 D cI cZ A w G As S x S')
    (hR : rm2.cells = 0 ∧ rm2.slots = 0 ∧ rm2.frames + 1 ≤ rm.frames ∧ 8 + (mL + 11) + rm2.locals ≤ rm.locals) (hn : As.length = n) {st0 : List Value} (hst : st0 = As.reverse ++ st) (hW : (st.map fun v => v.category).sum ≤ 8) (hd : decode cc pc = .ok (.invokestatic idx, 3)) (h : zbd x0 K = some r) (kk : ∀ x S, inR x → (ty = .boolean → x = 0 ∨ x = 1) → K x S = some r → zk Γ w G S lv (pc + 3) (.int (zI x) :: st)) : zk Γ w G S lv pc st0 := by
  obtain ⟨p, l, e, R, s, m, args, below, meth, c, Q, D, A, k0, n0, nL⟩ := Γ
  obtain ⟨hx, hb, hml, hown, hts, hK, hD, rfl, rfl, rfl, rfl⟩ := F
  intro hG H locs ls hP hS hh
  obtain ⟨x, S', h1, h2⟩ := zbd_e h
  obtain ⟨c1, c3, c4, c5, c6, c7⟩ := hc
  have hg : GoodIn WS (wsS own idx y (Cond.code y cy mL (some ty) :: WS)) := WS_sub (fun _ h => h) (fun w hw => by
    simp only [wsS, List.mem_append, List.mem_cons, List.not_mem_nil, or_false] at hw
    rcases hw with (rfl | rfl | rfl) | rfl | hw
    · exact hl
    · exact c1
    · exact c3
    · exact c4
    · exact hw)
  subst hst
  refine va_calli (va_runS (As := As) (rest := st) ⟨hx, hb, hml, hown, hts⟩ (hM l D A hD hG x S' h1) (cwS n hts hg rfl hR.1 hR.2.1 ⟨c5, c6.1, c6.2, c7⟩ ⟨hR.2.2.1, hR.2.2.2⟩) ⟨zblind, fun U hU hW => ⟨rfl, by rw [hU]; exact hP, va_K.moved hW.alike hK⟩⟩ rfl hn hh.1 rfl (lv_room hW) hd ⟨Nat.zero_le _, Nat.zero_le _⟩) hS (fun q _ h => h) (fun q h => h) (fun r0 u t H1 locs1 ht hvm hw hB hz1 hk1 hS1 => ?_)
  obtain ⟨rfl, hx1, hG1, h01⟩ := hw
  rw [ht] at hB
  exact kk x S' hx1 h01 h2 hG1 H1 locs1 ls hB hS1 hh
theorem k_callNi (F : zF Γ w cI cZ cc rm nL' own) {R : Type} {r : R} {y : MethodName} {cy : ByteArray} {mL n idx : Nat} {rm2 : Room} {As : List Value} {K : Int → zSt → Option R} {x0 : Option zRes} {ty : FieldType} {C host : String} (hc : zCas C y cy mL (some ty) n) (hl : Cond.methodLinkNest own idx y host ∈ WS)
    (hM : ∀ (l : Launch) (D : va_G) (A : Nat → Prop), (∀ S, va_D A (w S)) → G S → ∀ x S', x0 = some (x, S') → zMi l y cy mL ty rm2 D cI cZ A w G As S x S')
    (hR : rm2.cells = 0 ∧ rm2.slots = 0 ∧ rm2.frames + 1 ≤ rm.frames ∧ 8 + (mL + 11) + rm2.locals ≤ rm.locals) (hn : As.length = n) {st0 : List Value} (hst : st0 = As.reverse ++ st) (hW : (st.map fun v => v.category).sum ≤ 8) (hd : decode cc pc = .ok (.invokestatic idx, 3)) (h : zbd x0 K = some r) (kk : ∀ x S, inR x → (ty = .boolean → x = 0 ∨ x = 1) → K x S = some r → zk Γ w G S lv (pc + 3) (.int (zI x) :: st)) : zk Γ w G S lv pc st0 := by
  obtain ⟨p, l, e, R, s, m, args, below, meth, c, Q, D, A, k0, n0, nL⟩ := Γ
  obtain ⟨hx, hb, hml, hown, hts, hK, hD, rfl, rfl, rfl, rfl⟩ := F
  intro hG H locs ls hP hS hh
  obtain ⟨x, S', h1, h2⟩ := zbd_e h
  obtain ⟨c1, c3, c4, c5, c6, c7⟩ := hc
  have hg : GoodIn WS (Cond.code y cy mL (some ty) :: WS) := WS_sub (fun _ h => h) (fun w hw => by
    simp only [List.mem_cons] at hw
    rcases hw with rfl | hw
    · exact c4
    · exact hw)
  have hlN : va_Nw (.methodLinkNest own idx y host) s := va_Nw.of rfl (hts _ hl)
  subst hst
  refine va_calli (va_runSN (As := As) (rest := st) ⟨hx, hb, hml, hown, hts⟩ (hM l D A hD hG x S' h1) ⟨va_cnB n hts hg rfl hR.1 hR.2.1 hlN (by rw [c5]; exact hts _ c3) ⟨c6.1, c6.2, c7⟩ ⟨hR.2.2.1, hR.2.2.2⟩, hts _ c1, trivial⟩ ⟨zblind, fun U hU hW => ⟨rfl, by rw [hU]; exact hP, va_K.moved hW.alike hK⟩⟩ rfl hn hh.1 rfl (lv_room hW) hd ⟨Nat.zero_le _, Nat.zero_le _⟩) hS (fun q _ h => h) (fun q h => h) (fun r0 u t H1 locs1 ht hvm hw hB hz1 hk1 hS1 => ?_)
  obtain ⟨rfl, hx1, hG1, h01⟩ := hw
  rw [ht] at hB
  exact kk x S' hx1 h01 h2 hG1 H1 locs1 ls hB hS1 hh
theorem k_callVv (F : zF Γ w cI cZ cc rm nL' own) {R : Type} {r : R} {y : MethodName} {cy : ByteArray} {mL n idx : Nat} {rm2 : Room} {As : List Value} {K : Int → zSt → Option R} {x0 : Option zRes} {C : String} {a : Nat} (hc : zCal C y cy mL none n) (hl : Cond.methodLink own idx y ∈ WS) (ho : zOb w a C)
    (hM : ∀ (l : Launch) (D : va_G) (A : Nat → Prop), (∀ S, va_D A (w S)) → G S → ∀ x S', x0 = some (x, S') → zMv l y cy mL rm2 D cI cZ A w G (.ref a :: As) S S')
    (hR : rm2.cells = 0 ∧ rm2.slots = 0 ∧ rm2.frames + 1 ≤ rm.frames ∧ 8 + (mL + 11) + rm2.locals ≤ rm.locals) (hn : As.length = n) {st0 : List Value} (hst : st0 = As.reverse ++ .ref a :: st) (hW : (st.map fun v => v.category).sum ≤ 8) (hd : decode cc pc = .ok (.invokevirtual idx, 3)) (h : zbd x0 K = some r) (kk : ∀ x S, K x S = some r → zk Γ w G S lv (pc + 3) (st)) : zk Γ w G S lv pc st0 := by
  obtain ⟨p, l, e, R, s, m, args, below, meth, c, Q, D, A, k0, n0, nL⟩ := Γ
  obtain ⟨hx, hb, hml, hown, hts, hK, hD, rfl, rfl, rfl, rfl⟩ := F
  intro hG H locs ls hP hS hh
  obtain ⟨x, S', h1, h2⟩ := zbd_e h
  obtain ⟨c1, c2, c3, c4, c5, c6, c7⟩ := hc
  have hg : GoodIn WS (wsV own idx C y (Cond.code y cy mL none :: WS)) := WS_sub (fun _ h => h) (fun w hw => by
    simp only [wsV, List.mem_append, List.mem_cons, List.not_mem_nil, or_false] at hw
    rcases hw with (rfl | rfl | rfl | rfl) | rfl | hw
    · exact hl
    · exact c1
    · exact c2
    · exact c3
    · exact c4
    · exact hw)
  subst hst
  refine va_callv (va_runV (As := As) (rest := st) ⟨hx, hb, hml, hown, hts⟩ (hM l D A hD hG x S' h1) (cwV n hts hg rfl hR.1 hR.2.1 ⟨c5, c6.1, c6.2, c7⟩ ⟨hR.2.2.1, hR.2.2.2⟩) ⟨zblind, ho.recv hK hP, fun U hU hW => ⟨rfl, by rw [hU]; exact hP, va_K.moved hW.alike hK⟩⟩ rfl hn hh.1 rfl (lv_room hW) hd ⟨Nat.zero_le _, Nat.zero_le _⟩) hS (fun q _ h => h) (fun q h => h) (fun u t H1 locs1 ht hvm hw hB hz1 hk1 hS1 => ?_)
  rw [ht] at hB
  exact kk x S' h2 hw H1 locs1 ls hB hS1 hh
theorem k_callSv (F : zF Γ w cI cZ cc rm nL' own) {R : Type} {r : R} {y : MethodName} {cy : ByteArray} {mL n idx : Nat} {rm2 : Room} {As : List Value} {K : Int → zSt → Option R} {x0 : Option zRes} (hc : zCas own y cy mL none n) (hl : Cond.methodLink own idx y ∈ WS)
    (hM : ∀ (l : Launch) (D : va_G) (A : Nat → Prop), (∀ S, va_D A (w S)) → G S → ∀ x S', x0 = some (x, S') → zMv l y cy mL rm2 D cI cZ A w G As S S')
    (hR : rm2.cells = 0 ∧ rm2.slots = 0 ∧ rm2.frames + 1 ≤ rm.frames ∧ 8 + (mL + 11) + rm2.locals ≤ rm.locals) (hn : As.length = n) {st0 : List Value} (hst : st0 = As.reverse ++ st) (hW : (st.map fun v => v.category).sum ≤ 8) (hd : decode cc pc = .ok (.invokestatic idx, 3)) (h : zbd x0 K = some r) (kk : ∀ x S, K x S = some r → zk Γ w G S lv (pc + 3) (st)) : zk Γ w G S lv pc st0 := by
  obtain ⟨p, l, e, R, s, m, args, below, meth, c, Q, D, A, k0, n0, nL⟩ := Γ
  obtain ⟨hx, hb, hml, hown, hts, hK, hD, rfl, rfl, rfl, rfl⟩ := F
  intro hG H locs ls hP hS hh
  obtain ⟨x, S', h1, h2⟩ := zbd_e h
  obtain ⟨c1, c3, c4, c5, c6, c7⟩ := hc
  have hg : GoodIn WS (wsS own idx y (Cond.code y cy mL none :: WS)) := WS_sub (fun _ h => h) (fun w hw => by
    simp only [wsS, List.mem_append, List.mem_cons, List.not_mem_nil, or_false] at hw
    rcases hw with (rfl | rfl | rfl) | rfl | hw
    · exact hl
    · exact c1
    · exact c3
    · exact c4
    · exact hw)
  subst hst
  refine va_callv (va_runS (As := As) (rest := st) ⟨hx, hb, hml, hown, hts⟩ (hM l D A hD hG x S' h1) (cwS n hts hg rfl hR.1 hR.2.1 ⟨c5, c6.1, c6.2, c7⟩ ⟨hR.2.2.1, hR.2.2.2⟩) ⟨zblind, fun U hU hW => ⟨rfl, by rw [hU]; exact hP, va_K.moved hW.alike hK⟩⟩ rfl hn hh.1 rfl (lv_room hW) hd ⟨Nat.zero_le _, Nat.zero_le _⟩) hS (fun q _ h => h) (fun q h => h) (fun u t H1 locs1 ht hvm hw hB hz1 hk1 hS1 => ?_)
  rw [ht] at hB
  exact kk x S' h2 hw H1 locs1 ls hB hS1 hh
theorem k_callNv (F : zF Γ w cI cZ cc rm nL' own) {R : Type} {r : R} {y : MethodName} {cy : ByteArray} {mL n idx : Nat} {rm2 : Room} {As : List Value} {K : Int → zSt → Option R} {x0 : Option zRes} {C host : String} (hc : zCas C y cy mL none n) (hl : Cond.methodLinkNest own idx y host ∈ WS)
    (hM : ∀ (l : Launch) (D : va_G) (A : Nat → Prop), (∀ S, va_D A (w S)) → G S → ∀ x S', x0 = some (x, S') → zMv l y cy mL rm2 D cI cZ A w G As S S')
    (hR : rm2.cells = 0 ∧ rm2.slots = 0 ∧ rm2.frames + 1 ≤ rm.frames ∧ 8 + (mL + 11) + rm2.locals ≤ rm.locals) (hn : As.length = n) {st0 : List Value} (hst : st0 = As.reverse ++ st) (hW : (st.map fun v => v.category).sum ≤ 8) (hd : decode cc pc = .ok (.invokestatic idx, 3)) (h : zbd x0 K = some r) (kk : ∀ x S, K x S = some r → zk Γ w G S lv (pc + 3) (st)) : zk Γ w G S lv pc st0 := by
  obtain ⟨p, l, e, R, s, m, args, below, meth, c, Q, D, A, k0, n0, nL⟩ := Γ
  obtain ⟨hx, hb, hml, hown, hts, hK, hD, rfl, rfl, rfl, rfl⟩ := F
  intro hG H locs ls hP hS hh
  obtain ⟨x, S', h1, h2⟩ := zbd_e h
  obtain ⟨c1, c3, c4, c5, c6, c7⟩ := hc
  have hg : GoodIn WS (Cond.code y cy mL none :: WS) := WS_sub (fun _ h => h) (fun w hw => by
    simp only [List.mem_cons] at hw
    rcases hw with rfl | hw
    · exact c4
    · exact hw)
  have hlN : va_Nw (.methodLinkNest own idx y host) s := va_Nw.of rfl (hts _ hl)
  subst hst
  refine va_callv (va_runSN (As := As) (rest := st) ⟨hx, hb, hml, hown, hts⟩ (hM l D A hD hG x S' h1) ⟨va_cnB n hts hg rfl hR.1 hR.2.1 hlN (by rw [c5]; exact hts _ c3) ⟨c6.1, c6.2, c7⟩ ⟨hR.2.2.1, hR.2.2.2⟩, hts _ c1, trivial⟩ ⟨zblind, fun U hU hW => ⟨rfl, by rw [hU]; exact hP, va_K.moved hW.alike hK⟩⟩ rfl hn hh.1 rfl (lv_room hW) hd ⟨Nat.zero_le _, Nat.zero_le _⟩) hS (fun q _ h => h) (fun q h => h) (fun u t H1 locs1 ht hvm hw hB hz1 hk1 hS1 => ?_)
  rw [ht] at hB
  exact kk x S' h2 hw H1 locs1 ls hB hS1 hh
end Calls
end
section
theorem zz_last : True := trivial
end
