/-! THE WALK'S ROWS over a world that a state S draws (S.1: int fields by number, S.2: rows of ints by number); the mirror of a method is an option program over whole numbers -/
def WS : List Cond := lw_tbl.filter goodWord
theorem WS_in {w : Cond} (i : Nat) (h : lw_tbl[i]? = some w) (g : goodWord w = true) : w ∈ WS := List.mem_filter.mpr ⟨List.mem_of_getElem? h, g⟩
theorem WS_tbl : ∀ w ∈ WS, w ∈ lw_tbl := fun w h => (List.mem_filter.mp h).1
theorem WS_good {w : Cond} (h : w ∈ WS) : goodWord w = true := (List.mem_filter.mp h).2
theorem WS_sub {big ws : List Cond} (hb : ∀ w ∈ WS, w ∈ big) (h : ∀ w ∈ ws, w ∈ WS) : GoodIn big ws := fun w hw => ⟨hb w (h w hw), good_of_word (WS_good (h w hw))⟩
def zI (x : Int) : Int32 := Int32.ofInt x
abbrev inR (x : Int) : Prop := -2147483648 ≤ x ∧ x < 2147483648
abbrev zSt : Type := (Nat → Int) × (Nat → Int → Int)
abbrev zRes : Type := Int × zSt
def zA (a : Int → Int) : Nat → Int32 := fun j => zI (a (j : Int))
def zset (S : zSt) (j : Nat) (v : Int) : zSt := (fun q => if q = j then v else S.1 q, S.2)
def zput (S : zSt) (j : Nat) (i v : Int) : zSt := (S.1, fun q => if q = j then (fun t => if t = i then v else S.2 j t) else S.2 q)
def zfil (S : zSt) (j : Nat) (v : Int) : zSt := (S.1, fun q => if q = j then (fun _ => v) else S.2 q)
def RG (bs : List Nat) (S : zSt) : Prop := (∀ k, inR (S.1 k)) ∧ (∀ k j, inR (S.2 k j)) ∧ ∀ k ∈ bs, ∀ j, S.2 k j = 0 ∨ S.2 k j = 1
theorem RG_set {bs : List Nat} {S : zSt} (h : RG bs S) {j : Nat} {v : Int} (hv : inR v) : RG bs (zset S j v) := by
  refine ⟨fun k => ?_, h.2⟩
  show inR (if k = j then v else S.1 k)
  by_cases e : k = j
  · rw [if_pos e]; exact hv
  · rw [if_neg e]; exact h.1 k
theorem RG_put {bs : List Nat} {S : zSt} (h : RG bs S) {j : Nat} {i v : Int} (hv : inR v) (hb : j ∈ bs → v = 0 ∨ v = 1) : RG bs (zput S j i v) := by
  have e1 : ∀ k t, (zput S j i v).2 k t = if k = j then (if t = i then v else S.2 j t) else S.2 k t := by
    intro k t
    show (if k = j then (fun t => if t = i then v else S.2 j t) else S.2 k) t = _
    by_cases e : k = j
    · rw [if_pos e, if_pos e]
    · rw [if_neg e, if_neg e]
  refine ⟨h.1, fun k t => ?_, fun k hk t => ?_⟩
  · rw [e1]
    by_cases e : k = j
    · rw [if_pos e]
      by_cases e2 : t = i
      · rw [if_pos e2]; exact hv
      · rw [if_neg e2]; exact h.2.1 j t
    · rw [if_neg e]; exact h.2.1 k t
  · rw [e1]
    by_cases e : k = j
    · rw [if_pos e]
      by_cases e2 : t = i
      · rw [if_pos e2]; exact hb (e ▸ hk)
      · rw [if_neg e2]; exact h.2.2 j (e ▸ hk) t
    · rw [if_neg e]; exact h.2.2 k hk t
theorem RG_fil {bs : List Nat} {S : zSt} (h : RG bs S) {j : Nat} {v : Int} (hv : inR v) (hb : j ∉ bs) : RG bs (zfil S j v) := by
  have e1 : ∀ k t, (zfil S j v).2 k t = if k = j then v else S.2 k t := by
    intro k t
    show (if k = j then (fun _ => v) else S.2 k) t = _
    by_cases e : k = j
    · rw [if_pos e, if_pos e]
    · rw [if_neg e, if_neg e]
  refine ⟨h.1, fun k t => ?_, fun k hk t => ?_⟩
  · rw [e1]
    by_cases e : k = j
    · rw [if_pos e]; exact hv
    · rw [if_neg e]; exact h.2.1 k t
  · rw [e1]
    by_cases e : k = j
    · exact absurd (e ▸ hk) hb
    · rw [if_neg e]; exact h.2.2 k hk t
-- the numbers
theorem zI_toInt {x : Int} (h : inR x) : (zI x).toInt = x := Int32.toInt_ofInt_of_le (by have := h.1; omega) (by have := h.2; omega)
theorem zI_of (x : Int32) : zI x.toInt = x := Int32.ofInt_toInt x
theorem inR_of (x : Int32) : inR x.toInt := ⟨by have := Int32.le_toInt x; omega, by have := Int32.toInt_lt x; omega⟩
theorem zI_lt {a b : Int} (ha : inR a) (hb : inR b) : zI a < zI b ↔ a < b := by rw [Int32.lt_iff_toInt_lt, zI_toInt ha, zI_toInt hb]
theorem zI_le {a b : Int} (ha : inR a) (hb : inR b) : zI a ≤ zI b ↔ a ≤ b := by rw [Int32.le_iff_toInt_le, zI_toInt ha, zI_toInt hb]
theorem zI_eq {a b : Int} (ha : inR a) (hb : inR b) : zI a = zI b ↔ a = b := ⟨fun h => by rw [← zI_toInt ha, h, zI_toInt hb], fun h => by rw [h]⟩
theorem zI_zero : (0 : Int32) = zI 0 := by decide
theorem inR_0 : inR 0 := by decide
theorem zI_add (a b : Int) : zI a + zI b = zI (a + b) := (Int32.ofInt_add a b).symm
theorem zI_sub (a b : Int) : zI a - zI b = zI (a - b) := (Int32.ofInt_sub a b).symm
theorem zI_mul (a b : Int) : zI a * zI b = zI (a * b) := (Int32.ofInt_mul a b).symm
theorem inR_div {a b : Int} (ha : inR a) (h0 : 0 ≤ a) (hb : 0 < b) : inR (a / b) := by
  have h1 : 0 ≤ a / b := Int.ediv_nonneg h0 (Int.le_of_lt hb)
  have h2 : a / b ≤ a := Int.ediv_le_self b h0
  have := ha.2
  exact ⟨by omega, by omega⟩
theorem inR_mod {a b : Int} (hb' : inR b) (hb : 0 < b) : inR (a % b) := by
  have h1 : 0 ≤ a % b := Int.emod_nonneg a (by omega)
  have h2 : a % b < b := Int.emod_lt_of_pos a hb
  have := hb'.2
  exact ⟨by omega, by omega⟩
theorem zI_div {a b : Int} (ha : inR a) (hb : inR b) (h0 : 0 ≤ a) (h1 : 0 < b) : zI a / zI b = zI (a / b) := by
  apply Int32.toInt_inj.mp
  have hne : zI b ≠ -1 := by
    intro h
    have : zI b = zI (-1) := h
    rw [zI_eq hb (by decide)] at this
    omega
  rw [Int32.toInt_div_of_ne_right _ _ hne, zI_toInt ha, zI_toInt hb, zI_toInt (inR_div ha h0 h1), Int.tdiv_eq_ediv_of_nonneg h0]
theorem zI_rem {a b : Int} (ha : inR a) (hb : inR b) (h0 : 0 ≤ a) (h1 : 0 < b) : zI a - zI a / zI b * zI b = zI (a % b) := by
  rw [zI_div ha hb h0 h1, zI_mul, zI_sub]
  congr 1
  have := Int.emod_add_mul_ediv a b
  have h2 : a / b * b = b * (a / b) := Int.mul_comm _ _
  omega
theorem zI_clamp {i : Int} (h : inR i) : (zI i).toNatClampNeg = i.toNat := by
  show (zI i).toInt.toNat = _
  rw [zI_toInt h]
theorem zvp_in {i : Int} {n : Nat} (hi : inR i) (h : 0 ≤ i ∧ i < (n : Int)) : vp_in (zI i) n := vp_in_iff.mpr (by rw [zI_toInt hi]; exact h)
theorem zA_at {a : Int → Int} {i : Int} (h0 : 0 ≤ i) : zA a i.toNat = zI (a i) := by
  show zI (a ((i.toNat : Nat) : Int)) = _
  rw [Int.toNat_of_nonneg h0]
theorem zA_put {a : Int → Int} {i v : Int} (h0 : 0 ≤ i) : upd (zA a) i.toNat (zI v) = zA (fun t => if t = i then v else a t) := by
  funext j
  show (if j = i.toNat then zI v else zI (a j)) = zI (if (j : Int) = i then v else a j)
  by_cases e : j = i.toNat
  · rw [if_pos e, if_pos (by omega)]
  · rw [if_neg e, if_neg (by omega)]
theorem zA_fil {v : Int} : (fun _ : Nat => zI v) = zA (fun _ => v) := rfl
theorem z01_nar {x : Int} (h : x = 0 ∨ x = 1) : vp_nar .boolean (zI x) = zI x := by
  rcases h with rfl | rfl <;> decide
theorem z01_narrow {x : Int} (h : x = 0 ∨ x = 1) : narrow .boolean (.int (zI x)) = .int (zI x) := by
  rcases h with rfl | rfl <;> decide
-- the mirror's words
section Words
variable {R : Type}
def zlt {α : Type} (e : α) (k : α → Option R) : Option R := k e
def zar (e : Int) (k : Int → Option R) : Option R := if inR e then k e else none
def zld (a : Int → Int) (n i : Int) (k : Int → Option R) : Option R := if 0 ≤ i ∧ i < n then k (a i) else none
def zst (S : zSt) (j : Nat) (n i v : Int) (k : zSt → Option R) : Option R := if 0 ≤ i ∧ i < n then k (zput S j i v) else none
def zbd (x : Option zRes) (k : Int → zSt → Option R) : Option R := match x with
  | none => none
  | some q => k q.1 q.2
def zdv (a b : Int) (k : Int → Option R) : Option R := if 0 ≤ a ∧ 0 < b then k (a / b) else none
def zrm (a b : Int) (k : Int → Option R) : Option R := if 0 ≤ a ∧ 0 < b then k (a % b) else none
def zc01 (x : Int) (k : Option R) : Option R := if x = 0 ∨ x = 1 then k else none
theorem zar_e {e : Int} {k : Int → Option R} {r : R} (h : zar e k = some r) : inR e ∧ k e = some r := by
  unfold zar at h
  by_cases c : inR e
  · rw [if_pos c] at h; exact ⟨c, h⟩
  · rw [if_neg c] at h; cases h
theorem zld_e {a : Int → Int} {n i : Int} {k : Int → Option R} {r : R} (h : zld a n i k = some r) : (0 ≤ i ∧ i < n) ∧ k (a i) = some r := by
  unfold zld at h
  by_cases c : 0 ≤ i ∧ i < n
  · rw [if_pos c] at h; exact ⟨c, h⟩
  · rw [if_neg c] at h; cases h
theorem zst_e {S : zSt} {j : Nat} {n i v : Int} {k : zSt → Option R} {r : R} (h : zst S j n i v k = some r) : (0 ≤ i ∧ i < n) ∧ k (zput S j i v) = some r := by
  unfold zst at h
  by_cases c : 0 ≤ i ∧ i < n
  · rw [if_pos c] at h; exact ⟨c, h⟩
  · rw [if_neg c] at h; cases h
theorem zdv_e {a b : Int} {k : Int → Option R} {r : R} (h : zdv a b k = some r) : (0 ≤ a ∧ 0 < b) ∧ k (a / b) = some r := by
  unfold zdv at h
  by_cases c : 0 ≤ a ∧ 0 < b
  · rw [if_pos c] at h; exact ⟨c, h⟩
  · rw [if_neg c] at h; cases h
theorem zrm_e {a b : Int} {k : Int → Option R} {r : R} (h : zrm a b k = some r) : (0 ≤ a ∧ 0 < b) ∧ k (a % b) = some r := by
  unfold zrm at h
  by_cases c : 0 ≤ a ∧ 0 < b
  · rw [if_pos c] at h; exact ⟨c, h⟩
  · rw [if_neg c] at h; cases h
theorem zc01_e {x : Int} {k : Option R} {r : R} (h : zc01 x k = some r) : (x = 0 ∨ x = 1) ∧ k = some r := by
  unfold zc01 at h
  by_cases c : x = 0 ∨ x = 1
  · rw [if_pos c] at h; exact ⟨c, h⟩
  · rw [if_neg c] at h; cases h
theorem zbd_e {x : Option zRes} {k : Int → zSt → Option R} {r : R} (h : zbd x k = some r) : ∃ (v : Int) (S : zSt), x = some (v, S) ∧ k v S = some r := by
  cases x with
  | none => cases h
  | some q => exact ⟨q.1, q.2, rfl, h⟩
theorem zif_e {c : Prop} [Decidable c] {A B : Option R} {r : R} (h : (if c then A else B) = some r) : (c → A = some r) ∧ (¬ c → B = some r) := ⟨fun q => by rw [if_pos q] at h; exact h, fun q => by rw [if_neg q] at h; exact h⟩

def zj0 (K : zSt → Option R) (body : (zSt → Option R) → Option R) : Option R := body K
theorem zj0_e {K : zSt → Option R} {body : (zSt → Option R) → Option R} {r : R} {PJ : zSt → Prop} {G : Prop} (h : zj0 K body = some r) (hK : ∀ (S : zSt), K  S = some r → PJ  S) (hb : ∀ K' : zSt → Option R, (∀ (S : zSt), K'  S = some r → PJ  S) → body K' = some r → G) : G := hb K hK h
noncomputable def zl0 (n : Nat) (F : (zSt → Option R) → zSt → Option R) : zSt → Option R := Nat.rec (motive := fun _ => zSt → Option R) (fun _ => none) (fun _ ih => F ih) n
theorem zl0_e {F : (zSt → Option R) → zSt → Option R} {r : R} (PJ : zSt → Prop) (hs : ∀ (rec : zSt → Option R) (S : zSt), (∀ (S : zSt), rec  S = some r → PJ  S) → F rec  S = some r → PJ  S) : ∀ (n : Nat) (S : zSt), zl0 n F  S = some r → PJ  S := by
  intro n
  induction n with
  | zero => intro  S h; cases h
  | succ n ih => intro  S h; exact hs (zl0 n F)  S ih h
def zj1 (K : Int → zSt → Option R) (body : (Int → zSt → Option R) → Option R) : Option R := body K
theorem zj1_e {K : Int → zSt → Option R} {body : (Int → zSt → Option R) → Option R} {r : R} {PJ : Int → zSt → Prop} {G : Prop} (h : zj1 K body = some r) (hK : ∀ (a0 : Int) (S : zSt), K a0 S = some r → PJ a0 S) (hb : ∀ K' : Int → zSt → Option R, (∀ (a0 : Int) (S : zSt), K' a0 S = some r → PJ a0 S) → body K' = some r → G) : G := hb K hK h
noncomputable def zl1 (n : Nat) (F : (Int → zSt → Option R) → Int → zSt → Option R) : Int → zSt → Option R := Nat.rec (motive := fun _ => Int → zSt → Option R) (fun _ _ => none) (fun _ ih => F ih) n
theorem zl1_e {F : (Int → zSt → Option R) → Int → zSt → Option R} {r : R} (PJ : Int → zSt → Prop) (hs : ∀ (rec : Int → zSt → Option R) (a0 : Int) (S : zSt), (∀ (a0 : Int) (S : zSt), rec a0 S = some r → PJ a0 S) → F rec a0 S = some r → PJ a0 S) : ∀ (n : Nat) (a0 : Int) (S : zSt), zl1 n F a0 S = some r → PJ a0 S := by
  intro n
  induction n with
  | zero => intro a0 S h; cases h
  | succ n ih => intro a0 S h; exact hs (zl1 n F) a0 S ih h
def zj2 (K : Int → Int → zSt → Option R) (body : (Int → Int → zSt → Option R) → Option R) : Option R := body K
theorem zj2_e {K : Int → Int → zSt → Option R} {body : (Int → Int → zSt → Option R) → Option R} {r : R} {PJ : Int → Int → zSt → Prop} {G : Prop} (h : zj2 K body = some r) (hK : ∀ (a0 a1 : Int) (S : zSt), K a0 a1 S = some r → PJ a0 a1 S) (hb : ∀ K' : Int → Int → zSt → Option R, (∀ (a0 a1 : Int) (S : zSt), K' a0 a1 S = some r → PJ a0 a1 S) → body K' = some r → G) : G := hb K hK h
noncomputable def zl2 (n : Nat) (F : (Int → Int → zSt → Option R) → Int → Int → zSt → Option R) : Int → Int → zSt → Option R := Nat.rec (motive := fun _ => Int → Int → zSt → Option R) (fun _ _ _ => none) (fun _ ih => F ih) n
theorem zl2_e {F : (Int → Int → zSt → Option R) → Int → Int → zSt → Option R} {r : R} (PJ : Int → Int → zSt → Prop) (hs : ∀ (rec : Int → Int → zSt → Option R) (a0 a1 : Int) (S : zSt), (∀ (a0 a1 : Int) (S : zSt), rec a0 a1 S = some r → PJ a0 a1 S) → F rec a0 a1 S = some r → PJ a0 a1 S) : ∀ (n : Nat) (a0 a1 : Int) (S : zSt), zl2 n F a0 a1 S = some r → PJ a0 a1 S := by
  intro n
  induction n with
  | zero => intro a0 a1 S h; cases h
  | succ n ih => intro a0 a1 S h; exact hs (zl2 n F) a0 a1 S ih h
def zj3 (K : Int → Int → Int → zSt → Option R) (body : (Int → Int → Int → zSt → Option R) → Option R) : Option R := body K
theorem zj3_e {K : Int → Int → Int → zSt → Option R} {body : (Int → Int → Int → zSt → Option R) → Option R} {r : R} {PJ : Int → Int → Int → zSt → Prop} {G : Prop} (h : zj3 K body = some r) (hK : ∀ (a0 a1 a2 : Int) (S : zSt), K a0 a1 a2 S = some r → PJ a0 a1 a2 S) (hb : ∀ K' : Int → Int → Int → zSt → Option R, (∀ (a0 a1 a2 : Int) (S : zSt), K' a0 a1 a2 S = some r → PJ a0 a1 a2 S) → body K' = some r → G) : G := hb K hK h
noncomputable def zl3 (n : Nat) (F : (Int → Int → Int → zSt → Option R) → Int → Int → Int → zSt → Option R) : Int → Int → Int → zSt → Option R := Nat.rec (motive := fun _ => Int → Int → Int → zSt → Option R) (fun _ _ _ _ => none) (fun _ ih => F ih) n
theorem zl3_e {F : (Int → Int → Int → zSt → Option R) → Int → Int → Int → zSt → Option R} {r : R} (PJ : Int → Int → Int → zSt → Prop) (hs : ∀ (rec : Int → Int → Int → zSt → Option R) (a0 a1 a2 : Int) (S : zSt), (∀ (a0 a1 a2 : Int) (S : zSt), rec a0 a1 a2 S = some r → PJ a0 a1 a2 S) → F rec a0 a1 a2 S = some r → PJ a0 a1 a2 S) : ∀ (n : Nat) (a0 a1 a2 : Int) (S : zSt), zl3 n F a0 a1 a2 S = some r → PJ a0 a1 a2 S := by
  intro n
  induction n with
  | zero => intro a0 a1 a2 S h; cases h
  | succ n ih => intro a0 a1 a2 S h; exact hs (zl3 n F) a0 a1 a2 S ih h
def zj4 (K : Int → Int → Int → Int → zSt → Option R) (body : (Int → Int → Int → Int → zSt → Option R) → Option R) : Option R := body K
theorem zj4_e {K : Int → Int → Int → Int → zSt → Option R} {body : (Int → Int → Int → Int → zSt → Option R) → Option R} {r : R} {PJ : Int → Int → Int → Int → zSt → Prop} {G : Prop} (h : zj4 K body = some r) (hK : ∀ (a0 a1 a2 a3 : Int) (S : zSt), K a0 a1 a2 a3 S = some r → PJ a0 a1 a2 a3 S) (hb : ∀ K' : Int → Int → Int → Int → zSt → Option R, (∀ (a0 a1 a2 a3 : Int) (S : zSt), K' a0 a1 a2 a3 S = some r → PJ a0 a1 a2 a3 S) → body K' = some r → G) : G := hb K hK h
noncomputable def zl4 (n : Nat) (F : (Int → Int → Int → Int → zSt → Option R) → Int → Int → Int → Int → zSt → Option R) : Int → Int → Int → Int → zSt → Option R := Nat.rec (motive := fun _ => Int → Int → Int → Int → zSt → Option R) (fun _ _ _ _ _ => none) (fun _ ih => F ih) n
theorem zl4_e {F : (Int → Int → Int → Int → zSt → Option R) → Int → Int → Int → Int → zSt → Option R} {r : R} (PJ : Int → Int → Int → Int → zSt → Prop) (hs : ∀ (rec : Int → Int → Int → Int → zSt → Option R) (a0 a1 a2 a3 : Int) (S : zSt), (∀ (a0 a1 a2 a3 : Int) (S : zSt), rec a0 a1 a2 a3 S = some r → PJ a0 a1 a2 a3 S) → F rec a0 a1 a2 a3 S = some r → PJ a0 a1 a2 a3 S) : ∀ (n : Nat) (a0 a1 a2 a3 : Int) (S : zSt), zl4 n F a0 a1 a2 a3 S = some r → PJ a0 a1 a2 a3 S := by
  intro n
  induction n with
  | zero => intro a0 a1 a2 a3 S h; cases h
  | succ n ih => intro a0 a1 a2 a3 S h; exact hs (zl4 n F) a0 a1 a2 a3 S ih h
def zj5 (K : Int → Int → Int → Int → Int → zSt → Option R) (body : (Int → Int → Int → Int → Int → zSt → Option R) → Option R) : Option R := body K
theorem zj5_e {K : Int → Int → Int → Int → Int → zSt → Option R} {body : (Int → Int → Int → Int → Int → zSt → Option R) → Option R} {r : R} {PJ : Int → Int → Int → Int → Int → zSt → Prop} {G : Prop} (h : zj5 K body = some r) (hK : ∀ (a0 a1 a2 a3 a4 : Int) (S : zSt), K a0 a1 a2 a3 a4 S = some r → PJ a0 a1 a2 a3 a4 S) (hb : ∀ K' : Int → Int → Int → Int → Int → zSt → Option R, (∀ (a0 a1 a2 a3 a4 : Int) (S : zSt), K' a0 a1 a2 a3 a4 S = some r → PJ a0 a1 a2 a3 a4 S) → body K' = some r → G) : G := hb K hK h
noncomputable def zl5 (n : Nat) (F : (Int → Int → Int → Int → Int → zSt → Option R) → Int → Int → Int → Int → Int → zSt → Option R) : Int → Int → Int → Int → Int → zSt → Option R := Nat.rec (motive := fun _ => Int → Int → Int → Int → Int → zSt → Option R) (fun _ _ _ _ _ _ => none) (fun _ ih => F ih) n
theorem zl5_e {F : (Int → Int → Int → Int → Int → zSt → Option R) → Int → Int → Int → Int → Int → zSt → Option R} {r : R} (PJ : Int → Int → Int → Int → Int → zSt → Prop) (hs : ∀ (rec : Int → Int → Int → Int → Int → zSt → Option R) (a0 a1 a2 a3 a4 : Int) (S : zSt), (∀ (a0 a1 a2 a3 a4 : Int) (S : zSt), rec a0 a1 a2 a3 a4 S = some r → PJ a0 a1 a2 a3 a4 S) → F rec a0 a1 a2 a3 a4 S = some r → PJ a0 a1 a2 a3 a4 S) : ∀ (n : Nat) (a0 a1 a2 a3 a4 : Int) (S : zSt), zl5 n F a0 a1 a2 a3 a4 S = some r → PJ a0 a1 a2 a3 a4 S := by
  intro n
  induction n with
  | zero => intro a0 a1 a2 a3 a4 S h; cases h
  | succ n ih => intro a0 a1 a2 a3 a4 S h; exact hs (zl5 n F) a0 a1 a2 a3 a4 S ih h
def zj6 (K : Int → Int → Int → Int → Int → Int → zSt → Option R) (body : (Int → Int → Int → Int → Int → Int → zSt → Option R) → Option R) : Option R := body K
theorem zj6_e {K : Int → Int → Int → Int → Int → Int → zSt → Option R} {body : (Int → Int → Int → Int → Int → Int → zSt → Option R) → Option R} {r : R} {PJ : Int → Int → Int → Int → Int → Int → zSt → Prop} {G : Prop} (h : zj6 K body = some r) (hK : ∀ (a0 a1 a2 a3 a4 a5 : Int) (S : zSt), K a0 a1 a2 a3 a4 a5 S = some r → PJ a0 a1 a2 a3 a4 a5 S) (hb : ∀ K' : Int → Int → Int → Int → Int → Int → zSt → Option R, (∀ (a0 a1 a2 a3 a4 a5 : Int) (S : zSt), K' a0 a1 a2 a3 a4 a5 S = some r → PJ a0 a1 a2 a3 a4 a5 S) → body K' = some r → G) : G := hb K hK h
noncomputable def zl6 (n : Nat) (F : (Int → Int → Int → Int → Int → Int → zSt → Option R) → Int → Int → Int → Int → Int → Int → zSt → Option R) : Int → Int → Int → Int → Int → Int → zSt → Option R := Nat.rec (motive := fun _ => Int → Int → Int → Int → Int → Int → zSt → Option R) (fun _ _ _ _ _ _ _ => none) (fun _ ih => F ih) n
theorem zl6_e {F : (Int → Int → Int → Int → Int → Int → zSt → Option R) → Int → Int → Int → Int → Int → Int → zSt → Option R} {r : R} (PJ : Int → Int → Int → Int → Int → Int → zSt → Prop) (hs : ∀ (rec : Int → Int → Int → Int → Int → Int → zSt → Option R) (a0 a1 a2 a3 a4 a5 : Int) (S : zSt), (∀ (a0 a1 a2 a3 a4 a5 : Int) (S : zSt), rec a0 a1 a2 a3 a4 a5 S = some r → PJ a0 a1 a2 a3 a4 a5 S) → F rec a0 a1 a2 a3 a4 a5 S = some r → PJ a0 a1 a2 a3 a4 a5 S) : ∀ (n : Nat) (a0 a1 a2 a3 a4 a5 : Int) (S : zSt), zl6 n F a0 a1 a2 a3 a4 a5 S = some r → PJ a0 a1 a2 a3 a4 a5 S := by
  intro n
  induction n with
  | zero => intro a0 a1 a2 a3 a4 a5 S h; cases h
  | succ n ih => intro a0 a1 a2 a3 a4 a5 S h; exact hs (zl6 n F) a0 a1 a2 a3 a4 a5 S ih h
def zj7 (K : Int → Int → Int → Int → Int → Int → Int → zSt → Option R) (body : (Int → Int → Int → Int → Int → Int → Int → zSt → Option R) → Option R) : Option R := body K
theorem zj7_e {K : Int → Int → Int → Int → Int → Int → Int → zSt → Option R} {body : (Int → Int → Int → Int → Int → Int → Int → zSt → Option R) → Option R} {r : R} {PJ : Int → Int → Int → Int → Int → Int → Int → zSt → Prop} {G : Prop} (h : zj7 K body = some r) (hK : ∀ (a0 a1 a2 a3 a4 a5 a6 : Int) (S : zSt), K a0 a1 a2 a3 a4 a5 a6 S = some r → PJ a0 a1 a2 a3 a4 a5 a6 S) (hb : ∀ K' : Int → Int → Int → Int → Int → Int → Int → zSt → Option R, (∀ (a0 a1 a2 a3 a4 a5 a6 : Int) (S : zSt), K' a0 a1 a2 a3 a4 a5 a6 S = some r → PJ a0 a1 a2 a3 a4 a5 a6 S) → body K' = some r → G) : G := hb K hK h
noncomputable def zl7 (n : Nat) (F : (Int → Int → Int → Int → Int → Int → Int → zSt → Option R) → Int → Int → Int → Int → Int → Int → Int → zSt → Option R) : Int → Int → Int → Int → Int → Int → Int → zSt → Option R := Nat.rec (motive := fun _ => Int → Int → Int → Int → Int → Int → Int → zSt → Option R) (fun _ _ _ _ _ _ _ _ => none) (fun _ ih => F ih) n
theorem zl7_e {F : (Int → Int → Int → Int → Int → Int → Int → zSt → Option R) → Int → Int → Int → Int → Int → Int → Int → zSt → Option R} {r : R} (PJ : Int → Int → Int → Int → Int → Int → Int → zSt → Prop) (hs : ∀ (rec : Int → Int → Int → Int → Int → Int → Int → zSt → Option R) (a0 a1 a2 a3 a4 a5 a6 : Int) (S : zSt), (∀ (a0 a1 a2 a3 a4 a5 a6 : Int) (S : zSt), rec a0 a1 a2 a3 a4 a5 a6 S = some r → PJ a0 a1 a2 a3 a4 a5 a6 S) → F rec a0 a1 a2 a3 a4 a5 a6 S = some r → PJ a0 a1 a2 a3 a4 a5 a6 S) : ∀ (n : Nat) (a0 a1 a2 a3 a4 a5 a6 : Int) (S : zSt), zl7 n F a0 a1 a2 a3 a4 a5 a6 S = some r → PJ a0 a1 a2 a3 a4 a5 a6 S := by
  intro n
  induction n with
  | zero => intro a0 a1 a2 a3 a4 a5 a6 S h; cases h
  | succ n ih => intro a0 a1 a2 a3 a4 a5 a6 S h; exact hs (zl7 n F) a0 a1 a2 a3 a4 a5 a6 S ih h
def zj8 (K : Int → Int → Int → Int → Int → Int → Int → Int → zSt → Option R) (body : (Int → Int → Int → Int → Int → Int → Int → Int → zSt → Option R) → Option R) : Option R := body K
theorem zj8_e {K : Int → Int → Int → Int → Int → Int → Int → Int → zSt → Option R} {body : (Int → Int → Int → Int → Int → Int → Int → Int → zSt → Option R) → Option R} {r : R} {PJ : Int → Int → Int → Int → Int → Int → Int → Int → zSt → Prop} {G : Prop} (h : zj8 K body = some r) (hK : ∀ (a0 a1 a2 a3 a4 a5 a6 a7 : Int) (S : zSt), K a0 a1 a2 a3 a4 a5 a6 a7 S = some r → PJ a0 a1 a2 a3 a4 a5 a6 a7 S) (hb : ∀ K' : Int → Int → Int → Int → Int → Int → Int → Int → zSt → Option R, (∀ (a0 a1 a2 a3 a4 a5 a6 a7 : Int) (S : zSt), K' a0 a1 a2 a3 a4 a5 a6 a7 S = some r → PJ a0 a1 a2 a3 a4 a5 a6 a7 S) → body K' = some r → G) : G := hb K hK h
noncomputable def zl8 (n : Nat) (F : (Int → Int → Int → Int → Int → Int → Int → Int → zSt → Option R) → Int → Int → Int → Int → Int → Int → Int → Int → zSt → Option R) : Int → Int → Int → Int → Int → Int → Int → Int → zSt → Option R := Nat.rec (motive := fun _ => Int → Int → Int → Int → Int → Int → Int → Int → zSt → Option R) (fun _ _ _ _ _ _ _ _ _ => none) (fun _ ih => F ih) n
theorem zl8_e {F : (Int → Int → Int → Int → Int → Int → Int → Int → zSt → Option R) → Int → Int → Int → Int → Int → Int → Int → Int → zSt → Option R} {r : R} (PJ : Int → Int → Int → Int → Int → Int → Int → Int → zSt → Prop) (hs : ∀ (rec : Int → Int → Int → Int → Int → Int → Int → Int → zSt → Option R) (a0 a1 a2 a3 a4 a5 a6 a7 : Int) (S : zSt), (∀ (a0 a1 a2 a3 a4 a5 a6 a7 : Int) (S : zSt), rec a0 a1 a2 a3 a4 a5 a6 a7 S = some r → PJ a0 a1 a2 a3 a4 a5 a6 a7 S) → F rec a0 a1 a2 a3 a4 a5 a6 a7 S = some r → PJ a0 a1 a2 a3 a4 a5 a6 a7 S) : ∀ (n : Nat) (a0 a1 a2 a3 a4 a5 a6 a7 : Int) (S : zSt), zl8 n F a0 a1 a2 a3 a4 a5 a6 a7 S = some r → PJ a0 a1 a2 a3 a4 a5 a6 a7 S := by
  intro n
  induction n with
  | zero => intro a0 a1 a2 a3 a4 a5 a6 a7 S h; cases h
  | succ n ih => intro a0 a1 a2 a3 a4 a5 a6 a7 S h; exact hs (zl8 n F) a0 a1 a2 a3 a4 a5 a6 a7 S ih h
end Words
-- the machine's place
abbrev zG : Type := Program × Launch × Env × Room × State × MethodId × Array Value × List Frame × Method × Code × (State → Prop) × va_G × (Nat → Prop) × Nat × Nat × Nat
def gl (Γ : zG) : Launch := Γ.2.1
def gD (Γ : zG) : va_G := Γ.2.2.2.2.2.2.2.2.2.2.2.1
def gA (Γ : zG) : Nat → Prop := Γ.2.2.2.2.2.2.2.2.2.2.2.2.1
def tyL (cI cZ : ClassId) : List (ClassId × FieldType) := [(cI, .int), (cZ, .boolean)]
/-- the links between nest mates: no words that a list may hold -/
def NWt : List (String × Nat × MethodName × String) := [(RX8, 11, yX4_init, "GlossedPage"), (RX8, 18, yX7_init, "GlossedPage"), (RX8, 25, yX0_init, "GlossedPage"), (RX8, 32, yX1_init, "GlossedPage"), (RX8, 39, yX5_init, "GlossedPage"), (RX8, 46, yX6_init, "GlossedPage"), (RX6, 11, yX3_init, "GlossedPage"), (RX8, 53, yX2_init, "GlossedPage"), (RX4, 23, yX8_at, "GlossedPage"), (RX1, 58, yX8_at, "GlossedPage")]
def zN (U : State) : Prop := ∀ q ∈ NWt, va_Nw (.methodLinkNest q.1 q.2.1 q.2.2.1 q.2.2.2) U
def zK (D : va_G) (cI cZ : ClassId) (U : State) : Prop := va_K D vwCl (tyL cI cZ) U ∧ zN U
theorem zK.same {D : va_G} {cI cZ : ClassId} {u U : State} (h : u.vm = U.vm) (k : zK D cI cZ u) : zK D cI cZ U := ⟨va_K.moved (by rw [h]; exact Vm.Alike.refl U.vm) k.1, fun q hq => va_Nw.same rfl h (k.2 q hq)⟩
theorem zK.warm {D : va_G} {cI cZ : ClassId} {s U : State} (hW : s.WarmedH U.vm) (k : zK D cI cZ s) : zK D cI cZ U := ⟨va_K.moved hW.alike k.1, fun q hq => va_Nw.warmM hW (k.2 q hq)⟩
/-- what a method's place has for good -/
def zF (Γ : zG) (w : zSt → va_W) (cI cZ : ClassId) (cc : ByteArray) (rm : Room) (nL' : Nat) (own : String) : Prop :=
  match Γ with
  | (p, _, _, R, s, m, args, _, _, c, _, D, A, k, n, nL) => p.tables.exec = Jvm.exec ∧ c.code = cc ∧ c.maxLocals = nL ∧ s.vm.findClass own = some m.cls ∧ (∀ w ∈ WS, w.before args s = true) ∧ zK D cI cZ s ∧ (∀ S, va_D A (w S)) ∧ R = rm ∧ k ≤ rm.cells ∧ n ≤ rm.slots ∧ nL = nL'
/-- from here (the world, the locals, the place, the stack) the machine comes to its end -/
def zk (Γ : zG) (w : zSt → va_W) (G : zSt → Prop) (S : zSt) (lv : List (Nat × Value)) (pc : Nat) (st : List Value) : Prop :=
  match Γ with
  | (p, l, e, R, s, m, args, below, meth, c, Q, D, A, k, n, nL) => G S → ∀ (H : Heap) (locs : List Loc) (ls : Array Slot), va_P D vwCl (w S) H → va_S A s.heap H locs → lv_has ls nL lv → W p l e R s m args below meth c H locs k n Q (F0 m pc ls st)
section Rows
variable {Γ : zG} {w : zSt → va_W} {cI cZ : ClassId} {cc : ByteArray} {rm : Room} {nL' : Nat} {own : String} {G : zSt → Prop} {S : zSt} {lv : List (Nat × Value)} {pc : Nat} {st : List Value}
theorem k_sub (ks : List Nat) {lv' : List (Nat × Value)} (hl : lv_pick lv ks = lv') (kk : zk Γ w G S lv' pc st) : zk Γ w G S lv pc st := by
  obtain ⟨p, l, e, R, s, m, args, below, meth, c, Q, D, A, k0, n0, nL⟩ := Γ
  intro hG H locs ls hP hS hh
  exact kk hG H locs ls hP hS (lv_sub hh ks hl)
theorem k_at {pc' : Nat} (e : pc = pc') (kk : zk Γ w G S lv pc' st) : zk Γ w G S lv pc st := e ▸ kk
theorem k_iconst (F : zF Γ w cI cZ cc rm nL' own) {n : Int} (hd : decode cc pc = .ok (.iconst n, 1)) (kk : zk Γ w G S lv (pc + 1) (.int (zI n) :: st)) : zk Γ w G S lv (pc) (st) := by
  obtain ⟨p, l, e, R, s, m, args, below, meth, c, Q, D, A, k0, n0, nL⟩ := Γ
  obtain ⟨hx, hb, hml, hown, hts, ⟨hK, hN⟩, hD, rfl, hk0, hn0, rfl⟩ := F
  intro hG H locs ls hP hS hh
  exact lv_iconst hx hb hd rfl (kk hG H locs ls hP hS hh)
theorem k_bipush (F : zF Γ w cI cZ cc rm nL' own) {n : Int} (hd : decode cc pc = .ok (.bipush n, 2)) (hv : (Int8.ofInt n).toInt32 = zI n) (kk : zk Γ w G S lv (pc + 2) (.int (zI n) :: st)) : zk Γ w G S lv (pc) (st) := by
  obtain ⟨p, l, e, R, s, m, args, below, meth, c, Q, D, A, k0, n0, nL⟩ := Γ
  obtain ⟨hx, hb, hml, hown, hts, ⟨hK, hN⟩, hD, rfl, hk0, hn0, rfl⟩ := F
  intro hG H locs ls hP hS hh
  exact lv_bipush hx hb hd hv (kk hG H locs ls hP hS hh)
theorem k_sipush (F : zF Γ w cI cZ cc rm nL' own) {n : Int} (hd : decode cc pc = .ok (.sipush n, 3)) (hv : (Int16.ofInt n).toInt32 = zI n) (kk : zk Γ w G S lv (pc + 3) (.int (zI n) :: st)) : zk Γ w G S lv (pc) (st) := by
  obtain ⟨p, l, e, R, s, m, args, below, meth, c, Q, D, A, k0, n0, nL⟩ := Γ
  obtain ⟨hx, hb, hml, hown, hts, ⟨hK, hN⟩, hD, rfl, hk0, hn0, rfl⟩ := F
  intro hG H locs ls hP hS hh
  exact lv_sipush hx hb hd hv (kk hG H locs ls hP hS hh)
theorem k_ldc (F : zF Γ w cI cZ cc rm nL' own) {n : Int} {idx : Nat} {v : Int32} (hc : Cond.constant own idx v ∈ WS) (hv : v = zI n) (hd : decode cc pc = .ok (.ldc idx, 2)) (kk : zk Γ w G S lv (pc + 2) (.int (zI n) :: st)) : zk Γ w G S lv (pc) (st) := by
  obtain ⟨p, l, e, R, s, m, args, below, meth, c, Q, D, A, k0, n0, nL⟩ := Γ
  obtain ⟨hx, hb, hml, hown, hts, ⟨hK, hN⟩, hD, rfl, hk0, hn0, rfl⟩ := F
  intro hG H locs ls hP hS hh
  subst hv
  exact lv_ldc hx hb hown (hts _ hc) hd (kk hG H locs ls hP hS hh)
theorem k_iload_n (F : zF Γ w cI cZ cc rm nL' own) {k : Fin 4} {i : Nat} {x : Int32} (hd : decode cc pc = .ok (.iload_n k, 1)) (hi : (k : Nat) = i) (j : Nat) (hl : lv[j]? = some (i, .int x)) (kk : zk Γ w G S lv (pc + 1) (.int x :: st)) : zk Γ w G S lv (pc) (st) := by
  obtain ⟨p, l, e, R, s, m, args, below, meth, c, Q, D, A, k0, n0, nL⟩ := Γ
  obtain ⟨hx, hb, hml, hown, hts, ⟨hK, hN⟩, hD, rfl, hk0, hn0, rfl⟩ := F
  intro hG H locs ls hP hS hh
  exact lv_iload_n hx hb hd hi (lv_at hh j hl) (kk hG H locs ls hP hS hh)
theorem k_iload (F : zF Γ w cI cZ cc rm nL' own) {i : Nat} {x : Int32} (hd : decode cc pc = .ok (.iload i, 2)) (j : Nat) (hl : lv[j]? = some (i, .int x)) (kk : zk Γ w G S lv (pc + 2) (.int x :: st)) : zk Γ w G S lv (pc) (st) := by
  obtain ⟨p, l, e, R, s, m, args, below, meth, c, Q, D, A, k0, n0, nL⟩ := Γ
  obtain ⟨hx, hb, hml, hown, hts, ⟨hK, hN⟩, hD, rfl, hk0, hn0, rfl⟩ := F
  intro hG H locs ls hP hS hh
  exact lv_iload hx hb hd (lv_at hh j hl) (kk hG H locs ls hP hS hh)
theorem k_aload_n (F : zF Γ w cI cZ cc rm nL' own) {k : Fin 4} {i : Nat} {x : Nat} (hd : decode cc pc = .ok (.aload_n k, 1)) (hi : (k : Nat) = i) (j : Nat) (hl : lv[j]? = some (i, .ref x)) (kk : zk Γ w G S lv (pc + 1) (.ref x :: st)) : zk Γ w G S lv (pc) (st) := by
  obtain ⟨p, l, e, R, s, m, args, below, meth, c, Q, D, A, k0, n0, nL⟩ := Γ
  obtain ⟨hx, hb, hml, hown, hts, ⟨hK, hN⟩, hD, rfl, hk0, hn0, rfl⟩ := F
  intro hG H locs ls hP hS hh
  exact lv_aload_n hx hb hd hi (lv_at hh j hl) (kk hG H locs ls hP hS hh)
theorem k_aload (F : zF Γ w cI cZ cc rm nL' own) {i : Nat} {x : Nat} (hd : decode cc pc = .ok (.aload i, 2)) (j : Nat) (hl : lv[j]? = some (i, .ref x)) (kk : zk Γ w G S lv (pc + 2) (.ref x :: st)) : zk Γ w G S lv (pc) (st) := by
  obtain ⟨p, l, e, R, s, m, args, below, meth, c, Q, D, A, k0, n0, nL⟩ := Γ
  obtain ⟨hx, hb, hml, hown, hts, ⟨hK, hN⟩, hD, rfl, hk0, hn0, rfl⟩ := F
  intro hG H locs ls hP hS hh
  exact lv_aload hx hb hd (lv_at hh j hl) (kk hG H locs ls hP hS hh)
theorem k_istore_n (F : zF Γ w cI cZ cc rm nL' own) {k : Fin 4} {i : Nat} {x : Int32} {lv' : List (Nat × Value)} (hd : decode cc pc = .ok (.istore_n k, 1)) (hi : (k : Nat) = i) (hn : i < nL') (hl : (i, Value.int x) :: lv.filter (fun q => !(q.1 == i) && !(q.1 + 1 == i && q.2.category == 2)) = lv') (kk : zk Γ w G S lv' (pc + 1) (st)) : zk Γ w G S lv (pc) (.int x :: st) := by
  obtain ⟨p, l, e, R, s, m, args, below, meth, c, Q, D, A, k0, n0, nL⟩ := Γ
  obtain ⟨hx, hb, hml, hown, hts, ⟨hK, hN⟩, hD, rfl, hk0, hn0, rfl⟩ := F
  intro hG H locs ls hP hS hh
  exact lv_istore_n hx hb hd hi hh hn hl (fun ls hl => kk hG H locs ls hP hS hl)
theorem k_istore (F : zF Γ w cI cZ cc rm nL' own) {i : Nat} {x : Int32} {lv' : List (Nat × Value)} (hd : decode cc pc = .ok (.istore i, 2)) (hn : i < nL') (hl : (i, Value.int x) :: lv.filter (fun q => !(q.1 == i) && !(q.1 + 1 == i && q.2.category == 2)) = lv') (kk : zk Γ w G S lv' (pc + 2) (st)) : zk Γ w G S lv (pc) (.int x :: st) := by
  obtain ⟨p, l, e, R, s, m, args, below, meth, c, Q, D, A, k0, n0, nL⟩ := Γ
  obtain ⟨hx, hb, hml, hown, hts, ⟨hK, hN⟩, hD, rfl, hk0, hn0, rfl⟩ := F
  intro hG H locs ls hP hS hh
  exact lv_istore hx hb hd hh hn hl (fun ls hl => kk hG H locs ls hP hS hl)
theorem k_astore_n (F : zF Γ w cI cZ cc rm nL' own) {k : Fin 4} {i : Nat} {x : Nat} {lv' : List (Nat × Value)} (hd : decode cc pc = .ok (.astore_n k, 1)) (hi : (k : Nat) = i) (hn : i < nL') (hl : (i, Value.ref x) :: lv.filter (fun q => !(q.1 == i) && !(q.1 + 1 == i && q.2.category == 2)) = lv') (kk : zk Γ w G S lv' (pc + 1) (st)) : zk Γ w G S lv (pc) (.ref x :: st) := by
  obtain ⟨p, l, e, R, s, m, args, below, meth, c, Q, D, A, k0, n0, nL⟩ := Γ
  obtain ⟨hx, hb, hml, hown, hts, ⟨hK, hN⟩, hD, rfl, hk0, hn0, rfl⟩ := F
  intro hG H locs ls hP hS hh
  exact lv_astore_n hx hb hd hi hh hn hl (fun ls hl => kk hG H locs ls hP hS hl)
theorem k_astore (F : zF Γ w cI cZ cc rm nL' own) {i : Nat} {x : Nat} {lv' : List (Nat × Value)} (hd : decode cc pc = .ok (.astore i, 2)) (hn : i < nL') (hl : (i, Value.ref x) :: lv.filter (fun q => !(q.1 == i) && !(q.1 + 1 == i && q.2.category == 2)) = lv') (kk : zk Γ w G S lv' (pc + 2) (st)) : zk Γ w G S lv (pc) (.ref x :: st) := by
  obtain ⟨p, l, e, R, s, m, args, below, meth, c, Q, D, A, k0, n0, nL⟩ := Γ
  obtain ⟨hx, hb, hml, hown, hts, ⟨hK, hN⟩, hD, rfl, hk0, hn0, rfl⟩ := F
  intro hG H locs ls hP hS hh
  exact lv_astore hx hb hd hh hn hl (fun ls hl => kk hG H locs ls hP hS hl)
theorem k_iinc (F : zF Γ w cI cZ cc rm nL' own) {R : Type} {r : R} {i k : Nat} {n x : Int} {K : Int → Option R} {lv' : Int → List (Nat × Value)} (hd : decode cc pc = .ok (.iinc i n, 3)) (hk : lv[k]? = some (i, .int (zI x))) (hn : i < nL') (hl : ∀ y, (i, Value.int (zI y)) :: lv.filter (fun q => !(q.1 == i) && !(q.1 + 1 == i && q.2.category == 2)) = lv' y) (h : zar (x + n) K = some r) (kk : ∀ y, inR y → K y = some r → zk Γ w G S (lv' y) (pc + 3) (st)) : zk Γ w G S lv (pc) (st) := by
  obtain ⟨p, l, e, R, s, m, args, below, meth, c, Q, D, A, k0, n0, nL⟩ := Γ
  obtain ⟨hx, hb, hml, hown, hts, ⟨hK, hN⟩, hD, rfl, hk0, hn0, rfl⟩ := F
  intro hG H locs ls hP hS hh
  obtain ⟨h1, h2⟩ := zar_e h
  exact lv_iinc hx hb hd hh hk (zI_add x n) hn (hl (x + n)) (fun ls hl => kk _ h1 h2 hG H locs ls hP hS hl)
theorem k_dup (F : zF Γ w cI cZ cc rm nL' own) {v : Value} (hd : decode cc pc = .ok (.dup, 1)) (hv : v.category = 1) (kk : zk Γ w G S lv (pc + 1) (v :: v :: st)) : zk Γ w G S lv (pc) (v :: st) := by
  obtain ⟨p, l, e, R, s, m, args, below, meth, c, Q, D, A, k0, n0, nL⟩ := Γ
  obtain ⟨hx, hb, hml, hown, hts, ⟨hK, hN⟩, hD, rfl, hk0, hn0, rfl⟩ := F
  intro hG H locs ls hP hS hh
  exact lv_dup hx hb hd hv (kk hG H locs ls hP hS hh)
theorem k_dup2 (F : zF Γ w cI cZ cc rm nL' own) {v u : Value} (hd : decode cc pc = .ok (.dup2, 1)) (hv : v.category = 1) (hu : u.category = 1) (kk : zk Γ w G S lv (pc + 1) (v :: u :: v :: u :: st)) : zk Γ w G S lv (pc) (v :: u :: st) := by
  obtain ⟨p, l, e, R, s, m, args, below, meth, c, Q, D, A, k0, n0, nL⟩ := Γ
  obtain ⟨hx, hb, hml, hown, hts, ⟨hK, hN⟩, hD, rfl, hk0, hn0, rfl⟩ := F
  intro hG H locs ls hP hS hh
  exact lv_dup2_11 hx hb hd hv hu (kk hG H locs ls hP hS hh)
theorem k_dup_x1 (F : zF Γ w cI cZ cc rm nL' own) {v u : Value} (hd : decode cc pc = .ok (.dup_x1, 1)) (hv : v.category = 1) (hu : u.category = 1) (kk : zk Γ w G S lv (pc + 1) (v :: u :: v :: st)) : zk Γ w G S lv (pc) (v :: u :: st) := by
  obtain ⟨p, l, e, R, s, m, args, below, meth, c, Q, D, A, k0, n0, nL⟩ := Γ
  obtain ⟨hx, hb, hml, hown, hts, ⟨hK, hN⟩, hD, rfl, hk0, hn0, rfl⟩ := F
  intro hG H locs ls hP hS hh
  exact lv_dup_x1 hx hb hd hv hu (kk hG H locs ls hP hS hh)
theorem k_goto (F : zF Γ w cI cZ cc rm nL' own) {off : Int} {tgt : Nat} (hd : decode cc pc = .ok (.goto off, 3)) (ht : (pc : Int) + off = (tgt : Int)) (kk : zk Γ w G S lv (tgt) (st)) : zk Γ w G S lv (pc) (st) := by
  obtain ⟨p, l, e, R, s, m, args, below, meth, c, Q, D, A, k0, n0, nL⟩ := Γ
  obtain ⟨hx, hb, hml, hown, hts, ⟨hK, hN⟩, hD, rfl, hk0, hn0, rfl⟩ := F
  intro hG H locs ls hP hS hh
  exact lv_goto hx hb hd ht (kk hG H locs ls hP hS hh)
theorem k_iadd (F : zF Γ w cI cZ cc rm nL' own) {R : Type} {r : R} {a b : Int} {K : Int → Option R} (hd : decode cc pc = .ok (.iadd, 1)) (h : zar (a + b) K = some r) (kk : ∀ x, inR x → K x = some r → zk Γ w G S lv (pc + 1) (.int (zI x) :: st)) : zk Γ w G S lv (pc) (.int (zI b) :: .int (zI a) :: st) := by
  obtain ⟨p, l, e, R, s, m, args, below, meth, c, Q, D, A, k0, n0, nL⟩ := Γ
  obtain ⟨hx, hb, hml, hown, hts, ⟨hK, hN⟩, hD, rfl, hk0, hn0, rfl⟩ := F
  intro hG H locs ls hP hS hh
  obtain ⟨h1, h2⟩ := zar_e h
  refine lv_iadd hx hb hd ?_
  rw [zI_add a b]
  exact kk _ h1 h2 hG H locs ls hP hS hh
theorem k_isub (F : zF Γ w cI cZ cc rm nL' own) {R : Type} {r : R} {a b : Int} {K : Int → Option R} (hd : decode cc pc = .ok (.isub, 1)) (h : zar (a - b) K = some r) (kk : ∀ x, inR x → K x = some r → zk Γ w G S lv (pc + 1) (.int (zI x) :: st)) : zk Γ w G S lv (pc) (.int (zI b) :: .int (zI a) :: st) := by
  obtain ⟨p, l, e, R, s, m, args, below, meth, c, Q, D, A, k0, n0, nL⟩ := Γ
  obtain ⟨hx, hb, hml, hown, hts, ⟨hK, hN⟩, hD, rfl, hk0, hn0, rfl⟩ := F
  intro hG H locs ls hP hS hh
  obtain ⟨h1, h2⟩ := zar_e h
  refine lv_isub hx hb hd ?_
  rw [zI_sub a b]
  exact kk _ h1 h2 hG H locs ls hP hS hh
theorem k_imul (F : zF Γ w cI cZ cc rm nL' own) {R : Type} {r : R} {a b : Int} {K : Int → Option R} (hd : decode cc pc = .ok (.imul, 1)) (h : zar (a * b) K = some r) (kk : ∀ x, inR x → K x = some r → zk Γ w G S lv (pc + 1) (.int (zI x) :: st)) : zk Γ w G S lv (pc) (.int (zI b) :: .int (zI a) :: st) := by
  obtain ⟨p, l, e, R, s, m, args, below, meth, c, Q, D, A, k0, n0, nL⟩ := Γ
  obtain ⟨hx, hb, hml, hown, hts, ⟨hK, hN⟩, hD, rfl, hk0, hn0, rfl⟩ := F
  intro hG H locs ls hP hS hh
  obtain ⟨h1, h2⟩ := zar_e h
  refine lv_imul hx hb hd ?_
  rw [zI_mul a b]
  exact kk _ h1 h2 hG H locs ls hP hS hh
theorem k_idiv (F : zF Γ w cI cZ cc rm nL' own) {R : Type} {r : R} {a b : Int} {K : Int → Option R} (ha : inR a) (hb9 : inR b) (hd : decode cc pc = .ok (.idiv, 1)) (h : zdv a b K = some r) (kk : ∀ x, inR x → K x = some r → zk Γ w G S lv (pc + 1) (.int (zI x) :: st)) : zk Γ w G S lv (pc) (.int (zI b) :: .int (zI a) :: st) := by
  obtain ⟨p, l, e, R, s, m, args, below, meth, c, Q, D, A, k0, n0, nL⟩ := Γ
  obtain ⟨hx, hb, hml, hown, hts, ⟨hK, hN⟩, hD, rfl, hk0, hn0, rfl⟩ := F
  intro hG H locs ls hP hS hh
  obtain ⟨⟨h0, h1⟩, h2⟩ := zdv_e h
  refine lv_idiv hx hb hd (fun q => ?_) ?_
  · rw [zI_zero, zI_eq hb9 inR_0] at q; omega
  rw [zI_div ha hb9 h0 h1]
  exact kk _ (inR_div ha h0 h1) h2 hG H locs ls hP hS hh
theorem k_irem (F : zF Γ w cI cZ cc rm nL' own) {R : Type} {r : R} {a b : Int} {K : Int → Option R} (ha : inR a) (hb9 : inR b) (hd : decode cc pc = .ok (.irem, 1)) (h : zrm a b K = some r) (kk : ∀ x, inR x → K x = some r → zk Γ w G S lv (pc + 1) (.int (zI x) :: st)) : zk Γ w G S lv (pc) (.int (zI b) :: .int (zI a) :: st) := by
  obtain ⟨p, l, e, R, s, m, args, below, meth, c, Q, D, A, k0, n0, nL⟩ := Γ
  obtain ⟨hx, hb, hml, hown, hts, ⟨hK, hN⟩, hD, rfl, hk0, hn0, rfl⟩ := F
  intro hG H locs ls hP hS hh
  obtain ⟨⟨h0, h1⟩, h2⟩ := zrm_e h
  refine lv_irem hx hb hd (fun q => ?_) ?_
  · rw [zI_zero, zI_eq hb9 inR_0] at q; omega
  rw [zI_rem ha hb9 h0 h1]
  exact kk _ (inR_mod hb9 h1) h2 hG H locs ls hP hS hh
theorem k_icmp_lt (F : zF Γ w cI cZ cc rm nL' own) {R : Type} {r : R} {a b : Int} {A B : Option R} {off : Int} {tgt : Nat} (ha : inR a) (hb9 : inR b) (hd : decode cc pc = .ok (.if_icmp .lt off, 3)) (ht : (pc : Int) + off = (tgt : Int)) (h : (if a < b then A else B) = some r) (kt : A = some r → zk Γ w G S lv (tgt) (st)) (kf : B = some r → zk Γ w G S lv (pc + 3) (st)) : zk Γ w G S lv (pc) (.int (zI b) :: .int (zI a) :: st) := by
  obtain ⟨p, l, e, R, s, m, args, below, meth, c, Q, D, A, k0, n0, nL⟩ := Γ
  obtain ⟨hx, hb, hml, hown, hts, ⟨hK, hN⟩, hD, rfl, hk0, hn0, rfl⟩ := F
  intro hG H locs ls hP hS hh
  obtain ⟨h1, h2⟩ := zif_e h
  exact lv_icmp_lt hx hb hd ht (fun q => kt (h1 ((zI_lt ha hb9).mp q)) hG H locs ls hP hS hh) (fun q => kf (h2 (fun z => q ((zI_lt ha hb9).mpr z))) hG H locs ls hP hS hh)
theorem k_if_lt (F : zF Γ w cI cZ cc rm nL' own) {R : Type} {r : R} {a : Int} {A B : Option R} {off : Int} {tgt : Nat} (ha : inR a) (hd : decode cc pc = .ok (.ifCond .lt off, 3)) (ht : (pc : Int) + off = (tgt : Int)) (h : (if a < 0 then A else B) = some r) (kt : A = some r → zk Γ w G S lv (tgt) (st)) (kf : B = some r → zk Γ w G S lv (pc + 3) (st)) : zk Γ w G S lv (pc) (.int (zI a) :: st) := by
  obtain ⟨p, l, e, R, s, m, args, below, meth, c, Q, D, A, k0, n0, nL⟩ := Γ
  obtain ⟨hx, hb, hml, hown, hts, ⟨hK, hN⟩, hD, rfl, hk0, hn0, rfl⟩ := F
  intro hG H locs ls hP hS hh
  obtain ⟨h1, h2⟩ := zif_e h
  have e := zI_lt ha inR_0
  rw [← zI_zero] at e
  exact lv_if_lt hx hb hd ht (fun q => kt (h1 (e.mp q)) hG H locs ls hP hS hh) (fun q => kf (h2 (fun z => q (e.mpr z))) hG H locs ls hP hS hh)
theorem k_icmp_ge (F : zF Γ w cI cZ cc rm nL' own) {R : Type} {r : R} {a b : Int} {A B : Option R} {off : Int} {tgt : Nat} (ha : inR a) (hb9 : inR b) (hd : decode cc pc = .ok (.if_icmp .ge off, 3)) (ht : (pc : Int) + off = (tgt : Int)) (h : (if b ≤ a then A else B) = some r) (kt : A = some r → zk Γ w G S lv (tgt) (st)) (kf : B = some r → zk Γ w G S lv (pc + 3) (st)) : zk Γ w G S lv (pc) (.int (zI b) :: .int (zI a) :: st) := by
  obtain ⟨p, l, e, R, s, m, args, below, meth, c, Q, D, A, k0, n0, nL⟩ := Γ
  obtain ⟨hx, hb, hml, hown, hts, ⟨hK, hN⟩, hD, rfl, hk0, hn0, rfl⟩ := F
  intro hG H locs ls hP hS hh
  obtain ⟨h1, h2⟩ := zif_e h
  exact lv_icmp_ge hx hb hd ht (fun q => kt (h1 ((zI_le hb9 ha).mp q)) hG H locs ls hP hS hh) (fun q => kf (h2 (fun z => q ((zI_le hb9 ha).mpr z))) hG H locs ls hP hS hh)
theorem k_if_ge (F : zF Γ w cI cZ cc rm nL' own) {R : Type} {r : R} {a : Int} {A B : Option R} {off : Int} {tgt : Nat} (ha : inR a) (hd : decode cc pc = .ok (.ifCond .ge off, 3)) (ht : (pc : Int) + off = (tgt : Int)) (h : (if 0 ≤ a then A else B) = some r) (kt : A = some r → zk Γ w G S lv (tgt) (st)) (kf : B = some r → zk Γ w G S lv (pc + 3) (st)) : zk Γ w G S lv (pc) (.int (zI a) :: st) := by
  obtain ⟨p, l, e, R, s, m, args, below, meth, c, Q, D, A, k0, n0, nL⟩ := Γ
  obtain ⟨hx, hb, hml, hown, hts, ⟨hK, hN⟩, hD, rfl, hk0, hn0, rfl⟩ := F
  intro hG H locs ls hP hS hh
  obtain ⟨h1, h2⟩ := zif_e h
  have e := zI_le inR_0 ha
  rw [← zI_zero] at e
  exact lv_if_ge hx hb hd ht (fun q => kt (h1 (e.mp q)) hG H locs ls hP hS hh) (fun q => kf (h2 (fun z => q (e.mpr z))) hG H locs ls hP hS hh)
theorem k_icmp_gt (F : zF Γ w cI cZ cc rm nL' own) {R : Type} {r : R} {a b : Int} {A B : Option R} {off : Int} {tgt : Nat} (ha : inR a) (hb9 : inR b) (hd : decode cc pc = .ok (.if_icmp .gt off, 3)) (ht : (pc : Int) + off = (tgt : Int)) (h : (if b < a then A else B) = some r) (kt : A = some r → zk Γ w G S lv (tgt) (st)) (kf : B = some r → zk Γ w G S lv (pc + 3) (st)) : zk Γ w G S lv (pc) (.int (zI b) :: .int (zI a) :: st) := by
  obtain ⟨p, l, e, R, s, m, args, below, meth, c, Q, D, A, k0, n0, nL⟩ := Γ
  obtain ⟨hx, hb, hml, hown, hts, ⟨hK, hN⟩, hD, rfl, hk0, hn0, rfl⟩ := F
  intro hG H locs ls hP hS hh
  obtain ⟨h1, h2⟩ := zif_e h
  exact lv_icmp_gt hx hb hd ht (fun q => kt (h1 ((zI_lt hb9 ha).mp q)) hG H locs ls hP hS hh) (fun q => kf (h2 (fun z => q ((zI_lt hb9 ha).mpr z))) hG H locs ls hP hS hh)
theorem k_if_gt (F : zF Γ w cI cZ cc rm nL' own) {R : Type} {r : R} {a : Int} {A B : Option R} {off : Int} {tgt : Nat} (ha : inR a) (hd : decode cc pc = .ok (.ifCond .gt off, 3)) (ht : (pc : Int) + off = (tgt : Int)) (h : (if 0 < a then A else B) = some r) (kt : A = some r → zk Γ w G S lv (tgt) (st)) (kf : B = some r → zk Γ w G S lv (pc + 3) (st)) : zk Γ w G S lv (pc) (.int (zI a) :: st) := by
  obtain ⟨p, l, e, R, s, m, args, below, meth, c, Q, D, A, k0, n0, nL⟩ := Γ
  obtain ⟨hx, hb, hml, hown, hts, ⟨hK, hN⟩, hD, rfl, hk0, hn0, rfl⟩ := F
  intro hG H locs ls hP hS hh
  obtain ⟨h1, h2⟩ := zif_e h
  have e := zI_lt inR_0 ha
  rw [← zI_zero] at e
  exact lv_if_gt hx hb hd ht (fun q => kt (h1 (e.mp q)) hG H locs ls hP hS hh) (fun q => kf (h2 (fun z => q (e.mpr z))) hG H locs ls hP hS hh)
theorem k_icmp_le (F : zF Γ w cI cZ cc rm nL' own) {R : Type} {r : R} {a b : Int} {A B : Option R} {off : Int} {tgt : Nat} (ha : inR a) (hb9 : inR b) (hd : decode cc pc = .ok (.if_icmp .le off, 3)) (ht : (pc : Int) + off = (tgt : Int)) (h : (if a ≤ b then A else B) = some r) (kt : A = some r → zk Γ w G S lv (tgt) (st)) (kf : B = some r → zk Γ w G S lv (pc + 3) (st)) : zk Γ w G S lv (pc) (.int (zI b) :: .int (zI a) :: st) := by
  obtain ⟨p, l, e, R, s, m, args, below, meth, c, Q, D, A, k0, n0, nL⟩ := Γ
  obtain ⟨hx, hb, hml, hown, hts, ⟨hK, hN⟩, hD, rfl, hk0, hn0, rfl⟩ := F
  intro hG H locs ls hP hS hh
  obtain ⟨h1, h2⟩ := zif_e h
  exact lv_icmp_le hx hb hd ht (fun q => kt (h1 ((zI_le ha hb9).mp q)) hG H locs ls hP hS hh) (fun q => kf (h2 (fun z => q ((zI_le ha hb9).mpr z))) hG H locs ls hP hS hh)
theorem k_if_le (F : zF Γ w cI cZ cc rm nL' own) {R : Type} {r : R} {a : Int} {A B : Option R} {off : Int} {tgt : Nat} (ha : inR a) (hd : decode cc pc = .ok (.ifCond .le off, 3)) (ht : (pc : Int) + off = (tgt : Int)) (h : (if a ≤ 0 then A else B) = some r) (kt : A = some r → zk Γ w G S lv (tgt) (st)) (kf : B = some r → zk Γ w G S lv (pc + 3) (st)) : zk Γ w G S lv (pc) (.int (zI a) :: st) := by
  obtain ⟨p, l, e, R, s, m, args, below, meth, c, Q, D, A, k0, n0, nL⟩ := Γ
  obtain ⟨hx, hb, hml, hown, hts, ⟨hK, hN⟩, hD, rfl, hk0, hn0, rfl⟩ := F
  intro hG H locs ls hP hS hh
  obtain ⟨h1, h2⟩ := zif_e h
  have e := zI_le ha inR_0
  rw [← zI_zero] at e
  exact lv_if_le hx hb hd ht (fun q => kt (h1 (e.mp q)) hG H locs ls hP hS hh) (fun q => kf (h2 (fun z => q (e.mpr z))) hG H locs ls hP hS hh)
theorem k_icmp_eq (F : zF Γ w cI cZ cc rm nL' own) {R : Type} {r : R} {a b : Int} {A B : Option R} {off : Int} {tgt : Nat} (ha : inR a) (hb9 : inR b) (hd : decode cc pc = .ok (.if_icmp .eq off, 3)) (ht : (pc : Int) + off = (tgt : Int)) (h : (if a = b then A else B) = some r) (kt : A = some r → zk Γ w G S lv (tgt) (st)) (kf : B = some r → zk Γ w G S lv (pc + 3) (st)) : zk Γ w G S lv (pc) (.int (zI b) :: .int (zI a) :: st) := by
  obtain ⟨p, l, e, R, s, m, args, below, meth, c, Q, D, A, k0, n0, nL⟩ := Γ
  obtain ⟨hx, hb, hml, hown, hts, ⟨hK, hN⟩, hD, rfl, hk0, hn0, rfl⟩ := F
  intro hG H locs ls hP hS hh
  obtain ⟨h1, h2⟩ := zif_e h
  exact lv_icmp_eq hx hb hd ht (fun q => kt (h1 ((zI_eq ha hb9).mp q)) hG H locs ls hP hS hh) (fun q => kf (h2 (fun z => q ((zI_eq ha hb9).mpr z))) hG H locs ls hP hS hh)
theorem k_if_eq (F : zF Γ w cI cZ cc rm nL' own) {R : Type} {r : R} {a : Int} {A B : Option R} {off : Int} {tgt : Nat} (ha : inR a) (hd : decode cc pc = .ok (.ifCond .eq off, 3)) (ht : (pc : Int) + off = (tgt : Int)) (h : (if a = 0 then A else B) = some r) (kt : A = some r → zk Γ w G S lv (tgt) (st)) (kf : B = some r → zk Γ w G S lv (pc + 3) (st)) : zk Γ w G S lv (pc) (.int (zI a) :: st) := by
  obtain ⟨p, l, e, R, s, m, args, below, meth, c, Q, D, A, k0, n0, nL⟩ := Γ
  obtain ⟨hx, hb, hml, hown, hts, ⟨hK, hN⟩, hD, rfl, hk0, hn0, rfl⟩ := F
  intro hG H locs ls hP hS hh
  obtain ⟨h1, h2⟩ := zif_e h
  have e := zI_eq ha inR_0
  rw [← zI_zero] at e
  exact lv_if_eq hx hb hd ht (fun q => kt (h1 (e.mp q)) hG H locs ls hP hS hh) (fun q => kf (h2 (fun z => q (e.mpr z))) hG H locs ls hP hS hh)
theorem k_icmp_ne (F : zF Γ w cI cZ cc rm nL' own) {R : Type} {r : R} {a b : Int} {A B : Option R} {off : Int} {tgt : Nat} (ha : inR a) (hb9 : inR b) (hd : decode cc pc = .ok (.if_icmp .ne off, 3)) (ht : (pc : Int) + off = (tgt : Int)) (h : (if a = b then B else A) = some r) (kt : A = some r → zk Γ w G S lv (tgt) (st)) (kf : B = some r → zk Γ w G S lv (pc + 3) (st)) : zk Γ w G S lv (pc) (.int (zI b) :: .int (zI a) :: st) := by
  obtain ⟨p, l, e, R, s, m, args, below, meth, c, Q, D, A, k0, n0, nL⟩ := Γ
  obtain ⟨hx, hb, hml, hown, hts, ⟨hK, hN⟩, hD, rfl, hk0, hn0, rfl⟩ := F
  intro hG H locs ls hP hS hh
  obtain ⟨h1, h2⟩ := zif_e h
  exact lv_icmp_ne hx hb hd ht (fun q => kt (h2 (fun z => q ((zI_eq ha hb9).mpr z))) hG H locs ls hP hS hh) (fun q => kf (h1 ((zI_eq ha hb9).mp q)) hG H locs ls hP hS hh)
theorem k_if_ne (F : zF Γ w cI cZ cc rm nL' own) {R : Type} {r : R} {a : Int} {A B : Option R} {off : Int} {tgt : Nat} (ha : inR a) (hd : decode cc pc = .ok (.ifCond .ne off, 3)) (ht : (pc : Int) + off = (tgt : Int)) (h : (if a = 0 then B else A) = some r) (kt : A = some r → zk Γ w G S lv (tgt) (st)) (kf : B = some r → zk Γ w G S lv (pc + 3) (st)) : zk Γ w G S lv (pc) (.int (zI a) :: st) := by
  obtain ⟨p, l, e, R, s, m, args, below, meth, c, Q, D, A, k0, n0, nL⟩ := Γ
  obtain ⟨hx, hb, hml, hown, hts, ⟨hK, hN⟩, hD, rfl, hk0, hn0, rfl⟩ := F
  intro hG H locs ls hP hS hh
  obtain ⟨h1, h2⟩ := zif_e h
  exact lv_if_ne hx hb hd ht (fun q => kt (h2 (fun z => q (by rw [z]; exact zI_zero.symm))) hG H locs ls hP hS hh) (fun q => kf (h1 ((zI_eq ha inR_0).mp (by rw [q]; exact zI_zero))) hG H locs ls hP hS hh)
theorem k_getR (F : zF Γ w cI cZ cc rm nL' own) {C : String} {T : u_T} {N ci idx : Nat} {a : Nat} (q0 : Nat) {fs : zSt → List Value} (k : Nat) (hin : ∀ w ∈ u_ws C T N, w ∈ WS) (he : ∀ S, (w S)[q0]? = some (a, .inr (ci, fs S))) (hc : vwCl[ci]? = some (C, T, N)) (hk : k < N) (hlink : (Cond.fieldLink own idx (T k).1 (T k).2.1 (T k).2.2.1) ∈ WS) {x : Nat} (hv : ∀ S, (fs S)[k]? = some (.ref x)) (hd : decode cc pc = .ok (.getfield idx, 3)) (kk : zk Γ w G S lv (pc + 3) (.ref x :: st)) : zk Γ w G S lv (pc) (.ref a :: st) := by
  obtain ⟨p, l, e, R, s, m, args, below, meth, c, Q, D, A, k0, n0, nL⟩ := Γ
  obtain ⟨hx, hb, hml, hown, hts, ⟨hK, hN⟩, hD, rfl, hk0, hn0, rfl⟩ := F
  intro hG H locs ls hP hS hh
  exact va_get hx hb hts hin hown hK hP q0 (he S) hc k hk (hts _ hlink) (fun _ h9 => h9) (hv S) hd (kk hG H locs ls hP hS hh)
theorem k_getI (F : zF Γ w cI cZ cc rm nL' own) {R : Type} {r : R} {j : Nat} {bs : List Nat} {K : Int → Option R} (hGR : G = RG bs) {C : String} {T : u_T} {N ci idx : Nat} {a : Nat} (q0 : Nat) {fs : zSt → List Value} (k : Nat) (hin : ∀ w ∈ u_ws C T N, w ∈ WS) (he : ∀ S, (w S)[q0]? = some (a, .inr (ci, fs S))) (hc : vwCl[ci]? = some (C, T, N)) (hk : k < N) (hlink : (Cond.fieldLink own idx (T k).1 (T k).2.1 (T k).2.2.1) ∈ WS) (hv : ∀ S, (fs S)[k]? = some (.int (zI (S.1 j)))) (hd : decode cc pc = .ok (.getfield idx, 3)) (h : zlt (S.1 j) K = some r) (kk : ∀ x, inR x → K x = some r → zk Γ w G S lv (pc + 3) (.int (zI x) :: st)) : zk Γ w G S lv (pc) (.ref a :: st) := by
  obtain ⟨p, l, e, R, s, m, args, below, meth, c, Q, D, A, k0, n0, nL⟩ := Γ
  obtain ⟨hx, hb, hml, hown, hts, ⟨hK, hN⟩, hD, rfl, hk0, hn0, rfl⟩ := F
  intro hG H locs ls hP hS hh
  subst hGR
  exact va_get hx hb hts hin hown hK hP q0 (he S) hc k hk (hts _ hlink) (fun _ h9 => h9) (hv S) hd (kk _ (hG.1 j) h hG H locs ls hP hS hh)
theorem k_putI (F : zF Γ w cI cZ cc rm nL' own) {R : Type} {r : R} {j : Nat} {bs : List Nat} {v : Int} {K : zSt → Option R} (hGR : G = RG bs) {C : String} {T : u_T} {N ci idx : Nat} {a : Nat} (q0 : Nat) {fs : zSt → List Value} (k : Nat) (hin : ∀ w ∈ u_ws C T N, w ∈ WS) (he : ∀ S, (w S)[q0]? = some (a, .inr (ci, fs S))) (hc : vwCl[ci]? = some (C, T, N)) (hk : k < N) (hlink : (Cond.fieldLink own idx (T k).1 (T k).2.1 (T k).2.2.1) ∈ WS) (ty0 : Nat → FieldType) (hty : ∀ k, k < N → parseFieldDescriptor (T k).2.2.1 = some (ty0 k)) (hnm : ∀ a, a < N → ∀ b, b < N → a ≠ b → (T a).2.1 ≠ (T b).2.1) (hfin : (T k).2.2.2 = false) (hI : parseFieldDescriptor (T k).2.2.1 = some .int) (hl : ∀ S, k < (fs S).length) (hs : ∀ S v, (w S).set q0 (a, .inr (ci, (fs S).set k (.int (zI v)))) = w (zset S j v)) (hr : inR v) (hd : decode cc pc = .ok (.putfield idx, 3)) (h : zlt (zset S j v) K = some r) (kk : ∀ S, K S = some r → zk Γ w G S lv (pc + 3) (st)) : zk Γ w G S lv (pc) (.int (zI v) :: .ref a :: st) := by
  obtain ⟨p, l, e, R, s, m, args, below, meth, c, Q, D, A, k0, n0, nL⟩ := Γ
  obtain ⟨hx, hb, hml, hown, hts, ⟨hK, hN⟩, hD, rfl, hk0, hn0, rfl⟩ := F
  intro hG H locs ls hP hS hh
  subst hGR
  refine va_put hx hb hts hin ty0 hty hnm hown hK hP (hD S) hS q0 (he S) hc k hk (hts _ hlink) (fun _ h9 => h9) hfin hI rfl rfl (hl S) hd (fun H1 locs1 hP1 hD1 hS1 => ?_)
  rw [hs] at hP1
  exact kk _ h (RG_set hG hr) H1 locs1 ls hP1 hS1 hh
theorem k_iald (F : zF Γ w cI cZ cc rm nL' own) {a j n : Nat} {R : Type} {r : R} {bs : List Nat} (hGR : G = RG bs) (q0 : Nat) {i : Int} {K : Int → Option R} (ha : ∀ S, (w S)[q0]? = some (a, .inl (cI, n, .inl (zA (S.2 j))))) (hi : inR i) (hd : decode cc pc = .ok (.iaload, 1)) (h : zld (S.2 j) (n : Int) i K = some r) (kk : ∀ x, inR x → K x = some r → zk Γ w G S lv (pc + 1) (.int (zI x) :: st)) : zk Γ w G S lv (pc) (.int (zI i) :: .ref a :: st) := by
  obtain ⟨p, l, e, R, s, m, args, below, meth, c, Q, D, A, k0, n0, nL⟩ := Γ
  obtain ⟨hx, hb, hml, hown, hts, ⟨hK, hN⟩, hD, rfl, hk0, hn0, rfl⟩ := F
  intro hG H locs ls hP hS hh
  subst hGR
  obtain ⟨h1, h2⟩ := zld_e h
  refine va_iald hx hb hK hP q0 0 (ha S) rfl (zvp_in hi h1) hd ?_
  rw [zI_clamp hi, zA_at h1.1]
  exact kk _ (hG.2.1 j i) h2 hG H locs ls hP hS hh
theorem k_zald (F : zF Γ w cI cZ cc rm nL' own) {a j n : Nat} {R : Type} {r : R} {bs : List Nat} (hGR : G = RG bs) (q0 : Nat) {i : Int} {K : Int → Option R} (ha : ∀ S, (w S)[q0]? = some (a, .inl (cZ, n, .inl (zA (S.2 j))))) (hi : inR i) (hd : decode cc pc = .ok (.baload, 1)) (h : zld (S.2 j) (n : Int) i K = some r) (kk : ∀ x, inR x → K x = some r → zk Γ w G S lv (pc + 1) (.int (zI x) :: st)) : zk Γ w G S lv (pc) (.int (zI i) :: .ref a :: st) := by
  obtain ⟨p, l, e, R, s, m, args, below, meth, c, Q, D, A, k0, n0, nL⟩ := Γ
  obtain ⟨hx, hb, hml, hown, hts, ⟨hK, hN⟩, hD, rfl, hk0, hn0, rfl⟩ := F
  intro hG H locs ls hP hS hh
  subst hGR
  obtain ⟨h1, h2⟩ := zld_e h
  refine va_zald hx hb hK hP q0 1 (ha S) rfl (zvp_in hi h1) hd ?_
  rw [zI_clamp hi, zA_at h1.1]
  exact kk _ (hG.2.1 j i) h2 hG H locs ls hP hS hh
theorem k_zald01 (F : zF Γ w cI cZ cc rm nL' own) {a j n : Nat} {R : Type} {r : R} {bs : List Nat} (hGR : G = RG bs) (q0 : Nat) {i : Int} {K : Int → Option R} (hj : j ∈ bs) (ha : ∀ S, (w S)[q0]? = some (a, .inl (cZ, n, .inl (zA (S.2 j))))) (hi : inR i) (hd : decode cc pc = .ok (.baload, 1)) (h : zld (S.2 j) (n : Int) i K = some r) (kk : ∀ x, inR x → (x = 0 ∨ x = 1) → K x = some r → zk Γ w G S lv (pc + 1) (.int (zI x) :: st)) : zk Γ w G S lv (pc) (.int (zI i) :: .ref a :: st) := by
  obtain ⟨p, l, e, R, s, m, args, below, meth, c, Q, D, A, k0, n0, nL⟩ := Γ
  obtain ⟨hx, hb, hml, hown, hts, ⟨hK, hN⟩, hD, rfl, hk0, hn0, rfl⟩ := F
  intro hG H locs ls hP hS hh
  subst hGR
  obtain ⟨h1, h2⟩ := zld_e h
  refine va_zald hx hb hK hP q0 1 (ha S) rfl (zvp_in hi h1) hd ?_
  rw [zI_clamp hi, zA_at h1.1]
  exact kk _ (hG.2.1 j i) (hG.2.2 j hj i) h2 hG H locs ls hP hS hh
theorem k_iast (F : zF Γ w cI cZ cc rm nL' own) {a j n : Nat} {R : Type} {r : R} {bs : List Nat} (hGR : G = RG bs) (q0 : Nat) {i v : Int} {K : zSt → Option R} (ha : ∀ S, (w S)[q0]? = some (a, .inl (cI, n, .inl (zA (S.2 j))))) (hs : ∀ S i v, 0 ≤ i → (w S).set q0 (a, .inl (cI, n, .inl (upd (zA (S.2 j)) i.toNat (zI v)))) = w (zput S j i v)) (hj : j ∉ bs) (hi : inR i) (hv : inR v) (hd : decode cc pc = .ok (.iastore, 1)) (h : zst S j (n : Int) i v K = some r) (kk : ∀ S, K S = some r → zk Γ w G S lv (pc + 1) (st)) : zk Γ w G S lv (pc) (.int (zI v) :: .int (zI i) :: .ref a :: st) := by
  obtain ⟨p, l, e, R, s, m, args, below, meth, c, Q, D, A, k0, n0, nL⟩ := Γ
  obtain ⟨hx, hb, hml, hown, hts, ⟨hK, hN⟩, hD, rfl, hk0, hn0, rfl⟩ := F
  intro hG H locs ls hP hS hh
  subst hGR
  obtain ⟨h1, h2⟩ := zst_e h
  refine va_iast hx hb hK hP (hD S) hS q0 0 (ha S) rfl (zvp_in hi h1) hd (fun H1 locs1 hP1 hD1 hS1 => ?_)
  rw [zI_clamp hi, hs S i v h1.1] at hP1
  exact kk _ h2 (RG_put hG hv (fun q => absurd q hj)) H1 locs1 ls hP1 hS1 hh
theorem k_zast (F : zF Γ w cI cZ cc rm nL' own) {a j n : Nat} {R : Type} {r : R} {bs : List Nat} (hGR : G = RG bs) (q0 : Nat) {i v : Int} {K : zSt → Option R} (ha : ∀ S, (w S)[q0]? = some (a, .inl (cZ, n, .inl (zA (S.2 j))))) (hs : ∀ S i v, 0 ≤ i → (w S).set q0 (a, .inl (cZ, n, .inl (upd (zA (S.2 j)) i.toNat (zI v)))) = w (zput S j i v)) (hi : inR i) (hv : v = 0 ∨ v = 1) (hd : decode cc pc = .ok (.bastore, 1)) (h : zst S j (n : Int) i v K = some r) (kk : ∀ S, K S = some r → zk Γ w G S lv (pc + 1) (st)) : zk Γ w G S lv (pc) (.int (zI v) :: .int (zI i) :: .ref a :: st) := by
  obtain ⟨p, l, e, R, s, m, args, below, meth, c, Q, D, A, k0, n0, nL⟩ := Γ
  obtain ⟨hx, hb, hml, hown, hts, ⟨hK, hN⟩, hD, rfl, hk0, hn0, rfl⟩ := F
  intro hG H locs ls hP hS hh
  subst hGR
  obtain ⟨h1, h2⟩ := zst_e h
  refine va_zast hx hb hK hP (hD S) hS q0 1 (ha S) rfl (zvp_in hi h1) hd (fun H1 locs1 hP1 hD1 hS1 => ?_)
  rw [zI_clamp hi, z01_nar hv, hs S i v h1.1] at hP1
  exact kk _ h2 (RG_put hG (by rcases hv with rfl | rfl <;> decide) (fun _ => hv)) H1 locs1 ls hP1 hS1 hh
theorem k_alen (F : zF Γ w cI cZ cc rm nL' own) {a j n : Nat} (q0 : Nat) (ha : ∀ S, (w S)[q0]? = some (a, .inl (cI, n, .inl (zA (S.2 j))))) (hn : Int32.ofNat n = zI (n : Int)) (hd : decode cc pc = .ok (.arraylength, 1)) (kk : zk Γ w G S lv (pc + 1) (.int (zI (n : Int)) :: st)) : zk Γ w G S lv (pc) (.ref a :: st) := by
  obtain ⟨p, l, e, R, s, m, args, below, meth, c, Q, D, A, k0, n0, nL⟩ := Γ
  obtain ⟨hx, hb, hml, hown, hts, ⟨hK, hN⟩, hD, rfl, hk0, hn0, rfl⟩ := F
  intro hG H locs ls hP hS hh
  exact va_alen hx hb hK hP q0 0 (ha S) rfl hn hd (kk hG H locs ls hP hS hh)
end Rows
