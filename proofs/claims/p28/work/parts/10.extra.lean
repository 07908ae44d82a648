section Words2
variable {R : Type}
def zj9 (K : Int → Int → Int → Int → Int → Int → Int → Int → Int → zSt → Option R) (body : (Int → Int → Int → Int → Int → Int → Int → Int → Int → zSt → Option R) → Option R) : Option R := body K
theorem zj9_e {K : Int → Int → Int → Int → Int → Int → Int → Int → Int → zSt → Option R} {body : (Int → Int → Int → Int → Int → Int → Int → Int → Int → zSt → Option R) → Option R} {r : R} {PJ : Int → Int → Int → Int → Int → Int → Int → Int → Int → zSt → Prop} {G : Prop} (h : zj9 K body = some r) (hK : ∀ (a0 a1 a2 a3 a4 a5 a6 a7 a8 : Int) (S : zSt), K a0 a1 a2 a3 a4 a5 a6 a7 a8 S = some r → PJ a0 a1 a2 a3 a4 a5 a6 a7 a8 S) (hb : ∀ K' : Int → Int → Int → Int → Int → Int → Int → Int → Int → zSt → Option R, (∀ (a0 a1 a2 a3 a4 a5 a6 a7 a8 : Int) (S : zSt), K' a0 a1 a2 a3 a4 a5 a6 a7 a8 S = some r → PJ a0 a1 a2 a3 a4 a5 a6 a7 a8 S) → body K' = some r → G) : G := hb K hK h
noncomputable def zl9 (n : Nat) (F : (Int → Int → Int → Int → Int → Int → Int → Int → Int → zSt → Option R) → Int → Int → Int → Int → Int → Int → Int → Int → Int → zSt → Option R) : Int → Int → Int → Int → Int → Int → Int → Int → Int → zSt → Option R := Nat.rec (motive := fun _ => Int → Int → Int → Int → Int → Int → Int → Int → Int → zSt → Option R) (fun _ _ _ _ _ _ _ _ _ _ => none) (fun _ ih => F ih) n
theorem zl9_e {F : (Int → Int → Int → Int → Int → Int → Int → Int → Int → zSt → Option R) → Int → Int → Int → Int → Int → Int → Int → Int → Int → zSt → Option R} {r : R} (PJ : Int → Int → Int → Int → Int → Int → Int → Int → Int → zSt → Prop) (hs : ∀ (rec : Int → Int → Int → Int → Int → Int → Int → Int → Int → zSt → Option R) (a0 a1 a2 a3 a4 a5 a6 a7 a8 : Int) (S : zSt), (∀ (a0 a1 a2 a3 a4 a5 a6 a7 a8 : Int) (S : zSt), rec a0 a1 a2 a3 a4 a5 a6 a7 a8 S = some r → PJ a0 a1 a2 a3 a4 a5 a6 a7 a8 S) → F rec a0 a1 a2 a3 a4 a5 a6 a7 a8 S = some r → PJ a0 a1 a2 a3 a4 a5 a6 a7 a8 S) : ∀ (n : Nat) (a0 a1 a2 a3 a4 a5 a6 a7 a8 : Int) (S : zSt), zl9 n F a0 a1 a2 a3 a4 a5 a6 a7 a8 S = some r → PJ a0 a1 a2 a3 a4 a5 a6 a7 a8 S := by
  intro n
  induction n with
  | zero => intro a0 a1 a2 a3 a4 a5 a6 a7 a8 S h; cases h
  | succ n ih => intro a0 a1 a2 a3 a4 a5 a6 a7 a8 S h; exact hs (zl9 n F) a0 a1 a2 a3 a4 a5 a6 a7 a8 S ih h
def zj10 (K : Int → Int → Int → Int → Int → Int → Int → Int → Int → Int → zSt → Option R) (body : (Int → Int → Int → Int → Int → Int → Int → Int → Int → Int → zSt → Option R) → Option R) : Option R := body K
theorem zj10_e {K : Int → Int → Int → Int → Int → Int → Int → Int → Int → Int → zSt → Option R} {body : (Int → Int → Int → Int → Int → Int → Int → Int → Int → Int → zSt → Option R) → Option R} {r : R} {PJ : Int → Int → Int → Int → Int → Int → Int → Int → Int → Int → zSt → Prop} {G : Prop} (h : zj10 K body = some r) (hK : ∀ (a0 a1 a2 a3 a4 a5 a6 a7 a8 a9 : Int) (S : zSt), K a0 a1 a2 a3 a4 a5 a6 a7 a8 a9 S = some r → PJ a0 a1 a2 a3 a4 a5 a6 a7 a8 a9 S) (hb : ∀ K' : Int → Int → Int → Int → Int → Int → Int → Int → Int → Int → zSt → Option R, (∀ (a0 a1 a2 a3 a4 a5 a6 a7 a8 a9 : Int) (S : zSt), K' a0 a1 a2 a3 a4 a5 a6 a7 a8 a9 S = some r → PJ a0 a1 a2 a3 a4 a5 a6 a7 a8 a9 S) → body K' = some r → G) : G := hb K hK h
noncomputable def zl10 (n : Nat) (F : (Int → Int → Int → Int → Int → Int → Int → Int → Int → Int → zSt → Option R) → Int → Int → Int → Int → Int → Int → Int → Int → Int → Int → zSt → Option R) : Int → Int → Int → Int → Int → Int → Int → Int → Int → Int → zSt → Option R := Nat.rec (motive := fun _ => Int → Int → Int → Int → Int → Int → Int → Int → Int → Int → zSt → Option R) (fun _ _ _ _ _ _ _ _ _ _ _ => none) (fun _ ih => F ih) n
theorem zl10_e {F : (Int → Int → Int → Int → Int → Int → Int → Int → Int → Int → zSt → Option R) → Int → Int → Int → Int → Int → Int → Int → Int → Int → Int → zSt → Option R} {r : R} (PJ : Int → Int → Int → Int → Int → Int → Int → Int → Int → Int → zSt → Prop) (hs : ∀ (rec : Int → Int → Int → Int → Int → Int → Int → Int → Int → Int → zSt → Option R) (a0 a1 a2 a3 a4 a5 a6 a7 a8 a9 : Int) (S : zSt), (∀ (a0 a1 a2 a3 a4 a5 a6 a7 a8 a9 : Int) (S : zSt), rec a0 a1 a2 a3 a4 a5 a6 a7 a8 a9 S = some r → PJ a0 a1 a2 a3 a4 a5 a6 a7 a8 a9 S) → F rec a0 a1 a2 a3 a4 a5 a6 a7 a8 a9 S = some r → PJ a0 a1 a2 a3 a4 a5 a6 a7 a8 a9 S) : ∀ (n : Nat) (a0 a1 a2 a3 a4 a5 a6 a7 a8 a9 : Int) (S : zSt), zl10 n F a0 a1 a2 a3 a4 a5 a6 a7 a8 a9 S = some r → PJ a0 a1 a2 a3 a4 a5 a6 a7 a8 a9 S := by
  intro n
  induction n with
  | zero => intro a0 a1 a2 a3 a4 a5 a6 a7 a8 a9 S h; cases h
  | succ n ih => intro a0 a1 a2 a3 a4 a5 a6 a7 a8 a9 S h; exact hs (zl10 n F) a0 a1 a2 a3 a4 a5 a6 a7 a8 a9 S ih h
def zj11 (K : Int → Int → Int → Int → Int → Int → Int → Int → Int → Int → Int → zSt → Option R) (body : (Int → Int → Int → Int → Int → Int → Int → Int → Int → Int → Int → zSt → Option R) → Option R) : Option R := body K
theorem zj11_e {K : Int → Int → Int → Int → Int → Int → Int → Int → Int → Int → Int → zSt → Option R} {body : (Int → Int → Int → Int → Int → Int → Int → Int → Int → Int → Int → zSt → Option R) → Option R} {r : R} {PJ : Int → Int → Int → Int → Int → Int → Int → Int → Int → Int → Int → zSt → Prop} {G : Prop} (h : zj11 K body = some r) (hK : ∀ (a0 a1 a2 a3 a4 a5 a6 a7 a8 a9 a10 : Int) (S : zSt), K a0 a1 a2 a3 a4 a5 a6 a7 a8 a9 a10 S = some r → PJ a0 a1 a2 a3 a4 a5 a6 a7 a8 a9 a10 S) (hb : ∀ K' : Int → Int → Int → Int → Int → Int → Int → Int → Int → Int → Int → zSt → Option R, (∀ (a0 a1 a2 a3 a4 a5 a6 a7 a8 a9 a10 : Int) (S : zSt), K' a0 a1 a2 a3 a4 a5 a6 a7 a8 a9 a10 S = some r → PJ a0 a1 a2 a3 a4 a5 a6 a7 a8 a9 a10 S) → body K' = some r → G) : G := hb K hK h
noncomputable def zl11 (n : Nat) (F : (Int → Int → Int → Int → Int → Int → Int → Int → Int → Int → Int → zSt → Option R) → Int → Int → Int → Int → Int → Int → Int → Int → Int → Int → Int → zSt → Option R) : Int → Int → Int → Int → Int → Int → Int → Int → Int → Int → Int → zSt → Option R := Nat.rec (motive := fun _ => Int → Int → Int → Int → Int → Int → Int → Int → Int → Int → Int → zSt → Option R) (fun _ _ _ _ _ _ _ _ _ _ _ _ => none) (fun _ ih => F ih) n
theorem zl11_e {F : (Int → Int → Int → Int → Int → Int → Int → Int → Int → Int → Int → zSt → Option R) → Int → Int → Int → Int → Int → Int → Int → Int → Int → Int → Int → zSt → Option R} {r : R} (PJ : Int → Int → Int → Int → Int → Int → Int → Int → Int → Int → Int → zSt → Prop) (hs : ∀ (rec : Int → Int → Int → Int → Int → Int → Int → Int → Int → Int → Int → zSt → Option R) (a0 a1 a2 a3 a4 a5 a6 a7 a8 a9 a10 : Int) (S : zSt), (∀ (a0 a1 a2 a3 a4 a5 a6 a7 a8 a9 a10 : Int) (S : zSt), rec a0 a1 a2 a3 a4 a5 a6 a7 a8 a9 a10 S = some r → PJ a0 a1 a2 a3 a4 a5 a6 a7 a8 a9 a10 S) → F rec a0 a1 a2 a3 a4 a5 a6 a7 a8 a9 a10 S = some r → PJ a0 a1 a2 a3 a4 a5 a6 a7 a8 a9 a10 S) : ∀ (n : Nat) (a0 a1 a2 a3 a4 a5 a6 a7 a8 a9 a10 : Int) (S : zSt), zl11 n F a0 a1 a2 a3 a4 a5 a6 a7 a8 a9 a10 S = some r → PJ a0 a1 a2 a3 a4 a5 a6 a7 a8 a9 a10 S := by
  intro n
  induction n with
  | zero => intro a0 a1 a2 a3 a4 a5 a6 a7 a8 a9 a10 S h; cases h
  | succ n ih => intro a0 a1 a2 a3 a4 a5 a6 a7 a8 a9 a10 S h; exact hs (zl11 n F) a0 a1 a2 a3 a4 a5 a6 a7 a8 a9 a10 S ih h
def zj12 (K : Int → Int → Int → Int → Int → Int → Int → Int → Int → Int → Int → Int → zSt → Option R) (body : (Int → Int → Int → Int → Int → Int → Int → Int → Int → Int → Int → Int → zSt → Option R) → Option R) : Option R := body K
theorem zj12_e {K : Int → Int → Int → Int → Int → Int → Int → Int → Int → Int → Int → Int → zSt → Option R} {body : (Int → Int → Int → Int → Int → Int → Int → Int → Int → Int → Int → Int → zSt → Option R) → Option R} {r : R} {PJ : Int → Int → Int → Int → Int → Int → Int → Int → Int → Int → Int → Int → zSt → Prop} {G : Prop} (h : zj12 K body = some r) (hK : ∀ (a0 a1 a2 a3 a4 a5 a6 a7 a8 a9 a10 a11 : Int) (S : zSt), K a0 a1 a2 a3 a4 a5 a6 a7 a8 a9 a10 a11 S = some r → PJ a0 a1 a2 a3 a4 a5 a6 a7 a8 a9 a10 a11 S) (hb : ∀ K' : Int → Int → Int → Int → Int → Int → Int → Int → Int → Int → Int → Int → zSt → Option R, (∀ (a0 a1 a2 a3 a4 a5 a6 a7 a8 a9 a10 a11 : Int) (S : zSt), K' a0 a1 a2 a3 a4 a5 a6 a7 a8 a9 a10 a11 S = some r → PJ a0 a1 a2 a3 a4 a5 a6 a7 a8 a9 a10 a11 S) → body K' = some r → G) : G := hb K hK h
noncomputable def zl12 (n : Nat) (F : (Int → Int → Int → Int → Int → Int → Int → Int → Int → Int → Int → Int → zSt → Option R) → Int → Int → Int → Int → Int → Int → Int → Int → Int → Int → Int → Int → zSt → Option R) : Int → Int → Int → Int → Int → Int → Int → Int → Int → Int → Int → Int → zSt → Option R := Nat.rec (motive := fun _ => Int → Int → Int → Int → Int → Int → Int → Int → Int → Int → Int → Int → zSt → Option R) (fun _ _ _ _ _ _ _ _ _ _ _ _ _ => none) (fun _ ih => F ih) n
theorem zl12_e {F : (Int → Int → Int → Int → Int → Int → Int → Int → Int → Int → Int → Int → zSt → Option R) → Int → Int → Int → Int → Int → Int → Int → Int → Int → Int → Int → Int → zSt → Option R} {r : R} (PJ : Int → Int → Int → Int → Int → Int → Int → Int → Int → Int → Int → Int → zSt → Prop) (hs : ∀ (rec : Int → Int → Int → Int → Int → Int → Int → Int → Int → Int → Int → Int → zSt → Option R) (a0 a1 a2 a3 a4 a5 a6 a7 a8 a9 a10 a11 : Int) (S : zSt), (∀ (a0 a1 a2 a3 a4 a5 a6 a7 a8 a9 a10 a11 : Int) (S : zSt), rec a0 a1 a2 a3 a4 a5 a6 a7 a8 a9 a10 a11 S = some r → PJ a0 a1 a2 a3 a4 a5 a6 a7 a8 a9 a10 a11 S) → F rec a0 a1 a2 a3 a4 a5 a6 a7 a8 a9 a10 a11 S = some r → PJ a0 a1 a2 a3 a4 a5 a6 a7 a8 a9 a10 a11 S) : ∀ (n : Nat) (a0 a1 a2 a3 a4 a5 a6 a7 a8 a9 a10 a11 : Int) (S : zSt), zl12 n F a0 a1 a2 a3 a4 a5 a6 a7 a8 a9 a10 a11 S = some r → PJ a0 a1 a2 a3 a4 a5 a6 a7 a8 a9 a10 a11 S := by
  intro n
  induction n with
  | zero => intro a0 a1 a2 a3 a4 a5 a6 a7 a8 a9 a10 a11 S h; cases h
  | succ n ih => intro a0 a1 a2 a3 a4 a5 a6 a7 a8 a9 a10 a11 S h; exact hs (zl12 n F) a0 a1 a2 a3 a4 a5 a6 a7 a8 a9 a10 a11 S ih h
def zj13 (K : Int → Int → Int → Int → Int → Int → Int → Int → Int → Int → Int → Int → Int → zSt → Option R) (body : (Int → Int → Int → Int → Int → Int → Int → Int → Int → Int → Int → Int → Int → zSt → Option R) → Option R) : Option R := body K
theorem zj13_e {K : Int → Int → Int → Int → Int → Int → Int → Int → Int → Int → Int → Int → Int → zSt → Option R} {body : (Int → Int → Int → Int → Int → Int → Int → Int → Int → Int → Int → Int → Int → zSt → Option R) → Option R} {r : R} {PJ : Int → Int → Int → Int → Int → Int → Int → Int → Int → Int → Int → Int → Int → zSt → Prop} {G : Prop} (h : zj13 K body = some r) (hK : ∀ (a0 a1 a2 a3 a4 a5 a6 a7 a8 a9 a10 a11 a12 : Int) (S : zSt), K a0 a1 a2 a3 a4 a5 a6 a7 a8 a9 a10 a11 a12 S = some r → PJ a0 a1 a2 a3 a4 a5 a6 a7 a8 a9 a10 a11 a12 S) (hb : ∀ K' : Int → Int → Int → Int → Int → Int → Int → Int → Int → Int → Int → Int → Int → zSt → Option R, (∀ (a0 a1 a2 a3 a4 a5 a6 a7 a8 a9 a10 a11 a12 : Int) (S : zSt), K' a0 a1 a2 a3 a4 a5 a6 a7 a8 a9 a10 a11 a12 S = some r → PJ a0 a1 a2 a3 a4 a5 a6 a7 a8 a9 a10 a11 a12 S) → body K' = some r → G) : G := hb K hK h
noncomputable def zl13 (n : Nat) (F : (Int → Int → Int → Int → Int → Int → Int → Int → Int → Int → Int → Int → Int → zSt → Option R) → Int → Int → Int → Int → Int → Int → Int → Int → Int → Int → Int → Int → Int → zSt → Option R) : Int → Int → Int → Int → Int → Int → Int → Int → Int → Int → Int → Int → Int → zSt → Option R := Nat.rec (motive := fun _ => Int → Int → Int → Int → Int → Int → Int → Int → Int → Int → Int → Int → Int → zSt → Option R) (fun _ _ _ _ _ _ _ _ _ _ _ _ _ _ => none) (fun _ ih => F ih) n
theorem zl13_e {F : (Int → Int → Int → Int → Int → Int → Int → Int → Int → Int → Int → Int → Int → zSt → Option R) → Int → Int → Int → Int → Int → Int → Int → Int → Int → Int → Int → Int → Int → zSt → Option R} {r : R} (PJ : Int → Int → Int → Int → Int → Int → Int → Int → Int → Int → Int → Int → Int → zSt → Prop) (hs : ∀ (rec : Int → Int → Int → Int → Int → Int → Int → Int → Int → Int → Int → Int → Int → zSt → Option R) (a0 a1 a2 a3 a4 a5 a6 a7 a8 a9 a10 a11 a12 : Int) (S : zSt), (∀ (a0 a1 a2 a3 a4 a5 a6 a7 a8 a9 a10 a11 a12 : Int) (S : zSt), rec a0 a1 a2 a3 a4 a5 a6 a7 a8 a9 a10 a11 a12 S = some r → PJ a0 a1 a2 a3 a4 a5 a6 a7 a8 a9 a10 a11 a12 S) → F rec a0 a1 a2 a3 a4 a5 a6 a7 a8 a9 a10 a11 a12 S = some r → PJ a0 a1 a2 a3 a4 a5 a6 a7 a8 a9 a10 a11 a12 S) : ∀ (n : Nat) (a0 a1 a2 a3 a4 a5 a6 a7 a8 a9 a10 a11 a12 : Int) (S : zSt), zl13 n F a0 a1 a2 a3 a4 a5 a6 a7 a8 a9 a10 a11 a12 S = some r → PJ a0 a1 a2 a3 a4 a5 a6 a7 a8 a9 a10 a11 a12 S := by
  intro n
  induction n with
  | zero => intro a0 a1 a2 a3 a4 a5 a6 a7 a8 a9 a10 a11 a12 S h; cases h
  | succ n ih => intro a0 a1 a2 a3 a4 a5 a6 a7 a8 a9 a10 a11 a12 S h; exact hs (zl13 n F) a0 a1 a2 a3 a4 a5 a6 a7 a8 a9 a10 a11 a12 S ih h
def zj14 (K : Int → Int → Int → Int → Int → Int → Int → Int → Int → Int → Int → Int → Int → Int → zSt → Option R) (body : (Int → Int → Int → Int → Int → Int → Int → Int → Int → Int → Int → Int → Int → Int → zSt → Option R) → Option R) : Option R := body K
theorem zj14_e {K : Int → Int → Int → Int → Int → Int → Int → Int → Int → Int → Int → Int → Int → Int → zSt → Option R} {body : (Int → Int → Int → Int → Int → Int → Int → Int → Int → Int → Int → Int → Int → Int → zSt → Option R) → Option R} {r : R} {PJ : Int → Int → Int → Int → Int → Int → Int → Int → Int → Int → Int → Int → Int → Int → zSt → Prop} {G : Prop} (h : zj14 K body = some r) (hK : ∀ (a0 a1 a2 a3 a4 a5 a6 a7 a8 a9 a10 a11 a12 a13 : Int) (S : zSt), K a0 a1 a2 a3 a4 a5 a6 a7 a8 a9 a10 a11 a12 a13 S = some r → PJ a0 a1 a2 a3 a4 a5 a6 a7 a8 a9 a10 a11 a12 a13 S) (hb : ∀ K' : Int → Int → Int → Int → Int → Int → Int → Int → Int → Int → Int → Int → Int → Int → zSt → Option R, (∀ (a0 a1 a2 a3 a4 a5 a6 a7 a8 a9 a10 a11 a12 a13 : Int) (S : zSt), K' a0 a1 a2 a3 a4 a5 a6 a7 a8 a9 a10 a11 a12 a13 S = some r → PJ a0 a1 a2 a3 a4 a5 a6 a7 a8 a9 a10 a11 a12 a13 S) → body K' = some r → G) : G := hb K hK h
noncomputable def zl14 (n : Nat) (F : (Int → Int → Int → Int → Int → Int → Int → Int → Int → Int → Int → Int → Int → Int → zSt → Option R) → Int → Int → Int → Int → Int → Int → Int → Int → Int → Int → Int → Int → Int → Int → zSt → Option R) : Int → Int → Int → Int → Int → Int → Int → Int → Int → Int → Int → Int → Int → Int → zSt → Option R := Nat.rec (motive := fun _ => Int → Int → Int → Int → Int → Int → Int → Int → Int → Int → Int → Int → Int → Int → zSt → Option R) (fun _ _ _ _ _ _ _ _ _ _ _ _ _ _ _ => none) (fun _ ih => F ih) n
theorem zl14_e {F : (Int → Int → Int → Int → Int → Int → Int → Int → Int → Int → Int → Int → Int → Int → zSt → Option R) → Int → Int → Int → Int → Int → Int → Int → Int → Int → Int → Int → Int → Int → Int → zSt → Option R} {r : R} (PJ : Int → Int → Int → Int → Int → Int → Int → Int → Int → Int → Int → Int → Int → Int → zSt → Prop) (hs : ∀ (rec : Int → Int → Int → Int → Int → Int → Int → Int → Int → Int → Int → Int → Int → Int → zSt → Option R) (a0 a1 a2 a3 a4 a5 a6 a7 a8 a9 a10 a11 a12 a13 : Int) (S : zSt), (∀ (a0 a1 a2 a3 a4 a5 a6 a7 a8 a9 a10 a11 a12 a13 : Int) (S : zSt), rec a0 a1 a2 a3 a4 a5 a6 a7 a8 a9 a10 a11 a12 a13 S = some r → PJ a0 a1 a2 a3 a4 a5 a6 a7 a8 a9 a10 a11 a12 a13 S) → F rec a0 a1 a2 a3 a4 a5 a6 a7 a8 a9 a10 a11 a12 a13 S = some r → PJ a0 a1 a2 a3 a4 a5 a6 a7 a8 a9 a10 a11 a12 a13 S) : ∀ (n : Nat) (a0 a1 a2 a3 a4 a5 a6 a7 a8 a9 a10 a11 a12 a13 : Int) (S : zSt), zl14 n F a0 a1 a2 a3 a4 a5 a6 a7 a8 a9 a10 a11 a12 a13 S = some r → PJ a0 a1 a2 a3 a4 a5 a6 a7 a8 a9 a10 a11 a12 a13 S := by
  intro n
  induction n with
  | zero => intro a0 a1 a2 a3 a4 a5 a6 a7 a8 a9 a10 a11 a12 a13 S h; cases h
  | succ n ih => intro a0 a1 a2 a3 a4 a5 a6 a7 a8 a9 a10 a11 a12 a13 S h; exact hs (zl14 n F) a0 a1 a2 a3 a4 a5 a6 a7 a8 a9 a10 a11 a12 a13 S ih h
def zj15 (K : Int → Int → Int → Int → Int → Int → Int → Int → Int → Int → Int → Int → Int → Int → Int → zSt → Option R) (body : (Int → Int → Int → Int → Int → Int → Int → Int → Int → Int → Int → Int → Int → Int → Int → zSt → Option R) → Option R) : Option R := body K
theorem zj15_e {K : Int → Int → Int → Int → Int → Int → Int → Int → Int → Int → Int → Int → Int → Int → Int → zSt → Option R} {body : (Int → Int → Int → Int → Int → Int → Int → Int → Int → Int → Int → Int → Int → Int → Int → zSt → Option R) → Option R} {r : R} {PJ : Int → Int → Int → Int → Int → Int → Int → Int → Int → Int → Int → Int → Int → Int → Int → zSt → Prop} {G : Prop} (h : zj15 K body = some r) (hK : ∀ (a0 a1 a2 a3 a4 a5 a6 a7 a8 a9 a10 a11 a12 a13 a14 : Int) (S : zSt), K a0 a1 a2 a3 a4 a5 a6 a7 a8 a9 a10 a11 a12 a13 a14 S = some r → PJ a0 a1 a2 a3 a4 a5 a6 a7 a8 a9 a10 a11 a12 a13 a14 S) (hb : ∀ K' : Int → Int → Int → Int → Int → Int → Int → Int → Int → Int → Int → Int → Int → Int → Int → zSt → Option R, (∀ (a0 a1 a2 a3 a4 a5 a6 a7 a8 a9 a10 a11 a12 a13 a14 : Int) (S : zSt), K' a0 a1 a2 a3 a4 a5 a6 a7 a8 a9 a10 a11 a12 a13 a14 S = some r → PJ a0 a1 a2 a3 a4 a5 a6 a7 a8 a9 a10 a11 a12 a13 a14 S) → body K' = some r → G) : G := hb K hK h
noncomputable def zl15 (n : Nat) (F : (Int → Int → Int → Int → Int → Int → Int → Int → Int → Int → Int → Int → Int → Int → Int → zSt → Option R) → Int → Int → Int → Int → Int → Int → Int → Int → Int → Int → Int → Int → Int → Int → Int → zSt → Option R) : Int → Int → Int → Int → Int → Int → Int → Int → Int → Int → Int → Int → Int → Int → Int → zSt → Option R := Nat.rec (motive := fun _ => Int → Int → Int → Int → Int → Int → Int → Int → Int → Int → Int → Int → Int → Int → Int → zSt → Option R) (fun _ _ _ _ _ _ _ _ _ _ _ _ _ _ _ _ => none) (fun _ ih => F ih) n
theorem zl15_e {F : (Int → Int → Int → Int → Int → Int → Int → Int → Int → Int → Int → Int → Int → Int → Int → zSt → Option R) → Int → Int → Int → Int → Int → Int → Int → Int → Int → Int → Int → Int → Int → Int → Int → zSt → Option R} {r : R} (PJ : Int → Int → Int → Int → Int → Int → Int → Int → Int → Int → Int → Int → Int → Int → Int → zSt → Prop) (hs : ∀ (rec : Int → Int → Int → Int → Int → Int → Int → Int → Int → Int → Int → Int → Int → Int → Int → zSt → Option R) (a0 a1 a2 a3 a4 a5 a6 a7 a8 a9 a10 a11 a12 a13 a14 : Int) (S : zSt), (∀ (a0 a1 a2 a3 a4 a5 a6 a7 a8 a9 a10 a11 a12 a13 a14 : Int) (S : zSt), rec a0 a1 a2 a3 a4 a5 a6 a7 a8 a9 a10 a11 a12 a13 a14 S = some r → PJ a0 a1 a2 a3 a4 a5 a6 a7 a8 a9 a10 a11 a12 a13 a14 S) → F rec a0 a1 a2 a3 a4 a5 a6 a7 a8 a9 a10 a11 a12 a13 a14 S = some r → PJ a0 a1 a2 a3 a4 a5 a6 a7 a8 a9 a10 a11 a12 a13 a14 S) : ∀ (n : Nat) (a0 a1 a2 a3 a4 a5 a6 a7 a8 a9 a10 a11 a12 a13 a14 : Int) (S : zSt), zl15 n F a0 a1 a2 a3 a4 a5 a6 a7 a8 a9 a10 a11 a12 a13 a14 S = some r → PJ a0 a1 a2 a3 a4 a5 a6 a7 a8 a9 a10 a11 a12 a13 a14 S := by
  intro n
  induction n with
  | zero => intro a0 a1 a2 a3 a4 a5 a6 a7 a8 a9 a10 a11 a12 a13 a14 S h; cases h
  | succ n ih => intro a0 a1 a2 a3 a4 a5 a6 a7 a8 a9 a10 a11 a12 a13 a14 S h; exact hs (zl15 n F) a0 a1 a2 a3 a4 a5 a6 a7 a8 a9 a10 a11 a12 a13 a14 S ih h
def zj16 (K : Int → Int → Int → Int → Int → Int → Int → Int → Int → Int → Int → Int → Int → Int → Int → Int → zSt → Option R) (body : (Int → Int → Int → Int → Int → Int → Int → Int → Int → Int → Int → Int → Int → Int → Int → Int → zSt → Option R) → Option R) : Option R := body K
theorem zj16_e {K : Int → Int → Int → Int → Int → Int → Int → Int → Int → Int → Int → Int → Int → Int → Int → Int → zSt → Option R} {body : (Int → Int → Int → Int → Int → Int → Int → Int → Int → Int → Int → Int → Int → Int → Int → Int → zSt → Option R) → Option R} {r : R} {PJ : Int → Int → Int → Int → Int → Int → Int → Int → Int → Int → Int → Int → Int → Int → Int → Int → zSt → Prop} {G : Prop} (h : zj16 K body = some r) (hK : ∀ (a0 a1 a2 a3 a4 a5 a6 a7 a8 a9 a10 a11 a12 a13 a14 a15 : Int) (S : zSt), K a0 a1 a2 a3 a4 a5 a6 a7 a8 a9 a10 a11 a12 a13 a14 a15 S = some r → PJ a0 a1 a2 a3 a4 a5 a6 a7 a8 a9 a10 a11 a12 a13 a14 a15 S) (hb : ∀ K' : Int → Int → Int → Int → Int → Int → Int → Int → Int → Int → Int → Int → Int → Int → Int → Int → zSt → Option R, (∀ (a0 a1 a2 a3 a4 a5 a6 a7 a8 a9 a10 a11 a12 a13 a14 a15 : Int) (S : zSt), K' a0 a1 a2 a3 a4 a5 a6 a7 a8 a9 a10 a11 a12 a13 a14 a15 S = some r → PJ a0 a1 a2 a3 a4 a5 a6 a7 a8 a9 a10 a11 a12 a13 a14 a15 S) → body K' = some r → G) : G := hb K hK h
noncomputable def zl16 (n : Nat) (F : (Int → Int → Int → Int → Int → Int → Int → Int → Int → Int → Int → Int → Int → Int → Int → Int → zSt → Option R) → Int → Int → Int → Int → Int → Int → Int → Int → Int → Int → Int → Int → Int → Int → Int → Int → zSt → Option R) : Int → Int → Int → Int → Int → Int → Int → Int → Int → Int → Int → Int → Int → Int → Int → Int → zSt → Option R := Nat.rec (motive := fun _ => Int → Int → Int → Int → Int → Int → Int → Int → Int → Int → Int → Int → Int → Int → Int → Int → zSt → Option R) (fun _ _ _ _ _ _ _ _ _ _ _ _ _ _ _ _ _ => none) (fun _ ih => F ih) n
theorem zl16_e {F : (Int → Int → Int → Int → Int → Int → Int → Int → Int → Int → Int → Int → Int → Int → Int → Int → zSt → Option R) → Int → Int → Int → Int → Int → Int → Int → Int → Int → Int → Int → Int → Int → Int → Int → Int → zSt → Option R} {r : R} (PJ : Int → Int → Int → Int → Int → Int → Int → Int → Int → Int → Int → Int → Int → Int → Int → Int → zSt → Prop) (hs : ∀ (rec : Int → Int → Int → Int → Int → Int → Int → Int → Int → Int → Int → Int → Int → Int → Int → Int → zSt → Option R) (a0 a1 a2 a3 a4 a5 a6 a7 a8 a9 a10 a11 a12 a13 a14 a15 : Int) (S : zSt), (∀ (a0 a1 a2 a3 a4 a5 a6 a7 a8 a9 a10 a11 a12 a13 a14 a15 : Int) (S : zSt), rec a0 a1 a2 a3 a4 a5 a6 a7 a8 a9 a10 a11 a12 a13 a14 a15 S = some r → PJ a0 a1 a2 a3 a4 a5 a6 a7 a8 a9 a10 a11 a12 a13 a14 a15 S) → F rec a0 a1 a2 a3 a4 a5 a6 a7 a8 a9 a10 a11 a12 a13 a14 a15 S = some r → PJ a0 a1 a2 a3 a4 a5 a6 a7 a8 a9 a10 a11 a12 a13 a14 a15 S) : ∀ (n : Nat) (a0 a1 a2 a3 a4 a5 a6 a7 a8 a9 a10 a11 a12 a13 a14 a15 : Int) (S : zSt), zl16 n F a0 a1 a2 a3 a4 a5 a6 a7 a8 a9 a10 a11 a12 a13 a14 a15 S = some r → PJ a0 a1 a2 a3 a4 a5 a6 a7 a8 a9 a10 a11 a12 a13 a14 a15 S := by
  intro n
  induction n with
  | zero => intro a0 a1 a2 a3 a4 a5 a6 a7 a8 a9 a10 a11 a12 a13 a14 a15 S h; cases h
  | succ n ih => intro a0 a1 a2 a3 a4 a5 a6 a7 a8 a9 a10 a11 a12 a13 a14 a15 S h; exact hs (zl16 n F) a0 a1 a2 a3 a4 a5 a6 a7 a8 a9 a10 a11 a12 a13 a14 a15 S ih h
def zj17 (K : Int → Int → Int → Int → Int → Int → Int → Int → Int → Int → Int → Int → Int → Int → Int → Int → Int → zSt → Option R) (body : (Int → Int → Int → Int → Int → Int → Int → Int → Int → Int → Int → Int → Int → Int → Int → Int → Int → zSt → Option R) → Option R) : Option R := body K
theorem zj17_e {K : Int → Int → Int → Int → Int → Int → Int → Int → Int → Int → Int → Int → Int → Int → Int → Int → Int → zSt → Option R} {body : (Int → Int → Int → Int → Int → Int → Int → Int → Int → Int → Int → Int → Int → Int → Int → Int → Int → zSt → Option R) → Option R} {r : R} {PJ : Int → Int → Int → Int → Int → Int → Int → Int → Int → Int → Int → Int → Int → Int → Int → Int → Int → zSt → Prop} {G : Prop} (h : zj17 K body = some r) (hK : ∀ (a0 a1 a2 a3 a4 a5 a6 a7 a8 a9 a10 a11 a12 a13 a14 a15 a16 : Int) (S : zSt), K a0 a1 a2 a3 a4 a5 a6 a7 a8 a9 a10 a11 a12 a13 a14 a15 a16 S = some r → PJ a0 a1 a2 a3 a4 a5 a6 a7 a8 a9 a10 a11 a12 a13 a14 a15 a16 S) (hb : ∀ K' : Int → Int → Int → Int → Int → Int → Int → Int → Int → Int → Int → Int → Int → Int → Int → Int → Int → zSt → Option R, (∀ (a0 a1 a2 a3 a4 a5 a6 a7 a8 a9 a10 a11 a12 a13 a14 a15 a16 : Int) (S : zSt), K' a0 a1 a2 a3 a4 a5 a6 a7 a8 a9 a10 a11 a12 a13 a14 a15 a16 S = some r → PJ a0 a1 a2 a3 a4 a5 a6 a7 a8 a9 a10 a11 a12 a13 a14 a15 a16 S) → body K' = some r → G) : G := hb K hK h
noncomputable def zl17 (n : Nat) (F : (Int → Int → Int → Int → Int → Int → Int → Int → Int → Int → Int → Int → Int → Int → Int → Int → Int → zSt → Option R) → Int → Int → Int → Int → Int → Int → Int → Int → Int → Int → Int → Int → Int → Int → Int → Int → Int → zSt → Option R) : Int → Int → Int → Int → Int → Int → Int → Int → Int → Int → Int → Int → Int → Int → Int → Int → Int → zSt → Option R := Nat.rec (motive := fun _ => Int → Int → Int → Int → Int → Int → Int → Int → Int → Int → Int → Int → Int → Int → Int → Int → Int → zSt → Option R) (fun _ _ _ _ _ _ _ _ _ _ _ _ _ _ _ _ _ _ => none) (fun _ ih => F ih) n
theorem zl17_e {F : (Int → Int → Int → Int → Int → Int → Int → Int → Int → Int → Int → Int → Int → Int → Int → Int → Int → zSt → Option R) → Int → Int → Int → Int → Int → Int → Int → Int → Int → Int → Int → Int → Int → Int → Int → Int → Int → zSt → Option R} {r : R} (PJ : Int → Int → Int → Int → Int → Int → Int → Int → Int → Int → Int → Int → Int → Int → Int → Int → Int → zSt → Prop) (hs : ∀ (rec : Int → Int → Int → Int → Int → Int → Int → Int → Int → Int → Int → Int → Int → Int → Int → Int → Int → zSt → Option R) (a0 a1 a2 a3 a4 a5 a6 a7 a8 a9 a10 a11 a12 a13 a14 a15 a16 : Int) (S : zSt), (∀ (a0 a1 a2 a3 a4 a5 a6 a7 a8 a9 a10 a11 a12 a13 a14 a15 a16 : Int) (S : zSt), rec a0 a1 a2 a3 a4 a5 a6 a7 a8 a9 a10 a11 a12 a13 a14 a15 a16 S = some r → PJ a0 a1 a2 a3 a4 a5 a6 a7 a8 a9 a10 a11 a12 a13 a14 a15 a16 S) → F rec a0 a1 a2 a3 a4 a5 a6 a7 a8 a9 a10 a11 a12 a13 a14 a15 a16 S = some r → PJ a0 a1 a2 a3 a4 a5 a6 a7 a8 a9 a10 a11 a12 a13 a14 a15 a16 S) : ∀ (n : Nat) (a0 a1 a2 a3 a4 a5 a6 a7 a8 a9 a10 a11 a12 a13 a14 a15 a16 : Int) (S : zSt), zl17 n F a0 a1 a2 a3 a4 a5 a6 a7 a8 a9 a10 a11 a12 a13 a14 a15 a16 S = some r → PJ a0 a1 a2 a3 a4 a5 a6 a7 a8 a9 a10 a11 a12 a13 a14 a15 a16 S := by
  intro n
  induction n with
  | zero => intro a0 a1 a2 a3 a4 a5 a6 a7 a8 a9 a10 a11 a12 a13 a14 a15 a16 S h; cases h
  | succ n ih => intro a0 a1 a2 a3 a4 a5 a6 a7 a8 a9 a10 a11 a12 a13 a14 a15 a16 S h; exact hs (zl17 n F) a0 a1 a2 a3 a4 a5 a6 a7 a8 a9 a10 a11 a12 a13 a14 a15 a16 S ih h
end Words2
/-! BITS, MATH, SWITCHES, THE JDK's OWN -/
theorem ze_and (a b : Nat) : nI a &&& nI b = nI (a &&& b) := by
  apply Int32.toBitVec_inj.1
  show BitVec.ofNat 32 a &&& BitVec.ofNat 32 b = BitVec.ofNat 32 (a &&& b)
  apply BitVec.eq_of_getLsbD_eq
  intro i hi
  simp [hi]
theorem ze_or (a b : Nat) : nI a ||| nI b = nI (a ||| b) := by
  apply Int32.toBitVec_inj.1
  show BitVec.ofNat 32 a ||| BitVec.ofNat 32 b = BitVec.ofNat 32 (a ||| b)
  apply BitVec.eq_of_getLsbD_eq
  intro i hi
  simp [hi]
theorem ze_s : ∀ n, n < 32 → ((nI n &&& 31).toBitVec.smod 32).toNat = n := by decide +kernel
theorem zI_nat {a : Int} (h : 0 ≤ a) : zI a = nI a.toNat := by
  show Int32.ofInt a = Int32.ofNat a.toNat
  rw [← Int32.ofInt_eq_ofNat, Int.toNat_of_nonneg h]
theorem nI_zI (n : Nat) : nI n = zI (n : Int) := (Int32.ofInt_eq_ofNat).symm
section ZB
variable {R : Type}
def ziand (a b : Int) (k : Int → Option R) : Option R := if 0 ≤ a ∧ 0 ≤ b then k ((a.toNat &&& b.toNat : Nat) : Int) else none
def zior (a b : Int) (k : Int → Option R) : Option R := if 0 ≤ a ∧ 0 ≤ b then k ((a.toNat ||| b.toNat : Nat) : Int) else none
def zishl (a b : Int) (k : Int → Option R) : Option R := if 0 ≤ a ∧ 0 ≤ b ∧ b < 31 ∧ a * 2 ^ b.toNat < 2147483648 then k (a * 2 ^ b.toNat) else none
def zishr (a b : Int) (k : Int → Option R) : Option R := if 0 ≤ a ∧ 0 ≤ b ∧ b < 31 then k (a / 2 ^ b.toNat) else none
def zpop (n : Nat) : Nat := (List.range 12).foldl (fun t i => t + n / 2 ^ i % 2) 0
def zbc (a : Int) (k : Int → Option R) : Option R := if 0 ≤ a ∧ a < 4096 then k ((zpop a.toNat : Nat) : Int) else none
end ZB
section RowsE
variable {Γ : zG} {w : zSt → va_W} {cI cZ : ClassId} {cc : ByteArray} {rm : Room} {nL' : Nat} {own : String} {G : zSt → Prop} {S : zSt} {lv : List (Nat × Value)} {pc : Nat} {st : List Value}
theorem k_iand (F : zF Γ w cI cZ cc rm nL' own) {R : Type} {r : R} {a b : Int} {K : Int → Option R} (ha : inR a) (hb9 : inR b) (hd : decode cc pc = .ok (.iand, 1)) (h : ziand a b K = some r) (kk : ∀ x, inR x → K x = some r → zk Γ w G S lv (pc + 1) (.int (zI x) :: st)) : zk Γ w G S lv (pc) (.int (zI b) :: .int (zI a) :: st) := by
  obtain ⟨p, l, e, R, s, m, args, below, meth, c, Q, D, A, k0, n0, nL⟩ := Γ
  obtain ⟨hx, hb, hml, hown, hts, ⟨hK, hN⟩, hD, rfl, hk0, hn0, rfl⟩ := F
  intro hG H locs ls hP hS hh
  unfold ziand at h
  by_cases q : 0 ≤ a ∧ 0 ≤ b
  case neg => rw [if_neg q] at h; cases h
  rw [if_pos q] at h
  refine lv_iand hx hb hd ?_
  rw [zI_nat q.1, zI_nat q.2, ze_and, nI_zI]
  have hl : (a.toNat &&& b.toNat) ≤ a.toNat := Nat.and_le_left
  have := ha.2
  exact kk _ ⟨by omega, by omega⟩ h hG H locs ls hP hS hh
theorem k_ior (F : zF Γ w cI cZ cc rm nL' own) {R : Type} {r : R} {a b : Int} {K : Int → Option R} (ha : inR a) (hb9 : inR b) (hd : decode cc pc = .ok (.ior, 1)) (h : zior a b K = some r) (kk : ∀ x, inR x → K x = some r → zk Γ w G S lv (pc + 1) (.int (zI x) :: st)) : zk Γ w G S lv (pc) (.int (zI b) :: .int (zI a) :: st) := by
  obtain ⟨p, l, e, R, s, m, args, below, meth, c, Q, D, A, k0, n0, nL⟩ := Γ
  obtain ⟨hx, hb, hml, hown, hts, ⟨hK, hN⟩, hD, rfl, hk0, hn0, rfl⟩ := F
  intro hG H locs ls hP hS hh
  unfold zior at h
  by_cases q : 0 ≤ a ∧ 0 ≤ b
  case neg => rw [if_neg q] at h; cases h
  rw [if_pos q] at h
  refine lv_ior hx hb hd ?_
  rw [zI_nat q.1, zI_nat q.2, ze_or, nI_zI]
  have h1 := ha.2
  have h2 := hb9.2
  have hl : (a.toNat ||| b.toNat) < 2 ^ 31 := Nat.or_lt_two_pow (by omega) (by omega)
  exact kk _ ⟨by omega, by omega⟩ h hG H locs ls hP hS hh
theorem k_ishl (F : zF Γ w cI cZ cc rm nL' own) {R : Type} {r : R} {a b : Int} {K : Int → Option R} (ha : inR a) (hb9 : inR b) (hd : decode cc pc = .ok (.ishl, 1)) (h : zishl a b K = some r) (kk : ∀ x, inR x → K x = some r → zk Γ w G S lv (pc + 1) (.int (zI x) :: st)) : zk Γ w G S lv (pc) (.int (zI b) :: .int (zI a) :: st) := by
  obtain ⟨p, l, e, R, s, m, args, below, meth, c, Q, D, A, k0, n0, nL⟩ := Γ
  obtain ⟨hx, hb, hml, hown, hts, ⟨hK, hN⟩, hD, rfl, hk0, hn0, rfl⟩ := F
  intro hG H locs ls hP hS hh
  unfold zishl at h
  by_cases q : 0 ≤ a ∧ 0 ≤ b ∧ b < 31 ∧ a * 2 ^ b.toNat < 2147483648
  case neg => rw [if_neg q] at h; cases h
  rw [if_pos q] at h
  obtain ⟨q1, q2, q3, q4⟩ := q
  refine lv_ishl hx hb hd ?_
  have e : (a.toNat * 2 ^ b.toNat : Nat) = (a * 2 ^ b.toNat : Int) := by
    rw [Int.natCast_mul, Int.toNat_of_nonneg q1, Int.natCast_pow]; rfl
  rw [zI_nat q1, zI_nat q2, pk_shlN _ b.toNat (ze_s _ (by omega)) (by omega), nI_zI, e]
  exact kk _ ⟨by omega, by omega⟩ h hG H locs ls hP hS hh
theorem k_ishr (F : zF Γ w cI cZ cc rm nL' own) {R : Type} {r : R} {a b : Int} {K : Int → Option R} (ha : inR a) (hb9 : inR b) (hd : decode cc pc = .ok (.ishr, 1)) (h : zishr a b K = some r) (kk : ∀ x, inR x → K x = some r → zk Γ w G S lv (pc + 1) (.int (zI x) :: st)) : zk Γ w G S lv (pc) (.int (zI b) :: .int (zI a) :: st) := by
  obtain ⟨p, l, e, R, s, m, args, below, meth, c, Q, D, A, k0, n0, nL⟩ := Γ
  obtain ⟨hx, hb, hml, hown, hts, ⟨hK, hN⟩, hD, rfl, hk0, hn0, rfl⟩ := F
  intro hG H locs ls hP hS hh
  unfold zishr at h
  by_cases q : 0 ≤ a ∧ 0 ≤ b ∧ b < 31
  case neg => rw [if_neg q] at h; cases h
  rw [if_pos q] at h
  obtain ⟨q1, q2, q3⟩ := q
  refine lv_ishr hx hb hd ?_
  have h1 := ha.2
  have e : ((a.toNat / 2 ^ b.toNat : Nat) : Int) = a / 2 ^ b.toNat := by
    rw [Int.natCast_ediv, Int.toNat_of_nonneg q1, Int.natCast_pow]; rfl
  have hl : a.toNat / 2 ^ b.toNat ≤ a.toNat := Nat.div_le_self _ _
  rw [zI_nat q1, zI_nat q2, pk_shrN (by omega) _ b.toNat (ze_s _ (by omega)), nI_zI]
  have hr : inR ((a.toNat / 2 ^ b.toNat : Nat) : Int) := by
    generalize a.toNat / 2 ^ b.toNat = z at hl
    exact ⟨by omega, by omega⟩
  rw [← e] at h
  exact kk _ hr h hG H locs ls hP hS hh
theorem k_tsw3 (F : zF Γ w cI cZ cc rm nL' own) {R : Type} {r : R} {a : Int} {B0 B1 B2 BD : Option R} {o0 o1 o2 dd : Int} {offs : Array Int} {len : Nat} (ha : inR a) (hd : decode cc pc = .ok (.tableswitch dd 0 2 offs, len)) {t0 t1 t2 td : Nat} (e0 : offs[0]? = some o0) (e1 : offs[1]? = some o1) (e2 : offs[2]? = some o2) (q0 : (pc : Int) + o0 = (t0 : Int)) (q1 : (pc : Int) + o1 = (t1 : Int)) (q2 : (pc : Int) + o2 = (t2 : Int)) (qd : (pc : Int) + dd = (td : Int)) (h : (if a = 0 then B0 else if a = 1 then B1 else if a = 2 then B2 else BD) = some r) (k0 : B0 = some r → zk Γ w G S lv (t0) (st)) (k1 : B1 = some r → zk Γ w G S lv (t1) (st)) (k2 : B2 = some r → zk Γ w G S lv (t2) (st)) (kd : BD = some r → zk Γ w G S lv (td) (st)) : zk Γ w G S lv (pc) (.int (zI a) :: st) := by
  obtain ⟨p, l, e, R, s, m, args, below, meth, c, Q, D, A, k0, n0, nL⟩ := Γ
  obtain ⟨hx, hb, hml, hown, hts, ⟨hK, hN⟩, hD, rfl, hk0, hn0, rfl⟩ := F
  intro hG H locs ls hP hS hh
  by_cases c0 : a = 0
  · rw [if_pos c0] at h
    subst c0
    exact lv_tableIn hx hb hd (by rw [zI_toInt ha]; decide) (by rw [zI_toInt ha]; decide) (by rw [zI_toInt ha]; exact e0) q0 (k0 h hG H locs ls hP hS hh)
  rw [if_neg c0] at h
  by_cases c1 : a = 1
  · rw [if_pos c1] at h
    subst c1
    exact lv_tableIn hx hb hd (by rw [zI_toInt ha]; decide) (by rw [zI_toInt ha]; decide) (by rw [zI_toInt ha]; exact e1) q1 (k1 h hG H locs ls hP hS hh)
  rw [if_neg c1] at h
  by_cases c2 : a = 2
  · rw [if_pos c2] at h
    subst c2
    exact lv_tableIn hx hb hd (by rw [zI_toInt ha]; decide) (by rw [zI_toInt ha]; decide) (by rw [zI_toInt ha]; exact e2) q2 (k2 h hG H locs ls hP hS hh)
  rw [if_neg c2] at h
  exact lv_tableOut hx hb hd (by rw [zI_toInt ha]; omega) qd (kd h hG H locs ls hP hS hh)
theorem k_tsw6 (F : zF Γ w cI cZ cc rm nL' own) {R : Type} {r : R} {a : Int} {B0 B1 B2 B3 B4 B5 BD : Option R} {o0 o1 o2 o3 o4 o5 dd : Int} {offs : Array Int} {len : Nat} (ha : inR a) (hd : decode cc pc = .ok (.tableswitch dd 0 5 offs, len)) {t0 t1 t2 t3 t4 t5 td : Nat} (e0 : offs[0]? = some o0) (e1 : offs[1]? = some o1) (e2 : offs[2]? = some o2) (e3 : offs[3]? = some o3) (e4 : offs[4]? = some o4) (e5 : offs[5]? = some o5) (q0 : (pc : Int) + o0 = (t0 : Int)) (q1 : (pc : Int) + o1 = (t1 : Int)) (q2 : (pc : Int) + o2 = (t2 : Int)) (q3 : (pc : Int) + o3 = (t3 : Int)) (q4 : (pc : Int) + o4 = (t4 : Int)) (q5 : (pc : Int) + o5 = (t5 : Int)) (qd : (pc : Int) + dd = (td : Int)) (h : (if a = 0 then B0 else if a = 1 then B1 else if a = 2 then B2 else if a = 3 then B3 else if a = 4 then B4 else if a = 5 then B5 else BD) = some r) (k0 : B0 = some r → zk Γ w G S lv (t0) (st)) (k1 : B1 = some r → zk Γ w G S lv (t1) (st)) (k2 : B2 = some r → zk Γ w G S lv (t2) (st)) (k3 : B3 = some r → zk Γ w G S lv (t3) (st)) (k4 : B4 = some r → zk Γ w G S lv (t4) (st)) (k5 : B5 = some r → zk Γ w G S lv (t5) (st)) (kd : BD = some r → zk Γ w G S lv (td) (st)) : zk Γ w G S lv (pc) (.int (zI a) :: st) := by
  obtain ⟨p, l, e, R, s, m, args, below, meth, c, Q, D, A, k0, n0, nL⟩ := Γ
  obtain ⟨hx, hb, hml, hown, hts, ⟨hK, hN⟩, hD, rfl, hk0, hn0, rfl⟩ := F
  intro hG H locs ls hP hS hh
  by_cases c0 : a = 0
  · rw [if_pos c0] at h
    subst c0
    exact lv_tableIn hx hb hd (by rw [zI_toInt ha]; decide) (by rw [zI_toInt ha]; decide) (by rw [zI_toInt ha]; exact e0) q0 (k0 h hG H locs ls hP hS hh)
  rw [if_neg c0] at h
  by_cases c1 : a = 1
  · rw [if_pos c1] at h
    subst c1
    exact lv_tableIn hx hb hd (by rw [zI_toInt ha]; decide) (by rw [zI_toInt ha]; decide) (by rw [zI_toInt ha]; exact e1) q1 (k1 h hG H locs ls hP hS hh)
  rw [if_neg c1] at h
  by_cases c2 : a = 2
  · rw [if_pos c2] at h
    subst c2
    exact lv_tableIn hx hb hd (by rw [zI_toInt ha]; decide) (by rw [zI_toInt ha]; decide) (by rw [zI_toInt ha]; exact e2) q2 (k2 h hG H locs ls hP hS hh)
  rw [if_neg c2] at h
  by_cases c3 : a = 3
  · rw [if_pos c3] at h
    subst c3
    exact lv_tableIn hx hb hd (by rw [zI_toInt ha]; decide) (by rw [zI_toInt ha]; decide) (by rw [zI_toInt ha]; exact e3) q3 (k3 h hG H locs ls hP hS hh)
  rw [if_neg c3] at h
  by_cases c4 : a = 4
  · rw [if_pos c4] at h
    subst c4
    exact lv_tableIn hx hb hd (by rw [zI_toInt ha]; decide) (by rw [zI_toInt ha]; decide) (by rw [zI_toInt ha]; exact e4) q4 (k4 h hG H locs ls hP hS hh)
  rw [if_neg c4] at h
  by_cases c5 : a = 5
  · rw [if_pos c5] at h
    subst c5
    exact lv_tableIn hx hb hd (by rw [zI_toInt ha]; decide) (by rw [zI_toInt ha]; decide) (by rw [zI_toInt ha]; exact e5) q5 (k5 h hG H locs ls hP hS hh)
  rw [if_neg c5] at h
  exact lv_tableOut hx hb hd (by rw [zI_toInt ha]; omega) qd (kd h hG H locs ls hP hS hh)
theorem mal_min : Cond.static yJ9_min_7cf53 ∈ WS ∧ Cond.initialized "java/lang/Math" ∈ WS ∧ Cond.code yJ9_min_7cf53 cJ9_min_7cf53 2 (some .int) ∈ WS := ⟨wm_0, wm_1, wm_2⟩
theorem k_mmin (F : zF Γ w cI cZ cc rm nL' own) {R : Type} {r : R} {a b : Int} {K : Int → Option R} (ha : inR a) (hb9 : inR b) {idx : Nat} (hl : Cond.methodLink own idx yJ9_min_7cf53 ∈ WS) (hm : Cond.static yJ9_min_7cf53 ∈ WS ∧ Cond.initialized "java/lang/Math" ∈ WS ∧ Cond.code yJ9_min_7cf53 cJ9_min_7cf53 2 (some .int) ∈ WS) (hfr : 1 ≤ rm.frames) (hlo : (st.map fun v => v.category).sum + 13 ≤ rm.locals) (hd : decode cc pc = .ok (.invokestatic idx, 3)) (h : zlt (if b < a then b else a) K = some r) (kk : ∀ x, inR x → K x = some r → zk Γ w G S lv (pc + 3) (.int (zI x) :: st)) : zk Γ w G S lv (pc) (.int (zI b) :: .int (zI a) :: st) := by
  obtain ⟨p, l, e, R, s, m, args, below, meth, c, Q, D, A, k0, n0, nL⟩ := Γ
  obtain ⟨hx, hb, hml, hown, hts, ⟨hK, hN⟩, hD, rfl, hk0, hn0, rfl⟩ := F
  intro hG H locs ls hP hS hh
  refine va_mmin hx hb (hml.trans hh.1.symm) hown (hts _ hl) (hts _ hm.1) (hts _ hm.2.1) (hts _ hm.2.2) hfr hlo hk0 hn0 hd ?_
  have e : (if zI b < zI a then zI b else zI a) = zI (if b < a then b else a) := by
    by_cases q : b < a
    · rw [if_pos q, if_pos ((zI_lt hb9 ha).mpr q)]
    · rw [if_neg q, if_neg (fun z => q ((zI_lt hb9 ha).mp z))]
  have hr : inR (if b < a then b else a) := by
    by_cases q : b < a
    · rw [if_pos q]; exact hb9
    · rw [if_neg q]; exact ha
  rw [e]
  exact kk _ hr h hG H locs ls hP hS hh
theorem mal_abs : Cond.static yJ9_abs_0f7a4 ∈ WS ∧ Cond.initialized "java/lang/Math" ∈ WS ∧ Cond.code yJ9_abs_0f7a4 cJ9_abs_0f7a4 1 (some .int) ∈ WS := ⟨wm_3, wm_1, wm_4⟩
theorem k_mabs (F : zF Γ w cI cZ cc rm nL' own) {R : Type} {r : R} {a : Int} {K : Int → Option R} (ha : inR a) {idx : Nat} (hl : Cond.methodLink own idx yJ9_abs_0f7a4 ∈ WS) (hm : Cond.static yJ9_abs_0f7a4 ∈ WS ∧ Cond.initialized "java/lang/Math" ∈ WS ∧ Cond.code yJ9_abs_0f7a4 cJ9_abs_0f7a4 1 (some .int) ∈ WS) (hfr : 1 ≤ rm.frames) (hlo : (st.map fun v => v.category).sum + 13 ≤ rm.locals) (hd : decode cc pc = .ok (.invokestatic idx, 3)) (h : zar (if 0 ≤ a then a else 0 - a) K = some r) (kk : ∀ x, inR x → K x = some r → zk Γ w G S lv (pc + 3) (.int (zI x) :: st)) : zk Γ w G S lv (pc) (.int (zI a) :: st) := by
  obtain ⟨p, l, e, R, s, m, args, below, meth, c, Q, D, A, k0, n0, nL⟩ := Γ
  obtain ⟨hx, hb, hml, hown, hts, ⟨hK, hN⟩, hD, rfl, hk0, hn0, rfl⟩ := F
  intro hG H locs ls hP hS hh
  obtain ⟨h1, h2⟩ := zar_e h
  refine va_mabs hx hb (hml.trans hh.1.symm) hown (hts _ hl) (hts _ hm.1) (hts _ hm.2.1) (hts _ hm.2.2) hfr hlo hk0 hn0 hd ?_
  have e : (if 0 ≤ zI a then zI a else 0 - zI a) = zI (if 0 ≤ a then a else 0 - a) := by
    by_cases q : 0 ≤ a
    · rw [if_pos q, if_pos (by rw [zI_zero]; exact (zI_le inR_0 ha).mpr q)]
    · rw [if_neg q, if_neg (by rw [zI_zero]; exact fun z => q ((zI_le inR_0 ha).mp z)), zI_zero, zI_sub]
  rw [e]
  exact kk _ h1 h2 hG H locs ls hP hS hh
end RowsE
/-- the element at an index, -1 outside -/
def m_at (S : zSt) (j : Nat) (n i : Int) : Option zRes := if i < 0 then some (-1, S) else if n ≤ i then some (-1, S) else zld (S.2 j) n i fun x => some (x, S)
set_option maxRecDepth 100000 in
theorem c_at {l : Launch} {D : va_G} {A : Nat → Prop} {cI cZ : ClassId} {w : zSt → va_W} {bs : List Nat} (hD : ∀ S, va_D A (w S)) {S : zSt} (hG : RG bs S) (q0 : Nat) {a j n : Nat} (ha : ∀ S, (w S)[q0]? = some (a, .inl (cI, n, .inl (zA (S.2 j))))) (hnL : Int32.ofNat n = zI (n : Int)) (hnR : inR (n : Int)) {a1 : Int} (ra1 : inR a1) {x : Int} {S' : zSt} (h : m_at S j (n : Int) a1 = some (x, S')) : zMi l yX8_at cX8_at 2 .int { frames := 0, cells := 0, slots := 0, locals := 0 } D cI cZ A w (RG bs) [.ref a, .int (zI a1)] S x S' := by
  refine k_start_i (by decide +kernel) hD hG (Nat.le_of_ble_eq_true rfl) (fun Γ F hQ => ?_)
  refine k_sub [0, 1] (lv' := [(0, .ref a), (1, .int (zI a1))]) rfl ?_
  refine k_iload_n F dX8_at_0 rfl 1 rfl ?_
  refine k_if_lt F ra1 (tgt := 16) dX8_at_1 (by decide) h (fun h1 => ?_) (fun h1 => ?_)
  · refine k_iconst F dX8_at_16 ?_
    exact k_iret F hQ (by decide) dX8_at_17 h1
  · refine k_iload_n F dX8_at_4 rfl 1 rfl ?_
    refine k_aload_n F dX8_at_5 rfl 0 rfl ?_
    refine k_alen F q0 ha hnL dX8_at_6 ?_
    refine k_icmp_ge F ra1 hnR (tgt := 16) dX8_at_7 (by decide) h1 (fun h2 => ?_) (fun h2 => ?_)
    · refine k_iconst F dX8_at_16 ?_
      exact k_iret F hQ (by decide) dX8_at_17 h2
    · refine k_aload_n F dX8_at_10 rfl 0 rfl ?_
      refine k_iload_n F dX8_at_11 rfl 1 rfl ?_
      refine k_iald F rfl q0 ha ra1 dX8_at_12 h2 (fun x1 r1 h3 => ?_)
      refine k_goto F (tgt := 17) dX8_at_13 (by decide) ?_
      exact k_iret F hQ r1 dX8_at_17 h3
theorem cal_fill : zCas "java/util/Arrays" yJ7_fill_53178 cJ7_fill_53178 4 none 2 := ⟨wm_5, wm_6, wm_7, rfl, ⟨by decide, by decide⟩, by decide +kernel⟩
/-- the first n places of the row j are v -/
def zfl (S : zSt) (j : Nat) (n v : Int) : zSt := (S.1, fun q => if q = j then (fun t => if 0 ≤ t ∧ t < n then v else S.2 j t) else S.2 q)
theorem zfl_0 (S : zSt) (j : Nat) (v : Int) : zfl S j 0 v = S := by
  unfold zfl
  refine Prod.ext rfl (funext fun q => ?_)
  show (if q = j then _ else S.2 q) = S.2 q
  by_cases e : q = j
  · rw [if_pos e]
    funext t
    rw [if_neg (by omega), e]
  · rw [if_neg e]
theorem zfl_s (S : zSt) (j : Nat) (i v : Int) (h : 0 ≤ i) : zput (zfl S j i v) j i v = zfl S j (i + 1) v := by
  unfold zput zfl
  refine Prod.ext rfl (funext fun q => ?_)
  show (if q = j then (fun t => if t = i then v else (if j = j then _ else S.2 j) t) else if q = j then _ else S.2 q) = (if q = j then _ else S.2 q)
  by_cases e : q = j
  · rw [if_pos e, if_pos e]
    funext t
    rw [if_pos rfl]
    by_cases e1 : t = i
    · rw [if_pos e1, if_pos (by omega)]
    · rw [if_neg e1]
      by_cases e2 : 0 ≤ t ∧ t < i
      · rw [if_pos e2, if_pos (by omega)]
      · rw [if_neg e2, if_neg (by omega)]
  · rw [if_neg e, if_neg e, if_neg e]
def m_fill (S : zSt) (j : Nat) (n v : Int) : Option zRes := some (0, zfl S j n v)
set_option maxRecDepth 100000 in
theorem c_fill {l : Launch} {D : va_G} {A : Nat → Prop} {cI cZ : ClassId} {w : zSt → va_W} {bs : List Nat} (hD : ∀ S, va_D A (w S)) {S : zSt} (hG : RG bs S) (q0 : Nat) {a j n : Nat} (ha : ∀ S, (w S)[q0]? = some (a, .inl (cI, n, .inl (zA (S.2 j))))) (hs : ∀ S i v, 0 ≤ i → (w S).set q0 (a, .inl (cI, n, .inl (upd (zA (S.2 j)) i.toNat (zI v)))) = w (zput S j i v)) (hj : j ∉ bs) (hnL : Int32.ofNat n = zI (n : Int)) (hnR : inR (n : Int)) {v : Int} (rv : inR v) {x : Int} {S' : zSt} (h : m_fill S j (n : Int) v = some (x, S')) : zMv l yJ7_fill_53178 cJ7_fill_53178 4 { frames := 0, cells := 0, slots := 0, locals := 0 } D cI cZ A w (RG bs) [.ref a, .int (zI v)] S S' := by
  refine k_start_v (by decide +kernel) hD hG (Nat.le_of_ble_eq_true rfl) (fun Γ F hQ => ?_)
  refine k_sub [0, 1] (lv' := [(0, .ref a), (1, .int (zI v))]) rfl ?_
  refine k_iconst F dJ7_fill_53178_0 ?_
  refine k_istore_n F dJ7_fill_53178_1 rfl (by decide) rfl ?_
  refine k_aload_n F dJ7_fill_53178_2 rfl 1 rfl ?_
  refine k_alen F q0 ha hnL dJ7_fill_53178_3 ?_
  refine k_istore_n F dJ7_fill_53178_4 rfl (by decide) rfl ?_
  refine k_sub [2, 3, 1, 0] (lv' := [(0, .ref a), (1, .int (zI v)), (2, .int (zI 0)), (3, .int (zI (n : Int)))]) rfl ?_
  have L : ∀ (k : Nat) (i : Int), 0 ≤ i → i + k = n → zk Γ w (RG bs) (zfl S j i v) [(0, .ref a), (1, .int (zI v)), (2, .int (zI i)), (3, .int (zI (n : Int)))] 5 [] := by
    intro k
    induction k with
    | zero =>
      intro i h0 hi
      have hi : i = n := by omega
      subst hi
      refine k_iload_n F dJ7_fill_53178_5 rfl 2 rfl ?_
      refine k_iload_n F dJ7_fill_53178_6 rfl 3 rfl ?_
      refine k_icmp_ge (R := Unit) (r := ()) (A := some ()) (B := none) F hnR hnR (tgt := 20) dJ7_fill_53178_7 (by decide) (if_pos (Int.le_refl _)) (fun _ => ?_) (fun z => by cases z)
      exact k_vret F hQ dJ7_fill_53178_20 h
    | succ k ih =>
      intro i h0 hi
      have hr : inR i := ⟨by omega, by have := hnR.2; omega⟩
      have hr1 : inR (i + 1) := ⟨by omega, by have := hnR.2; omega⟩
      refine k_iload_n F dJ7_fill_53178_5 rfl 2 rfl ?_
      refine k_iload_n F dJ7_fill_53178_6 rfl 3 rfl ?_
      refine k_icmp_ge (R := Unit) (r := ()) (A := none) (B := some ()) F hr hnR (tgt := 20) dJ7_fill_53178_7 (by decide) (if_neg (by omega)) (fun z => by cases z) (fun _ => ?_)
      refine k_aload_n F dJ7_fill_53178_10 rfl 0 rfl ?_
      refine k_iload_n F dJ7_fill_53178_11 rfl 2 rfl ?_
      refine k_iload_n F dJ7_fill_53178_12 rfl 1 rfl ?_
      refine k_iast (R := zSt) (r := zfl S j (i + 1) v) (K := some) F rfl q0 ha hs hj hr rv dJ7_fill_53178_13 (by unfold zst; rw [if_pos ⟨h0, by omega⟩, zfl_s S j i v h0]) (fun S2 e => ?_)
      cases e
      refine k_iinc (R := Unit) (r := ()) (K := fun y => if y = i + 1 then some () else none) F (k := 2) (lv' := fun y => [(2, .int (zI y)), (0, .ref a), (1, .int (zI v)), (3, .int (zI (n : Int)))]) dJ7_fill_53178_14 rfl (by decide) (fun _ => rfl) (by show (if inR (i + 1) then (if i + 1 = i + 1 then some () else none) else none) = some (); rw [if_pos hr1, if_pos rfl]) (fun y ry ey => ?_)
      have ey : y = i + 1 := by
        by_cases q : y = i + 1
        · exact q
        · rw [if_neg q] at ey; cases ey
      subst ey
      refine k_goto F (tgt := 5) dJ7_fill_53178_17 (by decide) ?_
      exact k_sub [1, 2, 0, 3] rfl (ih (i + 1) (by omega) (by omega))
  have e := L n 0 (Int.le_refl 0) (by omega)
  rw [zfl_0] at e
  exact e
section RowsF
variable {Γ : zG} {w : zSt → va_W} {cI cZ : ClassId} {cc : ByteArray} {rm : Room} {nL' : Nat} {own : String} {G : zSt → Prop} {S : zSt} {lv : List (Nat × Value)} {pc : Nat} {st : List Value}
theorem k_fill (F : zF Γ w cI cZ cc rm nL' own) {a j n idx : Nat} {R : Type} {r : R} {bs : List Nat} {v : Int} {K : zSt → Option R} (hGR : G = RG bs) (q0 : Nat) (ha : ∀ S, (w S)[q0]? = some (a, .inl (cI, n, .inl (zA (S.2 j))))) (hs : ∀ S i v, 0 ≤ i → (w S).set q0 (a, .inl (cI, n, .inl (upd (zA (S.2 j)) i.toNat (zI v)))) = w (zput S j i v)) (hj : j ∉ bs) (hn : Int32.ofNat n = zI (n : Int) ∧ inR (n : Int)) (rv : inR v) (hl : Cond.methodLink own idx yJ7_fill_53178 ∈ WS) (hR : 1 ≤ rm.frames ∧ 23 ≤ rm.locals) (hW : (st.map fun v => v.category).sum ≤ 8) (hd : decode cc pc = .ok (.invokestatic idx, 3)) (h : zlt (zfl S j (n : Int) v) K = some r) (kk : ∀ S, K S = some r → zk Γ w G S lv (pc + 3) (st)) : zk Γ w G S lv (pc) (.int (zI v) :: .ref a :: st) := by
  subst hGR
  refine k_callSv F cal_fill hl (fun l D A hD hG x S' h => c_fill hD hG q0 ha hs hj hn.1 hn.2 rv h) ⟨rfl, rfl, hR.1, hR.2⟩ rfl rfl hW hd (x0 := m_fill S j (n : Int) v) (K := fun _ S => K S) h (fun x S h1 => ?_)
  exact kk S h1
end RowsF
