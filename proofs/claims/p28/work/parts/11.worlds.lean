/-! THE WORLDS: every object and row of the class, and of the reference, at the addresses ad 0, ad 1 .. -/
def fsX8 (ad : Nat → Nat) (S : zSt) : List Value := [.ref (ad 1), .ref (ad 3), .ref (ad 7), .ref (ad 11), .ref (ad 23), .ref (ad 28), .ref (ad 34)]
def fsX4 (ad : Nat → Nat) (S : zSt) : List Value := [.ref (ad 2), .int (zI (S.1 0))]
def fsX7 (ad : Nat → Nat) (S : zSt) : List Value := [.ref (ad 4), .ref (ad 5), .ref (ad 6), .int (zI (S.1 1))]
def fsX0 (ad : Nat → Nat) (S : zSt) : List Value := [.ref (ad 8), .ref (ad 9), .ref (ad 10), .int (zI (S.1 2))]
def fsX1 (ad : Nat → Nat) (S : zSt) : List Value := [.ref (ad 12), .ref (ad 13), .ref (ad 14), .ref (ad 15), .ref (ad 16), .ref (ad 17), .ref (ad 18), .ref (ad 19), .ref (ad 20), .ref (ad 21), .ref (ad 22), .int (zI (S.1 3))]
def fsX5 (ad : Nat → Nat) (S : zSt) : List Value := [.ref (ad 24), .ref (ad 25), .ref (ad 26), .ref (ad 27), .int (zI (S.1 4))]
def fsX6 (ad : Nat → Nat) (S : zSt) : List Value := [.ref (ad 29), .ref (ad 31), .ref (ad 33), .int (zI (S.1 7)), .int (zI (S.1 8))]
def fsX3i (ad : Nat → Nat) (S : zSt) : List Value := [.ref (ad 30), .int (zI (S.1 5))]
def fsX3o (ad : Nat → Nat) (S : zSt) : List Value := [.ref (ad 32), .int (zI (S.1 6))]
def fsX2 (ad : Nat → Nat) (S : zSt) : List Value := [.ref (ad 35), .ref (ad 36), .ref (ad 37), .int (zI (S.1 9)), .int (zI (S.1 10))]
def wC (cI cZ : ClassId) (ad : Nat → Nat) (S : zSt) : va_W := [(ad 0, .inr (8, fsX8 ad S)), (ad 1, .inr (4, fsX4 ad S)), (ad 2, .inl (cI, 12, .inl (zA (S.2 0)))), (ad 3, .inr (7, fsX7 ad S)), (ad 4, .inl (cI, 240, .inl (zA (S.2 1)))), (ad 5, .inl (cI, 20, .inl (zA (S.2 2)))), (ad 6, .inl (cI, 13, .inl (zA (S.2 3)))), (ad 7, .inr (0, fsX0 ad S)), (ad 8, .inl (cI, 12, .inl (zA (S.2 4)))), (ad 9, .inl (cI, 12, .inl (zA (S.2 5)))), (ad 10, .inl (cI, 12, .inl (zA (S.2 6)))), (ad 11, .inr (1, fsX1 ad S)), (ad 12, .inl (cI, 60, .inl (zA (S.2 7)))), (ad 13, .inl (cI, 60, .inl (zA (S.2 8)))), (ad 14, .inl (cI, 60, .inl (zA (S.2 9)))), (ad 15, .inl (cI, 60, .inl (zA (S.2 10)))), (ad 16, .inl (cI, 60, .inl (zA (S.2 11)))), (ad 17, .inl (cI, 60, .inl (zA (S.2 12)))), (ad 18, .inl (cI, 60, .inl (zA (S.2 13)))), (ad 19, .inl (cI, 60, .inl (zA (S.2 14)))), (ad 20, .inl (cI, 60, .inl (zA (S.2 15)))), (ad 21, .inl (cZ, 60, .inl (zA (S.2 16)))), (ad 22, .inl (cI, 60, .inl (zA (S.2 17)))), (ad 23, .inr (5, fsX5 ad S)), (ad 24, .inl (cI, 10, .inl (zA (S.2 18)))), (ad 25, .inl (cI, 10, .inl (zA (S.2 19)))), (ad 26, .inl (cI, 6, .inl (zA (S.2 20)))), (ad 27, .inl (cI, 6, .inl (zA (S.2 21)))), (ad 28, .inr (6, fsX6 ad S)), (ad 29, .inr (3, fsX3i ad S)), (ad 30, .inl (cI, 240, .inl (zA (S.2 22)))), (ad 31, .inr (3, fsX3o ad S)), (ad 32, .inl (cI, 240, .inl (zA (S.2 23)))), (ad 33, .inl (cI, 240, .inl (zA (S.2 24)))), (ad 34, .inr (2, fsX2 ad S)), (ad 35, .inl (cI, 160, .inl (zA (S.2 25)))), (ad 36, .inl (cI, 8, .inl (zA (S.2 26)))), (ad 37, .inl (cI, 8, .inl (zA (S.2 27))))]
def bsC : List Nat := [16]
theorem obC_0 (cI cZ : ClassId) (ad : Nat → Nat) : zOb (wC cI cZ ad) (ad 0) RX8 := ⟨0, 8, (RX8, TX8, 7), fsX8 ad, fun _ => rfl, rfl, rfl⟩
theorem obC_1 (cI cZ : ClassId) (ad : Nat → Nat) : zOb (wC cI cZ ad) (ad 1) RX4 := ⟨1, 4, (RX4, TX4, 2), fsX4 ad, fun _ => rfl, rfl, rfl⟩
theorem aC_0 (cI cZ : ClassId) (ad : Nat → Nat) : ∀ S, (wC cI cZ ad S)[2]? = some (ad 2, .inl (cI, 12, .inl (zA (S.2 0)))) := fun _ => rfl
theorem sC_0 (cI cZ : ClassId) (ad : Nat → Nat) : ∀ S i v, 0 ≤ i → (wC cI cZ ad S).set 2 (ad 2, .inl (cI, 12, .inl (upd (zA (S.2 0)) i.toNat (zI v)))) = wC cI cZ ad (zput S 0 i v) := fun S i v h => by rw [zA_put h]; rfl
theorem obC_3 (cI cZ : ClassId) (ad : Nat → Nat) : zOb (wC cI cZ ad) (ad 3) RX7 := ⟨3, 7, (RX7, TX7, 4), fsX7 ad, fun _ => rfl, rfl, rfl⟩
theorem aC_1 (cI cZ : ClassId) (ad : Nat → Nat) : ∀ S, (wC cI cZ ad S)[4]? = some (ad 4, .inl (cI, 240, .inl (zA (S.2 1)))) := fun _ => rfl
theorem sC_1 (cI cZ : ClassId) (ad : Nat → Nat) : ∀ S i v, 0 ≤ i → (wC cI cZ ad S).set 4 (ad 4, .inl (cI, 240, .inl (upd (zA (S.2 1)) i.toNat (zI v)))) = wC cI cZ ad (zput S 1 i v) := fun S i v h => by rw [zA_put h]; rfl
theorem aC_2 (cI cZ : ClassId) (ad : Nat → Nat) : ∀ S, (wC cI cZ ad S)[5]? = some (ad 5, .inl (cI, 20, .inl (zA (S.2 2)))) := fun _ => rfl
theorem sC_2 (cI cZ : ClassId) (ad : Nat → Nat) : ∀ S i v, 0 ≤ i → (wC cI cZ ad S).set 5 (ad 5, .inl (cI, 20, .inl (upd (zA (S.2 2)) i.toNat (zI v)))) = wC cI cZ ad (zput S 2 i v) := fun S i v h => by rw [zA_put h]; rfl
theorem aC_3 (cI cZ : ClassId) (ad : Nat → Nat) : ∀ S, (wC cI cZ ad S)[6]? = some (ad 6, .inl (cI, 13, .inl (zA (S.2 3)))) := fun _ => rfl
theorem sC_3 (cI cZ : ClassId) (ad : Nat → Nat) : ∀ S i v, 0 ≤ i → (wC cI cZ ad S).set 6 (ad 6, .inl (cI, 13, .inl (upd (zA (S.2 3)) i.toNat (zI v)))) = wC cI cZ ad (zput S 3 i v) := fun S i v h => by rw [zA_put h]; rfl
theorem obC_7 (cI cZ : ClassId) (ad : Nat → Nat) : zOb (wC cI cZ ad) (ad 7) RX0 := ⟨7, 0, (RX0, TX0, 4), fsX0 ad, fun _ => rfl, rfl, rfl⟩
theorem aC_4 (cI cZ : ClassId) (ad : Nat → Nat) : ∀ S, (wC cI cZ ad S)[8]? = some (ad 8, .inl (cI, 12, .inl (zA (S.2 4)))) := fun _ => rfl
theorem sC_4 (cI cZ : ClassId) (ad : Nat → Nat) : ∀ S i v, 0 ≤ i → (wC cI cZ ad S).set 8 (ad 8, .inl (cI, 12, .inl (upd (zA (S.2 4)) i.toNat (zI v)))) = wC cI cZ ad (zput S 4 i v) := fun S i v h => by rw [zA_put h]; rfl
theorem aC_5 (cI cZ : ClassId) (ad : Nat → Nat) : ∀ S, (wC cI cZ ad S)[9]? = some (ad 9, .inl (cI, 12, .inl (zA (S.2 5)))) := fun _ => rfl
theorem sC_5 (cI cZ : ClassId) (ad : Nat → Nat) : ∀ S i v, 0 ≤ i → (wC cI cZ ad S).set 9 (ad 9, .inl (cI, 12, .inl (upd (zA (S.2 5)) i.toNat (zI v)))) = wC cI cZ ad (zput S 5 i v) := fun S i v h => by rw [zA_put h]; rfl
theorem aC_6 (cI cZ : ClassId) (ad : Nat → Nat) : ∀ S, (wC cI cZ ad S)[10]? = some (ad 10, .inl (cI, 12, .inl (zA (S.2 6)))) := fun _ => rfl
theorem sC_6 (cI cZ : ClassId) (ad : Nat → Nat) : ∀ S i v, 0 ≤ i → (wC cI cZ ad S).set 10 (ad 10, .inl (cI, 12, .inl (upd (zA (S.2 6)) i.toNat (zI v)))) = wC cI cZ ad (zput S 6 i v) := fun S i v h => by rw [zA_put h]; rfl
theorem obC_11 (cI cZ : ClassId) (ad : Nat → Nat) : zOb (wC cI cZ ad) (ad 11) RX1 := ⟨11, 1, (RX1, TX1, 12), fsX1 ad, fun _ => rfl, rfl, rfl⟩
theorem aC_7 (cI cZ : ClassId) (ad : Nat → Nat) : ∀ S, (wC cI cZ ad S)[12]? = some (ad 12, .inl (cI, 60, .inl (zA (S.2 7)))) := fun _ => rfl
theorem sC_7 (cI cZ : ClassId) (ad : Nat → Nat) : ∀ S i v, 0 ≤ i → (wC cI cZ ad S).set 12 (ad 12, .inl (cI, 60, .inl (upd (zA (S.2 7)) i.toNat (zI v)))) = wC cI cZ ad (zput S 7 i v) := fun S i v h => by rw [zA_put h]; rfl
theorem aC_8 (cI cZ : ClassId) (ad : Nat → Nat) : ∀ S, (wC cI cZ ad S)[13]? = some (ad 13, .inl (cI, 60, .inl (zA (S.2 8)))) := fun _ => rfl
theorem sC_8 (cI cZ : ClassId) (ad : Nat → Nat) : ∀ S i v, 0 ≤ i → (wC cI cZ ad S).set 13 (ad 13, .inl (cI, 60, .inl (upd (zA (S.2 8)) i.toNat (zI v)))) = wC cI cZ ad (zput S 8 i v) := fun S i v h => by rw [zA_put h]; rfl
theorem aC_9 (cI cZ : ClassId) (ad : Nat → Nat) : ∀ S, (wC cI cZ ad S)[14]? = some (ad 14, .inl (cI, 60, .inl (zA (S.2 9)))) := fun _ => rfl
theorem sC_9 (cI cZ : ClassId) (ad : Nat → Nat) : ∀ S i v, 0 ≤ i → (wC cI cZ ad S).set 14 (ad 14, .inl (cI, 60, .inl (upd (zA (S.2 9)) i.toNat (zI v)))) = wC cI cZ ad (zput S 9 i v) := fun S i v h => by rw [zA_put h]; rfl
theorem aC_10 (cI cZ : ClassId) (ad : Nat → Nat) : ∀ S, (wC cI cZ ad S)[15]? = some (ad 15, .inl (cI, 60, .inl (zA (S.2 10)))) := fun _ => rfl
theorem sC_10 (cI cZ : ClassId) (ad : Nat → Nat) : ∀ S i v, 0 ≤ i → (wC cI cZ ad S).set 15 (ad 15, .inl (cI, 60, .inl (upd (zA (S.2 10)) i.toNat (zI v)))) = wC cI cZ ad (zput S 10 i v) := fun S i v h => by rw [zA_put h]; rfl
theorem aC_11 (cI cZ : ClassId) (ad : Nat → Nat) : ∀ S, (wC cI cZ ad S)[16]? = some (ad 16, .inl (cI, 60, .inl (zA (S.2 11)))) := fun _ => rfl
theorem sC_11 (cI cZ : ClassId) (ad : Nat → Nat) : ∀ S i v, 0 ≤ i → (wC cI cZ ad S).set 16 (ad 16, .inl (cI, 60, .inl (upd (zA (S.2 11)) i.toNat (zI v)))) = wC cI cZ ad (zput S 11 i v) := fun S i v h => by rw [zA_put h]; rfl
theorem aC_12 (cI cZ : ClassId) (ad : Nat → Nat) : ∀ S, (wC cI cZ ad S)[17]? = some (ad 17, .inl (cI, 60, .inl (zA (S.2 12)))) := fun _ => rfl
theorem sC_12 (cI cZ : ClassId) (ad : Nat → Nat) : ∀ S i v, 0 ≤ i → (wC cI cZ ad S).set 17 (ad 17, .inl (cI, 60, .inl (upd (zA (S.2 12)) i.toNat (zI v)))) = wC cI cZ ad (zput S 12 i v) := fun S i v h => by rw [zA_put h]; rfl
theorem aC_13 (cI cZ : ClassId) (ad : Nat → Nat) : ∀ S, (wC cI cZ ad S)[18]? = some (ad 18, .inl (cI, 60, .inl (zA (S.2 13)))) := fun _ => rfl
theorem sC_13 (cI cZ : ClassId) (ad : Nat → Nat) : ∀ S i v, 0 ≤ i → (wC cI cZ ad S).set 18 (ad 18, .inl (cI, 60, .inl (upd (zA (S.2 13)) i.toNat (zI v)))) = wC cI cZ ad (zput S 13 i v) := fun S i v h => by rw [zA_put h]; rfl
theorem aC_14 (cI cZ : ClassId) (ad : Nat → Nat) : ∀ S, (wC cI cZ ad S)[19]? = some (ad 19, .inl (cI, 60, .inl (zA (S.2 14)))) := fun _ => rfl
theorem sC_14 (cI cZ : ClassId) (ad : Nat → Nat) : ∀ S i v, 0 ≤ i → (wC cI cZ ad S).set 19 (ad 19, .inl (cI, 60, .inl (upd (zA (S.2 14)) i.toNat (zI v)))) = wC cI cZ ad (zput S 14 i v) := fun S i v h => by rw [zA_put h]; rfl
theorem aC_15 (cI cZ : ClassId) (ad : Nat → Nat) : ∀ S, (wC cI cZ ad S)[20]? = some (ad 20, .inl (cI, 60, .inl (zA (S.2 15)))) := fun _ => rfl
theorem sC_15 (cI cZ : ClassId) (ad : Nat → Nat) : ∀ S i v, 0 ≤ i → (wC cI cZ ad S).set 20 (ad 20, .inl (cI, 60, .inl (upd (zA (S.2 15)) i.toNat (zI v)))) = wC cI cZ ad (zput S 15 i v) := fun S i v h => by rw [zA_put h]; rfl
theorem aC_16 (cI cZ : ClassId) (ad : Nat → Nat) : ∀ S, (wC cI cZ ad S)[21]? = some (ad 21, .inl (cZ, 60, .inl (zA (S.2 16)))) := fun _ => rfl
theorem sC_16 (cI cZ : ClassId) (ad : Nat → Nat) : ∀ S i v, 0 ≤ i → (wC cI cZ ad S).set 21 (ad 21, .inl (cZ, 60, .inl (upd (zA (S.2 16)) i.toNat (zI v)))) = wC cI cZ ad (zput S 16 i v) := fun S i v h => by rw [zA_put h]; rfl
theorem aC_17 (cI cZ : ClassId) (ad : Nat → Nat) : ∀ S, (wC cI cZ ad S)[22]? = some (ad 22, .inl (cI, 60, .inl (zA (S.2 17)))) := fun _ => rfl
theorem sC_17 (cI cZ : ClassId) (ad : Nat → Nat) : ∀ S i v, 0 ≤ i → (wC cI cZ ad S).set 22 (ad 22, .inl (cI, 60, .inl (upd (zA (S.2 17)) i.toNat (zI v)))) = wC cI cZ ad (zput S 17 i v) := fun S i v h => by rw [zA_put h]; rfl
theorem obC_23 (cI cZ : ClassId) (ad : Nat → Nat) : zOb (wC cI cZ ad) (ad 23) RX5 := ⟨23, 5, (RX5, TX5, 5), fsX5 ad, fun _ => rfl, rfl, rfl⟩
theorem aC_18 (cI cZ : ClassId) (ad : Nat → Nat) : ∀ S, (wC cI cZ ad S)[24]? = some (ad 24, .inl (cI, 10, .inl (zA (S.2 18)))) := fun _ => rfl
theorem sC_18 (cI cZ : ClassId) (ad : Nat → Nat) : ∀ S i v, 0 ≤ i → (wC cI cZ ad S).set 24 (ad 24, .inl (cI, 10, .inl (upd (zA (S.2 18)) i.toNat (zI v)))) = wC cI cZ ad (zput S 18 i v) := fun S i v h => by rw [zA_put h]; rfl
theorem aC_19 (cI cZ : ClassId) (ad : Nat → Nat) : ∀ S, (wC cI cZ ad S)[25]? = some (ad 25, .inl (cI, 10, .inl (zA (S.2 19)))) := fun _ => rfl
theorem sC_19 (cI cZ : ClassId) (ad : Nat → Nat) : ∀ S i v, 0 ≤ i → (wC cI cZ ad S).set 25 (ad 25, .inl (cI, 10, .inl (upd (zA (S.2 19)) i.toNat (zI v)))) = wC cI cZ ad (zput S 19 i v) := fun S i v h => by rw [zA_put h]; rfl
theorem aC_20 (cI cZ : ClassId) (ad : Nat → Nat) : ∀ S, (wC cI cZ ad S)[26]? = some (ad 26, .inl (cI, 6, .inl (zA (S.2 20)))) := fun _ => rfl
theorem sC_20 (cI cZ : ClassId) (ad : Nat → Nat) : ∀ S i v, 0 ≤ i → (wC cI cZ ad S).set 26 (ad 26, .inl (cI, 6, .inl (upd (zA (S.2 20)) i.toNat (zI v)))) = wC cI cZ ad (zput S 20 i v) := fun S i v h => by rw [zA_put h]; rfl
theorem aC_21 (cI cZ : ClassId) (ad : Nat → Nat) : ∀ S, (wC cI cZ ad S)[27]? = some (ad 27, .inl (cI, 6, .inl (zA (S.2 21)))) := fun _ => rfl
theorem sC_21 (cI cZ : ClassId) (ad : Nat → Nat) : ∀ S i v, 0 ≤ i → (wC cI cZ ad S).set 27 (ad 27, .inl (cI, 6, .inl (upd (zA (S.2 21)) i.toNat (zI v)))) = wC cI cZ ad (zput S 21 i v) := fun S i v h => by rw [zA_put h]; rfl
theorem obC_28 (cI cZ : ClassId) (ad : Nat → Nat) : zOb (wC cI cZ ad) (ad 28) RX6 := ⟨28, 6, (RX6, TX6, 5), fsX6 ad, fun _ => rfl, rfl, rfl⟩
theorem obC_29 (cI cZ : ClassId) (ad : Nat → Nat) : zOb (wC cI cZ ad) (ad 29) RX3 := ⟨29, 3, (RX3, TX3, 2), fsX3i ad, fun _ => rfl, rfl, rfl⟩
theorem aC_22 (cI cZ : ClassId) (ad : Nat → Nat) : ∀ S, (wC cI cZ ad S)[30]? = some (ad 30, .inl (cI, 240, .inl (zA (S.2 22)))) := fun _ => rfl
theorem sC_22 (cI cZ : ClassId) (ad : Nat → Nat) : ∀ S i v, 0 ≤ i → (wC cI cZ ad S).set 30 (ad 30, .inl (cI, 240, .inl (upd (zA (S.2 22)) i.toNat (zI v)))) = wC cI cZ ad (zput S 22 i v) := fun S i v h => by rw [zA_put h]; rfl
theorem obC_31 (cI cZ : ClassId) (ad : Nat → Nat) : zOb (wC cI cZ ad) (ad 31) RX3 := ⟨31, 3, (RX3, TX3, 2), fsX3o ad, fun _ => rfl, rfl, rfl⟩
theorem aC_23 (cI cZ : ClassId) (ad : Nat → Nat) : ∀ S, (wC cI cZ ad S)[32]? = some (ad 32, .inl (cI, 240, .inl (zA (S.2 23)))) := fun _ => rfl
theorem sC_23 (cI cZ : ClassId) (ad : Nat → Nat) : ∀ S i v, 0 ≤ i → (wC cI cZ ad S).set 32 (ad 32, .inl (cI, 240, .inl (upd (zA (S.2 23)) i.toNat (zI v)))) = wC cI cZ ad (zput S 23 i v) := fun S i v h => by rw [zA_put h]; rfl
theorem aC_24 (cI cZ : ClassId) (ad : Nat → Nat) : ∀ S, (wC cI cZ ad S)[33]? = some (ad 33, .inl (cI, 240, .inl (zA (S.2 24)))) := fun _ => rfl
theorem sC_24 (cI cZ : ClassId) (ad : Nat → Nat) : ∀ S i v, 0 ≤ i → (wC cI cZ ad S).set 33 (ad 33, .inl (cI, 240, .inl (upd (zA (S.2 24)) i.toNat (zI v)))) = wC cI cZ ad (zput S 24 i v) := fun S i v h => by rw [zA_put h]; rfl
theorem obC_34 (cI cZ : ClassId) (ad : Nat → Nat) : zOb (wC cI cZ ad) (ad 34) RX2 := ⟨34, 2, (RX2, TX2, 5), fsX2 ad, fun _ => rfl, rfl, rfl⟩
theorem aC_25 (cI cZ : ClassId) (ad : Nat → Nat) : ∀ S, (wC cI cZ ad S)[35]? = some (ad 35, .inl (cI, 160, .inl (zA (S.2 25)))) := fun _ => rfl
theorem sC_25 (cI cZ : ClassId) (ad : Nat → Nat) : ∀ S i v, 0 ≤ i → (wC cI cZ ad S).set 35 (ad 35, .inl (cI, 160, .inl (upd (zA (S.2 25)) i.toNat (zI v)))) = wC cI cZ ad (zput S 25 i v) := fun S i v h => by rw [zA_put h]; rfl
theorem aC_26 (cI cZ : ClassId) (ad : Nat → Nat) : ∀ S, (wC cI cZ ad S)[36]? = some (ad 36, .inl (cI, 8, .inl (zA (S.2 26)))) := fun _ => rfl
theorem sC_26 (cI cZ : ClassId) (ad : Nat → Nat) : ∀ S i v, 0 ≤ i → (wC cI cZ ad S).set 36 (ad 36, .inl (cI, 8, .inl (upd (zA (S.2 26)) i.toNat (zI v)))) = wC cI cZ ad (zput S 26 i v) := fun S i v h => by rw [zA_put h]; rfl
theorem aC_27 (cI cZ : ClassId) (ad : Nat → Nat) : ∀ S, (wC cI cZ ad S)[37]? = some (ad 37, .inl (cI, 8, .inl (zA (S.2 27)))) := fun _ => rfl
theorem sC_27 (cI cZ : ClassId) (ad : Nat → Nat) : ∀ S i v, 0 ≤ i → (wC cI cZ ad S).set 37 (ad 37, .inl (cI, 8, .inl (upd (zA (S.2 27)) i.toNat (zI v)))) = wC cI cZ ad (zput S 27 i v) := fun S i v h => by rw [zA_put h]; rfl
