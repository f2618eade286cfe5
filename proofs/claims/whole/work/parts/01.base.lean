abbrev Mem : Type := Nat → Nat → Int32
def mput (σ : Mem) (c k : Nat) (x : Int32) : Mem := fun a b => if a = c then (if b = k then x else σ a b) else σ a b
theorem mput_eq {σ : Mem} {c k : Nat} {x : Int32} : mput σ c k x c k = x := by
  unfold mput
  rw [if_pos rfl, if_pos rfl]
theorem mput_ne {σ : Mem} {c k a b : Nat} {x : Int32} (h : ¬ (a = c ∧ b = k)) : mput σ c k x a b = σ a b := by
  unfold mput
  by_cases h1 : a = c
  · rw [if_pos h1, if_neg (fun h2 => h ⟨h1, h2⟩)]
  · rw [if_neg h1]
def pmIn (i : Int32) (n : Nat) : Bool := !(decide (i < 0)) && Nat.blt i.toNatClampNeg n
abbrev ix (x : Int32) : Nat := x.toNatClampNeg
abbrev isNe (c : Nat) : Prop := c = 2 ∨ c = 6
abbrev isSe (c : Nat) : Prop := c = 17 ∨ c = 64
def isPoB (c : Nat) : Bool := (Nat.ble 19 c && Nat.blt c 64 && (c - 19) % 5 == 0) || (Nat.ble 66 c && Nat.blt c 111 && (c - 66) % 5 == 0)
abbrev isPo (c : Nat) : Prop := isPoB c = true
def FU : Nat := 2100
def usr (x y : Int32) : Int32 := (x.toUInt32 >>> (y.toUInt32 &&& Int32.toUInt32 31)).toInt32
def bc1 (i : Int32) : Int32 := i - ((usr i 1) &&& 1431655765)
def bc2 (i : Int32) : Int32 := (i &&& 858993459) + ((usr i 2) &&& 858993459)
def bc3 (i : Int32) : Int32 := (i + (usr i 4)) &&& 252645135
def bc4 (i : Int32) : Int32 := i + (usr i 8)
def bc5 (i : Int32) : Int32 := i + (usr i 16)
def bitc (i : Int32) : Int32 := bc5 (bc4 (bc3 (bc2 (bc1 i)))) &&& 63
