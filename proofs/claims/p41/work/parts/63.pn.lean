/-! orders: what they do, on both sides -/
theorem tN0 : (0 : Int).toNat = 0 := rfl
theorem tN1 : (1 : Int).toNat = 1 := rfl
theorem tN2 : (2 : Int).toNat = 2 := rfl
theorem tN3 : (3 : Int).toNat = 3 := rfl
theorem tN4 : (4 : Int).toNat = 4 := rfl
section PN2
variable {G K : GT} {s : Nat → Int32}
theorem dr2_0 (K : GT) (s : Nat → Int32) (o : Nat) (a b c x y : Int) : dr2 K s o a b c (0, x, y) = some (iI (an s o a), upR K 1 (nw s o a b c)) := rfl
theorem dr2_1 (K : GT) (s : Nat → Int32) (o : Nat) (a b c x y : Int) : dr2 K s o a b c (1, x, y) = some (iI 0, th K (iI (pk o 1))) := rfl
theorem dr2_2 (K : GT) (s : Nat → Int32) (o : Nat) (a b c x y : Int) : dr2 K s o a b c (2, x, y) = some (iI 0, th K (iI (pk o 2))) := rfl
theorem dr2_3 (K : GT) (s : Nat → Int32) (o : Nat) (a b c x y : Int) : dr2 K s o a b c (3, x, y) = some (iI 0, rf K (pk o 3) x y) := rfl
/-- a sound set by the reference -/
def ms (K : GT) (s : Nat → Int32) (t h l p : Int) (w : Int × Int × Int) : Option (Int32 × GT) := if w.1 = 0 then some (iI (ns s), upR K 1 (st1 s t h l)) else some (iI 0, rf K p w.2.1 w.2.2)
theorem ms_0 (K : GT) (s : Nat → Int32) (t h l p x y : Int) : ms K s t h l p (0, x, y) = some (iI (ns s), upR K 1 (st1 s t h l)) := rfl
theorem ms_3 (K : GT) (s : Nat → Int32) (t h l p x y : Int) : ms K s t h l p (3, x, y) = some (iI 0, rf K p x y) := rfl
end PN2
