/-! the reference of the claim whole as functions over ghost arrays (numbers 193..204): mathematics alone, no object of this world -/
def gm_lenL : List Nat := [0, 600, 20, 20, 6071, 6071, 48568, 96, 640, 40, 96, 110]
def gm_isI (a : Nat) : Bool := Nat.blt 193 a && Nat.blt a 205
def gm_isA (_ : Nat) : Bool := false
def gm_isF (_ : Nat) : Bool := false
def gm_len (a : Nat) : Nat := gm_lenL.getD (a - 193) 0
def gm_s (a : Nat) : Bool := Nat.blt 207 a && Nat.blt a 215
def g_SLEN (N : Nat) (a0 : Nat) (h : am_Hp) : Option (Int32 × am_Hp) := bif gm_s a0 then some (Int32.ofNat (am_SL a0), h) else none
def g_SCHR (N : Nat) (a0 : Nat) (i1 : Int32) (h : am_Hp) : Option (Int32 × am_Hp) := bif gm_s a0 && am_in i1 (am_SL a0) then some (am_SC a0 i1.toNatClampNeg, h) else none
