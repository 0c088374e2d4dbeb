section CNINIT
def cn_DX : List cn_E := (cn_orc 4 9 []).getD []
def cn_DT : List cn_E := cn_DX
/-- the whole numbers that the cells hold at the start -/
def cn_hp : am_Hp := fun k j => match cn_DT[k]? with
  | some e => cn_iv (e.2.2.2.getD j (.int 0))
  | none => 0
def cn_lt (v : Value) : Bool := match v with
  | .ref r => Nat.blt r 193
  | _ => true
def cn_same (k : Nat) (e : cn_E) : Bool :=
  bif Nat.beq (am_kd k).1 1 then Nat.beq e.1 1 && Nat.beq e.2.1 (am_kd k).2.1 && Nat.beq e.2.2.2.length (am_nF e.2.1) && (List.range (am_nF e.2.1)).all (fun j => bif am_fi e.2.1 j then cn_int (e.2.2.2.getD j .null) else !cn_int (e.2.2.2.getD j .null) && decide (e.2.2.2.getD j .null = va_rf (am_G k j)) && cn_lt (e.2.2.2.getD j .null))
  else bif Nat.beq (am_kd k).1 3 then Nat.beq e.1 3 && Nat.beq e.2.1 (am_kd k).2.1 && Nat.beq e.2.2.1 (am_kd k).2.2 && decide (am_grL.getD k [] = e.2.2.2.map cn_rv) && e.2.2.2.all cn_lt
  else Nat.beq e.1 2 && Nat.beq e.2.1 (am_kd k).2.1 && Nat.beq e.2.2.1 (am_kd k).2.2
set_option maxRecDepth 1000000 in
theorem cn_facts : ((cn_orc 4 9 []).isSome && Nat.beq cn_DX.length 193 && (List.range 193).all (fun k => match cn_DT[k]? with
    | some e => cn_same k e
    | none => false)) = true := by decide +kernel
set_option maxRecDepth 1000000 in
theorem cn_vals : (decide (cn_hp 15 0 = 4) && decide (cn_hp 19 0 = 6) && decide (cn_hp 4 0 = 4) && decide (cn_hp 8 0 = 6) && decide (cn_hp 15 4 = 0) && decide (cn_hp 19 4 = 0) && decide (cn_hp 24 0 = 0) && decide (cn_hp 25 0 = 10) && decide (cn_hp 25 1 = 0) && decide (cn_hp 26 0 = 0) && decide (cn_hp 26 1 = 0) && decide (cn_hp 26 2 = 0) && decide (cn_hp 26 3 = 0) &&
    decide (cn_hp 39 1 = 0) && decide (cn_hp 39 2 = 0) && decide (cn_hp 1 1 = 0) && decide (cn_hp 0 2 = -1) && decide (cn_hp 0 4 = 0)) = true := by decide +kernel
end CNINIT
