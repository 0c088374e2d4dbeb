def f_J9_floorMod_7cf53 (N : Nat) (i0 : Int32) (i1 : Int32) (h : am_Hp) : Option (Int32 × am_Hp) :=
  if i1 = 0 then none else (if 0 ≤ (i0 ^^^ i1) then
    some (i0 - i0 / i1 * i1, h)
  else
    (if (i0 - i0 / i1 * i1) = 0 then
      some (i0 - i0 / i1 * i1, h)
    else
      some ((i0 - i0 / i1 * i1) + i1, h)))
def c_J9_floorMod_7cf53 (N : Nat) : am_Cl := fun _ as h kk => am_s1 as (fun i0 w0 => am_s1 w0 (fun i1 w1 => am_st0 w1 (am_bi (f_J9_floorMod_7cf53 N i0 i1 h) (fun v h => kk (am_oi v) h))))
def o_J9_floorMod_7cf53 (N : Nat) : am_Orc := am_o0
set_option maxRecDepth 100000 in
theorem tok_J9_floorMod_7cf53 : am_tok 2 tJ9_floorMod_7cf53 := by
  unfold am_tok
  decide +kernel
theorem s_J9_floorMod_7cf53 {l : Launch} {al : Nat → Nat} {dC : Nat → ClassId} {dI : Nat → Nat → Nat} {aC : Nat → ClassId} {aV : Nat → Nat} (hy : am_Hy l al) (N : Nat) : am_CS l al dC dI aC aV 2 (c_J9_floorMod_7cf53 N) := sorry
def f_SLEN (N : Nat) (a0 : Nat) (h : am_Hp) : Option (Int32 × am_Hp) := bif Nat.beq (am_kd a0).1 6 then some (Int32.ofNat (am_SL a0), h) else none
def c_SLEN (N : Nat) : am_Cl := fun _ as h kk => am_sa as (fun a0 w0 => am_st0 w0 (am_bi (f_SLEN N a0 h) (fun v h => kk (am_oi v) h)))
theorem s_SLEN {l : Launch} {al : Nat → Nat} {dC : Nat → ClassId} {dI : Nat → Nat → Nat} {aC : Nat → ClassId} {aV : Nat → Nat} (hy : am_Hy l al) (N : Nat) : am_CS l al dC dI aC aV 3 (c_SLEN N) := sorry
def am_SC (a i : Nat) : Int32 := (am_sbyt.getD (a - am_s0) []).getD i 0
def f_SCHR (N : Nat) (a0 : Nat) (i1 : Int32) (h : am_Hp) : Option (Int32 × am_Hp) := bif Nat.beq (am_kd a0).1 6 && am_in i1 (am_SL a0) then some (am_SC a0 i1.toNatClampNeg, h) else none
def c_SCHR (N : Nat) : am_Cl := fun _ as h kk => am_sa as (fun a0 w0 => am_s1 w0 (fun i1 w1 => am_st0 w1 (am_bi (f_SCHR N a0 i1 h) (fun v h => kk (am_oi v) h))))
theorem s_SCHR {l : Launch} {al : Nat → Nat} {dC : Nat → ClassId} {dI : Nat → Nat → Nat} {aC : Nat → ClassId} {aV : Nat → Nat} (hy : am_Hy l al) (N : Nat) : am_CS l al dC dI aC aV 4 (c_SCHR N) := sorry
