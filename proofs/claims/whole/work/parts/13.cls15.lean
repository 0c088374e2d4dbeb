def f_X9_reasonNotToType (N : Nat) (i1 : Int32) (a2 : Nat) (h : am_Hp) : Option (Option Int32 × am_Hp) :=
  bif am_isO a2 5 then (if (h a2 2) = 0 then
    some (some (1 : Int32), h)
  else
    bif am_isO a2 5 then (if (h a2 2) = (1 : Int32) then
      bif am_isO a2 5 then am_bt (f_X9_deskOf N (h a2 3) h) (fun h1 => some (none, h1)) (fun b2 h1 => bif am_isO b2 0 then (if (h1 b2 1) = (-1 : Int32) then
        some (some (3 : Int32), h1)
      else
        bif am_isO b2 0 then (if (h1 b2 1) = i1 then
          bif am_isO b2 0 then (if (h1 b2 0) < (300 : Int32) then
            some (some (0 : Int32), h1)
          else
            some (some (5 : Int32), h1)) else none
        else
          some (some (4 : Int32), h1)) else none) else none) else none
    else
      some (some (2 : Int32), h)) else none) else none
def c_X9_reasonNotToType (N : Nat) : am_Cl := fun _ as h kk => am_sa as (fun z w0 => bif Nat.beq z 0 then am_s1 w0 (fun i1 w1 => am_sa w1 (fun a2 w2 => am_st0 w2 (am_bt (f_X9_reasonNotToType N i1 a2 h) (fun h => kk none h) (fun v h => kk (am_oi v) h)))) else none)
def o_X9_reasonNotToType (N : Nat) : am_Orc := (am_oc 104 (c_X9_deskOf N) am_o0)
set_option maxRecDepth 100000 in
theorem tok_X9_reasonNotToType : am_tok 117 tX9_reasonNotToType := by
  unfold am_tok
  decide +kernel
set_option maxHeartbeats 4000000 in
set_option maxRecDepth 100000 in
theorem m_X9_reasonNotToType {l : Launch} {al : Nat → Nat} {dC : Nat → ClassId} {dI : Nat → Nat → Nat} {aC : Nat → ClassId} {aV : Nat → Nat} (hy : am_Hy l al) (N : Nat) (i1 : Int32) (a2 : Nat) (h : am_Hp) (r : (Option Int32 × am_Hp)) (hf : f_X9_reasonNotToType N i1 a2 h = some r) : am_Met l al dC dI aC aV 117 [.ref 0, .int i1, .ref a2] h (am_ot am_oi r.1) r.2 :=
  am_met (tab := tX9_reasonNotToType) (orc := o_X9_reasonNotToType N) (ret := am_ti) (g := r) (by decide) (by decide) hy.1 hy.2 tok_X9_reasonNotToType (am_os1 (s_X9_deskOf hy N) am_os0) am_ti_inv (Nat.le_of_ble_eq_true rfl) (fun At cl wk => by
    skip
    exact cl am_C0 am_c0 400 0 _ _ h hf)
theorem s_X9_reasonNotToType {l : Launch} {al : Nat → Nat} {dC : Nat → ClassId} {dI : Nat → Nat → Nat} {aC : Nat → ClassId} {aV : Nat → Nat} (hy : am_Hy l al) (N : Nat) : am_CS l al dC dI aC aV 117 (c_X9_reasonNotToType N) := by
  intro γ as h kk g hc0
  obtain ⟨z0, w0, e_0, hcz0⟩ := am_sa_some hc0
  obtain ⟨hz0, hc1⟩ := am_bif hcz0
  cases Nat.eq_of_beq_eq_true hz0
  obtain ⟨i1, w1, e_1, hc2⟩ := am_s1_some hc1
  obtain ⟨a2, w2, e_2, hc3⟩ := am_sa_some hc2
  obtain ⟨e_3, hc⟩ := am_st0_some hc3
  subst e_3
  subst e_2
  subst e_1
  subst e_0
  rcases am_bt_some hc with ⟨h1, e1, e2⟩ | ⟨v, h1, e1, e2⟩
  · exact ⟨_, _, m_X9_reasonNotToType hy N i1 a2 h _ e1, e2⟩
  · exact ⟨_, _, m_X9_reasonNotToType hy N i1 a2 h _ e1, e2⟩

def f_X9_whyNot (N : Nat) (i1 : Int32) (h : am_Hp) : Option (Option Int32 × am_Hp) :=
  am_bt (f_X9_seatOf N i1 h) (fun h1 => some (none, h1)) (fun b2 h1 => am_bt (f_X9_reasonNotToType N i1 b2 h1) (fun h3 => some (none, h3)) (fun x4 h3 => some (some x4, h3)))
def c_X9_whyNot (N : Nat) : am_Cl := fun _ as h kk => am_sa as (fun z w0 => bif Nat.beq z 0 then am_s1 w0 (fun i1 w1 => am_st0 w1 (am_bt (f_X9_whyNot N i1 h) (fun h => kk none h) (fun v h => kk (am_oi v) h))) else none)
def o_X9_whyNot (N : Nat) : am_Orc := (am_oc 106 (c_X9_seatOf N) (am_oc 117 (c_X9_reasonNotToType N) am_o0))
set_option maxRecDepth 100000 in
theorem tok_X9_whyNot : am_tok 79 tX9_whyNot := by
  unfold am_tok
  decide +kernel
set_option maxHeartbeats 4000000 in
set_option maxRecDepth 100000 in
theorem m_X9_whyNot {l : Launch} {al : Nat → Nat} {dC : Nat → ClassId} {dI : Nat → Nat → Nat} {aC : Nat → ClassId} {aV : Nat → Nat} (hy : am_Hy l al) (N : Nat) (i1 : Int32) (h : am_Hp) (r : (Option Int32 × am_Hp)) (hf : f_X9_whyNot N i1 h = some r) : am_Met l al dC dI aC aV 79 [.ref 0, .int i1] h (am_ot am_oi r.1) r.2 :=
  am_met (tab := tX9_whyNot) (orc := o_X9_whyNot N) (ret := am_ti) (g := r) (by decide) (by decide) hy.1 hy.2 tok_X9_whyNot (am_os1 (s_X9_seatOf hy N) (am_os1 (s_X9_reasonNotToType hy N) am_os0)) am_ti_inv (Nat.le_of_ble_eq_true rfl) (fun At cl wk => by
    skip
    exact cl am_C0 am_c0 400 0 _ _ h hf)
theorem s_X9_whyNot {l : Launch} {al : Nat → Nat} {dC : Nat → ClassId} {dI : Nat → Nat → Nat} {aC : Nat → ClassId} {aV : Nat → Nat} (hy : am_Hy l al) (N : Nat) : am_CS l al dC dI aC aV 79 (c_X9_whyNot N) := by
  intro γ as h kk g hc0
  obtain ⟨z0, w0, e_0, hcz0⟩ := am_sa_some hc0
  obtain ⟨hz0, hc1⟩ := am_bif hcz0
  cases Nat.eq_of_beq_eq_true hz0
  obtain ⟨i1, w1, e_1, hc2⟩ := am_s1_some hc1
  obtain ⟨e_2, hc⟩ := am_st0_some hc2
  subst e_2
  subst e_1
  subst e_0
  rcases am_bt_some hc with ⟨h1, e1, e2⟩ | ⟨v, h1, e1, e2⟩
  · exact ⟨_, _, m_X9_whyNot hy N i1 h _ e1, e2⟩
  · exact ⟨_, _, m_X9_whyNot hy N i1 h _ e1, e2⟩

def f_X9_grantedAt (N : Nat) (i1 : Int32) (h : am_Hp) : Option (Option Int32 × am_Hp) :=
  am_bt (f_X9_deskOf N i1 h) (fun h1 => some (none, h1)) (fun b2 h1 => bif am_isO b2 0 then (if (h1 b2 2) = (-1 : Int32) then
    some (some (-1 : Int32), h1)
  else
    bif am_isO b2 0 then bif am_in (0 : Int32) 2 then some (some (if ((h1 b2 3) + (h1 25 0)) < ((h1 24 0) + (1 : Int32)) then (h1 24 0) + (1 : Int32) else (h1 b2 3) + (h1 25 0)), h1) else none else none) else none)
def c_X9_grantedAt (N : Nat) : am_Cl := fun _ as h kk => am_sa as (fun z w0 => bif Nat.beq z 0 then am_s1 w0 (fun i1 w1 => am_st0 w1 (am_bt (f_X9_grantedAt N i1 h) (fun h => kk none h) (fun v h => kk (am_oi v) h))) else none)
def o_X9_grantedAt (N : Nat) : am_Orc := (am_oc 104 (c_X9_deskOf N) am_o0)
set_option maxRecDepth 100000 in
theorem tok_X9_grantedAt : am_tok 80 tX9_grantedAt := by
  unfold am_tok
  decide +kernel
set_option maxHeartbeats 4000000 in
set_option maxRecDepth 100000 in
theorem m_X9_grantedAt {l : Launch} {al : Nat → Nat} {dC : Nat → ClassId} {dI : Nat → Nat → Nat} {aC : Nat → ClassId} {aV : Nat → Nat} (hy : am_Hy l al) (N : Nat) (i1 : Int32) (h : am_Hp) (r : (Option Int32 × am_Hp)) (hf : f_X9_grantedAt N i1 h = some r) : am_Met l al dC dI aC aV 80 [.ref 0, .int i1] h (am_ot am_oi r.1) r.2 :=
  am_met (tab := tX9_grantedAt) (orc := o_X9_grantedAt N) (ret := am_ti) (g := r) (by decide) (by decide) hy.1 hy.2 tok_X9_grantedAt (am_os1 (s_X9_deskOf hy N) am_os0) am_ti_inv (Nat.le_of_ble_eq_true rfl) (fun At cl wk => by
    skip
    exact cl am_C0 am_c0 400 0 _ _ h hf)
theorem s_X9_grantedAt {l : Launch} {al : Nat → Nat} {dC : Nat → ClassId} {dI : Nat → Nat → Nat} {aC : Nat → ClassId} {aV : Nat → Nat} (hy : am_Hy l al) (N : Nat) : am_CS l al dC dI aC aV 80 (c_X9_grantedAt N) := by
  intro γ as h kk g hc0
  obtain ⟨z0, w0, e_0, hcz0⟩ := am_sa_some hc0
  obtain ⟨hz0, hc1⟩ := am_bif hcz0
  cases Nat.eq_of_beq_eq_true hz0
  obtain ⟨i1, w1, e_1, hc2⟩ := am_s1_some hc1
  obtain ⟨e_2, hc⟩ := am_st0_some hc2
  subst e_2
  subst e_1
  subst e_0
  rcases am_bt_some hc with ⟨h1, e1, e2⟩ | ⟨v, h1, e1, e2⟩
  · exact ⟨_, _, m_X9_grantedAt hy N i1 h _ e1, e2⟩
  · exact ⟨_, _, m_X9_grantedAt hy N i1 h _ e1, e2⟩

def f_X9_reachedAt (N : Nat) (i1 : Int32) (i2 : Int32) (h : am_Hp) : Option (Option Int32 × am_Hp) :=
  am_bt (f_X9_seatOf N i1 h) (fun h1 => some (none, h1)) (fun b2 h1 => bif am_isO b2 5 then (if (h1 b2 2) = (3 : Int32) then
    bif am_isO b2 5 then (if i2 < (h1 b2 4) then
      some (some (-1 : Int32), h1)
    else
      bif am_isO b2 5 then am_bt (f_X9_deskOf N (h1 b2 3) h1) (fun h3 => some (none, h3)) (fun b4 h3 => bif am_isO b4 0 then (if i2 ≤ (h3 b4 0) then
        bif am_isO b2 5 then (if i2 = (h3 b2 4) then
          bif am_isO b2 5 then some (some (h3 b2 5), h3) else none
        else
          bif am_isO b2 5 then (if 0 < (h3 b2 6) then
            bif am_isO b2 5 then am_bt (f_X9_recordingOf N (h3 b2 3) h3) (fun h5 => some (none, h5)) (fun b6 h5 => bif am_isO b2 5 then bif am_isO b6 3 then am_bi (f_X3_timeBetween N b6 (h5 b2 4) (i2 - (1 : Int32)) h5) (fun x8 h7 =>
            bif am_isO b2 5 then bif am_isO b2 5 then bif am_isO b2 5 then if (h7 b2 6) = 0 then none else some (some ((h7 b2 5) + ((((x8 * (100 : Int32)) + (h7 b2 6)) - (1 : Int32)) / (h7 b2 6))), h7) else none else none else none) else none else none) else none
          else
            bif am_isO b2 5 then some (some (h3 b2 5), h3) else none) else none) else none
      else
        some (some (-1 : Int32), h3)) else none) else none) else none
  else
    some (some (-1 : Int32), h1)) else none)
def c_X9_reachedAt (N : Nat) : am_Cl := fun _ as h kk => am_sa as (fun z w0 => bif Nat.beq z 0 then am_s1 w0 (fun i1 w1 => am_s1 w1 (fun i2 w2 => am_st0 w2 (am_bt (f_X9_reachedAt N i1 i2 h) (fun h => kk none h) (fun v h => kk (am_oi v) h)))) else none)
def o_X9_reachedAt (N : Nat) : am_Orc := (am_oc 106 (c_X9_seatOf N) (am_oc 104 (c_X9_deskOf N) (am_oc 105 (c_X9_recordingOf N) (am_oc 20 (c_X3_timeBetween N) am_o0))))
set_option maxRecDepth 100000 in
theorem tok_X9_reachedAt : am_tok 81 tX9_reachedAt := by
  unfold am_tok
  decide +kernel
set_option maxHeartbeats 4000000 in
set_option maxRecDepth 100000 in
theorem m_X9_reachedAt {l : Launch} {al : Nat → Nat} {dC : Nat → ClassId} {dI : Nat → Nat → Nat} {aC : Nat → ClassId} {aV : Nat → Nat} (hy : am_Hy l al) (N : Nat) (i1 : Int32) (i2 : Int32) (h : am_Hp) (r : (Option Int32 × am_Hp)) (hf : f_X9_reachedAt N i1 i2 h = some r) : am_Met l al dC dI aC aV 81 [.ref 0, .int i1, .int i2] h (am_ot am_oi r.1) r.2 :=
  am_met (tab := tX9_reachedAt) (orc := o_X9_reachedAt N) (ret := am_ti) (g := r) (by decide) (by decide) hy.1 hy.2 tok_X9_reachedAt (am_os1 (s_X9_seatOf hy N) (am_os1 (s_X9_deskOf hy N) (am_os1 (s_X9_recordingOf hy N) (am_os1 (s_X3_timeBetween hy N) am_os0)))) am_ti_inv (Nat.le_of_ble_eq_true rfl) (fun At cl wk => by
    skip
    exact cl am_C0 am_c0 400 0 _ _ h hf)
theorem s_X9_reachedAt {l : Launch} {al : Nat → Nat} {dC : Nat → ClassId} {dI : Nat → Nat → Nat} {aC : Nat → ClassId} {aV : Nat → Nat} (hy : am_Hy l al) (N : Nat) : am_CS l al dC dI aC aV 81 (c_X9_reachedAt N) := by
  intro γ as h kk g hc0
  obtain ⟨z0, w0, e_0, hcz0⟩ := am_sa_some hc0
  obtain ⟨hz0, hc1⟩ := am_bif hcz0
  cases Nat.eq_of_beq_eq_true hz0
  obtain ⟨i1, w1, e_1, hc2⟩ := am_s1_some hc1
  obtain ⟨i2, w2, e_2, hc3⟩ := am_s1_some hc2
  obtain ⟨e_3, hc⟩ := am_st0_some hc3
  subst e_3
  subst e_2
  subst e_1
  subst e_0
  rcases am_bt_some hc with ⟨h1, e1, e2⟩ | ⟨v, h1, e1, e2⟩
  · exact ⟨_, _, m_X9_reachedAt hy N i1 i2 h _ e1, e2⟩
  · exact ⟨_, _, m_X9_reachedAt hy N i1 i2 h _ e1, e2⟩

def f_X9_behind (N : Nat) (i1 : Int32) (h : am_Hp) : Option (Option Int32 × am_Hp) :=
  am_bt (f_X9_seatOf N i1 h) (fun h1 => some (none, h1)) (fun b2 h1 => bif am_isO b2 5 then (if (h1 b2 2) = 0 then
    some (some (0 : Int32), h1)
  else
    bif am_isO b2 5 then am_bt (f_X9_deskOf N (h1 b2 3) h1) (fun h3 => some (none, h3)) (fun b4 h3 => bif am_isO b4 0 then am_bt (f_X9_positionOf N b2 h3) (fun h5 => some (none, h5)) (fun x6 h5 => some (some ((h3 b4 0) - x6), h5)) else none) else none) else none)
def c_X9_behind (N : Nat) : am_Cl := fun _ as h kk => am_sa as (fun z w0 => bif Nat.beq z 0 then am_s1 w0 (fun i1 w1 => am_st0 w1 (am_bt (f_X9_behind N i1 h) (fun h => kk none h) (fun v h => kk (am_oi v) h))) else none)
def o_X9_behind (N : Nat) : am_Orc := (am_oc 106 (c_X9_seatOf N) (am_oc 104 (c_X9_deskOf N) (am_oc 111 (c_X9_positionOf N) am_o0)))
set_option maxRecDepth 100000 in
theorem tok_X9_behind : am_tok 82 tX9_behind := by
  unfold am_tok
  decide +kernel
set_option maxHeartbeats 4000000 in
set_option maxRecDepth 100000 in
theorem m_X9_behind {l : Launch} {al : Nat → Nat} {dC : Nat → ClassId} {dI : Nat → Nat → Nat} {aC : Nat → ClassId} {aV : Nat → Nat} (hy : am_Hy l al) (N : Nat) (i1 : Int32) (h : am_Hp) (r : (Option Int32 × am_Hp)) (hf : f_X9_behind N i1 h = some r) : am_Met l al dC dI aC aV 82 [.ref 0, .int i1] h (am_ot am_oi r.1) r.2 :=
  am_met (tab := tX9_behind) (orc := o_X9_behind N) (ret := am_ti) (g := r) (by decide) (by decide) hy.1 hy.2 tok_X9_behind (am_os1 (s_X9_seatOf hy N) (am_os1 (s_X9_deskOf hy N) (am_os1 (s_X9_positionOf hy N) am_os0))) am_ti_inv (Nat.le_of_ble_eq_true rfl) (fun At cl wk => by
    skip
    exact cl am_C0 am_c0 400 0 _ _ h hf)
theorem s_X9_behind {l : Launch} {al : Nat → Nat} {dC : Nat → ClassId} {dI : Nat → Nat → Nat} {aC : Nat → ClassId} {aV : Nat → Nat} (hy : am_Hy l al) (N : Nat) : am_CS l al dC dI aC aV 82 (c_X9_behind N) := by
  intro γ as h kk g hc0
  obtain ⟨z0, w0, e_0, hcz0⟩ := am_sa_some hc0
  obtain ⟨hz0, hc1⟩ := am_bif hcz0
  cases Nat.eq_of_beq_eq_true hz0
  obtain ⟨i1, w1, e_1, hc2⟩ := am_s1_some hc1
  obtain ⟨e_2, hc⟩ := am_st0_some hc2
  subst e_2
  subst e_1
  subst e_0
  rcases am_bt_some hc with ⟨h1, e1, e2⟩ | ⟨v, h1, e1, e2⟩
  · exact ⟨_, _, m_X9_behind hy N i1 h _ e1, e2⟩
  · exact ⟨_, _, m_X9_behind hy N i1 h _ e1, e2⟩
