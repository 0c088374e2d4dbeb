section TM7
variable {γ : Type} {g : γ}
theorem tm_OS_M {l : Launch} {al : Nat → Nat} {dC : Nat → ClassId} {dI : Nat → Nat → Nat} {aC : Nat → ClassId} {aV : Nat → Nat} {x0 x1 : Nat} {X : tm_X} {oD : dm_Orc} (h : tm_OS l al dC dI aC aV x0 x1 X oD) : dm_OM oD := by
  intro γ mid as S k g e
  obtain ⟨v, S', hM, hk⟩ := h γ mid as S k g e
  exact ⟨v, S', fun h0 => ⟨(hM h0).1, (hM h0).2.1⟩, hk⟩
theorem tm_mo_nw {SO S : dm_S} {kd : Nat × Nat × Nat} {f : Nat → Int32} {z : Nat} (h : dm_mo SO (dm_nw S kd f z)) : dm_mo SO S :=
  dm_mo_up h (show dm_n S ≤ dm_n S + 1 from Nat.le_succ _) (show dm_zz S ≤ dm_zz S + z from Nat.le_add_right _ _)
theorem tm_mo_key {SO S : dm_S} {cd : ClassFile.Cond} {x y : Int32} {a b : Option γ} (ha : a = some g → dm_mo SO S) (hb : b = some g → dm_mo SO S) (h : am_cmp cd x y a b = some g) : dm_mo SO S := by
  unfold am_cmp at h
  split at h <;> split at h <;> first | exact ha h | exact hb h
set_option maxHeartbeats 4000000 in
theorem tm_op_mono {l : Launch} {al : Nat → Nat} {dC : Nat → ClassId} {dI : Nat → Nat → Nat} {aC : Nat → ClassId} {aV : Nat → Nat} {X : tm_X} {me : Nat} {vO : Option Value} {SO : dm_S} {pc len : Nat} {ins : Instr} {ρ : am_Lc} {st : List Value} {S : dm_S} {oC : am_Orc} {oD : dm_Orc} {ret : Option Value → dm_S → Option γ} {k : Nat → am_Lc → List Value → dm_S → Option γ}
    (hoC : am_OS l al dC dI aC aV oC) (hoD : dm_OM oD) (hret : ∀ v S', ret v S' = some g → v = vO ∧ S' = SO) (hk : ∀ pc' ρ' st' S', k pc' ρ' st' S' = some g → dm_mo SO S') (hr : tm_op X me pc ins len ρ st S oC oD ret k = some g) : dm_mo SO S := by
  have hend : ∀ v S', ret v S' = some g → dm_mo SO S' := fun v S' h _ => by
    obtain ⟨-, e⟩ := hret v S' h
    rw [e]
    exact ⟨Nat.le_refl _, Nat.le_refl _⟩
  have same : ∀ {pc' ρ' st'} {S' : dm_S}, k pc' ρ' st' S' = some g → dm_n S' = dm_n S → dm_zz S' = dm_zz S → dm_mo SO S := fun z e1 e2 => dm_mo_up (hk _ _ _ _ z) (by rw [e1]; exact Nat.le_refl _) (by rw [e2]; exact Nat.le_refl _)
  have hinv : ∀ sv ix, tm_inv me sv pc ix ρ st S oC oD k = some g → dm_mo SO S := by
    intro sv ix h
    unfold tm_inv at h
    split at h
    · cases h
    · rename_i kd mid hz
      rcases tm_ifR h with ⟨-, h⟩ | ⟨-, h⟩
      · obtain ⟨-, h2⟩ := am_bif h
        obtain ⟨o, h', h3⟩ := dm_OC_x hoC h2
        cases o with
        | none => cases h3
        | some v =>
          obtain ⟨-, h5⟩ := am_bif h3
          exact same h5 rfl rfl
      rcases tm_ifR h with ⟨-, h⟩ | ⟨-, h⟩
      · obtain ⟨-, h2⟩ := am_bif h
        obtain ⟨a, r, -, h3⟩ := am_sa_some h2
        exact hk _ _ _ _ (am_bif h3).2
      rcases tm_ifR h with ⟨-, h⟩ | ⟨-, h⟩
      · obtain ⟨-, h2⟩ := am_bif h
        obtain ⟨n, dp, a, sp, b, r, -, h3⟩ := tm_ac_some h2
        rcases tm_ifR (am_bif (dm_if0 (dm_if0 (dm_if0 h3).2).2).2).2 with ⟨-, h4⟩ | ⟨-, h4⟩
        · exact same (am_bif h4).2 rfl rfl
        · exact same (am_bif h4).2 rfl rfl
      rcases tm_ifR h with ⟨-, h⟩ | ⟨-, h⟩
      · obtain ⟨-, h2⟩ := am_bif h
        obtain ⟨a, r, -, h3⟩ := am_sa_some h2
        exact tm_mo_nw (hk _ _ _ _ (am_bif h3).2)
      obtain ⟨-, h2⟩ := am_bif h
      obtain ⟨v, S', h3, h5⟩ := hoD _ _ _ _ _ _ h2
      intro h1000
      obtain ⟨a, b⟩ := h3 h1000
      exact dm_mo_up (hk _ _ _ _ h5) a b h1000
  cases ins
  case iload_n i =>
    obtain ⟨x, hm, h1⟩ := am_ldi_some hr
    exact hk _ _ _ _ h1
  case iload i =>
    obtain ⟨x, hm, h1⟩ := am_ldi_some hr
    exact hk _ _ _ _ h1
  case aload_n i =>
    obtain ⟨x, hm, h1⟩ := am_lda_some hr
    exact hk _ _ _ _ h1
  case aload i =>
    obtain ⟨x, hm, h1⟩ := am_lda_some hr
    exact hk _ _ _ _ h1
  case istore_n i =>
    obtain ⟨x, r, -, h1⟩ := am_s1_some hr
    exact hk _ _ _ _ (am_bif h1).2
  case istore i =>
    obtain ⟨x, r, -, h1⟩ := am_s1_some hr
    exact hk _ _ _ _ (am_bif h1).2
  case astore_n i =>
    obtain ⟨x, r, -, h1⟩ := am_sa_some hr
    exact hk _ _ _ _ (am_bif h1).2
  case astore i =>
    obtain ⟨x, r, -, h1⟩ := am_sa_some hr
    exact hk _ _ _ _ (am_bif h1).2
  case iinc i n =>
    obtain ⟨x, hm, h1⟩ := am_ldi_some hr
    exact hk _ _ _ _ (am_bif h1).2
  case iconst n =>
    exact hk _ _ _ _ hr
  case bipush n =>
    exact hk _ _ _ _ hr
  case sipush n =>
    exact hk _ _ _ _ hr
  case aconst_null =>
    exact hk _ _ _ _ hr
  case ldc ix =>
    have hr : (match tm_ck me ix with
      | some (.inl v) => k (pc + len) ρ (.int v :: st) S
      | some (.inr r) => k (pc + len) ρ (.ref r :: st) S
      | none => none) = some g := hr
    split at hr
    · exact hk _ _ _ _ hr
    · exact hk _ _ _ _ hr
    · cases hr
  case iadd =>
    obtain ⟨x, y, r, -, h1⟩ := am_s2_some hr
    exact hk _ _ _ _ h1
  case isub =>
    obtain ⟨x, y, r, -, h1⟩ := am_s2_some hr
    exact hk _ _ _ _ h1
  case imul =>
    obtain ⟨x, y, r, -, h1⟩ := am_s2_some hr
    exact hk _ _ _ _ h1
  case iand =>
    obtain ⟨x, y, r, -, h1⟩ := am_s2_some hr
    exact hk _ _ _ _ h1
  case ior =>
    obtain ⟨x, y, r, -, h1⟩ := am_s2_some hr
    exact hk _ _ _ _ h1
  case ishl =>
    obtain ⟨x, y, r, -, h1⟩ := am_s2_some hr
    exact hk _ _ _ _ h1
  case ishr =>
    obtain ⟨x, y, r, -, h1⟩ := am_s2_some hr
    exact hk _ _ _ _ h1
  case idiv =>
    obtain ⟨x, y, r, -, h1⟩ := am_s2_some hr
    exact hk _ _ _ _ (dm_if0 h1).2
  case irem =>
    obtain ⟨x, y, r, -, h1⟩ := am_s2_some hr
    exact hk _ _ _ _ (dm_if0 h1).2
  case ineg =>
    obtain ⟨x, r, -, h1⟩ := am_s1_some hr
    exact hk _ _ _ _ h1
  case i2b =>
    obtain ⟨x, r, -, h1⟩ := am_s1_some hr
    exact hk _ _ _ _ h1
  case i2c =>
    obtain ⟨x, r, -, h1⟩ := am_s1_some hr
    exact hk _ _ _ _ h1
  case dup =>
    have hr : am_d1 st (fun v r => k (pc + len) ρ (v :: v :: r) S) = some g := hr
    obtain ⟨v, r, -, -, h1⟩ := am_d1_some hr
    exact hk _ _ _ _ h1
  case dup2 =>
    have hr : am_d2 st (fun v w r => k (pc + len) ρ (v :: w :: v :: w :: r) S) = some g := hr
    obtain ⟨v, w, r, -, -, -, h1⟩ := am_d2_some hr
    exact hk _ _ _ _ h1
  case dup_x1 =>
    have hr : tm_x1 st (fun v u r => k (pc + len) ρ (v :: u :: v :: r) S) = some g := hr
    obtain ⟨v, u, r, -, -, -, h1⟩ := tm_x1_some hr
    exact hk _ _ _ _ h1
  case pop =>
    have hr : am_d1 st (fun _ r => k (pc + len) ρ r S) = some g := hr
    obtain ⟨v, r, -, -, h1⟩ := am_d1_some hr
    exact hk _ _ _ _ h1
  case goto off =>
    obtain ⟨t, -, h1⟩ := am_to_some hr
    exact hk _ _ _ _ h1
  case if_icmp cd off =>
    obtain ⟨x, y, r, -, h1⟩ := am_s2_some hr
    obtain ⟨t, -, h2⟩ := am_to_some h1
    exact tm_mo_key (hk _ _ _ _) (hk _ _ _ _) h2
  case ifCond cd off =>
    obtain ⟨x, r, -, h1⟩ := am_s1_some hr
    obtain ⟨t, -, h2⟩ := am_to_some h1
    exact tm_mo_key (hk _ _ _ _) (hk _ _ _ _) h2
  case ifnonnull off =>
    obtain ⟨x, r, -, h1⟩ := am_sa_some hr
    obtain ⟨t, -, h2⟩ := am_to_some h1
    exact hk _ _ _ _ h2
  case getstatic ix =>
    have hr : (match tm_sk me ix with
      | none => none
      | some j => bif Nat.beq j 1 then k (pc + len) ρ (.int 1 :: st) S else k (pc + len) ρ (.ref j :: st) S) = some g := hr
    split at hr
    · cases hr
    · rcases tm_ifR hr with ⟨-, h1⟩ | ⟨-, h1⟩
      · exact hk _ _ _ _ h1
      · exact hk _ _ _ _ h1
  case getfield ix =>
    have hr : (match tm_fk me ix with
      | none => none
      | some (ci, j) => am_sa st (fun a r => bif tm_cs a then (bif Nat.beq ci 11 then (bif Nat.beq j 0 then k (pc + len) ρ (.ref (a + 20) :: r) S else bif Nat.beq j 1 then k (pc + len) ρ (.int 0 :: r) S else none) else none)
        else bif dm_ok S (ci - 6) a then (bif Nat.beq j 0 then (if dm_g S a j < 0 then none else k (pc + len) ρ (.ref (dm_g S a j).toNatClampNeg :: r) S) else k (pc + len) ρ (.int (dm_g S a j) :: r) S) else none)) = some g := hr
    split at hr
    · cases hr
    · obtain ⟨a, r, -, h1⟩ := am_sa_some hr
      rcases tm_ifR h1 with ⟨-, h2⟩ | ⟨-, h2⟩
      · rcases tm_ifR (am_bif h2).2 with ⟨-, h3⟩ | ⟨-, h3⟩
        · exact hk _ _ _ _ h3
        · exact hk _ _ _ _ (am_bif h3).2
      · rcases tm_ifR (am_bif h2).2 with ⟨-, h3⟩ | ⟨-, h3⟩
        · exact hk _ _ _ _ (dm_if0 h3).2
        · exact hk _ _ _ _ h3
  case putfield ix =>
    have hr : (match tm_fk me ix with
      | none => none
      | some (ci, j) => bif Nat.beq ci 12 || Nat.beq me 35 then (bif Nat.beq j 0 then dm_saa st (fun a x r => bif dm_ok S (ci - 6) a && dm_ok S 4 x && Nat.blt x dm_bg then k (pc + len) ρ r (dm_wr S a j (am_z (x : Int))) else none)
        else am_s1 st (fun x r => am_sa r (fun a r => bif dm_ok S (ci - 6) a && (bif Nat.beq j 1 then decide (x = 0) else true) then k (pc + len) ρ r (dm_wr S a j x) else none))) else none) = some g := hr
    split at hr
    · cases hr
    · obtain ⟨-, h1⟩ := am_bif hr
      rcases tm_ifR h1 with ⟨-, h2⟩ | ⟨-, h2⟩
      · obtain ⟨a, x, r, -, h3⟩ := dm_saa_some h2
        exact same (am_bif h3).2 rfl rfl
      · obtain ⟨x, r0, -, h3⟩ := am_s1_some h2
        obtain ⟨a, r, -, h4⟩ := am_sa_some h3
        exact same (am_bif h4).2 rfl rfl
  case iaload =>
    obtain ⟨a, x, r, -, h1⟩ := am_sia_some hr
    rcases tm_ifR h1 with ⟨-, h2⟩ | ⟨-, h2⟩
    · exact hk _ _ _ _ (am_bif h2).2
    · exact hk _ _ _ _ (am_bif h2).2
  case iastore =>
    obtain ⟨a, i, x, r, -, h1⟩ := am_siia_some hr
    exact same (am_bif h1).2 rfl rfl
  case baload =>
    obtain ⟨a, x, r, -, h1⟩ := am_sia_some hr
    rcases tm_ifR h1 with ⟨-, h2⟩ | ⟨-, h2⟩
    · exact hk _ _ _ _ (am_bif h2).2
    · exact hk _ _ _ _ (am_bif h2).2
  case bastore =>
    obtain ⟨a, i, x, r, -, h1⟩ := am_siia_some hr
    exact same (am_bif h1).2 rfl rfl
  case arraylength =>
    obtain ⟨a, r, -, h1⟩ := am_sa_some hr
    rcases tm_ifR h1 with ⟨-, h2⟩ | ⟨-, h2⟩
    · exact hk _ _ _ _ h2
    · rcases tm_ifR h2 with ⟨-, h3⟩ | ⟨-, h3⟩
      · exact hk _ _ _ _ h3
      · exact hk _ _ _ _ (am_bif h3).2
  case newarray t =>
    cases t
    case int =>
      obtain ⟨x, r, -, h1⟩ := am_s1_some hr
      exact tm_mo_nw (hk _ _ _ _ (am_bif (dm_if0 h1).2).2)
    case byte =>
      obtain ⟨x, r, -, h1⟩ := am_s1_some hr
      exact tm_mo_nw (hk _ _ _ _ (am_bif (dm_if0 h1).2).2)
    all_goals exact absurd (show (none : Option γ) = some g from hr) (by simp)
  case new ix =>
    have hr : (match tm_nk me ix with
      | none => none
      | some ci => bif Nat.blt (dm_n S + 2000) dm_bg then k (pc + len) ρ (.ref (dm_n S) :: st) (dm_nw S (ci - 6, ci, 4) (fun j => if j = 0 then am_z (-1) else 0) 4) else none) = some g := hr
    split at hr
    · cases hr
    · exact tm_mo_nw (hk _ _ _ _ (am_bif hr).2)
  case checkcast ix =>
    obtain ⟨a, r, -, h1⟩ := am_sa_some hr
    exact hk _ _ _ _ (am_bif h1).2
  case invokevirtual ix => exact hinv 0 ix hr
  case invokestatic ix => exact hinv 1 ix hr
  case invokespecial ix => exact hinv 2 ix hr
  case ireturn =>
    obtain ⟨x, r, -, h1⟩ := am_s1_some hr
    exact hend _ _ (am_bif h1).2
  case areturn =>
    obtain ⟨x, r, -, h1⟩ := am_sa_some hr
    exact hend _ _ (am_bif h1).2
  case return_ =>
    exact hend _ _ (am_bif hr).2
  all_goals exact absurd (show (none : Option γ) = some g from hr) (by simp)
theorem tm_sem_mono {l : Launch} {al : Nat → Nat} {dC : Nat → ClassId} {dI : Nat → Nat → Nat} {aC : Nat → ClassId} {aV : Nat → Nat} {X : tm_X} {me : Nat} {vO : Option Value} {SO : dm_S} {tab : List (Nat × Instr × Nat)} {cut : tm_Cut γ} {oC : am_Orc} {oD : dm_Orc} {ret : Option Value → dm_S → Option γ}
    (hoC : am_OS l al dC dI aC aV oC) (hoD : dm_OM oD) (hret : ∀ v S', ret v S' = some g → v = vO ∧ S' = SO) (hcut : ∀ pc cc, cut pc = some cc → ∀ ρ st S, cc ρ st S = some g → dm_mo SO S) :
    ∀ (f pc : Nat) (ρ : am_Lc) (st : List Value) (S : dm_S), tm_sem X me tab cut oC oD ret f pc ρ st S = some g → dm_mo SO S
  | 0, _, _, _, _, h => by cases h
  | f + 1, pc, ρ, st, S, hr => by
    have hr : (match am_at tab pc with
      | none => none
      | some q => tm_op X me pc q.1 q.2 ρ st S oC oD ret (fun pc' ρ' st' S' => match cut pc' with
        | some c => c ρ' st' S'
        | none => tm_sem X me tab cut oC oD ret f pc' ρ' st' S')) = some g := hr
    cases hat : am_at tab pc with
    | none => rw [hat] at hr; cases hr
    | some q =>
      rw [hat] at hr
      refine tm_op_mono hoC hoD hret (fun pc' ρ' st' S' hz => ?_) hr
      cases hc : cut pc' with
      | some cc => rw [hc] at hz; exact hcut _ _ hc _ _ _ hz
      | none => rw [hc] at hz; exact tm_sem_mono hoC hoD hret hcut f pc' ρ' st' S' hz
end TM7
