section DMAM
variable {γ : Type} {g : γ}
def dm_mo (SO S : dm_S) : Prop := 1000 ≤ dm_n S → dm_n S ≤ dm_n SO ∧ dm_zz S ≤ dm_zz SO
theorem dm_mo_up {SO S S' : dm_S} (h : dm_mo SO S') (h1 : dm_n S ≤ dm_n S') (h2 : dm_zz S ≤ dm_zz S') : dm_mo SO S := by
  intro h0
  obtain ⟨a, b⟩ := h (by omega)
  exact ⟨by omega, by omega⟩
def dm_OM (oD : dm_Orc) : Prop := ∀ (γ : Type) (mid : Nat) (as : List Value) (S : dm_S) (k : Option Value → dm_S → Option γ) (g : γ), oD γ mid as S k = some g → ∃ v S', (1000 ≤ dm_n S → dm_n S ≤ dm_n S' ∧ dm_zz S ≤ dm_zz S') ∧ k v S' = some g
theorem dm_OS_M {l : Launch} {al : Nat → Nat} {dC : Nat → ClassId} {dI : Nat → Nat → Nat} {aC : Nat → ClassId} {aV : Nat → Nat} {x0 x1 : Nat} {oD : dm_Orc} (h : dm_OS l al dC dI aC aV x0 x1 oD) : dm_OM oD := by
  intro γ mid as S k g e
  obtain ⟨v, S', hM, hk⟩ := h γ mid as S k g e
  exact ⟨v, S', fun h0 => ⟨(hM h0).1, (hM h0).2.1⟩, hk⟩
theorem dm_OC_x {l : Launch} {al : Nat → Nat} {dC : Nat → ClassId} {dI : Nat → Nat → Nat} {aC : Nat → ClassId} {aV : Nat → Nat} {oC : am_Orc} (h : am_OS l al dC dI aC aV oC) {mid : Nat} {as : List Value} {hh : am_Hp} {k : am_Out → am_Hp → Option γ} (e : oC γ mid as hh k = some g) : ∃ o h', k o h' = some g := by
  obtain ⟨o, h', -, hk⟩ := h γ mid as hh k g e
  exact ⟨o, h', hk⟩
set_option maxHeartbeats 4000000 in
theorem dm_op_mono {l : Launch} {al : Nat → Nat} {dC : Nat → ClassId} {dI : Nat → Nat → Nat} {aC : Nat → ClassId} {aV : Nat → Nat} {me : Nat} {vO : Option Value} {SO : dm_S} {pc len : Nat} {ins : Instr} {ρ : am_Lc} {st : List Value} {S : dm_S} {oC : am_Orc} {oD : dm_Orc} {ret : Option Value → dm_S → Option γ} {k : Nat → am_Lc → List Value → dm_S → Option γ}
    (hoC : am_OS l al dC dI aC aV oC) (hoD : dm_OM oD) (hret : ∀ v S', ret v S' = some g → v = vO ∧ S' = SO) (hk : ∀ pc' ρ' st' S', k pc' ρ' st' S' = some g → dm_mo SO S') (hr : dm_op me pc ins len ρ st S oC oD ret k = some g) : dm_mo SO S := by
  have hend : ∀ v S', ret v S' = some g → dm_mo SO S' := fun v S' h _ => by
    obtain ⟨-, e⟩ := hret v S' h
    rw [e]
    exact ⟨Nat.le_refl _, Nat.le_refl _⟩
  have hinv : ∀ sv ix, dm_inv me sv pc ix ρ st S oC oD k = some g → dm_mo SO S := by
    intro sv ix h
    unfold dm_inv at h
    split at h
    · cases h
    · rename_i kd mid hz
      cases h4 : Nat.beq kd 4 with
      | true =>
        rw [h4] at h
        obtain ⟨-, h2⟩ := am_bif h
        obtain ⟨x, y, r, -, h3⟩ := am_s2_some h2
        exact hk _ _ _ _ h3
      | false =>
        rw [h4] at h
        cases h0 : Nat.beq kd 0 with
        | true =>
          rw [h0] at h
          obtain ⟨-, h2⟩ := am_bif h
          obtain ⟨o, h', h3⟩ := dm_OC_x hoC h2
          cases o with
          | none => cases h3
          | some v =>
            obtain ⟨-, h5⟩ := am_bif h3
            exact dm_mo_up (hk _ _ _ _ h5) (Nat.le_refl _) (Nat.le_refl _)
        | false =>
          rw [h0] at h
          obtain ⟨-, h2⟩ := am_bif h
          obtain ⟨v, S', h3, h5⟩ := hoD _ _ _ _ _ _ h2
          intro h1000
          obtain ⟨a, b⟩ := h3 h1000
          exact dm_mo_up (hk _ _ _ _ h5) a b h1000
  cases ins
  case iload_n i =>
    obtain ⟨x, hm, h1⟩ := am_ldi_some hr
    exact hk _ _ _ _ h1
  case iload i =>
    obtain ⟨x, hm, h1⟩ := am_ldi_some hr
    exact hk _ _ _ _ h1
  case aload_n i =>
    obtain ⟨x, hm, h1⟩ := am_lda_some hr
    exact hk _ _ _ _ h1
  case aload i =>
    obtain ⟨x, hm, h1⟩ := am_lda_some hr
    exact hk _ _ _ _ h1
  case istore_n i =>
    obtain ⟨x, r, -, h1⟩ := am_s1_some hr
    exact hk _ _ _ _ (am_bif h1).2
  case istore i =>
    obtain ⟨x, r, -, h1⟩ := am_s1_some hr
    exact hk _ _ _ _ (am_bif h1).2
  case astore_n i =>
    obtain ⟨x, r, -, h1⟩ := am_sa_some hr
    exact hk _ _ _ _ (am_bif h1).2
  case astore i =>
    obtain ⟨x, r, -, h1⟩ := am_sa_some hr
    exact hk _ _ _ _ (am_bif h1).2
  case iinc i n =>
    obtain ⟨x, hm, h1⟩ := am_ldi_some hr
    exact hk _ _ _ _ (am_bif h1).2
  case iconst n =>
    exact hk _ _ _ _ hr
  case bipush n =>
    exact hk _ _ _ _ hr
  case iadd =>
    obtain ⟨x, y, r, -, h1⟩ := am_s2_some hr
    exact hk _ _ _ _ h1
  case isub =>
    obtain ⟨x, y, r, -, h1⟩ := am_s2_some hr
    exact hk _ _ _ _ h1
  case imul =>
    obtain ⟨x, y, r, -, h1⟩ := am_s2_some hr
    exact hk _ _ _ _ h1
  case dup =>
    have hr : am_d1 st (fun v r => k (pc + len) ρ (v :: v :: r) S) = some g := hr
    obtain ⟨v, r, -, -, h1⟩ := am_d1_some hr
    exact hk _ _ _ _ h1
  case pop =>
    have hr : am_d1 st (fun _ r => k (pc + len) ρ r S) = some g := hr
    obtain ⟨v, r, -, -, h1⟩ := am_d1_some hr
    exact hk _ _ _ _ h1
  case i2f =>
    obtain ⟨x, r, -, h1⟩ := am_s1_some hr
    exact hk _ _ _ _ h1
  case fdiv =>
    obtain ⟨x, y, r, -, h1⟩ := am_sff_some hr
    by_cases hy : FP.fdiv x y &&& 0x7fffffff ≤ 0x7f800000
    · rw [if_pos hy] at h1
      exact hk _ _ _ _ h1
    · rw [if_neg hy] at h1; cases h1
  case fcmp c =>
    obtain ⟨x, y, r, -, h1⟩ := am_sff_some hr
    exact hk _ _ _ _ h1
  case goto off =>
    obtain ⟨t, -, h1⟩ := am_to_some hr
    exact hk _ _ _ _ h1
  case if_icmp cd off =>
    have key : ∀ (x y : Int32) (a b : Option γ), (a = some g → dm_mo SO S) → (b = some g → dm_mo SO S) → am_cmp cd x y a b = some g → dm_mo SO S := by
      intro x y a b ha hb h
      unfold am_cmp at h
      split at h <;> split at h <;> first | exact ha h | exact hb h
    obtain ⟨x, y, r, -, h1⟩ := am_s2_some hr
    obtain ⟨t, -, h2⟩ := am_to_some h1
    exact key _ _ _ _ (fun z => hk _ _ _ _ z) (fun z => hk _ _ _ _ z) h2
  case ifCond cd off =>
    have key : ∀ (x y : Int32) (a b : Option γ), (a = some g → dm_mo SO S) → (b = some g → dm_mo SO S) → am_cmp cd x y a b = some g → dm_mo SO S := by
      intro x y a b ha hb h
      unfold am_cmp at h
      split at h <;> split at h <;> first | exact ha h | exact hb h
    obtain ⟨x, r, -, h1⟩ := am_s1_some hr
    obtain ⟨t, -, h2⟩ := am_to_some h1
    exact key _ _ _ _ (fun z => hk _ _ _ _ z) (fun z => hk _ _ _ _ z) h2
  case getfield ix =>
    have hr : (match dm_fk me ix with
      | none => none
      | some j => am_sa st (fun a r => bif dm_ok S 1 a then (bif dm_rj j then (if dm_g S a j < 0 then none else k (pc + len) ρ (.ref (dm_g S a j).toNatClampNeg :: r) S) else k (pc + len) ρ (.int (dm_g S a j) :: r) S) else none)) = some g := hr
    split at hr
    · cases hr
    · rename_i j hz
      obtain ⟨a, r, -, h1⟩ := am_sa_some hr
      obtain ⟨-, h3⟩ := am_bif h1
      cases hj : dm_rj j with
      | true => rw [hj] at h3; exact hk _ _ _ _ (dm_if0 h3).2
      | false => rw [hj] at h3; exact hk _ _ _ _ h3
  case putfield ix =>
    have hr : (match dm_fk me ix with
      | none => none
      | some j => bif Nat.beq j 4 then none else bif dm_rj j then dm_saa st (fun a x r => bif dm_ok S 1 a && Nat.blt x dm_bg then k (pc + len) ρ r (dm_wr S a j (am_z (x : Int))) else none)
        else am_s1 st (fun x r => am_sa r (fun a r => bif dm_ok S 1 a then k (pc + len) ρ r (dm_wr S a j x) else none))) = some g := hr
    split at hr
    · cases hr
    · rename_i j hz
      cases h4 : Nat.beq j 4 with
      | true => rw [h4] at hr; cases hr
      | false =>
        rw [h4] at hr
        cases hj : dm_rj j with
        | true =>
          rw [hj] at hr
          obtain ⟨a, x, r, -, h1⟩ := dm_saa_some hr
          exact dm_mo_up (hk _ _ _ _ (am_bif h1).2) (Nat.le_refl _) (Nat.le_refl _)
        | false =>
          rw [hj] at hr
          obtain ⟨x, r0, -, h00⟩ := am_s1_some hr
          obtain ⟨a, r, -, h1⟩ := am_sa_some h00
          exact dm_mo_up (hk _ _ _ _ (am_bif h1).2) (Nat.le_refl _) (Nat.le_refl _)
  case iaload =>
    obtain ⟨a, x, r, -, h1⟩ := am_sia_some hr
    exact hk _ _ _ _ (am_bif h1).2
  case iastore =>
    obtain ⟨a, i, x, r, -, h1⟩ := am_siia_some hr
    exact dm_mo_up (hk _ _ _ _ (am_bif h1).2) (Nat.le_refl _) (Nat.le_refl _)
  case aaload =>
    obtain ⟨a, x, r, -, h1⟩ := am_sia_some hr
    exact hk _ _ _ _ (dm_if0 (am_bif h1).2).2
  case aastore =>
    obtain ⟨a, i, x, r, -, h1⟩ := dm_saia_some hr
    exact dm_mo_up (hk _ _ _ _ (am_bif h1).2) (Nat.le_refl _) (Nat.le_refl _)
  case arraylength =>
    obtain ⟨a, r, -, h1⟩ := am_sa_some hr
    exact hk _ _ _ _ (am_bif h1).2
  case newarray t =>
    cases t
    case int =>
      obtain ⟨x, r, -, h1⟩ := am_s1_some hr
      exact dm_mo_up (hk _ _ _ _ (am_bif (dm_if0 h1).2).2) (Nat.le_succ _) (Nat.le_add_right _ _)
    all_goals exact absurd (show (none : Option γ) = some g from hr) (by simp)
  case multianewarray ix d =>
    obtain ⟨-, h1⟩ := am_bif hr
    obtain ⟨x, y, r, -, h2⟩ := am_s2_some h1
    refine dm_mo_up (hk _ _ _ _ (am_bif (dm_if0 (dm_if0 h2).2).2).2) ?_ ?_
    · show dm_n S ≤ dm_n S + 1 + x.toNatClampNeg
      omega
    · show dm_zz S ≤ dm_zz S + x.toNatClampNeg + x.toNatClampNeg * y.toNatClampNeg
      omega
  case new ix =>
    obtain ⟨-, h1⟩ := am_bif hr
    exact dm_mo_up (hk _ _ _ _ h1) (show dm_n S ≤ dm_n S + 2 from Nat.le_add_right _ _) (show dm_zz S ≤ dm_zz S + 46 from Nat.le_add_right _ _)
  case invokevirtual ix => exact hinv 0 ix hr
  case invokestatic ix => exact hinv 1 ix hr
  case ireturn =>
    have hr : am_s1 st (fun x r => bif r.isEmpty && Nat.ble 7 me && Nat.ble me 9 then (if x &&& 1 = x then ret (some (.int x)) S else none) else none) = some g := hr
    obtain ⟨x, r, -, h1⟩ := am_s1_some hr
    obtain ⟨-, h3⟩ := am_bif h1
    by_cases hz : x &&& 1 = x
    · rw [if_pos hz] at h3; exact hend _ _ h3
    · rw [if_neg hz] at h3; cases h3
  case areturn =>
    obtain ⟨x, r, -, h1⟩ := am_sa_some hr
    exact hend _ _ (am_bif h1).2
  case return_ =>
    exact hend _ _ (am_bif hr).2
  all_goals exact absurd (show (none : Option γ) = some g from hr) (by simp)
theorem dm_sem_mono {l : Launch} {al : Nat → Nat} {dC : Nat → ClassId} {dI : Nat → Nat → Nat} {aC : Nat → ClassId} {aV : Nat → Nat} {me : Nat} {vO : Option Value} {SO : dm_S} {tab : List (Nat × Instr × Nat)} {cut : dm_Cut γ} {oC : am_Orc} {oD : dm_Orc} {ret : Option Value → dm_S → Option γ}
    (hoC : am_OS l al dC dI aC aV oC) (hoD : dm_OM oD) (hret : ∀ v S', ret v S' = some g → v = vO ∧ S' = SO) (hcut : ∀ pc cc, cut pc = some cc → ∀ ρ st S, cc ρ st S = some g → dm_mo SO S) :
    ∀ (f pc : Nat) (ρ : am_Lc) (st : List Value) (S : dm_S), dm_sem me tab cut oC oD ret f pc ρ st S = some g → dm_mo SO S
  | 0, _, _, _, _, h => by cases h
  | f + 1, pc, ρ, st, S, hr => by
    have hr : (match am_at tab pc with
      | none => none
      | some q => dm_op me pc q.1 q.2 ρ st S oC oD ret (fun pc' ρ' st' S' => match cut pc' with
        | some c => c ρ' st' S'
        | none => dm_sem me tab cut oC oD ret f pc' ρ' st' S')) = some g := hr
    cases hat : am_at tab pc with
    | none => rw [hat] at hr; cases hr
    | some q =>
      rw [hat] at hr
      refine dm_op_mono hoC hoD hret (fun pc' ρ' st' S' hz => ?_) hr
      cases hc : cut pc' with
      | some cc => rw [hc] at hz; exact hcut _ _ hc _ _ _ hz
      | none => rw [hc] at hz; exact dm_sem_mono hoC hoD hret hcut f pc' ρ' st' S' hz
end DMAM
