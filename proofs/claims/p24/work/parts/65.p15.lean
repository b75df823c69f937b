/-! set; layers -/
section SETC
variable {N : Nat} {T : Nat → List Nat} {fw : Nat → Int32} {fn : Nat → Nat} {ff : Nat → Nat → Int32} {va : Nat → Int64} {fm sz : Nat → Int32} {D : List Nat} {dc df : Int32} {ds dr : Nat → Int32}
end SETC
/-! layers -/
section LAY
variable {N : Nat} {T : Nat → List Nat} {fw : Nat → Int32} {fn : Nat → Nat} {ff : Nat → Nat → Int32} {va : Nat → Int64} {fm sz : Nat → Int32} {Q : Nat → Nat → List Nat} {L : Nat} {ol la : Int32} {qw : Nat → Int32} {qn : Nat → Nat} {qf : Nat → Nat → Int32} {om os : Nat → Int32}
/-- layer L holds the sheet -/
def qA (Q : Nat → Nat → List Nat) (L : Nat) (T : Nat → List Nat) : Nat → Nat → List Nat := fun i => if i = L then T else Q i
theorem d_open_l (hL : L < 4) : ∀ (d k n : Nat) (qw : Nat → Int32) (qn : Nat → Nat) (qf : Nat → Nat → Int32), k + d = 30 → d < n → ∃ qw' qn' qf', mX3_open_28 N fw fn ff n (nI L) qw qn qf (nI (30 * L)) (nI k) = some (0, nI (L + 1), nI (L + 1), qw', qn', qf') ∧ (∀ x, k ≤ x → x < 30 → qw' (30 * L + x) = fw x ∧ qn' (30 * L + x) = fn x ∧ qf' (30 * L + x) = ff x) ∧ ∀ y, (y < 30 * L + k) → qw' y = qw y ∧ qn' y = qn y ∧ qf' y = qf y
  | _, _, 0, _, _, _, _, h => absurd h (Nat.not_lt_zero _)
  | 0, k, n + 1, qw, qn, qf, h1, h2 => by
    have : k = 30 := by omega
    subst this
    simp only [mX3_open_28, mX3_open_28_b]
    rw [if_pos (by decide), nI_1]
    exact ⟨qw, qn, qf, rfl, fun x a b => absurd b (by omega), fun _ _ => ⟨rfl, rfl, rfl⟩⟩
  | d + 1, k, n + 1, qw, qn, qf, h1, h2 => by
    have hk : k < 30 := by omega
    simp only [mX3_open_28, mX3_open_28_b]
    rw [if_neg (show ¬ (30 : Int32) ≤ nI k from nI_ge (a := k) (b := 30) (by omega) (by omega)), if_neg (nI_in hk (by omega)), nI_add, if_neg (nI_in (by omega) (by omega)), nI_clamp (by omega), nI_clamp (by omega), nI_1]
    obtain ⟨qw', qn', qf', e, g1, g2⟩ := d_open_l hL d (k + 1) n (va_up qw (30 * L + k) (fw k)) (va_up qn (30 * L + k) (fn k)) (va_up qf (30 * L + k) (ff k)) (by omega) (by omega)
    refine ⟨qw', qn', qf', e, fun x a b => ?_, fun y hy => ?_⟩
    · rcases Nat.lt_or_ge k x with z | z
      · exact g1 x z b
      · have : x = k := by omega
        subst this
        obtain ⟨a1, a2, a3⟩ := g2 (30 * L + x) (by omega)
        rw [a1, a2, a3, up_s, up_s, up_s]
        exact ⟨rfl, rfl, rfl⟩
    · obtain ⟨a1, a2, a3⟩ := g2 y (by omega)
      rw [a1, a2, a3, up_n (by omega), up_n (by omega), up_n (by omega)]
      exact ⟨rfl, rfl, rfl⟩
end LAY

/-- the layers -/
def rLY (Q : Nat → Nat → List Nat) (L : Nat) (ol : Int32) (qw : Nat → Int32) (qn : Nat → Nat) (qf : Nat → Nat → Int32) : Prop := L ≤ 4 ∧ ol = nI L ∧ ∀ i, i < L → okSF (Q i) ∧ acy (EE (Q i)) ∧ rD (Q i) (lay i qw) (lay i qn) (lay i qf)
section LAY2
variable {N : Nat} {T : Nat → List Nat} {fw : Nat → Int32} {fn : Nat → Nat} {ff : Nat → Nat → Int32} {va : Nat → Int64} {Q : Nat → Nat → List Nat} {L : Nat} {ol : Int32} {qw : Nat → Int32} {qn : Nat → Nat} {qf : Nat → Nat → Int32}
theorem t_open (h : rLY Q L ol qw qn qf) (hs : rSH T fw fn ff va) (hL : L < 4) (hN : 31 ≤ N) : ∃ (qw' : Nat → Int32) (qn' : Nat → Nat) (qf' : Nat → Nat → Int32), mX3_open N fw fn ff ol qw qn qf = some (0, nI (L + 1), nI (L + 1), qw', qn', qf') ∧ rLY (qA Q L T) (L + 1) (nI (L + 1)) qw' qn' qf' := by
  obtain ⟨h4, h1, h3⟩ := h
  subst h1
  obtain ⟨qw', qn', qf', e, g1, g2⟩ := d_open_l (N := N) (fw := fw) (fn := fn) (ff := ff) hL 30 0 N qw qn qf rfl (by omega)
  have e' : mX3_open_28 N fw fn ff N (nI L) qw qn qf (nI (30 * L)) 0 = _ := e
  unfold mX3_open
  rw [if_pos (show nI L < (4 : Int32) from nI_lt (b := 4) hL (by omega)), c_30, pk_mul, Nat.mul_comm L 30, e']
  refine ⟨qw', qn', qf', rfl, by omega, rfl, fun i hi => ?_⟩
  rcases Nat.lt_or_ge i L with z | z
  · have : qA Q L T i = Q i := if_neg (by omega)
    rw [this]
    obtain ⟨a1, a2, a3⟩ := h3 i z
    refine ⟨a1, a2, fun k hk => ?_⟩
    unfold lay
    obtain ⟨b1, b2, b3⟩ := g2 (30 * i + k) (by omega)
    rw [b1, b2, b3]
    exact a3 k hk
  · have hiL : i = L := by omega
    subst hiL
    have : qA Q i T i = T := if_pos rfl
    rw [this]
    refine ⟨hs.1, hs.2.1, fun k hk => ?_⟩
    unfold lay
    obtain ⟨b1, b2, b3⟩ := g1 k (Nat.zero_le _) hk
    rw [b1, b2, b3]
    exact hs.2.2.1 k hk
end LAY2
