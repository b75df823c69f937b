/-! the values of a sheet; the reference works all out -/
def okF (l : List Nat) : Prop := okT l ∧ (l = [] ∨ aut 0 true l = true)
def okSF (T : Nat → List Nat) : Prop := ∀ k, k < 30 → okF (T k)
theorem okSF_S {T : Nat → List Nat} (h : okSF T) : okS T := fun k hk => (h k hk).1
def vit (T : Nat → List Nat) : Nat → Nat → Option Int
  | 0 => fun _ => none
  | k + 1 => fun c => evF (vit T k) (T c)
def VV (T : Nat → List Nat) : Nat → Option Int := vit T 31
theorem vit_ok {T : Nat → List Nat} (h : okS T) : ∀ k j, j < 30 → okV (vit T k j)
  | 0, _, _ => fun _ z => nomatch z
  | k + 1, j, hj => evF_ok (vit_ok h k) (h j hj)
theorem VV_ok {T : Nat → List Nat} (h : okS T) : ∀ j, j < 30 → okV (VV T j) := vit_ok h 31
theorem vit_st {T : Nat → List Nat} {rk : Nat → Nat} (h : ∀ i j, i < 30 → j < 30 → EE T i j = true → rk j < rk i) : ∀ (n k k' c : Nat), c < 30 → rk c < n → rk c < k → rk c < k' → vit T k c = vit T k' c
  | 0, _, _, _, _, h1, _, _ => absurd h1 (Nat.not_lt_zero _)
  | n + 1, 0, _, _, _, _, h2, _ => absurd h2 (Nat.not_lt_zero _)
  | n + 1, k + 1, 0, _, _, _, _, h3 => absurd h3 (Nat.not_lt_zero _)
  | n + 1, k + 1, k' + 1, c, hc, h1, h2, h3 => by
    show evF (vit T k) (T c) = evF (vit T k') (T c)
    refine evF_cg (fun j hj e => ?_)
    have := h c j hc hj e
    exact vit_st h n k k' j hj (by omega) (by omega) (by omega)
theorem VV_eq {T : Nat → List Nat} (h : acy (EE T)) {c : Nat} (hc : c < 30) : VV T c = evF (VV T) (T c) := by
  obtain ⟨rk, hb, h⟩ := acy_b h
  show vit T 31 c = vit T 32 c
  exact vit_st h 31 31 32 c hc (by have := hb c; omega) (by have := hb c; omega) (by have := hb c; omega)
/-- where two sheets are alike below, values are alike -/
theorem VV_cg {T T' : Nat → List Nat} (h : acy (EE T)) (h' : acy (EE T')) {D : Nat → Prop} (hD : ∀ i j, i < 30 → j < 30 → D i → EE T i j = true → D j) (hT : ∀ i, i < 30 → D i → T i = T' i) : ∀ c, c < 30 → D c → VV T c = VV T' c := by
  obtain ⟨rk, hr⟩ := h
  have main : ∀ (n c : Nat), rk c < n → c < 30 → D c → VV T c = VV T' c := by
    intro n
    induction n with
    | zero => intro c h1; exact absurd h1 (Nat.not_lt_zero _)
    | succ n ih =>
      intro c h1 hc hd
      rw [VV_eq ⟨rk, hr⟩ hc, VV_eq h' hc, ← hT c hc hd]
      refine evF_cg (fun j hj e => ?_)
      have := hr c j hc hj e
      exact ih j (by omega) hj (hD c j hc hj hd e)
  exact fun c hc hd => main (rk c + 1) c (Nat.lt_succ_self _) hc hd
section WA
variable {N : Nat} {fm sz : Nat → Int32} {T : Nat → List Nat}
theorem min_rank {rk : Nat → Nat} {p : Nat → Bool} : ∀ (n : Nat), (∃ j, j < 30 ∧ p j = false ∧ rk j < n) → ∃ j, j < 30 ∧ p j = false ∧ ∀ i, i < 30 → rk i < rk j → p i = true
  | 0, ⟨_, _, _, h⟩ => absurd h (Nat.not_lt_zero _)
  | n + 1, ⟨j, hj, e, h⟩ => by
    by_cases z : ∃ i, i < 30 ∧ p i = false ∧ rk i < n
    · exact min_rank n z
    · refine ⟨j, hj, e, fun i hi y => ?_⟩
      cases e2 : p i with
      | true => rfl
      | false => exact absurd ⟨i, hi, e2, by omega⟩ z
end WA

