/-! formulas as lists of signs; the reference's set methods -/
def tk (l : List Nat) (i : Nat) : Nat := l.getD i 0
def okT (l : List Nat) : Prop := l.length ≤ 15 ∧ ∀ i, i < l.length → tk l i < 1000036
/-- the reference's sign for a sign of the landed class -/
def cv (c : Nat) : Nat := if c < 6 then 2000000 + c else if c < 36 then 1000000 + (c - 6) else c - 36
theorem cv_lt {c : Nat} (h : c < 1000036) : cv c < 2000006 := by unfold cv; split <;> (try split) <;> omega
theorem cv_inj {a b : Nat} (ha : a < 1000036) (hb : b < 1000036) (h : cv a = cv b) : a = b := by
  unfold cv at h
  split at h <;> split at h <;> (try split at h) <;> (try split at h) <;> omega
def nmk (l : List Nat) : Nat → Nat → Bool
  | 0 => fun _ => false
  | k + 1 => fun j => nmk l k j || tk l k == j + 6
/-- the cells that a formula names -/
def nm (l : List Nat) : Nat → Bool := nmk l l.length
theorem nmk_iff {l : List Nat} : ∀ {k j : Nat}, nmk l k j = true ↔ ∃ i, i < k ∧ tk l i = j + 6
  | 0, j => ⟨fun h => absurd h (by simp [nmk]), fun ⟨i, h, _⟩ => absurd h (Nat.not_lt_zero i)⟩
  | k + 1, j => by
    simp only [nmk, Bool.or_eq_true, nmk_iff (k := k), beq_iff_eq]
    constructor
    · rintro (⟨i, h, q⟩ | q)
      · exact ⟨i, by omega, q⟩
      · exact ⟨k, by omega, q⟩
    · rintro ⟨i, h, a⟩
      rcases Nat.lt_or_ge i k with z | z
      · exact .inl ⟨i, z, a⟩
      · have : i = k := by omega
        subst this; exact .inr a
def okS (T : Nat → List Nat) : Prop := ∀ k, k < 30 → okT (T k)
def EE (T : Nat → List Nat) : Nat → Nat → Bool := fun i => nm (T i)
noncomputable def depB (E : Nat → Nat → Bool) (p : Nat → Bool) (c : Nat) : Bool := @decide (clo (fun a b => E b a) p c) (Classical.propDecidable _)
theorem depB_iff {E : Nat → Nat → Bool} {p : Nat → Bool} {c : Nat} : depB E p c = true ↔ clo (fun a b => E b a) p c := @decide_eq_true_iff _ (Classical.propDecidable _)
theorem r_bI01 (b : Bool) : bI b = 0 ∨ bI b = 1 := by cases b <;> decide
section RSETS
variable {T : Nat → List Nat} {fm sz : Nat → Int32} {N : Nat}
end RSETS
/-! no cell depends on itself -/
def acy (E : Nat → Nat → Bool) : Prop := ∃ rk : Nat → Nat, ∀ i j, i < 30 → j < 30 → E i j = true → rk j < rk i
theorem acy_le {E : Nat → Nat → Bool} {rk : Nat → Nat} (h : ∀ i j, i < 30 → j < 30 → E i j = true → rk j < rk i) {i j : Nat} (hj : j < 30) (c : clo E (fun x => x == i) j) : rk j ≤ rk i := by
  have := c (fun j => j < 30 → rk j ≤ rk i) (fun a _ e _ => by
    have : a = i := by simpa using e
    subst this; exact Nat.le_refl _) (fun a b ha hb t e _ => Nat.le_trans (Nat.le_of_lt (h a b ha hb e)) (t ha))
  exact this hj
theorem acy_no {E : Nat → Nat → Bool} (h : acy E) {i j : Nat} (hi : i < 30) (hj : j < 30) (e : E i j = true) : ¬ clo E (fun x => x == j) i := by
  obtain ⟨rk, h⟩ := h
  intro c
  have := acy_le h hi c
  have := h i j hi hj e
  omega
noncomputable def belB (E : Nat → Nat → Bool) (i : Nat) (j : Nat) : Bool := @decide (clo E (fun x => x == i) j) (Classical.propDecidable _)
theorem belB_iff {E : Nat → Nat → Bool} {i j : Nat} : belB E i j = true ↔ clo E (fun x => x == i) j := @decide_eq_true_iff _ (Classical.propDecidable _)
theorem acy_b {E : Nat → Nat → Bool} (h : acy E) : ∃ rk : Nat → Nat, (∀ i, rk i ≤ 30) ∧ ∀ i j, i < 30 → j < 30 → E i j = true → rk j < rk i := by
  refine ⟨fun i => fb_ct (belB E i) 30, fun i => fb_ct_le _ 30, fun i j hi hj e => ?_⟩
  refine ct_grow (fun k hk z => ?_) (fun z => ?_)
  · refine belB_iff.mpr (clo_tr (belB_iff.mp z) (fun x hx ex => ?_))
    have : x = j := by simpa using ex
    subst this
    exact clo_st hi hx (clo_in hi (by simp)) e
  · have h1 : belB E i i = true := belB_iff.mpr (clo_in hi (by simp))
    rw [z i hi] at h1
    exact acy_no h hi hj e (belB_iff.mp h1)
/-- a cell is below what it names just when it depends on it -/
theorem clo_named {E : Nat → Nat → Bool} (h : acy E) {i j : Nat} (hi : i < 30) (hj : j < 30) : clo E (E i) j ↔ i ≠ j ∧ clo E (fun x => x == i) j := by
  constructor
  · intro c
    refine ⟨fun e => ?_, clo_tr c (fun x hx ex => clo_st hi hx (clo_in hi (by simp)) ex)⟩
    subst e
    obtain ⟨rk, h⟩ := h
    have := c (fun j => j < 30 → rk j < rk i) (fun a ha e _ => h i a hi ha e) (fun a b ha hb t e _ => Nat.lt_trans (h a b ha hb e) (t ha)) hi
    omega
  · rintro ⟨n, c⟩
    have := c (fun j => j < 30 → (i = j ∨ clo E (E i) j)) (fun a ha e _ => by
      have : a = i := by simpa using e
      exact .inl this.symm) (fun a b ha hb t e _ => by
        rcases t ha with z | z
        · subst z; exact .inr (clo_in hb e)
        · exact .inr (clo_st ha hb z e))
    rcases this hj with z | z
    · exact absurd z n
    · exact z

