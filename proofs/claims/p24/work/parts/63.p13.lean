/-! the draft -/
def lay {α : Type} (i : Nat) (f : Nat → α) : Nat → α := fun k => f (30 * i + k)
theorem tk_app (D : List Nat) (t : Nat) {i : Nat} (h : i < D.length) : tk (D ++ [t]) i = tk D i := by
  unfold tk
  rw [List.getD_eq_getElem?_getD, List.getD_eq_getElem?_getD, List.getElem?_append_left h]
theorem tk_end (D : List Nat) (t : Nat) : tk (D ++ [t]) D.length = t := by
  unfold tk
  rw [List.getD_eq_getElem?_getD, List.getElem?_append_right (Nat.le_refl _), Nat.sub_self]; rfl
theorem okT_app {D : List Nat} {t : Nat} (h : okT D) (hl : D.length < 15) (ht : t < 1000036) : okT (D ++ [t]) := by
  refine ⟨by rw [List.length_append]; simp; omega, fun i hi => ?_⟩
  rw [List.length_append] at hi
  simp only [List.length_cons, List.length_nil] at hi
  rcases Nat.lt_or_ge i D.length with z | z
  · rw [tk_app D t z]; exact h.2 i z
  · have : i = D.length := by omega
    subst this
    rw [tk_end]; exact ht
theorem okT_nil : okT [] := ⟨Nat.zero_le _, fun _ h => absurd h (Nat.not_lt_zero _)⟩
theorem len_app (D : List Nat) (t : Nat) : (D ++ [t]).length = D.length + 1 := by simp
theorem ds_app {D : List Nat} {t : Nat} {ds : Nat → Int32} (h : ∀ i, i < D.length → ds i = nI (tk D i)) : ∀ i, i < (D ++ [t]).length → upd ds D.length (nI t) i = nI (tk (D ++ [t]) i) := fun i hi => by
  rw [len_app] at hi
  rcases Nat.lt_or_ge i D.length with z | z
  · rw [pk_un (by omega), tk_app D t z]; exact h i z
  · have : i = D.length := by omega
    subst this
    rw [tk_end]; exact pk_us
theorem d_cell (N : Nat) (p : Int32) : mX3_requireCell N p = some (if 0 ≤ p ∧ p ≤ 29 then 0 else 1) := by
  unfold mX3_requireCell mX3_requireCell_10
  by_cases h : p < 0
  · rw [if_pos h, if_neg (fun z => (fa_of_lt h).2.1 z.1)]
  · rw [if_neg h]
    have h0 := fa_of_nlt h
    by_cases h2 : p < (30 : Int32)
    · have h29 : p ≤ 29 := by
        have h3 := h2
        rw [fa_lt, show (30 : Int32).toInt = 30 from rfl] at h3
        rw [fa_le, show (29 : Int32).toInt = 29 from rfl]; omega
      rw [if_pos h2, if_pos ⟨h0, h29⟩]
    · rw [if_neg h2, if_neg]
      intro z
      apply h2
      have z2 := z.2
      rw [fa_le, show (29 : Int32).toInt = 29 from rfl] at z2
      rw [fa_lt, show (30 : Int32).toInt = 30 from rfl]; omega
theorem cell_of {p : Int32} (h : 0 ≤ p ∧ p ≤ 29) : ∃ k : Nat, k < 30 ∧ p = nI k := by
  obtain ⟨j, hj, e⟩ := nI_of2 (x := p) (M := 29) (n := 29) rfl (fun z => (fa_of_lt z).2.1 h.1) h.2
  exact ⟨j, by omega, e⟩
theorem cell_is {k : Nat} (h : k < 30) : (0 : Int32) ≤ nI k ∧ nI k ≤ 29 := ⟨nI_le (a := 0) (by omega) (by omega), nI_le (b := 29) (by omega) (by omega)⟩
theorem d_num (N : Nat) (p : Int32) : mX3_requireNumber N p = some (if 0 ≤ p ∧ p ≤ 999999 then 0 else 2) := by
  unfold mX3_requireNumber mX3_requireNumber_10
  by_cases h : p < 0
  · rw [if_pos h, if_neg (fun z => (fa_of_lt h).2.1 z.1)]
  · rw [if_neg h]
    have h0 := fa_of_nlt h
    by_cases h2 : p ≤ (999999 : Int32)
    · rw [if_pos h2, if_pos ⟨h0, h2⟩]
    · rw [if_neg h2, if_neg (fun z => h2 z.2)]
theorem num_of {p : Int32} (h : 0 ≤ p ∧ p ≤ 999999) : ∃ k : Nat, k < 1000000 ∧ p = nI k := by
  obtain ⟨j, hj, e⟩ := nI_of2 (x := p) (M := 999999) (n := 999999) rfl (fun z => (fa_of_lt z).2.1 h.1) h.2
  exact ⟨j, by omega, e⟩
theorem num_is {k : Nat} (h : k < 1000000) : (0 : Int32) ≤ nI k ∧ nI k ≤ 999999 := ⟨nI_le (a := 0) (by omega) (by omega), nI_le (b := 999999) (by omega) (by omega)⟩
theorem d_write {D : List Nat} {ds : Nat → Int32} (N t : Nat) (h : D.length < 15) : mX0_write N (nI D.length) ds (nI t) = some (nI (D ++ [t]).length, nI (D ++ [t]).length, upd ds D.length (nI t)) := by
  unfold mX0_write mX0_write_32
  rw [if_neg (show ¬ (15 : Int32) ≤ nI D.length from nI_ge (b := 15) h (by omega)), if_neg (nI_in h (by omega)), nI_1, nI_clamp (by omega), len_app]
theorem d_room (N : Nat) {n : Nat} (h : n ≤ 15) : mX3_requireRoom N (nI n) = some (if n < 15 then 0 else 3) := by
  unfold mX3_requireRoom
  by_cases z : n < 15
  · rw [if_pos (show nI n < (15 : Int32) from nI_lt (b := 15) z (by omega)), if_pos z]
  · rw [if_neg (show ¬ nI n < (15 : Int32) from nI_nlt (b := 15) (by omega) (by omega)), if_neg z]
/-- the draft -/
def rDR (D : List Nat) (dc : Int32) (ds : Nat → Int32) : Prop := okT D ∧ dc = nI D.length ∧ ∀ i, i < D.length → ds i = nI (tk D i)
theorem rDR_app {D : List Nat} {dc : Int32} {ds : Nat → Int32} {t : Nat} (h : rDR D dc ds) (hl : D.length < 15) (ht : t < 1000036) : rDR (D ++ [t]) (nI (D ++ [t]).length) (upd ds D.length (nI t)) :=
  ⟨okT_app h.1 hl ht, rfl, ds_app h.2.2⟩
theorem rDR_nil {ds : Nat → Int32} : rDR [] 0 ds := ⟨okT_nil, rfl, fun _ h => absurd h (Nat.not_lt_zero _)⟩
