/-! both programs' states for one sheet; the draft's calls -/
def lay {α : Type} (i : Nat) (f : Nat → α) : Nat → α := fun k => f (30 * i + k)
def iS (T Q : Nat → List Nat) (D : List Nat) (L : Nat) : Prop := okSF T ∧ acy (EE T) ∧ okT D ∧ L ≤ 4 ∧ ∀ i, i < L → okSF (lay i Q) ∧ acy (EE (lay i Q))
def iD (T Q : Nat → List Nat) (D : List Nat) (L : Nat) (F : Int32) (ol fd dc : Int32) (ds fw : Nat → Int32) (fn : Nat → Nat) (ff : Nat → Nat → Int32) (qw : Nat → Int32) (qn : Nat → Nat) (qf : Nat → Nat → Int32) (va : Nat → Int64) : Prop :=
  ol = nI L ∧ fd = F ∧ dc = nI D.length ∧ (∀ i, i < D.length → ds i = nI (tk D i)) ∧ rD T fw fn ff ∧ (∀ i, i < L → rD (lay i Q) (lay i qw) (lay i qn) (lay i qf)) ∧ ∀ j, j < 30 → va j = eL (VV T j)
def iR (T Q : Nat → List Nat) (D : List Nat) (L : Nat) (F : Int32) (df la fo : Int32) (dr fm sz om os : Nat → Int32) : Prop :=
  df = nI D.length ∧ la = nI L ∧ fo = F ∧ (∀ i, i < D.length → dr i = nI (cv (tk D i))) ∧ rR T fm sz ∧ ∀ i, i < L → rR (lay i Q) (fun x => om (450 * i + x)) (lay i os)
theorem tk_app (D : List Nat) (t : Nat) {i : Nat} (h : i < D.length) : tk (D ++ [t]) i = tk D i := by
  unfold tk
  rw [List.getD_eq_getElem?_getD, List.getD_eq_getElem?_getD, List.getElem?_append_left h]
theorem tk_end (D : List Nat) (t : Nat) : tk (D ++ [t]) D.length = t := by
  unfold tk
  rw [List.getD_eq_getElem?_getD, List.getElem?_append_right (Nat.le_refl _), Nat.sub_self]; rfl
theorem okT_app {D : List Nat} {t : Nat} (h : okT D) (hl : D.length < 15) (ht : t < 1000036) : okT (D ++ [t]) := by
  refine ⟨by rw [List.length_append]; simp; omega, fun i hi => ?_⟩
  rw [List.length_append] at hi
  simp only [List.length_cons, List.length_nil] at hi
  rcases Nat.lt_or_ge i D.length with z | z
  · rw [tk_app D t z]; exact h.2 i z
  · have : i = D.length := by omega
    subst this
    rw [tk_end]; exact ht
theorem okT_nil : okT [] := ⟨Nat.zero_le _, fun _ h => absurd h (Nat.not_lt_zero _)⟩
theorem len_app (D : List Nat) (t : Nat) : (D ++ [t]).length = D.length + 1 := by simp
theorem ds_app {D : List Nat} {t : Nat} {ds : Nat → Int32} (h : ∀ i, i < D.length → ds i = nI (tk D i)) : ∀ i, i < (D ++ [t]).length → upd ds D.length (nI t) i = nI (tk (D ++ [t]) i) := fun i hi => by
  rw [len_app] at hi
  rcases Nat.lt_or_ge i D.length with z | z
  · rw [pk_un (by omega), tk_app D t z]; exact h i z
  · have : i = D.length := by omega
    subst this
    rw [tk_end]; exact pk_us
theorem dr_app {D : List Nat} {t : Nat} {ds : Nat → Int32} (h : ∀ i, i < D.length → ds i = nI (cv (tk D i))) : ∀ i, i < (D ++ [t]).length → upd ds D.length (nI (cv t)) i = nI (cv (tk (D ++ [t]) i)) := fun i hi => by
  rw [len_app] at hi
  rcases Nat.lt_or_ge i D.length with z | z
  · rw [pk_un (by omega), tk_app D t z]; exact h i z
  · have : i = D.length := by omega
    subst this
    rw [tk_end]; exact pk_us
theorem d_cell (N : Nat) (p : Int32) : mX3_requireCell N p = some (if 0 ≤ p ∧ p ≤ 29 then 0 else 1) := by
  unfold mX3_requireCell mX3_requireCell_10
  by_cases h : p < 0
  · rw [if_pos h, if_neg (fun z => (fa_of_lt h).2.1 z.1)]
  · rw [if_neg h]
    have h0 := fa_of_nlt h
    by_cases h2 : p < (30 : Int32)
    · have h29 : p ≤ 29 := by
        have h3 := h2
        rw [fa_lt, show (30 : Int32).toInt = 30 from rfl] at h3
        rw [fa_le, show (29 : Int32).toInt = 29 from rfl]; omega
      rw [if_pos h2, if_pos ⟨h0, h29⟩]
    · rw [if_neg h2, if_neg]
      intro z
      apply h2
      have z2 := z.2
      rw [fa_le, show (29 : Int32).toInt = 29 from rfl] at z2
      rw [fa_lt, show (30 : Int32).toInt = 30 from rfl]; omega
theorem cell_of {p : Int32} (h : 0 ≤ p ∧ p ≤ 29) : ∃ k : Nat, k < 30 ∧ p = nI k := by
  obtain ⟨j, hj, e⟩ := nI_of2 (x := p) (M := 29) (n := 29) rfl (fun z => (fa_of_lt z).2.1 h.1) h.2
  exact ⟨j, by omega, e⟩
theorem cell_is {k : Nat} (h : k < 30) : (0 : Int32) ≤ nI k ∧ nI k ≤ 29 := ⟨nI_le (a := 0) (by omega) (by omega), nI_le (b := 29) (by omega) (by omega)⟩
theorem d_num (N : Nat) (p : Int32) : mX3_requireNumber N p = some (if 0 ≤ p ∧ p ≤ 999999 then 0 else 2) := by
  unfold mX3_requireNumber mX3_requireNumber_10
  by_cases h : p < 0
  · rw [if_pos h, if_neg (fun z => (fa_of_lt h).2.1 z.1)]
  · rw [if_neg h]
    have h0 := fa_of_nlt h
    by_cases h2 : p ≤ (999999 : Int32)
    · rw [if_pos h2, if_pos ⟨h0, h2⟩]
    · rw [if_neg h2, if_neg (fun z => h2 z.2)]
theorem num_of {p : Int32} (h : 0 ≤ p ∧ p ≤ 999999) : ∃ k : Nat, k < 1000000 ∧ p = nI k := by
  obtain ⟨j, hj, e⟩ := nI_of2 (x := p) (M := 999999) (n := 999999) rfl (fun z => (fa_of_lt z).2.1 h.1) h.2
  exact ⟨j, by omega, e⟩
theorem num_is {k : Nat} (h : k < 1000000) : (0 : Int32) ≤ nI k ∧ nI k ≤ 999999 := ⟨nI_le (a := 0) (by omega) (by omega), nI_le (b := 999999) (by omega) (by omega)⟩
theorem d_write {D : List Nat} {ds : Nat → Int32} (N t : Nat) (h : D.length < 15) : mX0_write N (nI D.length) ds (nI t) = some (nI (D ++ [t]).length, nI (D ++ [t]).length, upd ds D.length (nI t)) := by
  unfold mX0_write mX0_write_32
  rw [if_neg (show ¬ (15 : Int32) ≤ nI D.length from nI_ge (b := 15) h (by omega)), if_neg (nI_in h (by omega)), nI_1, nI_clamp (by omega), len_app]
theorem q_write {D : List Nat} {dr : Nat → Int32} (N t : Nat) (h : D.length < 15) : mX4_writes N (nI D.length) dr (nI t) = some (nI (D ++ [t]).length, nI (D ++ [t]).length, upd dr D.length (nI t)) := by
  unfold mX4_writes
  rw [if_neg (nI_in h (by omega)), nI_1, nI_clamp (by omega), len_app]
theorem d_room (N : Nat) {n : Nat} (h : n ≤ 15) : mX3_requireRoom N (nI n) = some (if n < 15 then 0 else 3) := by
  unfold mX3_requireRoom
  by_cases z : n < 15
  · rw [if_pos (show nI n < (15 : Int32) from nI_lt (b := 15) z (by omega)), if_pos z]
  · rw [if_neg (show ¬ nI n < (15 : Int32) from nI_nlt (b := 15) (by omega) (by omega)), if_neg z]
theorem q_err (N : Nat) {n : Nat} (h : n ≤ 15) (b : Bool) : mX4_errorOfSign N (nI n) (bI b) = some (if b = true then (if n < 15 then 0 else 2) else 1) := by
  unfold mX4_errorOfSign mX4_errorOfSign_22
  cases b with
  | false => rw [if_pos bI_f, if_neg (by decide)]
  | true =>
    rw [if_neg (by decide), if_pos rfl]
    by_cases z : n < 15
    · rw [if_neg (show ¬ nI n = (15 : Int32) from nI_neq (b := 15) (by omega) (by omega) (by omega)), if_pos z]
    · have : n = 15 := by omega
      subst this
      rw [if_pos (show nI 15 = 15 from rfl), if_neg z]
/-- the draft's part of both states -/
def dDR (D : List Nat) (dc : Int32) (ds : Nat → Int32) (df : Int32) (dr : Nat → Int32) : Prop := okT D ∧ dc = nI D.length ∧ (∀ i, i < D.length → ds i = nI (tk D i)) ∧ df = nI D.length ∧ ∀ i, i < D.length → dr i = nI (cv (tk D i))
theorem dDR_app {D : List Nat} {dc df : Int32} {ds dr : Nat → Int32} {t : Nat} (h : dDR D dc ds df dr) (hl : D.length < 15) (ht : t < 1000036) : dDR (D ++ [t]) (nI (D ++ [t]).length) (upd ds D.length (nI t)) (nI (D ++ [t]).length) (upd dr D.length (nI (cv t))) :=
  ⟨okT_app h.1 hl ht, rfl, ds_app h.2.2.1, rfl, dr_app h.2.2.2.2⟩
section DRAFT
variable {N : Nat} {D : List Nat} {dc df : Int32} {ds dr : Nat → Int32}
theorem c_number (h : dDR D dc ds df dr) (th p : Int32) : ∃ (code : Nat) (r r' : Int32) (D' : List Nat) (dc' : Int32) (ds' : Nat → Int32) (df' : Int32) (dr' : Nat → Int32) (k : Nat), mX3_number N dc ds p = some (code, r, dc', ds') ∧ mX4_number N th df dr p = some (r', nI k, df', dr') ∧ dDR D' dc' ds' df' dr' ∧ (code = 0 ∧ k = 0 ∧ r = r' ∨ code = 2 ∧ k = 1 ∨ code = 3 ∧ k = 2) := by
  obtain ⟨hD, h1, h2, h3, h4⟩ := h
  subst h1 h3
  have h15 := hD.1
  unfold mX3_number mX4_number mX4_number_27
  rw [d_num, r_in, Option.bind_some, Option.bind_some, q_err N h15, Option.bind_some, r_holds, Option.bind_some]
  by_cases hp : 0 ≤ p ∧ p ≤ 999999
  · obtain ⟨k, hk, rfl⟩ := num_of hp
    rw [if_pos hp, if_pos rfl, decide_eq_true hp, if_pos rfl, d_room N h15, Option.bind_some]
    by_cases hl : D.length < 15
    · rw [if_pos hl, if_pos rfl, if_pos hl, show (36 : Int32) + nI k = nI (36 + k) from nI_add 36 k, d_write N _ hl, Option.bind_some, if_neg (by decide)]
      have ec : k = cv (36 + k) := by unfold cv; rw [if_neg (by omega), if_neg (by omega)]; omega
      have := q_write (D := D) (dr := dr) N k hl
      rw [this, Option.bind_some]
      refine ⟨0, _, _, D ++ [36 + k], _, _, _, _, 0, rfl, rfl, ?_, .inl ⟨rfl, rfl, by rw [len_app, len_app]⟩⟩
      have hh := dDR_app (t := 36 + k) ⟨hD, rfl, h2, rfl, h4⟩ hl (by omega)
      rw [← ec] at hh
      rw [len_app] at hh ⊢
      rw [len_app]
      exact hh
    · rw [if_neg hl, if_neg (by decide), if_neg hl, if_pos (by decide)]
      exact ⟨3, _, _, D, _, _, _, _, 2, rfl, rfl, ⟨hD, rfl, h2, rfl, h4⟩, .inr (.inr ⟨rfl, rfl⟩)⟩
  · rw [if_neg hp, if_neg (by decide), decide_eq_false hp, if_neg Bool.false_ne_true, if_pos (by decide)]
    exact ⟨2, _, _, D, _, _, _, _, 1, rfl, rfl, ⟨hD, rfl, h2, rfl, h4⟩, .inr (.inl ⟨rfl, rfl⟩)⟩
theorem c_cell (h : dDR D dc ds df dr) (th p : Int32) : ∃ (code : Nat) (r r' : Int32) (D' : List Nat) (dc' : Int32) (ds' : Nat → Int32) (df' : Int32) (dr' : Nat → Int32) (k : Nat), mX3_cell N dc ds p = some (code, r, dc', ds') ∧ mX4_cell N th df dr p = some (r', nI k, df', dr') ∧ dDR D' dc' ds' df' dr' ∧ (code = 0 ∧ k = 0 ∧ r = r' ∨ code = 1 ∧ k = 1 ∨ code = 3 ∧ k = 2) := by
  obtain ⟨hD, h1, h2, h3, h4⟩ := h
  subst h1 h3
  have h15 := hD.1
  unfold mX3_cell mX4_cell mX4_cell_27
  rw [d_cell, r_isCell, Option.bind_some, Option.bind_some, q_err N h15, Option.bind_some, r_holds, Option.bind_some]
  by_cases hp : 0 ≤ p ∧ p ≤ 29
  · obtain ⟨k, hk, rfl⟩ := cell_of hp
    rw [if_pos hp, if_pos rfl, decide_eq_true hp, if_pos rfl, d_room N h15, Option.bind_some]
    by_cases hl : D.length < 15
    · rw [if_pos hl, if_pos rfl, if_pos hl, show (6 : Int32) + nI k = nI (6 + k) from nI_add 6 k, d_write N _ hl, Option.bind_some, if_neg (by decide)]
      have ec : 1000000 + k = cv (6 + k) := by unfold cv; rw [if_neg (by omega), if_pos (by omega)]; omega
      have := q_write (D := D) (dr := dr) N (1000000 + k) hl
      rw [show (1000000 : Int32) + nI k = nI (1000000 + k) from nI_add 1000000 k, this, Option.bind_some]
      refine ⟨0, _, _, D ++ [6 + k], _, _, _, _, 0, rfl, rfl, ?_, .inl ⟨rfl, rfl, by rw [len_app, len_app]⟩⟩
      have hh := dDR_app (t := 6 + k) ⟨hD, rfl, h2, rfl, h4⟩ hl (by omega)
      rw [← ec] at hh
      rw [len_app] at hh ⊢
      rw [len_app]
      exact hh
    · rw [if_neg hl, if_neg (by decide), if_neg hl, if_pos (by decide)]
      exact ⟨3, _, _, D, _, _, _, _, 2, rfl, rfl, ⟨hD, rfl, h2, rfl, h4⟩, .inr (.inr ⟨rfl, rfl⟩)⟩
  · rw [if_neg hp, if_neg (by decide), decide_eq_false hp, if_neg Bool.false_ne_true, if_pos (by decide)]
    exact ⟨1, _, _, D, _, _, _, _, 1, rfl, rfl, ⟨hD, rfl, h2, rfl, h4⟩, .inr (.inl ⟨rfl, rfl⟩)⟩
theorem c_sign (h : dDR D dc ds df dr) (th p : Int32) : ∃ (code : Nat) (r r' : Int32) (D' : List Nat) (dc' : Int32) (ds' : Nat → Int32) (df' : Int32) (dr' : Nat → Int32) (k : Nat), mX3_sign N dc ds p = some (code, r, dc', ds') ∧ mX4_sign N th df dr p = some (r', nI k, df', dr') ∧ dDR D' dc' ds' df' dr' ∧ (code = 0 ∧ k = 0 ∧ r = r' ∨ code = 2 ∧ k = 1 ∨ code = 3 ∧ k = 2) := by
  obtain ⟨hD, h1, h2, h3, h4⟩ := h
  subst h1 h3
  have h15 := hD.1
  unfold mX4_sign mX4_sign_29
  rw [r_in, Option.bind_some, q_err N h15, Option.bind_some, r_holds, Option.bind_some]
  have hs : mX3_sign N (nI D.length) ds p = if 0 ≤ p ∧ p ≤ 5 then ((mX3_requireRoom N (nI D.length)).bind fun x3 => (if x3 = 0 then ((mX0_write N (nI D.length) ds p).bind fun x6 => some (0, x6.1, x6.2.1, x6.2.2)) else some (x3, 0, nI D.length, ds))) else some (2, 0, nI D.length, ds) := by
    unfold mX3_sign mX3_sign_9
    by_cases a : p < 0
    · rw [if_pos a, if_neg (fun z => (fa_of_lt a).2.1 z.1)]
    · rw [if_neg a]
      have h0 := fa_of_nlt a
      by_cases b : p ≤ (5 : Int32)
      · rw [if_pos b, if_pos ⟨h0, b⟩]
      · rw [if_neg b, if_neg (fun z => b z.2)]
  rw [hs]
  by_cases hp : 0 ≤ p ∧ p ≤ 5
  · obtain ⟨k, hk, rfl⟩ := nI_of2 (x := p) (M := 5) (n := 5) rfl (fun z => (fa_of_lt z).2.1 hp.1) hp.2
    rw [if_pos hp, decide_eq_true hp, if_pos rfl, d_room N h15, Option.bind_some]
    by_cases hl : D.length < 15
    · rw [if_pos hl, if_pos rfl, if_pos hl, d_write N _ hl, Option.bind_some, if_neg (by decide)]
      have ec : 2000000 + k = cv k := by unfold cv; rw [if_pos (by omega)]
      have := q_write (D := D) (dr := dr) N (2000000 + k) hl
      rw [show (2000000 : Int32) + nI k = nI (2000000 + k) from nI_add 2000000 k, this, Option.bind_some]
      refine ⟨0, _, _, D ++ [k], _, _, _, _, 0, rfl, rfl, ?_, .inl ⟨rfl, rfl, by rw [len_app, len_app]⟩⟩
      have hh := dDR_app (t := k) ⟨hD, rfl, h2, rfl, h4⟩ hl (by omega)
      rw [← ec] at hh
      rw [len_app] at hh ⊢
      rw [len_app]
      exact hh
    · rw [if_neg hl, if_neg (by decide), if_neg hl, if_pos (by decide)]
      exact ⟨3, _, _, D, _, _, _, _, 2, rfl, rfl, ⟨hD, rfl, h2, rfl, h4⟩, .inr (.inr ⟨rfl, rfl⟩)⟩
  · rw [if_neg hp, decide_eq_false hp, if_neg Bool.false_ne_true, if_pos (by decide)]
    exact ⟨2, _, _, D, _, _, _, _, 1, rfl, rfl, ⟨hD, rfl, h2, rfl, h4⟩, .inr (.inl ⟨rfl, rfl⟩)⟩
theorem dDR_nil {ds dr : Nat → Int32} : dDR [] 0 ds 0 dr := ⟨okT_nil, rfl, fun _ h => absurd h (Nat.not_lt_zero _), rfl, fun _ h => absurd h (Nat.not_lt_zero _)⟩
theorem c_fault (h : dDR D dc ds df dr) (hN : 31 ≤ N) (th : Int32) : ∃ r : Int32, mX3_fault N dc ds = some r ∧ mX4_fault N df dr th = some (r, 0) := by
  obtain ⟨hD, h1, h2, h3, h4⟩ := h
  subst h1 h3
  unfold mX3_fault mX4_fault
  rw [d_flt hD h2 hN, q_flt hD h4 hN]
  exact ⟨_, rfl, rfl⟩
end DRAFT
