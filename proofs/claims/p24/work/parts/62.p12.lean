/-! the draft in both programs -/
def flt : Nat → Bool → List Nat → Nat → Option Nat
  | d, due, [], k => if due = true ∨ 0 < d then some k else none
  | d, true, c :: r, k => if c = 4 then flt (d + 1) true r (k + 1) else if 6 ≤ c then flt d false r (k + 1) else if c = 1 then flt d true r (k + 1) else some k
  | d, false, c :: r, k => if c ≤ 3 then flt d true r (k + 1) else if c = 5 ∧ 0 < d then flt (d - 1) false r (k + 1) else some k
theorem flt_aut : ∀ (l : List Nat) (d : Nat) (due : Bool) (k : Nat), flt d due l k = none ↔ aut d due l = true
  | [], d, due, k => by
    simp only [flt, aut]
    cases due with
    | true => simp
    | false =>
      rcases Nat.eq_zero_or_pos d with z | z
      · subst z; simp
      · rw [if_pos (.inr z)]
        simp; omega
  | c :: r, d, true, k => by
    simp only [flt, aut]
    split
    · exact flt_aut r _ _ _
    · split
      · exact flt_aut r _ _ _
      · split
        · exact flt_aut r _ _ _
        · simp
  | c :: r, d, false, k => by
    simp only [flt, aut]
    split
    · exact flt_aut r _ _ _
    · split
      · exact flt_aut r _ _ _
      · simp
def fI : Option Nat → Int32
  | none => -1
  | some k => nI k
theorem flt_le : ∀ (l : List Nat) (d : Nat) (due : Bool) (k x : Nat), flt d due l k = some x → x ≤ k + l.length
  | [], d, due, k, x, h => by
    simp only [flt] at h
    split at h
    · injection h with h; simp; omega
    · exact nomatch h
  | c :: r, d, true, k, x, h => by
    simp only [List.length_cons]
    simp only [flt] at h
    split at h
    · have := flt_le r _ _ _ _ h; omega
    · split at h
      · have := flt_le r _ _ _ _ h; omega
      · split at h
        · have := flt_le r _ _ _ _ h; omega
        · injection h with h; omega
  | c :: r, d, false, k, x, h => by
    simp only [List.length_cons]
    simp only [flt] at h
    split at h
    · have := flt_le r _ _ _ _ h; omega
    · split at h
      · have := flt_le r _ _ _ _ h; omega
      · injection h with h; omega
section DR
variable {N : Nat} {D : List Nat}
theorem d_flt_l {ds : Nat → Int32} (hD : okT D) (hds : ∀ i, i < D.length → ds i = nI (tk D i)) : ∀ (y k n d : Nat) (due : Bool), k + y = D.length → y < n → d ≤ k → mX0_faultPlace_6 N (nI D.length) ds n (nI d) (bI due) (nI k) = some (fI (flt d due (D.drop k) k))
  | _, _, 0, _, _, _, h, _ => absurd h (Nat.not_lt_zero _)
  | 0, k, n + 1, d, due, h1, h2, h3 => by
    have h15 := hD.1
    have hk : k = D.length := by omega
    rw [List.drop_eq_nil_of_le (by omega)]
    simp only [mX0_faultPlace_6, mX0_faultPlace_6_b, mX0_faultPlace_102, mX0_faultPlace_110, mX0_faultPlace_118, flt]
    rw [if_pos (nI_le (by omega) (by omega))]
    cases due with
    | true => rw [if_neg (by decide), if_pos (.inl rfl), hk]; rfl
    | false =>
      rw [if_pos bI_f]
      rcases Nat.eq_zero_or_pos d with z | z
      · subst z
        rw [if_pos (by decide), if_neg (by decide)]; rfl
      · rw [if_neg (nI_nle z (by omega)), if_pos (.inr z), hk]; rfl
  | y + 1, k, n + 1, d, due, h1, h2, h3 => by
    have h15 := hD.1
    have hk : k < D.length := by omega
    have ih := fun d due h => d_flt_l hD hds y (k + 1) n d due (by omega) (by omega) h
    cases e : D.drop k with
    | nil => have := dr_nil e; omega
    | cons c r =>
      obtain ⟨_, hc, hr⟩ := dr_cons e
      rw [hr] at ih
      have hc6 := hD.2 k hk
      rw [hc] at hc6
      have e4 : nI c = (4 : Int32) ↔ c = 4 := nI_eq (a := c) (b := 4) (by omega) (by omega)
      have e1 : nI c = (1 : Int32) ↔ c = 1 := nI_eq (a := c) (b := 1) (by omega) (by omega)
      have e5 : nI c = (5 : Int32) ↔ c = 5 := nI_eq (a := c) (b := 5) (by omega) (by omega)
      have e6 : nI c < (6 : Int32) ↔ c < 6 := nI_ltI (a := c) (b := 6) (by omega) (by omega)
      have e3 : (3 : Int32) < nI c ↔ 3 < c := nI_ltI (a := 3) (b := c) (by omega) (by omega)
      simp only [mX0_faultPlace_6, mX0_faultPlace_6_b, mX0_faultPlace_94, mX0_faultPlace_96]
      rw [if_neg (nI_ge (by omega) (by omega)), if_neg (show ¬ (15 : Int32) ≤ nI k from nI_ge (a := k) (b := 15) (by omega) (by omega)), if_neg (nI_in (by omega) (by omega)), nI_clamp (by omega), hds k hk, hc, nI_1]
      cases due with
      | true =>
        rw [if_neg (by decide)]
        simp only [flt]
        by_cases c4 : c = 4
        · rw [if_pos (e4.mpr c4), if_pos c4, nI_1]
          exact ih (d + 1) true (by omega)
        · rw [if_neg (fun z => c4 (e4.mp z)), if_neg c4]
          by_cases c6 : 6 ≤ c
          · rw [if_neg (fun z => by have := e6.mp z; omega), if_pos c6]
            exact ih d false (by omega)
          · rw [if_pos (e6.mpr (by omega)), if_neg c6]
            by_cases c1 : c = 1
            · rw [if_pos (e1.mpr c1), if_pos c1]
              exact ih d true (by omega)
            · rw [if_neg (fun z => c1 (e1.mp z)), if_neg c1]
              rfl
      | false =>
        rw [if_pos bI_f]
        simp only [flt]
        by_cases c3 : c ≤ 3
        · rw [if_neg (fun z => by have := e3.mp z; omega), if_pos c3]
          exact ih d true (by omega)
        · rw [if_pos (e3.mpr (by omega)), if_neg c3]
          by_cases c5 : c = 5
          · rw [if_pos (e5.mpr c5)]
            rcases Nat.eq_zero_or_pos d with z | z
            · subst z
              rw [if_pos (by decide), if_neg (by omega)]; rfl
            · obtain ⟨d, rfl⟩ : ∃ z, d = z + 1 := ⟨d - 1, by omega⟩
              rw [if_neg (nI_nle z (by omega)), if_pos ⟨c5, z⟩, pk_m1]
              exact ih d false (by omega)
          · rw [if_neg (fun z => c5 (e5.mp z)), if_neg (fun z => c5 z.1)]
            rfl
theorem d_flt {ds : Nat → Int32} (hD : okT D) (hds : ∀ i, i < D.length → ds i = nI (tk D i)) (hN : 31 ≤ N) : mX0_faultPlace N (nI D.length) ds = some (fI (flt 0 true D 0)) := by
  have h15 := hD.1
  exact d_flt_l hD hds D.length 0 N 0 true (by omega) (by omega) (Nat.le_refl _)
end DR

