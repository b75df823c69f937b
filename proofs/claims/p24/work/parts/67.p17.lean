/-! calls that ask -/
theorem eL_F {v : Option Int} (h : okV v) : lg_cmp (eL v) (-9223372036854775808) = 0 ↔ v = none := by
  cases v with
  | none => exact ⟨fun _ => rfl, fun _ => cm_FF⟩
  | some z => exact ⟨fun y => absurd y (cm_F (bd_sm (h z rfl))), fun y => (nomatch y)⟩
theorem d_rv (N : Nat) {v : Option Int} (h : okV v) : mX3_requireValue N (eL v) = some (if v = none then 4 else 0) := by
  unfold mX3_requireValue
  by_cases e : v = none
  · rw [if_pos ((eL_F h).mpr e), if_pos e]
  · rw [if_neg (fun z => e ((eL_F h).mp z)), if_neg e]
theorem h_nz (x : Int32) (h : ¬ x = 0) : (bI (decide (x = 0)), x).1 = 0 := by rw [decide_eq_false h]; rfl
theorem h_z : ¬ (bI (decide ((0 : Int32) = 0)), (0 : Int32)).1 = 0 := by decide
theorem okV_n : okV none := fun _ y => (nomatch y)
section ASK
variable {N : Nat} {T : Nat → List Nat} {fw : Nat → Int32} {fn : Nat → Nat} {ff : Nat → Nat → Int32} {va : Nat → Int64} {fm sz : Nat → Int32}
theorem d_fy_l {V : Nat → Option Int} (hV : ∀ j, j < 30 → okV (V j)) (hva : ∀ j, j < 30 → va j = eL (V j)) : ∀ (d k n : Nat), k + d = 30 → d < n → mX3_faulty_4 N va n (nI (fb_ct (fun j => (V j).isNone) k)) (nI k) = some (nI (fb_ct (fun j => (V j).isNone) 30))
  | _, _, 0, _, h => absurd h (Nat.not_lt_zero _)
  | 0, k, n + 1, h1, h2 => by
    have : k = 30 := by omega
    subst this
    simp only [mX3_faulty_4, mX3_faulty_4_b]
    rw [if_pos (by decide)]
  | d + 1, k, n + 1, h1, h2 => by
    have hk : k < 30 := by omega
    simp only [mX3_faulty_4, mX3_faulty_4_b, mX3_faulty_26]
    have ih := d_fy_l hV hva d (k + 1) n (by omega) (by omega)
    rw [fb_ct_succ] at ih
    rw [if_neg (show ¬ (30 : Int32) ≤ nI k from nI_ge (a := k) (b := 30) (by omega) (by omega)), if_neg (nI_in hk (by omega)), nI_clamp (by omega), hva k hk, nI_1 k]
    cases e : V k with
    | none =>
      rw [if_pos ((eL_F okV_n).mpr rfl), nI_1]
      rw [e] at ih; exact ih
    | some z =>
      have ho := hV k hk
      rw [e] at ho
      rw [if_neg (fun y => by have := (eL_F ho).mp y; exact nomatch this)]
      rw [e] at ih; exact ih
end ASK

/-- the level: how many steps of naming go on from a set of cells -/
def lvI (E : Nat → Nat → Bool) : Nat → (Nat → Bool) → Nat
  | 0 => fun _ => 0
  | n + 1 => fun p => if fb_ct p 30 = 0 then 0 else lvI E n (nba p E 30) + 1
def lv (T : Nat → List Nat) (c : Nat) : Nat := lvI (EE T) 31 (EE T c)
theorem lvI_mono {E : Nat → Nat → Bool} {rk : Nat → Nat} (hr : ∀ i j, i < 30 → j < 30 → E i j = true → rk j < rk i) : ∀ (d f f' : Nat) (p q : Nat → Bool), (∀ i, i < 30 → p i = true → q i = true) → (∀ i, i < 30 → p i = true → rk i < d) → d < f' → lvI E f p ≤ lvI E f' q
  | _, 0, _, _, _, _, _, _ => Nat.zero_le _
  | _, _ + 1, 0, _, _, _, _, h => absurd h (Nat.not_lt_zero _)
  | d, f + 1, f' + 1, p, q, h1, h2, h3 => by
    simp only [lvI]
    by_cases e : fb_ct p 30 = 0
    · rw [if_pos e]; exact Nat.zero_le _
    · obtain ⟨i, hi, pi⟩ := fb_ct_pos.mp (Nat.pos_of_ne_zero e)
      have hd := h2 i hi pi
      obtain ⟨d, rfl⟩ : ∃ y, d = y + 1 := ⟨d - 1, by omega⟩
      have e' : ¬ fb_ct q 30 = 0 := fun z => by
        have := fb_ct_zero.mp z i hi
        rw [h1 i hi pi] at this; exact absurd this (by decide)
      rw [if_neg e, if_neg e']
      have := lvI_mono hr d f f' (nba p E 30) (nba q E 30) (fun j hj z => by
        obtain ⟨a, ha, b, c⟩ := nba_iff.mp z
        exact nba_iff.mpr ⟨a, ha, h1 a ha b, c⟩) (fun j hj z => by
        obtain ⟨a, ha, b, c⟩ := nba_iff.mp z
        have := hr a j ha hj c
        have := h2 a ha b
        omega) (by omega)
      omega
theorem lv_pos {T : Nat → List Nat} {c : Nat} : 0 < lv T c ↔ ∃ j, j < 30 ∧ EE T c j = true := by
  unfold lv
  simp only [lvI]
  by_cases e : fb_ct (EE T c) 30 = 0
  · rw [if_pos e]
    refine ⟨fun z => absurd z (Nat.lt_irrefl _), fun ⟨j, hj, z⟩ => ?_⟩
    have := fb_ct_zero.mp e j hj
    rw [z] at this; exact absurd this (by decide)
  · rw [if_neg e]
    exact ⟨fun _ => fb_ct_pos.mp (Nat.pos_of_ne_zero e), fun _ => Nat.succ_pos _⟩
theorem lv_edge {T : Nat → List Nat} (h : acy (EE T)) {a b : Nat} (ha : a < 30) (hb : b < 30) (e : EE T a b = true) : lv T b < lv T a := by
  obtain ⟨rk, hk, hr⟩ := acy_b h
  have h1 := hr a b ha hb e
  have h2 := hk a
  have e' : ¬ fb_ct (EE T a) 30 = 0 := fun z => by
    have := fb_ct_zero.mp z b hb
    rw [e] at this; exact absurd this (by decide)
  have ea : lv T a = lvI (EE T) 30 (nba (EE T a) (EE T) 30) + 1 := by
    show lvI (EE T) 31 (EE T a) = _
    simp only [lvI]
    rw [if_neg e']
  rw [ea]
  have := lvI_mono hr (rk b) 31 30 (EE T b) (nba (EE T a) (EE T) 30) (fun j hj z => nba_iff.mpr ⟨b, hb, e, z⟩) (fun j hj z => hr b j hb hj z) (by omega)
  exact Nat.lt_succ_of_le this
theorem lv_clo {T : Nat → List Nat} (h : acy (EE T)) {a j : Nat} (ha : a < 30) (c : clo (EE T) (fun x => x == a) j) : j = a ∨ lv T j < lv T a :=
  c (fun j => j = a ∨ lv T j < lv T a) (fun i _ e => .inl (by simpa using e)) (fun i k hi hk t e => by
    have := lv_edge h hi hk e
    rcases t with rfl | t
    · exact .inr this
    · exact .inr (by omega))
section ASK2
variable {N : Nat} {T : Nat → List Nat} {fw : Nat → Int32} {fn : Nat → Nat} {ff : Nat → Nat → Int32} {va : Nat → Int64}
theorem t_lev_l (hE : ∀ i, i < 30 → mk (EE T i) (fw i)) (hN : 31 ≤ N) {rk : Nat → Nat} (hr : ∀ i j, i < 30 → j < 30 → EE T i j = true → rk j < rk i) : ∀ (d t n f : Nat) (p : Nat → Bool) (v : Int32), t + d ≤ 30 → d < n → d < f → mk p v → (∀ i, i < 30 → p i = true → rk i < d) → mX3_level_16 N fw fn ff n (nI t) v = some (0, nI (t + lvI (EE T) f p))
  | _, _, 0, _, _, _, _, h, _, _, _ => absurd h (Nat.not_lt_zero _)
  | _, _, _, 0, _, _, _, _, h, _, _ => absurd h (Nat.not_lt_zero _)
  | d, t, n + 1, f + 1, p, v, h1, h2, h3, h4, h6 => by
    simp only [mX3_level_16, mX3_level_16_b, mX3_level_38, lvI]
    by_cases e : v = 0
    · rw [if_pos e, if_pos (fb_ct_zero.mpr ((mk_z h4).mp e))]; rfl
    · obtain ⟨i, hi, pi⟩ := (mk_ne h4).mp e
      have hd := h6 i hi pi
      obtain ⟨d, rfl⟩ : ∃ y, d = y + 1 := ⟨d - 1, by omega⟩
      obtain ⟨m, em, hm⟩ := s_nba (fn := fn) (ff := ff) (N := N) hE h4 hN
      have e' : ¬ fb_ct p 30 = 0 := fun z => by
        have := fb_ct_zero.mp z i hi
        rw [pi] at this; exact absurd this (by decide)
      rw [if_neg e, if_neg (show ¬ (30 : Int32) ≤ nI t from nI_ge (a := t) (b := 30) (by omega) (by omega)), em, Option.bind_some, nI_1, if_neg e']
      rw [t_lev_l hE hN hr d (t + 1) n f _ m (by omega) (by omega) (by omega) hm (fun j hj z => by
        obtain ⟨a, ha, b, c⟩ := nba_iff.mp z
        have := hr a j ha hj c
        have := h6 a ha b
        omega), show t + 1 + lvI (EE T) f (nba p (EE T) 30) = t + (lvI (EE T) f (nba p (EE T) 30) + 1) by omega]
end ASK2
