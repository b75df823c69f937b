/-! a strict reading of a formula; the reference's two stacks as lists; they agree -/
def neg (v : Option Int) : Option Int := v.map (fun z => -z)
/-- modes: 0 factor, 1 product, 2 its rest, 3 sum, 4 its rest -/
def prs (V : Nat → Option Int) : Nat → Nat → Option Int → List Nat → Option (Option Int × List Nat)
  | 0 => fun _ _ _ => none
  | k + 1 => fun m a l =>
    if m = 0 then
      match l with
      | [] => none
      | c :: r =>
        if c = 1 then (prs V k 0 none r).bind (fun q => some (neg q.1, q.2))
        else if c = 4 then (prs V k 3 none r).bind (fun q => match q.2 with
          | [] => none
          | c2 :: r2 => if c2 = 5 then some (q.1, r2) else none)
        else if c < 6 then none
        else some (if c < 36 then V (c - 6) else some ((c - 36 : Nat) : Int), r)
    else if m = 1 then (prs V k 0 none l).bind (fun q => prs V k 2 q.1 q.2)
    else if m = 2 then
      match l with
      | [] => some (a, [])
      | c :: r => if c = 2 ∨ c = 3 then (prs V k 0 none r).bind (fun q => prs V k 2 (comb c a q.1) q.2) else some (a, c :: r)
    else if m = 3 then (prs V k 1 none l).bind (fun q => prs V k 4 q.1 q.2)
    else
      match l with
      | [] => some (a, [])
      | c :: r => if c = 0 ∨ c = 1 then (prs V k 1 none r).bind (fun q => prs V k 4 (comb c a q.1) q.2) else some (a, c :: r)
theorem prs_0 (V : Nat → Option Int) (k : Nat) (a : Option Int) (l : List Nat) : prs V (k + 1) 0 a l = match l with
      | [] => none
      | c :: r =>
        if c = 1 then (prs V k 0 none r).bind (fun q => some (neg q.1, q.2))
        else if c = 4 then (prs V k 3 none r).bind (fun q => match q.2 with
          | [] => none
          | c2 :: r2 => if c2 = 5 then some (q.1, r2) else none)
        else if c < 6 then none
        else some (if c < 36 then V (c - 6) else some ((c - 36 : Nat) : Int), r) := rfl
theorem prs_1 (V : Nat → Option Int) (k : Nat) (a : Option Int) (l : List Nat) : prs V (k + 1) 1 a l = (prs V k 0 none l).bind (fun q => prs V k 2 q.1 q.2) := rfl
theorem prs_2 (V : Nat → Option Int) (k : Nat) (a : Option Int) (l : List Nat) : prs V (k + 1) 2 a l = match l with
      | [] => some (a, [])
      | c :: r => if c = 2 ∨ c = 3 then (prs V k 0 none r).bind (fun q => prs V k 2 (comb c a q.1) q.2) else some (a, c :: r) := rfl
theorem prs_3 (V : Nat → Option Int) (k : Nat) (a : Option Int) (l : List Nat) : prs V (k + 1) 3 a l = (prs V k 1 none l).bind (fun q => prs V k 4 q.1 q.2) := rfl
theorem prs_4 (V : Nat → Option Int) (k : Nat) (a : Option Int) (l : List Nat) : prs V (k + 1) 4 a l = match l with
      | [] => some (a, [])
      | c :: r => if c = 0 ∨ c = 1 then (prs V k 1 none r).bind (fun q => prs V k 4 (comb c a q.1) q.2) else some (a, c :: r) := rfl
/-- a formula's form: brackets open, factor due -/
def aut : Nat → Bool → List Nat → Bool
  | d, due, [] => !due && d == 0
  | d, true, c :: r => if c = 4 then aut (d + 1) true r else if 6 ≤ c then aut d false r else if c = 1 then aut d true r else false
  | d, false, c :: r => if c ≤ 3 then aut d true r else if c = 5 ∧ 0 < d then aut (d - 1) false r else false
def nhd (l : List Nat) (k : Nat) : Prop := ∀ c r, l = c :: r → k ≤ c
theorem prs_ex (V : Nat → Option Int) : ∀ (k : Nat),
    (∀ d l a, aut d true l = true → 6 * l.length + 1 ≤ k → ∃ v r, prs V k 0 a l = some (v, r) ∧ aut d false r = true ∧ r.length < l.length) ∧
    (∀ d l a, aut d true l = true → 6 * l.length + 3 ≤ k → ∃ v r, prs V k 1 a l = some (v, r) ∧ aut d false r = true ∧ r.length < l.length ∧ (∀ c r', r = c :: r' → c ≠ 2 ∧ c ≠ 3)) ∧
    (∀ d l a, aut d false l = true → 6 * l.length + 2 ≤ k → ∃ v r, prs V k 2 a l = some (v, r) ∧ aut d false r = true ∧ r.length ≤ l.length ∧ (∀ c r', r = c :: r' → c ≠ 2 ∧ c ≠ 3)) ∧
    (∀ d l a, aut d true l = true → 6 * l.length + 4 ≤ k → ∃ v r, prs V k 3 a l = some (v, r) ∧ aut d false r = true ∧ r.length < l.length ∧ nhd r 4) ∧
    (∀ d l a, aut d false l = true → (∀ c r', l = c :: r' → c ≠ 2 ∧ c ≠ 3) → 6 * l.length + 2 ≤ k → ∃ v r, prs V k 4 a l = some (v, r) ∧ aut d false r = true ∧ r.length ≤ l.length ∧ nhd r 4)
  | 0 => ⟨fun _ _ _ _ h => absurd h (by omega), fun _ _ _ _ h => absurd h (by omega), fun _ _ _ _ h => absurd h (by omega), fun _ _ _ _ h => absurd h (by omega), fun _ _ _ _ _ h => absurd h (by omega)⟩
  | k + 1 => by
    obtain ⟨i0, i1, i2, i3, i4⟩ := prs_ex V k
    refine ⟨?_, ?_, ?_, ?_, ?_⟩
    · intro d l a h hk
      cases l with
      | nil => simp [aut] at h
      | cons c r =>
        simp only [prs_0]
        simp only [aut] at h
        simp only [List.length_cons] at hk ⊢
        by_cases c4 : c = 4
        · rw [if_pos c4] at h
          rw [if_neg (by omega), if_pos c4]
          obtain ⟨v, r2, e, h2, hl, hn⟩ := i3 (d + 1) r none h (by omega)
          rw [e, Option.bind_some]
          cases r2 with
          | nil => simp [aut] at h2
          | cons c2 r3 =>
            have := hn c2 r3 rfl
            simp only [aut] at h2
            rw [if_neg (by omega)] at h2
            by_cases c5 : c2 = 5
            · rw [if_pos ⟨c5, by omega⟩] at h2
              exact ⟨v, r3, by simp only [if_pos c5], by simpa using h2, by simp only [List.length_cons] at hl; omega⟩
            · rw [if_neg (fun z => c5 z.1)] at h2
              exact absurd h2 (by decide)
        · rw [if_neg c4] at h
          by_cases c6 : 6 ≤ c
          · rw [if_pos c6] at h
            rw [if_neg (by omega), if_neg c4, if_neg (by omega)]
            exact ⟨_, r, rfl, h, by omega⟩
          · rw [if_neg c6] at h
            by_cases c1 : c = 1
            · rw [if_pos c1] at h
              obtain ⟨v, r2, e, h2, hl⟩ := i0 d r none h (by omega)
              rw [if_pos c1, e]
              exact ⟨neg v, r2, rfl, h2, by omega⟩
            · rw [if_neg c1] at h; exact absurd h (by decide)
    · intro d l a h hk
      rw [prs_1]
      obtain ⟨v, r, e, h2, hl⟩ := i0 d l none h (by omega)
      rw [e, Option.bind_some]
      obtain ⟨v2, r2, e2, h3, hl2, hn⟩ := i2 d r v h2 (by omega)
      exact ⟨v2, r2, e2, h3, by omega, hn⟩
    · intro d l a h hk
      rw [prs_2]
      cases l with
      | nil => exact ⟨a, [], rfl, h, Nat.le_refl _, fun _ _ z => nomatch z⟩
      | cons c r =>
        simp only [List.length_cons] at hk ⊢
        by_cases hc : c = 2 ∨ c = 3
        · simp only [if_pos hc]
          simp only [aut] at h
          rw [if_pos (by omega)] at h
          obtain ⟨v, r2, e, h2, hl⟩ := i0 d r none h (by omega)
          rw [e, Option.bind_some]
          obtain ⟨v2, r3, e2, h3, hl2, hn⟩ := i2 d r2 (comb c a v) h2 (by omega)
          exact ⟨v2, r3, e2, h3, by omega, hn⟩
        · simp only [if_neg hc]
          refine ⟨a, c :: r, rfl, h, Nat.le_refl _, fun x y z => ?_⟩
          injection z with z1 z2
          subst z1
          omega
    · intro d l a h hk
      rw [prs_3]
      obtain ⟨v, r, e, h2, hl, hn⟩ := i1 d l none h (by omega)
      rw [e, Option.bind_some]
      obtain ⟨v2, r2, e2, h3, hl2, hn2⟩ := i4 d r v h2 hn (by omega)
      exact ⟨v2, r2, e2, h3, by omega, hn2⟩
    · intro d l a h hn hk
      rw [prs_4]
      cases l with
      | nil => exact ⟨a, [], rfl, h, Nat.le_refl _, fun _ _ z => nomatch z⟩
      | cons c r =>
        simp only [List.length_cons] at hk ⊢
        by_cases hc : c = 0 ∨ c = 1
        · simp only [if_pos hc]
          simp only [aut] at h
          rw [if_pos (by omega)] at h
          obtain ⟨v, r2, e, h2, hl, hn2⟩ := i1 d r none h (by omega)
          rw [e, Option.bind_some]
          obtain ⟨v2, r3, e2, h3, hl2, hn3⟩ := i4 d r2 (comb c a v) h2 hn2 (by omega)
          exact ⟨v2, r3, e2, h3, by omega, hn3⟩
        · simp only [if_neg hc]
          have := hn c r rfl
          refine ⟨a, c :: r, rfl, h, Nat.le_refl _, fun x y z => ?_⟩
          injection z with z1 z2
          subst z1
          omega
/-- the value of a formula, V the cells' -/
def evF (V : Nat → Option Int) (l : List Nat) : Option Int := if l = [] then some 0 else match prs V 100 3 none l with
  | some q => q.1
  | none => none
theorem evF_prs (V : Nat → Option Int) {l : List Nat} (hl : okT l) (h : aut 0 true l = true) : prs V 100 3 none l = some (evF V l, []) := by
  obtain ⟨v, r, e, h2, _, hn⟩ := (prs_ex V 100).2.2.2.1 0 l none h (by have := hl.1; omega)
  have hr : r = [] := by
    cases r with
    | nil => rfl
    | cons c r' =>
      have := hn c r' rfl
      simp only [aut] at h2
      rw [if_neg (by omega), if_neg (by omega)] at h2
      exact absurd h2 (by decide)
  have hne : l ≠ [] := fun z => by subst z; simp [aut] at h
  subst hr
  rw [e, evF, if_neg hne, e]
/-! only the cells that a formula names matter -/
theorem prs_cg (V V' : Nat → Option Int) : ∀ (k m : Nat) (a : Option Int) (l : List Nat), (∀ c, c ∈ l → 6 ≤ c → c < 36 → V (c - 6) = V' (c - 6)) → prs V k m a l = prs V' k m a l ∧ ∀ q, prs V k m a l = some q → ∀ c, c ∈ q.2 → c ∈ l
  | 0, _, _, _, _ => ⟨rfl, fun _ h => nomatch h⟩
  | k + 1, m, a, l, h => by
    have ih := prs_cg V V' k
    have two : ∀ (m1 m2 : Nat) (l' : List Nat) (g : Option Int → Option Int), (∀ c, c ∈ l' → c ∈ l) → ((prs V k m1 none l').bind (fun q => prs V k m2 (g q.1) q.2) = (prs V' k m1 none l').bind (fun q => prs V' k m2 (g q.1) q.2)) ∧ ∀ q, (prs V k m1 none l').bind (fun q => prs V k m2 (g q.1) q.2) = some q → ∀ c, c ∈ q.2 → c ∈ l := by
      intro m1 m2 l' g hs
      obtain ⟨e1, e2⟩ := ih m1 none l' (fun c hc => h c (hs c hc))
      rw [← e1]
      cases e : prs V k m1 none l' with
      | none => exact ⟨by trivial, fun _ z => nomatch z⟩
      | some q =>
        rw [Option.bind_some, Option.bind_some]
        have hq := e2 q e
        obtain ⟨e3, e4⟩ := ih m2 (g q.1) q.2 (fun c hc => h c (hs c (hq c hc)))
        exact ⟨e3, fun x hx c hc => hs c (hq c (e4 x hx c hc))⟩
    simp only [prs]
    by_cases m0 : m = 0
    · simp only [if_pos m0]
      cases l with
      | nil => exact ⟨by trivial, fun _ z => nomatch z⟩
      | cons c r =>
        have hs : ∀ x, x ∈ r → x ∈ c :: r := fun x hx => List.mem_cons_of_mem _ hx
        by_cases c1 : c = 1
        · simp only [if_pos c1]
          obtain ⟨e1, e2⟩ := ih 0 none r (fun x hx => h x (hs x hx))
          rw [← e1]
          cases e : prs V k 0 none r with
          | none => exact ⟨by trivial, fun _ z => nomatch z⟩
          | some q =>
            refine ⟨by trivial, fun x hx y hy => ?_⟩
            rw [Option.bind_some] at hx
            injection hx with hx
            subst hx
            exact hs y (e2 q e y hy)
        · simp only [if_neg c1]
          by_cases c4 : c = 4
          · simp only [if_pos c4]
            obtain ⟨e1, e2⟩ := ih 3 none r (fun x hx => h x (hs x hx))
            rw [← e1]
            cases e : prs V k 3 none r with
            | none => exact ⟨by trivial, fun _ z => nomatch z⟩
            | some q =>
              refine ⟨by trivial, fun x hx y hy => ?_⟩
              have e3 := e2 q e
              rw [Option.bind_some] at hx
              cases e4 : q.2 with
              | nil => rw [e4] at hx; exact nomatch hx
              | cons c2 r2 =>
                rw [e4] at hx e3
                simp only at hx
                by_cases c5 : c2 = 5
                · rw [if_pos c5] at hx
                  injection hx with hx
                  subst hx
                  exact hs y (e3 y (List.mem_cons_of_mem _ hy))
                · rw [if_neg c5] at hx; exact nomatch hx
          · simp only [if_neg c4]
            by_cases c6 : c < 6
            · simp only [if_pos c6]; exact ⟨by trivial, fun _ z => nomatch z⟩
            · simp only [if_neg c6]
              constructor
              · by_cases c36 : c < 36
                · rw [if_pos c36, if_pos c36, h c List.mem_cons_self (by omega) c36]
                · rw [if_neg c36, if_neg c36]
              · intro q hq y hy
                injection hq with hq
                subst hq
                exact hs y hy
    · simp only [if_neg m0]
      by_cases m1 : m = 1
      · simp only [if_pos m1]
        exact two 0 2 l (fun x => x) (fun _ z => z)
      · simp only [if_neg m1]
        by_cases m2 : m = 2
        · simp only [if_pos m2]
          cases l with
          | nil => exact ⟨by trivial, fun q hq => by injection hq with hq; subst hq; exact fun _ z => z⟩
          | cons c r =>
            by_cases hc : c = 2 ∨ c = 3
            · simp only [if_pos hc]
              exact two 0 2 r (fun x => comb c a x) (fun x hx => List.mem_cons_of_mem _ hx)
            · simp only [if_neg hc]
              exact ⟨by trivial, fun q hq => by injection hq with hq; subst hq; exact fun _ z => z⟩
        · simp only [if_neg m2]
          by_cases m3 : m = 3
          · simp only [if_pos m3]
            exact two 1 4 l (fun x => x) (fun _ z => z)
          · simp only [if_neg m3]
            cases l with
            | nil => exact ⟨by trivial, fun q hq => by injection hq with hq; subst hq; exact fun _ z => z⟩
            | cons c r =>
              by_cases hc : c = 0 ∨ c = 1
              · simp only [if_pos hc]
                exact two 1 4 r (fun x => comb c a x) (fun x hx => List.mem_cons_of_mem _ hx)
              · simp only [if_neg hc]
                exact ⟨by trivial, fun q hq => by injection hq with hq; subst hq; exact fun _ z => z⟩
theorem tk_mem {l : List Nat} {c : Nat} (h : c ∈ l) : ∃ i, i < l.length ∧ tk l i = c := by
  obtain ⟨i, hi, e⟩ := List.getElem_of_mem h
  exact ⟨i, hi, by
    unfold tk
    rw [List.getD_eq_getElem?_getD, List.getElem?_eq_getElem hi, e]; rfl⟩
theorem evF_cg {V V' : Nat → Option Int} {l : List Nat} (h : ∀ j, j < 30 → nm l j = true → V j = V' j) : evF V l = evF V' l := by
  unfold evF
  rw [(prs_cg V V' 100 3 none l (fun c hc h6 h36 => ?_)).1]
  refine h (c - 6) (by omega) (nmk_iff.mpr ?_)
  obtain ⟨i, hi, e⟩ := tk_mem hc
  exact ⟨i, hi, by omega⟩
theorem neg_ok {v : Option Int} (h : okV v) : okV (neg v) := fun z e => by
  cases v with
  | none => cases e
  | some x =>
    have := h x rfl
    injection e with e
    have e : -x = z := e
    subst e
    unfold bd at *; omega
/-! results are in bounds -/
theorem prs_ok (V : Nat → Option Int) (hV : ∀ j, j < 30 → okV (V j)) : ∀ (k m : Nat) (a : Option Int) (l : List Nat), okV a → (∀ c, c ∈ l → c < 1000036) → ∀ q, prs V k m a l = some q → okV q.1
  | 0, _, _, _, _, _ => fun _ h => nomatch h
  | k + 1, m, a, l, ha, h => by
    have ih := prs_ok V hV k
    have no : okV none := fun _ z => nomatch z
    have two : ∀ (m1 m2 : Nat) (l' : List Nat) (g : Option Int → Option Int), (∀ x, okV x → okV (g x)) → (∀ c, c ∈ l' → c ∈ l) → ∀ q, (prs V k m1 none l').bind (fun q => prs V k m2 (g q.1) q.2) = some q → okV q.1 := by
      intro m1 m2 l' g hg hs q hq
      cases e : prs V k m1 none l' with
      | none => rw [e] at hq; exact nomatch hq
      | some x =>
        rw [e, Option.bind_some] at hq
        have h1 := ih m1 none l' no (fun c hc => h c (hs c hc)) x e
        exact ih m2 (g x.1) x.2 (hg _ h1) (fun c hc => h c (hs c ((prs_cg V V k m1 none l' (fun _ _ _ _ => rfl)).2 x e c hc))) q hq
    simp only [prs]
    by_cases m0 : m = 0
    · simp only [if_pos m0]
      cases l with
      | nil => exact fun _ z => nomatch z
      | cons c r =>
        have hs : ∀ x, x ∈ r → x < 1000036 := fun x hx => h x (List.mem_cons_of_mem _ hx)
        by_cases c1 : c = 1
        · simp only [if_pos c1]
          intro q hq
          cases e : prs V k 0 none r with
          | none => rw [e] at hq; exact nomatch hq
          | some x =>
            rw [e, Option.bind_some] at hq
            injection hq with hq
            subst hq
            exact neg_ok (ih 0 none r no hs x e)
        · simp only [if_neg c1]
          by_cases c4 : c = 4
          · simp only [if_pos c4]
            intro q hq
            cases e : prs V k 3 none r with
            | none => rw [e] at hq; exact nomatch hq
            | some x =>
              have hx := ih 3 none r no hs x e
              rw [e, Option.bind_some] at hq
              cases e4 : x.2 with
              | nil => rw [e4] at hq; exact nomatch hq
              | cons c2 r2 =>
                rw [e4] at hq
                simp only at hq
                by_cases c5 : c2 = 5
                · rw [if_pos c5] at hq
                  injection hq with hq
                  subst hq
                  exact hx
                · rw [if_neg c5] at hq; exact nomatch hq
          · simp only [if_neg c4]
            by_cases c6 : c < 6
            · simp only [if_pos c6]; exact fun _ z => nomatch z
            · simp only [if_neg c6]
              intro q hq
              injection hq with hq
              subst hq
              by_cases c36 : c < 36
              · simp only [if_pos c36]; exact hV _ (by omega)
              · simp only [if_neg c36]
                intro z hz
                injection hz with hz
                subst hz
                have := h c List.mem_cons_self
                unfold bd; omega
    · simp only [if_neg m0]
      by_cases m1 : m = 1
      · simp only [if_pos m1]
        exact two 0 2 l (fun x => x) (fun _ z => z) (fun _ z => z)
      · simp only [if_neg m1]
        by_cases m2 : m = 2
        · simp only [if_pos m2]
          cases l with
          | nil => exact fun q hq => by injection hq with hq; subst hq; exact ha
          | cons c r =>
            by_cases hc : c = 2 ∨ c = 3
            · simp only [if_pos hc]
              exact two 0 2 r (fun x => comb c a x) (fun _ _ => comb_ok _ _ _) (fun x hx => List.mem_cons_of_mem _ hx)
            · simp only [if_neg hc]
              exact fun q hq => by injection hq with hq; subst hq; exact ha
        · simp only [if_neg m2]
          by_cases m3 : m = 3
          · simp only [if_pos m3]
            exact two 1 4 l (fun x => x) (fun _ z => z) (fun _ z => z)
          · simp only [if_neg m3]
            cases l with
            | nil => exact fun q hq => by injection hq with hq; subst hq; exact ha
            | cons c r =>
              by_cases hc : c = 0 ∨ c = 1
              · simp only [if_pos hc]
                exact two 1 4 r (fun x => comb c a x) (fun _ _ => comb_ok _ _ _) (fun x hx => List.mem_cons_of_mem _ hx)
              · simp only [if_neg hc]
                exact fun q hq => by injection hq with hq; subst hq; exact ha
theorem evF_ok {V : Nat → Option Int} (hV : ∀ j, j < 30 → okV (V j)) {l : List Nat} (hl : okT l) : okV (evF V l) := by
  unfold evF
  split
  · intro z hz
    injection hz with hz
    subst hz
    unfold bd; omega
  · split
    · rename_i q e
      refine prs_ok V hV 100 3 none l (fun _ z => nomatch z) (fun c hc => ?_) q e
      obtain ⟨i, hi, e2⟩ := tk_mem hc
      rw [← e2]; exact hl.2 i hi
    · exact fun _ z => nomatch z

