/-! the reference's two stacks as lists; they give the value of a formula -/
def psh : List Nat → Int → List Nat × Int
  | [], x => ([], x)
  | c :: W, x => if c = 6 then psh W (-x) else (c :: W, x)
def jv (c : Nat) (x y : Int) (b : Bool) : Int × Bool := match comb c (some x) (some y) with
  | some z => (z, b)
  | none => (0, true)
def jal (least : Nat) : List Nat → List Int → Bool → Option (List Nat × List Int × Bool)
  | [], S, b => some ([], S, b)
  | c :: W, S, b => if c = 4 ∨ c / 2 < least then some (c :: W, S, b) else if 4 < c then none else match S with
    | y :: x :: S' => jal least W ((jv c x y b).1 :: S') (jv c x y b).2
    | _ => none
def tv (V : Nat → Option Int) (t : Nat) : Option Int := if t < 36 then V (t - 6) else some ((t - 36 : Nat) : Int)
def rdc (q : List Nat × List Int × Bool) : Option (List Nat × List Int × Bool) := match q.1, q.2.1 with
  | _ :: W, x :: S => some ((psh W x).1, (psh W x).2 :: S, q.2.2)
  | _, _ => none
def rd (V : Nat → Option Int) (t : Nat) (op : Bool) (W : List Nat) (S : List Int) (b : Bool) : Option (List Nat × List Int × Bool) :=
  if t < 6 then
    if t = 5 then (jal 0 W S b).bind rdc
    else (if t ≠ 4 ∧ op = false then jal (t / 2) W S b else some (W, S, b)).bind (fun q => some ((if t = 1 ∧ op = true then 6 else t) :: q.1, q.2.1, q.2.2))
  else some ((psh W ((tv V t).getD 0)).1, (psh W ((tv V t).getD 0)).2 :: S, b || (tv V t).isNone)
def nop (t : Nat) : Bool := decide (t < 5)
def rn (V : Nat → Option Int) : List Nat → Bool → List Nat → List Int → Bool → Option (List Nat × List Int × Bool)
  | [], _, W, S, b => jal 0 W S b
  | t :: l, op, W, S, b => (rd V t op W S b).bind (fun q => rn V l (nop t) q.1 q.2.1 q.2.2)
def gv (b : Bool) (v : Option Int) (x : Int) (b' : Bool) : Prop := b' = (b || v.isNone) ∧ (b' = false → v = some x)
theorem gv_comb {b b1 b2 : Bool} {u v : Option Int} {x y : Int} (c : Nat) (hu : gv b u x b1) (hv : gv b1 v y b2) : gv b (comb c u v) (jv c x y b2).1 (jv c x y b2).2 := by
  obtain ⟨h1, h2⟩ := hu
  obtain ⟨h3, h4⟩ := hv
  cases b2 with
  | false =>
    have e1 := h4 rfl
    subst e1
    have hb1 : b1 = false := by
      cases b1 with
      | false => rfl
      | true => simp at h3
    subst hb1
    have e2 := h2 rfl
    subst e2
    have hb : b = false := by
      cases b with
      | false => rfl
      | true => simp at h1
    subst hb
    unfold jv
    cases e : comb c (some x) (some y) with
    | none => exact ⟨rfl, fun z => absurd z (by simp)⟩
    | some z => exact ⟨rfl, fun _ => rfl⟩
  | true =>
    have hj : (jv c x y true).2 = true := by
      unfold jv
      cases comb c (some x) (some y) <;> rfl
    refine ⟨?_, fun z => absurd (hj.symm.trans z) (by decide)⟩
    rw [hj]
    cases b with
    | true => rfl
    | false =>
      cases u with
      | none => rfl
      | some u =>
        cases v with
        | none => rfl
        | some v =>
          simp at h1
          subst h1
          simp at h3
theorem gv_neg {b b' : Bool} {v : Option Int} {x : Int} (h : gv b v (-x) b') : gv b (neg v) x b' := by
  obtain ⟨h1, h2⟩ := h
  refine ⟨by rw [h1]; cases v <;> rfl, fun z => ?_⟩
  rw [h2 z]
  show some (- -x) = some x
  rw [Int.neg_neg]
def w1 (W : List Nat) : Prop := ∀ c W', W = c :: W' → c = 4 ∨ c < 2
def w0 (W : List Nat) : Prop := ∀ c W', W = c :: W' → c = 4
theorem jal_w1 {W : List Nat} (h : w1 W) (S : List Int) (b : Bool) : jal 1 W S b = some (W, S, b) := by
  cases W with
  | nil => rfl
  | cons c W =>
    have := h c W rfl
    simp only [jal]
    rw [if_pos (by omega)]
theorem jal_w0 {W : List Nat} (h : w0 W) (S : List Int) (b : Bool) : jal 0 W S b = some (W, S, b) := by
  cases W with
  | nil => rfl
  | cons c W =>
    have := h c W rfl
    simp only [jal]
    rw [if_pos (by omega)]
theorem psh_n6 {W : List Nat} (h : ∀ c W', W = c :: W' → c ≠ 6) (x : Int) : psh W x = (W, x) := by
  cases W with
  | nil => rfl
  | cons c W => exact if_neg (h c W rfl)
theorem jal_01 : ∀ (W : List Nat) (S : List Int) (b : Bool) (W1 : List Nat) (S1 : List Int) (b1 : Bool), jal 1 W S b = some (W1, S1, b1) → jal 0 W S b = jal 0 W1 S1 b1
  | [], S, b, W1, S1, b1, h => by
    simp only [jal] at h
    injection h with h
    injection h with h1 h2
    injection h2 with h2 h3
    subst h1 h2 h3
    rfl
  | c :: W, S, b, W1, S1, b1, h => by
    simp only [jal] at h
    by_cases e : c = 4 ∨ c / 2 < 1
    · rw [if_pos e] at h
      injection h with h
      injection h with h1 h2
      injection h2 with h2 h3
      subst h1 h2 h3
      rfl
    · rw [if_neg e] at h
      by_cases e4 : 4 < c
      · rw [if_pos e4] at h; exact nomatch h
      · rw [if_neg e4] at h
        cases S with
        | nil => exact nomatch h
        | cons y S =>
          cases S with
          | nil => exact nomatch h
          | cons x S =>
            simp only at h
            rw [← jal_01 W _ _ W1 S1 b1 h]
            simp only [jal]
            rw [if_neg (by omega), if_neg e4]
theorem jal_op {least c : Nat} (h1 : c < 4) (h2 : least ≤ c / 2) (W : List Nat) (x y : Int) (S : List Int) (b : Bool) : jal least (c :: W) (y :: x :: S) b = jal least W ((jv c x y b).1 :: S) (jv c x y b).2 := by
  simp only [jal]
  rw [if_neg (by omega), if_neg (by omega)]
theorem rn_op (V : Nat → Option Int) {t : Nat} (ht : t < 4) (l : List Nat) {W W1 : List Nat} {S S1 : List Int} {b b1 : Bool} (h : jal (t / 2) W S b = some (W1, S1, b1)) : rn V (t :: l) false W S b = rn V l true (t :: W1) S1 b1 := by
  simp only [rn, rd]
  rw [if_pos (by omega), if_neg (by omega), if_pos ⟨by omega, by trivial⟩, h, Option.bind_some, Option.bind_some, if_neg (fun z => absurd z.2 (by decide)), show nop t = true from decide_eq_true (by omega)]
theorem rn_prs (V : Nat → Option Int) : ∀ (k : Nat),
    (∀ a l v r, prs V k 0 a l = some (v, r) → ∀ W S b, ∃ x b', rn V l true W S b = rn V r false (psh W x).1 ((psh W x).2 :: S) b' ∧ gv b v x b') ∧
    (∀ a l v r, prs V k 1 a l = some (v, r) → ∀ W S b, w1 W → ∃ W1 S1 b1 x b', rn V l true W S b = rn V r false W1 S1 b1 ∧ jal 1 W1 S1 b1 = some (W, x :: S, b') ∧ gv b v x b') ∧
    (∀ a l v r, prs V k 2 a l = some (v, r) → ∀ W S b W0 S0 b0 xa ba, w1 W → jal 1 W0 S0 b0 = some (W, xa :: S, ba) → gv b a xa ba → ∃ W1 S1 b1 x b', rn V l false W0 S0 b0 = rn V r false W1 S1 b1 ∧ jal 1 W1 S1 b1 = some (W, x :: S, b') ∧ gv b v x b') ∧
    (∀ a l v r, prs V k 3 a l = some (v, r) → ∀ W S b, w0 W → ∃ W1 S1 b1 x b', rn V l true W S b = rn V r false W1 S1 b1 ∧ jal 0 W1 S1 b1 = some (W, x :: S, b') ∧ gv b v x b') ∧
    (∀ a l v r, prs V k 4 a l = some (v, r) → ∀ W S b W0 S0 b0 xa ba, w0 W → jal 0 W0 S0 b0 = some (W, xa :: S, ba) → gv b a xa ba → ∃ W1 S1 b1 x b', rn V l false W0 S0 b0 = rn V r false W1 S1 b1 ∧ jal 0 W1 S1 b1 = some (W, x :: S, b') ∧ gv b v x b')
  | 0 => ⟨fun _ _ _ _ h => (nomatch h), fun _ _ _ _ h => (nomatch h), fun _ _ _ _ h => (nomatch h), fun _ _ _ _ h => (nomatch h), fun _ _ _ _ h => (nomatch h)⟩
  | k + 1 => by
    obtain ⟨i0, i1, i2, i3, i4⟩ := rn_prs V k
    refine ⟨?_, ?_, ?_, ?_, ?_⟩
    · intro a l v r h W S b
      rw [prs_0] at h
      cases l with
      | nil => exact nomatch h
      | cons c r0 =>
        simp only at h
        by_cases c1 : c = 1
        · rw [if_pos c1] at h
          cases e2 : prs V k 0 none r0 with
          | none => rw [e2] at h; exact nomatch h
          | some q =>
            rw [e2, Option.bind_some] at h
            injection h with h
            injection h with h1 h2
            obtain ⟨x, b', g1, g2⟩ := i0 none r0 q.1 q.2 e2 (6 :: W) S b
            refine ⟨-x, b', ?_, ?_⟩
            · subst c1
              rw [← h2]
              simp only [rn, rd]
              rw [if_pos (by decide), if_neg (by decide), if_neg (by decide), Option.bind_some, Option.bind_some, if_pos (by decide)]
              have e6 : psh (6 :: W) x = psh W (-x) := if_pos rfl
              rw [e6] at g1
              exact g1
            · rw [← h1]
              exact gv_neg (by rw [Int.neg_neg]; exact g2)
        · rw [if_neg c1] at h
          by_cases c4 : c = 4
          · rw [if_pos c4] at h
            cases e2 : prs V k 3 none r0 with
            | none => rw [e2] at h; exact nomatch h
            | some q =>
              rw [e2, Option.bind_some] at h
              obtain ⟨W1, S1, b1, x, b', g1, g2, g3⟩ := i3 none r0 q.1 q.2 e2 (4 :: W) S b (fun c W' z => by injection z with z1 z2; exact z1.symm)
              cases e5 : q.2 with
              | nil => rw [e5] at h; exact nomatch h
              | cons c2 r2 =>
                rw [e5] at h
                simp only at h
                by_cases c5 : c2 = 5
                · rw [if_pos c5] at h
                  injection h with h
                  injection h with h1 h2
                  refine ⟨x, b', ?_, by rw [← h1]; exact g3⟩
                  subst c4
                  simp only [rn, rd]
                  rw [if_pos (by decide), if_neg (by decide), if_neg (by decide), Option.bind_some, Option.bind_some, if_neg (by decide)]
                  have e3 : nop 4 = true := rfl
                  rw [e3]
                  rw [g1, e5, c5]
                  simp only [rn, rd]
                  rw [if_pos (by decide), if_pos (by trivial), g2, Option.bind_some, ← h2]
                  rfl
                · rw [if_neg c5] at h; exact nomatch h
          · rw [if_neg c4] at h
            by_cases c6 : c < 6
            · rw [if_pos c6] at h; exact nomatch h
            · rw [if_neg c6] at h
              injection h with h
              injection h with h1 h2
              have hv : tv V c = v := h1
              refine ⟨v.getD 0, b || v.isNone, ?_, rfl, ?_⟩
              · simp only [rn, rd]
                rw [if_neg c6, Option.bind_some, hv, h2, show nop c = false from decide_eq_false (by omega)]
              · intro z
                cases v with
                | none => simp at z
                | some y => rfl
    · intro a l v r h W S b hw
      rw [prs_1] at h
      cases e : prs V k 0 none l with
      | none => rw [e] at h; exact nomatch h
      | some q =>
        rw [e, Option.bind_some] at h
        obtain ⟨x, b', g1, g2⟩ := i0 none l q.1 q.2 e W S b
        have e6 : psh W x = (W, x) := psh_n6 (fun c W' z => by have := hw c W' z; omega) x
        rw [e6] at g1
        obtain ⟨W1, S1, b1, y, b2, k1, k2, k3⟩ := i2 q.1 q.2 v r h W S b W (x :: S) b' x b' hw (jal_w1 hw _ _) g2
        exact ⟨W1, S1, b1, y, b2, by rw [g1, k1], k2, k3⟩
    · intro a l v r h W S b W0 S0 b0 xa ba hw hj hg
      rw [prs_2] at h
      cases l with
      | nil =>
        injection h with h
        injection h with h1 h2
        subst h1 h2
        exact ⟨W0, S0, b0, xa, ba, rfl, hj, hg⟩
      | cons c r0 =>
        simp only at h
        by_cases hc : c = 2 ∨ c = 3
        · rw [if_pos hc] at h
          cases e : prs V k 0 none r0 with
          | none => rw [e] at h; exact nomatch h
          | some q =>
            rw [e, Option.bind_some] at h
            obtain ⟨x, b', g1, g2⟩ := i0 none r0 q.1 q.2 e (c :: W) (xa :: S) ba
            have e6 : psh (c :: W) x = (c :: W, x) := if_neg (by omega)
            rw [e6] at g1
            have hj2 : jal 1 (c :: W) (x :: xa :: S) b' = some (W, (jv c xa x b').1 :: S, (jv c xa x b').2) := by
              rw [jal_op (by omega) (by omega), jal_w1 hw]
            obtain ⟨W1, S1, b1, y, b2, k1, k2, k3⟩ := i2 (comb c a q.1) q.2 v r h W S b (c :: W) (x :: xa :: S) b' _ _ hw hj2 (gv_comb c hg g2)
            refine ⟨W1, S1, b1, y, b2, ?_, k2, k3⟩
            rw [rn_op V (by omega) r0 (by rw [show c / 2 = 1 by omega]; exact hj), g1, k1]
        · rw [if_neg hc] at h
          injection h with h
          injection h with h1 h2
          subst h1 h2
          exact ⟨W0, S0, b0, xa, ba, rfl, hj, hg⟩
    · intro a l v r h W S b hw
      rw [prs_3] at h
      cases e : prs V k 1 none l with
      | none => rw [e] at h; exact nomatch h
      | some q =>
        rw [e, Option.bind_some] at h
        obtain ⟨W1, S1, b1, x, b', g1, g2, g3⟩ := i1 none l q.1 q.2 e W S b (fun c W' z => .inl (hw c W' z))
        have hj : jal 0 W1 S1 b1 = some (W, x :: S, b') := by rw [jal_01 _ _ _ _ _ _ g2, jal_w0 hw]
        obtain ⟨W2, S2, b2, y, b3, k1, k2, k3⟩ := i4 q.1 q.2 v r h W S b W1 S1 b1 x b' hw hj g3
        exact ⟨W2, S2, b2, y, b3, by rw [g1, k1], k2, k3⟩
    · intro a l v r h W S b W0 S0 b0 xa ba hw hj hg
      rw [prs_4] at h
      cases l with
      | nil =>
        injection h with h
        injection h with h1 h2
        subst h1 h2
        exact ⟨W0, S0, b0, xa, ba, rfl, hj, hg⟩
      | cons c r0 =>
        simp only at h
        by_cases hc : c = 0 ∨ c = 1
        · rw [if_pos hc] at h
          cases e : prs V k 1 none r0 with
          | none => rw [e] at h; exact nomatch h
          | some q =>
            rw [e, Option.bind_some] at h
            obtain ⟨W1, S1, b1, x, b', g1, g2, g3⟩ := i1 none r0 q.1 q.2 e (c :: W) (xa :: S) ba (fun c2 W' z => by injection z with z1 z2; omega)
            have hj2 : jal 0 W1 S1 b1 = some (W, (jv c xa x b').1 :: S, (jv c xa x b').2) := by
              rw [jal_01 _ _ _ _ _ _ g2, jal_op (by omega) (by omega), jal_w0 hw]
            obtain ⟨W2, S2, b2, y, b3, k1, k2, k3⟩ := i4 (comb c a q.1) q.2 v r h W S b W1 S1 b1 _ _ hw hj2 (gv_comb c hg g3)
            refine ⟨W2, S2, b2, y, b3, ?_, k2, k3⟩
            rw [rn_op V (by omega) r0 (by rw [show c / 2 = 0 by omega]; exact hj), g1, k1]
        · rw [if_neg hc] at h
          injection h with h
          injection h with h1 h2
          subst h1 h2
          exact ⟨W0, S0, b0, xa, ba, rfl, hj, hg⟩
theorem rn_top (V : Nat → Option Int) {l : List Nat} (hl : okT l) (h : aut 0 true l = true) : ∃ x b', rn V l true [] [] false = some ([], [x], b') ∧ b' = (evF V l).isNone ∧ (b' = false → evF V l = some x) := by
  obtain ⟨W1, S1, b1, x, b', g1, g2, g3⟩ := (rn_prs V 100).2.2.2.1 none l _ _ (evF_prs V hl h) [] [] false (fun _ _ z => nomatch z)
  refine ⟨x, b', ?_, by simpa using g3.1, g3.2⟩
  rw [g1]
  exact g2
