/-! the values of a sheet; the reference works all out -/
def okF (l : List Nat) : Prop := okT l ∧ (l = [] ∨ aut 0 true l = true)
def okSF (T : Nat → List Nat) : Prop := ∀ k, k < 30 → okF (T k)
theorem okSF_S {T : Nat → List Nat} (h : okSF T) : okS T := fun k hk => (h k hk).1
def stF (v : Option Int) : Int32 := if v.isNone then 2 else 1
def vit (T : Nat → List Nat) : Nat → Nat → Option Int
  | 0 => fun _ => none
  | k + 1 => fun c => evF (vit T k) (T c)
def VV (T : Nat → List Nat) : Nat → Option Int := vit T 31
theorem stF_s (x : Int) : stF (some x) = 1 := rfl
theorem vit_ok {T : Nat → List Nat} (h : okS T) : ∀ k j, j < 30 → okV (vit T k j)
  | 0, _, _ => fun _ z => nomatch z
  | k + 1, j, hj => evF_ok (vit_ok h k) (h j hj)
theorem VV_ok {T : Nat → List Nat} (h : okS T) : ∀ j, j < 30 → okV (VV T j) := vit_ok h 31
theorem vit_st {T : Nat → List Nat} {rk : Nat → Nat} (h : ∀ i j, i < 30 → j < 30 → EE T i j = true → rk j < rk i) : ∀ (n k k' c : Nat), c < 30 → rk c < n → rk c < k → rk c < k' → vit T k c = vit T k' c
  | 0, _, _, _, _, h1, _, _ => absurd h1 (Nat.not_lt_zero _)
  | n + 1, 0, _, _, _, _, h2, _ => absurd h2 (Nat.not_lt_zero _)
  | n + 1, k + 1, 0, _, _, _, _, h3 => absurd h3 (Nat.not_lt_zero _)
  | n + 1, k + 1, k' + 1, c, hc, h1, h2, h3 => by
    show evF (vit T k) (T c) = evF (vit T k') (T c)
    refine evF_cg (fun j hj e => ?_)
    have := h c j hc hj e
    exact vit_st h n k k' j hj (by omega) (by omega) (by omega)
theorem VV_eq {T : Nat → List Nat} (h : acy (EE T)) {c : Nat} (hc : c < 30) : VV T c = evF (VV T) (T c) := by
  obtain ⟨rk, hb, h⟩ := acy_b h
  show vit T 31 c = vit T 32 c
  exact vit_st h 31 31 32 c hc (by have := hb c; omega) (by have := hb c; omega) (by have := hb c; omega)
/-- where two sheets are alike below, values are alike -/
theorem VV_cg {T T' : Nat → List Nat} (h : acy (EE T)) (h' : acy (EE T')) {D : Nat → Prop} (hD : ∀ i j, i < 30 → j < 30 → D i → EE T i j = true → D j) (hT : ∀ i, i < 30 → D i → T i = T' i) : ∀ c, c < 30 → D c → VV T c = VV T' c := by
  obtain ⟨rk, hr⟩ := h
  have main : ∀ (n c : Nat), rk c < n → c < 30 → D c → VV T c = VV T' c := by
    intro n
    induction n with
    | zero => intro c h1; exact absurd h1 (Nat.not_lt_zero _)
    | succ n ih =>
      intro c h1 hc hd
      rw [VV_eq ⟨rk, hr⟩ hc, VV_eq h' hc, ← hT c hc hd]
      refine evF_cg (fun j hj e => ?_)
      have := hr c j hc hj e
      exact ih j (by omega) hj (hD c j hc hj hd e)
  exact fun c hc hd => main (rk c + 1) c (Nat.lt_succ_self _) hc hd
section WA
variable {N : Nat} {fm sz : Nat → Int32} {T : Nat → List Nat}
theorem q_works {V : Nat → Option Int} {c : Nat} {st : Nat → Int32} {va : Nat → Int64} (hN : 31 ≤ N) (hc : c < 30) (hl : okF (T c)) (hR : rR T fm sz) (hV : vR V (nm (T c)) st va) (hb : okV (evF V (T c))) (he wt br : Int32) (wa : Nat → Int32) (sk : Nat → Int64) :
    ∃ he' wt' br' wa' sk', mX4_works N fm sz he wt br st wa va sk (nI c) = some (he', wt', br', upd st c (stF (evF V (T c))), wa', vp_updL va c (LL ((evF V (T c)).getD 0)), sk') := by
  have h15 := hl.1.1
  unfold mX4_works
  rcases hl.2 with hnil | hau
  · obtain ⟨he', wt', br', wa', sk', e⟩ := q_works_l (x := 0) (bf := false) hN hc hl.1 (hR c hc).1 (hR c hc).2 hV (T c).length 0 N true [] [] false wa sk (by omega) (by omega) (fun _ => ⟨rfl, rfl, rfl⟩) (fun z => absurd hnil z) trivial (Nat.le_refl _) (fun _ => trivial)
    have ev : evF V (T c) = some 0 := if_pos hnil
    rw [if_neg (fun z => z.1 hnil), if_pos (.inl hnil)] at e
    rw [ev]
    exact ⟨he', wt', br', wa', sk', e⟩
  · have hnil : T c ≠ [] := fun z => by rw [z] at hau; simp [aut] at hau
    obtain ⟨x, bf, e1, e2, e3⟩ := rn_top V hl.1 hau
    obtain ⟨he', wt', br', wa', sk', e⟩ := q_works_l (x := x) (bf := bf) hN hc hl.1 (hR c hc).1 (hR c hc).2 hV (T c).length 0 N true [] [] false wa sk (by omega) (by omega) (fun z => absurd z hnil) (fun _ => e1) trivial (Nat.le_refl _) (fun _ => trivial)
    refine ⟨he', wt', br', wa', sk', e.trans ?_⟩
    cases bf with
    | true =>
      have ev : evF V (T c) = none := by
        cases h : evF V (T c) with
        | none => rfl
        | some z => rw [h] at e2; exact absurd e2 (by simp)
      rw [if_pos ⟨hnil, rfl⟩, if_pos (.inr rfl), ev]
      rfl
    | false =>
      rw [if_neg (fun z => absurd z.2 (by decide)), if_neg (fun z => by rcases z with z | z; exact hnil z; exact absurd z (by decide)), e3 rfl]
      rfl
theorem q_known_l {l : List Nat} {m : Int32} (hm : mk (nm l) m) {p : Nat → Bool} {st : Nat → Int32} (hp : ∀ j, j < 30 → (st j = 0 ↔ p j = false)) : ∀ (d k n : Nat), k + d = 30 → d < n → (∀ j, j < k → nm l j = true → p j = true) → ∃ b : Bool, mX4_areKnown_2 N st n m (nI k) = some (bI b) ∧ (b = true ↔ ∀ j, j < 30 → nm l j = true → p j = true)
  | _, _, 0, _, h, _ => absurd h (Nat.not_lt_zero _)
  | 0, k, n + 1, h1, h2, h3 => by
    have : k = 30 := by omega
    subst this
    simp only [mX4_areKnown_2, mX4_areKnown_2_b]
    rw [if_pos (by decide)]
    exact ⟨true, rfl, ⟨fun _ => h3, fun _ => rfl⟩⟩
  | d + 1, k, n + 1, h1, h2, h3 => by
    have hk : k < 30 := by omega
    simp only [mX4_areKnown_2, mX4_areKnown_2_b, mX4_areKnown_28]
    rw [if_neg (show ¬ (30 : Int32) ≤ nI k from nI_ge (a := k) (b := 30) (by omega) (by omega)), mk_holds hm hk, nI_1, if_neg (nI_in hk (by omega)), nI_clamp (by omega)]
    cases e : nm l k with
    | false =>
      rw [if_neg (by decide)]
      exact q_known_l hm hp d (k + 1) n (by omega) (by omega) (fun j hj z => by
        rcases Nat.lt_or_ge j k with y | y
        · exact h3 j y z
        · have : j = k := by omega
          subst this
          rw [z] at e; exact absurd e (by decide))
    | true =>
      rw [if_pos (by decide)]
      cases e2 : p k with
      | false =>
        rw [if_pos ((hp k hk).mpr e2)]
        refine ⟨false, rfl, ⟨fun z => absurd z (by decide), fun z => ?_⟩⟩
        rw [z k hk e] at e2; exact absurd e2 (by decide)
      | true =>
        rw [if_neg (fun z => by rw [(hp k hk).mp z] at e2; exact absurd e2 (by decide))]
        exact q_known_l hm hp d (k + 1) n (by omega) (by omega) (fun j hj z => by
          rcases Nat.lt_or_ge j k with y | y
          · exact h3 j y z
          · have : j = k := by omega
            subst this
            exact e2)
/-- what is known: p; the row stands for the sheet's values there, and says 0 elsewhere -/
def kn (T : Nat → List Nat) (p : Nat → Bool) (st : Nat → Int32) (va : Nat → Int64) : Prop := vR (VV T) p st va ∧ ∀ j, j < 30 → p j = false → st j = 0
theorem kn_0 {p : Nat → Bool} {st : Nat → Int32} {va : Nat → Int64} (h : kn T p st va) {j : Nat} (hj : j < 30) : st j = 0 ↔ p j = false := by
  cases e : p j with
  | false => exact ⟨fun _ => rfl, fun _ => h.2 j hj e⟩
  | true => exact ⟨fun z => absurd z (h.1 j hj e).2.2, fun z => absurd z (by decide)⟩
abbrev WR := Option (Int32 × Int32 × Int32 × (Nat → Int32) × (Nat → Int32) × (Nat → Int64) × (Nat → Int64))
theorem q_pass (hT : okSF T) (ha : acy (EE T)) (hR : rR T fm sz) (hN : 31 ≤ N) {p0 : Nat → Bool} (r24 : Int32 → Int32 → Int32 → (Nat → Int32) → (Nat → Int32) → (Nat → Int64) → (Nat → Int64) → Int32 → WR) (R : WR → Prop)
    (hR' : ∀ (he wt br : Int32) (st wa : Nat → Int32) (va sk : Nat → Int64) (p : Nat → Bool), kn T p st va → (∀ j, j < 30 → p0 j = true → p j = true) → (∀ j, j < 30 → (∀ i, i < 30 → nm (T j) i = true → p0 i = true) → p j = true) → R (r24 he wt br st wa va sk (nI (fb_ct (fun j => !p j) 30)))) :
    ∀ (d k n : Nat) (he wt br : Int32) (st wa : Nat → Int32) (va sk : Nat → Int64) (p : Nat → Bool), k + d = 30 → d < n → kn T p st va → (∀ j, j < 30 → p0 j = true → p j = true) → (∀ j, j < k → (∀ i, i < 30 → nm (T j) i = true → p0 i = true) → p j = true) → R (mX4_worksAll_32 N fm sz r24 n he wt br st wa va sk (nI (fb_ct (fun j => !p j) k)) (nI k))
  | _, _, 0, _, _, _, _, _, _, _, _, _, h, _, _, _ => absurd h (Nat.not_lt_zero _)
  | 0, k, n + 1, he, wt, br, st, wa, va, sk, p, h1, h2, h3, h4, h5 => by
    have : k = 30 := by omega
    subst this
    simp only [mX4_worksAll_32, mX4_worksAll_32_b]
    rw [if_pos (by decide)]
    exact hR' he wt br st wa va sk p h3 h4 h5
  | d + 1, k, n + 1, he, wt, br, st, wa, va, sk, p, h1, h2, h3, h4, h5 => by
    have hk : k < 30 := by omega
    have hks : ¬ (nI k < 0 ∨ 30 ≤ (nI k).toNatClampNeg) := nI_in hk (by omega)
    -- the step behind a visit
    have fin : ∀ (he wt br : Int32) (st wa : Nat → Int32) (va sk : Nat → Int64) (p1 : Nat → Bool), kn T p1 st va → (∀ j, j < 30 → j ≠ k → p1 j = p j) → (p k = true → p1 k = true) → ((∀ i, i < 30 → nm (T k) i = true → p0 i = true) → p1 k = true) → R (mX4_worksAll_64 N fm sz r24 (mX4_worksAll_32 N fm sz r24 n) he wt br st wa va sk (nI (fb_ct (fun j => !p j) k)) (nI k)) := by
      intro he wt br st wa va sk p1 g1 g2 g3 g4
      unfold mX4_worksAll_64 mX4_worksAll_79
      rw [if_neg hks, nI_clamp (by omega), nI_1 k]
      have ih := q_pass hT ha hR hN r24 R hR' d (k + 1) n he wt br st wa va sk p1 (by omega) (by omega) g1 (fun j hj z => by
        by_cases e : j = k
        · subst e; exact g3 (h4 j hj z)
        · rw [g2 j hj e]; exact h4 j hj z) (fun j hj z => by
        rcases Nat.lt_or_ge j k with y | y
        · rw [g2 j (by omega) (by omega)]; exact h5 j y z
        · have : j = k := by omega
          subst this; exact g4 z)
      rw [fb_ct_succ, fb_ct_cong (p := fun j => !p1 j) (q := fun j => !p j) (n := k) (fun j hj => by simp [g2 j (by omega) (by omega)])] at ih
      cases e : p1 k with
      | false =>
        rw [if_pos (g1.2 k hk e), nI_1]
        rw [e] at ih; exact ih
      | true =>
        rw [if_neg (g1.1 k hk e).2.2, c_0, nI_add]
        rw [e] at ih; exact ih
    simp only [mX4_worksAll_32, mX4_worksAll_32_b]
    rw [if_neg (show ¬ (30 : Int32) ≤ nI k from nI_ge (a := k) (b := 30) (by omega) (by omega)), if_neg hks, nI_clamp (by omega)]
    cases e : p k with
    | true =>
      rw [if_neg (h3.1 k hk e).2.2]
      exact fin he wt br st wa va sk p h3 (fun _ _ _ => rfl) (fun z => z) (fun _ => e)
    | false =>
      rw [if_pos (h3.2 k hk e)]
      obtain ⟨m, em, hm⟩ := r_refersOf (okSF_S hT) hR hN hk
      obtain ⟨b, eb, hb⟩ := q_known_l (N := N) hm (p := p) (st := st) (fun j hj => kn_0 h3 hj) 30 0 N rfl (by omega) (fun _ z => absurd z (Nat.not_lt_zero _))
      have eb' : mX4_areKnown N st m = some (bI b) := eb
      rw [em, Option.bind_some, eb', Option.bind_some]
      cases b with
      | false =>
        rw [if_pos bI_f]
        refine fin he wt br st wa va sk p h3 (fun _ _ _ => rfl) (fun z => z) (fun z => ?_)
        exact absurd (hb.mpr (fun j hj y => h4 j hj (z j hj y))) (by decide)
      | true =>
        rw [if_neg (by decide)]
        have hp := hb.mp rfl
        have hvr : vR (VV T) (nm (T k)) st va := fun j hj y => h3.1 j hj (hp j hj y)
        have hok : okV (evF (VV T) (T k)) := evF_ok (VV_ok (okSF_S hT)) (hT k hk).1
        obtain ⟨he', wt', br', wa', sk', ew⟩ := q_works hN hk (hT k hk) hR hvr hok he wt br wa sk
        rw [ew, Option.bind_some]
        dsimp only
        rw [← VV_eq ha hk] at hok
        rw [← VV_eq ha hk]
        refine fin he' wt' br' _ wa' _ sk' (fun j => if j = k then true else p j) ⟨fun j hj y => ?_, fun j hj y => ?_⟩ (fun j _ z => if_neg z) (fun _ => if_pos rfl) (fun _ => if_pos rfl)
        · dsimp only at y
          by_cases ej : j = k
          · subst ej
            rw [pk_us, pk_uLs]
            cases ev : VV T j with
            | none => exact ⟨⟨fun _ => rfl, fun _ => rfl⟩, fun z hz => (nomatch hz), by decide⟩
            | some x => rw [stF_s]; exact ⟨⟨fun z => absurd z (by decide), fun z => (nomatch z)⟩, fun z hz => ⟨by injection hz with hz; rw [hz]; rfl, hok z (by rw [ev]; exact hz)⟩, by decide⟩
          · rw [pk_un ej, pk_uLn ej]
            rw [if_neg ej] at y
            exact h3.1 j hj y
        · dsimp only at y
          by_cases ej : j = k
          · rw [if_pos ej] at y; exact absurd y (by decide)
          · rw [if_neg ej] at y
            rw [pk_un ej]
            exact h3.2 j hj y
theorem min_rank {rk : Nat → Nat} {p : Nat → Bool} : ∀ (n : Nat), (∃ j, j < 30 ∧ p j = false ∧ rk j < n) → ∃ j, j < 30 ∧ p j = false ∧ ∀ i, i < 30 → rk i < rk j → p i = true
  | 0, ⟨_, _, _, h⟩ => absurd h (Nat.not_lt_zero _)
  | n + 1, ⟨j, hj, e, h⟩ => by
    by_cases z : ∃ i, i < 30 ∧ p i = false ∧ rk i < n
    · exact min_rank n z
    · refine ⟨j, hj, e, fun i hi y => ?_⟩
      cases e2 : p i with
      | true => rfl
      | false => exact absurd ⟨i, hi, e2, by omega⟩ z
theorem q_all_l (hT : okSF T) (ha : acy (EE T)) (hR : rR T fm sz) (hN : 31 ≤ N) : ∀ (n : Nat) (he wt br : Int32) (st wa : Nat → Int32) (va sk : Nat → Int64) (p : Nat → Bool) (x : Nat), kn T p st va → fb_ct (fun j => !p j) 30 < n → (x = 0 ↔ fb_ct (fun j => !p j) 30 = 0) → x < 1000 → ∃ he' wt' br' st' wa' va' sk', mX4_worksAll_24 N fm sz n he wt br st wa va sk (nI x) = some (he', wt', br', st', wa', va', sk') ∧ kn T (fun _ => true) st' va'
  | 0, _, _, _, _, _, _, _, _, _, _, h, _, _ => absurd h (Nat.not_lt_zero _)
  | n + 1, he, wt, br, st, wa, va, sk, p, x, h1, h2, h3, h4 => by
    simp only [mX4_worksAll_24, mX4_worksAll_24_b]
    by_cases hx : x = 0
    · rw [hx, if_pos (by decide)]
      have hz := fb_ct_zero.mp (h3.mp hx)
      refine ⟨he, wt, br, st, wa, va, sk, rfl, fun j hj _ => h1.1 j hj (by simpa using hz j hj), fun _ _ z => absurd z (fun y => Bool.noConfusion y)⟩
    · rw [if_neg (nI_nle (by omega) (by omega))]
      have hne : fb_ct (fun j => !p j) 30 ≠ 0 := fun z => hx (h3.mpr z)
      refine q_pass hT ha hR hN (p0 := p) (mX4_worksAll_24 N fm sz n) (fun o => ∃ he' wt' br' st' wa' va' sk', o = some (he', wt', br', st', wa', va', sk') ∧ kn T (fun _ => true) st' va') (fun he wt br st wa va sk p1 g1 g2 g3 => ?_) 30 0 N he wt br st wa va sk p rfl (by omega) h1 (fun _ _ z => z) (fun _ z => absurd z (Nat.not_lt_zero _))
      obtain ⟨rk, hr⟩ := ha
      obtain ⟨j0, hj0, e0⟩ := fb_ct_pos.mp (Nat.pos_of_ne_zero hne)
      obtain ⟨j, hj, e, hm⟩ := min_rank (rk := rk) (p := p) (rk j0 + 1) ⟨j0, hj0, by simpa using e0, Nat.lt_succ_self _⟩
      have hjp : p1 j = true := g3 j hj (fun i hi y => hm i hi (hr j i hj hi y))
      have hlt : fb_ct (fun j => !p1 j) 30 + 1 ≤ fb_ct (fun j => !p j) 30 := ct_grow (fun i hi z => by
        cases e2 : p i with
        | false => rfl
        | true => rw [g2 i hi e2] at z; exact absurd z (by decide)) (fun z => by
        have := z j hj
        rw [e, hjp] at this; exact absurd this (by decide))
      have hle := fb_ct_le (fun j => !p1 j) 30
      exact q_all_l hT ⟨rk, hr⟩ hR hN n he wt br st wa va sk p1 _ g1 (by omega) Iff.rfl (by omega)
theorem q_init_l (hN : 31 ≤ N) (R : WR → Prop) (he wt br : Int32) (wa : Nat → Int32) (va sk : Nat → Int64) (hR : ∀ st, (∀ j, j < 30 → st j = 0) → R (mX4_worksAll_24 N fm sz N he wt br st wa va sk (nI 30))) : ∀ (d k n : Nat) (st : Nat → Int32), k + d = 30 → d < n → (∀ j, j < k → st j = 0) → R (mX4_worksAll_2 N fm sz n he wt br st wa va sk (nI k))
  | _, _, 0, _, _, h, _ => absurd h (Nat.not_lt_zero _)
  | 0, k, n + 1, st, h1, h2, h3 => by
    have : k = 30 := by omega
    subst this
    simp only [mX4_worksAll_2, mX4_worksAll_2_b]
    rw [if_pos (by decide)]
    exact hR st h3
  | d + 1, k, n + 1, st, h1, h2, h3 => by
    have hk : k < 30 := by omega
    simp only [mX4_worksAll_2, mX4_worksAll_2_b]
    rw [if_neg (show ¬ (30 : Int32) ≤ nI k from nI_ge (a := k) (b := 30) (by omega) (by omega)), if_neg (nI_in hk (by omega)), nI_clamp (by omega), nI_1]
    exact q_init_l hN R he wt br wa va sk hR d (k + 1) n _ (by omega) (by omega) (fun j hj => by
      by_cases e : j = k
      · subst e; exact pk_us
      · rw [pk_un e]; exact h3 j (by omega))
/-- all cells are worked out -/
theorem q_all (hT : okSF T) (ha : acy (EE T)) (hR : rR T fm sz) (hN : 32 ≤ N) (he wt br : Int32) (st wa : Nat → Int32) (va sk : Nat → Int64) : ∃ he' wt' br' st' wa' va' sk', mX4_worksAll N fm sz he wt br st wa va sk = some (he', wt', br', st', wa', va', sk') ∧ kn T (fun _ => true) st' va' := by
  unfold mX4_worksAll
  refine q_init_l (by omega) (fun o => ∃ he' wt' br' st' wa' va' sk', o = some (he', wt', br', st', wa', va', sk') ∧ kn T (fun _ => true) st' va') he wt br wa va sk (fun st0 h0 => ?_) 30 0 N st rfl (by omega) (fun _ z => absurd z (Nat.not_lt_zero _))
  have hle := fb_ct_le (fun _ => !false) 30
  exact q_all_l hT ha hR (by omega) N he wt br st0 wa va sk (fun _ => false) 30 ⟨fun _ _ z => absurd z (fun y => Bool.noConfusion y), fun j hj _ => h0 j hj⟩ (Nat.lt_of_le_of_lt hle (by omega)) (by
    constructor
    · intro z; exact absurd z (by decide)
    · intro z; exact absurd z (by decide +kernel)) (by omega)
end WA
