/-! formulas as lists of signs; the reference's set methods -/
def tk (l : List Nat) (i : Nat) : Nat := l.getD i 0
def okT (l : List Nat) : Prop := l.length ≤ 15 ∧ ∀ i, i < l.length → tk l i < 1000036
/-- the reference's sign for a sign of the landed class -/
def cv (c : Nat) : Nat := if c < 6 then 2000000 + c else if c < 36 then 1000000 + (c - 6) else c - 36
theorem cv_lt {c : Nat} (h : c < 1000036) : cv c < 2000006 := by unfold cv; split <;> (try split) <;> omega
theorem cv_inj {a b : Nat} (ha : a < 1000036) (hb : b < 1000036) (h : cv a = cv b) : a = b := by
  unfold cv at h
  split at h <;> split at h <;> (try split at h) <;> (try split at h) <;> omega
def nmk (l : List Nat) : Nat → Nat → Bool
  | 0 => fun _ => false
  | k + 1 => fun j => nmk l k j || tk l k == j + 6
/-- the cells that a formula names -/
def nm (l : List Nat) : Nat → Bool := nmk l l.length
theorem nmk_iff {l : List Nat} : ∀ {k j : Nat}, nmk l k j = true ↔ ∃ i, i < k ∧ tk l i = j + 6
  | 0, j => ⟨fun h => absurd h (by simp [nmk]), fun ⟨i, h, _⟩ => absurd h (Nat.not_lt_zero i)⟩
  | k + 1, j => by
    simp only [nmk, Bool.or_eq_true, nmk_iff (k := k), beq_iff_eq]
    constructor
    · rintro (⟨i, h, q⟩ | q)
      · exact ⟨i, by omega, q⟩
      · exact ⟨k, by omega, q⟩
    · rintro ⟨i, h, a⟩
      rcases Nat.lt_or_ge i k with z | z
      · exact .inl ⟨i, z, a⟩
      · have : i = k := by omega
        subst this; exact .inr a
def rR (T : Nat → List Nat) (fm sz : Nat → Int32) : Prop := ∀ k, k < 30 → sz k = nI (T k).length ∧ ∀ i, i < (T k).length → fm (15 * k + i) = nI (cv (tk (T k) i))
def okS (T : Nat → List Nat) : Prop := ∀ k, k < 30 → okT (T k)
def EE (T : Nat → List Nat) : Nat → Nat → Bool := fun i => nm (T i)
noncomputable def depB (E : Nat → Nat → Bool) (p : Nat → Bool) (c : Nat) : Bool := @decide (clo (fun a b => E b a) p c) (Classical.propDecidable _)
theorem depB_iff {E : Nat → Nat → Bool} {p : Nat → Bool} {c : Nat} : depB E p c = true ↔ clo (fun a b => E b a) p c := @decide_eq_true_iff _ (Classical.propDecidable _)
theorem r_in (N : Nat) (x a b : Int32) : mX4_in N x a b = some (bI (decide (a ≤ x ∧ x ≤ b))) := by
  unfold mX4_in mX4_in_14 mX4_in_15
  by_cases h : x < a
  · rw [if_pos h, decide_eq_false (fun z => (fa_of_lt h).2.1 z.1)]; rfl
  · rw [if_neg h]
    by_cases h2 : b < x
    · rw [if_pos h2, decide_eq_false (fun z => (fa_of_lt h2).2.1 z.2)]; rfl
    · rw [if_neg h2, decide_eq_true ⟨fa_of_nlt h, fa_of_nlt h2⟩]; rfl
theorem r_bI01 (b : Bool) : bI b = 0 ∨ bI b = 1 := by cases b <;> decide
theorem r_isCell (N : Nat) (x : Int32) : mX4_isCell N x = some (bI (decide (0 ≤ x ∧ x ≤ 29))) := by
  unfold mX4_isCell
  rw [r_in, Option.bind_some, if_pos (r_bI01 _)]
theorem r_holds (N : Nat) (th x : Int32) : mX4_holds N th x = some (bI (decide (x = 0)), x) := by
  unfold mX4_holds mX4_holds_14
  by_cases h : x = 0
  · rw [if_pos h, decide_eq_true h]; rfl
  · rw [if_neg h, decide_eq_false h]; rfl
section RSETS
variable {T : Nat → List Nat} {fm sz : Nat → Int32} {N : Nat}
theorem r_refers_l {l : List Nat} (hl : okT l) {n0 o : Nat} {f : Nat → Int32} (hf : ∀ i, i < l.length → f (o + i) = nI (cv (tk l i))) (ho : o + l.length ≤ n0) (hn : n0 < 100000) : ∀ (d k n : Nat) (v3 : Int32), k + d = l.length → d < n → mk (nmk l k) v3 → ∃ m, mX4_refers_5 N n0 f n (nI o) (nI l.length) v3 (nI (o + k)) = some m ∧ mk (nm l) m
  | _, _, 0, _, _, h2, _ => absurd h2 (Nat.not_lt_zero _)
  | 0, k, n + 1, v3, h1, h2, hv => by
    have : k = l.length := by omega
    subst this
    simp only [mX4_refers_5, mX4_refers_5_b]
    rw [nI_add, if_pos (nI_le (Nat.le_refl _) (by omega))]
    exact ⟨v3, rfl, hv⟩
  | d + 1, k, n + 1, v3, h1, h2, hv => by
    have hk : k < l.length := by omega
    have ht := hl.2 k hk
    have hc := cv_lt ht
    simp only [mX4_refers_5, mX4_refers_5_b, mX4_refers_41]
    rw [nI_add, if_neg (nI_ge (by omega) (by omega)), if_neg (nI_in (by omega) (by omega)), nI_clamp (by omega), hf k hk, r_in, Option.bind_some, nI_1]
    have hin : ¬ (nI (o + k) < 0 ∨ n0 ≤ o + k) := fun z => by
      rcases z with z | z
      · exact nI_pos (by omega) z
      · omega
    by_cases e : 6 ≤ tk l k ∧ tk l k < 36
    · have ec : cv (tk l k) = 1000000 + (tk l k - 6) := by unfold cv; rw [if_neg (by omega), if_pos e.2]
      rw [decide_eq_true (by rw [ec, show (1000000 : Int32) = nI 1000000 from rfl, show (1999999 : Int32) = nI 1999999 from rfl, c_le (by omega) (by omega), c_le (by omega) (by omega)]; omega), if_neg (by decide), if_neg hin, ec, show (1000000 : Int32) = nI 1000000 from rfl, pk_sub (by omega), show 1000000 + (tk l k - 6) - 1000000 = tk l k - 6 by omega]
      refine r_refers_l hl hf ho hn d (k + 1) n _ (by omega) (by omega) (mk_ext (mk_or hv (mk_only (k := tk l k - 6) (by omega))) (fun i hi => ?_))
      simp only [nmk]
      congr 1
      rw [Bool.eq_iff_iff]; simp; omega
    · rw [decide_eq_false (by
        rw [show (1000000 : Int32) = nI 1000000 from rfl, show (1999999 : Int32) = nI 1999999 from rfl, c_le (by omega) (by omega), c_le (by omega) (by omega)]
        unfold cv; split <;> (try split) <;> omega), if_pos bI_f]
      refine r_refers_l hl hf ho hn d (k + 1) n _ (by omega) (by omega) (mk_ext (mk_or hv mk_0) (fun i hi => ?_))
      simp only [nmk]
      congr 1
      rw [Bool.eq_iff_iff]; simp; omega
theorem r_refers {l : List Nat} (hl : okT l) {n0 o : Nat} {f : Nat → Int32} (hf : ∀ i, i < l.length → f (o + i) = nI (cv (tk l i))) (ho : o + l.length ≤ n0) (hn : n0 < 100000) (hN : 31 ≤ N) : ∃ m, mX4_refers N n0 f (nI o) (nI l.length) = some m ∧ mk (nm l) m := by
  have h15 := hl.1
  exact r_refers_l hl hf ho hn l.length 0 N 0 (by omega) (by omega) mk_0
theorem r_refersOf (hT : okS T) (hR : rR T fm sz) (hN : 31 ≤ N) {k : Nat} (hk : k < 30) : ∃ m, mX4_refersOf N fm sz (nI k) = some m ∧ mk (EE T k) m := by
  unfold mX4_refersOf
  have h15 := (hT k hk).1
  obtain ⟨m, e, h⟩ := r_refers (N := N) (hT k hk) (n0 := 450) (o := 15 * k) (f := fm) (hR k hk).2 (by omega) (by omega) hN
  rw [if_neg (nI_in hk (by omega)), nI_clamp (by omega), (hR k hk).1, c_15, pk_mul, e, Option.bind_some]
  exact ⟨m, rfl, h⟩
/-- the inner loop of below -/
theorem r_bi_l (hT : okS T) (hR : rR T fm sz) (hN : 31 ≤ N) {p q0 : Nat → Bool} (r4 : Int32 → Int32 → Option Int32) (v3 : Int32) (R : Option Int32 → Prop)
    (hR' : ∀ (q : Nat → Bool) (v2 : Int32), mk q v2 → (∀ i, i < 30 → q0 i = true → q i = true) → (∀ i, i < 30 → q i = true → clo (EE T) p i) → (∀ i k, i < 30 → k < 30 → q0 i = true → EE T i k = true → q k = true) → R (r4 v2 v3)) :
    ∀ (d k n : Nat) (q : Nat → Bool) (v2 : Int32), k + d = 30 → d < n → mk q v2 → (∀ i, i < 30 → q0 i = true → q i = true) → (∀ i, i < 30 → q i = true → clo (EE T) p i) → (∀ i a, i < k → a < 30 → q0 i = true → EE T i a = true → q a = true) → R (mX4_below_14 N fm sz r4 n v2 v3 (nI k))
  | _, _, 0, _, _, _, h2, _, _, _, _ => absurd h2 (Nat.not_lt_zero _)
  | 0, k, n + 1, q, v2, h1, h2, hq, ha, hb, hc => by
    have : k = 30 := by omega
    subst this
    simp only [mX4_below_14, mX4_below_14_b]
    rw [if_pos (by decide)]
    exact hR' q v2 hq ha hb hc
  | d + 1, k, n + 1, q, v2, h1, h2, hq, ha, hb, hc => by
    have hk : k < 30 := by omega
    simp only [mX4_below_14, mX4_below_14_b, mX4_below_42]
    rw [if_neg (by rw [c_30, c_le (by omega) (by omega)]; omega), nI_1, mk_holds hq hk]
    cases e : q k
    · rw [if_neg (by decide)]
      refine r_bi_l hT hR hN r4 v3 R hR' d (k + 1) n _ _ (by omega) (by omega) (mk_or hq mk_0) (fun i hi z => by simp [ha i hi z]) (fun i hi z => hb i hi (by simpa using z)) (fun i a hi hak z e2 => ?_)
      rw [Bool.or_false]
      rcases Nat.lt_or_ge i k with y | y
      · exact hc i a y hak z e2
      · have : i = k := by omega
        subst this
        rw [ha i hk z] at e; exact absurd e (by decide)
    · obtain ⟨m, em, hm⟩ := r_refersOf hT hR hN hk
      rw [if_pos (by decide), em, Option.bind_some]
      refine r_bi_l hT hR hN r4 v3 R hR' d (k + 1) n _ _ (by omega) (by omega) (mk_or hq hm) (fun i hi z => by simp [ha i hi z]) (fun i hi z => ?_) (fun i a hi hak z e2 => ?_)
      · rw [Bool.or_eq_true] at z
        rcases z with z | z
        · exact hb i hi z
        · exact clo_st hk hi (hb k hk e) z
      · rw [Bool.or_eq_true]
        rcases Nat.lt_or_ge i k with y | y
        · exact .inl (hc i a y hak z e2)
        · have : i = k := by omega
          subst this
          exact .inr e2
theorem r_below_l (hT : okS T) (hR : rR T fm sz) (hN : 31 ≤ N) {p : Nat → Bool} : ∀ (n : Nat) (q r : Nat → Bool) (v2 v3 : Int32), 30 - fb_ct r 30 < n → mk q v2 → mk r v3 → cI (EE T) p q r → ∃ m q', mX4_below_4 N fm sz n v2 v3 = some m ∧ mk q' m ∧ ∀ j, j < 30 → (q' j = true ↔ clo (EE T) p j)
  | 0, _, _, _, _, h2, _, _, _ => absurd h2 (Nat.not_lt_zero _)
  | n + 1, q, r, v2, v3, h2, hq, hr, hI => by
    simp only [mX4_below_4, mX4_below_4_b]
    by_cases e : v2 = v3
    · rw [if_pos e]
      exact ⟨v2, q, rfl, hq, fun j hj => cI_end hI ((mk_inj hq hr).mp e) hj⟩
    · rw [if_neg e]
      have hg := ct_grow hI.2.2.2 (fun z => e ((mk_inj hq hr).mpr z))
      have hg2 := fb_ct_le q 30
      refine r_bi_l hT hR hN (p := p) (q0 := q) (mX4_below_4 N fm sz n) v2 (fun o => ∃ m q', o = some m ∧ mk q' m ∧ ∀ j, j < 30 → (q' j = true ↔ clo (EE T) p j)) (fun q1 w hq1 ha hb hc => ?_) 30 0 N q v2 rfl (by omega) hq (fun _ _ z => z) hI.2.1 (fun _ _ z => absurd z (Nat.not_lt_zero _))
      exact r_below_l hT hR hN n q1 q w v2 (by omega) hq1 hq ⟨fun i hi z => ha i hi (hI.1 i hi z), hb, hc, ha⟩
theorem r_below (hT : okS T) (hR : rR T fm sz) (hN : 31 ≤ N) {p : Nat → Bool} {a : Int32} (h : mk p a) : ∃ m q, mX4_below N fm sz a = some m ∧ mk q m ∧ ∀ j, j < 30 → (q j = true ↔ clo (EE T) p j) :=
  r_below_l hT hR hN N p _ a 0 (by omega) h mk_0 (cI_0 p)
theorem r_dep (hT : okS T) (hR : rR T fm sz) (hN : 31 ≤ N) {i j : Nat} (hi : i < 30) (hj : j < 30) : ∃ x : Int32, mX4_doesDepend N fm sz (nI i) (nI j) = some x ∧ (x = 0 ∨ x = 1) ∧ (x = 1 ↔ clo (EE T) (EE T i) j) := by
  unfold mX4_doesDepend mX4_doesDepend_22
  obtain ⟨m, em, hm⟩ := r_refersOf hT hR hN hi
  obtain ⟨m2, q, em2, hm2, hq⟩ := r_below hT hR hN hm
  rw [em, Option.bind_some, em2, Option.bind_some, mk_holds hm2 hj]
  cases e : q j
  · refine ⟨0, by decide, .inl rfl, ⟨fun z => absurd z (by decide), fun z => ?_⟩⟩
    rw [(hq j hj).mpr z] at e; exact absurd e (by decide)
  · exact ⟨1, by decide, .inr rfl, ⟨fun _ => (hq j hj).mp e, fun _ => rfl⟩⟩
theorem r_anew_l (hT : okS T) (hR : rR T fm sz) (hN : 31 ≤ N) {p : Nat → Bool} {a : Int32} (h : mk p a) : ∀ (d k n : Nat), k + d = 30 → d < n → mX4_anew_4 N fm sz n a (nI (fb_ct (depB (EE T) p) k)) (nI k) = some (nI (fb_ct (depB (EE T) p) 30))
  | _, _, 0, _, h2 => absurd h2 (Nat.not_lt_zero _)
  | 0, k, n + 1, h1, h2 => by
    have : k = 30 := by omega
    subst this
    simp only [mX4_anew_4, mX4_anew_4_b]
    rw [if_pos (by decide)]
  | d + 1, k, n + 1, h1, h2 => by
    have hk : k < 30 := by omega
    simp only [mX4_anew_4, mX4_anew_4_b, mX4_anew_28]
    obtain ⟨m, q, em, hm, hq⟩ := r_below hT hR hN (mk_only hk)
    rw [if_neg (by rw [c_30, c_le (by omega) (by omega)]; omega), nI_1, em, Option.bind_some]
    have ih := r_anew_l hT hR hN h d (k + 1) n (by omega) (by omega)
    rw [fb_ct_succ] at ih
    have hx := mk_and hm h
    by_cases e : m &&& a = 0
    · rw [if_pos e]
      have e2 : depB (EE T) p k = false := by
        cases e3 : depB (EE T) p k
        · rfl
        · obtain ⟨j, hj, pj, cj⟩ := (clo_rev hk).mp (depB_iff.mp e3)
          have := (mk_z hx).mp e j hj
          rw [pj, (hq j hj).mpr cj] at this
          exact absurd this (by decide)
      rw [e2] at ih
      rw [c_0, nI_add]
      exact ih
    · rw [if_neg e]
      obtain ⟨j, hj, ej⟩ := (mk_ne hx).mp e
      rw [Bool.and_eq_true] at ej
      have e2 : depB (EE T) p k = true := depB_iff.mpr ((clo_rev hk).mpr ⟨j, hj, ej.2, (hq j hj).mp ej.1⟩)
      rw [e2] at ih
      rw [c_1, nI_add]
      exact ih
theorem r_anew (hT : okS T) (hR : rR T fm sz) (hN : 31 ≤ N) {p : Nat → Bool} {a : Int32} (h : mk p a) : mX4_anew N fm sz a = some (nI (fb_ct (depB (EE T) p) 30)) :=
  r_anew_l hT hR hN h 30 0 N rfl (by omega)
end RSETS
/-! no cell depends on itself -/
def acy (E : Nat → Nat → Bool) : Prop := ∃ rk : Nat → Nat, ∀ i j, i < 30 → j < 30 → E i j = true → rk j < rk i
theorem acy_le {E : Nat → Nat → Bool} {rk : Nat → Nat} (h : ∀ i j, i < 30 → j < 30 → E i j = true → rk j < rk i) {i j : Nat} (hj : j < 30) (c : clo E (fun x => x == i) j) : rk j ≤ rk i := by
  have := c (fun j => j < 30 → rk j ≤ rk i) (fun a _ e _ => by
    have : a = i := by simpa using e
    subst this; exact Nat.le_refl _) (fun a b ha hb t e _ => Nat.le_trans (Nat.le_of_lt (h a b ha hb e)) (t ha))
  exact this hj
theorem acy_no {E : Nat → Nat → Bool} (h : acy E) {i j : Nat} (hi : i < 30) (hj : j < 30) (e : E i j = true) : ¬ clo E (fun x => x == j) i := by
  obtain ⟨rk, h⟩ := h
  intro c
  have := acy_le h hi c
  have := h i j hi hj e
  omega
noncomputable def belB (E : Nat → Nat → Bool) (i : Nat) (j : Nat) : Bool := @decide (clo E (fun x => x == i) j) (Classical.propDecidable _)
theorem belB_iff {E : Nat → Nat → Bool} {i j : Nat} : belB E i j = true ↔ clo E (fun x => x == i) j := @decide_eq_true_iff _ (Classical.propDecidable _)
theorem acy_b {E : Nat → Nat → Bool} (h : acy E) : ∃ rk : Nat → Nat, (∀ i, rk i ≤ 30) ∧ ∀ i j, i < 30 → j < 30 → E i j = true → rk j < rk i := by
  refine ⟨fun i => fb_ct (belB E i) 30, fun i => fb_ct_le _ 30, fun i j hi hj e => ?_⟩
  refine ct_grow (fun k hk z => ?_) (fun z => ?_)
  · refine belB_iff.mpr (clo_tr (belB_iff.mp z) (fun x hx ex => ?_))
    have : x = j := by simpa using ex
    subst this
    exact clo_st hi hx (clo_in hi (by simp)) e
  · have h1 : belB E i i = true := belB_iff.mpr (clo_in hi (by simp))
    rw [z i hi] at h1
    exact acy_no h hi hj e (belB_iff.mp h1)
/-- a cell is below what it names just when it depends on it -/
theorem clo_named {E : Nat → Nat → Bool} (h : acy E) {i j : Nat} (hi : i < 30) (hj : j < 30) : clo E (E i) j ↔ i ≠ j ∧ clo E (fun x => x == i) j := by
  constructor
  · intro c
    refine ⟨fun e => ?_, clo_tr c (fun x hx ex => clo_st hi hx (clo_in hi (by simp)) ex)⟩
    subst e
    obtain ⟨rk, h⟩ := h
    have := c (fun j => j < 30 → rk j < rk i) (fun a ha e _ => h i a hi ha e) (fun a b ha hb t e _ => Nat.lt_trans (h a b ha hb e) (t ha)) hi
    omega
  · rintro ⟨n, c⟩
    have := c (fun j => j < 30 → (i = j ∨ clo E (E i) j)) (fun a ha e _ => by
      have : a = i := by simpa using e
      exact .inl this.symm) (fun a b ha hb t e _ => by
        rcases t ha with z | z
        · subst z; exact .inr (clo_in hb e)
        · exact .inr (clo_st ha hb z e))
    rcases this hj with z | z
    · exact absurd z n
    · exact z
