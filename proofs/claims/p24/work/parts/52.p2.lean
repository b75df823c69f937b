/-! closures; the landed class's set methods -/
theorem c_le {a b : Nat} (ha : a < 2 ^ 31) (hb : b < 2 ^ 31) : (nI a ≤ nI b) = (a ≤ b) := propext (nI_leI ha hb)
theorem c_lt {a b : Nat} (ha : a < 2 ^ 31) (hb : b < 2 ^ 31) : (nI a < nI b) = (a < b) := propext (nI_ltI ha hb)
theorem c_eq {a b : Nat} (ha : a < 2 ^ 31) (hb : b < 2 ^ 31) : (nI a = nI b) = (a = b) := propext (nI_eq ha hb)
theorem c_30 : (30 : Int32) = nI 30 := rfl
theorem c_1 : (1 : Int32) = nI 1 := rfl
theorem c_0 : (0 : Int32) = nI 0 := rfl
theorem c_15 : (15 : Int32) = nI 15 := rfl
def bI (b : Bool) : Int32 := if b then 1 else 0
theorem bI_t : bI true = 1 := rfl
theorem bI_f : bI false = 0 := rfl
/-- least set that holds p and is closed under E -/
def clo (E : Nat → Nat → Bool) (p : Nat → Bool) (j : Nat) : Prop := ∀ T : Nat → Prop, (∀ i, i < 30 → p i = true → T i) → (∀ i k, i < 30 → k < 30 → T i → E i k = true → T k) → T j
theorem clo_in {E : Nat → Nat → Bool} {p : Nat → Bool} {i : Nat} (hi : i < 30) (h : p i = true) : clo E p i := fun _ a _ => a i hi h
theorem clo_st {E : Nat → Nat → Bool} {p : Nat → Bool} {i k : Nat} (hi : i < 30) (hk : k < 30) (h : clo E p i) (e : E i k = true) : clo E p k := fun T a b => b i k hi hk (h T a b) e
theorem clo_mono {E E' : Nat → Nat → Bool} {p p' : Nat → Bool} {j : Nat} (h : clo E p j) (hp : ∀ i, i < 30 → p i = true → clo E' p' i) (hE : ∀ i k, i < 30 → k < 30 → clo E' p' i → E i k = true → E' i k = true) : clo E' p' j :=
  h (fun i => clo E' p' i) hp (fun i k hi hk t e => clo_st hi hk t (hE i k hi hk t e))
theorem clo_tr {E : Nat → Nat → Bool} {p p' : Nat → Bool} {j : Nat} (h : clo E p j) (hp : ∀ i, i < 30 → p i = true → clo E p' i) : clo E p' j := clo_mono h hp (fun _ _ _ _ _ e => e)
/-- who reaches p is who has one of p below it -/
theorem clo_rev {E : Nat → Nat → Bool} {p : Nat → Bool} {i : Nat} (hi : i < 30) : clo (fun a b => E b a) p i ↔ ∃ j, j < 30 ∧ p j = true ∧ clo E (fun x => x == i) j := by
  constructor
  · intro h
    have hh : i < 30 → ∃ j, j < 30 ∧ p j = true ∧ clo E (fun x => x == i) j := by
      refine h (fun i => i < 30 → ∃ j, j < 30 ∧ p j = true ∧ clo E (fun x => x == i) j) (fun a ha b _ => ⟨a, ha, b, clo_in ha (by simp)⟩) (fun a b ha hb t e _ => ?_)
      obtain ⟨j, hj, pj, cj⟩ := t ha
      refine ⟨j, hj, pj, clo_tr cj (fun x hx ex => ?_)⟩
      have : x = a := by simpa using ex
      subst this
      exact clo_st hb hx (clo_in hb (by simp)) e
    exact hh hi
  · rintro ⟨j, hj, pj, cj⟩
    have hh : j < 30 → clo (fun a b => E b a) (fun x => x == j) i := by
      refine cj (fun j => j < 30 → clo (fun a b => E b a) (fun x => x == j) i) (fun a ha b _ => ?_) (fun a b ha hb t e _ => ?_)
      · have : a = i := by simpa using b
        subst this
        exact clo_in ha (by simp)
      · refine clo_tr (t ha) (fun x hx ex => ?_)
        have : x = a := by simpa using ex
        subst this
        exact clo_st hb hx (clo_in hb (by simp)) e
    refine clo_tr (hh hj) (fun x hx ex => ?_)
    have : x = j := by simpa using ex
    subst this
    exact clo_in hx pj
def nba (p : Nat → Bool) (E : Nat → Nat → Bool) : Nat → Nat → Bool
  | 0 => fun _ => false
  | k + 1 => fun j => nba p E k j || (p k && E k j)
theorem nba_iff {p : Nat → Bool} {E : Nat → Nat → Bool} : ∀ {k j : Nat}, nba p E k j = true ↔ ∃ i, i < k ∧ p i = true ∧ E i j = true
  | 0, j => ⟨fun h => absurd h (by simp [nba]), fun ⟨i, h, _⟩ => absurd h (Nat.not_lt_zero i)⟩
  | k + 1, j => by
    simp only [nba, Bool.or_eq_true, Bool.and_eq_true, nba_iff (k := k)]
    constructor
    · rintro (⟨i, h, q⟩ | ⟨a, b⟩)
      · exact ⟨i, by omega, q⟩
      · exact ⟨k, by omega, a, b⟩
    · rintro ⟨i, h, a, b⟩
      rcases Nat.lt_or_ge i k with z | z
      · exact .inl ⟨i, z, a, b⟩
      · have : i = k := by omega
        subst this; exact .inr ⟨a, b⟩
section SETS
variable {E : Nat → Nat → Bool} {fw : Nat → Int32} {fn : Nat → Nat} {ff : Nat → Nat → Int32} {N : Nat}
theorem s_only {k : Nat} (hk : k < 30) : ∃ m, mX3_only N (nI k) = some m ∧ mk (fun i => i == k) m := ⟨_, rfl, mk_only hk⟩
theorem s_holds {p : Nat → Bool} {a : Int32} (h : mk p a) {k : Nat} (hk : k < 30) : mX3_holds N a (nI k) = some (bI (p k)) := by
  unfold mX3_holds mX3_holds_13
  rw [mk_holds h hk]
  cases p k
  · rfl
  · rfl
theorem s_nba_l (hE : ∀ i, i < 30 → mk (E i) (fw i)) {p : Nat → Bool} {a : Int32} (h : mk p a) : ∀ (d k n : Nat) (v2 : Int32), k + d = 30 → d < n → mk (nba p E k) v2 → ∃ m, mX3_namedByAny_4 N fw fn ff n a v2 (nI k) = some m ∧ mk (nba p E 30) m
  | _, _, 0, _, _, h2, _ => absurd h2 (Nat.not_lt_zero _)
  | 0, k, n + 1, v2, h1, h2, hv => by
    have : k = 30 := by omega
    subst this
    simp only [mX3_namedByAny_4, mX3_namedByAny_4_b]
    exact ⟨v2, if_pos (by decide), hv⟩
  | d + 1, k, n + 1, v2, h1, h2, hv => by
    have hk : k < 30 := by omega
    simp only [mX3_namedByAny_4, mX3_namedByAny_4_b, mX3_namedByAny_30]
    rw [if_neg (by rw [c_30, c_le (by omega) (by omega)]; omega), s_holds h hk, Option.bind_some, nI_1, if_neg (nI_in hk (by omega)), nI_clamp (by omega)]
    cases e : p k
    · rw [if_pos bI_f]
      exact s_nba_l hE h d (k + 1) n v2 (by omega) (by omega) (mk_ext hv (fun i _ => by simp [nba, e]))
    · rw [if_neg (by decide)]
      exact s_nba_l hE h d (k + 1) n _ (by omega) (by omega) (mk_ext (mk_or hv (hE k hk)) (fun i _ => by simp [nba, e]))
theorem s_nba (hE : ∀ i, i < 30 → mk (E i) (fw i)) {p : Nat → Bool} {a : Int32} (h : mk p a) (hN : 31 ≤ N) : ∃ m, mX3_namedByAny N fw fn ff a = some m ∧ mk (nba p E 30) m :=
  s_nba_l hE h 30 0 N 0 rfl (by omega) mk_0
theorem ct_full {r : Nat → Bool} (h : 30 ≤ fb_ct r 30) : ∀ i, i < 30 → r i = true := fb_ct_all.mp (Nat.le_antisymm (fb_ct_le r 30) h)
theorem ct_grow {r q : Nat → Bool} (h : ∀ i, i < 30 → r i = true → q i = true) (hn : ¬ ∀ i, i < 30 → q i = r i) : fb_ct r 30 + 1 ≤ fb_ct q 30 := by
  have h1 := fb_ct_sub (p := r) (q := q) (n := 30) h
  rcases Nat.lt_or_ge (fb_ct r 30) (fb_ct q 30) with z | z
  · exact z
  · exfalso
    apply hn
    have e : fb_ct (fun k => r k || (q k && !r k)) 30 = fb_ct r 30 + fb_ct (fun k => q k && !r k) 30 := fb_ct_or (fun k hk z => by
      obtain ⟨a, b⟩ := z
      rw [a] at b; simp at b)
    have e2 : fb_ct (fun k => r k || (q k && !r k)) 30 = fb_ct q 30 := fb_ct_cong (fun k hk => by
      have := h k hk
      cases e3 : r k
      · simp
      · rw [this e3]; rfl)
    have e3 : fb_ct (fun k => q k && !r k) 30 = 0 := by omega
    intro i hi
    have e4 := fb_ct_zero.mp e3 i hi
    have := h i hi
    cases e5 : r i
    · rw [e5] at e4; simpa using e4
    · exact this e5
/-- the invariant of a search for a closure: q reached, r before -/
def cI (E : Nat → Nat → Bool) (p q r : Nat → Bool) : Prop := (∀ i, i < 30 → p i = true → q i = true) ∧ (∀ i, i < 30 → q i = true → clo E p i) ∧ (∀ i k, i < 30 → k < 30 → r i = true → E i k = true → q k = true) ∧ ∀ i, i < 30 → r i = true → q i = true
theorem cI_end {p q r : Nat → Bool} (h : cI E p q r) (e : ∀ i, i < 30 → q i = r i) {j : Nat} (hj : j < 30) : q j = true ↔ clo E p j := by
  refine ⟨h.2.1 j hj, fun c => ?_⟩
  have := c (fun j => j < 30 → q j = true) (fun i hi z _ => h.1 i hi z) (fun i k hi hk t e2 _ => h.2.2.1 i k hi hk (by rw [← e i hi]; exact t hi) e2)
  exact this hj
theorem cI_0 (p : Nat → Bool) : cI E p p (fun _ => false) := ⟨fun _ _ z => z, fun i hi z => clo_in hi z, fun _ _ _ _ z _ => absurd z Bool.false_ne_true, fun _ _ z => absurd z Bool.false_ne_true⟩
theorem s_wd_l (hE : ∀ i, i < 30 → mk (E i) (fw i)) (hN : 31 ≤ N) {p : Nat → Bool} : ∀ (d t n : Nat) (q r : Nat → Bool) (v2 v3 : Int32), t + d = 30 → d < n → mk q v2 → mk r v3 → cI E p q r → t ≤ fb_ct r 30 → ∃ m q', mX3_withDependencies_7 N fw fn ff n v2 v3 (nI t) = some m ∧ mk q' m ∧ ∀ j, j < 30 → (q' j = true ↔ clo E p j)
  | _, _, 0, _, _, _, _, _, h2, _, _, _, _ => absurd h2 (Nat.not_lt_zero _)
  | 0, t, n + 1, q, r, v2, v3, h1, h2, hq, hr, hI, ht => by
    have : t = 30 := by omega
    subst this
    simp only [mX3_withDependencies_7, mX3_withDependencies_7_b, mX3_withDependencies_35]
    refine ⟨v2, q, if_pos (by decide), hq, fun j hj => cI_end hI (fun i hi => ?_) hj⟩
    have := ct_full ht i hi
    rw [this, hI.2.2.2 i hi this]
  | d + 1, t, n + 1, q, r, v2, v3, h1, h2, hq, hr, hI, ht => by
    simp only [mX3_withDependencies_7, mX3_withDependencies_7_b, mX3_withDependencies_35]
    rw [if_neg (by rw [c_30, c_le (by omega) (by omega)]; omega)]
    by_cases e : v2 = v3
    · rw [if_pos e]
      exact ⟨v2, q, rfl, hq, fun j hj => cI_end hI ((mk_inj hq hr).mp e) hj⟩
    · rw [if_neg e, nI_1]
      obtain ⟨m, em, hm⟩ := s_nba (fn := fn) (ff := ff) hE hq hN
      rw [em, Option.bind_some]
      have hg := ct_grow hI.2.2.2 (fun z => e ((mk_inj hq hr).mpr z))
      refine s_wd_l hE hN d (t + 1) n _ q _ v2 (by omega) (by omega) (mk_or hq hm) hq ⟨fun i hi z => by simp [hI.1 i hi z], fun i hi z => ?_, fun i k hi hk z e2 => ?_, fun i hi z => by simp [z]⟩ (by omega)
      · rw [Bool.or_eq_true] at z
        rcases z with z | z
        · exact hI.2.1 i hi z
        · obtain ⟨a, ha, b, c⟩ := nba_iff.mp z
          exact clo_st ha hi (hI.2.1 a ha b) c
      · rw [Bool.or_eq_true]
        exact .inr (nba_iff.mpr ⟨i, hi, z, e2⟩)
theorem s_wd (hE : ∀ i, i < 30 → mk (E i) (fw i)) (hN : 31 ≤ N) {p : Nat → Bool} {a : Int32} (h : mk p a) : ∃ m q, mX3_withDependencies N fw fn ff a = some m ∧ mk q m ∧ ∀ j, j < 30 → (q j = true ↔ clo E p j) :=
  s_wd_l hE hN 30 0 N p _ a 0 rfl (by omega) h mk_0 (cI_0 p) (Nat.zero_le _)
/-- the inner loop of withDependents -/
theorem s_wi_l (hE : ∀ i, i < 30 → mk (E i) (fw i)) {p q0 : Nat → Bool} (r7 : Int32 → Int32 → Int32 → Option Int32) (v3 v4 : Int32) (R : Option Int32 → Prop)
    (hR : ∀ (q : Nat → Bool) (v2 : Int32), mk q v2 → (∀ i, i < 30 → q0 i = true → q i = true) → (∀ i, i < 30 → q i = true → clo (fun a b => E b a) p i) → (∀ i k, i < 30 → k < 30 → q0 i = true → E k i = true → q k = true) → R (r7 v2 v3 (v4 + 1))) :
    ∀ (d k n : Nat) (q : Nat → Bool) (v2 : Int32), k + d = 30 → d < n → mk q v2 → (∀ i, i < 30 → q0 i = true → q i = true) → (∀ i, i < 30 → q i = true → clo (fun a b => E b a) p i) → (∀ i a, i < 30 → a < k → q0 i = true → E a i = true → q a = true) → R (mX3_withDependents_24 N fw fn ff r7 n v2 v3 v4 (nI k))
  | _, _, 0, _, _, _, h2, _, _, _, _ => absurd h2 (Nat.not_lt_zero _)
  | 0, k, n + 1, q, v2, h1, h2, hq, ha, hb, hc => by
    have : k = 30 := by omega
    subst this
    simp only [mX3_withDependents_24, mX3_withDependents_24_b]
    rw [if_pos (by decide)]
    exact hR q v2 hq ha hb hc
  | d + 1, k, n + 1, q, v2, h1, h2, hq, ha, hb, hc => by
    have hk : k < 30 := by omega
    simp only [mX3_withDependents_24, mX3_withDependents_24_b, mX3_withDependents_54, mX3_only]
    rw [if_neg (by rw [c_30, c_le (by omega) (by omega)]; omega), nI_1, if_neg (nI_in hk (by omega)), nI_clamp (by omega), Option.bind_some]
    have hz := mk_and (hE k hk) hq
    by_cases e : fw k &&& v2 = 0
    · rw [if_pos e]
      refine s_wi_l hE r7 v3 v4 R hR d (k + 1) n q v2 (by omega) (by omega) hq ha hb (fun i a hi hak z e2 => ?_)
      rcases Nat.lt_or_ge a k with y | y
      · exact hc i a hi y z e2
      · have : a = k := by omega
        subst this
        have := (mk_z hz).mp e i hi
        rw [e2, ha i hi z] at this
        exact absurd this (by decide)
    · rw [if_neg e]
      obtain ⟨i0, hi0, e0⟩ := (mk_ne hz).mp e
      rw [Bool.and_eq_true] at e0
      refine s_wi_l hE r7 v3 v4 R hR d (k + 1) n _ _ (by omega) (by omega) (mk_or hq (mk_only hk)) (fun i hi z => by simp [ha i hi z]) (fun i hi z => ?_) (fun i a hi hak z e2 => ?_)
      · rw [Bool.or_eq_true] at z
        rcases z with z | z
        · exact hb i hi z
        · have : i = k := by simpa using z
          subst this
          exact clo_st hi0 hi (hb i0 hi0 e0.2) e0.1
      · rw [Bool.or_eq_true]
        rcases Nat.lt_or_ge a k with y | y
        · exact .inl (hc i a hi y z e2)
        · exact .inr (by simp; omega)
theorem s_wn_l (hE : ∀ i, i < 30 → mk (E i) (fw i)) (hN : 31 ≤ N) {p : Nat → Bool} : ∀ (d t n : Nat) (q r : Nat → Bool) (v2 v3 : Int32), t + d = 30 → d < n → mk q v2 → mk r v3 → cI (fun a b => E b a) p q r → t ≤ fb_ct r 30 → ∃ m q', mX3_withDependents_7 N fw fn ff n v2 v3 (nI t) = some m ∧ mk q' m ∧ ∀ j, j < 30 → (q' j = true ↔ clo (fun a b => E b a) p j)
  | _, _, 0, _, _, _, _, _, h2, _, _, _, _ => absurd h2 (Nat.not_lt_zero _)
  | 0, t, n + 1, q, r, v2, v3, h1, h2, hq, hr, hI, ht => by
    have : t = 30 := by omega
    subst this
    simp only [mX3_withDependents_7, mX3_withDependents_7_b, mX3_withDependents_66]
    refine ⟨v2, q, if_pos (by decide), hq, fun j hj => cI_end hI (fun i hi => ?_) hj⟩
    have := ct_full ht i hi
    rw [this, hI.2.2.2 i hi this]
  | d + 1, t, n + 1, q, r, v2, v3, h1, h2, hq, hr, hI, ht => by
    simp only [mX3_withDependents_7, mX3_withDependents_7_b, mX3_withDependents_66]
    rw [if_neg (by rw [c_30, c_le (by omega) (by omega)]; omega)]
    by_cases e : v2 = v3
    · rw [if_pos e]
      exact ⟨v2, q, rfl, hq, fun j hj => cI_end hI ((mk_inj hq hr).mp e) hj⟩
    · rw [if_neg e]
      have hg := ct_grow hI.2.2.2 (fun z => e ((mk_inj hq hr).mpr z))
      refine s_wi_l hE (p := p) (q0 := q) (mX3_withDependents_7 N fw fn ff n) v2 (nI t) (fun o => ∃ m q', o = some m ∧ mk q' m ∧ ∀ j, j < 30 → (q' j = true ↔ clo (fun a b => E b a) p j)) (fun q1 w hq1 ha hb hc => ?_) 30 0 N q v2 rfl (by omega) hq (fun _ _ z => z) hI.2.1 (fun _ a _ z => absurd z (Nat.not_lt_zero a))
      rw [nI_1]
      exact s_wn_l hE hN d (t + 1) n q1 q w v2 (by omega) (by omega) hq1 hq ⟨fun i hi z => ha i hi (hI.1 i hi z), hb, hc, ha⟩ (by omega)
theorem s_wn (hE : ∀ i, i < 30 → mk (E i) (fw i)) (hN : 31 ≤ N) {p : Nat → Bool} {a : Int32} (h : mk p a) : ∃ m q, mX3_withDependents N fw fn ff a = some m ∧ mk q m ∧ ∀ j, j < 30 → (q j = true ↔ clo (fun a b => E b a) p j) :=
  s_wn_l hE hN 30 0 N p _ a 0 rfl (by omega) h mk_0 (cI_0 p) (Nat.zero_le _)
theorem s_dep (hE : ∀ i, i < 30 → mk (E i) (fw i)) (hN : 31 ≤ N) {i j : Nat} (hi : i < 30) (hj : j < 30) : ∃ x : Int32, mX3_dependsOn N fw fn ff (nI i) (nI j) = some x ∧ (x = 0 ∨ x = 1) ∧ (x = 1 ↔ i ≠ j ∧ clo E (fun x => x == i) j) := by
  unfold mX3_dependsOn mX3_dependsOn_24 mX3_dependsOn_25 mX3_only
  by_cases e : i = j
  · subst e
    rw [if_pos rfl]
    exact ⟨0, by decide, .inl rfl, ⟨fun z => absurd z (by decide), fun z => absurd rfl z.1⟩⟩
  · rw [if_neg (by rw [c_eq (by omega) (by omega)]; exact e), Option.bind_some]
    obtain ⟨m, q, em, hm, hq⟩ := s_wd (fn := fn) (ff := ff) hE hN (mk_only hi)
    rw [em, Option.bind_some, s_holds hm hj, Option.bind_some]
    cases e2 : q j
    · rw [if_pos bI_f]
      refine ⟨0, by decide, .inl rfl, ⟨fun z => absurd z (by decide), fun z => ?_⟩⟩
      rw [(hq j hj).mpr z.2] at e2; exact absurd e2 (by decide)
    · rw [if_neg (by decide)]
      exact ⟨1, by decide, .inr rfl, ⟨fun _ => ⟨e, (hq j hj).mp e2⟩, fun _ => rfl⟩⟩
end SETS

