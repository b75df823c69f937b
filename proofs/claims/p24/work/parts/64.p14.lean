/-! a cell gets a formula: set, put, clear -/
theorem bI_nt : ¬ bI true = 0 := by decide
def sT (T : Nat → List Nat) (c : Nat) (l : List Nat) : Nat → List Nat := fun k => if k = c then l else T k
theorem sT_s (T : Nat → List Nat) (c : Nat) (l : List Nat) : sT T c l c = l := if_pos rfl
theorem sT_n {T : Nat → List Nat} {c k : Nat} {l : List Nat} (h : k ≠ c) : sT T c l k = T k := if_neg h
theorem up_s {α : Type} (f : Nat → α) (k : Nat) (v : α) : va_up f k v k = v := if_pos rfl
theorem up_n {α : Type} {f : Nat → α} {k j : Nat} {v : α} (h : j ≠ k) : va_up f k v j = f j := if_neg h
theorem okSF_upd {T : Nat → List Nat} {c : Nat} {l : List Nat} (h : okSF T) (hl : okF l) : okSF (sT T c l) := fun k hk => by
  by_cases e : k = c
  · subst e; rw [sT_s]; exact hl
  · rw [sT_n e]; exact h k hk
theorem rD_upd {T : Nat → List Nat} {fw : Nat → Int32} {fn : Nat → Nat} {ff : Nat → Nat → Int32} (h : rD T fw fn ff) (c : Nat) {l : List Nat} {w : Int32} {f : Nat → Int32} (hw : mk (nm l) w) (hf : ∀ i, i < l.length → f i = nI (tk l i)) : rD (sT T c l) (va_up fw c w) (va_up fn c l.length) (va_up ff c f) := fun k hk => by
  by_cases e : k = c
  · subst e
    unfold EE
    rw [sT_s, up_s, up_s, up_s]
    exact ⟨hw, rfl, hf⟩
  · unfold EE
    rw [sT_n e, up_n e, up_n e, up_n e]
    exact h k hk
theorem acy_upd {T : Nat → List Nat} (h : acy (EE T)) {c : Nat} (hc : c < 30) {l : List Nat} (hl : ¬ clo (EE T) (nm l) c) : acy (EE (sT T c l)) := by
  obtain ⟨rk, hb, hr⟩ := acy_b h
  refine ⟨fun i => if depB (EE T) (fun x => x == c) i = true then rk i + 31 else rk i, fun i j hi hj e => ?_⟩
  have hcc : depB (EE T) (fun x => x == c) c = true := depB_iff.mpr (clo_in hc (by simp))
  by_cases ei : i = c
  · subst ei
    have en : nm l j = true := by
      have e' := e
      unfold EE at e'
      rw [sT_s] at e'; exact e'
    have hnd : ¬ depB (EE T) (fun x => x == i) j = true := fun z => by
      obtain ⟨a, ha, pa, ca⟩ := (clo_rev hj).mp (depB_iff.mp z)
      have : a = i := by simpa using pa
      subst this
      exact hl (clo_tr ca (fun x hx ex => by
        have : x = j := by simpa using ex
        subst this
        exact clo_in hx en))
    have := hb j
    dsimp only
    rw [if_pos hcc, if_neg hnd]; omega
  · have e : EE T i j = true := by
      have e' := e
      unfold EE at e'
      rw [sT_n ei] at e'; exact e'
    have := hr i j hi hj e
    dsimp only
    by_cases dj : depB (EE T) (fun x => x == c) j = true
    · have di : depB (EE T) (fun x => x == c) i = true := depB_iff.mpr (clo_st hj hi (depB_iff.mp dj) e)
      rw [if_pos dj, if_pos di]; omega
    · rw [if_neg dj]
      split <;> omega
theorem fI_none {o : Option Nat} (h : ∀ x, o = some x → x ≤ 20) : fI o = -1 ↔ o = none := by
  cases o with
  | none => exact ⟨fun _ => rfl, fun _ => rfl⟩
  | some x =>
    have hx := h x rfl
    refine ⟨fun z => ?_, fun z => (nomatch z)⟩
    have : ∀ x, x ≤ 20 → ¬ nI x = (-1 : Int32) := by decide +kernel
    exact absurd z (this x hx)
section GIVE
variable {N : Nat} {T : Nat → List Nat} {fw : Nat → Int32} {fn : Nat → Nat} {ff : Nat → Nat → Int32} {va : Nat → Int64} {fm sz : Nat → Int32}
theorem s_init_l {n : Nat} {f : Nat → Int32} {l : List Nat} (hl : okT l) (hn : n = l.length) (hf : ∀ i, i < l.length → f i = nI (tk l i)) : ∀ (d k x : Nat) (v2 : Int32), k + d = l.length → d < x → mk (nmk l k) v2 → ∃ m, mX1_init_13 N n f x v2 (nI k) = some m ∧ mk (nm l) m
  | _, _, 0, _, _, h, _ => absurd h (Nat.not_lt_zero _)
  | 0, k, x + 1, v2, h1, h2, h3 => by
    have h15 := hl.1
    have hk : k = l.length := by omega
    simp only [mX1_init_13, mX1_init_b]
    rw [if_pos (nI_le (by omega) (by omega))]
    rw [hk] at h3
    exact ⟨v2, rfl, h3⟩
  | d + 1, k, x + 1, v2, h1, h2, h3 => by
    have h15 := hl.1
    have hk : k < l.length := by omega
    have hc := hl.2 k hk
    simp only [mX1_init_13, mX1_init_b, mX3_only]
    rw [if_neg (nI_ge (by omega) (by omega)), if_neg (nI_in (by omega) (by omega)), nI_clamp (by omega), hf k hk, nI_1]
    have e6 : nI (tk l k) < (6 : Int32) ↔ tk l k < 6 := nI_ltI (b := 6) (by omega) (by omega)
    have e36 : (36 : Int32) ≤ nI (tk l k) ↔ 36 ≤ tk l k := nI_leI (a := 36) (by omega) (by omega)
    by_cases c6 : tk l k < 6
    · rw [if_pos (e6.mpr c6)]
      refine s_init_l hl hn hf d (k + 1) x v2 (by omega) (by omega) (mk_ext h3 (fun i hi => ?_))
      simp only [nmk]
      rw [Bool.eq_iff_iff]; simp; omega
    · rw [if_neg (fun z => c6 (e6.mp z))]
      by_cases c36 : 36 ≤ tk l k
      · rw [if_pos (e36.mpr c36)]
        refine s_init_l hl hn hf d (k + 1) x v2 (by omega) (by omega) (mk_ext h3 (fun i hi => ?_))
        simp only [nmk]
        rw [Bool.eq_iff_iff]; simp; omega
      · rw [if_neg (fun z => c36 (e36.mp z)), show (6 : Int32) = nI 6 from rfl, pk_sub (by omega), Option.bind_some]
        refine s_init_l hl hn hf d (k + 1) x _ (by omega) (by omega) (mk_ext (mk_or h3 (mk_only (k := tk l k - 6) (by omega))) (fun i hi => ?_))
        simp only [nmk]
        congr 1
        rw [Bool.eq_iff_iff]; simp; omega
theorem s_init {f : Nat → Int32} {l : List Nat} (hl : okT l) (hf : ∀ i, i < l.length → f i = nI (tk l i)) (hN : 31 ≤ N) : ∃ m, mX1_init N l.length f = some m ∧ mk (nm l) m := by
  have h15 := hl.1
  exact s_init_l hl rfl hf l.length 0 N 0 (by omega) (by omega) mk_0
/-- values are found anew -/
theorem s_find {T' : Nat → List Nat} (hT : okSF T) (ha : acy (EE T)) (hT' : okSF T') (ha' : acy (EE T')) (hD : rD T' fw fn ff) (hN : 31 ≤ N) (hva : ∀ j, j < 30 → va j = eL (VV T j)) {p : Nat → Bool} {m : Int32} (hp : mk p m) (hpT : ∀ c, c < 30 → p c = false → T' c = T c) (fd : Int32) :
    ∃ va', mX3_findAnew N fw fn ff fd va m = some (nI (fb_ct (depB (EE T') p) 30), fd + nI (fb_ct (depB (EE T') p) 30), va') ∧ ∀ j, j < 30 → va' j = eL (VV T' j) := by
  obtain ⟨m2, q, e, hq, hq2⟩ := s_wn (fn := fn) (ff := ff) (N := N) (rD_E hD) hN hp
  have old : ∀ j, j < 30 → ¬ clo (fun a b => EE T' b a) p j → VV T' j = VV T j := fun j hj hn =>
    VV_cg ha' ha (D := fun i => ¬ clo (fun a b => EE T' b a) p i) (fun i k hi hk h1 h2 h3 => h1 (clo_st hk hi h3 h2)) (fun i hi h1 => hpT i hi (by
      cases e : p i with
      | false => rfl
      | true => exact absurd (clo_in hi e) h1)) j hj hn
  obtain ⟨va', e2, h1, h2⟩ := s_wo (va0 := va) hT' ha' hD hN hq (fun c j hc hj _ _ => by
    cases e : q j with
    | true => exact .inl rfl
    | false =>
      right
      rw [hva j hj, old j hj (fun z => by rw [(hq2 j hj).mpr z] at e; exact absurd e (by decide))])
  unfold mX3_findAnew
  rw [e, Option.bind_some, e2, Option.bind_some, mk_count hq, Option.bind_some]
  have hc : fb_ct q 30 = fb_ct (depB (EE T') p) 30 := fb_ct_cong (fun k hk => by
    rw [Bool.eq_iff_iff, hq2 k hk, depB_iff])
  rw [hc]
  refine ⟨va', rfl, fun j hj => ?_⟩
  cases e3 : q j with
  | true => exact h2 j hj e3
  | false =>
    rw [h1 j (fun z => by rw [z.2] at e3; exact absurd e3 (by decide)), hva j hj, old j hj (fun z => by rw [(hq2 j hj).mpr z] at e3; exact absurd e3 (by decide))]
theorem nm_num (k : Nat) : ∀ i, i < 30 → nm [36 + k] i = false := fun i hi => by
  cases e : nm [36 + k] i with
  | false => rfl
  | true =>
    obtain ⟨j, hj, e2⟩ := nmk_iff.mp e
    have : j = 0 := by simp at hj; omega
    subst this
    have e2 : 36 + k = i + 6 := e2
    omega
theorem no_clo {E : Nat → Nat → Bool} {p : Nat → Bool} (h : ∀ i, i < 30 → p i = false) {c : Nat} (hc : c < 30) : ¬ clo E p c := fun z => by
  have := z (fun j => j ≥ 30) (fun i hi e => by rw [h i hi] at e; exact absurd e (by decide)) (fun i k hi hk t _ => absurd t (by omega))
  omega
theorem okF_num {k : Nat} (hk : k < 1000000) : okF [36 + k] := by
  refine ⟨⟨by simp, fun i hi => ?_⟩, .inr ?_⟩
  · have : i = 0 := by simp at hi; omega
    subst this
    show 36 + k < 1000036; omega
  · simp only [aut]
    rw [if_neg (by omega), if_pos (by omega)]; rfl
theorem s_lone {k : Nat} (hk : k < 1000000) (hN : 31 ≤ N) : ∃ (w : Int32) (f : Nat → Int32), mX3_loneNumber N (nI k) = some (w, 1, f) ∧ mk (nm [36 + k]) w ∧ ∀ i, i < [36 + k].length → f i = nI (tk [36 + k] i) := by
  have hf : ∀ i, i < [36 + k].length → upd (fun _ => 0) (0 : Int32).toNatClampNeg ((36 : Int32) + nI k) i = nI (tk [36 + k] i) := fun i hi => by
    have : i = 0 := by simp at hi; omega
    subst this
    have e : upd (fun _ => 0) (0 : Int32).toNatClampNeg ((36 : Int32) + nI k) 0 = (36 : Int32) + nI k := pk_us
    rw [e]
    exact nI_add 36 k
  obtain ⟨m, e, hm⟩ := s_init (N := N) (okF_num hk).1 hf hN
  unfold mX3_loneNumber
  have e' : mX1_init N 1 (upd (fun _ => 0) (0 : Int32).toNatClampNeg ((36 : Int32) + nI k)) = some m := e
  rw [e', Option.bind_some]
  exact ⟨m, _, rfl, hm, hf⟩
theorem nm_nil : ∀ i, i < 30 → nm [] i = false := fun _ _ => rfl
end GIVE

/-- a sheet -/
def rSH (T : Nat → List Nat) (fw : Nat → Int32) (fn : Nat → Nat) (ff : Nat → Nat → Int32) (va : Nat → Int64) : Prop := okSF T ∧ acy (EE T) ∧ rD T fw fn ff ∧ ∀ j, j < 30 → va j = eL (VV T j)
/-- for how many cells a value is found anew -/
noncomputable def dn (T : Nat → List Nat) (c : Nat) : Nat := fb_ct (depB (EE T) (fun x => x == c)) 30
section GIVE2
variable {N : Nat} {T : Nat → List Nat} {fw : Nat → Int32} {fn : Nat → Nat} {ff : Nat → Nat → Int32} {va : Nat → Int64}
theorem t_give (h : rSH T fw fn ff va) (hN : 31 ≤ N) {c : Nat} (hc : c < 30) {l : List Nat} (hl : okF l) (hn : ¬ clo (EE T) (nm l) c) {w : Int32} {f : Nat → Int32} (hw : mk (nm l) w) (hf : ∀ i, i < l.length → f i = nI (tk l i)) (fd : Int32) :
    ∃ (va' : Nat → Int64), mX3_give N w l.length f fd fw fn ff va (nI c) = some (nI (dn (sT T c l) c), fd + nI (dn (sT T c l) c), va_up fw c w, va_up fn c l.length, va_up ff c f, va') ∧ rSH (sT T c l) (va_up fw c w) (va_up fn c l.length) (va_up ff c f) va' := by
  obtain ⟨hT, ha, hD, hva⟩ := h
  have hT' := okSF_upd (c := c) hT hl
  have ha' := acy_upd ha hc hn
  have hD' := rD_upd hD c hw hf
  obtain ⟨va', e, hv⟩ := s_find (fw := va_up fw c w) (fn := va_up fn c l.length) (ff := va_up ff c f) hT ha hT' ha' hD' hN hva (mk_only hc) (fun j _ z => sT_n (fun e => by subst e; simp at z)) fd
  refine ⟨va', ?_, hT', ha', hD', hv⟩
  unfold mX3_give mX3_only
  rw [if_neg (nI_in hc (by omega)), Option.bind_some, nI_clamp (by omega), e, Option.bind_some]
  rfl
/-- a number is given -/
theorem t_put (h : rSH T fw fn ff va) (hN : 31 ≤ N) {c k : Nat} (hc : c < 30) (hk : k < 1000000) (fd : Int32) : ∃ (w : Int32) (f : Nat → Int32) (va' : Nat → Int64), mX3_loneNumber N (nI k) = some (w, 1, f) ∧ mX3_give N w 1 f fd fw fn ff va (nI c) = some (nI (dn (sT T c [36 + k]) c), fd + nI (dn (sT T c [36 + k]) c), va_up fw c w, va_up fn c 1, va_up ff c f, va') ∧ rSH (sT T c [36 + k]) (va_up fw c w) (va_up fn c 1) (va_up ff c f) va' := by
  obtain ⟨w, f, e, hw, hf⟩ := s_lone (N := N) hk hN
  obtain ⟨va', e1, e3⟩ := t_give h hN hc (okF_num hk) (no_clo (nm_num k) hc) hw hf fd
  exact ⟨w, f, va', e, e1, e3⟩
end GIVE2
