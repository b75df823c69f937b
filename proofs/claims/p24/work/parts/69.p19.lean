/-! a sheet with its layers and its draft: what each call does -/
def canB (l : List Nat) : Bool := decide (l.length = 0 ∨ l.length = 1 ∧ 36 ≤ tk l 0)
theorem s_can (N : Nat) {w : Int32} {n : Nat} {f : Nat → Int32} {l : List Nat} (hl : okT l) (hn : n = l.length) (hf : ∀ i, i < l.length → f i = nI (tk l i)) : mX1_canBeInput N w n f = some (bI (canB l)) := by
  have h15 := hl.1
  unfold mX1_canBeInput mX1_canBeInput_28 mX1_canBeInput_32 mX1_canBeInput_33 canB
  subst hn
  by_cases h0 : l.length = 0
  · rw [if_pos (show nI l.length = 0 by rw [h0]; rfl), decide_eq_true (.inl h0)]; rfl
  · rw [if_neg (nI_ne0 (by omega) (by omega))]
    by_cases h1 : l.length = 1
    · have hc := hl.2 0 (by omega)
      have e0 : f (0 : Int32).toNatClampNeg = nI (tk l 0) := hf 0 (by omega)
      rw [if_pos (show nI l.length = 1 by rw [h1]; rfl), if_neg (show ¬ ((0 : Int32) < 0 ∨ l.length ≤ (0 : Int32).toNatClampNeg) from nI_in (c := 0) (N := l.length) (by omega) (by omega)), e0]
      by_cases h36 : tk l 0 < 36
      · rw [if_pos (show nI (tk l 0) < (36 : Int32) from nI_lt (b := 36) h36 (by omega)), decide_eq_false (by omega)]; rfl
      · rw [if_neg (show ¬ nI (tk l 0) < (36 : Int32) from nI_nlt (b := 36) (by omega) (by omega)), decide_eq_true (by omega)]; rfl
    · rw [if_neg (show ¬ nI l.length = 1 from nI_neq (b := 1) (by omega) (by omega) h1), decide_eq_false (by omega)]; rfl
/-- formulas, layers, draft, open layers, how many were found anew -/
abbrev St := (Nat → List Nat) × (Nat → Nat → List Nat) × List Nat × Nat × Int32
abbrev Rs := Option Int32 × St
abbrev tn (p : Int32) : Nat := p.toNatClampNeg
theorem tn_nI {n : Nat} (h : n < 2 ^ 31) : tn (nI n) = n := nI_clamp h
noncomputable def cloB (E : Nat → Nat → Bool) (p : Nat → Bool) (j : Nat) : Bool := @decide (clo E p j) (Classical.propDecidable _)
theorem cloB_iff {E : Nat → Nat → Bool} {p : Nat → Bool} {j : Nat} : cloB E p j = true ↔ clo E p j := @decide_eq_true_iff _ (Classical.propDecidable _)
theorem cloB_no {E : Nat → Nat → Bool} {p : Nat → Bool} {j : Nat} : cloB E p j = false ↔ ¬ clo E p j := @decide_eq_false_iff_not _ (Classical.propDecidable _)
def aNum (σ : St) (p : Int32) : Rs := if (0 ≤ p ∧ p ≤ 999999) ∧ σ.2.2.1.length < 15 then (some (nI (σ.2.2.1.length + 1)), σ.1, σ.2.1, σ.2.2.1 ++ [36 + tn p], σ.2.2.2) else (none, σ)
def aCell (σ : St) (p : Int32) : Rs := if (0 ≤ p ∧ p ≤ 29) ∧ σ.2.2.1.length < 15 then (some (nI (σ.2.2.1.length + 1)), σ.1, σ.2.1, σ.2.2.1 ++ [6 + tn p], σ.2.2.2) else (none, σ)
def aSign (σ : St) (p : Int32) : Rs := if (0 ≤ p ∧ p ≤ 5) ∧ σ.2.2.1.length < 15 then (some (nI (σ.2.2.1.length + 1)), σ.1, σ.2.1, σ.2.2.1 ++ [tn p], σ.2.2.2) else (none, σ)
def aWipe (σ : St) : Int32 × St := (nI σ.2.2.1.length, σ.1, σ.2.1, [], σ.2.2.2)
def aFault (σ : St) : Int32 := fI (flt 0 true σ.2.2.1 0)
/-- a cell gets a formula, the draft is D behind it -/
noncomputable def aGive (σ : St) (c : Nat) (l D : List Nat) : Rs := (some (nI (dn (sT σ.1 c l) c)), sT σ.1 c l, σ.2.1, D, σ.2.2.2.1, σ.2.2.2.2 + nI (dn (sT σ.1 c l) c))
noncomputable def aSet (σ : St) (p : Int32) : Rs := if (0 ≤ p ∧ p ≤ 29) ∧ flt 0 true σ.2.2.1 0 = none ∧ cloB (EE σ.1) (nm σ.2.2.1) (tn p) = false then aGive σ (tn p) σ.2.2.1 [] else (none, σ)
noncomputable def aPut (σ : St) (p v : Int32) : Rs := if (0 ≤ p ∧ p ≤ 29) ∧ (0 ≤ v ∧ v ≤ 999999) then aGive σ (tn p) [36 + tn v] σ.2.2.1 else (none, σ)
noncomputable def aClear (σ : St) (p : Int32) : Rs := if 0 ≤ p ∧ p ≤ 29 then (if (σ.1 (tn p)).length = 0 then (some 0, σ) else aGive σ (tn p) [] σ.2.2.1) else (none, σ)
def aOpen (σ : St) : Rs := if σ.2.2.2.1 < 4 then (some (nI (σ.2.2.2.1 + 1)), σ.1, qA σ.2.1 σ.2.2.2.1 σ.1, σ.2.2.1, σ.2.2.2.1 + 1, σ.2.2.2.2) else (none, σ)
def aKeep (σ : St) : Rs := if 0 < σ.2.2.2.1 then (some (nI (σ.2.2.2.1 - 1)), σ.1, σ.2.1, σ.2.2.1, σ.2.2.2.1 - 1, σ.2.2.2.2) else (none, σ)
noncomputable def aDrop (σ : St) : Rs := if 0 < σ.2.2.2.1 then (some (nI (fb_ct (dif σ.1 (σ.2.1 (σ.2.2.2.1 - 1))) 30)), σ.2.1 (σ.2.2.2.1 - 1), σ.2.1, σ.2.2.1, σ.2.2.2.1 - 1, σ.2.2.2.2 + nI (fb_ct (depB (EE (σ.2.1 (σ.2.2.2.1 - 1))) (dif σ.1 (σ.2.1 (σ.2.2.2.1 - 1)))) 30)) else (none, σ)
/-- whether all that seek wants is there -/
noncomputable def skok (σ : St) (g t i lo hi : Int32) : Prop := ((0 ≤ g ∧ g ≤ 29) ∧ (0 ≤ i ∧ i ≤ 29)) ∧ ((-1000000000 ≤ t ∧ t ≤ 1000000000) ∧ (0 ≤ lo ∧ lo ≤ 999999) ∧ (lo ≤ hi ∧ hi ≤ 999999)) ∧ canB (σ.1 (tn i)) = true ∧ (tn g ≠ tn i ∧ belB (EE σ.1) (tn g) (tn i) = true)
noncomputable def skV (σ : St) (g i : Int32) : Nat → Option Int := fun x => VV (sT σ.1 (tn i) [36 + x]) (tn g)
noncomputable def aSeek (σ : St) (g t i lo hi : Int32) : Rs := @ite _ (skok σ g t i lo hi) (Classical.propDecidable _) (match sk (skV σ g i) t.toInt (tn lo) (tn hi) with
  | some k => (some (nI k), (aGive σ (tn i) [36 + k] σ.2.2.1).2)
  | none => (none, σ)) (none, σ)
def aValue (σ : St) (p : Int32) : Option Int64 := if 0 ≤ p ∧ p ≤ 29 then (VV σ.1 (tn p)).map LL else none
def aSigns (σ : St) (p : Int32) : Option Int32 := if 0 ≤ p ∧ p ≤ 29 then some (nI (σ.1 (tn p)).length) else none
def aLevel (σ : St) (p : Int32) : Option Int32 := if 0 ≤ p ∧ p ≤ 29 then some (nI (lv σ.1 (tn p))) else none
noncomputable def aDep (σ : St) (p q : Int32) : Option Int32 := if (0 ≤ p ∧ p ≤ 29) ∧ (0 ≤ q ∧ q ≤ 29) then some (bI (decide (tn p ≠ tn q) && belB (EE σ.1) (tn p) (tn q))) else none
def aFaulty (σ : St) : Int32 := nI (fb_ct (fun j => (VV σ.1 j).isNone) 30)
abbrev aFound (σ : St) : Int32 := σ.2.2.2.2
abbrev aLayers (σ : St) : Int32 := nI σ.2.2.2.1
abbrev aDrafted (σ : St) : Int32 := nI σ.2.2.1.length
/-- what holds of every state -/
def ok (σ : St) : Prop := okSF σ.1 ∧ acy (EE σ.1) ∧ okT σ.2.2.1 ∧ σ.2.2.2.1 ≤ 4 ∧ ∀ i, i < σ.2.2.2.1 → okSF (σ.2.1 i) ∧ acy (EE (σ.2.1 i))
/-- the office's fields stand for the state -/
def rp (σ : St) (ol fd dc : Int32) (ds : Nat → Int32) (fw : Nat → Int32) (fn : Nat → Nat) (ff : Nat → Nat → Int32) (qw : Nat → Int32) (qn : Nat → Nat) (qf : Nat → Nat → Int32) (va : Nat → Int64) : Prop := rDR σ.2.2.1 dc ds ∧ rSH σ.1 fw fn ff va ∧ rLY σ.2.1 σ.2.2.2.1 ol qw qn qf ∧ fd = σ.2.2.2.2
section STEP
variable {N : Nat} {σ : St} {ol fd dc : Int32} {ds fw : Nat → Int32} {fn : Nat → Nat} {ff : Nat → Nat → Int32} {qw : Nat → Int32} {qn : Nat → Nat} {qf : Nat → Nat → Int32} {va : Nat → Int64}
theorem rp_ok (h : rp σ ol fd dc ds fw fn ff qw qn qf va) : ok σ := ⟨h.2.1.1, h.2.1.2.1, h.1.1, h.2.2.1.1, fun i hi => ⟨(h.2.2.1.2.2 i hi).1, (h.2.2.1.2.2 i hi).2.1⟩⟩
theorem r_number (h : rp σ ol fd dc ds fw fn ff qw qn qf va) (N : Nat) (p : Int32) : ∃ (code : Nat) (r dc' : Int32) (ds' : Nat → Int32), mX3_number N dc ds p = some (code, r, dc', ds') ∧ rp (aNum σ p).2 ol fd dc' ds' fw fn ff qw qn qf va ∧ (code = 0 ∧ (aNum σ p).1 = some r ∨ (code = 2 ∨ code = 3) ∧ (aNum σ p).1 = none) := by
  obtain ⟨T, Q, D, L, F⟩ := σ
  obtain ⟨⟨hD, h1, h2⟩, h3, h4, h5⟩ := h
  dsimp only at hD h1 h2 h3 h4 h5
  subst h1
  have h15 := hD.1
  unfold mX3_number aNum
  rw [d_num, Option.bind_some]
  by_cases hp : 0 ≤ p ∧ p ≤ 999999
  · obtain ⟨k, hk, rfl⟩ := num_of hp
    rw [if_pos hp, if_pos rfl, d_room N h15, Option.bind_some]
    by_cases hl : D.length < 15
    · rw [if_pos hl, if_pos rfl, show (36 : Int32) + nI k = nI (36 + k) from nI_add 36 k, d_write N _ hl, Option.bind_some, if_pos (And.intro hp hl), tn_nI (by omega)]
      exact ⟨0, _, _, _, rfl, ⟨rDR_app ⟨hD, rfl, h2⟩ hl (by omega), h3, h4, h5⟩, .inl ⟨rfl, by rw [len_app]⟩⟩
    · rw [if_neg hl, if_neg (by decide), if_neg (fun z => hl z.2)]
      exact ⟨3, _, _, _, rfl, ⟨⟨hD, rfl, h2⟩, h3, h4, h5⟩, .inr ⟨.inr rfl, rfl⟩⟩
  · rw [if_neg hp, if_neg (by decide), if_neg (fun z => hp z.1)]
    exact ⟨2, _, _, _, rfl, ⟨⟨hD, rfl, h2⟩, h3, h4, h5⟩, .inr ⟨.inl rfl, rfl⟩⟩
theorem r_cell (h : rp σ ol fd dc ds fw fn ff qw qn qf va) (N : Nat) (p : Int32) : ∃ (code : Nat) (r dc' : Int32) (ds' : Nat → Int32), mX3_cell N dc ds p = some (code, r, dc', ds') ∧ rp (aCell σ p).2 ol fd dc' ds' fw fn ff qw qn qf va ∧ (code = 0 ∧ (aCell σ p).1 = some r ∨ (code = 1 ∨ code = 3) ∧ (aCell σ p).1 = none) := by
  obtain ⟨T, Q, D, L, F⟩ := σ
  obtain ⟨⟨hD, h1, h2⟩, h3, h4, h5⟩ := h
  dsimp only at hD h1 h2 h3 h4 h5
  subst h1
  have h15 := hD.1
  unfold mX3_cell aCell
  rw [d_cell, Option.bind_some]
  by_cases hp : 0 ≤ p ∧ p ≤ 29
  · obtain ⟨k, hk, rfl⟩ := cell_of hp
    rw [if_pos hp, if_pos rfl, d_room N h15, Option.bind_some]
    by_cases hl : D.length < 15
    · rw [if_pos hl, if_pos rfl, show (6 : Int32) + nI k = nI (6 + k) from nI_add 6 k, d_write N _ hl, Option.bind_some, if_pos (And.intro hp hl), tn_nI (by omega)]
      exact ⟨0, _, _, _, rfl, ⟨rDR_app ⟨hD, rfl, h2⟩ hl (by omega), h3, h4, h5⟩, .inl ⟨rfl, by rw [len_app]⟩⟩
    · rw [if_neg hl, if_neg (by decide), if_neg (fun z => hl z.2)]
      exact ⟨3, _, _, _, rfl, ⟨⟨hD, rfl, h2⟩, h3, h4, h5⟩, .inr ⟨.inr rfl, rfl⟩⟩
  · rw [if_neg hp, if_neg (by decide), if_neg (fun z => hp z.1)]
    exact ⟨1, _, _, _, rfl, ⟨⟨hD, rfl, h2⟩, h3, h4, h5⟩, .inr ⟨.inl rfl, rfl⟩⟩
theorem r_sign (h : rp σ ol fd dc ds fw fn ff qw qn qf va) (N : Nat) (p : Int32) : ∃ (code : Nat) (r dc' : Int32) (ds' : Nat → Int32), mX3_sign N dc ds p = some (code, r, dc', ds') ∧ rp (aSign σ p).2 ol fd dc' ds' fw fn ff qw qn qf va ∧ (code = 0 ∧ (aSign σ p).1 = some r ∨ (code = 2 ∨ code = 3) ∧ (aSign σ p).1 = none) := by
  obtain ⟨T, Q, D, L, F⟩ := σ
  obtain ⟨⟨hD, h1, h2⟩, h3, h4, h5⟩ := h
  dsimp only at hD h1 h2 h3 h4 h5
  subst h1
  have h15 := hD.1
  have hs : mX3_sign N (nI D.length) ds p = if 0 ≤ p ∧ p ≤ 5 then ((mX3_requireRoom N (nI D.length)).bind fun x3 => (if x3 = 0 then ((mX0_write N (nI D.length) ds p).bind fun x6 => some (0, x6.1, x6.2.1, x6.2.2)) else some (x3, 0, nI D.length, ds))) else some (2, 0, nI D.length, ds) := by
    unfold mX3_sign mX3_sign_9
    by_cases a : p < 0
    · rw [if_pos a, if_neg (fun z => (fa_of_lt a).2.1 z.1)]
    · rw [if_neg a]
      have h0 := fa_of_nlt a
      by_cases b : p ≤ (5 : Int32)
      · rw [if_pos b, if_pos ⟨h0, b⟩]
      · rw [if_neg b, if_neg (fun z => b z.2)]
  unfold aSign
  rw [hs]
  by_cases hp : 0 ≤ p ∧ p ≤ 5
  · obtain ⟨k, hk, rfl⟩ := nI_of2 (x := p) (M := 5) (n := 5) rfl (fun z => (fa_of_lt z).2.1 hp.1) hp.2
    rw [if_pos hp, d_room N h15, Option.bind_some]
    by_cases hl : D.length < 15
    · rw [if_pos hl, if_pos rfl, d_write N _ hl, Option.bind_some, if_pos (And.intro hp hl), tn_nI (by omega)]
      exact ⟨0, _, _, _, rfl, ⟨rDR_app ⟨hD, rfl, h2⟩ hl (by omega), h3, h4, h5⟩, .inl ⟨rfl, by rw [len_app]⟩⟩
    · rw [if_neg hl, if_neg (by decide), if_neg (fun z => hl z.2)]
      exact ⟨3, _, _, _, rfl, ⟨⟨hD, rfl, h2⟩, h3, h4, h5⟩, .inr ⟨.inr rfl, rfl⟩⟩
  · rw [if_neg hp, if_neg (fun z => hp z.1)]
    exact ⟨2, _, _, _, rfl, ⟨⟨hD, rfl, h2⟩, h3, h4, h5⟩, .inr ⟨.inl rfl, rfl⟩⟩
theorem r_wipe (h : rp σ ol fd dc ds fw fn ff qw qn qf va) (N : Nat) : mX3_wipe N dc = some ((aWipe σ).1, 0) ∧ rp (aWipe σ).2 ol fd 0 ds fw fn ff qw qn qf va := by
  obtain ⟨T, Q, D, L, F⟩ := σ
  obtain ⟨⟨hD, h1, h2⟩, h3, h4, h5⟩ := h
  dsimp only at hD h1 h2 h3 h4 h5
  subst h1
  exact ⟨rfl, rDR_nil, h3, h4, h5⟩
theorem r_fault (h : rp σ ol fd dc ds fw fn ff qw qn qf va) (hN : 31 ≤ N) : mX3_fault N dc ds = some (aFault σ) := by
  obtain ⟨T, Q, D, L, F⟩ := σ
  obtain ⟨⟨hD, h1, h2⟩, h3, h4, h5⟩ := h
  dsimp only at hD h1 h2 h3 h4 h5
  subst h1
  unfold mX3_fault aFault
  rw [d_flt hD h2 hN]
  rfl
theorem r_set (h : rp σ ol fd dc ds fw fn ff qw qn qf va) (hN : 31 ≤ N) (p : Int32) : ∃ (code : Nat) (r fd' dc' : Int32) (fw' : Nat → Int32) (fn' : Nat → Nat) (ff' : Nat → Nat → Int32) (va' : Nat → Int64), mX3_set N ds fd dc fw fn ff va p = some (code, r, fd', dc', fw', fn', ff', va') ∧ rp (aSet σ p).2 ol fd' dc' ds fw' fn' ff' qw qn qf va' ∧ (code = 0 ∧ (aSet σ p).1 = some r ∨ (code = 1 ∨ code = 2 ∨ code = 3) ∧ (aSet σ p).1 = none) := by
  obtain ⟨T, Q, D, L, F⟩ := σ
  obtain ⟨⟨hD, h1, h2⟩, h, h4, h5⟩ := h
  dsimp only at hD h1 h2 h h4 h5
  subst h1 h5
  have h15 := hD.1
  unfold mX3_set aSet
  dsimp only
  rw [d_cell, Option.bind_some, d_flt hD h2 hN, Option.bind_some]
  by_cases hp : 0 ≤ p ∧ p ≤ 29
  · obtain ⟨c, hc, rfl⟩ := cell_of hp
    rw [if_pos hp, if_pos rfl, tn_nI (by omega)]
    have hfl := fI_none (o := flt 0 true D 0) (fun x hx => by have := flt_le D 0 true 0 x hx; omega)
    by_cases hf : flt 0 true D 0 = none
    · have hau := (flt_aut D 0 true 0).mp hf
      rw [if_pos (hfl.mpr hf)]
      obtain ⟨m, em, hm⟩ := s_init (N := N) hD h2 hN
      have etf : mX0_toFormula N (nI D.length) ds = some (m, D.length, ds) := by
        unfold mX0_toFormula
        rw [if_neg (fun z => by
          rcases z with z | z
          · exact nI_pos (by omega) z
          · rw [nI_clamp (by omega)] at z; omega), nI_clamp (by omega), em, Option.bind_some]
      obtain ⟨m2, q, e2, hq, hq2⟩ := s_wd (fn := fn) (ff := ff) (N := N) (rD_E h.2.2.1) hN hm
      rw [etf, Option.bind_some]
      dsimp only
      rw [e2, Option.bind_some, s_holds hq hc, Option.bind_some]
      cases e5 : q c with
      | true =>
        have hc5 : clo (EE T) (nm D) c := (hq2 c hc).mp e5
        rw [if_neg bI_nt, if_neg (fun z => cloB_no.mp z.2.2 hc5)]
        exact ⟨3, _, _, _, _, _, _, _, rfl, ⟨⟨hD, rfl, h2⟩, h, h4, rfl⟩, .inr ⟨.inr (.inr rfl), rfl⟩⟩
      | false =>
        have hn : ¬ clo (EE T) (nm D) c := fun z => by rw [(hq2 c hc).mpr z] at e5; exact absurd e5 (by decide)
        rw [if_pos bI_f, if_pos (And.intro hp (And.intro hf (cloB_no.mpr hn)))]
        obtain ⟨va', k1, k3⟩ := t_give h hN hc ⟨hD, .inr hau⟩ hn hm h2 fd
        rw [k1, Option.bind_some]
        exact ⟨0, _, _, _, _, _, _, _, rfl, ⟨rDR_nil, k3, h4, rfl⟩, .inl ⟨rfl, rfl⟩⟩
    · rw [if_neg (fun z => hf (hfl.mp z)), if_neg (fun z => hf z.2.1)]
      exact ⟨2, _, _, _, _, _, _, _, rfl, ⟨⟨hD, rfl, h2⟩, h, h4, rfl⟩, .inr ⟨.inr (.inl rfl), rfl⟩⟩
  · rw [if_neg hp, if_neg (show ¬ (1 : Nat) = 0 by decide), if_neg (fun z => hp z.1)]
    exact ⟨1, _, _, _, _, _, _, _, rfl, ⟨⟨hD, rfl, h2⟩, h, h4, rfl⟩, .inr ⟨.inl rfl, rfl⟩⟩
theorem r_put (h : rp σ ol fd dc ds fw fn ff qw qn qf va) (hN : 31 ≤ N) (p0 p1 : Int32) : ∃ (code : Nat) (r fd' : Int32) (fw' : Nat → Int32) (fn' : Nat → Nat) (ff' : Nat → Nat → Int32) (va' : Nat → Int64), mX3_put N fd fw fn ff va p0 p1 = some (code, r, fd', fw', fn', ff', va') ∧ rp (aPut σ p0 p1).2 ol fd' dc ds fw' fn' ff' qw qn qf va' ∧ (code = 0 ∧ (aPut σ p0 p1).1 = some r ∨ (code = 1 ∨ code = 2) ∧ (aPut σ p0 p1).1 = none) := by
  obtain ⟨T, Q, D, L, F⟩ := σ
  obtain ⟨hd, h, h4, h5⟩ := h
  dsimp only at hd h h4 h5
  subst h5
  unfold mX3_put aPut
  dsimp only
  rw [d_cell, Option.bind_some, d_num]
  by_cases hp : 0 ≤ p0 ∧ p0 ≤ 29
  · obtain ⟨c, hc, rfl⟩ := cell_of hp
    rw [if_pos hp, if_pos rfl, Option.bind_some]
    by_cases hq : 0 ≤ p1 ∧ p1 ≤ 999999
    · obtain ⟨k, hk, rfl⟩ := num_of hq
      obtain ⟨w, f, va', e1, e2, e4⟩ := t_put h hN hc hk fd
      rw [if_pos hq, if_pos rfl, e1, Option.bind_some, if_pos (And.intro hp hq), tn_nI (by omega), tn_nI (by omega)]
      dsimp only
      rw [e2]
      exact ⟨0, _, _, _, _, _, _, rfl, ⟨hd, e4, h4, rfl⟩, .inl ⟨rfl, rfl⟩⟩
    · rw [if_neg hq, if_neg (show ¬ (2 : Nat) = 0 by decide), if_neg (fun z => hq z.2)]
      exact ⟨2, _, _, _, _, _, _, rfl, ⟨hd, h, h4, rfl⟩, .inr ⟨.inr rfl, rfl⟩⟩
  · rw [if_neg hp, if_neg (show ¬ (1 : Nat) = 0 by decide), if_neg (fun z => hp z.1)]
    exact ⟨1, _, _, _, _, _, _, rfl, ⟨hd, h, h4, rfl⟩, .inr ⟨.inl rfl, rfl⟩⟩
theorem r_clear (h : rp σ ol fd dc ds fw fn ff qw qn qf va) (hN : 31 ≤ N) (p0 : Int32) : ∃ (code : Nat) (r fd' : Int32) (fw' : Nat → Int32) (fn' : Nat → Nat) (ff' : Nat → Nat → Int32) (va' : Nat → Int64), mX3_clear N fd fw fn ff va p0 = some (code, r, fd', fw', fn', ff', va') ∧ rp (aClear σ p0).2 ol fd' dc ds fw' fn' ff' qw qn qf va' ∧ (code = 0 ∧ (aClear σ p0).1 = some r ∨ code = 1 ∧ (aClear σ p0).1 = none) := by
  obtain ⟨T, Q, D, L, F⟩ := σ
  obtain ⟨hd, h, h4, h5⟩ := h
  dsimp only at hd h h4 h5
  subst h5
  unfold mX3_clear mX3_clear_29 aClear
  dsimp only
  rw [d_cell, Option.bind_some]
  by_cases hp : 0 ≤ p0 ∧ p0 ≤ 29
  · obtain ⟨c, hc, rfl⟩ := cell_of hp
    have h15 := (h.1 c hc).1.1
    have hri : ¬ (nI c < 0 ∨ 30 ≤ (nI c).toNatClampNeg) := nI_in hc (by omega)
    rw [if_pos hp, if_pos rfl, if_neg hri, nI_clamp (by omega), s_empty N _ _ (by rw [(h.2.2.1 c hc).2.1]; omega), Option.bind_some, (h.2.2.1 c hc).2.1, if_pos hp, tn_nI (n := c) (by omega)]
    by_cases hz : (T c).length = 0
    · rw [decide_eq_true hz, if_neg bI_nt, if_pos hz]
      exact ⟨0, _, _, _, _, _, _, rfl, ⟨hd, h, h4, rfl⟩, .inl ⟨rfl, rfl⟩⟩
    · obtain ⟨va', e1, e3⟩ := t_give h hN hc (l := []) ⟨okT_nil, .inl rfl⟩ (no_clo nm_nil hc) (w := 0) (f := fun _ => 0) mk_0 (fun i hi => absurd hi (Nat.not_lt_zero _)) fd
      have e1' : mX3_give N 0 0 (fun _ => 0) fd fw fn ff va (nI c) = _ := e1
      rw [decide_eq_false hz, if_pos bI_f, e1', Option.bind_some, if_neg hz]
      exact ⟨0, _, _, _, _, _, _, rfl, ⟨hd, e3, h4, rfl⟩, .inl ⟨rfl, rfl⟩⟩
  · rw [if_neg hp, if_neg (show ¬ (1 : Nat) = 0 by decide), if_neg hp]
    exact ⟨1, _, _, _, _, _, _, rfl, ⟨hd, h, h4, rfl⟩, .inr ⟨rfl, rfl⟩⟩
theorem r_open (h : rp σ ol fd dc ds fw fn ff qw qn qf va) (hN : 31 ≤ N) : ∃ (code : Nat) (r ol' : Int32) (qw' : Nat → Int32) (qn' : Nat → Nat) (qf' : Nat → Nat → Int32), mX3_open N fw fn ff ol qw qn qf = some (code, r, ol', qw', qn', qf') ∧ rp (aOpen σ).2 ol' fd dc ds fw fn ff qw' qn' qf' va ∧ (code = 0 ∧ (aOpen σ).1 = some r ∨ code = 3 ∧ (aOpen σ).1 = none) := by
  obtain ⟨T, Q, D, L, F⟩ := σ
  obtain ⟨hd, h, h4, h5⟩ := h
  dsimp only at hd h h4 h5
  unfold aOpen
  dsimp only
  by_cases hL : L < 4
  · obtain ⟨qw', qn', qf', e, k⟩ := t_open h4 h hL hN
    rw [if_pos hL, e]
    exact ⟨0, _, _, _, _, _, rfl, ⟨hd, h, k, h5⟩, .inl ⟨rfl, rfl⟩⟩
  · unfold mX3_open
    have h4' := h4
    obtain ⟨a, b, c⟩ := h4'
    subst b
    rw [if_neg (show ¬ nI L < (4 : Int32) from nI_nlt (b := 4) (by omega) (by omega)), if_neg hL]
    exact ⟨3, _, _, _, _, _, rfl, ⟨hd, h, h4, h5⟩, .inr ⟨rfl, rfl⟩⟩
theorem r_keep (h : rp σ ol fd dc ds fw fn ff qw qn qf va) (N : Nat) : ∃ (code : Nat) (r ol' : Int32), mX3_keep N ol = some (code, r, ol') ∧ rp (aKeep σ).2 ol' fd dc ds fw fn ff qw qn qf va ∧ (code = 0 ∧ (aKeep σ).1 = some r ∨ code = 3 ∧ (aKeep σ).1 = none) := by
  obtain ⟨T, Q, D, L, F⟩ := σ
  obtain ⟨hd, h, ⟨h4, h1, h3⟩, h5⟩ := h
  dsimp only at hd h h4 h1 h3 h5
  subst h1
  unfold mX3_keep mX3_requireLayer aKeep
  dsimp only
  rcases Nat.eq_zero_or_pos L with z | z
  · subst z
    rw [if_neg (show ¬ 0 < nI 0 by decide), Option.bind_some, if_neg (show ¬ (3 : Nat) = 0 by decide), if_neg (Nat.lt_irrefl 0)]
    exact ⟨3, _, _, rfl, ⟨hd, h, ⟨h4, rfl, h3⟩, h5⟩, .inr ⟨rfl, rfl⟩⟩
  · obtain ⟨L, rfl⟩ : ∃ y, L = y + 1 := ⟨L - 1, by omega⟩
    rw [if_pos (show 0 < nI (L + 1) from nI_lt (a := 0) (by omega) (by omega)), Option.bind_some, if_pos rfl, nI_pred, if_pos z]
    exact ⟨0, _, _, rfl, ⟨hd, h, ⟨by show L ≤ 4; omega, rfl, fun i hi => h3 i (by have : i < L := hi; omega)⟩, h5⟩, .inl ⟨rfl, rfl⟩⟩
theorem r_drop (h : rp σ ol fd dc ds fw fn ff qw qn qf va) (hN : 31 ≤ N) : ∃ (code : Nat) (r ol' fd' : Int32) (fw' : Nat → Int32) (fn' : Nat → Nat) (ff' : Nat → Nat → Int32) (va' : Nat → Int64), mX3_drop N qw qn qf ol fd fw fn ff va = some (code, r, ol', fd', fw', fn', ff', va') ∧ rp (aDrop σ).2 ol' fd' dc ds fw' fn' ff' qw qn qf va' ∧ (code = 0 ∧ (aDrop σ).1 = some r ∨ code = 3 ∧ (aDrop σ).1 = none) := by
  obtain ⟨T, Q, D, L, F⟩ := σ
  obtain ⟨hd, h, h4, h5⟩ := h
  dsimp only at hd h h4 h5
  subst h5
  unfold aDrop
  dsimp only
  rcases Nat.eq_zero_or_pos L with z | z
  · subst z
    have h1 : ol = nI 0 := h4.2.1
    subst h1
    unfold mX3_drop mX3_requireLayer
    rw [if_neg (show ¬ 0 < nI 0 by decide), Option.bind_some, if_neg (show ¬ (3 : Nat) = 0 by decide), if_neg (Nat.lt_irrefl 0)]
    exact ⟨3, _, _, _, _, _, _, _, rfl, ⟨hd, h, h4, rfl⟩, .inr ⟨rfl, rfl⟩⟩
  · obtain ⟨L, rfl⟩ : ∃ y, L = y + 1 := ⟨L - 1, by omega⟩
    have h1 : ol = nI (L + 1) := h4.2.1
    subst h1
    obtain ⟨fw', fn', ff', va', e, k1, k2⟩ := t_drop h4 h hN fd
    rw [if_pos z, e]
    exact ⟨0, _, _, _, _, _, _, _, rfl, ⟨hd, k1, k2, rfl⟩, .inl ⟨rfl, rfl⟩⟩
end STEP
