/-! the landed class works cells out -/
def rD (T : Nat → List Nat) (fw : Nat → Int32) (fn : Nat → Nat) (ff : Nat → Nat → Int32) : Prop := ∀ k, k < 30 → mk (EE T k) (fw k) ∧ fn k = (T k).length ∧ ∀ i, i < (T k).length → ff k i = nI (tk (T k) i)
theorem rD_E {T : Nat → List Nat} {fw : Nat → Int32} {fn : Nat → Nat} {ff : Nat → Nat → Int32} (h : rD T fw fn ff) : ∀ i, i < 30 → mk (EE T i) (fw i) := fun i hi => (h i hi).1
section WO
variable {N : Nat} {T : Nat → List Nat} {fw : Nat → Int32} {fn : Nat → Nat} {ff : Nat → Nat → Int32}
theorem s_empty (N : Nat) (w : Int32) (n : Nat) (hn : n < 100) (f : Nat → Int32) : mX1_isEmpty N w n f = some (bI (decide (n = 0))) := by
  unfold mX1_isEmpty mX1_isEmpty_13
  by_cases h : n = 0
  · rw [if_pos (by rw [h]; rfl), decide_eq_true h]; rfl
  · rw [if_neg (nI_ne0 (by omega) (by omega)), decide_eq_false h]; rfl
/-- a cell of which all named are right -/
theorem s_one {V : Nat → Option Int} (hT : okSF T) (hD : rD T fw fn ff) (hN : 31 ≤ N) {k : Nat} (hk : k < 30) (hok : ∀ j, j < 30 → okV (V j)) (hV : V k = evF V (T k)) {va : Nat → Int64} (hva : ∀ j, j < 30 → nm (T k) j = true → va j = eL (V j)) {α : Type} (X : Int64 → Option α) :
    ((mX1_isEmpty N (fw k) (fn k) (ff k)).bind fun x14 => (if x14 = 0 then ((mX2_sum N 18 (fn k) (ff k) va (0 : Int32) (0 : Int32)).bind fun x20 => X x20.1) else X (0 : Int64))) = X (eL (V k)) := by
  obtain ⟨_, h2, h3⟩ := hD k hk
  have h15 := (hT k hk).1.1
  rw [h2, s_empty N _ _ (by omega), Option.bind_some]
  rcases (hT k hk).2 with hnil | hau
  · have hl0 : (T k).length = 0 := by rw [hnil]; rfl
    rw [decide_eq_true hl0, if_neg (by decide), hV, hnil]
    rfl
  · have hl0 : ¬ (T k).length = 0 := fun z => by
      rw [List.eq_nil_of_length_eq_zero z] at hau; simp [aut] at hau
    obtain ⟨e, he⟩ := dv_top (N := N) (f := ff k) (va := va) (hT k hk).1 hau h3 hok hva hN
    rw [decide_eq_false hl0, if_pos bI_f, he, Option.bind_some, ← hV]
/-- left: r of q; the row va0 is kept off q, and right on q where nothing is left -/
def wI (V : Nat → Option Int) (va0 : Nat → Int64) (q r : Nat → Bool) (va : Nat → Int64) : Prop := (∀ j, j < 30 → r j = true → q j = true) ∧ (∀ j, ¬ (j < 30 ∧ q j = true) → va j = va0 j) ∧ ∀ j, j < 30 → q j = true → r j = false → va j = eL (V j)
theorem s_wo_in {V : Nat → Option Int} (hok : ∀ j, j < 30 → okV (V j)) (hT : okSF T) (hD : rD T fw fn ff) (hN : 31 ≤ N) {va0 : Nat → Int64} {q r0 : Nat → Bool} (hV : ∀ k, k < 30 → q k = true → V k = evF V (T k)) (hva : ∀ c j, c < 30 → j < 30 → q c = true → nm (T c) j = true → q j = true ∨ va0 j = eL (V j)) (r5 : (Nat → Int64) → Int32 → Int32 → Option (Nat → Int64)) (v4 : Int32) (R : Option (Nat → Int64) → Prop)
    (hR : ∀ (va : Nat → Int64) (r : Nat → Bool) (v3 : Int32), mk r v3 → wI V va0 q r va → (∀ j, j < 30 → r j = true → r0 j = true) → (∀ j, j < 30 → (∀ i, i < 30 → nm (T j) i = true → r0 i = false) → r j = false) → R (r5 va v3 (v4 + 1))) :
    ∀ (d k n : Nat) (va : Nat → Int64) (r : Nat → Bool) (v3 : Int32), k + d = 30 → d < n → mk r v3 → wI V va0 q r va → (∀ j, j < 30 → r j = true → r0 j = true) → (∀ j, j < k → (∀ i, i < 30 → nm (T j) i = true → r0 i = false) → r j = false) → R (mX3_workOut_19 N fw fn ff r5 n va v3 v4 (nI k))
  | _, _, 0, _, _, _, _, h, _, _, _, _ => absurd h (Nat.not_lt_zero _)
  | 0, k, n + 1, va, r, v3, h1, h2, h3, h4, h5, h6 => by
    have : k = 30 := by omega
    subst this
    simp only [mX3_workOut_19, mX3_workOut_19_b]
    rw [if_pos (by decide)]
    exact hR va r v3 h3 h4 h5 h6
  | d + 1, k, n + 1, va, r, v3, h1, h2, h3, h4, h5, h6 => by
    have hk : k < 30 := by omega
    have hks : ¬ (nI k < 0 ∨ 30 ≤ (nI k).toNatClampNeg) := nI_in hk (by omega)
    have hks2 : ¬ (nI k < 0 ∨ 30 ≤ k) := fun z => by
      rcases z with z | z
      · exact nI_pos (by omega) z
      · omega
    have hand := mk_and (hD k hk).1 h3
    simp only [mX3_workOut_19, mX3_workOut_19_b, mX3_workOut_98, mX3_workOut_87, mX3_only]
    rw [if_neg (show ¬ (30 : Int32) ≤ nI k from nI_ge (a := k) (b := 30) (by omega) (by omega)), if_neg hks, s_holds h3 hk, Option.bind_some, nI_clamp (by omega), nI_1]
    cases e : r k with
    | false =>
      rw [if_pos bI_f]
      exact s_wo_in hok hT hD hN hV hva r5 v4 R hR d (k + 1) n va r v3 (by omega) (by omega) h3 h4 h5 (fun j hj z => by
        rcases Nat.lt_or_ge j k with y | y
        · exact h6 j y z
        · have : j = k := by omega
          subst this; exact e)
    | true =>
      rw [if_neg (by decide)]
      by_cases ez : fw k &&& v3 = 0
      · rw [if_pos ez]
        have hz := (mk_z hand).mp ez
        have hv : ∀ j, j < 30 → nm (T k) j = true → va j = eL (V j) := fun j hj y => by
          have hrj : r j = false := by
            have h0 := hz j hj
            have h0 : (nm (T k) j && r j) = false := h0
            rw [y] at h0; simpa using h0
          by_cases hq : q j = true
          · exact h4.2.2 j hj hq hrj
          · rcases hva k j hk hj (h4.1 k hk e) y with w | w
            · exact absurd w hq
            · rw [h4.2.1 j (fun z => hq z.2)]; exact w
        simp only [if_neg hks2, Option.bind_some]
        rw [s_one hT hD hN hk hok (hV k hk (h4.1 k hk e)) hv (fun x => mX3_workOut_19 N fw fn ff r5 n (vp_updL va k x) (v3 &&& ((1 <<< (nI k &&& 31)) ^^^ -1)) v4 (nI (k + 1)))]
        refine s_wo_in hok hT hD hN hV hva r5 v4 R hR d (k + 1) n _ _ _ (by omega) (by omega) (mk_sdiff h3 (mk_only hk)) ⟨fun j hj z => ?_, fun j z => ?_, fun j hj z1 z2 => ?_⟩ (fun j hj z => ?_) (fun j hj z => ?_)
        · rw [Bool.and_eq_true] at z
          exact h4.1 j hj z.1
        · have : j ≠ k := fun y => z ⟨by omega, by rw [y]; exact h4.1 k hk e⟩
          rw [pk_uLn this]; exact h4.2.1 j z
        · by_cases y : j = k
          · subst y; exact pk_uLs
          · rw [pk_uLn y]
            refine h4.2.2 j hj z1 ?_
            have : (j == k) = false := by simpa using y
            dsimp only at z2
            rw [this] at z2
            simpa using z2
        · rw [Bool.and_eq_true] at z
          exact h5 j hj z.1
        · by_cases y : j = k
          · subst y; simp
          · have := h6 j (by omega) z
            simp [this]
      · rw [if_neg ez]
        refine s_wo_in hok hT hD hN hV hva r5 v4 R hR d (k + 1) n va r v3 (by omega) (by omega) h3 h4 h5 (fun j hj z => ?_)
        rcases Nat.lt_or_ge j k with y | y
        · exact h6 j y z
        · have : j = k := by omega
          subst this
          exfalso
          obtain ⟨i, hi, ei⟩ := (mk_ne hand).mp ez
          rw [Bool.and_eq_true] at ei
          have := z i hi ei.1
          rw [h5 i hi ei.2] at this
          exact absurd this (by decide)
theorem s_wo_l {V : Nat → Option Int} (hok : ∀ j, j < 30 → okV (V j)) (hT : okSF T) (ha : acy (EE T)) (hD : rD T fw fn ff) (hN : 31 ≤ N) {va0 : Nat → Int64} {q : Nat → Bool} (hV : ∀ k, k < 30 → q k = true → V k = evF V (T k)) (hva : ∀ c j, c < 30 → j < 30 → q c = true → nm (T c) j = true → q j = true ∨ va0 j = eL (V j)) : ∀ (d t n : Nat) (va : Nat → Int64) (r : Nat → Bool) (v3 : Int32), t + d = 30 → d < n → mk r v3 → wI V va0 q r va → fb_ct r 30 ≤ d → ∃ va', mX3_workOut_5 N fw fn ff n va v3 (nI t) = some va' ∧ wI V va0 q (fun _ => false) va'
  | _, _, 0, _, _, _, _, h, _, _, _ => absurd h (Nat.not_lt_zero _)
  | 0, t, n + 1, va, r, v3, h1, h2, h3, h4, h5 => by
    have : t = 30 := by omega
    subst this
    simp only [mX3_workOut_5, mX3_workOut_5_b, mX3_workOut_110]
    rw [if_pos (by decide)]
    have hz := fb_ct_zero.mp (Nat.le_zero.mp h5)
    exact ⟨va, rfl, fun _ _ z => Bool.noConfusion z, h4.2.1, fun j hj z _ => h4.2.2 j hj z (hz j hj)⟩
  | d + 1, t, n + 1, va, r, v3, h1, h2, h3, h4, h5 => by
    simp only [mX3_workOut_5, mX3_workOut_5_b, mX3_workOut_110]
    rw [if_neg (show ¬ (30 : Int32) ≤ nI t from nI_ge (a := t) (b := 30) (by omega) (by omega))]
    by_cases e : v3 = 0
    · rw [if_pos e]
      have hz := (mk_z h3).mp e
      exact ⟨va, rfl, fun _ _ z => Bool.noConfusion z, h4.2.1, fun j hj z _ => h4.2.2 j hj z (hz j hj)⟩
    · rw [if_neg e]
      refine s_wo_in hok hT hD hN hV hva (r0 := r) (mX3_workOut_5 N fw fn ff n) (nI t) (fun o => ∃ va', o = some va' ∧ wI V va0 q (fun _ => false) va') (fun va1 r1 w1 g1 g2 g3 g4 => ?_) 30 0 N va r v3 rfl (by omega) h3 h4 (fun _ _ z => z) (fun _ z => absurd z (Nat.not_lt_zero _))
      rw [nI_1]
      obtain ⟨rk, hr⟩ := ha
      obtain ⟨j0, hj0, e0⟩ := (mk_ne h3).mp e
      obtain ⟨j, hj, ej, hm⟩ := min_rank (rk := rk) (p := fun i => !r i) (rk j0 + 1) ⟨j0, hj0, by simp [e0], Nat.lt_succ_self _⟩
      have hj1 : r1 j = false := g4 j hj (fun i hi y => by simpa using hm i hi (hr j i hj hi y))
      have hlt : fb_ct r1 30 + 1 ≤ fb_ct r 30 := ct_grow g3 (fun z => by
        have := z j hj
        rw [hj1] at this
        simp [this] at ej)
      exact s_wo_l hok hT ⟨rk, hr⟩ hD hN hV hva d (t + 1) n va1 r1 w1 (by omega) (by omega) g1 g2 (by omega)
/-- cells are worked out into a row that is right wherever they look -/
theorem s_woV {V : Nat → Option Int} (hok : ∀ j, j < 30 → okV (V j)) (hT : okSF T) (ha : acy (EE T)) (hD : rD T fw fn ff) (hN : 31 ≤ N) {va0 : Nat → Int64} {q : Nat → Bool} {m : Int32} (hq : mk q m) (hV : ∀ k, k < 30 → q k = true → V k = evF V (T k)) (hva : ∀ c j, c < 30 → j < 30 → q c = true → nm (T c) j = true → q j = true ∨ va0 j = eL (V j)) : ∃ va', mX3_workOut N fw fn ff va0 m = some va' ∧ (∀ j, ¬ (j < 30 ∧ q j = true) → va' j = va0 j) ∧ ∀ j, j < 30 → q j = true → va' j = eL (V j) := by
  obtain ⟨va', e, _, h2, h3⟩ := s_wo_l hok hT ha hD hN hV hva 30 0 N va0 q m rfl (by omega) hq ⟨fun _ _ z => z, fun _ _ => rfl, fun j _ z1 z2 => absurd (z1.symm.trans z2) (by decide)⟩ (fb_ct_le q 30)
  exact ⟨va', e, h2, fun j hj z => h3 j hj z rfl⟩
theorem s_wo (hT : okSF T) (ha : acy (EE T)) (hD : rD T fw fn ff) (hN : 31 ≤ N) {va0 : Nat → Int64} {q : Nat → Bool} {m : Int32} (hq : mk q m) (hva : ∀ c j, c < 30 → j < 30 → q c = true → nm (T c) j = true → q j = true ∨ va0 j = eL (VV T j)) : ∃ va', mX3_workOut N fw fn ff va0 m = some va' ∧ (∀ j, ¬ (j < 30 ∧ q j = true) → va' j = va0 j) ∧ ∀ j, j < 30 → q j = true → va' j = eL (VV T j) :=
  s_woV (VV_ok (okSF_S hT)) hT ha hD hN hq (fun k hk _ => VV_eq ha hk) hva
end WO

