/-! two that stand for one state are alike; cells are so -/
def vL : Option Int → Int64
  | none => 4000000000000
  | some z => LL z
noncomputable def ad (T : Nat → List Nat) (a j : Nat) : Bool := decide (a ≠ j) && belB (EE T) a j
theorem ad_iff {T : Nat → List Nat} {a j : Nat} : ad T a j = true ↔ a ≠ j ∧ clo (EE T) (fun x => x == a) j := by
  unfold ad
  rw [Bool.and_eq_true, decide_eq_true_iff, belB_iff]
theorem aDep_at (σ : St) {a b : Nat} (ha : a < 30) (hb : b < 30) : aDep σ (nI a) (nI b) = some (bI (ad σ.1 a b)) := by
  unfold aDep ad
  rw [if_pos ⟨cell_is ha, cell_is hb⟩, tn_nI (n := a) (by omega), tn_nI (n := b) (by omega)]
theorem aSigns_at (σ : St) {a : Nat} (ha : a < 30) : aSigns σ (nI a) = some (nI (σ.1 a).length) := by
  unfold aSigns
  rw [if_pos (cell_is ha), tn_nI (n := a) (by omega)]
theorem aLevel_at (σ : St) {a : Nat} (ha : a < 30) : aLevel σ (nI a) = some (nI (lv σ.1 a)) := by
  unfold aLevel
  rw [if_pos (cell_is ha), tn_nI (n := a) (by omega)]
theorem aValue_at (σ : St) {a : Nat} (ha : a < 30) : aValue σ (nI a) = (VV σ.1 a).map LL := by
  unfold aValue
  rw [if_pos (cell_is ha), tn_nI (n := a) (by omega)]
theorem value_at (σ : St) {a : Nat} (ha : a < 30) (b : Int32) : mL_value σ (nI a) b = some (vL (VV σ.1 a)) := by
  unfold mL_value mL_value_17
  rw [aValue_at σ ha, ite_self]
  cases VV σ.1 a with
  | none => exact if_pos (cell_is ha)
  | some z => rfl
theorem cmp_rf (x : Int64) : lg_cmp x x = 0 := (lg_cmp_eq _ _).mpr rfl
theorem vL_F {v : Option Int} (h : okV v) : lg_cmp (vL v) 4000000000000 = 0 ↔ v = none := by
  cases v with
  | none => exact ⟨fun _ => rfl, fun _ => cmp_rf _⟩
  | some z =>
    refine ⟨fun y => ?_, fun y => (nomatch y)⟩
    have hz := h z rfl
    have e : lg_cmp (LL z) (LL 4000000000000) = 0 := y
    rw [cm_eq0 (bd_sm hz) (by unfold sm; omega)] at e
    unfold bd at hz
    omega
theorem lvI_le (E : Nat → Nat → Bool) : ∀ (n : Nat) (p : Nat → Bool), lvI E n p ≤ n
  | 0, _ => Nat.le_refl _
  | n + 1, p => by
    simp only [lvI]
    split
    · omega
    · have := lvI_le E n (nba p E 30)
      omega
theorem lv_le (T : Nat → List Nat) (a : Nat) : lv T a ≤ 31 := lvI_le _ _ _
theorem alike_l (σ : St) : ∀ (d k n : Nat), k + d = 30 → d < n → mL_areAlike_63 σ σ n 1 (nI k) = some 1
  | _, _, 0, _, h => absurd h (Nat.not_lt_zero _)
  | 0, k, n + 1, h1, h2 => by
    have : k = 30 := by omega
    subst this
    simp only [mL_areAlike_63, mL_areAlike_63_b, mL_areAlike_127]
    rw [if_pos (by decide), if_pos (.inr trivial)]
  | d + 1, k, n + 1, h1, h2 => by
    have hk : k < 30 := by omega
    simp only [mL_areAlike_63, mL_areAlike_63_b, mL_areAlike_120]
    rw [if_neg (show ¬ (30 : Int32) ≤ nI k from nI_ge (a := k) (b := 30) (by omega) (by omega)), if_neg (show ¬ (1 : Int32) = 0 by decide), value_at σ hk, Option.bind_some, Option.bind_some, if_pos (cmp_rf _), aSigns_at σ hk, Option.bind_some, Option.bind_some, if_pos rfl, aLevel_at σ hk, Option.bind_some, Option.bind_some, if_pos rfl, nI_1]
    exact alike_l σ d (k + 1) n (by omega) (by omega)
theorem alike (σ : St) : mL_areAlike σ σ = some 1 := by
  unfold mL_areAlike mL_areAlike_60
  rw [if_pos rfl, if_pos rfl, if_pos rfl, if_pos rfl, if_pos rfl]
  exact alike_l σ 30 0 31 rfl (by omega)
section SO
variable {T : Nat → List Nat}
theorem ad_lt (h : acy (EE T)) {a b : Nat} (ha : a < 30) (e : ad T a b = true) : lv T b < lv T a := by
  obtain ⟨h1, h2⟩ := ad_iff.mp e
  rcases lv_clo h ha h2 with rfl | h3
  · exact absurd rfl h1
  · exact h3
theorem ad_irr (T : Nat → List Nat) (a : Nat) : ad T a a = false := by
  unfold ad
  rw [decide_eq_false (fun z => z rfl)]; rfl
theorem ad_tr (h : acy (EE T)) {a b c : Nat} (ha : a < 30) (hb : b < 30) (e : ad T a b = true) (e2 : ad T b c = true) : ad T a c = true := by
  have h1 := ad_lt h ha e
  have h2 := ad_lt h hb e2
  refine ad_iff.mpr ⟨fun z => by subst z; omega, clo_tr (ad_iff.mp e2).2 (fun i _ z => ?_)⟩
  have : i = b := by simpa using z
  subst this
  exact (ad_iff.mp e).2
theorem ad_asym (h : acy (EE T)) {a b : Nat} (ha : a < 30) (hb : b < 30) (e : ad T a b = true) : ad T b a = false := by
  cases e2 : ad T b a with
  | false => rfl
  | true =>
    have h1 := ad_lt h ha e
    have h2 := ad_lt h hb e2
    omega
theorem ad_any (h : acy (EE T)) {a : Nat} (ha : a < 30) : 0 < fb_ct (ad T a) 30 ↔ 0 < lv T a := by
  rw [fb_ct_pos, lv_pos]
  constructor
  · rintro ⟨j, hj, e⟩
    have := ad_lt h ha e
    exact lv_pos.mp (by omega)
  · rintro ⟨j, hj, e⟩
    have := lv_edge h ha hj e
    exact ⟨j, hj, ad_iff.mpr ⟨fun z => by subst z; omega, clo_st ha hj (clo_in ha (by simp)) e⟩⟩
end SO
section SO2
variable {σ : St}
theorem so_c (h : acy (EE σ.1)) {a b : Nat} (ha : a < 30) (hb : b < 30) (r6 : Int32 → Int32 → Int32 → Option Int32) (r142 : Int32 → Int32 → Int32 → Int32 → Int32 → Option Int32) (v1 v6 : Int32) (v8 : Bool) (hv : v8 = true → ad σ.1 a b = true) : ∀ (n i : Nat), i ≤ 10 → 10 < n + i → mL_areCellsSo_217 σ r6 r142 n v1 1 (nI a) v6 (nI b) (bI v8) (nI (3 * i)) = r142 v1 1 (nI a) v6 (nI (b + 1))
  | 0, i, h1, h2 => absurd h2 (by omega)
  | n + 1, i, h1, h2 => by
    simp only [mL_areCellsSo_217, mL_areCellsSo_217_b, mL_areCellsSo_266, mL_areCellsSo_254, mL_areCellsSo_259]
    rw [nI_1 b]
    by_cases hi : i = 10
    · subst hi
      rw [if_pos (show (30 : Int32) ≤ nI (3 * 10) by decide)]
    · have hc : 3 * i < 30 := by omega
      rw [if_neg (show ¬ (30 : Int32) ≤ nI (3 * i) from nI_ge (a := 3 * i) (b := 30) (by omega) (by omega))]
      cases v8 with
      | false => rw [if_pos bI_f]
      | true =>
        have ih := so_c h ha hb r6 r142 v1 v6 true hv n (i + 1) (by omega) (by omega)
        have e3 : nI (3 * i) + (3 : Int32) = nI (3 * (i + 1)) := nI_add (3 * i) 3
        rw [if_neg bI_nt, if_neg (show ¬ (1 : Int32) = 0 by decide), aDep_at σ hb hc, Option.bind_some, e3, ih]
        cases e : ad σ.1 b (3 * i) with
        | false => rw [if_pos bI_f]
        | true =>
          rw [if_neg bI_nt, aDep_at σ ha hc, Option.bind_some, ad_tr h ha hb (hv rfl) e, if_neg bI_nt]
theorem so_177 (h : acy (EE σ.1)) {a b : Nat} (ha : a < 30) (hb : b < 30) (r6 : Int32 → Int32 → Int32 → Option Int32) (r142 : Int32 → Int32 → Int32 → Int32 → Int32 → Option Int32) (v1 s0 : Int32) : mL_areCellsSo_177 σ r6 r142 v1 (nI a) (nI b) (bI (ad σ.1 a b)) s0 = r142 v1 1 (nI a) s0 (nI (b + 1)) := by
  have key : ∀ v8 : Bool, (v8 = true → ad σ.1 a b = true) → mL_areCellsSo_208 σ r6 r142 v1 (nI a) s0 (nI b) (bI v8) = r142 v1 1 (nI a) s0 (nI (b + 1)) := fun v8 hv => by
    unfold mL_areCellsSo_208 mL_areCellsSo_213
    exact so_c h ha hb r6 r142 v1 s0 v8 hv 11 0 (by omega) (by omega)
  unfold mL_areCellsSo_177
  cases e : ad σ.1 a b with
  | false => rw [if_pos bI_f]; exact key false (fun z => absurd z (by decide))
  | true =>
    have h1 := ad_lt h ha e
    have h2 := lv_le σ.1 a
    rw [if_neg bI_nt, aLevel_at σ ha, Option.bind_some, aLevel_at σ hb, Option.bind_some, if_neg (nI_ge (a := lv σ.1 b) (b := lv σ.1 a) h1 (by omega)), aDep_at σ hb ha, Option.bind_some, ad_asym h ha hb e, if_pos bI_f]
    exact key true (fun _ => e)
theorem so_b (h : acy (EE σ.1)) {a : Nat} (ha : a < 30) (r6 : Int32 → Int32 → Int32 → Option Int32) (v1 : Int32) : ∀ (d b n : Nat), b + d = 30 → d < n → mL_areCellsSo_142 σ r6 n v1 1 (nI a) (bI (decide (0 < fb_ct (ad σ.1 a) b))) (nI b) = mL_areCellsSo_272 σ r6 v1 1 (nI a) (bI (decide (0 < fb_ct (ad σ.1 a) 30)))
  | _, _, 0, _, h2 => absurd h2 (Nat.not_lt_zero _)
  | 0, b, n + 1, h1, h2 => by
    have : b = 30 := by omega
    subst this
    simp only [mL_areCellsSo_142, mL_areCellsSo_142_b]
    rw [if_pos (by decide)]
  | d + 1, b, n + 1, h1, h2 => by
    have hb : b < 30 := by omega
    simp only [mL_areCellsSo_142, mL_areCellsSo_142_b, mL_areCellsSo_172]
    rw [if_neg (show ¬ (30 : Int32) ≤ nI b from nI_ge (a := b) (b := 30) (by omega) (by omega)), if_neg (show ¬ (1 : Int32) = 0 by decide), aDep_at σ ha hb, Option.bind_some, so_177 h ha hb, so_177 h ha hb]
    have ih := so_b h ha r6 v1 d (b + 1) n (by omega) (by omega)
    rw [fb_ct_succ] at ih
    cases e : ad σ.1 a b with
    | true =>
      rw [e, if_pos rfl, decide_eq_true (by omega)] at ih
      rw [if_neg bI_nt, ite_self]
      exact ih
    | false =>
      rw [e, if_neg Bool.false_ne_true, Nat.add_zero] at ih
      rw [if_pos bI_f]
      cases e2 : decide (0 < fb_ct (ad σ.1 a) b) with
      | true => rw [e2] at ih; rw [if_neg bI_nt]; exact ih
      | false => rw [e2] at ih; rw [if_pos bI_f]; exact ih
theorem so_124 (h : acy (EE σ.1)) {a : Nat} (ha : a < 30) (r6 : Int32 → Int32 → Int32 → Option Int32) (v1 : Int32) : mL_areCellsSo_124 σ r6 v1 (nI a) 0 = r6 v1 1 (nI (a + 1)) := by
  have hb := so_b h ha r6 v1 30 0 31 rfl (by omega)
  have hb : mL_areCellsSo_142 σ r6 31 v1 1 (nI a) 0 0 = _ := hb
  unfold mL_areCellsSo_124 mL_areCellsSo_138
  rw [aDep_at σ ha ha, Option.bind_some, ad_irr, if_pos bI_f, hb]
  unfold mL_areCellsSo_272 mL_areCellsSo_291 mL_areCellsSo_299
  have h31 := lv_le σ.1 a
  rw [if_neg (show ¬ (1 : Int32) = 0 by decide), aLevel_at σ ha, Option.bind_some, nI_1]
  by_cases z : 0 < lv σ.1 a
  · rw [if_neg (nI_nle z (by omega)), decide_eq_true ((ad_any h ha).mpr z), if_pos bI_t]
  · have z0 : lv σ.1 a = 0 := by omega
    rw [if_pos (show nI (lv σ.1 a) ≤ 0 by rw [z0]; decide), decide_eq_false (fun y => z ((ad_any h ha).mp y)), if_pos bI_f]
theorem so_83 (h : ok σ) {a : Nat} (ha : a < 30) (r6 : Int32 → Int32 → Int32 → Option Int32) (v1 : Int32) : mL_areCellsSo_83 σ r6 v1 (nI a) (vL (VV σ.1 a)) 0 = r6 v1 1 (nI (a + 1)) := by
  have h15 := (h.1 a ha).1.1
  have k := so_124 h.2.1 ha r6 v1
  unfold mL_areCellsSo_83
  rw [aSigns_at σ ha, Option.bind_some, Option.bind_some, Option.bind_some, if_neg (fun z => nI_pos (by omega) z), if_neg (show ¬ (15 : Int32) < nI (σ.1 a).length from fun z => by
    have := (nI_ltI (a := 15) (by omega) (by omega)).mp z
    omega), k]
  by_cases z : 0 < (σ.1 a).length
  · rw [if_pos (show 0 < nI (σ.1 a).length from nI_lt (a := 0) z (by omega))]
  · have z0 : σ.1 a = [] := List.length_eq_zero_iff.mp (by omega)
    have hv : VV σ.1 a = some 0 := by
      rw [VV_eq h.2.1 ha, z0]; exact if_pos rfl
    have hl : lv σ.1 a = 0 := Nat.eq_zero_of_not_pos (fun y => by
      obtain ⟨j, hj, e⟩ := lv_pos.mp y
      unfold EE at e
      rw [z0] at e
      exact absurd e (by rw [nm_nil j hj]; decide))
    rw [if_neg (show ¬ 0 < nI (σ.1 a).length by rw [z0]; decide), hv, if_pos (show lg_cmp (vL (some 0)) 0 = 0 by exact cmp_rf _), aLevel_at σ ha, Option.bind_some, hl, if_pos (show nI 0 = 0 from rfl)]
theorem so_a (h : ok σ) : ∀ (d a n : Nat), a + d = 30 → d < n → mL_areCellsSo_6 σ n (nI (fb_ct (fun j => (VV σ.1 j).isNone) a)) 1 (nI a) = some 1
  | _, _, 0, _, h2 => absurd h2 (Nat.not_lt_zero _)
  | 0, a, n + 1, h1, h2 => by
    have : a = 30 := by omega
    subst this
    have h4 := h.2.2.2.1
    simp only [mL_areCellsSo_6, mL_areCellsSo_6_b, mL_areCellsSo_306, mL_areCellsSo_338]
    rw [if_pos (by decide), if_neg (show ¬ (1 : Int32) = 0 by decide), if_pos (show aFaulty σ = nI (fb_ct (fun j => (VV σ.1 j).isNone) 30) from rfl), if_neg (fun z => nI_pos (by omega) z), if_neg (show ¬ (4 : Int32) < nI σ.2.2.2.1 from fun z => by
      have := (nI_ltI (a := 4) (by omega) (by omega)).mp z
      omega), if_pos (.inr trivial)]
  | d + 1, a, n + 1, h1, h2 => by
    have ha : a < 30 := by omega
    have hv := VV_ok (okSF_S h.1) a ha
    have ih := so_a h d (a + 1) n (by omega) (by omega)
    rw [fb_ct_succ] at ih
    have k : ∀ s1 : Nat, s1 = (if (VV σ.1 a).isNone then 1 else 0) → mL_areCellsSo_42 σ (mL_areCellsSo_6 σ n) (nI a) (vL (VV σ.1 a)) 0 (nI (fb_ct (fun j => (VV σ.1 j).isNone) a)) (nI s1) = some 1 := fun s1 hs => by
      unfold mL_areCellsSo_42
      rw [value_at σ ha, Option.bind_some, if_pos (cmp_rf _), nI_add, hs, so_83 h ha, ih]
      cases e : VV σ.1 a with
      | none => rw [if_pos (show lg_cmp (vL none) 4000000000000 = 0 from cmp_rf _)]
      | some z =>
        rw [e] at hv
        have hz := hv z rfl
        have hsm := bd_sm hz
        rw [if_neg (fun y => by have := (vL_F hv).mp y; exact nomatch this), if_neg (show ¬ lg_cmp (vL (some z)) (-1000000000000) < 0 from fun y => by
          have y2 : lg_cmp (LL z) (LL (-1000000000000)) < 0 := y
          rw [cm_lt hsm (by unfold sm; omega)] at y2
          unfold bd at hz
          omega), if_neg (show ¬ 0 < lg_cmp (vL (some z)) 1000000000000 from fun y => by
          have y2 : 0 < lg_cmp (LL z) (LL 1000000000000) := y
          rw [cm_gt hsm (by unfold sm; omega)] at y2
          unfold bd at hz
          omega)]
    simp only [mL_areCellsSo_6, mL_areCellsSo_6_b]
    rw [if_neg (show ¬ (30 : Int32) ≤ nI a from nI_ge (a := a) (b := 30) (by omega) (by omega)), if_neg (show ¬ (1 : Int32) = 0 by decide), value_at σ ha, Option.bind_some]
    by_cases e : VV σ.1 a = none
    · rw [if_pos ((vL_F hv).mpr e)]
      exact k 1 (by rw [e]; rfl)
    · rw [if_neg (fun y => e ((vL_F hv).mp y))]
      refine k 0 ?_
      cases e2 : VV σ.1 a with
      | none => exact absurd e2 e
      | some z => rfl
/-- cells are so, in every state -/
theorem cellsSo (h : ok σ) : mL_areCellsSo σ = some 1 := so_a h 30 0 31 rfl (by omega)
end SO2
