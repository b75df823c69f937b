/-! a number put over a layer that is dropped; what is sought; the law's loop -/
theorem rev_same {E E' : Nat → Nat → Bool} {a : Nat} (h : ∀ i j, i ≠ a → E i j = E' i j) {j : Nat} (c : clo (fun x y => E y x) (fun x => x == a) j) : clo (fun x y => E' y x) (fun x => x == a) j :=
  c (fun x => clo (fun x y => E' y x) (fun x => x == a) x) (fun i hi e => clo_in hi e) (fun i k hi hk t e => by
    by_cases z : k = a
    · subst z; exact clo_in hk (by simp)
    · exact clo_st hi hk t (by rw [← h k i z]; exact e))
theorem EE_sT {T : Nat → List Nat} {a : Nat} {l : List Nat} (i j : Nat) (h : i ≠ a) : EE (sT T a l) i j = EE T i j := by
  unfold EE; rw [sT_n h]
theorem dn_sT (T : Nat → List Nat) (a : Nat) (l : List Nat) : dn (sT T a l) a = dn T a := by
  unfold dn
  refine fb_ct_cong (fun c hc => ?_)
  rw [Bool.eq_iff_iff, depB_iff, depB_iff]
  exact ⟨rev_same (fun i j h => EE_sT i j h), rev_same (fun i j h => (EE_sT i j h).symm)⟩
theorem dn_ad (T : Nat → List Nat) {a : Nat} (ha : a < 30) : dn T a = 1 + fb_ct (fun j => ad T j a) 30 := by
  have e : ∀ c, c < 30 → depB (EE T) (fun x => x == a) c = (fun k => if k = a then true else ad T k a) c := fun c hc => by
    show depB (EE T) (fun x => x == a) c = if c = a then true else ad T c a
    by_cases z : c = a
    · subst z
      rw [if_pos rfl]
      exact depB_iff.mpr (clo_in hc (by simp))
    · rw [if_neg z, Bool.eq_iff_iff, depB_iff, ad_iff, clo_rev hc]
      constructor
      · rintro ⟨j, _, e, h⟩
        have : j = a := by simpa using e
        subst this
        exact ⟨z, h⟩
      · rintro ⟨_, h⟩
        exact ⟨a, ha, by simp, h⟩
  unfold dn
  rw [fb_ct_cong e]
  have := fb_ct_upd (fun k => ad T k a) true ha
  rw [if_pos rfl] at this
  have e0 : (if (fun k => ad T k a) a = true then 1 else 0) = 0 := by
    show (if ad T a a = true then 1 else 0) = 0
    rw [ad_irr]; rfl
  rw [e0] at this
  omega
theorem ct_one : ∀ a, a < 30 → fb_ct (fun j => j == a) 30 = 1 := by decide +kernel
theorem dif_same {T : Nat → List Nat} {a : Nat} {l : List Nat} (h : T a = l) : dif (sT T a l) T = fun _ => false := by
  funext j
  unfold dif
  by_cases e : j = a
  · subst e; rw [sT_s]; exact decide_eq_false (fun z => z h)
  · rw [sT_n e]; exact decide_eq_false (fun z => z rfl)
theorem dif_one {T : Nat → List Nat} {a : Nat} {l : List Nat} (h : ¬ T a = l) : dif (sT T a l) T = fun j => j == a := by
  funext j
  unfold dif
  by_cases e : j = a
  · subst e; rw [sT_s, decide_eq_true h]; simp
  · rw [sT_n e, decide_eq_false (fun z => z rfl)]
    have : (j == a) = false := by simpa using e
    rw [this]
theorem ct_no (E : Nat → Nat → Bool) : fb_ct (depB E (fun _ => false)) 30 = 0 := fb_ct_zero.mpr (fun k hk => by
  cases e : depB E (fun _ => false) k with
  | false => rfl
  | true => exact absurd (depB_iff.mp e) (no_clo (fun _ _ => rfl) hk))
theorem i32_lt {n : Nat} (h : n < 2 ^ 31) : (nI n).toInt64 = LL n := by
  rw [i32_L, nI_toInt h]
section PUT
variable {σ : St}
theorem open_1 (h : σ.2.2.2.1 < 4) : (aOpen σ).1 = some (nI (σ.2.2.2.1 + 1)) := by unfold aOpen; rw [if_pos h]
theorem open_2 (h : σ.2.2.2.1 < 4) : (aOpen σ).2 = (σ.1, qA σ.2.1 σ.2.2.2.1 σ.1, σ.2.2.1, σ.2.2.2.1 + 1, σ.2.2.2.2) := by unfold aOpen; rw [if_pos h]
theorem put_is (σ : St) {a n : Nat} (ha : a < 30) (hn : n < 1000000) : aPut σ (nI a) (nI n) = aGive σ a [36 + n] σ.2.2.1 := by
  unfold aPut
  rw [if_pos ⟨cell_is ha, num_is hn⟩, tn_nI (n := a) (by omega), tn_nI (n := n) (by omega)]
theorem putSo_l (σ : St) {a : Nat} (ha : a < 30) (v3 v5 v6 : Int32) (v7 : Int64) (R : Option (Int32 × St × St))
    (hR : ∀ r, mL_isPutSo_57_b r σ σ (nI a) v3 (nI (1 + fb_ct (fun j => ad σ.1 j a) 30)) v5 v6 v7 (nI 30) = R) : ∀ (d b n : Nat), b + d = 30 → d < n → mL_isPutSo_57 n σ σ (nI a) v3 (nI (1 + fb_ct (fun j => ad σ.1 j a) b)) v5 v6 v7 (nI b) = R
  | _, _, 0, _, h2 => absurd h2 (Nat.not_lt_zero _)
  | 0, b, n + 1, h1, h2 => by
    have : b = 30 := by omega
    subst this
    simp only [mL_isPutSo_57]
    exact hR _
  | d + 1, b, n + 1, h1, h2 => by
    have hb : b < 30 := by omega
    have ih := putSo_l σ ha v3 v5 v6 v7 R hR d (b + 1) n (by omega) (by omega)
    rw [fb_ct_succ] at ih
    simp only [mL_isPutSo_57, mL_isPutSo_57_b, mL_isPutSo_81]
    rw [if_neg (show ¬ (30 : Int32) ≤ nI b from nI_ge (a := b) (b := 30) (by omega) (by omega)), aDep_at σ hb ha, Option.bind_some, nI_1]
    cases e : ad σ.1 b a with
    | false =>
      rw [e, if_neg Bool.false_ne_true, Nat.add_zero] at ih
      rw [if_pos bI_f, show nI (1 + fb_ct (fun j => ad σ.1 j a) b) + (0 : Int32) = nI (1 + fb_ct (fun j => ad σ.1 j a) b) from nI_add _ 0]
      exact ih
    | true =>
      rw [e, if_pos rfl, ← Nat.add_assoc] at ih
      rw [if_neg bI_nt, nI_1]
      exact ih
/-- a number put into a cell over a layer that is dropped: all is as it was -/
theorem putSo (h : ok σ) {a n : Nat} (ha : a < 30) (hn : n < 1000000) : ∃ σ' : St, mL_isPutSo σ σ (nI a) (nI n) = some (1, σ', σ') ∧ ok σ' := by
  unfold mL_isPutSo
  rw [aSigns_at σ ha, Option.bind_some, value_at σ ha, Option.bind_some]
  have h4 := h.2.2.2.1
  by_cases hL : σ.2.2.2.1 = 4
  · rw [if_pos (show aLayers σ = (4 : Int32) by show nI σ.2.2.2.1 = nI 4; rw [hL])]
    have e : (aKeep σ).1 = some (nI 3) := by
      unfold aKeep
      rw [if_pos (by omega), hL]
    rw [e, Option.bind_some, if_pos (show nI 3 = (3 : Int32) from rfl), Option.bind_some, if_pos (show nI 3 = (3 : Int32) from rfl)]
    unfold mL_isPutSo_53
    rw [if_pos (.inr rfl)]
    exact ⟨_, rfl, (aKeep_f σ h4).2.2 h⟩
  · have hL4 : σ.2.2.2.1 < 4 := by omega
    rw [if_neg (show ¬ aLayers σ = (4 : Int32) from fun z => hL ((nI_eq (a := σ.2.2.2.1) (b := 4) (by omega) (by omega)).mp z))]
    have hok3 : ok (aDrop (aPut (aOpen σ).2 (nI a) (nI n)).2).2 := (aDrop_f _).2.2 ((aPut_f _ _ _).2.2 ((aOpen_f σ).2.2 h))
    have hok2 : ok (aPut (aOpen σ).2 (nI a) (nI n)).2 := (aPut_f _ _ _).2.2 ((aOpen_f σ).2.2 h)
    have o1 := open_1 hL4
    have o2 := open_2 hL4
    obtain ⟨l, hl⟩ : ∃ l : List Nat, l = [36 + n] := ⟨_, rfl⟩
    obtain ⟨T, Q, D, L, F⟩ := σ
    dsimp only at o1 o2 hL4
    have hp := put_is (aOpen (T, Q, D, L, F)).2 ha hn
    rw [o2] at hp
    have hp2 : aPut (aOpen (T, Q, D, L, F)).2 (nI a) (nI n) = aGive (T, qA Q L T, D, L + 1, F) a l D := by rw [o2, hp, hl]
    have p1 : (aPut (aOpen (T, Q, D, L, F)).2 (nI a) (nI n)).1 = some (nI (1 + fb_ct (fun j => ad T j a) 30)) := by
      rw [hp2]
      show some (nI (dn (sT T a l) a)) = _
      rw [dn_sT, dn_ad T ha]
    have p2 : (aPut (aOpen (T, Q, D, L, F)).2 (nI a) (nI n)).2 = (sT T a l, qA Q L T, D, L + 1, F + nI (dn T a)) := by
      rw [hp2]
      show (sT T a l, qA Q L T, D, L + 1, F + nI (dn (sT T a l) a)) = _
      rw [dn_sT]
    have qq : qA Q L T L = T := if_pos rfl
    have d1 : (aDrop (aPut (aOpen (T, Q, D, L, F)).2 (nI a) (nI n)).2).1 = some (nI (fb_ct (dif (sT T a l) T) 30)) := by
      rw [p2]
      unfold aDrop
      dsimp only
      rw [if_pos (Nat.succ_pos L), Nat.add_sub_cancel, qq]
    have d2 : (aDrop (aPut (aOpen (T, Q, D, L, F)).2 (nI a) (nI n)).2).2 = (T, qA Q L T, D, L, F + nI (dn T a) + nI (fb_ct (depB (EE T) (dif (sT T a l) T)) 30)) := by
      rw [p2]
      unfold aDrop
      dsimp only
      rw [if_pos (Nat.succ_pos L), Nat.add_sub_cancel, qq]
    have v2 : VV (sT T a l) a = some (n : Int) := by
      have ha2 := hok2.2.1
      rw [p2] at ha2
      have ha2 : acy (EE (sT T a l)) := ha2
      rw [VV_eq ha2 ha, sT_s, hl, evF_num]
    have l2 : lv (sT T a l) a = 0 := Nat.eq_zero_of_not_pos (fun y => by
      obtain ⟨j, hj, e⟩ := lv_pos.mp y
      unfold EE at e
      rw [sT_s, hl, nm_num n j hj] at e
      exact absurd e (by decide))
    have chg : (T a = l ∧ nI (fb_ct (dif (sT T a l) T) 30) = 0 ∧ nI (fb_ct (depB (EE T) (dif (sT T a l) T)) 30) = 0) ∨ (¬ T a = l ∧ nI (fb_ct (dif (sT T a l) T) 30) = 1 ∧ nI (fb_ct (depB (EE T) (dif (sT T a l) T)) 30) = nI (dn T a)) := by
      by_cases z : T a = l
      · refine .inl ⟨z, ?_, ?_⟩
        · rw [dif_same z, fb_ct_zero.mpr (fun _ _ => rfl)]; rfl
        · rw [dif_same z, ct_no]; rfl
      · refine .inr ⟨z, ?_, ?_⟩
        · rw [dif_one z, ct_one a ha]; rfl
        · rw [dif_one z]; rfl
    have hdn : dn T a = 1 + fb_ct (fun j => ad T j a) 30 := dn_ad T ha
    have hct := fb_ct_le (fun j => ad T j a) 30
    rw [d2] at hok3
    refine ⟨_, ?_, hok3⟩
    refine putSo_l (T, Q, D, L, F) ha (nI n) F (nI (T a).length) (vL (VV T a)) _ (fun r => ?_) 30 0 31 rfl (by omega)
    simp only [mL_isPutSo_57_b]
    rw [if_pos (show (30 : Int32) ≤ nI 30 by decide), o1, Option.bind_some, if_pos (show nI (L + 1) = aLayers (T, Q, D, L, F) + 1 from (nI_1 L).symm), p1, Option.bind_some, if_pos rfl]
    have a1 : aValue (aPut (aOpen (T, Q, D, L, F)).2 (nI a) (nI n)).2 (nI a) = some (LL n) := by
      rw [aValue_at _ ha, p2]
      dsimp only
      rw [v2]; rfl
    have a2 : aSigns (aPut (aOpen (T, Q, D, L, F)).2 (nI a) (nI n)).2 (nI a) = some 1 := by
      rw [aSigns_at _ ha, p2]
      dsimp only
      rw [sT_s, hl]; rfl
    have a3 : aLevel (aPut (aOpen (T, Q, D, L, F)).2 (nI a) (nI n)).2 (nI a) = some 0 := by
      rw [aLevel_at _ ha, p2]
      dsimp only
      rw [l2]; rfl
    rw [a1, Option.bind_some, if_pos (show lg_cmp (LL n) (nI n).toInt64 = 0 by rw [i32_lt (by omega)]; exact cmp_rf _), a2, Option.bind_some, if_pos rfl, a3, Option.bind_some, if_pos rfl]
    unfold mL_isPutSo_151
    rw [d1, Option.bind_some]
    have f3 : aFound (aDrop (aPut (aOpen (T, Q, D, L, F)).2 (nI a) (nI n)).2).2 = F + (nI (1 + fb_ct (fun j => ad T j a) 30)) * ((1 : Int32) + nI (fb_ct (dif (sT T a l) T) 30)) := by
      show (aDrop (aPut (aOpen (T, Q, D, L, F)).2 (nI a) (nI n)).2).2.2.2.2.2 = _
      rw [d2]
      dsimp only
      rw [← hdn]
      rcases chg with ⟨_, z1, z2⟩ | ⟨_, z1, z2⟩
      · rw [z1, z2, show (1 : Int32) + 0 = 1 from rfl, Int32.mul_one, Int32.add_zero]
      · rw [z1, z2, show (1 : Int32) + 1 = nI 2 from rfl, pk_mul, Int32.add_assoc, nI_add, Nat.mul_two]
    have g1 : mL_value (aDrop (aPut (aOpen (T, Q, D, L, F)).2 (nI a) (nI n)).2).2 (nI a) 0 = some (vL (VV T a)) := by
      rw [value_at _ ha, d2]
    have g2 : aSigns (aDrop (aPut (aOpen (T, Q, D, L, F)).2 (nI a) (nI n)).2).2 (nI a) = some (nI (T a).length) := by
      rw [aSigns_at _ ha, d2]
    have fin : mL_isPutSo_210 (aDrop (aPut (aOpen (T, Q, D, L, F)).2 (nI a) (nI n)).2).2 (T, Q, D, L, F) (nI a) (nI n) (nI (1 + fb_ct (fun j => ad T j a) 30)) F (nI (T a).length) (vL (VV T a)) (aLayers (T, Q, D, L, F)) (nI (fb_ct (dif (sT T a l) T) 30)) = some (1, (T, qA Q L T, D, L, F + nI (dn T a) + nI (fb_ct (depB (EE T) (dif (sT T a l) T)) 30)), (T, qA Q L T, D, L, F + nI (dn T a) + nI (fb_ct (depB (EE T) (dif (sT T a l) T)) 30))) := by
      unfold mL_isPutSo_210
      rw [if_pos f3, g1, Option.bind_some, if_pos (cmp_rf _), g2, Option.bind_some, if_pos rfl]
      unfold mL_isPutSo_254 mL_isPutSo_297
      rw [if_neg (show ¬ (1 : Int32) = 0 by decide), o1, Option.bind_some, if_pos (show nI (L + 1) = aLayers (T, Q, D, L, F) + 1 from (nI_1 L).symm), p1, Option.bind_some, if_pos rfl, d1, Option.bind_some, if_pos rfl, if_pos (.inr rfl), d2]
    unfold mL_isPutSo_174 mL_isPutSo_175 mL_isPutSo_194
    rcases chg with ⟨z0, z1, z2⟩ | ⟨z0, z1, z2⟩
    · rw [z1] at fin ⊢
      have hv : vL (VV T a) = LL n := by
        rw [VV_eq h.2.1 ha, show (T, Q, D, L, F).1 a = l from z0, hl, evF_num]; rfl
      rw [if_pos (show nI (T a).length = 1 by rw [z0, hl]; rfl), if_pos rfl, if_neg (show ¬ (1 : Int32) = 0 by decide), if_neg (show ¬ (1 : Int32) = 0 by decide), if_pos rfl, if_neg (show ¬ (1 : Int32) = 0 by decide), if_pos (show lg_cmp (vL (VV T a)) (nI n).toInt64 = 0 by rw [hv, i32_lt (by omega)]; exact cmp_rf _)]
      exact fin
    · rw [z1] at fin ⊢
      have n10 : ¬ (1 : Int32) = 0 := by decide
      rw [if_neg n10, ite_self, if_neg n10, if_pos (show (0 : Int32) = 0 from rfl), if_pos (show (1 : Int32) = 1 from rfl), if_pos (show (0 : Int32) = 0 from rfl)]
      exact fin
end PUT
/-- what is sought reaches the target, or has just passed it -/
theorem soughtSo {σ : St} (h : ok σ) {g t i : Nat} (ht : t < 9000) : ∃ σ' : St, mL_isSoughtSo σ σ (nI g) (nI t) (nI i) = some (1, σ', σ') ∧ ok σ' := by
  have hf := aSeek_f σ (nI g) (nI t) (nI i) 0 5000
  unfold mL_isSoughtSo mL_seek
  cases e : (aSeek σ (nI g) (nI t) (nI i) 0 5000).1 with
  | none =>
    rw [oc_n rfl, Option.bind_some]
    dsimp only
    rw [if_neg (show ¬ (0 : Int32) ≤ -99999 by decide), Option.bind_some, if_pos rfl]
    unfold mL_isSoughtSo_41
    rw [if_pos (.inr rfl)]
    exact ⟨_, rfl, hf.2.2 h⟩
  | some y =>
    obtain ⟨hs, k, hk, rfl, e2⟩ := aSeek_yes e
    have hok1 : ok (aSeek σ (nI g) (nI t) (nI i) 0 5000).2 := hf.2.2 h
    obtain ⟨⟨hg0, hi0⟩, _, _, hd⟩ := hs
    obtain ⟨g', hg, eg⟩ := cell_of hg0
    obtain ⟨i', hi, ei⟩ := cell_of hi0
    rw [eg, ei] at hk e2 hd ⊢
    rw [eg, ei] at e hok1
    clear hf hg0 hi0 eg ei
    rw [tn_nI (n := g') (by omega), tn_nI (n := i') (by omega)] at hd
    rw [tn_nI (n := i') (by omega)] at e2
    have hkb := sk_le (show tn (0 : Int32) ≤ tn (5000 : Int32) by decide) hk
    have hk5 : k ≤ 5000 := hkb
    obtain ⟨zk, hzk, hor⟩ := sk_so (show tn (0 : Int32) ≤ tn (5000 : Int32) by decide) hk
    have hV : ∀ x, skV σ (nI g') (nI i') x = VV (sT σ.1 i' [36 + x]) g' := fun x => by
      unfold skV
      rw [tn_nI (n := g') (by omega), tn_nI (n := i') (by omega)]
    rw [hV] at hzk
    rw [nI_toInt (by omega)] at hor
    have s1 : (aSeek σ (nI g') (nI t) (nI i') 0 5000).2.1 = sT σ.1 i' [36 + k] := by rw [e2]; rfl
    obtain ⟨τ, hτ⟩ : ∃ τ : St, τ = (aSeek σ (nI g') (nI t) (nI i') 0 5000).2 := ⟨_, rfl⟩
    rw [← hτ] at hok1 s1 ⊢
    rw [oc_s rfl, Option.bind_some]
    have x11 : aValue τ (nI g') = some (LL zk) := by rw [aValue_at _ hg, s1, hzk]; rfl
    have x13 : aValue τ (nI i') = some (LL k) := by
      have ha := hok1.2.1
      rw [s1] at ha
      rw [aValue_at _ hi, s1, VV_eq ha hi, sT_s, evF_num]; rfl
    have x15 : aSigns τ (nI i') = some 1 := by rw [aSigns_at _ hi, s1, sT_s]; rfl
    have x17 : aDep τ (nI g') (nI i') = some 1 := by
      have : ad τ.1 g' i' = true := by
        rw [s1]
        refine ad_iff.mpr ⟨hd.1, ?_⟩
        have c1 := belB_iff.mp hd.2
        have c2 := rev_same (E := EE σ.1) (E' := EE (sT σ.1 i' [36 + k])) (fun x y hx => (EE_sT x y hx).symm) ((clo_rev hg).mpr ⟨i', hi, by simp, c1⟩)
        obtain ⟨j, _, ej, c3⟩ := (clo_rev hg).mp c2
        have : j = i' := by simpa using ej
        subst this
        exact c3
      rw [aDep_at _ hg hi, this]; rfl
    have n10 : ¬ (1 : Int32) = 0 := by decide
    dsimp only
    rw [if_pos (nn (by omega)), x11, Option.bind_some, if_neg (show ¬ (5000 : Int32) < nI k from fun z => by
      have := (nI_ltI (a := 5000) (by omega) (by omega)).mp z
      omega), x13, Option.bind_some, if_pos (show lg_cmp (LL k) (nI k).toInt64 = 0 by rw [i32_lt (by omega)]; exact cmp_rf _), x15, Option.bind_some, if_pos rfl, x17, Option.bind_some, if_neg n10, Option.bind_some]
    dsimp only
    rw [if_pos rfl]
    unfold mL_isSoughtSo_112 mL_isSoughtSo_212
    have hzo : okV (some zk) := by
      have := VV_ok (okSF_S hok1.1) g' hg
      rw [s1, hzk] at this
      exact this
    have hzs := bd_sm (hzo zk rfl)
    have hts : sm (t : Int) := by unfold sm; omega
    rw [if_neg n10, i32_lt (n := t) (by omega)]
    have one : ∃ σ' : St, (if (1 : Int32) = 0 ∨ (1 : Int32) = 1 then some ((1 : Int32), τ, τ) else none) = some (1, σ', σ') ∧ ok σ' := ⟨τ, if_pos (.inr rfl), hok1⟩
    by_cases zt : zk = t
    · rw [if_pos (show lg_cmp (LL zk) (LL t) = 0 by rw [zt]; exact cmp_rf _)]
      exact one
    · rw [if_neg (show ¬ lg_cmp (LL zk) (LL t) = 0 by rw [cm_eq0 hzs hts]; exact zt)]
      rcases hor with z | ⟨hk0, zb, hzb, hiff⟩
      · exact absurd z zt
      · obtain ⟨j, rfl⟩ : ∃ j, k = j + 1 := ⟨k - 1, by omega⟩
        rw [Nat.add_sub_cancel, hV] at hzb
        rw [if_neg (nI_nle (by omega) (by omega)), nI_pred]
        have hp := put_is τ hi (n := j) (by omega)
        have hok2 : ok (aPut τ (nI i') (nI j)).2 := (aPut_f _ _ _).2.2 hok1
        have t2 : (aPut τ (nI i') (nI j)).2.1 = sT σ.1 i' [36 + j] := by
          rw [hp]
          show sT τ.1 i' [36 + j] = _
          rw [s1]
          funext x
          by_cases ex : x = i'
          · subst ex; rw [sT_s, sT_s]
          · rw [sT_n ex, sT_n ex, sT_n ex]
        have w4 : mL_value (aPut τ (nI i') (nI j)).2 (nI g') 0 = some (LL zb) := by
          rw [value_at _ hg, t2, hzb]; rfl
        obtain ⟨q, hq⟩ : ∃ q, (aPut τ (nI i') (nI j)).1 = some q := ⟨_, by rw [hp]; rfl⟩
        have hbo : okV (some zb) := by
          have := VV_ok (okSF_S hok2.1) g' hg
          rw [t2, hzb] at this
          exact this
        have hbs := bd_sm (hbo zb rfl)
        rw [hq, Option.bind_some, w4, Option.bind_some, Option.bind_some, if_pos rfl, if_neg (show ¬ lg_cmp (LL zb) 4000000000000 = 0 from fun y => by
          have := (vL_F hbo).mp y
          exact nomatch this)]
        unfold mL_isSoughtSo_189 mL_isSoughtSo_202 mL_isSoughtSo_210 mL_isSoughtSo_212
        rw [i32_lt (n := t) (by omega)]
        refine ⟨(aPut τ (nI i') (nI j)).2, ?_, hok2⟩
        by_cases b1 : zb ≤ t
        · rw [if_pos (show lg_cmp (LL zb) (LL t) ≤ 0 by rw [cm_le hbs hts]; exact b1), if_pos (show 0 ≤ lg_cmp (LL zk) (LL t) by rw [cm_ge hzs hts]; omega), if_pos rfl, if_pos (.inr rfl)]
        · rw [if_neg (show ¬ lg_cmp (LL zb) (LL t) ≤ 0 by rw [cm_le hbs hts]; exact b1), if_neg (show ¬ 0 ≤ lg_cmp (LL zk) (LL t) by rw [cm_ge hzs hts]; omega), if_pos rfl, if_pos (.inr rfl)]
/-- the law's loop comes to its end with true -/
theorem law_l {L : Nat} (hL : L ≤ 260) (xs : Nat → Int32) : ∀ (d k n : Nat) (σ : St), ok σ → k + d = 80 → d < n → mL_law_18 L xs n σ σ (nI k) = some 1
  | _, _, 0, _, _, _, h2 => absurd h2 (Nat.not_lt_zero _)
  | 0, k, n + 1, σ, h, h1, h2 => by
    have : k = 80 := by omega
    subst this
    simp only [mL_law_18, mL_law_18_b, mL_law_198]
    rw [if_pos (show (80 : Int32) ≤ nI 80 by decide), alike, Option.bind_some, if_neg (show ¬ (1 : Int32) = 0 by decide), cellsSo h, Option.bind_some, if_neg (show ¬ (1 : Int32) = 0 by decide), if_pos (.inr trivial)]
  | d + 1, k, n + 1, σ, h, h1, h2 => by
    have hk : k < 80 := by omega
    have n10 : ¬ (1 : Int32) = 0 := by decide
    have hc : ∃ v, mL_cell L xs (nI k) = some v := by
      unfold mL_cell
      by_cases z : Int32.ofNat L ≤ nI k
      · rw [if_pos z]; exact ⟨_, rfl⟩
      · have hkL : k < L := by
          refine Nat.not_le.mp (fun y => z ?_)
          exact nI_le (a := L) y (by omega)
        rw [if_neg z, if_neg (nI_in hkL (by omega))]; exact ⟨_, rfl⟩
    obtain ⟨v, hv⟩ := hc
    have next : ∀ σ' : St, ok σ' → mL_law_57 L xs (mL_law_18 L xs n) σ' σ' (nI k) v = some 1 := by
      intro σ' h'
      have ih := law_l hL xs d (k + 1) n
      have t125 : ∀ σ'' : St, ok σ'' → mL_law_125 L xs (mL_law_18 L xs n) σ'' σ'' (nI k) v = some 1 := by
        intro σ'' h''
        unfold mL_law_125 mL_law_172
        rw [nI_1]
        split
        · obtain ⟨a, ha, ea⟩ := low_nI (v >>> ((3 : Int32) &&& 31)) (n := 9) (by decide) (by decide)
          have ea : mL_low (v >>> ((3 : Int32) &&& 31)) (9 : Int32) = _ := ea
          obtain ⟨b, hb, eb⟩ := low_nI (v >>> ((5 : Int32) &&& 31)) (n := 9000) (by decide) (by decide)
          have eb : mL_low (v >>> ((5 : Int32) &&& 31)) (9000 : Int32) = _ := eb
          obtain ⟨c, hc, ec⟩ := low_nI (v >>> ((8 : Int32) &&& 31)) (n := 9) (by decide) (by decide)
          have ec : mL_low (v >>> ((8 : Int32) &&& 31)) (9 : Int32) = _ := ec
          obtain ⟨ρ, e1, e2⟩ := soughtSo h'' (g := a) (t := b) (i := c) hb
          rw [ea, Option.bind_some, eb, Option.bind_some, ec, Option.bind_some, e1, Option.bind_some]
          dsimp only
          rw [if_neg n10]
          exact ih ρ e2 (by omega) (by omega)
        · exact ih σ'' h'' (by omega) (by omega)
      have t89 : mL_law_89 L xs (mL_law_18 L xs n) σ' σ' (nI k) v = some 1 := by
        unfold mL_law_89
        split
        · obtain ⟨a, ha, ea⟩ := low_nI (v >>> ((3 : Int32) &&& 31)) (n := 9) (by decide) (by decide)
          have ea : mL_low (v >>> ((3 : Int32) &&& 31)) (9 : Int32) = _ := ea
          obtain ⟨b, hb, eb⟩ := low_nI (v >>> ((7 : Int32) &&& 31)) (n := 1000000) (by decide) (by decide)
          have eb : mL_low (v >>> ((7 : Int32) &&& 31)) (1000000 : Int32) = _ := eb
          obtain ⟨ρ, e1, e2⟩ := putSo h' (a := a) (n := b) (by omega) hb
          rw [ea, Option.bind_some, eb, Option.bind_some, e1, Option.bind_some]
          dsimp only
          rw [if_neg n10]
          exact t125 ρ e2
        · exact t125 σ' h'
      have t72 : mL_law_72 L xs (mL_law_18 L xs n) σ' σ' (nI k) v = some 1 := by
        unfold mL_law_72
        split
        · rw [cellsSo h', Option.bind_some, if_neg n10]; exact t89
        · exact t89
      unfold mL_law_57
      split
      · rw [alike, Option.bind_some, if_neg n10]; exact t72
      · exact t72
    obtain ⟨r, σ', e1, e2, e3⟩ := act_f h v
    simp only [mL_law_18, mL_law_18_b]
    rw [if_neg (show ¬ (80 : Int32) ≤ nI k from nI_ge (a := k) (b := 80) hk (by omega)), hv, Option.bind_some, e1, Option.bind_some, Option.bind_some]
    dsimp only
    by_cases z : r = -99999
    · have : σ' = σ := e3 z
      subst this
      rw [if_pos z]
      exact next σ' e2
    · rw [if_neg z, if_pos rfl]
      exact next σ' e2
