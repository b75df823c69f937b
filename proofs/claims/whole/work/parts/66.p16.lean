/-! drop -/
theorem tk_ext {l l' : List Nat} (h : l.length = l'.length) (e : ∀ i, i < l.length → tk l i = tk l' i) : l = l' := by
  refine List.ext_getElem h (fun i h1 h2 => ?_)
  have := e i h1
  unfold tk at this
  rw [List.getD_eq_getElem?_getD, List.getD_eq_getElem?_getD, List.getElem?_eq_getElem h1, List.getElem?_eq_getElem h2] at this
  exact this
section DROP
variable {N : Nat}
theorem s_same_l {w w0 : Int32} {n n0 : Nat} {f f0 : Nat → Int32} {l l' : List Nat} (hl : okT l) (hl' : okT l') (hn : n = l.length) (hn0 : n0 = l'.length) (hf : ∀ i, i < l.length → f i = nI (tk l i)) (hf0 : ∀ i, i < l'.length → f0 i = nI (tk l' i)) (hlen : l.length = l'.length) : ∀ (d k x : Nat), k + d = l.length → d < x → (∀ i, i < k → tk l i = tk l' i) → mX1_sameAs_17 N w n f w0 n0 f0 x (nI k) = some (bI (decide (l = l')))
  | _, _, 0, _, h, _ => absurd h (Nat.not_lt_zero _)
  | 0, k, x + 1, h1, h2, h3 => by
    have h15 := hl.1
    simp only [mX1_sameAs_17, mX1_sameAs_17_b]
    rw [if_pos (nI_le (by omega) (by omega)), decide_eq_true (tk_ext hlen (fun i hi => h3 i (by omega)))]
    rfl
  | d + 1, k, x + 1, h1, h2, h3 => by
    have h15 := hl.1
    have hk : k < l.length := by omega
    have c1 := hl.2 k hk
    have c2 := hl'.2 k (by omega)
    simp only [mX1_sameAs_17, mX1_sameAs_17_b]
    rw [if_neg (nI_ge (by omega) (by omega)), if_neg (nI_in (by omega) (by omega)), if_neg (nI_in (by omega) (by omega)), nI_clamp (by omega), hf k hk, hf0 k (by omega), nI_1]
    by_cases e : tk l k = tk l' k
    · rw [if_pos (by rw [e])]
      refine s_same_l hl hl' hn hn0 hf hf0 hlen d (k + 1) x (by omega) (by omega) (fun i hi => ?_)
      rcases Nat.lt_or_ge i k with z | z
      · exact h3 i z
      · have : i = k := by omega
        subst this; exact e
    · rw [if_neg (nI_neq (by omega) (by omega) e), decide_eq_false (fun z => e (by rw [z]))]
      rfl
theorem s_same {w w0 : Int32} {n n0 : Nat} {f f0 : Nat → Int32} {l l' : List Nat} (hl : okT l) (hl' : okT l') (hn : n = l.length) (hn0 : n0 = l'.length) (hf : ∀ i, i < l.length → f i = nI (tk l i)) (hf0 : ∀ i, i < l'.length → f0 i = nI (tk l' i)) (hN : 31 ≤ N) : mX1_sameAs N w n f w0 n0 f0 = some (bI (decide (l = l'))) := by
  have h15 := hl.1
  have h15' := hl'.1
  unfold mX1_sameAs
  by_cases e : l.length = l'.length
  · rw [if_pos (by rw [hn, hn0, e])]
    exact s_same_l hl hl' hn hn0 hf hf0 e l.length 0 N (by omega) (by omega) (fun _ z => absurd z (Nat.not_lt_zero _))
  · rw [if_neg (nI_neq (by omega) (by omega) (by omega)), decide_eq_false (fun z => e (by rw [z]))]
    rfl
section OTH
variable {i c : Nat} {l l' : List Nat} {fm sz om os : Nat → Int32}
theorem q_oth_t (hi : i < 4) (hc : c < 30) (hl : okT l) (hsz : sz c = nI l.length) : ∀ (d k n : Nat), k + d = l.length → d < n → mX4_isOther_31 N (nI i) fm sz om os n (nI c) 1 (nI k) = some 1
  | _, _, 0, _, h => absurd h (Nat.not_lt_zero _)
  | 0, k, n + 1, h1, h2 => by
    have h15 := hl.1
    simp only [mX4_isOther_31, mX4_isOther_31_b]
    rw [if_neg (nI_in hc (by omega)), nI_clamp (by omega), hsz, if_pos (nI_le (by omega) (by omega)), if_pos (by decide)]
  | d + 1, k, n + 1, h1, h2 => by
    have h15 := hl.1
    simp only [mX4_isOther_31, mX4_isOther_31_b, mX4_isOther_79, mX4_isOther_84]
    rw [if_neg (nI_in hc (by omega)), nI_clamp (by omega), hsz, if_neg (nI_ge (by omega) (by omega)), if_neg (by decide), nI_1]
    exact q_oth_t hi hc hl hsz d (k + 1) n (by omega) (by omega)
theorem q_oth_f (hi : i < 4) (hc : c < 30) (hl : okT l) (hl' : okT l') (hlen : l.length = l'.length) (hsz : sz c = nI l.length) (hf : ∀ x, x < l.length → fm (15 * c + x) = nI (cv (tk l x))) (hf' : ∀ x, x < l'.length → om (450 * i + (15 * c + x)) = nI (cv (tk l' x))) : ∀ (d k n : Nat), k + d = l.length → d < n → (∀ x, x < k → tk l x = tk l' x) → mX4_isOther_31 N (nI i) fm sz om os n (nI c) 0 (nI k) = some (bI (decide (¬ l' = l)))
  | _, _, 0, _, h, _ => absurd h (Nat.not_lt_zero _)
  | 0, k, n + 1, h1, h2, h3 => by
    have h15 := hl.1
    simp only [mX4_isOther_31, mX4_isOther_31_b]
    rw [if_neg (nI_in hc (by omega)), nI_clamp (by omega), hsz, if_pos (nI_le (by omega) (by omega)), if_pos (by decide), decide_eq_false (fun z => z (tk_ext hlen (fun i hi => h3 i (by omega))).symm)]
    rfl
  | d + 1, k, n + 1, h1, h2, h3 => by
    have h15 := hl.1
    have hk : k < l.length := by omega
    have c1 := cv_lt (hl.2 k hk)
    have c2 := cv_lt (hl'.2 k (by omega))
    simp only [mX4_isOther_31, mX4_isOther_31_b, mX4_isOther_79, mX4_isOther_84]
    rw [if_neg (nI_in hc (by omega)), nI_clamp (by omega), hsz, if_neg (nI_ge (by omega) (by omega)), if_pos (by trivial), c_15, show (450 : Int32) = nI 450 from rfl, pk_mul, pk_mul, nI_add, nI_add, nI_add, if_neg (nI_in (by omega) (by omega)), if_neg (nI_in (by omega) (by omega)), nI_clamp (by omega), nI_clamp (by omega), hf k hk, show 450 * i + 15 * c + k = 450 * i + (15 * c + k) by omega, hf' k (by omega), nI_1]
    by_cases e : tk l k = tk l' k
    · rw [if_pos (by rw [e])]
      refine q_oth_f hi hc hl hl' hlen hsz hf hf' d (k + 1) n (by omega) (by omega) (fun i hi => ?_)
      rcases Nat.lt_or_ge i k with z | z
      · exact h3 i z
      · have : i = k := by omega
        subst this; exact e
    · rw [if_neg (nI_neq (by omega) (by omega) (fun z => e (cv_inj (hl.2 k hk) (hl'.2 k (by omega)) z))), decide_eq_true (show ¬ l' = l from fun z => e (by rw [z]))]
      exact q_oth_t hi hc hl hsz d (k + 1) n (by omega) (by omega)
theorem q_oth (hi : i < 4) (hc : c < 30) (hl : okT l) (hl' : okT l') (hsz : sz c = nI l.length) (hos : os (30 * i + c) = nI l'.length) (hf : ∀ x, x < l.length → fm (15 * c + x) = nI (cv (tk l x))) (hf' : ∀ x, x < l'.length → om (450 * i + (15 * c + x)) = nI (cv (tk l' x))) (hN : 31 ≤ N) : mX4_isOther N (nI i) fm sz om os (nI c) = some (bI (decide (¬ l' = l))) := by
  have h15 := hl.1
  have h15' := hl'.1
  unfold mX4_isOther mX4_isOther_28
  rw [if_neg (nI_in hc (by omega)), c_30, pk_mul, nI_add, if_neg (nI_in (by omega) (by omega)), nI_clamp (by omega), nI_clamp (by omega), hsz, hos]
  by_cases e : l.length = l'.length
  · rw [if_pos (by rw [e])]
    exact q_oth_f hi hc hl hl' e hsz hf hf' l.length 0 N (by omega) (by omega) (fun _ z => absurd z (Nat.not_lt_zero _))
  · rw [if_neg (nI_neq (by omega) (by omega) e), decide_eq_true (show ¬ l' = l from fun z => e (by rw [z]))]
    exact q_oth_t hi hc hl hsz l.length 0 N (by omega) (by omega)
end OTH
/-- the cells that the layer would change -/
def dif (T T' : Nat → List Nat) : Nat → Bool := fun j => decide (¬ T' j = T j)
def difk (T T' : Nat → List Nat) (k : Nat) : Nat → Bool := fun j => decide (j < k) && dif T T' j
theorem d_drop_l {T T' : Nat → List Nat} (hT : okS T) (hT' : okS T') {i : Nat} (hi : i < 4) {fw0 : Nat → Int32} {fn0 : Nat → Nat} {ff0 : Nat → Nat → Int32} (hD : rD T fw0 fn0 ff0) {qw : Nat → Int32} {qn : Nat → Nat} {qf : Nat → Nat → Int32} (hQ : rD T' (lay i qw) (lay i qn) (lay i qf)) (hN : 31 ≤ N) (ol fd : Int32) (va : Nat → Int64) :
    ∀ (d k n : Nat) (fw : Nat → Int32) (fn : Nat → Nat) (ff : Nat → Nat → Int32) (v2 : Int32), k + d = 30 → d < n → (∀ j, j < k → fw j = qw (30 * i + j) ∧ fn j = qn (30 * i + j) ∧ ff j = qf (30 * i + j)) → (∀ j, k ≤ j → j < 30 → fw j = fw0 j ∧ fn j = fn0 j ∧ ff j = ff0 j) → mk (difk T T' k) v2 →
      ∃ fw' fn' ff' m, mX3_drop_26 N qw qn qf n ol fd fw fn ff va (nI (30 * i)) v2 (nI k) = ((mX3_findAnew N fw' fn' ff' fd va m).bind fun x5 => ((mJ6_bitCount_0f7a4 N m).bind fun x8 => some (0, x8, ol, x5.2.1, fw', fn', ff', x5.2.2))) ∧ rD T' fw' fn' ff' ∧ mk (dif T T') m
  | _, _, 0, _, _, _, _, _, h, _, _, _ => absurd h (Nat.not_lt_zero _)
  | 0, k, n + 1, fw, fn, ff, v2, h1, h2, h3, h4, h5 => by
    have : k = 30 := by omega
    subst this
    simp only [mX3_drop_26, mX3_drop_26_b]
    rw [if_pos (by decide)]
    refine ⟨fw, fn, ff, v2, rfl, fun k hk => ?_, mk_ext h5 (fun j hj => by simp [difk, hj])⟩
    obtain ⟨a1, a2, a3⟩ := h3 k hk
    have := hQ k hk
    unfold lay at this
    rw [a1, a2, a3]; exact this
  | d + 1, k, n + 1, fw, fn, ff, v2, h1, h2, h3, h4, h5 => by
    have hk : k < 30 := by omega
    simp only [mX3_drop_26, mX3_drop_26_b, mX3_drop_63, mX3_only]
    have hq := hQ k hk
    unfold lay at hq
    obtain ⟨a1, a2, a3⟩ := h4 k (Nat.le_refl _) hk
    obtain ⟨b1, b2, b3⟩ := hD k hk
    have hsame := s_same (N := N) (w := qw (30 * i + k)) (w0 := fw k) (n := qn (30 * i + k)) (n0 := fn k) (f := qf (30 * i + k)) (f0 := ff k) (hT' k hk) (hT k hk) hq.2.1 (by rw [a2]; exact b2) hq.2.2 (by rw [a3]; exact b3) hN
    have hri : ¬ (nI k < 0 ∨ 30 ≤ (nI k).toNatClampNeg) := nI_in hk (by omega)
    have hri2 : ¬ (nI k < 0 ∨ 30 ≤ k) := fun z => by
      rcases z with z | z
      · exact nI_pos (by omega) z
      · omega
    rw [if_neg (show ¬ (30 : Int32) ≤ nI k from nI_ge (a := k) (b := 30) (by omega) (by omega)), nI_add, if_neg (nI_in (by omega) (by omega)), if_neg hri, nI_clamp (by omega), nI_clamp (by omega), hsame, Option.bind_some, Option.bind_some, nI_1, if_neg hri2, if_neg hri2]
    have step : ∀ v2', mk (difk T T' (k + 1)) v2' → ∃ fw' fn' ff' m, mX3_drop_26 N qw qn qf n ol fd (va_up fw k (qw (30 * i + k))) (va_up fn k (qn (30 * i + k))) (va_up ff k (qf (30 * i + k))) va (nI (30 * i)) v2' (nI (k + 1)) = ((mX3_findAnew N fw' fn' ff' fd va m).bind fun x5 => ((mJ6_bitCount_0f7a4 N m).bind fun x8 => some (0, x8, ol, x5.2.1, fw', fn', ff', x5.2.2))) ∧ rD T' fw' fn' ff' ∧ mk (dif T T') m := fun v2' hv => by
      refine d_drop_l hT hT' hi hD hQ hN ol fd va d (k + 1) n _ _ _ v2' (by omega) (by omega) (fun j hj => ?_) (fun j hj hj2 => ?_) hv
      · rcases Nat.lt_or_ge j k with z | z
        · rw [up_n (by omega), up_n (by omega), up_n (by omega)]; exact h3 j z
        · have : j = k := by omega
          subst this
          rw [up_s, up_s, up_s]; exact ⟨rfl, rfl, rfl⟩
      · rw [up_n (by omega), up_n (by omega), up_n (by omega)]; exact h4 j (by omega) hj2
    by_cases e : T' k = T k
    · rw [decide_eq_true e, if_neg bI_nt]
      refine step v2 (mk_ext h5 (fun j hj => ?_))
      unfold difk
      rcases Nat.lt_trichotomy j k with z | z | z
      · rw [decide_eq_true z, decide_eq_true (by omega)]
      · subst z
        have : dif T T' j = false := decide_eq_false (fun z => z e)
        rw [this]; simp
      · rw [decide_eq_false (by omega), decide_eq_false (by omega)]
    · rw [decide_eq_false e, if_pos bI_f]
      refine step _ (mk_ext (mk_or h5 (mk_only hk)) (fun j hj => ?_))
      unfold difk
      rcases Nat.lt_trichotomy j k with z | z | z
      · rw [decide_eq_true z, decide_eq_true (by omega)]
        have : (j == k) = false := by simp; omega
        rw [this]; simp
      · subst z
        have : dif T T' j = true := decide_eq_true e
        rw [this]; simp
      · rw [decide_eq_false (by omega), decide_eq_false (by omega)]
        have : (j == k) = false := by simp; omega
        rw [this]; rfl
section RDROP
variable {T T' : Nat → List Nat} {i : Nat} {fm sz om os : Nat → Int32}
theorem q_drop_1 (hT : okS T) (hT' : okS T') (hi : i < 4) (hR : rR T fm sz) (hQ : rR T' (fun x => om (450 * i + x)) (lay i os)) (hN : 31 ≤ N) (th fo : Int32) : ∀ (d k n : Nat) (v1 : Int32), k + d = 30 → d < n → mk (difk T T' k) v1 → ∃ m, mX4_drop_37 N om os n th (nI i) fo fm sz v1 (nI (fb_ct (dif T T') k)) (nI k) = mX4_drop_68 N om os N th (nI i) fo fm sz m (nI (fb_ct (dif T T') 30)) 0 ∧ mk (dif T T') m
  | _, _, 0, _, _, h, _ => absurd h (Nat.not_lt_zero _)
  | 0, k, n + 1, v1, h1, h2, h5 => by
    have : k = 30 := by omega
    subst this
    simp only [mX4_drop_37, mX4_drop_37_b]
    rw [if_pos (by decide)]
    exact ⟨v1, rfl, mk_ext h5 (fun j hj => by simp [difk, hj])⟩
  | d + 1, k, n + 1, v1, h1, h2, h5 => by
    have hk : k < 30 := by omega
    have hq := hQ k hk
    unfold lay at hq
    have hoth := q_oth (N := N) (i := i) (c := k) (fm := fm) (sz := sz) (om := om) (os := os) hi hk (hT k hk) (hT' k hk) (hR k hk).1 hq.1 (hR k hk).2 hq.2 hN
    simp only [mX4_drop_37, mX4_drop_37_b, mX4_drop_60]
    rw [if_neg (show ¬ (30 : Int32) ≤ nI k from nI_ge (a := k) (b := 30) (by omega) (by omega)), hoth, Option.bind_some, nI_1 k]
    have ih := q_drop_1 hT hT' hi hR hQ hN th fo d (k + 1) n
    by_cases e : T' k = T k
    · have e2 : dif T T' k = false := decide_eq_false (fun z => z e)
      rw [fb_ct_succ, e2] at ih
      rw [decide_eq_false (fun z => z e), if_pos bI_f]
      refine ih v1 (by omega) (by omega) (mk_ext h5 (fun j hj => ?_))
      unfold difk
      rcases Nat.lt_trichotomy j k with z | z | z
      · rw [decide_eq_true z, decide_eq_true (by omega)]
      · subst z
        rw [e2]; simp
      · rw [decide_eq_false (by omega), decide_eq_false (by omega)]
    · have e2 : dif T T' k = true := decide_eq_true e
      rw [fb_ct_succ, e2] at ih
      rw [decide_eq_true e, if_neg bI_nt, nI_1]
      refine ih _ (by omega) (by omega) (mk_ext (mk_or h5 (mk_only hk)) (fun j hj => ?_))
      unfold difk
      rcases Nat.lt_trichotomy j k with z | z | z
      · rw [decide_eq_true z, decide_eq_true (by omega)]
        have : (j == k) = false := by simp; omega
        rw [this]; simp
      · subst z
        rw [e2]; simp
      · rw [decide_eq_false (by omega), decide_eq_false (by omega)]
        have : (j == k) = false := by simp; omega
        rw [this]; rfl
theorem q_drop_3 (hi : i < 4) (th fo v1 v2 : Int32) (fm' : Nat → Int32) : ∀ (d k n : Nat) (sz' : Nat → Int32), k + d = 30 → d < n → (∀ j, j < k → sz' j = os (30 * i + j)) → ∃ sz2, mX4_drop_104 N om os n th (nI i) fo fm' sz' v1 v2 (nI k) = ((mX4_anew N fm' sz2 v1).bind fun x1 => some (v2, th, nI i, (fo + x1), fm', sz2)) ∧ ∀ j, j < 30 → sz2 j = os (30 * i + j)
  | _, _, 0, _, _, h, _ => absurd h (Nat.not_lt_zero _)
  | 0, k, n + 1, sz', h1, h2, h3 => by
    have : k = 30 := by omega
    subst this
    simp only [mX4_drop_104, mX4_drop_104_b]
    rw [if_pos (by decide)]
    exact ⟨sz', rfl, h3⟩
  | d + 1, k, n + 1, sz', h1, h2, h3 => by
    have hk : k < 30 := by omega
    simp only [mX4_drop_104, mX4_drop_104_b]
    rw [if_neg (show ¬ (30 : Int32) ≤ nI k from nI_ge (a := k) (b := 30) (by omega) (by omega)), c_30, pk_mul, nI_add, if_neg (nI_in (by omega) (by omega)), if_neg (nI_in hk (by omega)), nI_clamp (by omega), nI_clamp (by omega), nI_1]
    exact q_drop_3 hi th fo v1 v2 fm' d (k + 1) n _ (by omega) (by omega) (fun j hj => by
      rcases Nat.lt_or_ge j k with z | z
      · rw [pk_un (by omega)]; exact h3 j z
      · have : j = k := by omega
        subst this; exact pk_us)
theorem q_drop_2 (hi : i < 4) (hN : 500 ≤ N) (th fo v1 v2 : Int32) (sz : Nat → Int32) : ∀ (d k n : Nat) (fm' : Nat → Int32), k + d = 450 → d < n → (∀ j, j < k → fm' j = om (450 * i + j)) → ∃ fm2 sz2, mX4_drop_68 N om os n th (nI i) fo fm' sz v1 v2 (nI k) = ((mX4_anew N fm2 sz2 v1).bind fun x1 => some (v2, th, nI i, (fo + x1), fm2, sz2)) ∧ (∀ j, j < 450 → fm2 j = om (450 * i + j)) ∧ ∀ j, j < 30 → sz2 j = os (30 * i + j)
  | _, _, 0, _, _, h, _ => absurd h (Nat.not_lt_zero _)
  | 0, k, n + 1, fm', h1, h2, h3 => by
    have : k = 450 := by omega
    subst this
    simp only [mX4_drop_68, mX4_drop_68_b]
    rw [if_pos (by decide)]
    obtain ⟨sz2, e, g⟩ := q_drop_3 (N := N) (om := om) (os := os) hi th fo v1 v2 fm' 30 0 N sz rfl (by omega) (fun _ z => absurd z (Nat.not_lt_zero _))
    exact ⟨fm', sz2, e, h3, g⟩
  | d + 1, k, n + 1, fm', h1, h2, h3 => by
    have hk : k < 450 := by omega
    simp only [mX4_drop_68, mX4_drop_68_b]
    rw [if_neg (show ¬ (450 : Int32) ≤ nI k from nI_ge (a := k) (b := 450) (by omega) (by omega)), show (450 : Int32) = nI 450 from rfl, pk_mul, nI_add, if_neg (nI_in (by omega) (by omega)), if_neg (nI_in hk (by omega)), nI_clamp (by omega), nI_clamp (by omega), nI_1]
    exact q_drop_2 hi hN th fo v1 v2 sz d (k + 1) n _ (by omega) (by omega) (fun j hj => by
      rcases Nat.lt_or_ge j k with z | z
      · rw [pk_un (by omega)]; exact h3 j z
      · have : j = k := by omega
        subst this; exact pk_us)
end RDROP
theorem c_drop {T : Nat → List Nat} {fw : Nat → Int32} {fn : Nat → Nat} {ff : Nat → Nat → Int32} {va : Nat → Int64} {fm sz : Nat → Int32} {Q : Nat → Nat → List Nat} {L : Nat} {ol la : Int32} {qw : Nat → Int32} {qn : Nat → Nat} {qf : Nat → Nat → Int32} {om os : Nat → Int32} (h : dLY Q L ol qw qn qf la om os) (hs : dSH T fw fn ff va fm sz) (hN : 500 ≤ N) (fd th : Int32) : ∃ (code : Nat) (r r' : Int32) (T' : Nat → List Nat) (L' : Nat) (ol' la' fd' : Int32) (fw' : Nat → Int32) (fn' : Nat → Nat) (ff' : Nat → Nat → Int32) (va' : Nat → Int64) (fm' sz' : Nat → Int32) (k : Nat), mX3_drop N qw qn qf ol fd fw fn ff va = some (code, r, ol', fd', fw', fn', ff', va') ∧ mX4_drop N om os th la fd fm sz = some (r', nI k, la', fd', fm', sz') ∧ dLY Q L' ol' qw qn qf la' om os ∧ dSH T' fw' fn' ff' va' fm' sz' ∧ (code = 0 ∧ k = 0 ∧ r = r' ∨ code = 3 ∧ k = 1) := by
  have h0 := h
  obtain ⟨h4, h1, h2, h3⟩ := h
  subst h1 h2
  unfold mX3_drop mX3_requireLayer mX4_drop mX4_drop_13
  rcases Nat.eq_zero_or_pos L with z | z
  · subst z
    rw [if_neg (show ¬ 0 < nI 0 by decide), Option.bind_some, if_neg (show ¬ (3 : Nat) = 0 by decide), if_pos (show nI 0 = 0 from rfl), r_holds, Option.bind_some, if_pos (show (bI (decide ((1 : Int32) = 0)), (1 : Int32)).1 = 0 by decide)]
    exact ⟨3, _, _, T, 0, _, _, _, _, _, _, _, _, _, 1, rfl, rfl, h0, hs, .inr ⟨rfl, rfl⟩⟩
  · obtain ⟨i, rfl⟩ : ∃ y, L = y + 1 := ⟨L - 1, by omega⟩
    obtain ⟨g1, g2, g3, g4⟩ := h3 i (by omega)
    obtain ⟨s1, s2, s3, s4, s5⟩ := hs
    have hi : i < 4 := by omega
    rw [if_pos (show 0 < nI (i + 1) from nI_lt (a := 0) (by omega) (by omega)), Option.bind_some, if_pos rfl, if_neg (nI_ne0 z (by omega)), r_holds, Option.bind_some, if_neg (show ¬ (bI (decide ((0 : Int32) = 0)), (0 : Int32)).1 = 0 by decide), nI_pred, c_30, pk_mul, Nat.mul_comm i 30]
    obtain ⟨fw', fn', ff', m, e1, e2, e3⟩ := d_drop_l (N := N) (okSF_S s1) (okSF_S g1) hi s3 g3 (by omega) (nI i) fd va 30 0 N fw fn ff 0 rfl (by omega) (fun _ z => absurd z (Nat.not_lt_zero _)) (fun _ _ _ => ⟨rfl, rfl, rfl⟩) (mk_ext mk_0 (fun j _ => by simp [difk]))
    obtain ⟨va', e4, e5⟩ := s_find (N := N) (fw := fw') (fn := fn') (ff := ff') s1 s2 g1 g2 e2 (by omega) s5 e3 (fun c hc y => by
      have := of_decide_eq_false y
      exact Classical.byContradiction this) fd
    obtain ⟨m', k1, k2⟩ := q_drop_1 (okSF_S s1) (okSF_S g1) hi s4 g4 (N := N) (by omega) 0 fd 30 0 N 0 rfl (by omega) (mk_ext mk_0 (fun j _ => by simp [difk]))
    obtain ⟨fm2, sz2, k3, k4, k5⟩ := q_drop_2 (N := N) (om := om) (os := os) hi hN 0 fd m' (nI (fb_ct (dif T (Q i)) 30)) sz 450 0 N fm rfl (by omega) (fun _ z => absurd z (Nat.not_lt_zero _))
    have hR' : rR (Q i) fm2 sz2 := fun k hk => by
      have h15 := (g1 k hk).1.1
      have := g4 k hk
      unfold lay at this
      refine ⟨by rw [k5 k hk]; exact this.1, fun x hx => ?_⟩
      rw [k4 (15 * k + x) (by omega)]
      exact this.2 x hx
    have k6 := r_anew (okSF_S g1) hR' (N := N) (by omega) k2
    have e1' : mX3_drop_26 N qw qn qf N (nI i) fd fw fn ff va (nI (30 * i)) 0 0 = _ := e1
    have k1' : mX4_drop_37 N om os N 0 (nI i) fd fm sz 0 0 0 = _ := k1
    have k3' : mX4_drop_68 N om os N 0 (nI i) fd fm sz m' (nI (fb_ct (dif T (Q i)) 30)) 0 = _ := k3
    dsimp only
    rw [e1', e4, Option.bind_some, mk_count e3, Option.bind_some, k1', k3', k6, Option.bind_some]
    exact ⟨0, _, _, Q i, i, _, _, _, _, _, _, _, _, _, 0, rfl, rfl, ⟨by omega, rfl, rfl, fun j hj => h3 j (by omega)⟩, ⟨g1, g2, e2, hR', e5⟩, .inl ⟨rfl, rfl, rfl⟩⟩
end DROP
