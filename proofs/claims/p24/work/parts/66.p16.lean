/-! drop -/
theorem tk_ext {l l' : List Nat} (h : l.length = l'.length) (e : ∀ i, i < l.length → tk l i = tk l' i) : l = l' := by
  refine List.ext_getElem h (fun i h1 h2 => ?_)
  have := e i h1
  unfold tk at this
  rw [List.getD_eq_getElem?_getD, List.getD_eq_getElem?_getD, List.getElem?_eq_getElem h1, List.getElem?_eq_getElem h2] at this
  exact this
section DROP
variable {N : Nat}
theorem s_same_l {w w0 : Int32} {n n0 : Nat} {f f0 : Nat → Int32} {l l' : List Nat} (hl : okT l) (hl' : okT l') (hn : n = l.length) (hn0 : n0 = l'.length) (hf : ∀ i, i < l.length → f i = nI (tk l i)) (hf0 : ∀ i, i < l'.length → f0 i = nI (tk l' i)) (hlen : l.length = l'.length) : ∀ (d k x : Nat), k + d = l.length → d < x → (∀ i, i < k → tk l i = tk l' i) → mX1_sameAs_17 N w n f w0 n0 f0 x (nI k) = some (bI (decide (l = l')))
  | _, _, 0, _, h, _ => absurd h (Nat.not_lt_zero _)
  | 0, k, x + 1, h1, h2, h3 => by
    have h15 := hl.1
    simp only [mX1_sameAs_17, mX1_sameAs_17_b]
    rw [if_pos (nI_le (by omega) (by omega)), decide_eq_true (tk_ext hlen (fun i hi => h3 i (by omega)))]
    rfl
  | d + 1, k, x + 1, h1, h2, h3 => by
    have h15 := hl.1
    have hk : k < l.length := by omega
    have c1 := hl.2 k hk
    have c2 := hl'.2 k (by omega)
    simp only [mX1_sameAs_17, mX1_sameAs_17_b]
    rw [if_neg (nI_ge (by omega) (by omega)), if_neg (nI_in (by omega) (by omega)), if_neg (nI_in (by omega) (by omega)), nI_clamp (by omega), hf k hk, hf0 k (by omega), nI_1]
    by_cases e : tk l k = tk l' k
    · rw [if_pos (by rw [e])]
      refine s_same_l hl hl' hn hn0 hf hf0 hlen d (k + 1) x (by omega) (by omega) (fun i hi => ?_)
      rcases Nat.lt_or_ge i k with z | z
      · exact h3 i z
      · have : i = k := by omega
        subst this; exact e
    · rw [if_neg (nI_neq (by omega) (by omega) e), decide_eq_false (fun z => e (by rw [z]))]
      rfl
theorem s_same {w w0 : Int32} {n n0 : Nat} {f f0 : Nat → Int32} {l l' : List Nat} (hl : okT l) (hl' : okT l') (hn : n = l.length) (hn0 : n0 = l'.length) (hf : ∀ i, i < l.length → f i = nI (tk l i)) (hf0 : ∀ i, i < l'.length → f0 i = nI (tk l' i)) (hN : 31 ≤ N) : mX1_sameAs N w n f w0 n0 f0 = some (bI (decide (l = l'))) := by
  have h15 := hl.1
  have h15' := hl'.1
  unfold mX1_sameAs
  by_cases e : l.length = l'.length
  · rw [if_pos (by rw [hn, hn0, e])]
    exact s_same_l hl hl' hn hn0 hf hf0 e l.length 0 N (by omega) (by omega) (fun _ z => absurd z (Nat.not_lt_zero _))
  · rw [if_neg (nI_neq (by omega) (by omega) (by omega)), decide_eq_false (fun z => e (by rw [z]))]
    rfl
section OTH
variable {i c : Nat} {l l' : List Nat} {fm sz om os : Nat → Int32}
end OTH
/-- the cells that the layer would change -/
def dif (T T' : Nat → List Nat) : Nat → Bool := fun j => decide (¬ T' j = T j)
def difk (T T' : Nat → List Nat) (k : Nat) : Nat → Bool := fun j => decide (j < k) && dif T T' j
theorem d_drop_l {T T' : Nat → List Nat} (hT : okS T) (hT' : okS T') {i : Nat} (hi : i < 4) {fw0 : Nat → Int32} {fn0 : Nat → Nat} {ff0 : Nat → Nat → Int32} (hD : rD T fw0 fn0 ff0) {qw : Nat → Int32} {qn : Nat → Nat} {qf : Nat → Nat → Int32} (hQ : rD T' (lay i qw) (lay i qn) (lay i qf)) (hN : 31 ≤ N) (ol fd : Int32) (va : Nat → Int64) :
    ∀ (d k n : Nat) (fw : Nat → Int32) (fn : Nat → Nat) (ff : Nat → Nat → Int32) (v2 : Int32), k + d = 30 → d < n → (∀ j, j < k → fw j = qw (30 * i + j) ∧ fn j = qn (30 * i + j) ∧ ff j = qf (30 * i + j)) → (∀ j, k ≤ j → j < 30 → fw j = fw0 j ∧ fn j = fn0 j ∧ ff j = ff0 j) → mk (difk T T' k) v2 →
      ∃ fw' fn' ff' m, mX3_drop_26 N qw qn qf n ol fd fw fn ff va (nI (30 * i)) v2 (nI k) = ((mX3_findAnew N fw' fn' ff' fd va m).bind fun x5 => ((mJ6_bitCount_0f7a4 N m).bind fun x8 => some (0, x8, ol, x5.2.1, fw', fn', ff', x5.2.2))) ∧ rD T' fw' fn' ff' ∧ mk (dif T T') m
  | _, _, 0, _, _, _, _, _, h, _, _, _ => absurd h (Nat.not_lt_zero _)
  | 0, k, n + 1, fw, fn, ff, v2, h1, h2, h3, h4, h5 => by
    have : k = 30 := by omega
    subst this
    simp only [mX3_drop_26, mX3_drop_26_b]
    rw [if_pos (by decide)]
    refine ⟨fw, fn, ff, v2, rfl, fun k hk => ?_, mk_ext h5 (fun j hj => by simp [difk, hj])⟩
    obtain ⟨a1, a2, a3⟩ := h3 k hk
    have := hQ k hk
    unfold lay at this
    rw [a1, a2, a3]; exact this
  | d + 1, k, n + 1, fw, fn, ff, v2, h1, h2, h3, h4, h5 => by
    have hk : k < 30 := by omega
    simp only [mX3_drop_26, mX3_drop_26_b, mX3_drop_63, mX3_only]
    have hq := hQ k hk
    unfold lay at hq
    obtain ⟨a1, a2, a3⟩ := h4 k (Nat.le_refl _) hk
    obtain ⟨b1, b2, b3⟩ := hD k hk
    have hsame := s_same (N := N) (w := qw (30 * i + k)) (w0 := fw k) (n := qn (30 * i + k)) (n0 := fn k) (f := qf (30 * i + k)) (f0 := ff k) (hT' k hk) (hT k hk) hq.2.1 (by rw [a2]; exact b2) hq.2.2 (by rw [a3]; exact b3) hN
    have hri : ¬ (nI k < 0 ∨ 30 ≤ (nI k).toNatClampNeg) := nI_in hk (by omega)
    have hri2 : ¬ (nI k < 0 ∨ 30 ≤ k) := fun z => by
      rcases z with z | z
      · exact nI_pos (by omega) z
      · omega
    rw [if_neg (show ¬ (30 : Int32) ≤ nI k from nI_ge (a := k) (b := 30) (by omega) (by omega)), nI_add, if_neg (nI_in (by omega) (by omega)), if_neg hri, nI_clamp (by omega), nI_clamp (by omega), hsame, Option.bind_some, Option.bind_some, nI_1, if_neg hri2, if_neg hri2]
    have step : ∀ v2', mk (difk T T' (k + 1)) v2' → ∃ fw' fn' ff' m, mX3_drop_26 N qw qn qf n ol fd (va_up fw k (qw (30 * i + k))) (va_up fn k (qn (30 * i + k))) (va_up ff k (qf (30 * i + k))) va (nI (30 * i)) v2' (nI (k + 1)) = ((mX3_findAnew N fw' fn' ff' fd va m).bind fun x5 => ((mJ6_bitCount_0f7a4 N m).bind fun x8 => some (0, x8, ol, x5.2.1, fw', fn', ff', x5.2.2))) ∧ rD T' fw' fn' ff' ∧ mk (dif T T') m := fun v2' hv => by
      refine d_drop_l hT hT' hi hD hQ hN ol fd va d (k + 1) n _ _ _ v2' (by omega) (by omega) (fun j hj => ?_) (fun j hj hj2 => ?_) hv
      · rcases Nat.lt_or_ge j k with z | z
        · rw [up_n (by omega), up_n (by omega), up_n (by omega)]; exact h3 j z
        · have : j = k := by omega
          subst this
          rw [up_s, up_s, up_s]; exact ⟨rfl, rfl, rfl⟩
      · rw [up_n (by omega), up_n (by omega), up_n (by omega)]; exact h4 j (by omega) hj2
    by_cases e : T' k = T k
    · rw [decide_eq_true e, if_neg bI_nt]
      refine step v2 (mk_ext h5 (fun j hj => ?_))
      unfold difk
      rcases Nat.lt_trichotomy j k with z | z | z
      · rw [decide_eq_true z, decide_eq_true (by omega)]
      · subst z
        have : dif T T' j = false := decide_eq_false (fun z => z e)
        rw [this]; simp
      · rw [decide_eq_false (by omega), decide_eq_false (by omega)]
    · rw [decide_eq_false e, if_pos bI_f]
      refine step _ (mk_ext (mk_or h5 (mk_only hk)) (fun j hj => ?_))
      unfold difk
      rcases Nat.lt_trichotomy j k with z | z | z
      · rw [decide_eq_true z, decide_eq_true (by omega)]
        have : (j == k) = false := by simp; omega
        rw [this]; simp
      · subst z
        have : dif T T' j = true := decide_eq_true e
        rw [this]; simp
      · rw [decide_eq_false (by omega), decide_eq_false (by omega)]
        have : (j == k) = false := by simp; omega
        rw [this]; rfl
section RDROP
variable {T T' : Nat → List Nat} {i : Nat} {fm sz om os : Nat → Int32}
end RDROP
end DROP

theorem t_drop {N : Nat} {T : Nat → List Nat} {fw : Nat → Int32} {fn : Nat → Nat} {ff : Nat → Nat → Int32} {va : Nat → Int64} {Q : Nat → Nat → List Nat} {i : Nat} {qw : Nat → Int32} {qn : Nat → Nat} {qf : Nat → Nat → Int32} (h : rLY Q (i + 1) (nI (i + 1)) qw qn qf) (hs : rSH T fw fn ff va) (hN : 31 ≤ N) (fd : Int32) : ∃ (fw' : Nat → Int32) (fn' : Nat → Nat) (ff' : Nat → Nat → Int32) (va' : Nat → Int64), mX3_drop N qw qn qf (nI (i + 1)) fd fw fn ff va = some (0, nI (fb_ct (dif T (Q i)) 30), nI i, fd + nI (fb_ct (depB (EE (Q i)) (dif T (Q i))) 30), fw', fn', ff', va') ∧ rSH (Q i) fw' fn' ff' va' ∧ rLY Q i (nI i) qw qn qf := by
  obtain ⟨h4, -, h3⟩ := h
  unfold mX3_drop mX3_requireLayer
  obtain ⟨g1, g2, g3⟩ := h3 i (by omega)
  obtain ⟨s1, s2, s3, s5⟩ := hs
  have hi : i < 4 := by omega
  rw [if_pos (show 0 < nI (i + 1) from nI_lt (a := 0) (by omega) (by omega)), Option.bind_some, if_pos rfl, nI_pred, c_30, pk_mul, Nat.mul_comm i 30]
  obtain ⟨fw', fn', ff', m, e1, e2, e3⟩ := d_drop_l (N := N) (okSF_S s1) (okSF_S g1) hi s3 g3 (by omega) (nI i) fd va 30 0 N fw fn ff 0 rfl (by omega) (fun _ z => absurd z (Nat.not_lt_zero _)) (fun _ _ _ => ⟨rfl, rfl, rfl⟩) (mk_ext mk_0 (fun j _ => by simp [difk]))
  obtain ⟨va', e4, e5⟩ := s_find (N := N) (fw := fw') (fn := fn') (ff := ff') s1 s2 g1 g2 e2 (by omega) s5 e3 (fun c hc y => by
    have := of_decide_eq_false y
    exact Classical.byContradiction this) fd
  have e1' : mX3_drop_26 N qw qn qf N (nI i) fd fw fn ff va (nI (30 * i)) 0 0 = _ := e1
  rw [e1', e4, Option.bind_some, mk_count e3, Option.bind_some]
  exact ⟨fw', fn', ff', va', rfl, ⟨g1, g2, e2, e5⟩, by omega, rfl, fun j hj => h3 j (by omega)⟩
