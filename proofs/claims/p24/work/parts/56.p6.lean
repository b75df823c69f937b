/-! the landed class's reckoner gives the value of a formula -/
theorem dr_cons {l : List Nat} {i c : Nat} {r : List Nat} (h : l.drop i = c :: r) : i < l.length ∧ tk l i = c ∧ l.drop (i + 1) = r := by
  have hi : i < l.length := by
    rcases Nat.lt_or_ge i l.length with z | z
    · exact z
    · rw [List.drop_eq_nil_of_le z] at h; exact nomatch h
  rw [List.drop_eq_getElem_cons hi] at h
  injection h with h1 h2
  refine ⟨hi, ?_, h2⟩
  unfold tk
  rw [List.getD_eq_getElem?_getD, List.getElem?_eq_getElem hi]; exact h1
theorem dr_nil {l : List Nat} {i : Nat} (h : l.drop i = []) : l.length ≤ i := List.drop_eq_nil_iff.mp h
section DEV
variable {N : Nat} {n : Nat} {f : Nat → Int32} {va : Nat → Int64} {V : Nat → Option Int} {l0 : List Nat}
theorem dv_169 {rs : Int32 → Int32 → Option (Int64 × Int32)} {v : Option Int} (hv : okV v) (b : Bool) (ax : Int32) : mX2_factor_169 N rs n f va ax (bI b) (eL v) = some (eL (if b then neg v else v), ax) := by
  unfold mX2_factor_169 mX2_factor_188 mX2_factor_190
  cases b with
  | false => rw [if_pos bI_f]; rfl
  | true =>
    rw [if_neg (by decide)]
    cases v with
    | none =>
      show (if lg_cmp (-9223372036854775808) (-9223372036854775808) = 0 then _ else _) = _
      rw [if_pos cm_FF]; rfl
    | some z =>
      show (if lg_cmp (LL z) (-9223372036854775808) = 0 then _ else _) = _
      rw [if_neg (cm_F (bd_sm (hv z rfl)))]
      show some (-(LL z), ax) = some (LL (-z), ax)
      rw [L_neg]
theorem nI_neq {a b : Nat} (ha : a < 2 ^ 31) (hb : b < 2 ^ 31) (h : a ≠ b) : ¬ nI a = nI b := fun z => h ((nI_eq ha hb).mp z)
theorem dv (hn : l0.length = n) (hl : okT l0) (hf : ∀ i, i < n → f i = nI (tk l0 i)) (hV : ∀ j, j < 30 → okV (V j)) (hva : ∀ j, j < 30 → nm l0 j = true → va j = eL (V j)) (hN : 31 ≤ N) : ∀ (k : Nat),
    (∀ K i d nf b a v r, prs V k 0 a (l0.drop i) = some (v, r) → i ≤ n → d ≤ i → 16 ≤ K + i → n - i + 1 ≤ nf → ∃ i', i < i' ∧ i' ≤ n ∧ r = l0.drop i' ∧ mX2_factor_2 N (mX2_sum N K n f va) n f va nf (nI i) (nI d) (bI b) = some (eL (if b then neg v else v), nI i')) ∧
    (∀ K i d a v r, prs V k 1 a (l0.drop i) = some (v, r) → i ≤ n → d ≤ i → 16 ≤ K + i → ∃ i', i < i' ∧ i' ≤ n ∧ r = l0.drop i' ∧ mX2_product N (mX2_sum N K n f va) n f va (nI i) (nI d) = some (eL v, nI i')) ∧
    (∀ K i d nf a v r, prs V k 2 a (l0.drop i) = some (v, r) → okV a → i ≤ n → d ≤ i → 16 ≤ K + i → n - i + 1 ≤ nf → ∃ i', i ≤ i' ∧ i' ≤ n ∧ r = l0.drop i' ∧ mX2_product_6 N (mX2_sum N K n f va) n f va nf (nI i) (nI d) (eL a) = some (eL v, nI i')) ∧
    (∀ K i d a v r, prs V k 3 a (l0.drop i) = some (v, r) → i ≤ n → d ≤ i → 16 ≤ K + i → ∃ i', i < i' ∧ i' ≤ n ∧ r = l0.drop i' ∧ mX2_sum N (K + 1) n f va (nI i) (nI d) = some (eL v, nI i')) ∧
    (∀ K i d nf a v r, prs V k 4 a (l0.drop i) = some (v, r) → okV a → i ≤ n → d ≤ i → 16 ≤ K + i → n - i + 1 ≤ nf → ∃ i', i ≤ i' ∧ i' ≤ n ∧ r = l0.drop i' ∧ mX2_sum_6 N (mX2_sum N K n f va) n f va nf (nI i) (nI d) (eL a) = some (eL v, nI i'))
  | 0 => ⟨fun _ _ _ _ _ _ _ _ h => (nomatch h), fun _ _ _ _ _ _ h => (nomatch h), fun _ _ _ _ _ _ _ h => (nomatch h), fun _ _ _ _ _ _ h => (nomatch h), fun _ _ _ _ _ _ _ h => (nomatch h)⟩
  | k + 1 => by
    obtain ⟨i0, i1, i2, i3, i4⟩ := dv hn hl hf hV hva hN k
    have h15 : n ≤ 15 := by have := hl.1; omega
    have hmem : ∀ i c, c ∈ l0.drop i → c < 1000036 := fun i c hc => by
      obtain ⟨j, hj, e⟩ := tk_mem (List.mem_of_mem_drop hc)
      rw [← e]; exact hl.2 j hj
    have ok : ∀ m a i q, okV a → prs V k m a (l0.drop i) = some q → okV q.1 := fun m a i q ha e => prs_ok V hV k m a _ ha (hmem i) q e
    have no : okV none := fun _ z => nomatch z
    refine ⟨?_, ?_, ?_, ?_, ?_⟩
    · intro K i d nf b a v r h hi hd hK hnf
      obtain ⟨nf, rfl⟩ : ∃ y, nf = y + 1 := ⟨nf - 1, by omega⟩
      rw [prs_0] at h
      cases e : l0.drop i with
      | nil => rw [e] at h; exact nomatch h
      | cons c r0 =>
        obtain ⟨hin, hc, hr0⟩ := dr_cons e
        have hc6 := hl.2 i hin
        rw [hc] at hc6
        rw [e] at h
        simp only at h
        simp only [mX2_factor_2, mX2_factor_2_b, mX2_factor_36]
        rw [if_neg (nI_ge (by omega) (by omega)), if_neg (nI_in (by omega) (by omega)), nI_clamp (by omega), hf i (by omega), hc, nI_1, c_1]
        by_cases c1 : c = 1
        · rw [if_pos c1] at h
          rw [if_pos (by rw [c1])]
          rw [← hr0] at h
          cases e2 : prs V k 0 none (l0.drop (i + 1)) with
          | none => rw [e2] at h; exact nomatch h
          | some q =>
            rw [e2, Option.bind_some] at h
            injection h with h
            injection h with h1 h2
            obtain ⟨i', g1, g2, g3, g4⟩ := i0 K (i + 1) d nf (!b) none q.1 q.2 e2 (by omega) (by omega) (by omega) (by omega)
            refine ⟨i', by omega, g2, by rw [← h2, g3], ?_⟩
            have hx : (if b then neg v else v) = (if !b then neg q.1 else q.1) := by
              subst h1
              cases b with
              | false => rfl
              | true =>
                show neg (neg q.1) = q.1
                cases q.1 with
                | none => rfl
                | some z => show some (- -z) = some z; rw [Int.neg_neg]
            rw [hx]
            cases b with
            | false => rw [if_pos bI_f]; exact g4
            | true => rw [if_neg (by decide)]; exact g4
        · rw [if_neg c1] at h
          rw [if_neg (nI_neq (by omega) (by omega) c1)]
          unfold mX2_factor_50 mX2_factor_145
          rw [if_neg (nI_ge (by omega) (by omega)), if_pos (by rw [c_15]; exact nI_le (by omega) (by omega)), if_neg (nI_in (by omega) (by omega)), nI_clamp (by omega), hf i (by omega), hc, nI_1, nI_1]
          by_cases c4 : c = 4
          · rw [if_pos c4] at h
            have k36 : nI c < (36 : Int32) := nI_lt (a := c) (b := 36) (by omega) (by omega)
            have k6 : nI c < (6 : Int32) := nI_lt (a := c) (b := 6) (by omega) (by omega)
            rw [if_pos k36, if_pos k6, if_pos (show nI c = 4 by rw [c4]; rfl)]
            rw [← hr0] at h
            cases e2 : prs V k 3 none (l0.drop (i + 1)) with
            | none => rw [e2] at h; exact nomatch h
            | some q =>
              rw [e2, Option.bind_some] at h
              obtain ⟨K', rfl⟩ : ∃ y, K = y + 1 := ⟨K - 1, by omega⟩
              obtain ⟨i', g1, g2, g3, g4⟩ := i3 K' (i + 1) (d + 1) none q.1 q.2 e2 (by omega) (by omega) (by omega)
              rw [g4, Option.bind_some]
              rw [g3] at h
              cases e5 : l0.drop i' with
              | nil => rw [e5] at h; exact nomatch h
              | cons c2 r2 =>
                rw [e5] at h
                simp only at h
                obtain ⟨hin2, hc2, hr2⟩ := dr_cons e5
                by_cases c5 : c2 = 5
                · rw [if_pos c5] at h
                  injection h with h
                  injection h with h1 h2
                  refine ⟨i' + 1, by omega, by omega, by rw [← h2, hr2], ?_⟩
                  show mX2_factor_169 N _ n f va (nI i' + 1) (bI b) (eL q.1) = _
                  rw [nI_1, dv_169 (ok 3 none (i + 1) q no e2), h1]
                · rw [if_neg c5] at h; exact nomatch h
          · rw [if_neg c4] at h
            by_cases c6 : c < 6
            · rw [if_pos c6] at h; exact nomatch h
            · rw [if_neg c6] at h
              injection h with h
              injection h with h1 h2
              refine ⟨i + 1, by omega, by omega, by rw [← h2, hr0], ?_⟩
              by_cases c36 : c < 36
              · rw [if_pos c36] at h1
                have k36 : nI c < (36 : Int32) := nI_lt (a := c) (b := 36) (by omega) (by omega)
                have k6 : ¬ nI c < (6 : Int32) := nI_nlt (a := c) (b := 6) (by omega) (by omega)
                have k30 : ¬ (30 : Int32) ≤ nI (c - 6) := nI_ge (a := c - 6) (b := 30) (by omega) (by omega)
                rw [if_pos k36, if_neg k6, show (6 : Int32) = nI 6 from rfl, pk_sub (by omega), if_neg k30, if_neg (nI_in (by omega) (by omega)), nI_clamp (by omega), hva (c - 6) (by omega) (nmk_iff.mpr ⟨i, by omega, by omega⟩), dv_169 (hV (c - 6) (by omega)), h1]
              · rw [if_neg c36] at h1
                have k36 : ¬ nI c < (36 : Int32) := nI_nlt (a := c) (b := 36) (by omega) (by omega)
                rw [if_neg k36, show (36 : Int32) = nI 36 from rfl, pk_sub (by omega), nI_l (by omega)]
                have hov : okV (some ((c - 36 : Nat) : Int)) := fun z hz => by
                  injection hz with hz
                  subst hz
                  unfold bd; omega
                have el : lN (c - 36) = eL (some ((c - 36 : Nat) : Int)) := rfl
                rw [el, dv_169 hov, h1]
    · intro K i d a v r h hi hd hK
      rw [prs_1] at h
      cases e : prs V k 0 none (l0.drop i) with
      | none => rw [e] at h; exact nomatch h
      | some q =>
        rw [e, Option.bind_some] at h
        obtain ⟨i', g1, g2, g3, g4⟩ := i0 K i d N false none q.1 q.2 e hi hd hK (by omega)
        have okq := ok 0 none i q no e
        rw [g3] at h
        obtain ⟨i2', k1, k2, k3, k4⟩ := i2 K i' d N q.1 v r h okq g2 (by omega) (by omega) (by omega)
        refine ⟨i2', by omega, k2, k3, ?_⟩
        unfold mX2_product mX2_factor
        have g4' : mX2_factor_2 N (mX2_sum N K n f va) n f va N (nI i) (nI d) 0 = some (eL q.1, nI i') := g4
        rw [g4', Option.bind_some]
        exact k4
    · intro K i d nf a v r h ha hi hd hK hnf
      obtain ⟨nf, rfl⟩ : ∃ y, nf = y + 1 := ⟨nf - 1, by omega⟩
      rw [prs_2] at h
      cases e : l0.drop i with
      | nil =>
        rw [e] at h
        injection h with h
        injection h with h1 h2
        have hz := dr_nil e
        refine ⟨i, Nat.le_refl _, hi, by rw [e, h2], ?_⟩
        simp only [mX2_product_6, mX2_product_6_b, mX2_product_80]
        rw [if_pos (nI_le (by omega) (by omega)), h1]
      | cons c r0 =>
        obtain ⟨hin, hc, hr0⟩ := dr_cons e
        have hc6 := hl.2 i hin
        rw [hc] at hc6
        rw [e] at h
        simp only at h
        simp only [mX2_product_6, mX2_product_6_b, mX2_product_80, mX2_product_44]
        have hri := nI_in (c := i) (N := n) (by omega) (by omega)
        rw [if_neg (nI_ge (by omega) (by omega)), if_neg hri, if_neg hri, if_neg hri, nI_clamp (by omega), hf i (by omega), hc, nI_1]
        have e2 : nI c = (2 : Int32) ↔ c = 2 := nI_eq (a := c) (b := 2) (by omega) (by omega)
        have e3 : nI c = (3 : Int32) ↔ c = 3 := nI_eq (a := c) (b := 3) (by omega) (by omega)
        by_cases hc23 : c = 2 ∨ c = 3
        · rw [if_pos hc23] at h
          rw [← hr0] at h
          cases e4 : prs V k 0 none (l0.drop (i + 1)) with
          | none => rw [e4] at h; exact nomatch h
          | some q =>
            rw [e4, Option.bind_some] at h
            obtain ⟨i', g1, g2, g3, g4⟩ := i0 K (i + 1) d N false none q.1 q.2 e4 (by omega) (by omega) (by omega) (by omega)
            have okq := ok 0 none (i + 1) q no e4
            rw [g3] at h
            obtain ⟨i2', k1, k2, k3, k4⟩ := i2 K i' d nf (comb c a q.1) v r h (comb_ok _ _ _) g2 (by omega) (by omega) (by omega)
            refine ⟨i2', by omega, k2, k3, ?_⟩
            have g4' : mX2_factor N (mX2_sum N K n f va) n f va (nI (i + 1)) (nI d) = some (eL q.1, nI i') := g4
            have hcb := cb (c := c) N (by omega) ha okq
            rw [g4', Option.bind_some]
            simp only [hcb, Option.bind_some]
            rcases hc23 with z | z
            · rw [if_pos (e2.mpr z)]; exact k4
            · rw [if_neg (fun y => by have := e2.mp y; omega), if_pos (e3.mpr z)]; exact k4
        · rw [if_neg hc23] at h
          injection h with h
          injection h with h1 h2
          refine ⟨i, Nat.le_refl _, hi, by rw [e, h2], ?_⟩
          rw [if_neg (fun y => hc23 (.inl (e2.mp y))), if_neg (fun y => hc23 (.inr (e3.mp y))), h1]
    · intro K i d a v r h hi hd hK
      rw [prs_3] at h
      cases e : prs V k 1 none (l0.drop i) with
      | none => rw [e] at h; exact nomatch h
      | some q =>
        rw [e, Option.bind_some] at h
        obtain ⟨i', g1, g2, g3, g4⟩ := i1 K i d none q.1 q.2 e hi hd hK
        have okq := ok 1 none i q no e
        rw [g3] at h
        obtain ⟨i2', k1, k2, k3, k4⟩ := i4 K i' d N q.1 v r h okq g2 (by omega) (by omega) (by omega)
        refine ⟨i2', by omega, k2, k3, ?_⟩
        show mX2_sum_B N (mX2_sum N K n f va) n f va (nI i) (nI d) = _
        unfold mX2_sum_B
        rw [g4, Option.bind_some]
        exact k4
    · intro K i d nf a v r h ha hi hd hK hnf
      obtain ⟨nf, rfl⟩ : ∃ y, nf = y + 1 := ⟨nf - 1, by omega⟩
      rw [prs_4] at h
      cases e : l0.drop i with
      | nil =>
        rw [e] at h
        injection h with h
        injection h with h1 h2
        have hz := dr_nil e
        refine ⟨i, Nat.le_refl _, hi, by rw [e, h2], ?_⟩
        simp only [mX2_sum_6, mX2_sum_6_b, mX2_sum_79]
        rw [if_pos (nI_le (by omega) (by omega)), h1]
      | cons c r0 =>
        obtain ⟨hin, hc, hr0⟩ := dr_cons e
        have hc6 := hl.2 i hin
        rw [hc] at hc6
        rw [e] at h
        simp only at h
        simp only [mX2_sum_6, mX2_sum_6_b, mX2_sum_79, mX2_sum_43]
        have hri := nI_in (c := i) (N := n) (by omega) (by omega)
        rw [if_neg (nI_ge (by omega) (by omega)), if_neg hri, if_neg hri, if_neg hri, nI_clamp (by omega), hf i (by omega), hc, nI_1]
        have e2 : nI c = (0 : Int32) ↔ c = 0 := nI_eq (a := c) (b := 0) (by omega) (by omega)
        have e3 : nI c = (1 : Int32) ↔ c = 1 := nI_eq (a := c) (b := 1) (by omega) (by omega)
        by_cases hc23 : c = 0 ∨ c = 1
        · rw [if_pos hc23] at h
          rw [← hr0] at h
          cases e4 : prs V k 1 none (l0.drop (i + 1)) with
          | none => rw [e4] at h; exact nomatch h
          | some q =>
            rw [e4, Option.bind_some] at h
            obtain ⟨i', g1, g2, g3, g4⟩ := i1 K (i + 1) d none q.1 q.2 e4 (by omega) (by omega) (by omega)
            have okq := ok 1 none (i + 1) q no e4
            rw [g3] at h
            obtain ⟨i2', k1, k2, k3, k4⟩ := i4 K i' d nf (comb c a q.1) v r h (comb_ok _ _ _) g2 (by omega) (by omega) (by omega)
            refine ⟨i2', by omega, k2, k3, ?_⟩
            have hcb := cb (c := c) N (by omega) ha okq
            rw [g4, Option.bind_some]
            simp only [hcb, Option.bind_some]
            rcases hc23 with z | z
            · rw [if_pos (e2.mpr z)]; exact k4
            · rw [if_neg (fun y => by have := e2.mp y; omega), if_pos (e3.mpr z)]; exact k4
        · rw [if_neg hc23] at h
          injection h with h
          injection h with h1 h2
          refine ⟨i, Nat.le_refl _, hi, by rw [e, h2], ?_⟩
          rw [if_neg (fun y => hc23 (.inl (e2.mp y))), if_neg (fun y => hc23 (.inr (e3.mp y))), h1]
theorem dv_top (hl : okT l0) (hau : aut 0 true l0 = true) (hf : ∀ i, i < l0.length → f i = nI (tk l0 i)) (hV : ∀ j, j < 30 → okV (V j)) (hva : ∀ j, j < 30 → nm l0 j = true → va j = eL (V j)) (hN : 31 ≤ N) : ∃ e : Int32, mX2_sum N 18 l0.length f va 0 0 = some (eL (evF V l0), e) := by
  obtain ⟨i', _, _, _, h⟩ := (dv rfl hl hf hV hva hN 100).2.2.2.1 17 0 0 none (evF V l0) [] (evF_prs V hl hau) (Nat.zero_le _) (Nat.le_refl _) (by omega)
  exact ⟨_, h⟩
end DEV

