/-! the reference works out a cell -/
section REF2
variable {N : Nat} {wa : Nat → Int32}
theorem q_jal {least : Nat} (hle : least ≤ 2) : ∀ (W : List Nat) (nf : Nat) (S : List Int) (b : Bool) (sk : Nat → Int64) (W1 : List Nat) (S1 : List Int) (b1 : Bool), jal least W S b = some (W1, S1, b1) → wai W wa → W.length < nf → S.length + W.length ≤ 15 → (b = false → stk S sk) → ∃ sk', mX4_joinsAll_0 N wa nf (nI S.length) (nI W.length) (bI b) sk (nI least) = some (nI S1.length, nI W1.length, bI b1, sk') ∧ (b1 = false → stk S1 sk') ∧ wai W1 wa ∧ S1.length + W1.length ≤ S.length + W.length
  | _, 0, _, _, _, _, _, _, _, _, h, _, _ => absurd h (Nat.not_lt_zero _)
  | [], nf + 1, S, b, sk, W1, S1, b1, h, hw, hn, hs, hk => by
    simp only [jal] at h
    injection h with h
    injection h with h1 h2
    injection h2 with h2 h3
    subst h1 h2 h3
    simp only [mX4_joinsAll_0, mX4_joinsAll_0_b, mX4_joinsAll_46]
    rw [if_pos (by decide)]
    exact ⟨sk, rfl, hk, trivial, Nat.le_refl _⟩
  | c :: W, nf + 1, S, b, sk, W1, S1, b1, h, hw, hn, hs, hk => by
    simp only [jal] at h
    simp only [List.length_cons] at hn hs ⊢
    have hc6 := hw.2.1
    have e4 : nI c = (4 : Int32) ↔ c = 4 := nI_eq (a := c) (b := 4) (by omega) (by omega)
    have hri : ¬ (nI W.length < 0 ∨ 15 ≤ (nI W.length).toNatClampNeg) := nI_in (by omega) (by omega)
    have hdiv : nI c / (2 : Int32) = nI (c / 2) := pk_div (a := c) (d := 2) (by omega) (by omega) (by omega)
    simp only [mX4_joinsAll_0, mX4_joinsAll_0_b, mX4_joinsAll_46]
    rw [if_neg (nI_nle (by omega) (by omega)), nI_pred, if_neg hri, if_neg hri, nI_clamp (by omega), hw.1, hdiv]
    by_cases e : c = 4 ∨ c / 2 < least
    · rw [if_pos e] at h
      injection h with h
      injection h with h1 h2
      injection h2 with h2 h3
      subst h1 h2 h3
      refine ⟨sk, ?_, hk, hw, Nat.le_refl _⟩
      by_cases c4 : c = 4
      · rw [if_pos (e4.mpr c4)]; rfl
      · rw [if_neg (fun z => c4 (e4.mp z)), if_pos (nI_lt (by omega) (by omega))]; rfl
    · rw [if_neg e] at h
      by_cases c4 : 4 < c
      · rw [if_pos c4] at h; exact nomatch h
      · rw [if_neg c4] at h
        cases S with
        | nil => exact nomatch h
        | cons y S =>
          cases S with
          | nil => exact nomatch h
          | cons x S =>
            simp only at h
            simp only [List.length_cons] at hs ⊢
            rw [if_neg (fun z => e (.inl (e4.mp z))), if_neg (nI_nlt (by omega) (by omega))]
            obtain ⟨sk', g1, g2⟩ := q_joins (N := N) (c := c) (b := b) (S := S) (x := x) (y := y) (sk := sk) (by omega) hw (by omega) hk
            have g1' : mX4_joins N wa (nI (S.length + 1 + 1)) (nI (W.length + 1)) (bI b) sk = _ := g1
            rw [g1', Option.bind_some]
            obtain ⟨sk2, k1, k2, k3, k4⟩ := q_jal hle W nf _ _ sk' W1 S1 b1 h hw.2.2 (by omega) (by simp only [List.length_cons]; omega) g2
            refine ⟨sk2, k1, k2, k3, ?_⟩
            simp only [List.length_cons] at k4
            omega
theorem rd_sz {V : Nat → Option Int} {t : Nat} {op : Bool} {W W1 : List Nat} {S S1 : List Int} {b b1 : Bool} {st : Nat → Int32} {va sk : Nat → Int64} (hN : 31 ≤ N) (ht : t < 1000036) (h : rd V t op W S b = some (W1, S1, b1)) (hw : wai W wa) (hs : S.length + W.length ≤ 14) (hk : b = false → stk S sk)
    (hV : 6 ≤ t → t < 36 → (st (t - 6) = 2 ↔ V (t - 6) = none) ∧ ∀ z, V (t - 6) = some z → va (t - 6) = LL z ∧ bd z) :
    ∃ wa' sk', mX4_reads N st va (nI S.length) (nI W.length) (bI b) wa sk (nI (cv t)) (bI op) = some (nI S1.length, nI W1.length, bI b1, wa', sk') ∧ (b1 = false → stk S1 sk') ∧ wai W1 wa' ∧ S1.length + W1.length ≤ S.length + W.length + 1 := by
  unfold rd at h
  unfold mX4_reads mX4_reads_167
  by_cases t6 : t < 6
  · rw [if_pos t6] at h
    have ec : cv t = 2000000 + t := if_pos t6
    have q1 : (1000000 : Int32) ≤ nI (cv t) := nI_le (a := 1000000) (by omega) (by omega)
    have q2 : (2000000 : Int32) ≤ nI (cv t) := nI_le (a := 2000000) (by omega) (by omega)
    have q3 : nI (cv t) - (2000000 : Int32) = nI t := by
      have := pk_sub (a := cv t) (b := 2000000) (by omega)
      rw [show cv t - 2000000 = t by omega] at this
      exact this
    have e5 : nI t = (5 : Int32) ↔ t = 5 := nI_eq (a := t) (b := 5) (by omega) (by omega)
    have e4 : nI t = (4 : Int32) ↔ t = 4 := nI_eq (a := t) (b := 4) (by omega) (by omega)
    have e1 : nI t = (1 : Int32) ↔ t = 1 := nI_eq (a := t) (b := 1) (by omega) (by omega)
    have hdiv : nI t / (2 : Int32) = nI (t / 2) := pk_div (a := t) (d := 2) (by omega) (by omega) (by omega)
    rw [if_pos q1, if_pos q2, q3, hdiv]
    by_cases t5 : t = 5
    · rw [if_pos t5] at h
      rw [if_pos (e5.mpr t5)]
      cases e : jal 0 W S b with
      | none => rw [e] at h; exact nomatch h
      | some q =>
        obtain ⟨Wq, Sq, bq⟩ := q
        rw [e, Option.bind_some] at h
        obtain ⟨sk', g1, g2, g3, g4⟩ := q_jal (N := N) (by omega) W N S b sk Wq Sq bq e hw (by omega) (by omega) hk
        have g1' : mX4_joinsAll N wa (nI S.length) (nI W.length) (bI b) sk 0 = some (nI Sq.length, nI Wq.length, bI bq, sk') := g1
        rw [g1', Option.bind_some]
        cases Wq with
        | nil => exact nomatch h
        | cons c Wq =>
          cases Sq with
          | nil => exact nomatch h
          | cons x Sq =>
            injection h with h
            injection h with h1 h2
            injection h2 with h2 h3
            have h3 : bq = b1 := h3
            subst h1 h2 h3
            simp only [List.length_cons] at g4 ⊢
            rw [nI_pred, nI_pred, if_neg (nI_in (by omega) (by omega)), nI_clamp (by omega)]
            obtain ⟨sk2, k1, k2, k3, k4⟩ := q_pu (N := N) (b := bq) (S := Sq) (W := Wq) (x := x) (p := sk' Sq.length) (sk := sk') hN g3.2.2 (by omega) (fun z => (g2 z).2.2) (fun z => ⟨(g2 z).1, (g2 z).2.1⟩)
            rw [k1, Option.bind_some]
            exact ⟨wa, sk2, rfl, k2, k3, by omega⟩
    · rw [if_neg t5] at h
      rw [if_neg (fun z => t5 (e5.mp z))]
      have fin : ∀ (Wq : List Nat) (Sq : List Int) (bq : Bool) (sk' : Nat → Int64), some ((if t = 1 ∧ op = true then 6 else t) :: Wq, Sq, bq) = some (W1, S1, b1) → (bq = false → stk Sq sk') → wai Wq wa → Sq.length + Wq.length ≤ S.length + W.length → ∃ wa' sk2, mX4_reads_133 N st va (nI Sq.length) (nI Wq.length) (bI bq) wa sk' (bI op) (nI t) = some (nI S1.length, nI W1.length, bI b1, wa', sk2) ∧ (b1 = false → stk S1 sk2) ∧ wai W1 wa' ∧ S1.length + W1.length ≤ S.length + W.length + 1 := by
        intro Wq Sq bq sk' h g2 g3 g4
        injection h with h
        injection h with h1 h2
        injection h2 with h2 h3
        subst h1 h2 h3
        have hri : ¬ (nI Wq.length < 0 ∨ 15 ≤ (nI Wq.length).toNatClampNeg) := nI_in (by omega) (by omega)
        have e156 : ∀ (s2 : Nat), mX4_reads_156 N st va (nI Sq.length) (nI Wq.length) (bI bq) wa sk' (nI Wq.length) (nI s2) = some (nI Sq.length, nI (Wq.length + 1), bI bq, upd wa Wq.length (nI s2), sk') := fun s2 => by
          unfold mX4_reads_156 mX4_reads_167
          rw [if_neg hri, nI_clamp (by omega), nI_1]
        unfold mX4_reads_133 mX4_reads_155
        have e6 : (6 : Int32) = nI 6 := rfl
        rw [e6, e156, e156]
        by_cases hm : t = 1 ∧ op = true
        · rw [if_pos (e1.mpr hm.1), hm.2, if_neg (by decide), if_pos ⟨hm.1, rfl⟩]
          exact ⟨_, sk', rfl, g2, ⟨pk_us, by omega, wai_upd g3 (Nat.le_refl _)⟩, by simp only [List.length_cons]; omega⟩
        · rw [if_neg hm]
          refine ⟨upd wa Wq.length (nI t), sk', ?_, g2, ⟨pk_us, by omega, wai_upd g3 (Nat.le_refl _)⟩, by simp only [List.length_cons]; omega⟩
          by_cases t1 : t = 1
          · have ho : op = false := by
              cases op with
              | false => rfl
              | true => exact absurd ⟨t1, rfl⟩ hm
            rw [if_pos (e1.mpr t1), ho, if_pos (by decide)]
            rfl
          · rw [if_neg (fun z => t1 (e1.mp z))]
            rfl
      by_cases t4 : t = 4
      · rw [if_neg (fun z => z.1 t4), Option.bind_some] at h
        rw [if_pos (e4.mpr t4)]
        exact fin W S b sk h hk hw (Nat.le_refl _)
      · rw [if_neg (fun z => t4 (e4.mp z))]
        cases op with
        | true =>
          rw [if_neg (fun z => absurd z.2 (by decide)), Option.bind_some] at h
          rw [if_neg (by decide)]
          exact fin W S b sk h hk hw (Nat.le_refl _)
        | false =>
          rw [if_pos ⟨t4, rfl⟩] at h
          rw [if_pos (by decide)]
          cases e : jal (t / 2) W S b with
          | none => rw [e] at h; exact nomatch h
          | some q =>
            obtain ⟨Wq, Sq, bq⟩ := q
            rw [e, Option.bind_some] at h
            obtain ⟨sk', g1, g2, g3, g4⟩ := q_jal (N := N) (by omega) W N S b sk Wq Sq bq e hw (by omega) (by omega) hk
            have g1' : mX4_joinsAll N wa (nI S.length) (nI W.length) (bI b) sk (nI (t / 2)) = some (nI Sq.length, nI Wq.length, bI bq, sk') := g1
            rw [g1', Option.bind_some]
            exact fin Wq Sq bq sk' h g2 g3 g4
  · rw [if_neg t6] at h
    injection h with h
    injection h with h1 h2
    injection h2 with h2 h3
    subst h1 h2 h3
    by_cases t36 : t < 36
    · have ec : cv t = 1000000 + (t - 6) := by unfold cv; rw [if_neg t6, if_pos t36]
      have q1 : (1000000 : Int32) ≤ nI (cv t) := nI_le (a := 1000000) (by omega) (by omega)
      have q2 : ¬ (2000000 : Int32) ≤ nI (cv t) := nI_ge (b := 2000000) (by omega) (by omega)
      have q3 : nI (cv t) - (1000000 : Int32) = nI (t - 6) := by
        have := pk_sub (a := cv t) (b := 1000000) (by omega)
        rw [show cv t - 1000000 = t - 6 by omega] at this
        exact this
      have hri : ¬ (nI (t - 6) < 0 ∨ 30 ≤ (nI (t - 6)).toNatClampNeg) := nI_in (by omega) (by omega)
      obtain ⟨hv1, hv2⟩ := hV (by omega) t36
      have etv : tv V t = V (t - 6) := if_pos t36
      rw [if_pos q1, if_neg q2, q3, if_neg hri, nI_clamp (by omega), etv]
      have push : ∀ b2 : Bool, (b2 = (b || (V (t - 6)).isNone)) → ∃ wa' sk', mX4_reads_52 N st va (nI S.length) (nI W.length) (bI b) wa sk (nI (cv t)) (bI b2) = some (nI ((psh W ((V (t - 6)).getD 0)).2 :: S).length, nI (psh W ((V (t - 6)).getD 0)).1.length, bI b2, wa', sk') ∧ (b2 = false → stk ((psh W ((V (t - 6)).getD 0)).2 :: S) sk') ∧ wai (psh W ((V (t - 6)).getD 0)).1 wa' ∧ ((psh W ((V (t - 6)).getD 0)).2 :: S).length + (psh W ((V (t - 6)).getD 0)).1.length ≤ S.length + W.length + 1 := by
        intro b2 hb2
        unfold mX4_reads_52 mX4_reads_167
        rw [if_pos (r_bI01 _), q3, if_neg hri, nI_clamp (by omega)]
        obtain ⟨sk2, k1, k2, k3, k4⟩ := q_pu (N := N) (b := b2) (S := S) (W := W) (x := (V (t - 6)).getD 0) (p := va (t - 6)) (sk := sk) hN hw hs (fun z => hk (by rw [z] at hb2; cases b with
          | false => rfl
          | true => simp at hb2)) (fun z => by
            rw [z] at hb2
            cases e : V (t - 6) with
            | none => rw [e] at hb2; cases b <;> simp at hb2
            | some y => exact hv2 y e)
        rw [k1, Option.bind_some]
        refine ⟨wa, sk2, rfl, k2, k3, ?_⟩
        simp only [List.length_cons]; omega
      unfold mX4_reads_47
      cases b with
      | true =>
        rw [if_neg (by decide)]
        exact push true rfl
      | false =>
        rw [if_pos (by decide)]
        cases e : V (t - 6) with
        | none =>
          rw [if_pos (hv1.mpr e)]
          have := push true (by rw [e]; rfl)
          rw [e] at this
          exact this
        | some y =>
          rw [if_neg (fun z => by rw [hv1.mp z] at e; exact nomatch e)]
          have := push false (by rw [e]; rfl)
          rw [e] at this
          exact this
    · have ec : cv t = t - 36 := by unfold cv; rw [if_neg t6, if_neg t36]
      have q1 : ¬ (1000000 : Int32) ≤ nI (cv t) := nI_ge (b := 1000000) (by omega) (by omega)
      have etv : tv V t = some ((t - 36 : Nat) : Int) := if_neg t36
      rw [if_neg q1, etv, ec, nI_l (by omega)]
      obtain ⟨sk2, k1, k2, k3, k4⟩ := q_pu (N := N) (b := b) (S := S) (W := W) (x := ((t - 36 : Nat) : Int)) (p := lN (t - 36)) (sk := sk) hN hw hs hk (fun _ => ⟨rfl, by unfold bd; omega⟩)
      rw [k1, Option.bind_some]
      refine ⟨wa, sk2, ?_, fun z => k2 (by cases b with
        | false => rfl
        | true => simp at z), k3, ?_⟩
      · cases b <;> rfl
      · simp only [List.length_cons, Option.getD_some]; omega
end REF2
section WORKS
variable {N : Nat} {fm sz : Nat → Int32}
/-- the reference's row of values stands for V where p says so -/
def vR (V : Nat → Option Int) (p : Nat → Bool) (st : Nat → Int32) (va : Nat → Int64) : Prop := ∀ j, j < 30 → p j = true → (st j = 2 ↔ V j = none) ∧ (∀ z, V j = some z → va j = LL z ∧ bd z) ∧ st j ≠ 0
theorem q_works_l {V : Nat → Option Int} {l : List Nat} {c : Nat} {st : Nat → Int32} {va : Nat → Int64} (hN : 31 ≤ N) (hc : c < 30) (hl : okT l) (hsz : sz c = nI l.length) (hfm : ∀ i, i < l.length → fm (15 * c + i) = nI (cv (tk l i))) (hV : vR V (nm l) st va) {x : Int} {bf : Bool} :
    ∀ (d k nf : Nat) (op : Bool) (W : List Nat) (S : List Int) (b : Bool) (wa : Nat → Int32) (sk : Nat → Int64), k + d = l.length → d < nf → (l = [] → W = [] ∧ S = [] ∧ b = false) → (l ≠ [] → rn V (l.drop k) op W S b = some ([], [x], bf)) → wai W wa → S.length + W.length ≤ k → (b = false → stk S sk) →
      ∃ he wt br wa' sk', mX4_works_19 N fm sz nf (nI S.length) (nI W.length) (bI b) st wa va sk (nI c) (bI op) (nI k) = some (he, wt, br, upd st c (if l ≠ [] ∧ bf = true then 2 else 1), wa', vp_updL va c (if l = [] ∨ bf = true then 0 else LL x), sk')
  | _, _, 0, _, _, _, _, _, _, _, h, _, _, _, _, _ => absurd h (Nat.not_lt_zero _)
  | 0, k, nf + 1, op, W, S, b, wa, sk, h1, h2, h0, h3, h4, h5, h6 => by
    have h15 := hl.1
    have hkl : k = l.length := by omega
    subst hkl
    have hci : ¬ (nI c < 0 ∨ 30 ≤ (nI c).toNatClampNeg) := nI_in hc (by omega)
    have hci2 : ¬ (nI c < 0 ∨ 30 ≤ c) := fun z => by
      rcases z with z | z
      · exact nI_pos (by omega) z
      · omega
    simp only [mX4_works_19, mX4_works_19_b, mX4_works_103, mX4_works_113, mX4_works_131]
    rw [if_neg hci, nI_clamp (by omega), hsz, if_pos (nI_le (Nat.le_refl _) (by omega))]
    by_cases hnil : l = []
    · obtain ⟨e1, e2, e3⟩ := h0 hnil
      subst e1 e2 e3
      obtain ⟨sk', g1, g2, g3, g4⟩ := q_jal (N := N) (wa := wa) (least := 0) (by omega) [] N [] false sk [] [] false rfl trivial (by simp; omega) (by simp) (fun _ => trivial)
      have g1' : mX4_joinsAll N wa (nI ([] : List Int).length) (nI ([] : List Nat).length) (bI false) sk 0 = some (nI ([] : List Int).length, nI ([] : List Nat).length, bI false, sk') := g1
      have hl0 : nI l.length = 0 := by rw [hnil]; rfl
      rw [g1', Option.bind_some]
      dsimp only
      rw [if_neg hci2, if_pos hl0, if_neg hci2, if_pos bI_f, if_neg hci2, if_neg (fun z => z.1 hnil), if_pos (.inl hnil)]
      exact ⟨_, _, _, _, _, rfl⟩
    · have hr := h3 hnil
      rw [List.drop_eq_nil_of_le (Nat.le_refl _)] at hr
      have hr : jal 0 W S b = some ([], [x], bf) := hr
      obtain ⟨sk', g1, g2, g3, g4⟩ := q_jal (N := N) (least := 0) (by omega) W N S b sk [] [x] bf hr h4 (by omega) (by omega) h6
      have g1' : mX4_joinsAll N wa (nI S.length) (nI W.length) (bI b) sk 0 = some (nI [x].length, nI ([] : List Nat).length, bI bf, sk') := g1
      have hl0 : ¬ nI l.length = 0 := nI_ne0 (by
        rcases Nat.eq_zero_or_pos l.length with z | z
        · exact absurd (List.eq_nil_of_length_eq_zero z) hnil
        · exact z) (by omega)
      rw [g1', Option.bind_some]
      dsimp only
      rw [if_neg hci2, if_neg hl0]
      cases bf with
      | false =>
        rw [if_pos bI_f, if_neg (by decide), if_neg hci2, if_pos bI_f, if_neg hci2, if_neg (fun z => absurd z.2 (by decide)), if_neg (fun z => by rcases z with z | z; exact hnil z; exact absurd z (by decide))]
        have hs0 : sk' (0 : Int32).toNatClampNeg = LL x := (g2 rfl).1
        rw [hs0]
        exact ⟨_, _, _, _, _, rfl⟩
      | true =>
        rw [if_neg (by decide : ¬ bI true = 0), if_neg hci2, if_neg (by decide : ¬ bI true = 0), if_neg hci2, if_pos ⟨hnil, rfl⟩, if_pos (.inr rfl)]
        exact ⟨_, _, _, _, _, rfl⟩
  | d + 1, k, nf + 1, op, W, S, b, wa, sk, h1, h2, h0, h3, h4, h5, h6 => by
    have h15 := hl.1
    have hk : k < l.length := by omega
    have hnil : l ≠ [] := fun z => by rw [z] at hk; exact absurd hk (Nat.not_lt_zero _)
    have hr := h3 hnil
    cases e : l.drop k with
    | nil => have := dr_nil e; omega
    | cons t r =>
      obtain ⟨_, ht, hr0⟩ := dr_cons e
      have ht6 := hl.2 k hk
      rw [ht] at ht6
      have hcv := cv_lt ht6
      rw [e] at hr
      simp only [rn] at hr
      cases e2 : rd V t op W S b with
      | none => rw [e2] at hr; exact nomatch hr
      | some q =>
        obtain ⟨W1, S1, b1⟩ := q
        rw [e2, Option.bind_some] at hr
        obtain ⟨wa', sk', g1, g2, g3, g4⟩ := rd_sz (st := st) (va := va) hN ht6 e2 h4 (by omega) h6 (fun a6 a36 => by
          have := hV (t - 6) (by omega) (nmk_iff.mpr ⟨k, hk, by omega⟩)
          exact ⟨this.1, this.2.1⟩)
        simp only [mX4_works_19, mX4_works_19_b, mX4_works_69, mX4_works_70]
        have hfk := hfm k hk
        rw [ht] at hfk
        rw [if_neg (nI_in hc (by omega)), nI_clamp (by omega), hsz, if_neg (nI_ge (by omega) (by omega)), c_15, pk_mul, nI_add, if_neg (nI_in (by omega) (by omega)), nI_clamp (by omega), hfk, g1, Option.bind_some, nI_1]
        have next : ∀ op2, nop t = op2 → ∃ he wt br wa2 sk2, mX4_works_19 N fm sz nf (nI S1.length) (nI W1.length) (bI b1) st wa' va sk' (nI c) (bI op2) (nI (k + 1)) = some (he, wt, br, upd st c (if l ≠ [] ∧ bf = true then 2 else 1), wa2, vp_updL va c (if l = [] ∨ bf = true then 0 else LL x), sk2) := fun op2 ho =>
          q_works_l hN hc hl hsz hfm hV d (k + 1) nf op2 W1 S1 b1 wa' sk' (by omega) (by omega) (fun z => absurd z hnil) (fun _ => by rw [hr0, ← ho]; exact hr) g3 (by omega) g2
        by_cases t6 : t < 6
        · have ec : cv t = 2000000 + t := if_pos t6
          have q2 : ¬ nI (cv t) < (2000000 : Int32) := nI_nlt (b := 2000000) (by omega) (by omega)
          have q3 : nI (cv t) - (2000000 : Int32) = nI t := by
            have := pk_sub (a := cv t) (b := 2000000) (by omega)
            rw [show cv t - 2000000 = t by omega] at this
            exact this
          have e5 : nI t = (5 : Int32) ↔ t = 5 := nI_eq (a := t) (b := 5) (by omega) (by omega)
          rw [if_neg q2, q3]
          by_cases t5 : t = 5
          · rw [if_pos (e5.mpr t5)]
            exact next false (decide_eq_false (by omega))
          · rw [if_neg (fun z => t5 (e5.mp z))]
            exact next true (decide_eq_true (by omega))
        · have hlt : cv t < 2000000 := by unfold cv; rw [if_neg t6]; split <;> omega
          have q2 : nI (cv t) < (2000000 : Int32) := nI_lt (b := 2000000) hlt (by omega)
          rw [if_pos q2]
          exact next false (decide_eq_false (by omega))
end WORKS
