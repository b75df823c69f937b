/-! what throws changes nothing; what is answered isn't below 0; every step keeps what holds of a state -/
theorem i32_nI (x : Int32) : ∃ n : Nat, x = nI n := ⟨x.toBitVec.toNat, Int32.toBitVec_inj.mp (by
  show x.toBitVec = BitVec.ofNat 32 x.toBitVec.toNat
  simp)⟩
theorem low_nI (v : Int32) {n : Nat} (h0 : 0 < n) (hn : n < 2 ^ 31) : ∃ k, k < n ∧ mL_low v (nI n) = some (nI k) := by
  obtain ⟨x, rfl⟩ := i32_nI v
  have hm : x % 2 ^ 31 < 2 ^ 31 := Nat.mod_lt _ (by decide)
  refine ⟨x % 2 ^ 31 % n, Nat.mod_lt _ h0, ?_⟩
  unfold mL_low
  rw [if_neg (nI_ne0 h0 hn), show (2147483647 : Int32) = nI (2 ^ 31 - 1) from rfl, fa_mask, pk_rem hm h0 hn]
def lowd (a b : Int32) : Prop := ∃ k, mL_low a b = some k
theorem lowd_n (v : Int32) {n : Nat} (h0 : 0 < n) (hn : n < 2 ^ 31) : lowd v (nI n) := by
  obtain ⟨k, _, h⟩ := low_nI v h0 hn
  exact ⟨_, h⟩
theorem nn {k : Nat} (h : k < 2 ^ 31) : (0 : Int32) ≤ nI k := nI_le (a := 0) (Nat.zero_le k) h
def stepf (σ : St) (r : Rs) : Prop := (r.1 = none → r.2 = σ) ∧ (∀ y, r.1 = some y → (0 : Int32) ≤ y) ∧ (ok σ → ok r.2)
theorem stepf_no (σ : St) : stepf σ (none, σ) := ⟨fun _ => rfl, fun _ h => (nomatch h), fun h => h⟩
theorem stepf_yes {σ τ : St} {k : Nat} (hk : k < 2 ^ 31) (h : ok σ → ok τ) : stepf σ (some (nI k), τ) := ⟨fun z => (nomatch z), fun y e => (by cases e; exact nn hk), h⟩
theorem ct30 (p : Nat → Bool) : fb_ct p 30 < 2 ^ 31 := Nat.lt_of_le_of_lt (fb_ct_le p 30) (by decide)
theorem ok_give {σ : St} (h : ok σ) {c : Nat} (hc : c < 30) {l D : List Nat} (hl : okF l) (hn : ¬ clo (EE σ.1) (nm l) c) (hD : okT D) : ok (aGive σ c l D).2 := ⟨okSF_upd h.1 hl, acy_upd h.2.1 hc hn, hD, h.2.2.2.1, h.2.2.2.2⟩
theorem stepf_give {σ : St} {c : Nat} {l D : List Nat} (h : ok σ → ok (aGive σ c l D).2) : stepf σ (aGive σ c l D) := stepf_yes (ct30 _) h
theorem aNum_f (σ : St) (p : Int32) : stepf σ (aNum σ p) := by
  unfold aNum
  by_cases h : (0 ≤ p ∧ p ≤ 999999) ∧ σ.2.2.1.length < 15
  · rw [if_pos h]
    obtain ⟨hp, hl⟩ := h
    obtain ⟨k, hk, rfl⟩ := num_of hp
    exact stepf_yes (by omega) (fun ho => ⟨ho.1, ho.2.1, okT_app ho.2.2.1 hl (by rw [tn_nI (by omega)]; omega), ho.2.2.2⟩)
  · rw [if_neg h]; exact stepf_no σ
theorem aCell_f (σ : St) (p : Int32) : stepf σ (aCell σ p) := by
  unfold aCell
  by_cases h : (0 ≤ p ∧ p ≤ 29) ∧ σ.2.2.1.length < 15
  · rw [if_pos h]
    obtain ⟨hp, hl⟩ := h
    obtain ⟨k, hk, rfl⟩ := cell_of hp
    exact stepf_yes (by omega) (fun ho => ⟨ho.1, ho.2.1, okT_app ho.2.2.1 hl (by rw [tn_nI (by omega)]; omega), ho.2.2.2⟩)
  · rw [if_neg h]; exact stepf_no σ
theorem aSign_f (σ : St) (p : Int32) : stepf σ (aSign σ p) := by
  unfold aSign
  by_cases h : (0 ≤ p ∧ p ≤ 5) ∧ σ.2.2.1.length < 15
  · rw [if_pos h]
    obtain ⟨hp, hl⟩ := h
    obtain ⟨k, hk, rfl⟩ := nI_of2 (x := p) (M := 5) (n := 5) rfl (fun z => (fa_of_lt z).2.1 hp.1) hp.2
    exact stepf_yes (by omega) (fun ho => ⟨ho.1, ho.2.1, okT_app ho.2.2.1 hl (by rw [tn_nI (by omega)]; omega), ho.2.2.2⟩)
  · rw [if_neg h]; exact stepf_no σ
theorem aSet_f (σ : St) (p : Int32) : stepf σ (aSet σ p) := by
  unfold aSet
  by_cases h : (0 ≤ p ∧ p ≤ 29) ∧ flt 0 true σ.2.2.1 0 = none ∧ cloB (EE σ.1) (nm σ.2.2.1) (tn p) = false
  · rw [if_pos h]
    obtain ⟨hp, hf, hn⟩ := h
    obtain ⟨c, hc, rfl⟩ := cell_of hp
    rw [tn_nI (by omega)] at hn ⊢
    exact stepf_give (fun ho => ok_give ho hc ⟨ho.2.2.1, .inr ((flt_aut _ 0 true 0).mp hf)⟩ (cloB_no.mp hn) okT_nil)
  · rw [if_neg h]; exact stepf_no σ
theorem aPut_f (σ : St) (p v : Int32) : stepf σ (aPut σ p v) := by
  unfold aPut
  by_cases h : (0 ≤ p ∧ p ≤ 29) ∧ (0 ≤ v ∧ v ≤ 999999)
  · rw [if_pos h]
    obtain ⟨hp, hv⟩ := h
    obtain ⟨c, hc, rfl⟩ := cell_of hp
    obtain ⟨k, hk, rfl⟩ := num_of hv
    rw [tn_nI (n := c) (by omega), tn_nI (n := k) (by omega)]
    exact stepf_give (fun ho => ok_give ho hc (okF_num hk) (no_clo (nm_num k) hc) ho.2.2.1)
  · rw [if_neg h]; exact stepf_no σ
theorem aClear_f (σ : St) (p : Int32) : stepf σ (aClear σ p) := by
  unfold aClear
  by_cases h : 0 ≤ p ∧ p ≤ 29
  · rw [if_pos h]
    obtain ⟨c, hc, rfl⟩ := cell_of h
    rw [tn_nI (by omega)]
    by_cases hz : (σ.1 c).length = 0
    · rw [if_pos hz]; exact stepf_yes (k := 0) (by decide) (fun h => h)
    · rw [if_neg hz]
      exact stepf_give (fun ho => ok_give ho hc ⟨okT_nil, .inl rfl⟩ (no_clo nm_nil hc) ho.2.2.1)
  · rw [if_neg h]; exact stepf_no σ
theorem aOpen_f (σ : St) : stepf σ (aOpen σ) := by
  unfold aOpen
  by_cases h : σ.2.2.2.1 < 4
  · rw [if_pos h]
    refine stepf_yes (by omega) (fun ho => ⟨ho.1, ho.2.1, ho.2.2.1, h, fun i hi => ?_⟩)
    have hi : i < σ.2.2.2.1 + 1 := hi
    show okSF (qA σ.2.1 σ.2.2.2.1 σ.1 i) ∧ acy (EE (qA σ.2.1 σ.2.2.2.1 σ.1 i))
    unfold qA
    by_cases e : i = σ.2.2.2.1
    · rw [if_pos e]; exact ⟨ho.1, ho.2.1⟩
    · rw [if_neg e]; exact ho.2.2.2.2 i (by omega)
  · rw [if_neg h]; exact stepf_no σ
theorem aKeep_f (σ : St) (hL : σ.2.2.2.1 ≤ 4) : stepf σ (aKeep σ) := by
  unfold aKeep
  by_cases h : 0 < σ.2.2.2.1
  · rw [if_pos h]
    exact stepf_yes (by omega) (fun ho => ⟨ho.1, ho.2.1, ho.2.2.1, by show σ.2.2.2.1 - 1 ≤ 4; omega, fun i hi => ho.2.2.2.2 i (by have : i < σ.2.2.2.1 - 1 := hi; omega)⟩)
  · rw [if_neg h]; exact stepf_no σ
theorem aDrop_f (σ : St) : stepf σ (aDrop σ) := by
  unfold aDrop
  by_cases h : 0 < σ.2.2.2.1
  · rw [if_pos h]
    refine stepf_yes (ct30 _) (fun ho => ?_)
    obtain ⟨h1, h2⟩ := ho.2.2.2.2 (σ.2.2.2.1 - 1) (by omega)
    have hL := ho.2.2.2.1
    exact ⟨h1, h2, ho.2.2.1, by show σ.2.2.2.1 - 1 ≤ 4; omega, fun i hi => ho.2.2.2.2 i (by have : i < σ.2.2.2.1 - 1 := hi; omega)⟩
  · rw [if_neg h]; exact stepf_no σ
/-- what seek says when it answers -/
theorem aSeek_yes {σ : St} {g t i lo hi : Int32} {y : Int32} (h : (aSeek σ g t i lo hi).1 = some y) : skok σ g t i lo hi ∧ ∃ k, sk (skV σ g i) t.toInt (tn lo) (tn hi) = some k ∧ y = nI k ∧ (aSeek σ g t i lo hi).2 = (aGive σ (tn i) [36 + k] σ.2.2.1).2 := by
  unfold aSeek at h ⊢
  by_cases hs : skok σ g t i lo hi
  · rw [if_pos hs] at h ⊢
    refine ⟨hs, ?_⟩
    cases e : sk (skV σ g i) t.toInt (tn lo) (tn hi) with
    | none => rw [e] at h; exact nomatch h
    | some k =>
      rw [e] at h
      exact ⟨k, rfl, (Option.some.inj h).symm, rfl⟩
  · rw [if_neg hs] at h; exact nomatch h
theorem aSeek_f (σ : St) (g t i lo hi : Int32) : stepf σ (aSeek σ g t i lo hi) := by
  cases e : (aSeek σ g t i lo hi).1 with
  | none =>
    have e2 : (aSeek σ g t i lo hi).2 = σ := by
      unfold aSeek at e ⊢
      by_cases hs : skok σ g t i lo hi
      · rw [if_pos hs] at e ⊢
        cases e3 : sk (skV σ g i) t.toInt (tn lo) (tn hi) with
        | none => rfl
        | some k => rw [e3] at e; exact nomatch e
      · rw [if_neg hs]
    exact ⟨fun _ => e2, fun y hy => (by rw [e] at hy; exact nomatch hy), fun h => by rw [e2]; exact h⟩
  | some y =>
    obtain ⟨hs, k, hk, rfl, e2⟩ := aSeek_yes e
    obtain ⟨⟨_, hi2⟩, ⟨_, ⟨hl0, hl1⟩, hh0, hh1⟩, _⟩ := hs
    obtain ⟨a, ha, rfl⟩ := num_of ⟨hl0, hl1⟩
    have h0 : (0 : Int32) ≤ hi := by
      rw [fa_le] at hl0 hh0 ⊢; omega
    obtain ⟨b, hb, rfl⟩ := num_of ⟨h0, hh1⟩
    obtain ⟨c, hc, rfl⟩ := cell_of hi2
    rw [tn_nI (n := a) (by omega), tn_nI (n := b) (by omega)] at hk
    have hkb := sk_le ((nI_leI (by omega) (by omega)).mp hh0) hk
    refine ⟨fun z => (by rw [e] at z; exact nomatch z), fun y hy => ?_, fun ho => ?_⟩
    · rw [e] at hy; cases hy; exact nn (by omega)
    · rw [e2, tn_nI (n := c) (by omega)]
      exact ok_give ho hc (okF_num (k := k) (by omega)) (no_clo (nm_num k) hc) ho.2.2.1
/-! act: any calls -/
def fine (σ : St) (o : Option (Int32 × St)) : Prop := ∃ (r : Int32) (σ' : St), o = some (r, σ') ∧ ok σ' ∧ (r = -99999 → σ' = σ)
theorem fine_oc {σ : St} (h : ok σ) {r : Rs} (hf : stepf σ r) : fine σ (oc r.1 (fun y => some (y, r.2)) (some ((-99999 : Int32), r.2))) := by
  cases e : r.1 with
  | none => exact ⟨_, _, rfl, hf.2.2 h, fun _ => hf.1 e⟩
  | some y => exact ⟨_, _, rfl, hf.2.2 h, fun z => absurd (hf.2.1 y e) (by rw [z]; decide)⟩
theorem fine_bd {σ : St} {o : Option (Int32 × St)} (h : fine σ o) : fine σ (o.bind fun x => some (x.1, x.2)) := by
  obtain ⟨r, σ', rfl, h⟩ := h
  exact ⟨r, σ', rfl, h⟩
theorem does_f {σ : St} (h : ok σ) (a b : Int32) : fine σ (mL_does σ a b) := by
  unfold mL_does mL_does_93
  by_cases e0 : a = 0
  · rw [if_pos e0]; exact fine_oc h (aNum_f σ b)
  rw [if_neg e0]
  by_cases e1 : a = 1
  · rw [if_pos e1]; exact fine_oc h (aCell_f σ b)
  rw [if_neg e1]
  by_cases e2 : a = 2
  · rw [if_pos e2]; exact fine_oc h (aSign_f σ b)
  rw [if_neg e2]
  by_cases e3 : a = 3
  · rw [if_pos e3]; exact fine_oc h (aSet_f σ b)
  rw [if_neg e3]
  by_cases e4 : a = 4
  · rw [if_pos e4]; exact fine_oc h (aClear_f σ b)
  rw [if_neg e4]
  by_cases e5 : a = 5
  · rw [if_pos e5]; exact fine_oc h (aOpen_f σ)
  rw [if_neg e5]
  by_cases e6 : a = 6
  · rw [if_pos e6]; exact fine_oc h (aDrop_f σ)
  rw [if_neg e6]
  exact fine_oc h (aKeep_f σ h.2.2.2.1)
theorem put_f {σ : St} (h : ok σ) (a b : Int32) : fine σ (mL_put σ a b) := fine_oc h (aPut_f σ a b)
theorem seek_f {σ : St} (h : ok σ) (a b c d e : Int32) : fine σ (mL_seek σ a b c d e) := fine_oc h (aSeek_f σ a b c d e)
theorem wipe_f {σ : St} (h : ok σ) : fine σ (some ((aWipe σ).1, (aWipe σ).2)) := by
  have h15 := h.2.2.1.1
  refine ⟨_, _, rfl, ⟨h.1, h.2.1, okT_nil, h.2.2.2⟩, fun z => ?_⟩
  have h0 : (0 : Int32) ≤ (aWipe σ).1 := nn (k := σ.2.2.1.length) (by omega)
  rw [z] at h0
  exact absurd h0 (by decide)
theorem act_185 {σ : St} (h : ok σ) (a b : Int32) : fine σ (mL_act_185 σ a b) := fine_bd (does_f h a b)
theorem act_182 {σ : St} (h : ok σ) (a : Int32) {b c : Int32} (hl : lowd b c) : fine σ (mL_act_182 σ a b c) := by
  obtain ⟨k, e⟩ := hl
  unfold mL_act_182
  rw [e]; exact act_185 h a k
theorem act_141 {σ : St} (h : ok σ) (a : Int32) {b c : Int32} (hl : lowd b c) : fine σ (mL_act_141 σ a b c) := by
  obtain ⟨k, e⟩ := hl
  unfold mL_act_141
  rw [e]; exact act_185 h a k
theorem act_115 {σ : St} (h : ok σ) (v1 v2 v4 v5 s0 : Int32) : fine σ (mL_act_115 σ v1 v2 v4 v5 s0) := by
  unfold mL_act_115
  by_cases e0 : s0 = 0
  · rw [if_pos e0]
    by_cases e2 : v2 = 0
    · rw [if_pos e2]; exact act_141 h _ (lowd_n _ (n := 4000) (by decide) (by decide))
    · rw [if_neg e2]; exact act_141 h _ (lowd_n _ (n := 1200000) (by decide) (by decide))
  · rw [if_neg e0]
    by_cases e1 : s0 = 1
    · rw [if_pos e1]; exact act_185 h _ _
    · rw [if_neg e1]
      by_cases e2 : v2 = 0
      · rw [if_pos e2]
        by_cases e5 : v5 = 0
        · rw [if_pos e5]; exact act_182 h _ (lowd_n _ (n := 4) (by decide) (by decide))
        · rw [if_neg e5]; exact act_182 h _ (lowd_n _ (n := 6) (by decide) (by decide))
      · rw [if_neg e2]; exact act_182 h _ (lowd_n _ (n := 8) (by decide) (by decide))
theorem act_79 {σ : St} (h : ok σ) (v1 v2 v4 s0 : Int32) : fine σ (mL_act_79 σ v1 v2 v4 s0) := by
  unfold mL_act_79
  by_cases e2 : v2 = 0
  · rw [if_pos e2]
    by_cases e0 : s0 = 0
    · rw [if_pos e0]; exact act_115 h _ _ _ _ _
    · rw [if_neg e0]
      obtain ⟨k, e⟩ := lowd_n (v1 >>> ((6 : Int32) &&& 31)) (n := 2) (by decide) (by decide)
      have e : mL_low (v1 >>> ((6 : Int32) &&& 31)) (2 : Int32) = some k := e
      rw [e]; exact act_115 h _ _ _ _ _
  · rw [if_neg e2]
    obtain ⟨k, e⟩ := lowd_n (v1 >>> ((6 : Int32) &&& 31)) (n := 3) (by decide) (by decide)
    have e : mL_low (v1 >>> ((6 : Int32) &&& 31)) (3 : Int32) = some k := e
    rw [e]; exact act_115 h _ _ _ _ _
theorem act_255 {σ : St} (h : ok σ) (a : Int32) {b c : Int32} (hl : lowd b c) : fine σ (mL_act_255 σ a b c) := by
  obtain ⟨k, e⟩ := hl
  unfold mL_act_255
  rw [e]; exact fine_bd (put_f h a k)
theorem act_315 {σ : St} (h : ok σ) (v1 v2 v4 v5 : Int32) {b c : Int32} (hl : lowd b c) : fine σ (mL_act_315 σ v1 v2 v4 v5 b c) := by
  obtain ⟨k, e⟩ := hl
  unfold mL_act_315
  obtain ⟨k2, e2⟩ := lowd_n (v1 >>> ((5 : Int32) &&& 31)) (n := 20000) (by decide) (by decide)
  have e2 : mL_low (v1 >>> ((5 : Int32) &&& 31)) (20000 : Int32) = some k2 := e2
  obtain ⟨k3, e3⟩ := lowd_n (v1 >>> ((6 : Int32) &&& 31)) (n := 90000) (by decide) (by decide)
  have e3 : mL_low (v1 >>> ((6 : Int32) &&& 31)) (90000 : Int32) = some k3 := e3
  obtain ⟨k4, e4⟩ := lowd_n (v1 >>> ((6 : Int32) &&& 31)) (n := 400) (by decide) (by decide)
  have e4 : mL_low (v1 >>> ((6 : Int32) &&& 31)) (400 : Int32) = some k4 := e4
  rw [e, Option.bind_some, e2, Option.bind_some, e3, Option.bind_some, e4, Option.bind_some]
  unfold mL_act_364
  by_cases z : v2 = 0
  · rw [if_pos z]; exact fine_bd (seek_f h _ _ _ _ _)
  · rw [if_neg z]; exact fine_bd (seek_f h _ _ _ _ _)
theorem act_39 {σ : St} (h : ok σ) (v1 v2 v3 : Int32) {b c : Int32} (hl : lowd b c) : fine σ (mL_act_39 σ v1 v2 v3 b c) := by
  obtain ⟨k, e⟩ := hl
  unfold mL_act_39 mL_act_74 mL_act_78 mL_act_229 mL_act_283
  rw [e, Option.bind_some]
  by_cases c13 : (13 : Int32) ≤ v3
  · rw [if_pos c13]
    by_cases c18 : (18 : Int32) ≤ v3
    · rw [if_pos c18]
      by_cases c20 : (20 : Int32) ≤ v3
      · rw [if_pos c20]
        by_cases c24 : (24 : Int32) ≤ v3
        · rw [if_pos c24]
          by_cases c28 : (28 : Int32) ≤ v3
          · rw [if_pos c28]
            obtain ⟨k2, e2⟩ := lowd_n (v1 >>> ((3 : Int32) &&& 31)) (n := 500) (by decide) (by decide)
            have e2 : mL_low (v1 >>> ((3 : Int32) &&& 31)) (500 : Int32) = some k2 := e2
            rw [e2, Option.bind_some]
            by_cases z : v2 = 0
            · rw [if_pos z]; exact act_315 h _ _ _ _ (lowd_n _ (n := 9) (by decide) (by decide))
            · rw [if_neg z]; exact act_315 h _ _ _ _ (lowd_n _ (n := 34) (by decide) (by decide))
          · rw [if_neg c28]
            by_cases c26 : (26 : Int32) ≤ v3
            · rw [if_pos c26]; exact fine_bd (does_f h _ _)
            · rw [if_neg c26]; exact fine_bd (does_f h _ _)
        · rw [if_neg c24]
          by_cases z : v2 = 0
          · rw [if_pos z]; exact act_255 h _ (lowd_n _ (n := 9000) (by decide) (by decide))
          · rw [if_neg z]; exact act_255 h _ (lowd_n _ (n := 1200000) (by decide) (by decide))
      · rw [if_neg c20]
        by_cases z : v3 = 18
        · rw [if_pos z]; exact wipe_f h
        · rw [if_neg z]; exact fine_bd (does_f h _ _)
    · rw [if_neg c18]; exact fine_bd (does_f h _ _)
  · rw [if_neg c13]
    by_cases z : aFault σ = aDrafted σ
    · rw [if_pos z]
      by_cases z2 : aDrafted σ = 0
      · rw [if_pos z2]; exact act_79 h _ _ _ _
      · rw [if_neg z2]
        by_cases z3 : (7 : Int32) ≤ v3
        · rw [if_pos z3]; exact act_79 h _ _ _ _
        · rw [if_neg z3]; exact act_79 h _ _ _ _
    · rw [if_neg z]; exact act_79 h _ _ _ _
/-- any call: where it throws, nothing has changed -/
theorem act_f {σ : St} (h : ok σ) (v : Int32) : fine σ (mL_act σ v) := by
  unfold mL_act mL_act_17
  obtain ⟨k, e⟩ := lowd_n (v >>> ((24 : Int32) &&& 31)) (n := 8) (by decide) (by decide)
  have e : mL_low (v >>> ((24 : Int32) &&& 31)) (8 : Int32) = some k := e
  obtain ⟨k2, e2⟩ := lowd_n v (n := 30) (by decide) (by decide)
  have e2 : mL_low v (30 : Int32) = some k2 := e2
  rw [e, Option.bind_some, e2, Option.bind_some, Option.bind_some]
  have l9 := lowd_n (v >>> ((4 : Int32) &&& 31)) (n := 9) (by decide) (by decide)
  have l34 := lowd_n (v >>> ((4 : Int32) &&& 31)) (n := 34) (by decide) (by decide)
  by_cases z : k = 0
  · rw [if_pos z]
    by_cases z2 : (1 : Int32) = 0
    · rw [if_pos z2]; exact act_39 h _ _ _ l9
    · rw [if_neg z2]; exact act_39 h _ _ _ l34
  · rw [if_neg z]
    by_cases z2 : (0 : Int32) = 0
    · rw [if_pos z2]; exact act_39 h _ _ _ l9
    · rw [if_neg z2]; exact act_39 h _ _ _ l34
