/-! the office's calls as steps of a state -/
set_option maxHeartbeats 1000000 in
theorem o_number (l : Launch) (hlf : l.stackTraces = false) (D : va_G) (cyI cyJ cyO : ClassId) (A : Nat → Prop) (bs : Nat) (hA : ∀ q, bs ≤ q → A q) (F : va_W) (d : Nat → Nat) (σ : St) (p0 : Int32) : vx_Met l yX3_number wsX3_number rmX3_number (va_Pc [.ref (d 0), .int p0] (lP (aW F D cyI cyJ cyO A bs d σ) A)) (va_Qi (fun (r : Int32) (_ : Unit) => (aNum σ p0).1 = some r) (fun _ => aW F D cyI cyJ cyO A bs d (aNum σ p0).2) A) (vx_X (S := Unit) (fun _ => True) (fun E _ U => ((aNum σ p0).1 = none ∧ (E = exN 2 ∨ E = exN 3)) ∧ aW F D cyI cyJ cyO A bs d (aNum σ p0).2 U) A) 2 12 A := by
  refine vx_conv (fun args s hP => ?_)
  obtain ⟨hav, ⟨X, ⟨P, g, eA, rs, rr, at', fa, ra, ol, fd, dc, ds, fw, fn, ff, qw, qn, qf, va, tr, rfl, hF, hr⟩, hW⟩, hN, hT⟩ := hP
  obtain ⟨code, r, dc', ds', e, hr2, hc⟩ := r_number hr 1000001 p0
  refine ⟨_, _, _, _, zX3_number l hlf D cyI cyJ cyO (aA A F) s.heap.size (fr_sA hA hW) P g d eA ol fd dc ds fw fn ff qw qn qf va tr 1000001 p0 _ e, ⟨hav, ⟨rs, rr, at', fa, ra, fr_sW hA hW, hF⟩, hN.1, dT_s hT⟩, fun _ h => h.1, fun o t h => ?_, fun E t h => ?_⟩
  · obtain ⟨⟨x, u, ho, ⟨h1, h2, h3⟩, hB⟩, hf⟩ := h
    subst h3
    obtain ⟨rs1, rr1, at1, fa1, ra1, hB, hF1⟩ := hB
    refine ⟨⟨x, (), ho, ?_, ⟨_, ⟨P, g, eA, rs1, rr1, at1, fa1, ra1, _, _, _, _, _, _, _, _, _, _, _, _, rfl, hF1, hr2⟩, fr_W hA hW hf hB⟩⟩, aF_w hf⟩
    rcases hc with ⟨_, e2⟩ | ⟨z, _⟩
    · rw [e2]; exact congrArg some h2
    · replace h1 : code = 0 := h1
      omega
  · obtain ⟨u, -, ⟨h1, h2, h3, hB⟩, hf⟩ := h
    subst h3
    obtain ⟨rs1, rr1, at1, fa1, ra1, hB, hF1⟩ := hB
    refine ⟨(), trivial, ⟨⟨?_, ?_⟩, ⟨_, ⟨P, g, eA, rs1, rr1, at1, fa1, ra1, _, _, _, _, _, _, _, _, _, _, _, _, rfl, hF1, hr2⟩, fr_W hA hW hf hB⟩⟩, aF_w hf⟩
    · rcases hc with ⟨z, _⟩ | ⟨_, e2⟩
      · exact absurd z h1
      · exact e2
    · rcases hc with ⟨z, _⟩ | ⟨z, _⟩
      · exact absurd z h1
      · rcases z with rfl | rfl
        · exact .inl h2
        · exact .inr h2
set_option maxHeartbeats 1000000 in
theorem o_cell (l : Launch) (hlf : l.stackTraces = false) (D : va_G) (cyI cyJ cyO : ClassId) (A : Nat → Prop) (bs : Nat) (hA : ∀ q, bs ≤ q → A q) (F : va_W) (d : Nat → Nat) (σ : St) (p0 : Int32) : vx_Met l yX3_cell wsX3_cell rmX3_cell (va_Pc [.ref (d 0), .int p0] (lP (aW F D cyI cyJ cyO A bs d σ) A)) (va_Qi (fun (r : Int32) (_ : Unit) => (aCell σ p0).1 = some r) (fun _ => aW F D cyI cyJ cyO A bs d (aCell σ p0).2) A) (vx_X (S := Unit) (fun _ => True) (fun E _ U => ((aCell σ p0).1 = none ∧ (E = exN 1 ∨ E = exN 3)) ∧ aW F D cyI cyJ cyO A bs d (aCell σ p0).2 U) A) 2 12 A := by
  refine vx_conv (fun args s hP => ?_)
  obtain ⟨hav, ⟨X, ⟨P, g, eA, rs, rr, at', fa, ra, ol, fd, dc, ds, fw, fn, ff, qw, qn, qf, va, tr, rfl, hF, hr⟩, hW⟩, hN, hT⟩ := hP
  obtain ⟨code, r, dc', ds', e, hr2, hc⟩ := r_cell hr 1000001 p0
  refine ⟨_, _, _, _, zX3_cell l hlf D cyI cyJ cyO (aA A F) s.heap.size (fr_sA hA hW) P g d eA ol fd dc ds fw fn ff qw qn qf va tr 1000001 p0 _ e, ⟨hav, ⟨rs, rr, at', fa, ra, fr_sW hA hW, hF⟩, hN.1, dT_s hT⟩, fun _ h => h.1, fun o t h => ?_, fun E t h => ?_⟩
  · obtain ⟨⟨x, u, ho, ⟨h1, h2, h3⟩, hB⟩, hf⟩ := h
    subst h3
    obtain ⟨rs1, rr1, at1, fa1, ra1, hB, hF1⟩ := hB
    refine ⟨⟨x, (), ho, ?_, ⟨_, ⟨P, g, eA, rs1, rr1, at1, fa1, ra1, _, _, _, _, _, _, _, _, _, _, _, _, rfl, hF1, hr2⟩, fr_W hA hW hf hB⟩⟩, aF_w hf⟩
    rcases hc with ⟨_, e2⟩ | ⟨z, _⟩
    · rw [e2]; exact congrArg some h2
    · replace h1 : code = 0 := h1
      omega
  · obtain ⟨u, -, ⟨h1, h2, h3, hB⟩, hf⟩ := h
    subst h3
    obtain ⟨rs1, rr1, at1, fa1, ra1, hB, hF1⟩ := hB
    refine ⟨(), trivial, ⟨⟨?_, ?_⟩, ⟨_, ⟨P, g, eA, rs1, rr1, at1, fa1, ra1, _, _, _, _, _, _, _, _, _, _, _, _, rfl, hF1, hr2⟩, fr_W hA hW hf hB⟩⟩, aF_w hf⟩
    · rcases hc with ⟨z, _⟩ | ⟨_, e2⟩
      · exact absurd z h1
      · exact e2
    · rcases hc with ⟨z, _⟩ | ⟨z, _⟩
      · exact absurd z h1
      · rcases z with rfl | rfl
        · exact .inl h2
        · exact .inr h2
set_option maxHeartbeats 1000000 in
theorem o_sign (l : Launch) (hlf : l.stackTraces = false) (D : va_G) (cyI cyJ cyO : ClassId) (A : Nat → Prop) (bs : Nat) (hA : ∀ q, bs ≤ q → A q) (F : va_W) (d : Nat → Nat) (σ : St) (p0 : Int32) : vx_Met l yX3_sign wsX3_sign rmX3_sign (va_Pc [.ref (d 0), .int p0] (lP (aW F D cyI cyJ cyO A bs d σ) A)) (va_Qi (fun (r : Int32) (_ : Unit) => (aSign σ p0).1 = some r) (fun _ => aW F D cyI cyJ cyO A bs d (aSign σ p0).2) A) (vx_X (S := Unit) (fun _ => True) (fun E _ U => ((aSign σ p0).1 = none ∧ (E = exN 2 ∨ E = exN 3)) ∧ aW F D cyI cyJ cyO A bs d (aSign σ p0).2 U) A) 1 6 A := by
  refine vx_conv (fun args s hP => ?_)
  obtain ⟨hav, ⟨X, ⟨P, g, eA, rs, rr, at', fa, ra, ol, fd, dc, ds, fw, fn, ff, qw, qn, qf, va, tr, rfl, hF, hr⟩, hW⟩, hN, hT⟩ := hP
  obtain ⟨code, r, dc', ds', e, hr2, hc⟩ := r_sign hr 1000001 p0
  refine ⟨_, _, _, _, zX3_sign l hlf D cyI cyJ cyO (aA A F) s.heap.size (fr_sA hA hW) P g d eA ol fd dc ds fw fn ff qw qn qf va tr 1000001 p0 _ e, ⟨hav, ⟨rs, rr, at', fa, ra, fr_sW hA hW, hF⟩, hN.1, dT_s hT⟩, fun _ h => h.1, fun o t h => ?_, fun E t h => ?_⟩
  · obtain ⟨⟨x, u, ho, ⟨h1, h2, h3⟩, hB⟩, hf⟩ := h
    subst h3
    obtain ⟨rs1, rr1, at1, fa1, ra1, hB, hF1⟩ := hB
    refine ⟨⟨x, (), ho, ?_, ⟨_, ⟨P, g, eA, rs1, rr1, at1, fa1, ra1, _, _, _, _, _, _, _, _, _, _, _, _, rfl, hF1, hr2⟩, fr_W hA hW hf hB⟩⟩, aF_w hf⟩
    rcases hc with ⟨_, e2⟩ | ⟨z, _⟩
    · rw [e2]; exact congrArg some h2
    · replace h1 : code = 0 := h1
      omega
  · obtain ⟨u, -, ⟨h1, h2, h3, hB⟩, hf⟩ := h
    subst h3
    obtain ⟨rs1, rr1, at1, fa1, ra1, hB, hF1⟩ := hB
    refine ⟨(), trivial, ⟨⟨?_, ?_⟩, ⟨_, ⟨P, g, eA, rs1, rr1, at1, fa1, ra1, _, _, _, _, _, _, _, _, _, _, _, _, rfl, hF1, hr2⟩, fr_W hA hW hf hB⟩⟩, aF_w hf⟩
    · rcases hc with ⟨z, _⟩ | ⟨_, e2⟩
      · exact absurd z h1
      · exact e2
    · rcases hc with ⟨z, _⟩ | ⟨z, _⟩
      · exact absurd z h1
      · rcases z with rfl | rfl
        · exact .inl h2
        · exact .inr h2
set_option maxHeartbeats 1000000 in
theorem o_set (l : Launch) (hlf : l.stackTraces = false) (D : va_G) (cyI cyJ cyO : ClassId) (A : Nat → Prop) (bs : Nat) (hA : ∀ q, bs ≤ q → A q) (F : va_W) (d : Nat → Nat) (σ : St) (p0 : Int32) : vx_Met l yX3_set wsX3_set rmX3_set (va_Pc [.ref (d 0), .int p0] (lP (aW F D cyI cyJ cyO A bs d σ) A)) (va_Qi (fun (r : Int32) (_ : Unit) => (aSet σ p0).1 = some r) (fun _ => aW F D cyI cyJ cyO A bs d (aSet σ p0).2) A) (vx_X (S := Unit) (fun _ => True) (fun E _ U => ((aSet σ p0).1 = none ∧ (E = exN 1 ∨ E = exN 2 ∨ E = exN 3)) ∧ aW F D cyI cyJ cyO A bs d (aSet σ p0).2 U) A) 4 29 A := by
  refine vx_conv (fun args s hP => ?_)
  obtain ⟨hav, ⟨X, ⟨P, g, eA, rs, rr, at', fa, ra, ol, fd, dc, ds, fw, fn, ff, qw, qn, qf, va, tr, rfl, hF, hr⟩, hW⟩, hN, hT⟩ := hP
  obtain ⟨code, r, fd', dc', fw', fn', ff', va', e, hr2, hc⟩ := r_set hr (N := 1000001) (by omega) p0
  refine ⟨_, _, _, _, zX3_set l hlf D cyI cyJ cyO (aA A F) s.heap.size (fr_sA hA hW) P g d eA ol fd dc ds fw fn ff qw qn qf va tr 1000001 p0 _ e, ⟨hav, ⟨rs, rr, at', fa, ra, fr_sW hA hW, hF⟩, hN.1, dT_s hT⟩, fun _ h => h.1, fun o t h => ?_, fun E t h => ?_⟩
  · obtain ⟨⟨x, u, ho, ⟨h1, h2, h3⟩, hB⟩, hf⟩ := h
    subst h3
    obtain ⟨P1, g1, ex1, hB⟩ := hB
    obtain ⟨rs1, rr1, at1, fa1, ra1, hB, hF1⟩ := hB
    refine ⟨⟨x, (), ho, ?_, ⟨_, ⟨P1, g1, eA, rs1, rr1, at1, fa1, ra1, _, _, _, _, _, _, _, _, _, _, _, _, rfl, hF1, hr2⟩, fr_W hA hW hf hB⟩⟩, aF_w hf⟩
    rcases hc with ⟨_, e2⟩ | ⟨z, _⟩
    · rw [e2]; exact congrArg some h2
    · replace h1 : code = 0 := h1
      omega
  · obtain ⟨u, -, ⟨h1, h2, h3, hB⟩, hf⟩ := h
    subst h3
    obtain ⟨P1, g1, ex1, hB⟩ := hB
    obtain ⟨rs1, rr1, at1, fa1, ra1, hB, hF1⟩ := hB
    refine ⟨(), trivial, ⟨⟨?_, ?_⟩, ⟨_, ⟨P1, g1, eA, rs1, rr1, at1, fa1, ra1, _, _, _, _, _, _, _, _, _, _, _, _, rfl, hF1, hr2⟩, fr_W hA hW hf hB⟩⟩, aF_w hf⟩
    · rcases hc with ⟨z, _⟩ | ⟨_, e2⟩
      · exact absurd z h1
      · exact e2
    · rcases hc with ⟨z, _⟩ | ⟨z, _⟩
      · exact absurd z h1
      · rcases z with rfl | rfl | rfl
        · exact .inl h2
        · exact .inr (.inl h2)
        · exact .inr (.inr h2)
set_option maxHeartbeats 1000000 in
theorem o_put (l : Launch) (hlf : l.stackTraces = false) (D : va_G) (cyI cyJ cyO : ClassId) (A : Nat → Prop) (bs : Nat) (hA : ∀ q, bs ≤ q → A q) (F : va_W) (d : Nat → Nat) (σ : St) (p0 : Int32) (p1 : Int32) : vx_Met l yX3_put wsX3_put rmX3_put (va_Pc [.ref (d 0), .int p0, .int p1] (lP (aW F D cyI cyJ cyO A bs d σ) A)) (va_Qi (fun (r : Int32) (_ : Unit) => (aPut σ p0 p1).1 = some r) (fun _ => aW F D cyI cyJ cyO A bs d (aPut σ p0 p1).2) A) (vx_X (S := Unit) (fun _ => True) (fun E _ U => ((aPut σ p0 p1).1 = none ∧ (E = exN 1 ∨ E = exN 2)) ∧ aW F D cyI cyJ cyO A bs d (aPut σ p0 p1).2 U) A) 4 15 A := by
  refine vx_conv (fun args s hP => ?_)
  obtain ⟨hav, ⟨X, ⟨P, g, eA, rs, rr, at', fa, ra, ol, fd, dc, ds, fw, fn, ff, qw, qn, qf, va, tr, rfl, hF, hr⟩, hW⟩, hN, hT⟩ := hP
  obtain ⟨code, r, fd', fw', fn', ff', va', e, hr2, hc⟩ := r_put hr (N := 1000001) (by omega) p0 p1
  refine ⟨_, _, _, _, zX3_put l hlf D cyI cyJ cyO (aA A F) s.heap.size (fr_sA hA hW) P g d eA ol fd dc ds fw fn ff qw qn qf va tr 1000001 p0 p1 _ e, ⟨hav, ⟨rs, rr, at', fa, ra, fr_sW hA hW, hF⟩, hN.1, dT_s hT⟩, fun _ h => h.1, fun o t h => ?_, fun E t h => ?_⟩
  · obtain ⟨⟨x, u, ho, ⟨h1, h2, h3⟩, hB⟩, hf⟩ := h
    subst h3
    obtain ⟨P1, g1, ex1, hB⟩ := hB
    obtain ⟨rs1, rr1, at1, fa1, ra1, hB, hF1⟩ := hB
    refine ⟨⟨x, (), ho, ?_, ⟨_, ⟨P1, g1, eA, rs1, rr1, at1, fa1, ra1, _, _, _, _, _, _, _, _, _, _, _, _, rfl, hF1, hr2⟩, fr_W hA hW hf hB⟩⟩, aF_w hf⟩
    rcases hc with ⟨_, e2⟩ | ⟨z, _⟩
    · rw [e2]; exact congrArg some h2
    · replace h1 : code = 0 := h1
      omega
  · obtain ⟨u, -, ⟨h1, h2, h3, hB⟩, hf⟩ := h
    subst h3
    obtain ⟨P1, g1, ex1, hB⟩ := hB
    obtain ⟨rs1, rr1, at1, fa1, ra1, hB, hF1⟩ := hB
    refine ⟨(), trivial, ⟨⟨?_, ?_⟩, ⟨_, ⟨P1, g1, eA, rs1, rr1, at1, fa1, ra1, _, _, _, _, _, _, _, _, _, _, _, _, rfl, hF1, hr2⟩, fr_W hA hW hf hB⟩⟩, aF_w hf⟩
    · rcases hc with ⟨z, _⟩ | ⟨_, e2⟩
      · exact absurd z h1
      · exact e2
    · rcases hc with ⟨z, _⟩ | ⟨z, _⟩
      · exact absurd z h1
      · rcases z with rfl | rfl
        · exact .inl h2
        · exact .inr h2
set_option maxHeartbeats 1000000 in
theorem o_clear (l : Launch) (hlf : l.stackTraces = false) (D : va_G) (cyI cyJ cyO : ClassId) (A : Nat → Prop) (bs : Nat) (hA : ∀ q, bs ≤ q → A q) (F : va_W) (d : Nat → Nat) (σ : St) (p0 : Int32) : vx_Met l yX3_clear wsX3_clear rmX3_clear (va_Pc [.ref (d 0), .int p0] (lP (aW F D cyI cyJ cyO A bs d σ) A)) (va_Qi (fun (r : Int32) (_ : Unit) => (aClear σ p0).1 = some r) (fun _ => aW F D cyI cyJ cyO A bs d (aClear σ p0).2) A) (vx_X (S := Unit) (fun _ => True) (fun E _ U => ((aClear σ p0).1 = none ∧ (E = exN 1)) ∧ aW F D cyI cyJ cyO A bs d (aClear σ p0).2 U) A) 1 6 A := by
  refine vx_conv (fun args s hP => ?_)
  obtain ⟨hav, ⟨X, ⟨P, g, eA, rs, rr, at', fa, ra, ol, fd, dc, ds, fw, fn, ff, qw, qn, qf, va, tr, rfl, hF, hr⟩, hW⟩, hN, hT⟩ := hP
  obtain ⟨code, r, fd', fw', fn', ff', va', e, hr2, hc⟩ := r_clear hr (N := 1000001) (by omega) p0
  refine ⟨_, _, _, _, zX3_clear l hlf D cyI cyJ cyO (aA A F) s.heap.size (fr_sA hA hW) P g d eA ol fd dc ds fw fn ff qw qn qf va tr 1000001 p0 _ e, ⟨hav, ⟨rs, rr, at', fa, ra, fr_sW hA hW, hF⟩, hN.1, dT_s hT⟩, fun _ h => h.1, fun o t h => ?_, fun E t h => ?_⟩
  · obtain ⟨⟨x, u, ho, ⟨h1, h2, h3⟩, hB⟩, hf⟩ := h
    subst h3
    obtain ⟨rs1, rr1, at1, fa1, ra1, hB, hF1⟩ := hB
    refine ⟨⟨x, (), ho, ?_, ⟨_, ⟨P, g, eA, rs1, rr1, at1, fa1, ra1, _, _, _, _, _, _, _, _, _, _, _, _, rfl, hF1, hr2⟩, fr_W hA hW hf hB⟩⟩, aF_w hf⟩
    rcases hc with ⟨_, e2⟩ | ⟨z, _⟩
    · rw [e2]; exact congrArg some h2
    · replace h1 : code = 0 := h1
      omega
  · obtain ⟨u, -, ⟨h1, h2, h3, hB⟩, hf⟩ := h
    subst h3
    obtain ⟨rs1, rr1, at1, fa1, ra1, hB, hF1⟩ := hB
    refine ⟨(), trivial, ⟨⟨?_, ?_⟩, ⟨_, ⟨P, g, eA, rs1, rr1, at1, fa1, ra1, _, _, _, _, _, _, _, _, _, _, _, _, rfl, hF1, hr2⟩, fr_W hA hW hf hB⟩⟩, aF_w hf⟩
    · rcases hc with ⟨z, _⟩ | ⟨_, e2⟩
      · exact absurd z h1
      · exact e2
    · rcases hc with ⟨z, _⟩ | ⟨z, _⟩
      · exact absurd z h1
      · subst z; exact h2
set_option maxHeartbeats 1000000 in
theorem o_open (l : Launch) (hlf : l.stackTraces = false) (D : va_G) (cyI cyJ cyO : ClassId) (A : Nat → Prop) (bs : Nat) (hA : ∀ q, bs ≤ q → A q) (F : va_W) (d : Nat → Nat) (σ : St) : vx_Met l yX3_open wsX3_open rmX3_open (va_Pc [.ref (d 0)] (lP (aW F D cyI cyJ cyO A bs d σ) A)) (va_Qi (fun (r : Int32) (_ : Unit) => (aOpen σ).1 = some r) (fun _ => aW F D cyI cyJ cyO A bs d (aOpen σ).2) A) (vx_X (S := Unit) (fun _ => True) (fun E _ U => ((aOpen σ).1 = none ∧ (E = exN 3)) ∧ aW F D cyI cyJ cyO A bs d (aOpen σ).2 U) A) 1 6 A := by
  refine vx_conv (fun args s hP => ?_)
  obtain ⟨hav, ⟨X, ⟨P, g, eA, rs, rr, at', fa, ra, ol, fd, dc, ds, fw, fn, ff, qw, qn, qf, va, tr, rfl, hF, hr⟩, hW⟩, hN, hT⟩ := hP
  obtain ⟨code, r, ol', qw', qn', qf', e, hr2, hc⟩ := r_open hr (N := 1000001) (by omega)
  refine ⟨_, _, _, _, zX3_open l hlf D cyI cyJ cyO (aA A F) s.heap.size (fr_sA hA hW) P g d eA ol fd dc ds fw fn ff qw qn qf va tr 1000001 _ e, ⟨hav, ⟨rs, rr, at', fa, ra, fr_sW hA hW, hF⟩, hN.1, dT_s hT⟩, fun _ h => h.1, fun o t h => ?_, fun E t h => ?_⟩
  · obtain ⟨⟨x, u, ho, ⟨h1, h2, h3⟩, hB⟩, hf⟩ := h
    subst h3
    obtain ⟨rs1, rr1, at1, fa1, ra1, hB, hF1⟩ := hB
    refine ⟨⟨x, (), ho, ?_, ⟨_, ⟨P, g, eA, rs1, rr1, at1, fa1, ra1, _, _, _, _, _, _, _, _, _, _, _, _, rfl, hF1, hr2⟩, fr_W hA hW hf hB⟩⟩, aF_w hf⟩
    rcases hc with ⟨_, e2⟩ | ⟨z, _⟩
    · rw [e2]; exact congrArg some h2
    · replace h1 : code = 0 := h1
      omega
  · obtain ⟨u, -, ⟨h1, h2, h3, hB⟩, hf⟩ := h
    subst h3
    obtain ⟨rs1, rr1, at1, fa1, ra1, hB, hF1⟩ := hB
    refine ⟨(), trivial, ⟨⟨?_, ?_⟩, ⟨_, ⟨P, g, eA, rs1, rr1, at1, fa1, ra1, _, _, _, _, _, _, _, _, _, _, _, _, rfl, hF1, hr2⟩, fr_W hA hW hf hB⟩⟩, aF_w hf⟩
    · rcases hc with ⟨z, _⟩ | ⟨_, e2⟩
      · exact absurd z h1
      · exact e2
    · rcases hc with ⟨z, _⟩ | ⟨z, _⟩
      · exact absurd z h1
      · subst z; exact h2
set_option maxHeartbeats 1000000 in
theorem o_keep (l : Launch) (hlf : l.stackTraces = false) (D : va_G) (cyI cyJ cyO : ClassId) (A : Nat → Prop) (bs : Nat) (hA : ∀ q, bs ≤ q → A q) (F : va_W) (d : Nat → Nat) (σ : St) : vx_Met l yX3_keep wsX3_keep rmX3_keep (va_Pc [.ref (d 0)] (lP (aW F D cyI cyJ cyO A bs d σ) A)) (va_Qi (fun (r : Int32) (_ : Unit) => (aKeep σ).1 = some r) (fun _ => aW F D cyI cyJ cyO A bs d (aKeep σ).2) A) (vx_X (S := Unit) (fun _ => True) (fun E _ U => ((aKeep σ).1 = none ∧ (E = exN 3)) ∧ aW F D cyI cyJ cyO A bs d (aKeep σ).2 U) A) 1 6 A := by
  refine vx_conv (fun args s hP => ?_)
  obtain ⟨hav, ⟨X, ⟨P, g, eA, rs, rr, at', fa, ra, ol, fd, dc, ds, fw, fn, ff, qw, qn, qf, va, tr, rfl, hF, hr⟩, hW⟩, hN, hT⟩ := hP
  obtain ⟨code, r, ol', e, hr2, hc⟩ := r_keep hr 1000001
  refine ⟨_, _, _, _, zX3_keep l hlf D cyI cyJ cyO (aA A F) s.heap.size (fr_sA hA hW) P g d eA ol fd dc ds fw fn ff qw qn qf va tr 1000001 _ e, ⟨hav, ⟨rs, rr, at', fa, ra, fr_sW hA hW, hF⟩, hN.1, dT_s hT⟩, fun _ h => h.1, fun o t h => ?_, fun E t h => ?_⟩
  · obtain ⟨⟨x, u, ho, ⟨h1, h2, h3⟩, hB⟩, hf⟩ := h
    subst h3
    obtain ⟨rs1, rr1, at1, fa1, ra1, hB, hF1⟩ := hB
    refine ⟨⟨x, (), ho, ?_, ⟨_, ⟨P, g, eA, rs1, rr1, at1, fa1, ra1, _, _, _, _, _, _, _, _, _, _, _, _, rfl, hF1, hr2⟩, fr_W hA hW hf hB⟩⟩, aF_w hf⟩
    rcases hc with ⟨_, e2⟩ | ⟨z, _⟩
    · rw [e2]; exact congrArg some h2
    · replace h1 : code = 0 := h1
      omega
  · obtain ⟨u, -, ⟨h1, h2, h3, hB⟩, hf⟩ := h
    subst h3
    obtain ⟨rs1, rr1, at1, fa1, ra1, hB, hF1⟩ := hB
    refine ⟨(), trivial, ⟨⟨?_, ?_⟩, ⟨_, ⟨P, g, eA, rs1, rr1, at1, fa1, ra1, _, _, _, _, _, _, _, _, _, _, _, _, rfl, hF1, hr2⟩, fr_W hA hW hf hB⟩⟩, aF_w hf⟩
    · rcases hc with ⟨z, _⟩ | ⟨_, e2⟩
      · exact absurd z h1
      · exact e2
    · rcases hc with ⟨z, _⟩ | ⟨z, _⟩
      · exact absurd z h1
      · subst z; exact h2
set_option maxHeartbeats 1000000 in
theorem o_drop (l : Launch) (hlf : l.stackTraces = false) (D : va_G) (cyI cyJ cyO : ClassId) (A : Nat → Prop) (bs : Nat) (hA : ∀ q, bs ≤ q → A q) (F : va_W) (d : Nat → Nat) (σ : St) : vx_Met l yX3_drop wsX3_drop rmX3_drop (va_Pc [.ref (d 0)] (lP (aW F D cyI cyJ cyO A bs d σ) A)) (va_Qi (fun (r : Int32) (_ : Unit) => (aDrop σ).1 = some r) (fun _ => aW F D cyI cyJ cyO A bs d (aDrop σ).2) A) (vx_X (S := Unit) (fun _ => True) (fun E _ U => ((aDrop σ).1 = none ∧ (E = exN 3)) ∧ aW F D cyI cyJ cyO A bs d (aDrop σ).2 U) A) 1 6 A := by
  refine vx_conv (fun args s hP => ?_)
  obtain ⟨hav, ⟨X, ⟨P, g, eA, rs, rr, at', fa, ra, ol, fd, dc, ds, fw, fn, ff, qw, qn, qf, va, tr, rfl, hF, hr⟩, hW⟩, hN, hT⟩ := hP
  obtain ⟨code, r, ol', fd', fw', fn', ff', va', e, hr2, hc⟩ := r_drop hr (N := 1000001) (by omega)
  refine ⟨_, _, _, _, zX3_drop l hlf D cyI cyJ cyO (aA A F) s.heap.size (fr_sA hA hW) P g d eA ol fd dc ds fw fn ff qw qn qf va tr 1000001 _ e, ⟨hav, ⟨rs, rr, at', fa, ra, fr_sW hA hW, hF⟩, hN.1, dT_s hT⟩, fun _ h => h.1, fun o t h => ?_, fun E t h => ?_⟩
  · obtain ⟨⟨x, u, ho, ⟨h1, h2, h3⟩, hB⟩, hf⟩ := h
    subst h3
    obtain ⟨rs1, rr1, at1, fa1, ra1, hB, hF1⟩ := hB
    refine ⟨⟨x, (), ho, ?_, ⟨_, ⟨P, g, eA, rs1, rr1, at1, fa1, ra1, _, _, _, _, _, _, _, _, _, _, _, _, rfl, hF1, hr2⟩, fr_W hA hW hf hB⟩⟩, aF_w hf⟩
    rcases hc with ⟨_, e2⟩ | ⟨z, _⟩
    · rw [e2]; exact congrArg some h2
    · replace h1 : code = 0 := h1
      omega
  · obtain ⟨u, -, ⟨h1, h2, h3, hB⟩, hf⟩ := h
    subst h3
    obtain ⟨rs1, rr1, at1, fa1, ra1, hB, hF1⟩ := hB
    refine ⟨(), trivial, ⟨⟨?_, ?_⟩, ⟨_, ⟨P, g, eA, rs1, rr1, at1, fa1, ra1, _, _, _, _, _, _, _, _, _, _, _, _, rfl, hF1, hr2⟩, fr_W hA hW hf hB⟩⟩, aF_w hf⟩
    · rcases hc with ⟨z, _⟩ | ⟨_, e2⟩
      · exact absurd z h1
      · exact e2
    · rcases hc with ⟨z, _⟩ | ⟨z, _⟩
      · exact absurd z h1
      · subst z; exact h2
set_option maxHeartbeats 1000000 in
theorem o_seek (l : Launch) (hlf : l.stackTraces = false) (D : va_G) (cyI cyJ cyO : ClassId) (A : Nat → Prop) (bs : Nat) (hA : ∀ q, bs ≤ q → A q) (F : va_W) (d : Nat → Nat) (σ : St) (p0 : Int32) (p1 : Int32) (p2 : Int32) (p3 : Int32) (p4 : Int32) : vx_Met l yX3_seek wsX3_seek rmX3_seek (va_Pc [.ref (d 0), .int p0, .int p1, .int p2, .int p3, .int p4] (lP (aW F D cyI cyJ cyO A bs d σ) A)) (va_Qi (fun (r : Int32) (_ : Unit) => (aSeek σ p0 p1 p2 p3 p4).1 = some r) (fun _ => aW F D cyI cyJ cyO A bs d (aSeek σ p0 p1 p2 p3 p4).2) A) (vx_X (S := Unit) (fun _ => True) (fun E _ U => ((aSeek σ p0 p1 p2 p3 p4).1 = none ∧ (E = exN 1 ∨ E = exN 2 ∨ E = exN 3 ∨ E = exN 5)) ∧ aW F D cyI cyJ cyO A bs d (aSeek σ p0 p1 p2 p3 p4).2 U) A) 4 18 A := by
  refine vx_conv (fun args s hP => ?_)
  obtain ⟨hav, ⟨X, ⟨P, g, eA, rs, rr, at', fa, ra, ol, fd, dc, ds, fw, fn, ff, qw, qn, qf, va, tr, rfl, hF, hr⟩, hW⟩, hN, hT⟩ := hP
  obtain ⟨code, r, fd', fw', fn', ff', va', tr', e, hr2, hc⟩ := r_seek hr (N := 1000001) (by omega) tr p0 p1 p2 p3 p4
  refine ⟨_, _, _, _, zX3_seek l hlf D cyI cyJ cyO (aA A F) s.heap.size (fr_sA hA hW) P g d eA ol fd dc ds fw fn ff qw qn qf va tr 1000001 p0 p1 p2 p3 p4 _ e, ⟨hav, ⟨rs, rr, at', fa, ra, fr_sW hA hW, hF⟩, hN.1, dT_s hT⟩, fun _ h => h.1, fun o t h => ?_, fun E t h => ?_⟩
  · obtain ⟨⟨x, u, ho, ⟨h1, h2, h3⟩, hB⟩, hf⟩ := h
    subst h3
    obtain ⟨P1, g1, ex1, hB⟩ := hB
    obtain ⟨rs1, rr1, at1, fa1, ra1, hB, hF1⟩ := hB
    refine ⟨⟨x, (), ho, ?_, ⟨_, ⟨P1, g1, eA, rs1, rr1, at1, fa1, ra1, _, _, _, _, _, _, _, _, _, _, _, _, rfl, hF1, hr2⟩, fr_W hA hW hf hB⟩⟩, aF_w hf⟩
    rcases hc with ⟨_, e2⟩ | ⟨z, _⟩
    · rw [e2]; exact congrArg some h2
    · replace h1 : code = 0 := h1
      omega
  · obtain ⟨u, -, ⟨h1, h2, h3, hB⟩, hf⟩ := h
    subst h3
    obtain ⟨P1, g1, ex1, hB⟩ := hB
    obtain ⟨rs1, rr1, at1, fa1, ra1, hB, hF1⟩ := hB
    refine ⟨(), trivial, ⟨⟨?_, ?_⟩, ⟨_, ⟨P1, g1, eA, rs1, rr1, at1, fa1, ra1, _, _, _, _, _, _, _, _, _, _, _, _, rfl, hF1, hr2⟩, fr_W hA hW hf hB⟩⟩, aF_w hf⟩
    · rcases hc with ⟨z, _⟩ | ⟨_, e2⟩
      · exact absurd z h1
      · exact e2
    · rcases hc with ⟨z, _⟩ | ⟨z, _⟩
      · exact absurd z h1
      · rcases z with rfl | rfl | rfl | rfl
        · exact .inl h2
        · exact .inr (.inl h2)
        · exact .inr (.inr (.inl h2))
        · exact .inr (.inr (.inr h2))
set_option maxHeartbeats 1000000 in
theorem o_value (l : Launch) (hlf : l.stackTraces = false) (D : va_G) (cyI cyJ cyO : ClassId) (A : Nat → Prop) (bs : Nat) (hA : ∀ q, bs ≤ q → A q) (F : va_W) (d : Nat → Nat) (σ : St) (p0 : Int32) : vx_Met l yX3_value wsX3_value rmX3_value (va_Pc [.ref (d 0), .int p0] (lP (aW F D cyI cyJ cyO A bs d σ) A)) (va_Ql (fun (r : Int64) (_ : Unit) => aValue σ p0 = some r) (fun _ => aW F D cyI cyJ cyO A bs d σ) A) (vx_X (S := Unit) (fun _ => True) (fun E _ U => (aValue σ p0 = none ∧ ((E = exN 1 ∧ ¬ (0 ≤ p0 ∧ p0 ≤ 29)) ∨ E = exN 4)) ∧ aW F D cyI cyJ cyO A bs d σ U) A) 2 12 A := by
  refine vx_conv (fun args s hP => ?_)
  obtain ⟨hav, ⟨X, ⟨P, g, eA, rs, rr, at', fa, ra, ol, fd, dc, ds, fw, fn, ff, qw, qn, qf, va, tr, rfl, hF, hr⟩, hW⟩, hN, hT⟩ := hP
  obtain ⟨code, r, e, hc⟩ := r_value hr 1000001 p0
  have hr2 := hr
  refine ⟨_, _, _, _, zX3_value l hlf D cyI cyJ cyO (aA A F) s.heap.size (fr_sA hA hW) P g d eA ol fd dc ds fw fn ff qw qn qf va tr 1000001 p0 _ e, ⟨hav, ⟨rs, rr, at', fa, ra, fr_sW hA hW, hF⟩, hN.1, dT_s hT⟩, fun _ h => h.1, fun o t h => ?_, fun E t h => ?_⟩
  · obtain ⟨⟨x, u, ho, ⟨h1, h2⟩, hB⟩, hf⟩ := h
    obtain ⟨rs1, rr1, at1, fa1, ra1, hB, hF1⟩ := hB
    refine ⟨⟨x, (), ho, ?_, ⟨_, ⟨P, g, eA, rs1, rr1, at1, fa1, ra1, _, _, _, _, _, _, _, _, _, _, _, _, rfl, hF1, hr2⟩, fr_W hA hW hf hB⟩⟩, aF_w hf⟩
    rcases hc with ⟨_, e2⟩ | ⟨z, _⟩
    · rw [e2]; exact congrArg some h2
    · replace h1 : code = 0 := h1
      omega
  · obtain ⟨u, -, ⟨h1, h2, hB⟩, hf⟩ := h
    obtain ⟨rs1, rr1, at1, fa1, ra1, hB, hF1⟩ := hB
    refine ⟨(), trivial, ⟨⟨?_, ?_⟩, ⟨_, ⟨P, g, eA, rs1, rr1, at1, fa1, ra1, _, _, _, _, _, _, _, _, _, _, _, _, rfl, hF1, hr2⟩, fr_W hA hW hf hB⟩⟩, aF_w hf⟩
    · rcases hc with ⟨z, _⟩ | ⟨_, e2⟩
      · exact absurd z h1
      · exact e2
    · rcases hc with ⟨z, _⟩ | ⟨z, _⟩
      · exact absurd z h1
      · rcases z with ⟨rfl, hp⟩ | rfl
        · exact .inl ⟨h2, hp⟩
        · exact .inr h2
set_option maxHeartbeats 1000000 in
theorem o_valueAnew (l : Launch) (hlf : l.stackTraces = false) (D : va_G) (cyI cyJ cyO : ClassId) (A : Nat → Prop) (bs : Nat) (hA : ∀ q, bs ≤ q → A q) (F : va_W) (d : Nat → Nat) (σ : St) (p0 : Int32) : vx_Met l yX3_valueAnew wsX3_valueAnew rmX3_valueAnew (va_Pc [.ref (d 0), .int p0] (lP (aW F D cyI cyJ cyO A bs d σ) A)) (va_Ql (fun (r : Int64) (_ : Unit) => aValue σ p0 = some r) (fun _ => aW F D cyI cyJ cyO A bs d σ) A) (vx_X (S := Unit) (fun _ => True) (fun E _ U => (aValue σ p0 = none ∧ ((E = exN 1 ∧ ¬ (0 ≤ p0 ∧ p0 ≤ 29)) ∨ E = exN 4)) ∧ aW F D cyI cyJ cyO A bs d σ U) A) 2 12 A := by
  refine vx_conv (fun args s hP => ?_)
  obtain ⟨hav, ⟨X, ⟨P, g, eA, rs, rr, at', fa, ra, ol, fd, dc, ds, fw, fn, ff, qw, qn, qf, va, tr, rfl, hF, hr⟩, hW⟩, hN, hT⟩ := hP
  obtain ⟨code, r, tr', e, hc⟩ := r_valueAnew hr (N := 1000001) (by omega) tr p0
  have hr2 := hr
  refine ⟨_, _, _, _, zX3_valueAnew l hlf D cyI cyJ cyO (aA A F) s.heap.size (fr_sA hA hW) P g d eA ol fd dc ds fw fn ff qw qn qf va tr 1000001 p0 _ e, ⟨hav, ⟨rs, rr, at', fa, ra, fr_sW hA hW, hF⟩, hN.1, dT_s hT⟩, fun _ h => h.1, fun o t h => ?_, fun E t h => ?_⟩
  · obtain ⟨⟨x, u, ho, ⟨h1, h2, h3⟩, hB⟩, hf⟩ := h
    subst h3
    obtain ⟨rs1, rr1, at1, fa1, ra1, hB, hF1⟩ := hB
    refine ⟨⟨x, (), ho, ?_, ⟨_, ⟨P, g, eA, rs1, rr1, at1, fa1, ra1, _, _, _, _, _, _, _, _, _, _, _, _, rfl, hF1, hr2⟩, fr_W hA hW hf hB⟩⟩, aF_w hf⟩
    rcases hc with ⟨_, e2⟩ | ⟨z, _⟩
    · rw [e2]; exact congrArg some h2
    · replace h1 : code = 0 := h1
      omega
  · obtain ⟨u, -, ⟨h1, h2, h3, hB⟩, hf⟩ := h
    subst h3
    obtain ⟨rs1, rr1, at1, fa1, ra1, hB, hF1⟩ := hB
    refine ⟨(), trivial, ⟨⟨?_, ?_⟩, ⟨_, ⟨P, g, eA, rs1, rr1, at1, fa1, ra1, _, _, _, _, _, _, _, _, _, _, _, _, rfl, hF1, hr2⟩, fr_W hA hW hf hB⟩⟩, aF_w hf⟩
    · rcases hc with ⟨z, _⟩ | ⟨_, e2⟩
      · exact absurd z h1
      · exact e2
    · rcases hc with ⟨z, _⟩ | ⟨z, _⟩
      · exact absurd z h1
      · rcases z with ⟨rfl, hp⟩ | rfl
        · exact .inl ⟨h2, hp⟩
        · exact .inr h2
set_option maxHeartbeats 1000000 in
theorem o_signs (l : Launch) (hlf : l.stackTraces = false) (D : va_G) (cyI cyJ cyO : ClassId) (A : Nat → Prop) (bs : Nat) (hA : ∀ q, bs ≤ q → A q) (F : va_W) (d : Nat → Nat) (σ : St) (p0 : Int32) : vx_Met l yX3_signs wsX3_signs rmX3_signs (va_Pc [.ref (d 0), .int p0] (lP (aW F D cyI cyJ cyO A bs d σ) A)) (va_Qi (fun (r : Int32) (_ : Unit) => aSigns σ p0 = some r) (fun _ => aW F D cyI cyJ cyO A bs d σ) A) (vx_X (S := Unit) (fun _ => True) (fun E _ U => (aSigns σ p0 = none ∧ (E = exN 1)) ∧ aW F D cyI cyJ cyO A bs d σ U) A) 1 6 A := by
  refine vx_conv (fun args s hP => ?_)
  obtain ⟨hav, ⟨X, ⟨P, g, eA, rs, rr, at', fa, ra, ol, fd, dc, ds, fw, fn, ff, qw, qn, qf, va, tr, rfl, hF, hr⟩, hW⟩, hN, hT⟩ := hP
  obtain ⟨code, r, e, hc⟩ := r_signs hr 1000001 p0
  have hr2 := hr
  refine ⟨_, _, _, _, zX3_signs l hlf D cyI cyJ cyO (aA A F) s.heap.size (fr_sA hA hW) P g d eA ol fd dc ds fw fn ff qw qn qf va tr 1000001 p0 _ e, ⟨hav, ⟨rs, rr, at', fa, ra, fr_sW hA hW, hF⟩, hN.1, dT_s hT⟩, fun _ h => h.1, fun o t h => ?_, fun E t h => ?_⟩
  · obtain ⟨⟨x, u, ho, ⟨h1, h2⟩, hB⟩, hf⟩ := h
    obtain ⟨rs1, rr1, at1, fa1, ra1, hB, hF1⟩ := hB
    refine ⟨⟨x, (), ho, ?_, ⟨_, ⟨P, g, eA, rs1, rr1, at1, fa1, ra1, _, _, _, _, _, _, _, _, _, _, _, _, rfl, hF1, hr2⟩, fr_W hA hW hf hB⟩⟩, aF_w hf⟩
    rcases hc with ⟨_, e2⟩ | ⟨z, _⟩
    · rw [e2]; exact congrArg some h2
    · replace h1 : code = 0 := h1
      omega
  · obtain ⟨u, -, ⟨h1, h2, hB⟩, hf⟩ := h
    obtain ⟨rs1, rr1, at1, fa1, ra1, hB, hF1⟩ := hB
    refine ⟨(), trivial, ⟨⟨?_, ?_⟩, ⟨_, ⟨P, g, eA, rs1, rr1, at1, fa1, ra1, _, _, _, _, _, _, _, _, _, _, _, _, rfl, hF1, hr2⟩, fr_W hA hW hf hB⟩⟩, aF_w hf⟩
    · rcases hc with ⟨z, _⟩ | ⟨_, e2⟩
      · exact absurd z h1
      · exact e2
    · rcases hc with ⟨z, _⟩ | ⟨z, _⟩
      · exact absurd z h1
      · subst z; exact h2
set_option maxHeartbeats 1000000 in
theorem o_level (l : Launch) (hlf : l.stackTraces = false) (D : va_G) (cyI cyJ cyO : ClassId) (A : Nat → Prop) (bs : Nat) (hA : ∀ q, bs ≤ q → A q) (F : va_W) (d : Nat → Nat) (σ : St) (p0 : Int32) : vx_Met l yX3_level wsX3_level rmX3_level (va_Pc [.ref (d 0), .int p0] (lP (aW F D cyI cyJ cyO A bs d σ) A)) (va_Qi (fun (r : Int32) (_ : Unit) => aLevel σ p0 = some r) (fun _ => aW F D cyI cyJ cyO A bs d σ) A) (vx_X (S := Unit) (fun _ => True) (fun E _ U => (aLevel σ p0 = none ∧ (E = exN 1)) ∧ aW F D cyI cyJ cyO A bs d σ U) A) 1 6 A := by
  refine vx_conv (fun args s hP => ?_)
  obtain ⟨hav, ⟨X, ⟨P, g, eA, rs, rr, at', fa, ra, ol, fd, dc, ds, fw, fn, ff, qw, qn, qf, va, tr, rfl, hF, hr⟩, hW⟩, hN, hT⟩ := hP
  obtain ⟨code, r, e, hc⟩ := r_level hr (N := 1000001) (by omega) p0
  have hr2 := hr
  refine ⟨_, _, _, _, zX3_level l hlf D cyI cyJ cyO (aA A F) s.heap.size (fr_sA hA hW) P g d eA ol fd dc ds fw fn ff qw qn qf va tr 1000001 p0 _ e, ⟨hav, ⟨rs, rr, at', fa, ra, fr_sW hA hW, hF⟩, hN.1, dT_s hT⟩, fun _ h => h.1, fun o t h => ?_, fun E t h => ?_⟩
  · obtain ⟨⟨x, u, ho, ⟨h1, h2⟩, hB⟩, hf⟩ := h
    obtain ⟨rs1, rr1, at1, fa1, ra1, hB, hF1⟩ := hB
    refine ⟨⟨x, (), ho, ?_, ⟨_, ⟨P, g, eA, rs1, rr1, at1, fa1, ra1, _, _, _, _, _, _, _, _, _, _, _, _, rfl, hF1, hr2⟩, fr_W hA hW hf hB⟩⟩, aF_w hf⟩
    rcases hc with ⟨_, e2⟩ | ⟨z, _⟩
    · rw [e2]; exact congrArg some h2
    · replace h1 : code = 0 := h1
      omega
  · obtain ⟨u, -, ⟨h1, h2, hB⟩, hf⟩ := h
    obtain ⟨rs1, rr1, at1, fa1, ra1, hB, hF1⟩ := hB
    refine ⟨(), trivial, ⟨⟨?_, ?_⟩, ⟨_, ⟨P, g, eA, rs1, rr1, at1, fa1, ra1, _, _, _, _, _, _, _, _, _, _, _, _, rfl, hF1, hr2⟩, fr_W hA hW hf hB⟩⟩, aF_w hf⟩
    · rcases hc with ⟨z, _⟩ | ⟨_, e2⟩
      · exact absurd z h1
      · exact e2
    · rcases hc with ⟨z, _⟩ | ⟨z, _⟩
      · exact absurd z h1
      · subst z; exact h2
set_option maxHeartbeats 1000000 in
theorem o_wipe (l : Launch) (D : va_G) (cyI cyJ cyO : ClassId) (A : Nat → Prop) (bs : Nat) (hA : ∀ q, bs ≤ q → A q) (F : va_W) (d : Nat → Nat) (σ : St) : Met l yX3_wipe wsX3_wipe rmX3_wipe (va_Pc [.ref (d 0)] (lP (aW F D cyI cyJ cyO A bs d σ) A)) (va_Qi (fun (r : Int32) (_ : Unit) => (aWipe σ).1 = r) (fun _ => aW F D cyI cyJ cyO A bs d (aWipe σ).2) A) 0 0 A := by
  refine m_conv (fun args s hP => ?_)
  obtain ⟨hav, ⟨X, ⟨P, g, eA, rs, rr, at', fa, ra, ol, fd, dc, ds, fw, fn, ff, qw, qn, qf, va, tr, rfl, hF, hr⟩, hW⟩, hN, hT⟩ := hP
  obtain ⟨e, hr2⟩ := r_wipe hr 1000001
  refine ⟨_, _, _, zX3_wipe l D cyI cyJ cyO (aA A F) s.heap.size (fr_sA hA hW) P g d eA ol fd dc ds fw fn ff qw qn qf va tr 1000001 _ e, ⟨hav, ⟨rs, rr, at', fa, ra, fr_sW hA hW, hF⟩, hN.1, dT_s hT⟩, fun _ h => h.1, fun o t h => ?_⟩
  obtain ⟨⟨x, u, ho, ⟨h1, h3⟩, hB⟩, hf⟩ := h
  subst h3
  obtain ⟨rs1, rr1, at1, fa1, ra1, hB, hF1⟩ := hB
  exact ⟨⟨x, (), ho, h1, ⟨_, ⟨P, g, eA, rs1, rr1, at1, fa1, ra1, _, _, _, _, _, _, _, _, _, _, _, _, rfl, hF1, hr2⟩, fr_W hA hW hf hB⟩⟩, aF_w hf⟩
set_option maxHeartbeats 1000000 in
theorem o_fault (l : Launch) (D : va_G) (cyI cyJ cyO : ClassId) (A : Nat → Prop) (bs : Nat) (hA : ∀ q, bs ≤ q → A q) (F : va_W) (d : Nat → Nat) (σ : St) : Met l yX3_fault wsX3_fault rmX3_fault (va_Pc [.ref (d 0)] (lP (aW F D cyI cyJ cyO A bs d σ) A)) (va_Qi (fun (r : Int32) (_ : Unit) => aFault σ = r) (fun _ => aW F D cyI cyJ cyO A bs d σ) A) 0 0 A := by
  refine m_conv (fun args s hP => ?_)
  obtain ⟨hav, ⟨X, ⟨P, g, eA, rs, rr, at', fa, ra, ol, fd, dc, ds, fw, fn, ff, qw, qn, qf, va, tr, rfl, hF, hr⟩, hW⟩, hN, hT⟩ := hP
  have e := r_fault hr (N := 1000001) (by omega)
  have hr2 := hr
  refine ⟨_, _, _, zX3_fault l D cyI cyJ cyO (aA A F) s.heap.size (fr_sA hA hW) P g d eA ol fd dc ds fw fn ff qw qn qf va tr 1000001 _ e, ⟨hav, ⟨rs, rr, at', fa, ra, fr_sW hA hW, hF⟩, hN.1, dT_s hT⟩, fun _ h => h.1, fun o t h => ?_⟩
  obtain ⟨⟨x, u, ho, h1, hB⟩, hf⟩ := h
  obtain ⟨rs1, rr1, at1, fa1, ra1, hB, hF1⟩ := hB
  exact ⟨⟨x, (), ho, h1, ⟨_, ⟨P, g, eA, rs1, rr1, at1, fa1, ra1, _, _, _, _, _, _, _, _, _, _, _, _, rfl, hF1, hr2⟩, fr_W hA hW hf hB⟩⟩, aF_w hf⟩
set_option maxHeartbeats 1000000 in
theorem o_layers (l : Launch) (D : va_G) (cyI cyJ cyO : ClassId) (A : Nat → Prop) (bs : Nat) (hA : ∀ q, bs ≤ q → A q) (F : va_W) (d : Nat → Nat) (σ : St) : Met l yX3_layers wsX3_layers rmX3_layers (va_Pc [.ref (d 0)] (lP (aW F D cyI cyJ cyO A bs d σ) A)) (va_Qi (fun (r : Int32) (_ : Unit) => aLayers σ = r) (fun _ => aW F D cyI cyJ cyO A bs d σ) A) 0 0 A := by
  refine m_conv (fun args s hP => ?_)
  obtain ⟨hav, ⟨X, ⟨P, g, eA, rs, rr, at', fa, ra, ol, fd, dc, ds, fw, fn, ff, qw, qn, qf, va, tr, rfl, hF, hr⟩, hW⟩, hN, hT⟩ := hP
  have e := (show mX3_layers 1000001 ol = some (aLayers σ) from congrArg some hr.2.2.1.2.1)
  have hr2 := hr
  refine ⟨_, _, _, zX3_layers l D cyI cyJ cyO (aA A F) s.heap.size (fr_sA hA hW) P g d eA ol fd dc ds fw fn ff qw qn qf va tr 1000001 _ e, ⟨hav, ⟨rs, rr, at', fa, ra, fr_sW hA hW, hF⟩, hN.1, dT_s hT⟩, fun _ h => h.1, fun o t h => ?_⟩
  obtain ⟨⟨x, u, ho, h1, hB⟩, hf⟩ := h
  obtain ⟨rs1, rr1, at1, fa1, ra1, hB, hF1⟩ := hB
  exact ⟨⟨x, (), ho, h1, ⟨_, ⟨P, g, eA, rs1, rr1, at1, fa1, ra1, _, _, _, _, _, _, _, _, _, _, _, _, rfl, hF1, hr2⟩, fr_W hA hW hf hB⟩⟩, aF_w hf⟩
set_option maxHeartbeats 1000000 in
theorem o_drafted (l : Launch) (D : va_G) (cyI cyJ cyO : ClassId) (A : Nat → Prop) (bs : Nat) (hA : ∀ q, bs ≤ q → A q) (F : va_W) (d : Nat → Nat) (σ : St) : Met l yX3_drafted wsX3_drafted rmX3_drafted (va_Pc [.ref (d 0)] (lP (aW F D cyI cyJ cyO A bs d σ) A)) (va_Qi (fun (r : Int32) (_ : Unit) => aDrafted σ = r) (fun _ => aW F D cyI cyJ cyO A bs d σ) A) 0 0 A := by
  refine m_conv (fun args s hP => ?_)
  obtain ⟨hav, ⟨X, ⟨P, g, eA, rs, rr, at', fa, ra, ol, fd, dc, ds, fw, fn, ff, qw, qn, qf, va, tr, rfl, hF, hr⟩, hW⟩, hN, hT⟩ := hP
  have e := (show mX3_drafted 1000001 dc = some (aDrafted σ) from congrArg some hr.1.2.1)
  have hr2 := hr
  refine ⟨_, _, _, zX3_drafted l D cyI cyJ cyO (aA A F) s.heap.size (fr_sA hA hW) P g d eA ol fd dc ds fw fn ff qw qn qf va tr 1000001 _ e, ⟨hav, ⟨rs, rr, at', fa, ra, fr_sW hA hW, hF⟩, hN.1, dT_s hT⟩, fun _ h => h.1, fun o t h => ?_⟩
  obtain ⟨⟨x, u, ho, h1, hB⟩, hf⟩ := h
  obtain ⟨rs1, rr1, at1, fa1, ra1, hB, hF1⟩ := hB
  exact ⟨⟨x, (), ho, h1, ⟨_, ⟨P, g, eA, rs1, rr1, at1, fa1, ra1, _, _, _, _, _, _, _, _, _, _, _, _, rfl, hF1, hr2⟩, fr_W hA hW hf hB⟩⟩, aF_w hf⟩
set_option maxHeartbeats 1000000 in
theorem o_faulty (l : Launch) (D : va_G) (cyI cyJ cyO : ClassId) (A : Nat → Prop) (bs : Nat) (hA : ∀ q, bs ≤ q → A q) (F : va_W) (d : Nat → Nat) (σ : St) : Met l yX3_faulty wsX3_faulty rmX3_faulty (va_Pc [.ref (d 0)] (lP (aW F D cyI cyJ cyO A bs d σ) A)) (va_Qi (fun (r : Int32) (_ : Unit) => aFaulty σ = r) (fun _ => aW F D cyI cyJ cyO A bs d σ) A) 0 0 A := by
  refine m_conv (fun args s hP => ?_)
  obtain ⟨hav, ⟨X, ⟨P, g, eA, rs, rr, at', fa, ra, ol, fd, dc, ds, fw, fn, ff, qw, qn, qf, va, tr, rfl, hF, hr⟩, hW⟩, hN, hT⟩ := hP
  have e := r_faulty hr (N := 1000001) (by omega)
  have hr2 := hr
  refine ⟨_, _, _, zX3_faulty l D cyI cyJ cyO (aA A F) s.heap.size (fr_sA hA hW) P g d eA ol fd dc ds fw fn ff qw qn qf va tr 1000001 _ e, ⟨hav, ⟨rs, rr, at', fa, ra, fr_sW hA hW, hF⟩, hN.1, dT_s hT⟩, fun _ h => h.1, fun o t h => ?_⟩
  obtain ⟨⟨x, u, ho, h1, hB⟩, hf⟩ := h
  obtain ⟨rs1, rr1, at1, fa1, ra1, hB, hF1⟩ := hB
  exact ⟨⟨x, (), ho, h1, ⟨_, ⟨P, g, eA, rs1, rr1, at1, fa1, ra1, _, _, _, _, _, _, _, _, _, _, _, _, rfl, hF1, hr2⟩, fr_W hA hW hf hB⟩⟩, aF_w hf⟩
set_option maxHeartbeats 1000000 in
theorem o_foundAnew (l : Launch) (D : va_G) (cyI cyJ cyO : ClassId) (A : Nat → Prop) (bs : Nat) (hA : ∀ q, bs ≤ q → A q) (F : va_W) (d : Nat → Nat) (σ : St) : Met l yX3_foundAnew wsX3_foundAnew rmX3_foundAnew (va_Pc [.ref (d 0)] (lP (aW F D cyI cyJ cyO A bs d σ) A)) (va_Qi (fun (r : Int32) (_ : Unit) => aFound σ = r) (fun _ => aW F D cyI cyJ cyO A bs d σ) A) 0 0 A := by
  refine m_conv (fun args s hP => ?_)
  obtain ⟨hav, ⟨X, ⟨P, g, eA, rs, rr, at', fa, ra, ol, fd, dc, ds, fw, fn, ff, qw, qn, qf, va, tr, rfl, hF, hr⟩, hW⟩, hN, hT⟩ := hP
  have e := (show mX3_foundAnew 1000001 fd = some (aFound σ) from congrArg some hr.2.2.2)
  have hr2 := hr
  refine ⟨_, _, _, zX3_foundAnew l D cyI cyJ cyO (aA A F) s.heap.size (fr_sA hA hW) P g d eA ol fd dc ds fw fn ff qw qn qf va tr 1000001 _ e, ⟨hav, ⟨rs, rr, at', fa, ra, fr_sW hA hW, hF⟩, hN.1, dT_s hT⟩, fun _ h => h.1, fun o t h => ?_⟩
  obtain ⟨⟨x, u, ho, h1, hB⟩, hf⟩ := h
  obtain ⟨rs1, rr1, at1, fa1, ra1, hB, hF1⟩ := hB
  exact ⟨⟨x, (), ho, h1, ⟨_, ⟨P, g, eA, rs1, rr1, at1, fa1, ra1, _, _, _, _, _, _, _, _, _, _, _, _, rfl, hF1, hr2⟩, fr_W hA hW hf hB⟩⟩, aF_w hf⟩
