/-- sum, by how deep brackets may go -/
def mX2_sum (N : Nat) : Nat → Nat → (Nat → Int32) → (Nat → Int64) → Int32 → Int32 → Option (Int64 × Int32)
  | 0, _, _, _, _, _ => none
  | k + 1, n, f, va, ax, p0 => mX2_sum_B N (mX2_sum N k n f va) n f va ax p0
theorem zX2_sum (l : Launch) (D : va_G) (cyI cyJ cyO : ClassId) (A : Nat → Prop) (bs : Nat) (hA : ∀ q, bs ≤ q → A q) (P : List Nat) (g : Nat → va_E) (d : Nat → Nat) (eA vr vt sA : Nat) (fa ra : Nat → Nat) (ol fd dc : Int32) (ds : Nat → Int32) (va tr : Nat → Int64) (N : Nat) (n : Nat) (f : Nat → Int32) (hs : isA cyI P g sA n f) : ∀ (k : Nat) (ax p0 : Int32) (res : Int64 × Int32), mX2_sum N k n f va ax p0 = some res → Met l yX2_sum wsRS (rmX2_sum k) (va_Pc [.ref (d 2), .int p0] (fun U => gW D (gT cyI cyJ cyO) (XD d cyI cyJ cyO eA vr vt sA (d 5) ax fa ra ol fd dc ds va tr ++ va_pl P g) A bs U ∧ dN U)) (va_Ql (fun r u => res.1 = r ∧ res.2 = u) (fun u U => gW D (gT cyI cyJ cyO) (XD d cyI cyJ cyO eA vr vt sA (d 5) u fa ra ol fd dc ds va tr ++ va_pl P g) A bs U) A) 0 0 A := by
  intro k
  induction k with
  | zero => intro ax p0 res h; cases h
  | succ k ih => intro ax p0 res h; exact zX2_sum_B l D cyI cyJ cyO A bs hA P g d eA vr vt sA fa ra ol fd dc ds va tr N (mX2_sum N k n f va) n f hs k ih ax p0 res h
/-- the two rows of values change places -/
def dsw (d : Nat → Nat) : Nat → Nat := fun k => if k = 5 then d 6 else if k = 6 then d 5 else d k
theorem dsw_dsw (d : Nat → Nat) : dsw (dsw d) = d := by
  funext k
  by_cases h5 : k = 5
  · subst h5; rfl
  · by_cases h6 : k = 6
    · subst h6; rfl
    · simp [dsw, h5, h6]
section DSW
variable {s : State} {H : Heap} {locs : List Loc} {D : va_G} {A : Nat → Prop} {bs : Nat} {cyI cyJ cyO : ClassId} {P : List Nat} {g : Nat → va_E} {d : Nat → Nat} {eA vr vt : Nat} {ol fd dc : Int32} {ds : Nat → Int32} {fw : Nat → Int32} {fn : Nat → Nat} {ff : Nat → Nat → Int32} {qw : Nat → Int32} {qn : Nat → Nat} {qf : Nat → Nat → Int32} {va tr : Nat → Int64}
theorem dZ_sw (Z : dZ D cyI cyJ cyO A bs P g d eA vr vt ol fd dc ds fw fn ff qw qn qf va tr s H locs) : dZ D cyI cyJ cyO A bs P g (dsw d) eA vr vt ol fd dc ds fw fn ff qw qn qf tr va s H locs := by
  obtain ⟨rs, rr, at', fa, ra, ⟨h1, h2, h3, h4⟩, hF⟩ := Z
  refine ⟨rs, rr, at', fa, ra, ⟨h1.part (cx := XD (dsw d) cyI cyJ cyO eA vr vt rs rr at' fa ra ol fd dc ds tr va) [0, 1, 2, 3, 4, 6, 5, 7] rfl, h2, h3.part (cx := XD (dsw d) cyI cyJ cyO eA vr vt rs rr at' fa ra ol fd dc ds tr va) [0, 1, 2, 3, 4, 6, 5, 7] (by decide) rfl, h4⟩, hF⟩
theorem dZ_ws (Z : dZ D cyI cyJ cyO A bs P g (dsw d) eA vr vt ol fd dc ds fw fn ff qw qn qf va tr s H locs) : dZ D cyI cyJ cyO A bs P g d eA vr vt ol fd dc ds fw fn ff qw qn qf tr va s H locs := by
  have h := dZ_sw Z
  rw [dsw_dsw] at h
  exact h
end DSW
