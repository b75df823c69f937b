/-! values: whole numbers or none; two of them by a sign, in both programs -/
abbrev LL (z : Int) : Int64 := Int64.ofInt z
def sm (z : Int) : Prop := -2000000000000000 ≤ z ∧ z ≤ 2000000000000000
def bd (z : Int) : Prop := -1000000000000 ≤ z ∧ z ≤ 1000000000000
theorem bd_sm {z : Int} (h : bd z) : sm z := by unfold bd at h; unfold sm; omega
def cut (z : Int) : Option Int := if -1000000000000 ≤ z ∧ z ≤ 1000000000000 then some z else none
/-- the landed class's long for a value -/
def eL : Option Int → Int64
  | none => -9223372036854775808
  | some z => LL z
def okV (v : Option Int) : Prop := ∀ z, v = some z → bd z
theorem cut_ok (z : Int) : okV (cut z) := fun y h => by
  unfold cut at h
  split at h
  · cases h; assumption
  · cases h
def fq (x y : Int) : Int := if x - x.tdiv y * y = 0 then x.tdiv y else if (x < 0) = (y < 0) then x.tdiv y else x.tdiv y - 1
def comb (c : Nat) : Option Int → Option Int → Option Int
  | some x, some y => if c = 0 then cut (x + y) else if c = 1 then cut (x - y) else if c = 2 then cut (x * y) else if y = 0 then none else cut (fq x y)
  | _, _ => none
theorem comb_some (c : Nat) (x y : Int) : comb c (some x) (some y) = if c = 0 then cut (x + y) else if c = 1 then cut (x - y) else if c = 2 then cut (x * y) else if y = 0 then none else cut (fq x y) := rfl
theorem comb_ok (c : Nat) (a b : Option Int) : okV (comb c a b) := by
  unfold comb
  split
  · split
    · exact cut_ok _
    · split
      · exact cut_ok _
      · split
        · exact cut_ok _
        · split
          · intro z h; cases h
          · exact cut_ok _
  · intro z h; cases h
theorem L_T {z : Int} (h : sm z) : (LL z).toInt = z := Int64.toInt_ofInt_of_le (by unfold sm at h; omega) (by unfold sm at h; omega)
theorem L_lt {a b : Int} (ha : sm a) (hb : sm b) : LL a < LL b ↔ a < b := by rw [Int64.lt_iff_toInt_lt, L_T ha, L_T hb]
theorem L_le {a b : Int} (ha : sm a) (hb : sm b) : LL a ≤ LL b ↔ a ≤ b := by rw [Int64.le_iff_toInt_le, L_T ha, L_T hb]
theorem L_eq {a b : Int} (ha : sm a) (hb : sm b) : LL a = LL b ↔ a = b := by rw [← Int64.toInt_inj, L_T ha, L_T hb]
theorem L_neg (a : Int) : -(LL a) = LL (-a) := (Int64.ofInt_neg a).symm
theorem L_add (a b : Int) : LL a + LL b = LL (a + b) := (Int64.ofInt_add a b).symm
theorem L_sub (a b : Int) : LL a - LL b = LL (a - b) := (Int64.ofInt_sub a b).symm
theorem L_mul (a b : Int) : LL a * LL b = LL (a * b) := (Int64.ofInt_mul a b).symm
theorem L_min : Int64.minValue.toInt = -9223372036854775808 := by decide +kernel
theorem L_max : Int64.maxValue.toInt = 9223372036854775807 := by decide +kernel
theorem L_div {a b : Int} (ha : sm a) (hb : sm b) : LL a / LL b = LL (a.tdiv b) := (Int64.ofInt_tdiv (by rw [L_min]; unfold sm at ha; omega) (by rw [L_max]; unfold sm at ha; omega) (by rw [L_min]; unfold sm at hb; omega) (by rw [L_max]; unfold sm at hb; omega)).symm
theorem L_0 : (0 : Int64) = LL 0 := rfl
theorem L_1 : (1 : Int64) = LL 1 := rfl
theorem L_M : (1000000000000 : Int64) = LL 1000000000000 := rfl
theorem L_nM : (-1000000000000 : Int64) = LL (-1000000000000) := rfl
theorem sm_0 : sm 0 := by unfold sm; omega
theorem L_nF {z : Int} (h : sm z) : LL z ≠ -9223372036854775808 := fun e => by
  have e2 := congrArg Int64.toInt e
  rw [L_T h, show (-9223372036854775808 : Int64).toInt = -9223372036854775808 by decide +kernel] at e2
  unfold sm at h
  omega
theorem cm_lt {a b : Int} (ha : sm a) (hb : sm b) : (lg_cmp (LL a) (LL b) < 0) = (a < b) := by rw [lg_cmp_lt, L_lt ha hb]
theorem cm_le {a b : Int} (ha : sm a) (hb : sm b) : (lg_cmp (LL a) (LL b) ≤ 0) = (a ≤ b) := by rw [lg_cmp_le, L_le ha hb]
theorem cm_ge {a b : Int} (ha : sm a) (hb : sm b) : (0 ≤ lg_cmp (LL a) (LL b)) = (b ≤ a) := by rw [lg_cmp_ge, L_le hb ha]
theorem cm_gt {a b : Int} (ha : sm a) (hb : sm b) : (0 < lg_cmp (LL a) (LL b)) = (b < a) := by rw [lg_cmp_gt, L_lt hb ha]
theorem cm_eq0 {a b : Int} (ha : sm a) (hb : sm b) : (lg_cmp (LL a) (LL b) = 0) = (a = b) := by rw [lg_cmp_eq, L_eq ha hb]
theorem cm_ge0 {a : Int} (ha : sm a) : (0 ≤ lg_cmp (LL a) 0) = (0 ≤ a) := by
  rw [L_0]; exact cm_ge ha sm_0
theorem cm_eq00 {a : Int} (ha : sm a) : (lg_cmp (LL a) 0 = 0) = (a = 0) := by
  rw [L_0]; exact cm_eq0 ha sm_0
theorem cm_F {z : Int} (h : sm z) : ¬ lg_cmp (LL z) (-9223372036854775808) = 0 := fun e => L_nF h ((lg_cmp_eq _ _).mp e)
theorem cm_FF : lg_cmp (-9223372036854775808) (-9223372036854775808) = 0 := (lg_cmp_eq _ _).mpr rfl
theorem L_na {z : Int} (h : sm z) : (if 0 < LL z then LL z else -LL z) = LL z.natAbs := by
  by_cases e : 0 < LL z
  · rw [if_pos e]
    rw [L_0, L_lt sm_0 h] at e
    congr 1; omega
  · rw [if_neg e, L_neg]
    rw [L_0, L_lt sm_0 h] at e
    congr 1; omega
theorem sm_na {z : Int} (h : sm z) : sm z.natAbs := by unfold sm at *; omega
theorem td_M {x y : Int} (hx : x ≠ 0) : ((y.natAbs : Int) ≤ (1000000000000 : Int).tdiv x.natAbs) ↔ bd (x * y) := by
  have e : (1000000000000 : Int).tdiv x.natAbs = ((1000000000000 / x.natAbs : Nat) : Int) := by
    rw [Int.tdiv_eq_ediv_of_nonneg (by omega)]; rfl
  rw [e, Int.ofNat_le, Nat.le_div_iff_mul_le (by omega), Nat.mul_comm, ← Int.natAbs_mul]
  unfold bd; omega
theorem cb_101 {z : Int} (N : Nat) (h : sm z) : mX2_combine_101 N (LL z) = some (eL (cut z)) := by
  unfold mX2_combine_101 mX2_combine_119 mX2_combine_127 cut
  have s1 : sm (-1000000000000) := by unfold sm; omega
  have s2 : sm 1000000000000 := by unfold sm; omega
  rw [L_nM, L_M]
  simp only [cm_lt h s1, cm_le h s2]
  by_cases a : z < -1000000000000
  · rw [if_pos a, if_neg (by omega)]; rfl
  · rw [if_neg a]
    by_cases b : z ≤ 1000000000000
    · rw [if_pos b, if_pos (by omega)]; rfl
    · rw [if_neg b, if_neg (by omega)]; rfl
theorem td_sm {x y : Int} (hx : sm x) (hx2 : -1999999999999999 ≤ x ∧ x ≤ 1999999999999999) : sm (x.tdiv y) ∧ sm (x.tdiv y - 1) := by
  have h := Int.natAbs_tdiv_le_natAbs x y
  unfold sm at *; omega
theorem L_xor {a b : Int} (ha : sm a) (hb : sm b) : (0 ≤ lg_cmp (LL a ^^^ LL b) 0) ↔ ((a < 0) = (b < 0)) := by
  rw [lg_cmp_ge, Int64.le_iff_toInt_le]
  have e : ∀ x : Int64, (0 ≤ x.toInt) ↔ x.toBitVec.msb = false := fun x => by
    rw [BitVec.msb_eq_toInt]
    show 0 ≤ x.toBitVec.toInt ↔ _
    rw [decide_eq_false_iff_not]; omega
  have e2 : ∀ z : Int, sm z → ((LL z).toBitVec.msb = decide (z < 0)) := fun z hz => by
    rw [BitVec.msb_eq_toInt]
    show decide ((LL z).toInt < 0) = _
    rw [L_T hz]
  show (0 : Int64).toInt ≤ _ ↔ _
  rw [show (0 : Int64).toInt = 0 from rfl, e, Int64.toBitVec_xor, BitVec.msb_xor, e2 a ha, e2 b hb]
  by_cases h1 : a < 0 <;> by_cases h2 : b < 0 <;> simp [h1, h2]
theorem fl_div {x y : Int} (N : Nat) (hx : bd x) (hy : bd y) (h0 : y ≠ 0) : mJ9_floorDiv_f86c9 N (LL x) (LL y) = some (LL (fq x y)) ∧ sm (fq x y) := by
  have sx := bd_sm hx
  have sy := bd_sm hy
  have st := td_sm (y := y) sx (by unfold bd at hx; omega)
  have em : (x.tdiv y) * y = x - x.tmod y := by
    have := Int.tmod_add_tdiv_mul x y
    omega
  have hm : (x.tmod y).natAbs ≤ x.natAbs := by
    rw [Int.natAbs_tmod]
    exact Nat.mod_le _ _
  have s3 : sm ((x.tdiv y) * y) := by rw [em]; unfold bd at hx; unfold sm; omega
  constructor
  · unfold mJ9_floorDiv_f86c9 mJ9_floorDiv_f86c9_27 fq
    rw [if_neg (by rw [L_0, L_eq sy sm_0]; exact h0), L_div sx sy, L_mul]
    by_cases a : (x < 0) = (y < 0)
    · rw [if_pos ((L_xor sx sy).mpr a), if_pos a]
      simp
    · rw [if_neg (fun z => a ((L_xor sx sy).mp z)), if_neg a, L_1, L_sub]
      simp only [cm_eq0 s3 sx]
      by_cases b : x - x.tdiv y * y = 0
      · rw [if_pos (by omega), if_pos b]
      · rw [if_neg (by omega), if_neg b]
  · unfold fq
    split
    · exact st.1
    · split
      · exact st.1
      · exact st.2
theorem cb_some {c : Nat} {x y : Int} (N : Nat) (hc : c < 4) (hx : bd x) (hy : bd y) : mX2_combine N (nI c) (LL x) (LL y) = some (eL (comb c (some x) (some y))) := by
  have sx := bd_sm hx
  have sy := bd_sm hy
  unfold mX2_combine mX2_combine_76
  have k0 : (nI c = 0) = (c = 0) := c_eq (a := c) (b := 0) (by omega) (by omega)
  have k1 : (nI c = 1) = (c = 1) := c_eq (a := c) (b := 1) (by omega) (by omega)
  have k2 : (nI c = 2) = (c = 2) := c_eq (a := c) (b := 2) (by omega) (by omega)
  rw [if_neg (cm_F sx), if_neg (cm_F sy), L_add, L_sub, L_mul]
  simp only [k0, k1, k2]
  rw [comb_some]
  by_cases h0 : c = 0
  · rw [if_pos h0, if_pos h0]
    exact cb_101 N (by unfold bd at hx hy; unfold sm; omega)
  · rw [if_neg h0]
    rw [if_neg h0]
    by_cases h1 : c = 1
    · rw [if_pos h1, if_pos h1]
      exact cb_101 N (by unfold bd at hx hy; unfold sm; omega)
    · rw [if_neg h1]
      rw [if_neg h1]
      by_cases h2 : c = 2
      · rw [if_pos h2, if_pos h2]
        have kz : (lg_cmp (LL x) 0 = 0) = (x = 0) := cm_eq00 sx
        by_cases x0 : x = 0
        · rw [if_pos (kz.mpr x0)]
          exact cb_101 N (by rw [x0, Int.zero_mul]; exact sm_0)
        · have sM : sm 1000000000000 := by unfold sm; omega
          have sd := (td_sm (x := 1000000000000) (y := x.natAbs) sM (by omega)).1
          rw [if_neg (fun z => x0 (kz.mp z)), L_na sx, L_na sy, if_neg (by rw [L_0, L_eq (sm_na sx) sm_0]; omega), L_M, L_div sM (sm_na sx)]
          simp only [cm_le (sm_na sy) sd]
          by_cases g : (y.natAbs : Int) ≤ (1000000000000 : Int).tdiv x.natAbs
          · rw [if_pos g]
            exact cb_101 N (bd_sm ((td_M x0).mp g))
          · rw [if_neg g]
            have : cut (x * y) = none := if_neg (fun z => g ((td_M x0).mpr z))
            rw [this]; rfl
      · rw [if_neg h2]
        rw [if_neg h2]
        have kz : (lg_cmp (LL y) 0 = 0) = (y = 0) := cm_eq00 sy
        by_cases y0 : y = 0
        · rw [if_pos (kz.mpr y0), if_pos y0]; rfl
        · obtain ⟨e, s⟩ := fl_div N hx hy y0
          rw [if_neg (fun z => y0 (kz.mp z)), if_neg y0, e, Option.bind_some]
          exact cb_101 N s
theorem cb {c : Nat} {u v : Option Int} (N : Nat) (hc : c < 4) (hu : okV u) (hv : okV v) : mX2_combine N (nI c) (eL u) (eL v) = some (eL (comb c u v)) := by
  cases u with
  | none =>
    have : comb c none v = none := rfl
    rw [this]
    exact if_pos cm_FF
  | some x =>
    cases v with
    | none =>
      have : comb c (some x) none = none := rfl
      rw [this]
      show mX2_combine N (nI c) (LL x) (-9223372036854775808) = _
      unfold mX2_combine
      rw [if_neg (cm_F (bd_sm (hu x rfl))), if_pos cm_FF]
      rfl
    | some y => exact cb_some N hc (hu x rfl) (hv y rfl)
/-! the reference's two of the stack -/
