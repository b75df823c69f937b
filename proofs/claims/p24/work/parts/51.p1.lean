/-! sets of cells as masks; Integer.bitCount is the count of a set -/
/-- m is the mask of the set p of cells below 30 -/
def mk (p : Nat → Bool) (m : Int32) : Prop := ∀ i, i < 32 → bt m i = (decide (i < 30) && p i)
theorem mk_or {p q : Nat → Bool} {a b : Int32} (h : mk p a) (h2 : mk q b) : mk (fun i => p i || q i) (a ||| b) := fun i hi => by
  rw [b_or, h i hi, h2 i hi]; cases decide (i < 30) <;> simp
theorem mk_and {p q : Nat → Bool} {a b : Int32} (h : mk p a) (h2 : mk q b) : mk (fun i => p i && q i) (a &&& b) := fun i hi => by
  rw [b_and, h i hi, h2 i hi]; cases decide (i < 30) <;> simp
theorem mk_sdiff {p q : Nat → Bool} {a b : Int32} (h : mk p a) (h2 : mk q b) : mk (fun i => p i && !q i) (a &&& (b ^^^ (-1))) := fun i hi => by
  rw [b_and, b_xor, h i hi, h2 i hi, b_m1 i hi]; cases decide (i < 30) <;> simp
theorem mk_0 : mk (fun _ => false) 0 := fun i _ => by rw [b_0]; simp
theorem mk_one : ∀ k, k < 30 → ∀ i, i < 32 → bt ((1 : Int32) <<< (nI k &&& 31)) i = (decide (i < 30) && (i == k)) := by decide +kernel
theorem mk_only {k : Nat} (hk : k < 30) : mk (fun i => i == k) ((1 : Int32) <<< (nI k &&& 31)) := mk_one k hk
theorem mk_ext {p q : Nat → Bool} {a : Int32} (h : mk p a) (e : ∀ i, i < 30 → p i = q i) : mk q a := fun i hi => by
  rw [h i hi]
  rcases Nat.lt_or_ge i 30 with z | z
  · rw [e i z]
  · simp [Nat.not_lt.mpr z]
theorem mk_at {p : Nat → Bool} {a : Int32} (h : mk p a) {i : Nat} (hi : i < 30) : bt a i = p i := by
  rw [h i (by omega)]; simp [hi]
theorem mk_inj {p q : Nat → Bool} {a b : Int32} (h : mk p a) (h2 : mk q b) : a = b ↔ ∀ i, i < 30 → p i = q i := by
  constructor
  · intro e i hi
    rw [← mk_at h hi, ← mk_at h2 hi, e]
  · intro e
    refine b_ext (fun i hi => ?_)
    rw [h i hi, h2 i hi]
    rcases Nat.lt_or_ge i 30 with z | z
    · rw [e i z]
    · simp [Nat.not_lt.mpr z]
theorem mk_z {p : Nat → Bool} {a : Int32} (h : mk p a) : a = 0 ↔ ∀ i, i < 30 → p i = false := mk_inj h mk_0
theorem mk_ne {p : Nat → Bool} {a : Int32} (h : mk p a) : ¬ a = 0 ↔ ∃ i, i < 30 ∧ p i = true := by
  rw [mk_z h]
  constructor
  · intro q
    refine Classical.byContradiction (fun z => q (fun i hi => ?_))
    cases e : p i
    · rfl
    · exact absurd ⟨i, hi, e⟩ z
  · rintro ⟨i, hi, e⟩ q
    rw [q i hi] at e; exact absurd e (by decide)
theorem bt_low (x : Int32) : x &&& 1 = if bt x 0 then 1 else 0 := by
  refine b_ext (fun i hi => ?_)
  rw [b_and]
  have e : ∀ i, i < 32 → bt 1 i = decide (i = 0) := by decide +kernel
  rw [e i hi]
  rcases Nat.eq_zero_or_pos i with z | z
  · subst z; cases bt x 0 <;> decide
  · rw [decide_eq_false (by omega)]
    cases bt x 0
    · simp [b_0]
    · simp [e i hi]; omega
theorem mk_holds {p : Nat → Bool} {a : Int32} (h : mk p a) {k : Nat} (hk : k < 30) : (a >>> (nI k &&& 31)) &&& 1 = if p k then 1 else 0 := by
  rw [bt_low, b_sshr k (by omega) a (by omega), if_pos (show k + 0 < 32 by omega), Nat.add_zero, mk_at h hk]
/-! bitCount -/
def bc_g (a : Nat) : Nat := a % 2 + a / 2 % 2 + a / 4 % 2 + a / 8 % 2
def bc_5 : Nat → Nat
  | 0 => 0
  | n + 1 => 5 + 16 * bc_5 n
def bc_3 : Nat → Nat
  | 0 => 0
  | n + 1 => 3 + 16 * bc_3 n
def bc_P : Nat → Nat → Nat
  | 0 => fun _ => 0
  | n + 1 => fun x => bc_g (x % 16) + 16 * bc_P n (x / 16)
def bc_D : Nat → Nat → Nat
  | 0 => fun _ => 0
  | n + 1 => fun x => bc_g (x % 16) + bc_D n (x / 16)
theorem bc_and {u v : Nat} (U V : Nat) (hu : u < 16) (hv : v < 16) : (u + 16 * U) &&& (v + 16 * V) = (u &&& v) + 16 * (U &&& V) := by
  have h1 : ((u + 16 * U) &&& (v + 16 * V)) % 2 ^ 4 = (u &&& v) := by
    rw [Nat.and_mod_two_pow, show (u + 16 * U) % 2 ^ 4 = u by omega, show (v + 16 * V) % 2 ^ 4 = v by omega]
  have h2 : ((u + 16 * U) &&& (v + 16 * V)) >>> 4 = (U &&& V) := by
    rw [Nat.shiftRight_and_distrib, Nat.shiftRight_eq_div_pow, Nat.shiftRight_eq_div_pow, show (u + 16 * U) / 2 ^ 4 = U by omega, show (v + 16 * V) / 2 ^ 4 = V by omega]
  rw [Nat.shiftRight_eq_div_pow] at h2
  omega
theorem bc_d1 : ∀ a, a < 16 → ∀ b, b < 2 → (a / 2 + 8 * b) &&& 5 = a / 2 &&& 5 := by decide +kernel
theorem bc_d2 : ∀ a, a < 16 → (a / 2 &&& 5) ≤ a := by decide +kernel
theorem bc_d3 : ∀ a, a < 16 → ∀ b, b < 4 → ((a - (a / 2 &&& 5)) / 4 + 4 * b) &&& 3 = ((a - (a / 2 &&& 5)) / 4) &&& 3 := by decide +kernel
theorem bc_d4 : ∀ a, a < 16 → ((a - (a / 2 &&& 5)) &&& 3) + (((a - (a / 2 &&& 5)) / 4) &&& 3) = bc_g a := by decide +kernel
theorem bc_S : ∀ (n x : Nat), x < 16 ^ n → ((x - (x / 2 &&& bc_5 n)) &&& bc_3 n) + (((x - (x / 2 &&& bc_5 n)) / 4) &&& bc_3 n) = bc_P n x
  | 0, x, h => by
    have : x = 0 := by simpa using h
    subst this; rfl
  | n + 1, x, h => by
    have ih := bc_S n (x / 16) (by rw [Nat.pow_succ] at h; omega)
    obtain ⟨a, X, ha, e, e1, e2⟩ : ∃ a X, a < 16 ∧ x = a + 16 * X ∧ x % 16 = a ∧ x / 16 = X := ⟨x % 16, x / 16, by omega, by omega, rfl, rfl⟩
    rw [e2] at ih
    have hX : (X / 2 &&& bc_5 n) ≤ X := Nat.le_trans Nat.and_le_left (by omega)
    have f1 : x / 2 = (a / 2 + 8 * (X % 2)) + 16 * (X / 2) := by omega
    have f2 : x / 2 &&& bc_5 (n + 1) = (a / 2 &&& 5) + 16 * (X / 2 &&& bc_5 n) := by
      rw [f1, bc_5, bc_and _ _ (by omega) (by omega), bc_d1 a ha _ (by omega)]
    have d2 := bc_d2 a ha
    have f3 : x - (x / 2 &&& bc_5 (n + 1)) = (a - (a / 2 &&& 5)) + 16 * (X - (X / 2 &&& bc_5 n)) := by
      rw [f2, e]; omega
    rw [f3]
    have hY : ∀ Y : Nat, ((a - (a / 2 &&& 5)) + 16 * Y) / 4 = ((a - (a / 2 &&& 5)) / 4 + 4 * (Y % 4)) + 16 * (Y / 4) := by intro Y; omega
    rw [hY, bc_3, bc_and _ _ (by omega) (by omega), bc_and _ _ (by omega) (by omega), bc_d3 a ha _ (by omega)]
    have d4 := bc_d4 a ha
    show _ = bc_g (x % 16) + 16 * bc_P n (x / 16)
    rw [e1, e2]
    omega
theorem bc_g4 : ∀ a, a < 16 → bc_g a ≤ 4 := by decide +kernel
theorem bc_f15 : ∀ a, a < 16 → a &&& 15 = a := by decide +kernel
theorem bc_two {u : Nat} (v W m : Nat) (hu : u < 16) (hv : v < 16) : (u + 16 * (v + 16 * W)) &&& (15 + 16 * (0 + 16 * m)) = u + 256 * (W &&& m) := by
  rw [bc_and _ _ hu (by omega), bc_and _ _ hv (by omega), bc_f15 u hu, Nat.and_zero]; omega
theorem bc_end {a0 a1 a2 a3 a4 a5 a6 a7 : Nat} (h0 : a0 ≤ 4) (h1 : a1 ≤ 4) (h2 : a2 ≤ 4) (h3 : a3 ≤ 4) (h4 : a4 ≤ 4) (h5 : a5 ≤ 4) (h6 : a6 ≤ 4) (h7 : a7 ≤ 4) (z : Nat) (hz : z = a0 + 16 * (a1 + 16 * (a2 + 16 * (a3 + 16 * (a4 + 16 * (a5 + 16 * (a6 + 16 * (a7 + 16 * 0)))))))) : ((z + z / 16) &&& 252645135) = (a0 + a1) + 256 * ((a2 + a3) + 256 * ((a4 + a5) + 256 * (a6 + a7))) := by
  have e : z + z / 16 = (a0 + a1) + 16 * ((a1 + a2) + 16 * ((a2 + a3) + 16 * ((a3 + a4) + 16 * ((a4 + a5) + 16 * ((a5 + a6) + 16 * ((a6 + a7) + 16 * (a7 + 16 * 0))))))) := by omega
  rw [e, show (252645135 : Nat) = 15 + 16 * (0 + 16 * (15 + 16 * (0 + 16 * (15 + 16 * (0 + 16 * (15 + 16 * (0 + 16 * 0))))))) from rfl]
  rw [bc_two _ _ _ (by omega) (by omega), bc_two _ _ _ (by omega) (by omega), bc_two _ _ _ (by omega) (by omega), bc_two _ _ _ (by omega) (by omega), Nat.and_zero]
  omega
theorem bc_fin {q0 q1 q2 q3 : Nat} (h0 : q0 ≤ 8) (h1 : q1 ≤ 8) (h2 : q2 ≤ 8) (h3 : q3 ≤ 8) (w : Nat) (hw : w = q0 + 256 * (q1 + 256 * (q2 + 256 * q3))) : ((w + w / 256) + (w + w / 256) / 65536) % 64 = q0 + q1 + q2 + q3 := by
  have e : w / 256 = q1 + 256 * (q2 + 256 * q3) := by omega
  have e2 : w + w / 256 = (q0 + q1) + 256 * (q1 + q2) + 65536 * ((q2 + q3) + 256 * q3) := by omega
  have e3 : (w + w / 256) / 65536 = (q2 + q3) + 256 * q3 := by omega
  rw [e3, e2]; omega
theorem bc_bit (x i : Nat) (hi : i < 4) : x.testBit i = (x % 16).testBit i := by
  rw [show (16 : Nat) = 2 ^ 4 from rfl, Nat.testBit_mod_two_pow]; simp [hi]
theorem bc_c4 : ∀ a, a < 16 → fb_ct (fun i => a.testBit i) 4 = bc_g a := by decide +kernel
theorem bc_ct : ∀ (n x : Nat), fb_ct (fun i => x.testBit i) (4 * n) = bc_D n x
  | 0, x => rfl
  | n + 1, x => by
    rw [show 4 * (n + 1) = 4 + 4 * n by omega, fb_ct_split]
    have e1 : fb_ct (fun i => x.testBit i) 4 = bc_g (x % 16) := by
      rw [← bc_c4 _ (Nat.mod_lt _ (by omega))]
      exact fb_ct_cong (fun k hk => bc_bit x k hk)
    have e2 : fb_ct (fun k => x.testBit (4 + k)) (4 * n) = bc_D n (x / 16) := by
      rw [← bc_ct n (x / 16)]
      refine fb_ct_cong (fun k _ => ?_)
      rw [show (16 : Nat) = 2 ^ 4 from rfl, Nat.testBit_div_two_pow, Nat.add_comm]
    rw [e1, e2]; rfl
theorem bc_nat (x : Nat) (h : x < 4294967296) : ∀ z w : Nat, z = ((x - (x / 2 &&& 1431655765)) &&& 858993459) + (((x - (x / 2 &&& 1431655765)) / 4) &&& 858993459) → w = ((z + z / 16) &&& 252645135) → ((w + w / 256) + (w + w / 256) / 65536) % 64 = fb_ct (fun i => x.testBit i) 32 := by
  intro z w hz hw
  have hS := bc_S 8 x (by omega)
  rw [show bc_5 8 = 1431655765 by decide +kernel, show bc_3 8 = 858993459 by decide +kernel, ← hz] at hS
  have g0 := bc_g4 (x % 16) (by omega)
  have g1 := bc_g4 (x / 16 % 16) (by omega)
  have g2 := bc_g4 (x / 16 / 16 % 16) (by omega)
  have g3 := bc_g4 (x / 16 / 16 / 16 % 16) (by omega)
  have g4 := bc_g4 (x / 16 / 16 / 16 / 16 % 16) (by omega)
  have g5 := bc_g4 (x / 16 / 16 / 16 / 16 / 16 % 16) (by omega)
  have g6 := bc_g4 (x / 16 / 16 / 16 / 16 / 16 / 16 % 16) (by omega)
  have g7 := bc_g4 (x / 16 / 16 / 16 / 16 / 16 / 16 / 16 % 16) (by omega)
  have e := bc_end g0 g1 g2 g3 g4 g5 g6 g7 z hS
  rw [← hw] at e
  have e2 := bc_fin (by omega) (by omega) (by omega) (by omega) w e
  rw [e2, show (32 : Nat) = 4 * 8 from rfl, bc_ct]
  simp only [bc_D]
  omega
theorem bc_sh1 {n : Nat} (h : n < 2 ^ 32) : ((nI n).toUInt32 >>> ((1 : Int32).toUInt32 &&& Int32.toUInt32 31)).toInt32 = nI (n / 2) := pk_ushrN h 1 1 (by decide +kernel)
theorem bc_sh2 {n : Nat} (h : n < 2 ^ 32) : ((nI n).toUInt32 >>> ((2 : Int32).toUInt32 &&& Int32.toUInt32 31)).toInt32 = nI (n / 4) := pk_ushrN h 2 2 (by decide +kernel)
theorem bc_sh4 {n : Nat} (h : n < 2 ^ 32) : ((nI n).toUInt32 >>> ((4 : Int32).toUInt32 &&& Int32.toUInt32 31)).toInt32 = nI (n / 16) := pk_ushrN h 4 4 (by decide +kernel)
theorem bc_sh8 {n : Nat} (h : n < 2 ^ 32) : ((nI n).toUInt32 >>> ((8 : Int32).toUInt32 &&& Int32.toUInt32 31)).toInt32 = nI (n / 256) := pk_ushrN h 8 8 (by decide +kernel)
theorem bc_sh16 {n : Nat} (h : n < 2 ^ 32) : ((nI n).toUInt32 >>> ((16 : Int32).toUInt32 &&& Int32.toUInt32 31)).toInt32 = nI (n / 65536) := pk_ushrN h 16 16 (by decide +kernel)
theorem bc_I {x : Nat} (h : x < 4294967296) (N : Nat) : mJ6_bitCount_0f7a4 N (nI x) = some (nI (fb_ct (fun i => x.testBit i) 32)) := by
  unfold mJ6_bitCount_0f7a4
  have a1 : (x / 2 &&& 1431655765) ≤ x := Nat.le_trans Nat.and_le_left (by omega)
  rw [bc_sh1 h, show (1431655765 : Int32) = nI 1431655765 from rfl, show (858993459 : Int32) = nI 858993459 from rfl, show (252645135 : Int32) = nI 252645135 from rfl, fa_and, pk_sub a1]
  obtain ⟨y, hy⟩ : ∃ y, y = x - (x / 2 &&& 1431655765) := ⟨_, rfl⟩
  rw [← hy, bc_sh2 (n := y) (by omega), fa_and, fa_and, nI_add]
  obtain ⟨z, hz⟩ : ∃ z, z = (y &&& 858993459) + (y / 4 &&& 858993459) := ⟨_, rfl⟩
  have b1 : y &&& 858993459 ≤ 858993459 := Nat.and_le_right
  have b2 : y / 4 &&& 858993459 ≤ 858993459 := Nat.and_le_right
  rw [← hz, bc_sh4 (n := z) (by omega), nI_add, fa_and]
  obtain ⟨w, hw⟩ : ∃ w, w = ((z + z / 16) &&& 252645135) := ⟨_, rfl⟩
  have b3 : (z + z / 16) &&& 252645135 ≤ 252645135 := Nat.and_le_right
  rw [← hw, bc_sh8 (n := w) (by omega), nI_add, bc_sh16 (n := w + w / 256) (by omega), nI_add, show (63 : Int32) = nI (2 ^ 6 - 1) from rfl, fa_mask]
  subst hy
  rw [bc_nat x h z w hz hw]
theorem bc_tb {x : Nat} (h : x < 4294967296) (i : Nat) : bt (nI x) i = x.testBit i := by
  unfold bt
  show (BitVec.ofNat 32 x).getLsbD i = _
  rw [BitVec.getLsbD_ofNat]
  rcases Nat.lt_or_ge i 32 with z | z
  · simp [z]
  · have : x.testBit i = false := Nat.testBit_lt_two_pow (Nat.lt_of_lt_of_le h (by rw [show (4294967296 : Nat) = 2 ^ 32 from rfl]; exact Nat.pow_le_pow_right (by omega) z))
    simp [this]
theorem mk_count {p : Nat → Bool} {a : Int32} (h : mk p a) (N : Nat) : mJ6_bitCount_0f7a4 N a = some (nI (fb_ct p 30)) := by
  have e : a = nI a.toBitVec.toNat := by
    apply Int32.toBitVec_inj.1
    show a.toBitVec = BitVec.ofNat 32 a.toBitVec.toNat
    simp
  have hx : a.toBitVec.toNat < 4294967296 := a.toBitVec.isLt
  obtain ⟨x, hxx⟩ : ∃ x, x = a.toBitVec.toNat := ⟨_, rfl⟩
  rw [← hxx] at e hx
  rw [e, bc_I hx]
  congr 2
  rw [show (32 : Nat) = 30 + 2 from rfl, fb_ct_split]
  have e1 : ∀ i, i < 32 → x.testBit i = (decide (i < 30) && p i) := fun i hi => by rw [← bc_tb hx, ← e, h i hi]
  have e2 : fb_ct (fun k => x.testBit (30 + k)) 2 = 0 := fb_ct_zero.mpr (fun k hk => by rw [e1 _ (by omega), decide_eq_false (by omega)]; rfl)
  rw [e2, Nat.add_zero]
  exact fb_ct_cong (fun k hk => by rw [e1 k (by omega)]; simp [hk])

