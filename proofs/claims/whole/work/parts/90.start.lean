/-! the law's loop, and its start -/
theorem i32_nI (x : Int32) : ∃ n : Nat, x = nI n := ⟨x.toBitVec.toNat, Int32.toBitVec_inj.mp (by
  show x.toBitVec = BitVec.ofNat 32 x.toBitVec.toNat
  simp)⟩
theorem and31 (x : Int32) : ∃ k : Nat, k < 32 ∧ x &&& nI 31 = nI k := by
  obtain ⟨n, rfl⟩ := i32_nI x
  exact ⟨n % 2 ^ 5, Nat.mod_lt _ (by decide), fa_mask n 5⟩
theorem lg_end {L j : Nat} (hL : L ≤ 3072) (hj : 6 * j ≤ L) (h : ¬ (nI L - nI 6 < nI (6 * j))) : 6 * j + 6 ≤ L := by
  rcases Nat.lt_or_ge L (6 * j + 6) with q | q
  · exfalso
    apply h
    rw [Int32.lt_iff_toInt_lt, pk_sub_toInt (by omega) (by omega)]
    have h1 := pk_sub_toInt (a := 6 * j) (b := 0) (by omega) (by omega)
    rw [pk_sub (Nat.zero_le _), Nat.sub_zero] at h1
    rw [h1]
    omega
  · exact q
theorem gZ_swap {s : State} {H : Heap} {locs : List Loc} {D : va_G} {A : Nat → Prop} {bs : Nat} {tys : List (ClassId × FieldType)} {F X : va_W} (Z : gZ D tys (F ++ X) A bs s H locs) : gZ D tys (X ++ F) A bs s H locs := by
  refine ⟨fun k q h => ?_, Z.2.1, ⟨fun i j p q hp hq e => ?_, fun k q h => ?_⟩, Z.2.2.2⟩
  · rcases ap_get h with ⟨_, h⟩ | ⟨_, h⟩
    · exact Z.1 _ q (ap_r h)
    · exact Z.1 _ q (ap_l h)
  · rcases ap_get hp with ⟨a1, a2⟩ | ⟨a1, a2⟩ <;> rcases ap_get hq with ⟨b1, b2⟩ | ⟨b1, b2⟩
    · have := Z.2.2.1.1 _ _ _ _ (ap_r (F := F) a2) (ap_r (F := F) b2) e
      omega
    · have h1 := Z.2.2.1.1 _ _ _ _ (ap_r (F := F) a2) (ap_l (X := X) b2) e
      have h2 := (List.getElem?_eq_some_iff.mp b2).1
      omega
    · have h1 := Z.2.2.1.1 _ _ _ _ (ap_l (X := X) a2) (ap_r (F := F) b2) e
      have h2 := (List.getElem?_eq_some_iff.mp a2).1
      omega
    · have := Z.2.2.1.1 _ _ _ _ (ap_l (X := X) a2) (ap_l (X := X) b2) e
      omega
  · rcases ap_get h with ⟨_, h⟩ | ⟨_, h⟩
    · exact Z.2.2.1.2 _ _ (ap_r (F := F) h)
    · exact Z.2.2.1.2 _ _ (ap_l (X := X) h)
section LLOOP
variable {p : Program} {l : Launch} {e : Env} {s : State} {m : MethodId} {below : List Frame} {meth : Method} {c : Code} {H : Heap} {locs : List Loc} {b L : Nat} {xs : Nat → Int32} {D : va_G} {A : Nat → Prop} {bs : Nat} {cyI cyJ cyO : ClassId} {a d : Nat → Nat} {eA o : Nat}
theorem LI_S (I : LI D cyI cyJ cyO A bs a d eA o s H locs) : va_S A s.heap H locs := by
  obtain ⟨_, _, _, _, _, _, _, _, _, _, _, _, _, _, _, _, _, _, _, _, _, _, _, _, _, _, _, _, _, _, _, _, Z, _⟩ := I
  exact lZ_S Z
set_option maxRecDepth 20000 in
set_option maxHeartbeats 4000000 in
theorem lw_loop (C : LC p l s m meth c b L xs A) (hA : ∀ q, bs ≤ q → A q) (hL : L ≤ 3072) (hAs : ∀ q, A q → s.heap.size ≤ q) : ∀ (n j : Nat), 6 * j ≤ L → L + 1 ≤ 6 * j + 6 * n → ∀ (H : Heap) (locs : List Loc) (ls : Array Slot), LI D cyI cyJ cyO A bs a d eA o s H locs → lv_has ls 8 [(0, .ref b), (1, .ref (d 0)), (2, .ref (a 0)), (3, .ref o), (4, .int (nI (6 * j)))] → W p l e room_1 s m #[Value.ref b] below meth c H locs (25 + 4 * j) (2800 + 29 * j) (lw_Z below #[Value.ref b] s) (F0 m 23 ls []) := by
  intro n
  induction n with
  | zero =>
    intro j h1 h2
    exact absurd h2 (by omega)
  | succ n ih =>
    intro j h1 h2 H locs ls I hl
    obtain ⟨C0, hrl, hX, hbl, hbA, hlf, hN, hT⟩ := id C
    have hS := LI_S I
    refine lv_iload C0.1 C0.2.1 dL_law_23 (lv_at hl 4 rfl) ?_
    refine lv_aload_n C0.1 C0.2.1 dL_law_25 rfl (lv_at hl 0 rfl) ?_
    refine va_slen C0.1 C0.2.1 hX hbl hbA hS dL_law_26 ?_
    refine lv_bipush (v := nI 6) C0.1 C0.2.1 dL_law_27 (by decide +kernel) ?_
    refine lv_isub C0.1 C0.2.1 dL_law_29 ?_
    refine lv_icmp_gt (tgt := 1105) C0.1 C0.2.1 dL_law_30 (by decide) (fun _ => ?_) (fun hng => ?_)
    · refine lv_iconst (v := 1) C0.1 C0.2.1 dL_law_1105 (by decide) ?_
      refine va_forget (fun q hq => hAs _ (hS.2.2 q hq)) ?_
      refine W.widen (k := 990525) (n := 6032369) (by omega) (by omega) ?_
      exact lw_ret C0.1 C0.2.1 hrl.1 hrl.2 dL_law_1106
    have h6 : 6 * j + 6 ≤ L := lg_end hL h1 hng
    refine lv_aload_n C0.1 C0.2.1 dL_law_33 rfl (lv_at hl 0 rfl) ?_
    refine lv_iload C0.1 C0.2.1 dL_law_34 (lv_at hl 4 rfl) ?_
    refine va_sld C0.1 C0.2.1 hX hbl hbA hS (vp_in_nI (by omega) (by omega)) dL_law_36 ?_
    refine lv_bipush (v := nI 31) C0.1 C0.2.1 dL_law_37 (by decide +kernel) ?_
    refine lv_iand C0.1 C0.2.1 dL_law_39 ?_
    obtain ⟨k, hk, ek⟩ := and31 (xs (nI (6 * j)).toNatClampNeg)
    rw [ek]
    have hin : ∀ i : Nat, 0 < i → i < 6 → vp_in (nI (6 * j) + nI i) L := fun i _ hi => by
      rw [nI_add]; exact vp_in_nI (by omega) (by omega)
    have K : ∀ (H1 : Heap) (locs1 : List Loc) (ls1 : Array Slot), LI D cyI cyJ cyO A bs a d eA o s H1 locs1 → lv_has ls1 8 [(0, .ref b), (1, .ref (d 0)), (2, .ref (a 0)), (3, .ref o), (4, .int (nI (6 * j)))] → W p l e room_1 s m #[Value.ref b] below meth c H1 locs1 (25 + 4 * j + 4) (2800 + 29 * j + 29) (lw_Z below #[Value.ref b] s) (F0 m 1099 ls1 []) := by
      intro H1 locs1 ls1 I1 hl1
      refine lv_iinc (v := nI (6 * (j + 1))) (lv' := [(4, .int (nI (6 * (j + 1)))), (0, .ref b), (1, .ref (d 0)), (2, .ref (a 0)), (3, .ref o)]) C0.1 C0.2.1 dL_law_1099 hl1 (k := 4) rfl (by rw [show Int32.ofInt 6 = nI 6 by decide +kernel, nI_add]; exact congrArg nI (by omega)) (by decide) rfl (fun ls hl => ?_)
      refine lv_goto (tgt := 23) C0.1 C0.2.1 dL_law_1102 (by decide) ?_
      refine W.widen (k := 25 + 4 * (j + 1)) (n := 2800 + 29 * (j + 1)) (by omega) (by omega) ?_
      exact ih (j + 1) (by omega) (by omega) H1 locs1 _ I1 (lv_sub hl [1, 2, 3, 4, 0] rfl)
    have hR : 25 + 4 * j + 4 ≤ room_1.cells ∧ 2800 + 29 * j + 29 ≤ room_1.slots := ⟨by show _ ≤ 990525; omega, by show _ ≤ 6032369; omega⟩
    have hcase : k = 0 ∨ k = 1 ∨ k = 2 ∨ k = 3 ∨ k = 4 ∨ k = 5 ∨ k = 6 ∨ k = 7 ∨ k = 8 ∨ k = 9 ∨ k = 10 ∨ k = 11 ∨ k = 12 ∨ k = 13 ∨ k = 14 ∨ k = 15 ∨ k = 16 ∨ k = 17 ∨ k = 18 ∨ k = 19 ∨ k = 20 ∨ 20 < k := by omega
    rcases hcase with rfl | rfl | rfl | rfl | rfl | rfl | rfl | rfl | rfl | rfl | rfl | rfl | rfl | rfl | rfl | rfl | rfl | rfl | rfl | rfl | rfl | hgt
    · exact lv_tableIn (off := 100) (tgt := 140) C0.1 C0.2.1 dL_law_40 (by decide +kernel) (by decide +kernel) (by decide +kernel) (by decide) (lc_number C hA I hin hl hR K)
    · exact lv_tableIn (off := 156) (tgt := 196) C0.1 C0.2.1 dL_law_40 (by decide +kernel) (by decide +kernel) (by decide +kernel) (by decide) (lc_cell C hA I hin hl hR K)
    · exact lv_tableIn (off := 212) (tgt := 252) C0.1 C0.2.1 dL_law_40 (by decide +kernel) (by decide +kernel) (by decide +kernel) (by decide) (lc_sign C hA I hin hl hR K)
    · exact lv_tableIn (off := 268) (tgt := 308) C0.1 C0.2.1 dL_law_40 (by decide +kernel) (by decide +kernel) (by decide +kernel) (by decide) (lc_wipe C hA I hin hl hR K)
    · exact lv_tableIn (off := 281) (tgt := 321) C0.1 C0.2.1 dL_law_40 (by decide +kernel) (by decide +kernel) (by decide +kernel) (by decide) (lc_fault C hA I hin hl hR K)
    · exact lv_tableIn (off := 294) (tgt := 334) C0.1 C0.2.1 dL_law_40 (by decide +kernel) (by decide +kernel) (by decide +kernel) (by decide) (lc_set C hA I hin hl hR K)
    · exact lv_tableIn (off := 350) (tgt := 390) C0.1 C0.2.1 dL_law_40 (by decide +kernel) (by decide +kernel) (by decide +kernel) (by decide) (lc_put C hA I hin hl hR K)
    · exact lv_tableIn (off := 418) (tgt := 458) C0.1 C0.2.1 dL_law_40 (by decide +kernel) (by decide +kernel) (by decide +kernel) (by decide) (lc_clear C hA I hin hl hR K)
    · exact lv_tableIn (off := 474) (tgt := 514) C0.1 C0.2.1 dL_law_40 (by decide +kernel) (by decide +kernel) (by decide +kernel) (by decide) (lc_open C hA I hin hl hR K)
    · exact lv_tableIn (off := 518) (tgt := 558) C0.1 C0.2.1 dL_law_40 (by decide +kernel) (by decide +kernel) (by decide +kernel) (by decide) (lc_drop C hA I hin hl hR K)
    · exact lv_tableIn (off := 562) (tgt := 602) C0.1 C0.2.1 dL_law_40 (by decide +kernel) (by decide +kernel) (by decide +kernel) (by decide) (lc_keep C hA I hin hl hR K)
    · exact lv_tableIn (off := 606) (tgt := 646) C0.1 C0.2.1 dL_law_40 (by decide +kernel) (by decide +kernel) (by decide +kernel) (by decide) (lc_layers C hA I hin hl hR K)
    · exact lv_tableIn (off := 619) (tgt := 659) C0.1 C0.2.1 dL_law_40 (by decide +kernel) (by decide +kernel) (by decide +kernel) (by decide) (lc_drafted C hA I hin hl hR K)
    · exact lv_tableIn (off := 632) (tgt := 672) C0.1 C0.2.1 dL_law_40 (by decide +kernel) (by decide +kernel) (by decide +kernel) (by decide) (lc_value C hA I hin hl hR K)
    · exact lv_tableIn (off := 687) (tgt := 727) C0.1 C0.2.1 dL_law_40 (by decide +kernel) (by decide +kernel) (by decide +kernel) (by decide) (lc_valueAnew C hA I hin hl hR K)
    · exact lv_tableIn (off := 742) (tgt := 782) C0.1 C0.2.1 dL_law_40 (by decide +kernel) (by decide +kernel) (by decide +kernel) (by decide) (lc_signs C hA I hin hl hR K)
    · exact lv_tableIn (off := 798) (tgt := 838) C0.1 C0.2.1 dL_law_40 (by decide +kernel) (by decide +kernel) (by decide +kernel) (by decide) (lc_level C hA I hin hl hR K)
    · exact lv_tableIn (off := 854) (tgt := 894) C0.1 C0.2.1 dL_law_40 (by decide +kernel) (by decide +kernel) (by decide +kernel) (by decide) (lc_depends C hA I hin hl hR K)
    · exact lv_tableIn (off := 929) (tgt := 969) C0.1 C0.2.1 dL_law_40 (by decide +kernel) (by decide +kernel) (by decide +kernel) (by decide) (lc_faulty C hA I hin hl hR K)
    · exact lv_tableIn (off := 942) (tgt := 982) C0.1 C0.2.1 dL_law_40 (by decide +kernel) (by decide +kernel) (by decide +kernel) (by decide) (lc_foundAnew C hA I hin hl hR K)
    · exact lv_tableIn (off := 955) (tgt := 995) C0.1 C0.2.1 dL_law_40 (by decide +kernel) (by decide +kernel) (by decide +kernel) (by decide) (lc_seek C hA I hin hl hR K)
    · have hgt2 : (20 : Int) < (nI k).toInt := by
        have h1 := pk_sub_toInt (a := k) (b := 0) (by omega) (by omega)
        rw [pk_sub (Nat.zero_le _), Nat.sub_zero] at h1
        rw [h1]
        omega
      refine lv_tableOut (tgt := 1099) C0.1 C0.2.1 dL_law_40 (Or.inr hgt2) (by decide) ?_
      exact W.widen (k := 25 + 4 * j + 4) (n := 2800 + 29 * j + 29) (by omega) (by omega) (K H locs ls I hl)
end LLOOP
