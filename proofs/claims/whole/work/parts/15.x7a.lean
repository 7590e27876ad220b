/-! the reference: its helpers and its year -/
def zFr (ps fs : List Nat) (M M' : ZMem) : Prop := (∀ k, k ∉ ps → k ≠ 90 → M' k = M k) ∧ (∀ j, j ∉ fs → M' 90 j = M 90 j)
theorem zFr.rf {ps fs : List Nat} {M : ZMem} : zFr ps fs M M := ⟨fun _ _ _ => rfl, fun _ _ => rfl⟩
theorem zFr.tr {ps fs : List Nat} {M M1 M2 : ZMem} (h1 : zFr ps fs M M1) (h2 : zFr ps fs M1 M2) : zFr ps fs M M2 := ⟨fun k a b => (h2.1 k a b).trans (h1.1 k a b), fun j a => (h2.2 j a).trans (h1.2 j a)⟩
theorem zFr.mono {ps fs ps' fs' : List Nat} {M M' : ZMem} (h : zFr ps fs M M') (h1 : ∀ x ∈ ps, x ∈ ps') (h2 : ∀ x ∈ fs, x ∈ fs') : zFr ps' fs' M M' := ⟨fun k a b => h.1 k (fun z => a (h1 k z)) b, fun j a => h.2 j (fun z => a (h2 j z))⟩
theorem zFr.up {ps fs : List Nat} {M : ZMem} {b k : Nat} {v : Int32} (hb : b ∈ ps) (h90 : b ≠ 90) : zFr ps fs M (zup M b k v) := ⟨fun x a _ => zup_ne (fun e => a (e ▸ hb)), fun j _ => by rw [zup_ne (Ne.symm h90)]⟩
theorem zFr.uf {ps fs : List Nat} {M : ZMem} {k : Nat} {v : Int32} (hk : k ∈ fs) : zFr ps fs M (zup M 90 k v) := ⟨fun x _ h => zup_ne h, fun j a => by
  have hj : j ≠ k := fun e => a (by rw [e]; exact hk)
  rw [zup_eq, upd_n hj]⟩
section
variable {M : ZMem} {c : ZCty}
theorem zAm_M {i w : Nat} (h : zAm M c) : zAm (zup M 94 i (nI w)) (setM c (fu (yM c) i w)) := by
  obtain ⟨hN, hY, hK, hF, hM, hS, hX⟩ := h
  refine ⟨by rw [zup_ne (by omega)]; exact hN, by rw [zup_ne (by omega)]; exact hY, by rw [zup_ne (by omega)]; exact hK, by rw [zup_ne (by omega)]; exact hF, ?_, by rw [zup_ne (by omega)]; exact hS, by rw [zup_ne (by omega)]; exact hX⟩
  rw [zup_eq]
  exact zupd_fu (h := fun x => x) hM rfl
theorem zAm_S {i : Nat} {r : Nat → Bool} (h : zAm M c) : zAm (zup M 95 i (nI (zm 8 r))) (setS c (fu (yS c) i r)) := by
  obtain ⟨hN, hY, hK, hF, hM, hS, hX⟩ := h
  refine ⟨by rw [zup_ne (by omega)]; exact hN, by rw [zup_ne (by omega)]; exact hY, by rw [zup_ne (by omega)]; exact hK, by rw [zup_ne (by omega)]; exact hF, by rw [zup_ne (by omega)]; exact hM, ?_, by rw [zup_ne (by omega)]; exact hX⟩
  rw [zup_eq]
  exact zupd_row hS
theorem zAm_X {i : Nat} {r : Nat → Bool} (h : zAm M c) : zAm (zup M 96 i (nI (zm 8 r))) (setX c (fu (yX c) i r)) := by
  obtain ⟨hN, hY, hK, hF, hM, hS, hX⟩ := h
  refine ⟨by rw [zup_ne (by omega)]; exact hN, by rw [zup_ne (by omega)]; exact hY, by rw [zup_ne (by omega)]; exact hK, by rw [zup_ne (by omega)]; exact hF, by rw [zup_ne (by omega)]; exact hM, by rw [zup_ne (by omega)]; exact hS, ?_⟩
  rw [zup_eq]
  exact zupd_row hX
theorem zAm_K {i w : Nat} (h : zAm M c) : zAm (zup M 92 i (nI w)) (setK c (fu (yK c) i w)) := by
  obtain ⟨hN, hY, hK, hF, hM, hS, hX⟩ := h
  refine ⟨by rw [zup_ne (by omega)]; exact hN, by rw [zup_ne (by omega)]; exact hY, ?_, by rw [zup_ne (by omega)]; exact hF, by rw [zup_ne (by omega)]; exact hM, by rw [zup_ne (by omega)]; exact hS, by rw [zup_ne (by omega)]; exact hX⟩
  rw [zup_eq]
  exact zupd_fu (h := fun x => x) hK rfl
theorem zAm_F {i w : Nat} (h : zAm M c) : zAm (zup M 93 i (nI w)) (setF c (fu (yF c) i w)) := by
  obtain ⟨hN, hY, hK, hF, hM, hS, hX⟩ := h
  refine ⟨by rw [zup_ne (by omega)]; exact hN, by rw [zup_ne (by omega)]; exact hY, by rw [zup_ne (by omega)]; exact hK, ?_, by rw [zup_ne (by omega)]; exact hM, by rw [zup_ne (by omega)]; exact hS, by rw [zup_ne (by omega)]; exact hX⟩
  rw [zup_eq]
  exact zupd_fu (h := fun x => x) hF rfl
theorem zAm_N {w : Nat} (h : zAm M c) : zAm (zup M 90 6 (nI w)) (setN c w) := by
  obtain ⟨hN, hY, hK, hF, hM, hS, hX⟩ := h
  refine ⟨by rw [zup_eq, upd_s]; rfl, by rw [zup_eq, upd_n (by omega)]; exact hY, by rw [zup_ne (by omega)]; exact hK, by rw [zup_ne (by omega)]; exact hF, by rw [zup_ne (by omega)]; exact hM, by rw [zup_ne (by omega)]; exact hS, by rw [zup_ne (by omega)]; exact hX⟩
theorem zAm_Y {w : Nat} (h : zAm M c) : zAm (zup M 90 7 (nI w)) (setY c w) := by
  obtain ⟨hN, hY, hK, hF, hM, hS, hX⟩ := h
  refine ⟨by rw [zup_eq, upd_n (by omega)]; exact hN, by rw [zup_eq, upd_s]; rfl, by rw [zup_ne (by omega)]; exact hK, by rw [zup_ne (by omega)]; exact hF, by rw [zup_ne (by omega)]; exact hM, by rw [zup_ne (by omega)]; exact hS, by rw [zup_ne (by omega)]; exact hX⟩
theorem zAm.same {M' : ZMem} {ps fs : List Nat} (h : zAm M c) (hs : zFr ps fs M M') (h1 : ∀ k, 92 ≤ k → k < 97 → k ∉ ps) (h2 : 6 ∉ fs ∧ 7 ∉ fs) : zAm M' c := by
  obtain ⟨hN, hY, hK, hF, hM, hS, hX⟩ := h
  exact ⟨by rw [hs.2 _ h2.1]; exact hN, by rw [hs.2 _ h2.2]; exact hY, by rw [hs.1 _ (h1 _ (by omega) (by omega)) (by omega)]; exact hK, by rw [hs.1 _ (h1 _ (by omega) (by omega)) (by omega)]; exact hF, by rw [hs.1 _ (h1 _ (by omega) (by omega)) (by omega)]; exact hM, by rw [hs.1 _ (h1 _ (by omega) (by omega)) (by omega)]; exact hS, by rw [hs.1 _ (h1 _ (by omega) (by omega)) (by omega)]; exact hX⟩
end
/-- why a call is refused: 0 (it isn't), 1 .. 6 -/
def bdN (x lo hi : Int32) : Nat := if x < lo then 4 else if hi < x then 6 else 0
theorem neg_w0 : ∀ w, w < 7 → ((-nI w : Int32) = 0 ↔ w = 0) := by decide +kernel
theorem bdN_lt {x lo hi : Int32} : bdN x lo hi < 7 := by unfold bdN; split <;> (try split) <;> omega
section
variable {M : ZMem} {c : ZCty} {d : Nat}
theorem x7_bound {x lo hi : Int32} : ZPi mdX7_bound d [.int x, .int lo, .int hi] M (-nI (bdN x lo hi)) := by
  refine zex_intro (L := [some (.int x), some (.int lo), some (.int hi)]) (by decide) (Nat.le_of_ble_eq_true rfl) rfl ?_
  refine zv_iload_n (pc' := 1) dX7_bound_0 rfl rfl ?_
  refine zv_iload_n (pc' := 2) dX7_bound_1 rfl rfl ?_
  refine zv_icmp_ge (pc' := 5) (tgt := 10) dX7_bound_2 rfl rfl ?_ ?_
  · intro h
    have h := Int32.not_lt.mpr h
    refine zv_iload_n (pc' := 11) dX7_bound_10 rfl rfl ?_
    refine zv_iload_n (pc' := 12) dX7_bound_11 rfl rfl ?_
    refine zv_icmp_le (pc' := 15) (tgt := 20) dX7_bound_12 rfl rfl ?_ ?_
    · intro h2
      have h2 := Int32.not_lt.mpr h2
      refine zv_iconst (v := nI 0) (pc' := 21) dX7_bound_20 rfl (by decide) ?_
      refine zv_iret dX7_bound_21 rfl ?_
      exact zpi_ret (by rw [bdN, if_neg h, if_neg h2]; decide)
    · intro h2
      refine zv_bipush (v := (-6 : Int32)) (pc' := 17) dX7_bound_15 rfl (by decide) ?_
      refine zv_goto (pc' := 21) dX7_bound_17 rfl ?_
      refine zv_iret dX7_bound_21 rfl ?_
      exact zpi_ret (by rw [bdN, if_neg h, if_pos (Int32.not_le.mp h2)]; decide)
  · intro h
    refine zv_bipush (v := (-4 : Int32)) (pc' := 7) dX7_bound_5 rfl (by decide) ?_
    refine zv_goto (pc' := 21) dX7_bound_7 rfl ?_
    refine zv_iret dX7_bound_21 rfl ?_
    exact zpi_ret (by rw [bdN, if_pos (Int32.not_le.mp h)]; decide)
def isInB (x lo hi : Int32) : Bool := decide (¬ x < lo) && decide (¬ hi < x)
theorem x7_isIn {x lo hi : Int32} : ZPi mdX7_isIn d [.int x, .int lo, .int hi] M (zb (isInB x lo hi)) := by
  refine zex_intro (L := [some (.int x), some (.int lo), some (.int hi)]) (by decide) (Nat.le_of_ble_eq_true rfl) rfl ?_
  refine zv_iload_n (pc' := 1) dX7_isIn_0 rfl rfl ?_
  refine zv_iload_n (pc' := 2) dX7_isIn_1 rfl rfl ?_
  refine zv_icmp_lt (pc' := 5) (tgt := 14) dX7_isIn_2 rfl rfl ?_ ?_
  · intro h
    refine zv_iconst (v := nI 0) (pc' := 15) dX7_isIn_14 rfl (by decide) ?_
    refine zv_ireturn dX7_isIn_15 rfl (by first | rfl | exact zb_nar _) ?_
    exact zpi_f (by simp [isInB, h])
  · intro h
    refine zv_iload_n (pc' := 6) dX7_isIn_5 rfl rfl ?_
    refine zv_iload_n (pc' := 7) dX7_isIn_6 rfl rfl ?_
    refine zv_icmp_gt (pc' := 10) (tgt := 14) dX7_isIn_7 rfl rfl ?_ ?_
    · intro h2
      refine zv_iconst (v := nI 0) (pc' := 15) dX7_isIn_14 rfl (by decide) ?_
      refine zv_ireturn dX7_isIn_15 rfl (by first | rfl | exact zb_nar _) ?_
      exact zpi_f (by simp [isInB, h2])
    · intro h2
      refine zv_iconst (v := nI 1) (pc' := 11) dX7_isIn_10 rfl (by decide) ?_
      refine zv_goto (pc' := 15) dX7_isIn_11 rfl ?_
      refine zv_ireturn dX7_isIn_15 rfl (by first | rfl | exact zb_nar _) ?_
      exact zpi_t (by simp only [isInB, h, h2]; rfl)
theorem x7_notYears {x : Int32} : ZPi mdX7_notYears (d + 1) [.int x] M (-nI (bdN x (nI 0) (nI 60))) := by
  refine zex_intro (L := [some (.int x)]) (by decide) (Nat.le_of_ble_eq_true rfl) rfl ?_
  refine zv_iload_n (pc' := 1) dX7_notYears_0 rfl rfl ?_
  refine zv_iconst (v := nI 0) (pc' := 2) dX7_notYears_1 rfl (by decide) ?_
  refine zv_bipush (v := nI 60) (pc' := 4) dX7_notYears_2 rfl (by decide) ?_
  refine zv_cS3_pi (pc' := 7) dX7_notYears_4 rfl lkX7_82 (Nat.le_of_ble_eq_true rfl) (x7_bound) ?_
  refine zv_iret dX7_notYears_7 rfl ?_
  exact zpi_ret rfl
theorem x7_notShort {x : Int32} : ZPi mdX7_notShort (d + 1) [.int x] M (-nI (bdN x (nI 0) (nI 20))) := by
  refine zex_intro (L := [some (.int x)]) (by decide) (Nat.le_of_ble_eq_true rfl) rfl ?_
  refine zv_iload_n (pc' := 1) dX7_notShort_0 rfl rfl ?_
  refine zv_iconst (v := nI 0) (pc' := 2) dX7_notShort_1 rfl (by decide) ?_
  refine zv_bipush (v := nI 20) (pc' := 4) dX7_notShort_2 rfl (by decide) ?_
  refine zv_cS3_pi (pc' := 7) dX7_notShort_4 rfl lkX7_82 (Nat.le_of_ble_eq_true rfl) (x7_bound) ?_
  refine zv_iret dX7_notShort_7 rfl ?_
  exact zpi_ret rfl
theorem x7_no {w : Nat} (hw : w < 7) : ZFi mdX7_no d [.ref 90, .int (-nI w)] M (fun r M' => r = -nI w ∧ M' = zup M 91 w (M 91 w + 1)) := by
  refine zex_intro (L := [some (.ref 90), some (.int (-nI w))]) (by decide) (Nat.le_of_ble_eq_true rfl) rfl ?_
  refine zv_aload_n (pc' := 1) dX7_no_0 rfl rfl ?_
  refine zv_getR (pc' := 4) dX7_no_1 rfl flX7_7 (by first | rfl | assumption) rfl ?_
  refine zv_iload_n (pc' := 5) dX7_no_4 rfl rfl ?_
  refine zv_ineg (pc' := 6) dX7_no_5 rfl ?_
  refine zv_top (Int32.neg_neg) ?_
  refine zv_dup2 (pc' := 7) dX7_no_6 rfl rfl rfl ?_
  refine zv_ialoadE (pc' := 8) dX7_no_7 rfl (by first | rfl | assumption) (by decide) (by omega) (by first | exact hN | exact hY | exact hM _ (by omega) | exact hS _ (by omega) | exact hX _ (by omega) | exact hK _ (by omega) | exact hF _ (by omega) | rfl) ?_
  refine zv_iconst (v := nI 1) (pc' := 9) dX7_no_8 rfl (by decide) ?_
  refine zv_iadd (pc' := 10) dX7_no_9 rfl ?_
  refine zv_iastoreN (pc' := 11) dX7_no_10 rfl (by first | rfl | assumption) (by decide) (by omega) ?_
  refine zv_iload_n (pc' := 12) dX7_no_11 rfl rfl ?_
  refine zv_iret dX7_no_12 rfl ?_
  exact ⟨_, rfl, rfl, rfl⟩
theorem x7_lower {w : Nat} (hw : w < 7) : ZFi mdX7_lower d [.ref 90, .int (-nI w)] M (fun r M' => r = 1000000000 - -nI w ∧ M' = zup M 91 w (M 91 w + 1)) := by
  refine zex_intro (L := [some (.ref 90), some (.int (-nI w))]) (by decide) (Nat.le_of_ble_eq_true rfl) rfl ?_
  refine zv_aload_n (pc' := 1) dX7_lower_0 rfl rfl ?_
  refine zv_getR (pc' := 4) dX7_lower_1 rfl flX7_7 (by first | rfl | assumption) rfl ?_
  refine zv_iload_n (pc' := 5) dX7_lower_4 rfl rfl ?_
  refine zv_ineg (pc' := 6) dX7_lower_5 rfl ?_
  refine zv_top (Int32.neg_neg) ?_
  refine zv_dup2 (pc' := 7) dX7_lower_6 rfl rfl rfl ?_
  refine zv_ialoadE (pc' := 8) dX7_lower_7 rfl (by first | rfl | assumption) (by decide) (by omega) (by first | exact hN | exact hY | exact hM _ (by omega) | exact hS _ (by omega) | exact hX _ (by omega) | exact hK _ (by omega) | exact hF _ (by omega) | rfl) ?_
  refine zv_iconst (v := nI 1) (pc' := 9) dX7_lower_8 rfl (by decide) ?_
  refine zv_iadd (pc' := 10) dX7_lower_9 rfl ?_
  refine zv_iastoreN (pc' := 11) dX7_lower_10 rfl (by first | rfl | assumption) (by decide) (by omega) ?_
  refine zv_ldc (pc' := 13) dX7_lower_11 rfl csX7_68 ?_
  refine zv_iload_n (pc' := 14) dX7_lower_13 rfl rfl ?_
  refine zv_isub (pc' := 15) dX7_lower_14 rfl ?_
  refine zv_iret dX7_lower_15 rfl ?_
  exact ⟨_, rfl, rfl, rfl⟩
theorem x7_lowestOf {w : Nat} (hw : w < 7) : ZFl mdX7_lowestOf d [.ref 90, .int (-nI w)] M (fun r M' => r = 4000000000000000000 - (-nI w).toInt64 ∧ M' = zup M 91 w (M 91 w + 1)) := by
  refine zex_intro (L := [some (.ref 90), some (.int (-nI w))]) (by decide) (Nat.le_of_ble_eq_true rfl) rfl ?_
  refine zv_aload_n (pc' := 1) dX7_lowestOf_0 rfl rfl ?_
  refine zv_getR (pc' := 4) dX7_lowestOf_1 rfl flX7_7 (by first | rfl | assumption) rfl ?_
  refine zv_iload_n (pc' := 5) dX7_lowestOf_4 rfl rfl ?_
  refine zv_ineg (pc' := 6) dX7_lowestOf_5 rfl ?_
  refine zv_top (Int32.neg_neg) ?_
  refine zv_dup2 (pc' := 7) dX7_lowestOf_6 rfl rfl rfl ?_
  refine zv_ialoadE (pc' := 8) dX7_lowestOf_7 rfl (by first | rfl | assumption) (by decide) (by omega) (by first | exact hN | exact hY | exact hM _ (by omega) | exact hS _ (by omega) | exact hX _ (by omega) | exact hK _ (by omega) | exact hF _ (by omega) | rfl) ?_
  refine zv_iconst (v := nI 1) (pc' := 9) dX7_lowestOf_8 rfl (by decide) ?_
  refine zv_iadd (pc' := 10) dX7_lowestOf_9 rfl ?_
  refine zv_iastoreN (pc' := 11) dX7_lowestOf_10 rfl (by first | rfl | assumption) (by decide) (by omega) ?_
  refine zv_ldc2 (pc' := 14) dX7_lowestOf_11 rfl csX7_69 ?_
  refine zv_iload_n (pc' := 15) dX7_lowestOf_14 rfl rfl ?_
  refine zv_i2l (pc' := 16) dX7_lowestOf_15 rfl ?_
  refine zv_lsub (pc' := 17) dX7_lowestOf_16 rfl ?_
  refine zv_lret dX7_lowestOf_17 rfl ?_
  exact ⟨_, rfl, rfl, rfl⟩
theorem x7_has {v q : Nat} (hv : v < 2 ^ 31) (hq : q < 31) : ZPi mdX7_has d [.int (nI v), .int (nI q)] M (zb (v.testBit q)) := by
  refine zex_intro (L := [some (.int (nI v)), some (.int (nI q))]) (by decide) (Nat.le_of_ble_eq_true rfl) rfl ?_
  refine zv_iload_n (pc' := 1) dX7_has_0 rfl rfl ?_
  refine zv_iload_n (pc' := 2) dX7_has_1 rfl rfl ?_
  refine zv_ishr (pc' := 3) dX7_has_2 rfl ?_
  refine zv_iconst (v := nI 1) (pc' := 4) dX7_has_3 rfl (by decide) ?_
  refine zv_iand (pc' := 5) dX7_has_4 rfl ?_
  refine zv_top (mk_test hv (by omega)) ?_
  refine zv_iconst (v := nI 1) (pc' := 6) dX7_has_5 rfl (by decide) ?_
  refine zv_icmp_ne (pc' := 9) (tgt := 13) dX7_has_6 rfl rfl ?_ ?_
  · intro h
    refine zv_iconst (v := nI 0) (pc' := 14) dX7_has_13 rfl (by decide) ?_
    refine zv_ireturn dX7_has_14 rfl (by first | rfl | exact zb_nar _) ?_
    exact zpi_f (by cases hb : v.testBit q; rfl; rw [hb] at h; exact absurd rfl h)
  · intro h
    refine zv_iconst (v := nI 1) (pc' := 10) dX7_has_9 rfl (by decide) ?_
    refine zv_goto (pc' := 14) dX7_has_10 rfl ?_
    refine zv_ireturn dX7_has_14 rfl (by first | rfl | exact zb_nar _) ?_
    exact zpi_t (zb_1.mp h)
theorem x7_hasM {f : Nat → Bool} {q : Nat} (hq : q < 8) : ZPi mdX7_has d [.int (nI (zm 8 f)), .int (nI q)] M (zb (f q)) := by
  have h := x7_has (d := d) (M := M) (v := zm 8 f) (q := q) (Nat.lt_trans (zm8_lt f) (by decide)) (by omega)
  rw [zm_tb] at h
  simpa [hq] using h
theorem x7_bits {v : Nat} (hv : v < 256) : ZPi mdX7_bits d [.int (nI v)] M (nI (zcn 8 (fun j => v.testBit j))) := by
  have hz : ∀ r, zcn (8 + r) (fun j => v.testBit j) = zcn 8 (fun j => v.testBit j) := by
    intro r
    induction r with
    | zero => rfl
    | succ r ih =>
      rw [show 8 + (r + 1) = (8 + r) + 1 by omega, zcn, ih]
      have : v.testBit (8 + r) = false := Nat.testBit_lt_two_pow (Nat.lt_of_lt_of_le hv (show 2 ^ 8 ≤ 2 ^ (8 + r) from Nat.pow_le_pow_right (by decide) (Nat.le_add_right 8 r)))
      simp [this]
  have lp : ∀ r k, k + r = 31 → ZV mdX7_bits d (fun w M' => w = some (.int (nI (zcn 8 (fun j => v.testBit j)))) ∧ M' = M) 4 [some (.int (nI v)), some (.int (nI (zcn k (fun j => v.testBit j)))), some (.int (nI k))] [] M := by
    intro r
    induction r with
    | zero =>
      intro k e
      have e : k = 31 := by omega
      subst e
      refine zv_iload_n (pc' := 5) dX7_bits_4 rfl rfl ?_
      refine zv_bipush (v := nI 31) (pc' := 7) dX7_bits_5 rfl (by decide) ?_
      refine zv_icmp_ge (pc' := 10) (tgt := 24) dX7_bits_7 rfl rfl (fun _ => ?_) (fun hcc => absurd (Int32.le_refl _) hcc)
      refine zv_iload_n (pc' := 25) dX7_bits_24 rfl rfl ?_
      refine zv_iret dX7_bits_25 rfl ?_
      exact zpi_ret (by rw [show (31 : Nat) = 8 + 23 from rfl, hz])
    | succ r ih =>
      intro k e
      refine zv_iload_n (pc' := 5) dX7_bits_4 rfl rfl ?_
      refine zv_bipush (v := nI 31) (pc' := 7) dX7_bits_5 rfl (by decide) ?_
      refine zv_icmp_ge (pc' := 10) (tgt := 24) dX7_bits_7 rfl rfl (fun hcc => absurd hcc (nI_ge (by omega) (by omega))) (fun _ => ?_)
      refine zv_iload_n (pc' := 11) dX7_bits_10 rfl rfl ?_
      refine zv_iload_n (pc' := 12) dX7_bits_11 rfl rfl ?_
      refine zv_iload_n (pc' := 13) dX7_bits_12 rfl rfl ?_
      refine zv_ishr (pc' := 14) dX7_bits_13 rfl ?_
      refine zv_iconst (v := nI 1) (pc' := 15) dX7_bits_14 rfl (by decide) ?_
      refine zv_iand (pc' := 16) dX7_bits_15 rfl ?_
      refine zv_top (mk_test (by omega) (by omega)) ?_
      refine zv_iadd (pc' := 17) dX7_bits_16 rfl ?_
      refine zv_top (show _ = nI (zcn (k + 1) (fun j => v.testBit j)) from ?_) ?_
      · rw [zcn]
        cases v.testBit k
        · rw [show zb false = nI 0 from rfl, nI_add]; rfl
        · rw [show zb true = nI 1 from rfl, nI_add]; rfl
      refine zv_istore_n (pc' := 18) dX7_bits_17 rfl (by decide) ?_
      refine zv_iinc (w := nI 1) (pc' := 21) dX7_bits_18 rfl rfl (by decide) (by decide) ?_
      refine zv_goto (pc' := 4) dX7_bits_21 rfl ?_
      rw [nI_add]
      exact ih (k + 1) (by omega)
  refine zex_intro (L := [some (.int (nI v)), none, none]) (by decide) (Nat.le_of_ble_eq_true rfl) rfl ?_
  refine zv_iconst (v := nI 0) (pc' := 1) dX7_bits_0 rfl (by decide) ?_
  refine zv_istore_n (pc' := 2) dX7_bits_1 rfl (by decide) ?_
  refine zv_iconst (v := nI 0) (pc' := 3) dX7_bits_2 rfl (by decide) ?_
  refine zv_istore_n (pc' := 4) dX7_bits_3 rfl (by decide) ?_
  exact lp 31 0 (by omega)
theorem x7_bitsM {f : Nat → Bool} : ZPi mdX7_bits d [.int (nI (zm 8 f))] M (nI (zcn 8 f)) := by
  have h := x7_bits (d := d) (M := M) (zm8_lt f)
  rw [zcn_ext (g := f) (fun j hj => by rw [zm_tb]; simp [hj])] at h
  exact h
theorem x7_isOne {x : Int32} (hN : M 90 6 = nI (yN c)) : ZPi mdX7_isOne d [.ref 90, .int x] M (zb (hasB (yN c) x)) := by
  refine zex_intro (L := [some (.ref 90), some (.int x)]) (by decide) (Nat.le_of_ble_eq_true rfl) rfl ?_
  refine zv_iload_n (pc' := 1) dX7_isOne_0 rfl rfl ?_
  refine zv_if_lt (pc' := 4) (tgt := 16) dX7_isOne_1 rfl rfl ?_ ?_
  · intro h
    refine zv_iconst (v := nI 0) (pc' := 17) dX7_isOne_16 rfl (by decide) ?_
    refine zv_ireturn dX7_isOne_17 rfl (by first | rfl | exact zb_nar _) ?_
    exact zpi_f (by simp [hasB, h])
  · intro h
    refine zv_iload_n (pc' := 5) dX7_isOne_4 rfl rfl ?_
    refine zv_aload_n (pc' := 6) dX7_isOne_5 rfl rfl ?_
    refine zv_getIE (pc' := 9) dX7_isOne_6 rfl flX7_65 (by first | rfl | assumption) rfl (by first | exact hN | exact hY | exact hM _ (by omega) | exact hS _ (by omega) | exact hX _ (by omega) | exact hK _ (by omega) | exact hF _ (by omega) | rfl) ?_
    refine zv_icmp_ge (pc' := 12) (tgt := 16) dX7_isOne_9 rfl rfl ?_ ?_
    · intro h2
      refine zv_iconst (v := nI 0) (pc' := 17) dX7_isOne_16 rfl (by decide) ?_
      refine zv_ireturn dX7_isOne_17 rfl (by first | rfl | exact zb_nar _) ?_
      exact zpi_f (by simp [hasB, h2])
    · intro h2
      refine zv_iconst (v := nI 1) (pc' := 13) dX7_isOne_12 rfl (by decide) ?_
      refine zv_goto (pc' := 17) dX7_isOne_13 rfl ?_
      refine zv_ireturn dX7_isOne_17 rfl (by first | rfl | exact zb_nar _) ?_
      exact zpi_t (by simp only [hasB, h, h2]; rfl)
theorem x7_areTwo {x y : Int32} (hN : M 90 6 = nI (yN c)) : ZPi mdX7_areTwo (d + 1) [.ref 90, .int x, .int y] M (zb (twoB (yN c) x y)) := by
  refine zex_intro (L := [some (.ref 90), some (.int x), some (.int y)]) (by decide) (Nat.le_of_ble_eq_true rfl) rfl ?_
  refine zv_aload_n (pc' := 1) dX7_areTwo_0 rfl rfl ?_
  refine zv_iload_n (pc' := 2) dX7_areTwo_1 rfl rfl ?_
  refine zv_cV1_pi (pc' := 5) dX7_areTwo_2 rfl lkX7_71 (by first | rfl | assumption) rfl (Nat.le_of_ble_eq_true rfl) (x7_isOne hN) ?_
  refine zv_if_eq (pc' := 8) (tgt := 25) dX7_areTwo_5 rfl rfl ?_ ?_
  · intro h
    refine zv_iconst (v := nI 0) (pc' := 26) dX7_areTwo_25 rfl (by decide) ?_
    refine zv_ireturn dX7_areTwo_26 rfl (by first | rfl | exact zb_nar _) ?_
    exact zpi_f (by simp [twoB, zb_0.mp h])
  · intro h
    refine zv_aload_n (pc' := 9) dX7_areTwo_8 rfl rfl ?_
    refine zv_iload_n (pc' := 10) dX7_areTwo_9 rfl rfl ?_
    refine zv_cV1_pi (pc' := 13) dX7_areTwo_10 rfl lkX7_71 (by first | rfl | assumption) rfl (Nat.le_of_ble_eq_true rfl) (x7_isOne hN) ?_
    refine zv_if_eq (pc' := 16) (tgt := 25) dX7_areTwo_13 rfl rfl ?_ ?_
    · intro h2
      refine zv_iconst (v := nI 0) (pc' := 26) dX7_areTwo_25 rfl (by decide) ?_
      refine zv_ireturn dX7_areTwo_26 rfl (by first | rfl | exact zb_nar _) ?_
      exact zpi_f (by simp [twoB, zb_0.mp h2])
    · intro h2
      refine zv_iload_n (pc' := 17) dX7_areTwo_16 rfl rfl ?_
      refine zv_iload_n (pc' := 18) dX7_areTwo_17 rfl rfl ?_
      refine zv_icmp_eq (pc' := 21) (tgt := 25) dX7_areTwo_18 rfl rfl ?_ ?_
      · intro h3
        refine zv_iconst (v := nI 0) (pc' := 26) dX7_areTwo_25 rfl (by decide) ?_
        refine zv_ireturn dX7_areTwo_26 rfl (by first | rfl | exact zb_nar _) ?_
        exact zpi_f (by simp [twoB, h3])
      · intro h3
        refine zv_iconst (v := nI 1) (pc' := 22) dX7_areTwo_21 rfl (by decide) ?_
        refine zv_goto (pc' := 26) dX7_areTwo_22 rfl ?_
        refine zv_ireturn dX7_areTwo_26 rfl (by first | rfl | exact zb_nar _) ?_
        exact zpi_t (by simp [twoB, h3, zb_ne.mp h, zb_ne.mp h2])
theorem x7_isKin {p q : Nat} (hA : zAm M c) (hk : zOk c) (hp : p < yN c) (hq : q < yN c) : ZPi mdX7_isKin (d + 1) [.ref 90, .int (nI p), .int (nI q)] M (zb (kinB c p q)) := by
  have hn := hk.1
  obtain ⟨hN, hY, hK, hF, hM, hS, hX⟩ := hA
  refine zex_intro (L := [some (.ref 90), some (.int (nI p)), some (.int (nI q))]) (by decide) (Nat.le_of_ble_eq_true rfl) rfl ?_
  refine zv_iload_n (pc' := 1) dX7_isKin_0 rfl rfl ?_
  refine zv_iload_n (pc' := 2) dX7_isKin_1 rfl rfl ?_
  refine zv_icmp_eq (pc' := 5) (tgt := 48) dX7_isKin_2 rfl rfl ?_ ?_
  · intro h
    have h := (nI_eq (by omega) (by omega)).mp h
    refine zv_iconst (v := nI 0) (pc' := 49) dX7_isKin_48 rfl (by decide) ?_
    refine zv_ireturn dX7_isKin_49 rfl (by first | rfl | exact zb_nar _) ?_
    exact zpi_f (by rw [← h]; exact kin_irr hk)
  · intro h
    refine zv_aload_n (pc' := 6) dX7_isKin_5 rfl rfl ?_
    refine zv_getR (pc' := 9) dX7_isKin_6 rfl flX7_22 (by first | rfl | assumption) rfl ?_
    refine zv_iload_n (pc' := 10) dX7_isKin_9 rfl rfl ?_
    refine zv_ialoadE (pc' := 11) dX7_isKin_10 rfl (by first | rfl | assumption) (by decide) (by omega) (by first | exact hN | exact hY | exact hM _ (by omega) | exact hS _ (by omega) | exact hX _ (by omega) | exact hK _ (by omega) | exact hF _ (by omega) | rfl) ?_
    refine zv_iload_n (pc' := 12) dX7_isKin_11 rfl rfl ?_
    refine zv_cS2_pi (pc' := 15) dX7_isKin_12 rfl lkX7_75 (Nat.le_of_ble_eq_true rfl) (x7_hasM (by omega)) ?_
    refine zv_if_eq (pc' := 18) (tgt := 48) dX7_isKin_15 rfl rfl ?_ ?_
    · intro h1
      refine zv_iconst (v := nI 0) (pc' := 49) dX7_isKin_48 rfl (by decide) ?_
      refine zv_ireturn dX7_isKin_49 rfl (by first | rfl | exact zb_nar _) ?_
      exact zpi_f (by simp [kinB, zb_0.mp h1])
    · intro h1
      refine zv_aload_n (pc' := 19) dX7_isKin_18 rfl rfl ?_
      refine zv_getR (pc' := 22) dX7_isKin_19 rfl flX7_22 (by first | rfl | assumption) rfl ?_
      refine zv_iload_n (pc' := 23) dX7_isKin_22 rfl rfl ?_
      refine zv_ialoadE (pc' := 24) dX7_isKin_23 rfl (by first | rfl | assumption) (by decide) (by omega) (by first | exact hN | exact hY | exact hM _ (by omega) | exact hS _ (by omega) | exact hX _ (by omega) | exact hK _ (by omega) | exact hF _ (by omega) | rfl) ?_
      refine zv_iload_n (pc' := 25) dX7_isKin_24 rfl rfl ?_
      refine zv_cS2_pi (pc' := 28) dX7_isKin_25 rfl lkX7_75 (Nat.le_of_ble_eq_true rfl) (x7_hasM (by omega)) ?_
      refine zv_if_eq (pc' := 31) (tgt := 48) dX7_isKin_28 rfl rfl ?_ ?_
      · intro h2
        refine zv_iconst (v := nI 0) (pc' := 49) dX7_isKin_48 rfl (by decide) ?_
        refine zv_ireturn dX7_isKin_49 rfl (by first | rfl | exact zb_nar _) ?_
        exact zpi_f (by simp [kinB, zb_0.mp h2])
      · intro h2
        refine zv_aload_n (pc' := 32) dX7_isKin_31 rfl rfl ?_
        refine zv_getR (pc' := 35) dX7_isKin_32 rfl flX7_25 (by first | rfl | assumption) rfl ?_
        refine zv_iload_n (pc' := 36) dX7_isKin_35 rfl rfl ?_
        refine zv_ialoadE (pc' := 37) dX7_isKin_36 rfl (by first | rfl | assumption) (by decide) (by omega) (by first | exact hN | exact hY | exact hM _ (by omega) | exact hS _ (by omega) | exact hX _ (by omega) | exact hK _ (by omega) | exact hF _ (by omega) | rfl) ?_
        refine zv_iload_n (pc' := 38) dX7_isKin_37 rfl rfl ?_
        refine zv_cS2_pi (pc' := 41) dX7_isKin_38 rfl lkX7_75 (Nat.le_of_ble_eq_true rfl) (x7_hasM (by omega)) ?_
        refine zv_if_ne (pc' := 44) (tgt := 48) dX7_isKin_41 rfl rfl ?_ ?_
        · intro h3
          refine zv_iconst (v := nI 0) (pc' := 49) dX7_isKin_48 rfl (by decide) ?_
          refine zv_ireturn dX7_isKin_49 rfl (by first | rfl | exact zb_nar _) ?_
          exact zpi_f (by simp [kinB, zb_ne.mp h3])
        · intro h3
          refine zv_iconst (v := nI 1) (pc' := 45) dX7_isKin_44 rfl (by decide) ?_
          refine zv_goto (pc' := 49) dX7_isKin_45 rfl ?_
          refine zv_ireturn dX7_isKin_49 rfl (by first | rfl | exact zb_nar _) ?_
          exact zpi_t (by simp [kinB, zb_ne.mp h1, zb_ne.mp h2, zb_0.mp h3])
theorem x7_kinOf {p : Nat} (hA : zAm M c) (hk : zOk c) (hp : p < yN c) : ZPi mdX7_kinOf (d + 2) [.ref 90, .int (nI p)] M (nI (zm 8 (kinB c p))) := by
  have hn := hk.1
  have hA' := hA
  obtain ⟨hN, hY, hK, hF, hM, hS, hX⟩ := hA
  have lp : ∀ r k, k + r = yN c → ZV mdX7_kinOf (d + 2) (fun v M' => v = some (.int (nI (zm 8 (kinB c p)))) ∧ M' = M) 4 [some (.ref 90), some (.int (nI p)), some (.int (nI (zm 8 (fun j => decide (j < k) && kinB c p j)))), some (.int (nI k))] [] M := by
    intro r
    induction r with
    | zero =>
      intro k e
      have e : k = yN c := by omega
      subst e
      refine zv_iload_n (pc' := 5) dX7_kinOf_4 rfl rfl ?_
      refine zv_aload_n (pc' := 6) dX7_kinOf_5 rfl rfl ?_
      refine zv_getIE (pc' := 9) dX7_kinOf_6 rfl flX7_65 (by first | rfl | assumption) rfl (by first | exact hN | exact hY | exact hM _ (by omega) | exact hS _ (by omega) | exact hX _ (by omega) | exact hK _ (by omega) | exact hF _ (by omega) | rfl) ?_
      refine zv_icmp_ge (pc' := 12) (tgt := 37) dX7_kinOf_9 rfl rfl (fun _ => ?_) (fun hcc => absurd (Int32.le_refl _) hcc)
      refine zv_iload_n (pc' := 38) dX7_kinOf_37 rfl rfl ?_
      refine zv_iret dX7_kinOf_38 rfl ?_
      refine zpi_ret (congrArg (fun g => nI (zm 8 g)) (funext fun j => ?_))
      unfold kinB
      cases h : yS c p j
      · simp
      · have := (hk.2.2.2.2.1 p j h).2.1
        simp [this]
    | succ r ih =>
      intro k e
      have go : ∀ x : Int32, nI (zm 8 (fun j => decide (j < k) && kinB c p j)) ||| x = nI (zm 8 (fun j => decide (j < k + 1) && kinB c p j)) → ZV mdX7_kinOf (d + 2) (fun v M' => v = some (.int (nI (zm 8 (kinB c p)))) ∧ M' = M) 29 [some (.ref 90), some (.int (nI p)), some (.int (nI (zm 8 (fun j => decide (j < k) && kinB c p j)))), some (.int (nI k))] [.int x, .int (nI (zm 8 (fun j => decide (j < k) && kinB c p j)))] M := by
        intro x hx
        refine zv_ior (pc' := 30) dX7_kinOf_29 rfl ?_
        refine zv_top hx ?_
        refine zv_istore_n (pc' := 31) dX7_kinOf_30 rfl (by decide) ?_
        refine zv_iinc (w := nI 1) (pc' := 34) dX7_kinOf_31 rfl rfl (by decide) (by decide) ?_
        refine zv_goto (pc' := 4) dX7_kinOf_34 rfl ?_
        rw [nI_add]
        exact ih (k + 1) (by omega)
      refine zv_iload_n (pc' := 5) dX7_kinOf_4 rfl rfl ?_
      refine zv_aload_n (pc' := 6) dX7_kinOf_5 rfl rfl ?_
      refine zv_getIE (pc' := 9) dX7_kinOf_6 rfl flX7_65 (by first | rfl | assumption) rfl (by first | exact hN | exact hY | exact hM _ (by omega) | exact hS _ (by omega) | exact hX _ (by omega) | exact hK _ (by omega) | exact hF _ (by omega) | rfl) ?_
      refine zv_icmp_ge (pc' := 12) (tgt := 37) dX7_kinOf_9 rfl rfl (fun hcc => absurd hcc (nI_ge (by omega) (by omega))) (fun _ => ?_)
      refine zv_iload_n (pc' := 13) dX7_kinOf_12 rfl rfl ?_
      refine zv_aload_n (pc' := 14) dX7_kinOf_13 rfl rfl ?_
      refine zv_iload_n (pc' := 15) dX7_kinOf_14 rfl rfl ?_
      refine zv_iload_n (pc' := 16) dX7_kinOf_15 rfl rfl ?_
      refine zv_cV2_pi (pc' := 19) dX7_kinOf_16 rfl lkX7_79 (by first | rfl | assumption) rfl (Nat.le_of_ble_eq_true rfl) (x7_isKin hA' hk hp (by omega)) ?_
      refine zv_if_eq (pc' := 22) (tgt := 28) dX7_kinOf_19 rfl rfl ?_ ?_
      · intro h
        refine zv_iconst (v := nI 0) (pc' := 29) dX7_kinOf_28 rfl (by decide) ?_
        refine go _ (mk_eq (fun i hi => ?_))
        rw [b_or, zm_bt hi, bt_nI hi]
        by_cases e : i = k
        · subst e; simp [zb_0.mp h]
        · have : (i < k + 1) ↔ (i < k) := by omega
          simp [this]
      · intro h
        refine zv_iconst (v := nI 1) (pc' := 23) dX7_kinOf_22 rfl (by decide) ?_
        refine zv_iload_n (pc' := 24) dX7_kinOf_23 rfl rfl ?_
        refine zv_ishl (pc' := 25) dX7_kinOf_24 rfl ?_
        refine zv_top (zsh1 k (by omega)) ?_
        refine zv_goto (pc' := 29) dX7_kinOf_25 rfl ?_
        refine go _ ?_
        rw [mk_or1 (by omega)]
        congr 2
        funext j
        by_cases e : j = k
        · subst e; simp [zb_ne.mp h]
        · have : (j < k + 1) ↔ (j < k) := by omega
          simp [this, e]
  refine zex_intro (L := [some (.ref 90), some (.int (nI p)), none, none]) (by decide) (Nat.le_of_ble_eq_true rfl) rfl ?_
  refine zv_iconst (v := nI 0) (pc' := 1) dX7_kinOf_0 rfl (by decide) ?_
  refine zv_istore_n (pc' := 2) dX7_kinOf_1 rfl (by decide) ?_
  refine zv_iconst (v := nI 0) (pc' := 3) dX7_kinOf_2 rfl (by decide) ?_
  refine zv_istore_n (pc' := 4) dX7_kinOf_3 rfl (by decide) ?_
  have h := lp (yN c) 0 (by omega)
  rw [show (fun j => decide (j < 0) && kinB c p j) = (fun _ => false) from by funext j; simp, zm_f] at h
  exact h
theorem x7_paysOf {p q : Nat} (hA : zAm M c) (hk : zOk c) (hp : p < yN c) (hq : q < yN c) : ZPi mdX7_paysOf d [.ref 90, .int (nI p), .int (nI q)] M (nI (duesN c p q)) := by
  have hn := hk.1
  have hF9 := hk.2.2.1 p
  have hM9 := hk.2.2.2.1
  obtain ⟨hN, hY, hK, hF, hM, hS, hX⟩ := hA
  have fin : ∀ w : Nat, w = (if yM c q < yM c p then 1 else 0) → ZV mdX7_paysOf d (fun v M' => v = some (.int (nI (duesN c p q))) ∧ M' = M) 33 [some (.ref 90), some (.int (nI p)), some (.int (nI q)), some (.int (nI (1 + yF c p / 3))), some (.int (nI w))] [] M := by
    intro w hw
    refine zv_aload_n (pc' := 34) dX7_paysOf_33 rfl rfl ?_
    refine zv_getR (pc' := 37) dX7_paysOf_34 rfl flX7_13 (by first | rfl | assumption) rfl ?_
    refine zv_iload_n (pc' := 38) dX7_paysOf_37 rfl rfl ?_
    refine zv_ialoadE (pc' := 39) dX7_paysOf_38 rfl (by first | rfl | assumption) (by decide) (by omega) (by first | exact hN | exact hY | exact hM _ (by omega) | exact hS _ (by omega) | exact hX _ (by omega) | exact hK _ (by omega) | exact hF _ (by omega) | rfl) ?_
    have hk5 := hk.2.1 p
    rcases (show yK c p = 0 ∨ yK c p = 1 ∨ yK c p = 2 ∨ yK c p = 3 ∨ yK c p = 4 ∨ yK c p = 5 by omega) with e | e | e | e | e | e
    · rw [show nI (yK c p) = nI 0 by rw [e]]
      refine zv_tableOut (pc' := 88) dX7_paysOf_39 (by decide) rfl ?_
      refine zv_iconst (v := nI 1) (pc' := 89) dX7_paysOf_88 rfl (by decide) ?_
      refine zv_iret dX7_paysOf_89 rfl ?_
      exact zpi_ret (by simp [duesN, e])
    · rw [show nI (yK c p) = nI 1 by rw [e]]
      refine zv_tableIn (pc' := 72) (off := 33) dX7_paysOf_39 (by decide) (by decide) (by decide) rfl ?_
      refine zv_iload_n (pc' := 73) dX7_paysOf_72 rfl rfl ?_
      refine zv_iret dX7_paysOf_73 rfl ?_
      exact zpi_ret (by simp [duesN, e])
    · rw [show nI (yK c p) = nI 2 by rw [e]]
      refine zv_tableIn (pc' := 74) (off := 35) dX7_paysOf_39 (by decide) (by decide) (by decide) rfl ?_
      refine zv_iconst (v := nI 0) (pc' := 75) dX7_paysOf_74 rfl (by decide) ?_
      refine zv_iret dX7_paysOf_75 rfl ?_
      exact zpi_ret (by simp [duesN, e])
    · rw [show nI (yK c p) = nI 3 by rw [e]]
      refine zv_tableIn (pc' := 76) (off := 37) dX7_paysOf_39 (by decide) (by decide) (by decide) rfl ?_
      refine zv_iload (pc' := 78) dX7_paysOf_76 rfl rfl ?_
      refine zv_iret dX7_paysOf_78 rfl ?_
      exact zpi_ret (by simp [duesN, e, hw])
    · rw [show nI (yK c p) = nI 4 by rw [e]]
      refine zv_tableIn (pc' := 79) (off := 40) dX7_paysOf_39 (by decide) (by decide) (by decide) rfl ?_
      refine zv_iconst (v := nI 2) (pc' := 80) dX7_paysOf_79 rfl (by decide) ?_
      refine zv_iload_n (pc' := 81) dX7_paysOf_80 rfl rfl ?_
      refine zv_imul (pc' := 82) dX7_paysOf_81 rfl ?_
      refine zv_top (pk_mul _ _) ?_
      refine zv_iret dX7_paysOf_82 rfl ?_
      exact zpi_ret (by simp [duesN, e])
    · rw [show nI (yK c p) = nI 5 by rw [e]]
      refine zv_tableIn (pc' := 83) (off := 44) dX7_paysOf_39 (by decide) (by decide) (by decide) rfl ?_
      refine zv_iload (pc' := 85) dX7_paysOf_83 rfl rfl ?_
      refine zv_iconst (v := nI 1) (pc' := 86) dX7_paysOf_85 rfl (by decide) ?_
      refine zv_iadd (pc' := 87) dX7_paysOf_86 rfl ?_
      refine zv_top (nI_add _ _) ?_
      refine zv_iret dX7_paysOf_87 rfl ?_
      exact zpi_ret (by simp [duesN, e, hw])
  refine zex_intro (L := [some (.ref 90), some (.int (nI p)), some (.int (nI q)), none, none]) (by decide) (Nat.le_of_ble_eq_true rfl) rfl ?_
  refine zv_iconst (v := nI 1) (pc' := 1) dX7_paysOf_0 rfl (by decide) ?_
  refine zv_aload_n (pc' := 2) dX7_paysOf_1 rfl rfl ?_
  refine zv_getR (pc' := 5) dX7_paysOf_2 rfl flX7_16 (by first | rfl | assumption) rfl ?_
  refine zv_iload_n (pc' := 6) dX7_paysOf_5 rfl rfl ?_
  refine zv_ialoadE (pc' := 7) dX7_paysOf_6 rfl (by first | rfl | assumption) (by decide) (by omega) (by first | exact hN | exact hY | exact hM _ (by omega) | exact hS _ (by omega) | exact hX _ (by omega) | exact hK _ (by omega) | exact hF _ (by omega) | rfl) ?_
  refine zv_iconst (v := nI 3) (pc' := 8) dX7_paysOf_7 rfl (by decide) ?_
  refine zv_idiv (pc' := 9) dX7_paysOf_8 rfl (by first | assumption | decide) ?_
  refine zv_top (pk_div (by omega) (by omega) (by omega)) ?_
  refine zv_iadd (pc' := 10) dX7_paysOf_9 rfl ?_
  refine zv_top (nI_add _ _) ?_
  refine zv_istore_n (pc' := 11) dX7_paysOf_10 rfl (by decide) ?_
  refine zv_aload_n (pc' := 12) dX7_paysOf_11 rfl rfl ?_
  refine zv_getR (pc' := 15) dX7_paysOf_12 rfl flX7_19 (by first | rfl | assumption) rfl ?_
  refine zv_iload_n (pc' := 16) dX7_paysOf_15 rfl rfl ?_
  refine zv_ialoadE (pc' := 17) dX7_paysOf_16 rfl (by first | rfl | assumption) (by decide) (by omega) (by first | exact hN | exact hY | exact hM _ (by omega) | exact hS _ (by omega) | exact hX _ (by omega) | exact hK _ (by omega) | exact hF _ (by omega) | rfl) ?_
  refine zv_aload_n (pc' := 18) dX7_paysOf_17 rfl rfl ?_
  refine zv_getR (pc' := 21) dX7_paysOf_18 rfl flX7_19 (by first | rfl | assumption) rfl ?_
  refine zv_iload_n (pc' := 22) dX7_paysOf_21 rfl rfl ?_
  refine zv_ialoadE (pc' := 23) dX7_paysOf_22 rfl (by first | rfl | assumption) (by decide) (by omega) (by first | exact hN | exact hY | exact hM _ (by omega) | exact hS _ (by omega) | exact hX _ (by omega) | exact hK _ (by omega) | exact hF _ (by omega) | rfl) ?_
  have hMp := hM9 p
  have hMq := hM9 q
  refine zv_icmp_ge (pc' := 26) (tgt := 30) dX7_paysOf_23 rfl rfl ?_ ?_
  · intro h
    refine zv_iconst (v := nI 0) (pc' := 31) dX7_paysOf_30 rfl (by decide) ?_
    refine zv_istore (pc' := 33) dX7_paysOf_31 rfl (by decide) ?_
    exact fin 0 (by rw [if_neg]; have := (nI_leI (by omega) (by omega)).mp h; omega)
  · intro h
    refine zv_iconst (v := nI 1) (pc' := 27) dX7_paysOf_26 rfl (by decide) ?_
    refine zv_goto (pc' := 31) dX7_paysOf_27 rfl ?_
    refine zv_istore (pc' := 33) dX7_paysOf_31 rfl (by decide) ?_
    exact fin 1 (by rw [if_pos]; have := mt (nI_leI (a := yM c p) (b := yM c q) (by omega) (by omega)).mpr h; omega)
theorem dues_le {p q : Nat} (hk : zOk c) : duesN c p q ≤ 8 := by
  have := hk.2.2.1 p
  unfold duesN
  split <;> (try split) <;> omega
theorem x7_pays {p q : Nat} (hA : zAm M c) (hk : zOk c) (hp : p < yN c) (hq : q < yN c) (hpq : p ≠ q) : ZFv mdX7_pays (d + 1) [.ref 90, .int (nI p), .int (nI q)] M (fun M' => zAm M' (payC c p q) ∧ zFr [94, 95] [7] M M') := by
  have hA' := hA
  have hn := hk.1
  have hM9 := hk.2.2.2.1
  have hMp := hM9 p
  have hMq := hM9 q
  have hdue : duesN c p q ≤ 8 := dues_le hk
  obtain ⟨hN, hY, hK, hF, hM, hS, hX⟩ := hA
  refine zex_intro (L := [some (.ref 90), some (.int (nI p)), some (.int (nI q)), none]) (by decide) (Nat.le_of_ble_eq_true rfl) rfl ?_
  refine zv_aload_n (pc' := 1) dX7_pays_0 rfl rfl ?_
  refine zv_iload_n (pc' := 2) dX7_pays_1 rfl rfl ?_
  refine zv_iload_n (pc' := 3) dX7_pays_2 rfl rfl ?_
  refine zv_cV2_pi (pc' := 6) dX7_pays_3 rfl lkX7_171 (by first | rfl | assumption) rfl (Nat.le_of_ble_eq_true rfl) (x7_paysOf hA' hk hp hq) ?_
  refine zv_istore_n (pc' := 7) dX7_pays_6 rfl (by decide) ?_
  refine zv_aload_n (pc' := 8) dX7_pays_7 rfl rfl ?_
  refine zv_getR (pc' := 11) dX7_pays_8 rfl flX7_19 (by first | rfl | assumption) rfl ?_
  refine zv_iload_n (pc' := 12) dX7_pays_11 rfl rfl ?_
  refine zv_ialoadE (pc' := 13) dX7_pays_12 rfl (by first | rfl | assumption) (by decide) (by omega) (by first | exact hN | exact hY | exact hM _ (by omega) | exact hS _ (by omega) | exact hX _ (by omega) | exact hK _ (by omega) | exact hF _ (by omega) | rfl) ?_
  refine zv_iload_n (pc' := 14) dX7_pays_13 rfl rfl ?_
  refine zv_icmp_ge (pc' := 17) (tgt := 32) dX7_pays_14 rfl rfl ?_ ?_
  · intro h
    have h := (nI_leI (by omega) (by omega)).mp h
    refine zv_aload_n (pc' := 33) dX7_pays_32 rfl rfl ?_
    refine zv_getR (pc' := 36) dX7_pays_33 rfl flX7_19 (by first | rfl | assumption) rfl ?_
    refine zv_iload_n (pc' := 37) dX7_pays_36 rfl rfl ?_
    refine zv_dup2 (pc' := 38) dX7_pays_37 rfl rfl rfl ?_
    refine zv_ialoadE (pc' := 39) dX7_pays_38 rfl (by first | rfl | assumption) (by decide) (by omega) (by first | exact hN | exact hY | exact hM _ (by omega) | exact hS _ (by omega) | exact hX _ (by omega) | exact hK _ (by omega) | exact hF _ (by omega) | rfl) ?_
    refine zv_iload_n (pc' := 40) dX7_pays_39 rfl rfl ?_
    refine zv_isub (pc' := 41) dX7_pays_40 rfl ?_
    refine zv_top (pk_sub h) ?_
    refine zv_iastoreN (pc' := 42) dX7_pays_41 rfl (by first | rfl | assumption) (by decide) (by omega) ?_
    have hA1 := zAm_M (i := p) (w := yM c p - duesN c p q) hA'
    have hs1 : zFr [94, 95] [7] M (zup M 94 p (nI (yM c p - duesN c p q))) := zFr.up (by decide) (by decide)
    generalize zup M 94 p (nI (yM c p - duesN c p q)) = M1 at hA1 hs1 ⊢
    have hM1 := hA1.2.2.2.2.1 q (by omega)
    rw [show yM (setM c (fu (yM c) p (yM c p - duesN c p q))) q = yM c q from fu_n (Ne.symm hpq)] at hM1
    have fin : ∀ w : Nat, w = min 99 (yM c q + duesN c p q) → ZV mdX7_pays (d + 1) (fun v M' => v = none ∧ (zAm M' (payC c p q) ∧ zFr [94, 95] [7] M M')) 73 [some (.ref 90), some (.int (nI p)), some (.int (nI q)), some (.int (nI (duesN c p q)))] [.int (nI w), .int (nI q), .ref 94] M1 := by
      intro w hw
      refine zv_iastoreN (pc' := 74) dX7_pays_73 rfl (by first | rfl | assumption) (by decide) (by omega) ?_
      refine zv_vret dX7_pays_74 rfl ?_
      refine ⟨rfl, ?_, hs1.tr (zFr.up (by decide) (by decide))⟩
      have hA2 := zAm_M (i := q) (w := w) hA1
      unfold payC
      rw [if_neg (by omega)]
      have e : setM (setM c (fu (yM c) p (yM c p - duesN c p q))) (fu (yM (setM c (fu (yM c) p (yM c p - duesN c p q)))) q w) = setM c (fu (fu (yM c) q (min 99 (yM c q + duesN c p q))) p (yM c p - duesN c p q)) := by
        unfold setM
        congr 5
        funext j
        show fu (fu (yM c) p _) q w j = fu (fu (yM c) q _) p _ j
        rw [hw]
        unfold fu
        by_cases h1 : j = p
        · subst h1; simp [hpq]
        · by_cases h2 : j = q
          · subst h2; simp [h1]
          · simp [h1, h2]
      rw [e] at hA2
      exact hA2
    refine zv_aload_n (pc' := 43) dX7_pays_42 rfl rfl ?_
    refine zv_getR (pc' := 46) dX7_pays_43 rfl flX7_19 (by first | rfl | assumption) rfl ?_
    refine zv_iload_n (pc' := 47) dX7_pays_46 rfl rfl ?_
    refine zv_aload_n (pc' := 48) dX7_pays_47 rfl rfl ?_
    refine zv_getR (pc' := 51) dX7_pays_48 rfl flX7_19 (by first | rfl | assumption) rfl ?_
    refine zv_iload_n (pc' := 52) dX7_pays_51 rfl rfl ?_
    refine zv_ialoadE (pc' := 53) dX7_pays_52 rfl (by first | rfl | assumption) (by decide) (by omega) (by first | exact hM1 | rfl) ?_
    refine zv_iload_n (pc' := 54) dX7_pays_53 rfl rfl ?_
    refine zv_iadd (pc' := 55) dX7_pays_54 rfl ?_
    refine zv_top (nI_add _ _) ?_
    refine zv_bipush (v := nI 99) (pc' := 57) dX7_pays_55 rfl (by decide) ?_
    refine zv_icmp_le (pc' := 60) (tgt := 65) dX7_pays_57 rfl rfl ?_ ?_
    · intro h2
      have h2 := (nI_leI (by omega) (by omega)).mp h2
      refine zv_aload_n (pc' := 66) dX7_pays_65 rfl rfl ?_
      refine zv_getR (pc' := 69) dX7_pays_66 rfl flX7_19 (by first | rfl | assumption) rfl ?_
      refine zv_iload_n (pc' := 70) dX7_pays_69 rfl rfl ?_
      refine zv_ialoadE (pc' := 71) dX7_pays_70 rfl (by first | rfl | assumption) (by decide) (by omega) (by first | exact hM1 | rfl) ?_
      refine zv_iload_n (pc' := 72) dX7_pays_71 rfl rfl ?_
      refine zv_iadd (pc' := 73) dX7_pays_72 rfl ?_
      refine zv_top (nI_add _ _) ?_
      exact fin _ (by omega)
    · intro h2
      have h2 := mt (nI_leI (a := yM c q + duesN c p q) (b := 99) (by omega) (by omega)).mpr h2
      refine zv_bipush (v := nI 99) (pc' := 62) dX7_pays_60 rfl (by decide) ?_
      refine zv_goto (pc' := 73) dX7_pays_62 rfl ?_
      exact fin _ (by omega)
  · intro h
    have h := mt (nI_leI (a := duesN c p q) (b := yM c p) (by omega) (by omega)).mpr h
    refine zv_aload_n (pc' := 18) dX7_pays_17 rfl rfl ?_
    refine zv_getR (pc' := 21) dX7_pays_18 rfl flX7_22 (by first | rfl | assumption) rfl ?_
    refine zv_iload_n (pc' := 22) dX7_pays_21 rfl rfl ?_
    refine zv_dup2 (pc' := 23) dX7_pays_22 rfl rfl rfl ?_
    refine zv_ialoadE (pc' := 24) dX7_pays_23 rfl (by first | rfl | assumption) (by decide) (by omega) (by first | exact hN | exact hY | exact hM _ (by omega) | exact hS _ (by omega) | exact hX _ (by omega) | exact hK _ (by omega) | exact hF _ (by omega) | rfl) ?_
    refine zv_iconst (v := nI 1) (pc' := 25) dX7_pays_24 rfl (by decide) ?_
    refine zv_iload_n (pc' := 26) dX7_pays_25 rfl rfl ?_
    refine zv_ishl (pc' := 27) dX7_pays_26 rfl ?_
    refine zv_top (zsh1 q (by omega)) ?_
    refine zv_iconst (v := (-1 : Int32)) (pc' := 28) dX7_pays_27 rfl (by decide) ?_
    refine zv_ixor (pc' := 29) dX7_pays_28 rfl ?_
    refine zv_iand (pc' := 30) dX7_pays_29 rfl ?_
    refine zv_top mk_cl1 ?_
    refine zv_iastoreN (pc' := 31) dX7_pays_30 rfl (by first | rfl | assumption) (by decide) (by omega) ?_
    refine zv_vret dX7_pays_31 rfl ?_
    refine ⟨rfl, ?_, zFr.up (by decide) (by decide)⟩
    have hA2 := zAm_S (i := p) (r := fun j => yS c p j && !decide (j = q)) hA'
    unfold payC
    rw [if_pos (by omega)]
    have e : fu2 (yS c) p q false = fu (yS c) p (fun j => yS c p j && !decide (j = q)) := by
      unfold fu2
      congr 1
      funext j
      by_cases e : j = q <;> simp [fu, e]
    rw [e]
    exact hA2
def absM (dd : Nat) : Int32 := if dd < 8 then nI dd else (-9)
theorem absM_eq {p dd : Nat} (hp : p < 8) : nI p = absM dd ↔ p = dd := by
  unfold absM
  split
  · exact nI_eq (by omega) (by omega)
  · constructor
    · intro h
      have : ∀ p, p < 8 → ¬ nI p = (-9 : Int32) := by decide
      exact absurd h (this p hp)
    · intro h; omega
theorem x7_row_loop {dd p n : Nat} (hn : n ≤ 8) (hp : p < n) {Q : ZMem → Prop} {M0 : ZMem} (h0 : M0 90 8 = absM dd) : ∀ (r q : Nat) (c : ZCty) (M : ZMem), q + r = n → zAm M c → zOk c → yN c = n → zFr [94, 95] [7] M0 M →
    (∀ M', zAm M' (zlf r q (fun q c => stepC dd c p q) c) → zFr [94, 95] [7] M0 M' → ZV mdX7_goesYear (d + 2) (fun v M' => v = none ∧ Q M') 67 [some (.ref 90), some (.int (nI p)), none] [] M') →
    ZV mdX7_goesYear (d + 2) (fun v M' => v = none ∧ Q M') 22 [some (.ref 90), some (.int (nI p)), some (.int (nI q))] [] M := by
  intro r
  induction r with
  | zero =>
    intro q c M hqr hA hk hnc hs hK
    have e : q = n := by omega
    subst e
    have hN : M 90 6 = nI q := by rw [← hnc]; exact hA.1
    refine zv_iload_n (pc' := 23) dX7_goesYear_22 rfl rfl ?_
    refine zv_aload_n (pc' := 24) dX7_goesYear_23 rfl rfl ?_
    refine zv_getIE (pc' := 27) dX7_goesYear_24 rfl flX7_65 (by first | rfl | assumption) rfl (by first | exact hN | exact hY | exact hM _ (by omega) | exact hS _ (by omega) | exact hX _ (by omega) | exact hK _ (by omega) | exact hF _ (by omega) | rfl) ?_
    refine zv_icmp_ge (pc' := 30) (tgt := 67) dX7_goesYear_27 rfl rfl (fun _ => ?_) (fun hcc => absurd (Int32.le_refl _) hcc)
    refine zv_fg [2] ?_
    exact hK M hA hs
  | succ r ih =>
    intro q c M hqr hA hk hnc hs hK
    have hN : M 90 6 = nI n := by rw [← hnc]; exact hA.1
    have hD : M 90 8 = absM dd := by rw [hs.2 8 (by decide)]; exact h0
    have next : ∀ M1, zAm M1 (stepC dd c p q) → zFr [94, 95] [7] M0 M1 → ZV mdX7_goesYear (d + 2) (fun v M' => v = none ∧ Q M') 61 [some (.ref 90), some (.int (nI p)), some (.int (nI q))] [] M1 := by
      intro M1 hA1 hs1
      refine zv_iinc (w := nI 1) (pc' := 64) dX7_goesYear_61 rfl rfl (by decide) (by decide) ?_
      refine zv_goto (pc' := 22) dX7_goesYear_64 rfl ?_
      rw [nI_add]
      exact ih (q + 1) (stepC dd c p q) M1 (by omega) hA1 (zOk_step hk).1 ((zOk_step hk).2.trans hnc) hs1 hK
    have stay : ¬ (p ≠ dd ∧ q ≠ dd ∧ kinB c p q = true) → ZV mdX7_goesYear (d + 2) (fun v M' => v = none ∧ Q M') 61 [some (.ref 90), some (.int (nI p)), some (.int (nI q))] [] M := by
      intro h
      have e1 : stepC dd c p q = c := by unfold stepC; rw [if_neg h]
      exact next M (by rw [e1]; exact hA) hs
    refine zv_iload_n (pc' := 23) dX7_goesYear_22 rfl rfl ?_
    refine zv_aload_n (pc' := 24) dX7_goesYear_23 rfl rfl ?_
    refine zv_getIE (pc' := 27) dX7_goesYear_24 rfl flX7_65 (by first | rfl | assumption) rfl (by first | exact hN | exact hD | rfl) ?_
    refine zv_icmp_ge (pc' := 30) (tgt := 67) dX7_goesYear_27 rfl rfl (fun hcc => absurd hcc (nI_ge (by omega) (by omega))) (fun _ => ?_)
    refine zv_iload_n (pc' := 31) dX7_goesYear_30 rfl rfl ?_
    refine zv_aload_n (pc' := 32) dX7_goesYear_31 rfl rfl ?_
    refine zv_getIE (pc' := 35) dX7_goesYear_32 rfl flX7_28 (by first | rfl | assumption) rfl (by first | exact hN | exact hD | rfl) ?_
    refine zv_icmp_eq (pc' := 38) (tgt := 61) dX7_goesYear_35 rfl rfl ?_ ?_
    · intro h
      exact stay (fun z => z.1 ((absM_eq (by omega)).mp h))
    · intro h
      have h := fun e => h ((absM_eq (p := p) (dd := dd) (by omega)).mpr e)
      refine zv_iload_n (pc' := 39) dX7_goesYear_38 rfl rfl ?_
      refine zv_aload_n (pc' := 40) dX7_goesYear_39 rfl rfl ?_
      refine zv_getIE (pc' := 43) dX7_goesYear_40 rfl flX7_28 (by first | rfl | assumption) rfl (by first | exact hN | exact hD | rfl) ?_
      refine zv_icmp_eq (pc' := 46) (tgt := 61) dX7_goesYear_43 rfl rfl ?_ ?_
      · intro h2
        exact stay (fun z => z.2.1 ((absM_eq (by omega)).mp h2))
      · intro h2
        have h2 := fun e => h2 ((absM_eq (p := q) (dd := dd) (by omega)).mpr e)
        refine zv_aload_n (pc' := 47) dX7_goesYear_46 rfl rfl ?_
        refine zv_iload_n (pc' := 48) dX7_goesYear_47 rfl rfl ?_
        refine zv_iload_n (pc' := 49) dX7_goesYear_48 rfl rfl ?_
        refine zv_cV2_pi (pc' := 52) dX7_goesYear_49 rfl lkX7_79 (by first | rfl | assumption) rfl (Nat.le_of_ble_eq_true rfl) (x7_isKin hA hk (by omega) (by omega)) ?_
        refine zv_if_eq (pc' := 55) (tgt := 61) dX7_goesYear_52 rfl rfl ?_ ?_
        · intro h3
          exact stay (fun z => by rw [zb_0.mp h3] at z; exact absurd z.2.2 (by decide))
        · intro h3
          have hkin := zb_ne.mp h3
          have hpq : p ≠ q := by
            intro e
            rw [← e, kin_irr hk] at hkin
            cases hkin
          refine zv_aload_n (pc' := 56) dX7_goesYear_55 rfl rfl ?_
          refine zv_iload_n (pc' := 57) dX7_goesYear_56 rfl rfl ?_
          refine zv_iload_n (pc' := 58) dX7_goesYear_57 rfl rfl ?_
          refine zv_cV2_fv (pc' := 61) dX7_goesYear_58 rfl lkX7_175 (by first | rfl | assumption) rfl (Nat.le_of_ble_eq_true rfl) (x7_pays hA hk (by omega) (by omega) hpq) ?_
          rintro M1 ⟨hA1, hs1⟩
          have e1 : stepC dd c p q = payC c p q := by unfold stepC; rw [if_pos ⟨h, h2, hkin⟩]
          exact next M1 (by rw [e1]; exact hA1) (hs.tr hs1)
theorem x7_year_loop {dd n : Nat} (hn : n ≤ 8) {M0 : ZMem} {cF : ZCty} (h0 : M0 90 8 = absM dd) : ∀ (r p : Nat) (c : ZCty) (M : ZMem), p + r = n → zAm M c → zOk c → yN c = n → zFr [94, 95] [7] M0 M → zlf r p (fun p c => rowC dd c p) c = cF →
    ZV mdX7_goesYear (d + 2) (fun v M' => v = none ∧ (zAm M' cF ∧ zFr [94, 95] [7] M0 M')) 12 [some (.ref 90), some (.int (nI p)), none] [] M := by
  intro r
  induction r with
  | zero =>
    intro p c M hpr hA hk hnc hs hF
    have e : p = n := by omega
    subst e
    have hN : M 90 6 = nI p := by rw [← hnc]; exact hA.1
    refine zv_iload_n (pc' := 13) dX7_goesYear_12 rfl rfl ?_
    refine zv_aload_n (pc' := 14) dX7_goesYear_13 rfl rfl ?_
    refine zv_getIE (pc' := 17) dX7_goesYear_14 rfl flX7_65 (by first | rfl | assumption) rfl (by first | exact hN | exact hY | exact hM _ (by omega) | exact hS _ (by omega) | exact hX _ (by omega) | exact hK _ (by omega) | exact hF _ (by omega) | rfl) ?_
    refine zv_icmp_ge (pc' := 20) (tgt := 73) dX7_goesYear_17 rfl rfl (fun _ => ?_) (fun hcc => absurd (Int32.le_refl _) hcc)
    refine zv_vret dX7_goesYear_73 rfl ?_
    subst hF
    exact ⟨rfl, hA, hs⟩
  | succ r ih =>
    intro p c M hpr hA hk hnc hs hF
    have hN : M 90 6 = nI n := by rw [← hnc]; exact hA.1
    have fin : ∀ M', zAm M' (zlf n 0 (fun q c => stepC dd c p q) c) → zFr [94, 95] [7] M0 M' → ZV mdX7_goesYear (d + 2) (fun v M' => v = none ∧ (zAm M' cF ∧ zFr [94, 95] [7] M0 M')) 67 [some (.ref 90), some (.int (nI p)), none] [] M' := by
      intro M' hA1 hs1
      refine zv_iinc (w := nI 1) (pc' := 70) dX7_goesYear_67 rfl rfl (by decide) (by decide) ?_
      refine zv_goto (pc' := 12) dX7_goesYear_70 rfl ?_
      rw [nI_add]
      have e1 : zlf n 0 (fun q c => stepC dd c p q) c = rowC dd c p := by rw [rowC, hnc]
      rw [e1] at hA1
      exact ih (p + 1) (rowC dd c p) M' (by omega) hA1 (zOk_row hk).1 ((zOk_row hk).2.trans hnc) hs1 hF
    refine zv_iload_n (pc' := 13) dX7_goesYear_12 rfl rfl ?_
    refine zv_aload_n (pc' := 14) dX7_goesYear_13 rfl rfl ?_
    refine zv_getIE (pc' := 17) dX7_goesYear_14 rfl flX7_65 (by first | rfl | assumption) rfl (by first | exact hN | exact hY | exact hM _ (by omega) | exact hS _ (by omega) | exact hX _ (by omega) | exact hK _ (by omega) | exact hF _ (by omega) | rfl) ?_
    refine zv_icmp_ge (pc' := 20) (tgt := 73) dX7_goesYear_17 rfl rfl (fun hcc => absurd hcc (nI_ge (by omega) (by omega))) (fun _ => ?_)
    refine zv_iconst (v := nI 0) (pc' := 21) dX7_goesYear_20 rfl (by decide) ?_
    refine zv_istore_n (pc' := 22) dX7_goesYear_21 rfl (by decide) ?_
    exact x7_row_loop hn (by omega) h0 n 0 c M (by omega) hA hk hnc hs fin
theorem x7_goesYear {dd : Nat} (hA : zAm M c) (hk : zOk c) (hD : M 90 8 = absM dd) : ZFv mdX7_goesYear (d + 2) [.ref 90] M (fun M' => zAm M' (yearC dd c) ∧ zFr [94, 95] [7] M M') := by
  have hA' := hA
  obtain ⟨hN, hY, hK, hF, hM, hS, hX⟩ := hA
  refine zex_intro (L := [some (.ref 90), none, none]) (by decide) (Nat.le_of_ble_eq_true rfl) rfl ?_
  refine zv_aload_n (pc' := 1) dX7_goesYear_0 rfl rfl ?_
  refine zv_dup (pc' := 2) dX7_goesYear_1 rfl rfl ?_
  refine zv_getIE (pc' := 5) dX7_goesYear_2 rfl flX7_126 (by first | rfl | assumption) rfl (by first | exact hN | exact hY | exact hM _ (by omega) | exact hS _ (by omega) | exact hX _ (by omega) | exact hK _ (by omega) | exact hF _ (by omega) | rfl) ?_
  refine zv_iconst (v := nI 1) (pc' := 6) dX7_goesYear_5 rfl (by decide) ?_
  refine zv_iadd (pc' := 7) dX7_goesYear_6 rfl ?_
  refine zv_top (nI_add _ _) ?_
  refine zv_putI (pc' := 10) dX7_goesYear_7 rfl flX7_126 pfX7_7 (by first | rfl | assumption) rfl rfl rfl ?_
  refine zv_iconst (v := nI 0) (pc' := 11) dX7_goesYear_10 rfl (by decide) ?_
  refine zv_istore_n (pc' := 12) dX7_goesYear_11 rfl (by decide) ?_
  have h1 : zAm (zup M 90 7 (nI (yY c + 1))) (setY c (yY c + 1)) := zAm_Y hA'
  exact x7_year_loop hk.1 hD (yN c) 0 _ _ (by omega) h1 hk rfl (zFr.uf (by decide)) rfl
theorem x7_goes {n : Nat} (hA : zAm M c) (hk : zOk c) (hD : M 90 8 = absM 100) (hn : n < 2 ^ 31) : ZFv mdX7_goes (d + 3) [.ref 90, .int (nI n)] M (fun M' => zAm M' (yearsC n c) ∧ zFr [94, 95] [7] M M') := by
  have lp : ∀ (r k : Nat) (c1 : ZCty) (M1 : ZMem), k + r = n → zAm M1 c1 → zOk c1 → zFr [94, 95] [7] M M1 → zlf r k (fun _ c => yearC 100 c) c1 = yearsC n c →
      ZV mdX7_goes (d + 3) (fun v M' => v = none ∧ (zAm M' (yearsC n c) ∧ zFr [94, 95] [7] M M')) 2 [some (.ref 90), some (.int (nI n)), some (.int (nI k))] [] M1 := by
    intro r
    induction r with
    | zero =>
      intro k c1 M1 e hA1 hk1 hs1 hF
      have e : k = n := by omega
      subst e
      refine zv_iload_n (pc' := 3) dX7_goes_2 rfl rfl ?_
      refine zv_iload_n (pc' := 4) dX7_goes_3 rfl rfl ?_
      refine zv_icmp_ge (pc' := 7) (tgt := 17) dX7_goes_4 rfl rfl (fun _ => ?_) (fun hcc => absurd (Int32.le_refl _) hcc)
      refine zv_vret dX7_goes_17 rfl ?_
      rw [← hF]
      exact ⟨rfl, hA1, hs1⟩
    | succ r ih =>
      intro k c1 M1 e hA1 hk1 hs1 hF
      refine zv_iload_n (pc' := 3) dX7_goes_2 rfl rfl ?_
      refine zv_iload_n (pc' := 4) dX7_goes_3 rfl rfl ?_
      refine zv_icmp_ge (pc' := 7) (tgt := 17) dX7_goes_4 rfl rfl (fun hcc => absurd hcc (nI_ge (by omega) (by omega))) (fun _ => ?_)
      refine zv_aload_n (pc' := 8) dX7_goes_7 rfl rfl ?_
      refine zv_cV0_fv (pc' := 11) dX7_goes_8 rfl lkX7_178 (by first | rfl | assumption) rfl (Nat.le_of_ble_eq_true rfl) (x7_goesYear (dd := 100) hA1 hk1 (by rw [hs1.2 8 (by decide)]; exact hD)) ?_
      rintro M2 ⟨hA2, hs2⟩
      refine zv_iinc (w := nI 1) (pc' := 14) dX7_goes_11 rfl rfl (by decide) (by decide) ?_
      refine zv_goto (pc' := 2) dX7_goes_14 rfl ?_
      rw [nI_add]
      exact ih (k + 1) _ M2 (by omega) hA2 (zOk_year hk1).1 (hs1.tr hs2) hF
  refine zex_intro (L := [some (.ref 90), some (.int (nI n)), none]) (by decide) (Nat.le_of_ble_eq_true rfl) rfl ?_
  refine zv_iconst (v := nI 0) (pc' := 1) dX7_goes_0 rfl (by decide) ?_
  refine zv_istore_n (pc' := 2) dX7_goes_1 rfl (by decide) ?_
  exact lp n 0 c M (by omega) hA hk zFr.rf rfl
theorem x7_wealth (hA : zAm M c) (hn : yN c ≤ 8) : ZPi mdX7_wealth d [.ref 90] M (nI (wealthN c)) := by
  obtain ⟨hN, hY, hK, hF, hM, hS, hX⟩ := hA
  have lp : ∀ r k, k + r = yN c → ZV mdX7_wealth d (fun v M' => v = some (.int (nI (wealthN c))) ∧ M' = M) 4 [some (.ref 90), some (.int (nI (zsum k (yM c)))), some (.int (nI k))] [] M := by
    intro r
    induction r with
    | zero =>
      intro k e
      have e : k = yN c := by omega
      subst e
      refine zv_iload_n (pc' := 5) dX7_wealth_4 rfl rfl ?_
      refine zv_aload_n (pc' := 6) dX7_wealth_5 rfl rfl ?_
      refine zv_getIE (pc' := 9) dX7_wealth_6 rfl flX7_65 (by first | rfl | assumption) rfl (by first | exact hN | exact hY | exact hM _ (by omega) | exact hS _ (by omega) | exact hX _ (by omega) | exact hK _ (by omega) | exact hF _ (by omega) | rfl) ?_
      refine zv_icmp_ge (pc' := 12) (tgt := 27) dX7_wealth_9 rfl rfl (fun _ => ?_) (fun hcc => absurd (Int32.le_refl _) hcc)
      refine zv_iload_n (pc' := 28) dX7_wealth_27 rfl rfl ?_
      refine zv_iret dX7_wealth_28 rfl ?_
      exact zpi_ret rfl
    | succ r ih =>
      intro k e
      refine zv_iload_n (pc' := 5) dX7_wealth_4 rfl rfl ?_
      refine zv_aload_n (pc' := 6) dX7_wealth_5 rfl rfl ?_
      refine zv_getIE (pc' := 9) dX7_wealth_6 rfl flX7_65 (by first | rfl | assumption) rfl (by first | exact hN | exact hY | exact hM _ (by omega) | exact hS _ (by omega) | exact hX _ (by omega) | exact hK _ (by omega) | exact hF _ (by omega) | rfl) ?_
      refine zv_icmp_ge (pc' := 12) (tgt := 27) dX7_wealth_9 rfl rfl (fun hcc => absurd hcc (nI_ge (by omega) (by omega))) (fun _ => ?_)
      refine zv_iload_n (pc' := 13) dX7_wealth_12 rfl rfl ?_
      refine zv_aload_n (pc' := 14) dX7_wealth_13 rfl rfl ?_
      refine zv_getR (pc' := 17) dX7_wealth_14 rfl flX7_19 (by first | rfl | assumption) rfl ?_
      refine zv_iload_n (pc' := 18) dX7_wealth_17 rfl rfl ?_
      refine zv_ialoadE (pc' := 19) dX7_wealth_18 rfl (by first | rfl | assumption) (by decide) (by omega) (by first | exact hN | exact hY | exact hM _ (by omega) | exact hS _ (by omega) | exact hX _ (by omega) | exact hK _ (by omega) | exact hF _ (by omega) | rfl) ?_
      refine zv_iadd (pc' := 20) dX7_wealth_19 rfl ?_
      refine zv_top (nI_add _ _) ?_
      refine zv_istore_n (pc' := 21) dX7_wealth_20 rfl (by decide) ?_
      refine zv_iinc (w := nI 1) (pc' := 24) dX7_wealth_21 rfl rfl (by decide) (by decide) ?_
      refine zv_goto (pc' := 4) dX7_wealth_24 rfl ?_
      rw [nI_add]
      exact ih (k + 1) (by omega)
  refine zex_intro (L := [some (.ref 90), none, none]) (by decide) (Nat.le_of_ble_eq_true rfl) rfl ?_
  refine zv_iconst (v := nI 0) (pc' := 1) dX7_wealth_0 rfl (by decide) ?_
  refine zv_istore_n (pc' := 2) dX7_wealth_1 rfl (by decide) ?_
  refine zv_iconst (v := nI 0) (pc' := 3) dX7_wealth_2 rfl (by decide) ?_
  refine zv_istore_n (pc' := 4) dX7_wealth_3 rfl (by decide) ?_
  exact lp (yN c) 0 (by omega)
theorem x7_twosOfKin (hA : zAm M c) (hk : zOk c) : ZPi mdX7_twosOfKin (d + 3) [.ref 90] M (nI (kinN c)) := by
  have hn := hk.1
  have hA' := hA
  obtain ⟨hN, hY, hK, hF, hM, hS, hX⟩ := hA
  have lp : ∀ r k, k + r = yN c → ZV mdX7_twosOfKin (d + 3) (fun v M' => v = some (.int (nI (kinN c))) ∧ M' = M) 4 [some (.ref 90), some (.int (nI (zsum k (fun i => zcn 8 (kinB c i))))), some (.int (nI k))] [] M := by
    intro r
    induction r with
    | zero =>
      intro k e
      have e : k = yN c := by omega
      subst e
      refine zv_iload_n (pc' := 5) dX7_twosOfKin_4 rfl rfl ?_
      refine zv_aload_n (pc' := 6) dX7_twosOfKin_5 rfl rfl ?_
      refine zv_getIE (pc' := 9) dX7_twosOfKin_6 rfl flX7_65 (by first | rfl | assumption) rfl (by first | exact hN | exact hY | exact hM _ (by omega) | exact hS _ (by omega) | exact hX _ (by omega) | exact hK _ (by omega) | exact hF _ (by omega) | rfl) ?_
      refine zv_icmp_ge (pc' := 12) (tgt := 29) dX7_twosOfKin_9 rfl rfl (fun _ => ?_) (fun hcc => absurd (Int32.le_refl _) hcc)
      refine zv_iload_n (pc' := 30) dX7_twosOfKin_29 rfl rfl ?_
      refine zv_iconst (v := nI 2) (pc' := 31) dX7_twosOfKin_30 rfl (by decide) ?_
      refine zv_idiv (pc' := 32) dX7_twosOfKin_31 rfl (by first | assumption | decide) ?_
      refine zv_iret dX7_twosOfKin_32 rfl ?_
      refine zpi_ret (pk_div ?_ (by omega) (by omega))
      have := zsum_cn (n := yN c) (f := kinB c)
      omega
    | succ r ih =>
      intro k e
      refine zv_iload_n (pc' := 5) dX7_twosOfKin_4 rfl rfl ?_
      refine zv_aload_n (pc' := 6) dX7_twosOfKin_5 rfl rfl ?_
      refine zv_getIE (pc' := 9) dX7_twosOfKin_6 rfl flX7_65 (by first | rfl | assumption) rfl (by first | exact hN | exact hY | exact hM _ (by omega) | exact hS _ (by omega) | exact hX _ (by omega) | exact hK _ (by omega) | exact hF _ (by omega) | rfl) ?_
      refine zv_icmp_ge (pc' := 12) (tgt := 29) dX7_twosOfKin_9 rfl rfl (fun hcc => absurd hcc (nI_ge (by omega) (by omega))) (fun _ => ?_)
      refine zv_iload_n (pc' := 13) dX7_twosOfKin_12 rfl rfl ?_
      refine zv_aload_n (pc' := 14) dX7_twosOfKin_13 rfl rfl ?_
      refine zv_iload_n (pc' := 15) dX7_twosOfKin_14 rfl rfl ?_
      refine zv_cV1_pi (pc' := 18) dX7_twosOfKin_15 rfl lkX7_181 (by first | rfl | assumption) rfl (Nat.le_of_ble_eq_true rfl) (x7_kinOf hA' hk (by omega)) ?_
      refine zv_cS1_pi (pc' := 21) dX7_twosOfKin_18 rfl lkX7_184 (Nat.le_of_ble_eq_true rfl) (x7_bitsM) ?_
      refine zv_iadd (pc' := 22) dX7_twosOfKin_21 rfl ?_
      refine zv_top (nI_add _ _) ?_
      refine zv_istore_n (pc' := 23) dX7_twosOfKin_22 rfl (by decide) ?_
      refine zv_iinc (w := nI 1) (pc' := 26) dX7_twosOfKin_23 rfl rfl (by decide) (by decide) ?_
      refine zv_goto (pc' := 4) dX7_twosOfKin_26 rfl ?_
      rw [nI_add]
      exact ih (k + 1) (by omega)
  refine zex_intro (L := [some (.ref 90), none, none]) (by decide) (Nat.le_of_ble_eq_true rfl) rfl ?_
  refine zv_iconst (v := nI 0) (pc' := 1) dX7_twosOfKin_0 rfl (by decide) ?_
  refine zv_istore_n (pc' := 2) dX7_twosOfKin_1 rfl (by decide) ?_
  refine zv_iconst (v := nI 0) (pc' := 3) dX7_twosOfKin_2 rfl (by decide) ?_
  refine zv_istore_n (pc' := 4) dX7_twosOfKin_3 rfl (by decide) ?_
  exact lp (yN c) 0 (by omega)
end
