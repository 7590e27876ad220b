section
variable {d : Nat} {M : ZMem}
theorem x7_divisor {a b : Nat} (ha : a < 2 ^ 31) (hb : b < 2 ^ 31) : ZPl mdX7_divisor d [.long (lN a), .long (lN b)] M (lN (Nat.gcd a b)) := by
  have lp : ∀ n v, v ≤ n → ∀ u, v < 2 ^ 31 → u < 2 ^ 31 → Nat.gcd u v = Nat.gcd a b → ZV mdX7_divisor d (fun x M' => x = some (.long (lN (Nat.gcd a b))) ∧ M' = M) 6 [some (.long (lN a)), none, some (.long (lN b)), none, some (.long (lN u)), none, some (.long (lN v)), none, none, none] [] M := by
    intro n
    induction n with
    | zero =>
      intro v hv u _ hu hg
      have hv : v = 0 := Nat.eq_zero_of_le_zero hv
      subst hv
      refine zv_lload (pc' := 8) dX7_divisor_6 rfl rfl ?_
      refine zv_lconst (v := 0) (pc' := 9) dX7_divisor_8 rfl (by decide) ?_
      refine zv_lcmp (pc' := 10) dX7_divisor_9 rfl ?_
      refine zv_if_eq (pc' := 13) (tgt := 31) dX7_divisor_10 rfl rfl (fun _ => ?_) (fun hcc => absurd ((lg0 (by decide)).mpr rfl) hcc)
      refine zv_lload (pc' := 33) dX7_divisor_31 rfl rfl ?_
      refine zv_lret dX7_divisor_33 rfl ?_
      exact ⟨by rw [← hg, Nat.gcd_zero_right], rfl⟩
    | succ n ih =>
      intro v hv u hv31 hu hg
      refine zv_lload (pc' := 8) dX7_divisor_6 rfl rfl ?_
      refine zv_lconst (v := 0) (pc' := 9) dX7_divisor_8 rfl (by decide) ?_
      refine zv_lcmp (pc' := 10) dX7_divisor_9 rfl ?_
      refine zv_if_eq (pc' := 13) (tgt := 31) dX7_divisor_10 rfl rfl ?_ ?_
      · intro h
        have h := (lg0 (by omega)).mp h
        subst h
        refine zv_lload (pc' := 33) dX7_divisor_31 rfl rfl ?_
        refine zv_lret dX7_divisor_33 rfl ?_
        exact ⟨by rw [← hg, Nat.gcd_zero_right], rfl⟩
      · intro h
        have h := mt (lg0 (b := v) (by omega)).mpr h
        have hv0 : 0 < v := by omega
        have hne : ¬ lN v = 0 := mt (pk_lEQ (a := v) (b := 0) (by omega) (by decide)).mp (by omega)
        have hm : u % v < v := Nat.mod_lt _ hv0
        refine zv_lload (pc' := 15) dX7_divisor_13 rfl rfl ?_
        refine zv_lload (pc' := 17) dX7_divisor_15 rfl rfl ?_
        refine zv_lrem (pc' := 18) dX7_divisor_17 rfl (by first | assumption | decide) ?_
        refine zv_ltop (pk_lRem (by omega) hv0 (by omega)) ?_
        refine zv_lstore (pc' := 20) dX7_divisor_18 rfl (by decide) ?_
        refine zv_lload (pc' := 22) dX7_divisor_20 rfl rfl ?_
        refine zv_lstore (pc' := 24) dX7_divisor_22 rfl (by decide) ?_
        refine zv_lload (pc' := 26) dX7_divisor_24 rfl rfl ?_
        refine zv_lstore (pc' := 28) dX7_divisor_26 rfl (by decide) ?_
        refine zv_goto (pc' := 6) dX7_divisor_28 rfl ?_
        refine zv_fg [8, 9] ?_
        exact ih (u % v) (by omega) v (by omega) hv31 (by rw [gcd_st]; exact hg)
  refine zex_intro (L := [some (.long (lN a)), none, some (.long (lN b)), none, none, none, none, none, none, none]) (by decide) (Nat.le_of_ble_eq_true rfl) rfl ?_
  refine zv_lload_n (pc' := 1) dX7_divisor_0 rfl rfl ?_
  refine zv_lstore (pc' := 3) dX7_divisor_1 rfl (by decide) ?_
  refine zv_lload_n (pc' := 4) dX7_divisor_3 rfl rfl ?_
  refine zv_lstore (pc' := 6) dX7_divisor_4 rfl (by decide) ?_
  exact lp b b (Nat.le_refl _) a hb ha rfl
theorem x6_partOf {a b w : Nat} (ha : a < 2 ^ 31) (hb : b < 2 ^ 31) (hb0 : 0 < b) (hw : w < 2) : ZPl mdX6_partOf (d + 1) [.long (lN a), .long (lN b), .int (nI w)] M (lN (ptN a b w)) := by
  have hg0 : 0 < Nat.gcd a b := Nat.gcd_pos_of_pos_right a hb0
  have hgl : Nat.gcd a b ≤ b := Nat.gcd_le_right a hb0
  have hne : ¬ lN (Nat.gcd a b) = 0 := mt (pk_lEQ (a := Nat.gcd a b) (b := 0) (by omega) (by decide)).mp (by omega)
  refine zex_intro (L := [some (.long (lN a)), none, some (.long (lN b)), none, some (.int (nI w)), none, none]) (by decide) (Nat.le_of_ble_eq_true rfl) rfl ?_
  refine zv_lload_n (pc' := 1) dX6_partOf_0 rfl rfl ?_
  refine zv_lload_n (pc' := 2) dX6_partOf_1 rfl rfl ?_
  refine zv_cS2_pl (pc' := 5) dX6_partOf_2 rfl lkX6_313 (Nat.le_of_ble_eq_true rfl) (x6_commonDivisor ha hb) ?_
  refine zv_lstore (pc' := 7) dX6_partOf_5 rfl (by decide) ?_
  refine zv_lload (pc' := 9) dX6_partOf_7 rfl rfl ?_
  refine zv_lconst (v := 0) (pc' := 10) dX6_partOf_9 rfl (by decide) ?_
  refine zv_lcmp (pc' := 11) dX6_partOf_10 rfl ?_
  refine zv_if_ne (pc' := 14) (tgt := 16) dX6_partOf_11 rfl rfl (fun _ => ?_) (fun hcc => absurd hcc (mt (lg0 (b := Nat.gcd a b) (by omega)).mp (by omega)))
  refine zv_iload (pc' := 18) dX6_partOf_16 rfl rfl ?_
  rcases (show w = 0 ∨ w = 1 by omega) with rfl | rfl
  · refine zv_if_ne (pc' := 21) (tgt := 25) dX6_partOf_18 rfl rfl (fun hcc => absurd (rfl) hcc) (fun _ => ?_)
    refine zv_lload_n (pc' := 22) dX6_partOf_21 rfl rfl ?_
    refine zv_goto (pc' := 26) dX6_partOf_22 rfl ?_
    refine zv_lload (pc' := 28) dX6_partOf_26 rfl rfl ?_
    refine zv_ldiv (pc' := 29) dX6_partOf_28 rfl (by first | assumption | decide) ?_
    refine zv_ltop (pk_lDiv (by omega) hg0 (by omega)) ?_
    refine zv_lret dX6_partOf_29 rfl ?_
    exact ⟨by rw [ptN, if_pos rfl], rfl⟩
  · refine zv_if_ne (pc' := 21) (tgt := 25) dX6_partOf_18 rfl rfl (fun _ => ?_) (fun hcc => absurd hcc (by decide))
    refine zv_lload_n (pc' := 26) dX6_partOf_25 rfl rfl ?_
    refine zv_lload (pc' := 28) dX6_partOf_26 rfl rfl ?_
    refine zv_ldiv (pc' := 29) dX6_partOf_28 rfl (by first | assumption | decide) ?_
    refine zv_ltop (pk_lDiv (by omega) hg0 (by omega)) ?_
    refine zv_lret dX6_partOf_29 rfl ?_
    exact ⟨by rw [ptN, if_neg (by decide)], rfl⟩
theorem x7_partOf {a b w : Nat} (ha : a < 2 ^ 31) (hb : b < 2 ^ 31) (hb0 : 0 < b) (hw : w < 2) : ZPl mdX7_partOf (d + 1) [.long (lN a), .long (lN b), .int (nI w)] M (lN (ptN a b w)) := by
  have hg0 : 0 < Nat.gcd a b := Nat.gcd_pos_of_pos_right a hb0
  have hgl : Nat.gcd a b ≤ b := Nat.gcd_le_right a hb0
  have hne : ¬ lN (Nat.gcd a b) = 0 := mt (pk_lEQ (a := Nat.gcd a b) (b := 0) (by omega) (by decide)).mp (by omega)
  refine zex_intro (L := [some (.long (lN a)), none, some (.long (lN b)), none, some (.int (nI w))]) (by decide) (Nat.le_of_ble_eq_true rfl) rfl ?_
  refine zv_iload (pc' := 2) dX7_partOf_0 rfl rfl ?_
  rcases (show w = 0 ∨ w = 1 by omega) with rfl | rfl
  · refine zv_if_ne (pc' := 5) (tgt := 9) dX7_partOf_2 rfl rfl (fun hcc => absurd (rfl) hcc) (fun _ => ?_)
    refine zv_lload_n (pc' := 6) dX7_partOf_5 rfl rfl ?_
    refine zv_goto (pc' := 10) dX7_partOf_6 rfl ?_
    refine zv_lload_n (pc' := 11) dX7_partOf_10 rfl rfl ?_
    refine zv_lload_n (pc' := 12) dX7_partOf_11 rfl rfl ?_
    refine zv_cS2_pl (pc' := 15) dX7_partOf_12 rfl lkX7_279 (Nat.le_of_ble_eq_true rfl) (x7_divisor ha hb) ?_
    refine zv_ldiv (pc' := 16) dX7_partOf_15 rfl (by first | assumption | decide) ?_
    refine zv_ltop (pk_lDiv (by omega) hg0 (by omega)) ?_
    refine zv_lret dX7_partOf_16 rfl ?_
    exact ⟨by rw [ptN, if_pos rfl], rfl⟩
  · refine zv_if_ne (pc' := 5) (tgt := 9) dX7_partOf_2 rfl rfl (fun _ => ?_) (fun hcc => absurd hcc (by decide))
    refine zv_lload_n (pc' := 10) dX7_partOf_9 rfl rfl ?_
    refine zv_lload_n (pc' := 11) dX7_partOf_10 rfl rfl ?_
    refine zv_lload_n (pc' := 12) dX7_partOf_11 rfl rfl ?_
    refine zv_cS2_pl (pc' := 15) dX7_partOf_12 rfl lkX7_279 (Nat.le_of_ble_eq_true rfl) (x7_divisor ha hb) ?_
    refine zv_ldiv (pc' := 16) dX7_partOf_15 rfl (by first | assumption | decide) ?_
    refine zv_ltop (pk_lDiv (by omega) hg0 (by omega)) ?_
    refine zv_lret dX7_partOf_16 rfl ?_
    exact ⟨by rw [ptN, if_neg (by decide)], rfl⟩
theorem x2_allWays {n t : Nat} (hn : n ≤ 7) (ht : t ≤ 20) : ZPl mdX2_allWays d [.int (nI n), .int (nI t)] M (lN (t ^ n)) := by
  have lp : ∀ r k, k + r = n → ZV mdX2_allWays d (fun x M' => x = some (.long (lN (t ^ n))) ∧ M' = M) 5 [some (.int (nI n)), some (.int (nI t)), some (.long (lN (t ^ k))), none, some (.int (nI k))] [] M := by
    intro r
    induction r with
    | zero =>
      intro k e
      have e : k = n := by omega
      subst e
      refine zv_iload (pc' := 7) dX2_allWays_5 rfl rfl ?_
      refine zv_iload_n (pc' := 8) dX2_allWays_7 rfl rfl ?_
      refine zv_icmp_ge (pc' := 11) (tgt := 22) dX2_allWays_8 rfl rfl (fun _ => ?_) (fun hcc => absurd (Int32.le_refl _) hcc)
      refine zv_lload_n (pc' := 23) dX2_allWays_22 rfl rfl ?_
      refine zv_lret dX2_allWays_23 rfl ?_
      exact ⟨rfl, rfl⟩
    | succ r ih =>
      intro k e
      have := ih (k + 1) (by omega)
      rw [Nat.pow_succ] at this
      refine zv_iload (pc' := 7) dX2_allWays_5 rfl rfl ?_
      refine zv_iload_n (pc' := 8) dX2_allWays_7 rfl rfl ?_
      refine zv_icmp_ge (pc' := 11) (tgt := 22) dX2_allWays_8 rfl rfl (fun hcc => absurd hcc (nI_ge (by omega) (by omega))) (fun _ => ?_)
      refine zv_lload_n (pc' := 12) dX2_allWays_11 rfl rfl ?_
      refine zv_iload_n (pc' := 13) dX2_allWays_12 rfl rfl ?_
      refine zv_i2l (pc' := 14) dX2_allWays_13 rfl ?_
      refine zv_ltop (nI_l (by omega)) ?_
      refine zv_lmul (pc' := 15) dX2_allWays_14 rfl ?_
      refine zv_ltop (lN_mul _ _) ?_
      refine zv_lstore_n (pc' := 16) dX2_allWays_15 rfl (by decide) ?_
      refine zv_iinc (w := nI 1) (pc' := 19) dX2_allWays_16 rfl rfl (by decide) (by decide) ?_
      refine zv_goto (pc' := 5) dX2_allWays_19 rfl ?_
      rw [nI_add]
      exact this
  refine zex_intro (L := [some (.int (nI n)), some (.int (nI t)), none, none, none]) (by decide) (Nat.le_of_ble_eq_true rfl) rfl ?_
  refine zv_lconst (v := 1) (pc' := 1) dX2_allWays_0 rfl (by decide) ?_
  refine zv_ltop (show (1 : Int64) = lN (t ^ 0) from by rw [Nat.pow_zero]; rfl) ?_
  refine zv_lstore_n (pc' := 2) dX2_allWays_1 rfl (by decide) ?_
  refine zv_iconst (v := nI 0) (pc' := 3) dX2_allWays_2 rfl (by decide) ?_
  refine zv_istore (pc' := 5) dX2_allWays_3 rfl (by decide) ?_
  exact lp n 0 (by omega)
end
