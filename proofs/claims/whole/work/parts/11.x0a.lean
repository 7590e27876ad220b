/-! County: reads -/
theorem zpi_ret {x r : Int32} {M : ZMem} (h : x = r) : some (Value.int x) = some (Value.int r) ∧ M = M := ⟨by rw [h], rfl⟩
theorem zpi_t {b : Bool} {M : ZMem} (h : b = true) : some (Value.int (nI 1)) = some (Value.int (zb b)) ∧ M = M := ⟨by rw [h]; rfl, rfl⟩
theorem zpi_f {b : Bool} {M : ZMem} (h : b = false) : some (Value.int (nI 0)) = some (Value.int (zb b)) ∧ M = M := ⟨by rw [h]; rfl, rfl⟩
def hasB (n : Nat) (x : Int32) : Bool := decide (¬ x < 0) && decide (¬ nI n ≤ x)
theorem hasB_in {n k : Nat} (h : k < n) (hn : n ≤ 8) : hasB n (nI k) = true := by
  simp only [hasB, Bool.and_eq_true, decide_eq_true_eq]
  exact ⟨nI_pos (by omega), nI_ge h (by omega)⟩
theorem hasB_of {n : Nat} {x : Int32} (hn : n ≤ 8) (h : hasB n x = true) : ∃ k, k < n ∧ x = nI k := by
  simp only [hasB, Bool.and_eq_true, decide_eq_true_eq] at h
  rcases pk_ix x (n := n) (by omega) with q | q | q
  · exact absurd q h.1
  · exact absurd q h.2
  · exact q
theorem hasB_nI {n k : Nat} (hn : n ≤ 8) (hk : k < 2 ^ 31) : hasB n (nI k) = decide (k < n) := by
  by_cases h : k < n
  · rw [hasB_in h hn]; simp [h]
  · simp only [hasB, h]
    have : nI n ≤ nI k := nI_le (by omega) hk
    simp [this]
def twoB (n : Nat) (x y : Int32) : Bool := hasB n x && hasB n y && decide (¬ x = y)
theorem twoB_of {n : Nat} {x y : Int32} (hn : n ≤ 8) (h : twoB n x y = true) : ∃ p q, p < n ∧ q < n ∧ p ≠ q ∧ x = nI p ∧ y = nI q := by
  simp only [twoB, Bool.and_eq_true, decide_eq_true_eq] at h
  obtain ⟨p, hp, rfl⟩ := hasB_of hn h.1.1
  obtain ⟨q, hq, rfl⟩ := hasB_of hn h.1.2
  exact ⟨p, q, hp, hq, fun e => h.2 (by rw [e]), rfl, rfl⟩
theorem twoB_in {n p q : Nat} (hn : n ≤ 8) (hp : p < n) (hq : q < n) (hpq : p ≠ q) : twoB n (nI p) (nI q) = true := by
  simp only [twoB, hasB_in hp hn, hasB_in hq hn, Bool.true_and, decide_eq_true_eq]
  exact fun e => hpq ((nI_eq (by omega) (by omega)).mp e)
theorem x6_isIn {d : Nat} {M : ZMem} {v q : Nat} (hv : v < 2 ^ 31) (hq : q < 31) : ZPi mdX6_isIn d [.int (nI v), .int (nI q)] M (zb (v.testBit q)) := by
  refine zex_intro (L := [some (.int (nI v)), some (.int (nI q))]) (by decide) (Nat.le_of_ble_eq_true rfl) rfl ?_
  refine zv_iload_n (pc' := 1) dX6_isIn_0 rfl rfl ?_
  refine zv_iload_n (pc' := 2) dX6_isIn_1 rfl rfl ?_
  refine zv_ishr (pc' := 3) dX6_isIn_2 rfl ?_
  refine zv_iconst (v := nI 1) (pc' := 4) dX6_isIn_3 rfl (by decide) ?_
  refine zv_iand (pc' := 5) dX6_isIn_4 rfl ?_
  refine zv_top (mk_test hv (by omega)) ?_
  refine zv_iconst (v := nI 1) (pc' := 6) dX6_isIn_5 rfl (by decide) ?_
  refine zv_icmp_ne (pc' := 9) (tgt := 13) dX6_isIn_6 rfl rfl ?_ ?_
  · intro h
    refine zv_iconst (v := nI 0) (pc' := 14) dX6_isIn_13 rfl (by decide) ?_
    refine zv_ireturn dX6_isIn_14 rfl (by first | rfl | exact zb_nar _) ?_
    exact zpi_f (by cases hb : v.testBit q; rfl; rw [hb] at h; exact absurd rfl h)
  · intro h
    refine zv_iconst (v := nI 1) (pc' := 10) dX6_isIn_9 rfl (by decide) ?_
    refine zv_goto (pc' := 14) dX6_isIn_10 rfl ?_
    refine zv_ireturn dX6_isIn_14 rfl (by first | rfl | exact zb_nar _) ?_
    exact zpi_t (zb_1.mp h)
theorem x6_isInM {d : Nat} {M : ZMem} {f : Nat → Bool} {q : Nat} (hq : q < 8) : ZPi mdX6_isIn d [.int (nI (zm 8 f)), .int (nI q)] M (zb (f q)) := by
  have h := x6_isIn (d := d) (M := M) (v := zm 8 f) (q := q) (Nat.lt_trans (zm8_lt f) (by decide)) (by omega)
  rw [zm_tb] at h
  simpa [hq] using h
section
variable {o : Nat} {M : ZMem} {c : ZCty} {d : Nat} (hC : zCy o) (hA : zAt M o c) (hk : zOk c)
theorem x0_has {x : Int32} (hC : zCy o) (hA : zAt M o c) : ZPi mdX0_has d [.ref o, .int x] M (zb (hasB (yN c) x)) := by
  obtain ⟨c0, c1, c2, c3, c4, c5⟩ := hC
  obtain ⟨hN, hY, hK, hF, hM, hS, hX⟩ := hA
  refine zex_intro (L := [some (.ref o), some (.int x)]) (by decide) (Nat.le_of_ble_eq_true rfl) rfl ?_
  refine zv_iload_n (pc' := 1) dX0_has_0 rfl rfl ?_
  refine zv_if_lt (pc' := 4) (tgt := 16) dX0_has_1 rfl rfl ?_ ?_
  · intro h
    refine zv_iconst (v := nI 0) (pc' := 17) dX0_has_16 rfl (by decide) ?_
    refine zv_ireturn dX0_has_17 rfl (by first | rfl | exact zb_nar _) ?_
    exact zpi_f (by simp [hasB, h])
  · intro h
    refine zv_iload_n (pc' := 5) dX0_has_4 rfl rfl ?_
    refine zv_aload_n (pc' := 6) dX0_has_5 rfl rfl ?_
    refine zv_getIE (pc' := 9) dX0_has_6 rfl flX0_33 (by first | rfl | assumption) rfl (by first | exact hN | exact hY | exact hM _ (by omega) | exact hS _ (by omega) | exact hX _ (by omega) | exact hK _ (by omega) | exact hF _ (by omega) | rfl) ?_
    refine zv_icmp_ge (pc' := 12) (tgt := 16) dX0_has_9 rfl rfl ?_ ?_
    · intro h2
      refine zv_iconst (v := nI 0) (pc' := 17) dX0_has_16 rfl (by decide) ?_
      refine zv_ireturn dX0_has_17 rfl (by first | rfl | exact zb_nar _) ?_
      exact zpi_f (by simp [hasB, h2])
    · intro h2
      refine zv_iconst (v := nI 1) (pc' := 13) dX0_has_12 rfl (by decide) ?_
      refine zv_goto (pc' := 17) dX0_has_13 rfl ?_
      refine zv_ireturn dX0_has_17 rfl (by first | rfl | exact zb_nar _) ?_
      exact zpi_t (by simp only [hasB, h, h2]; rfl)
theorem x0_hasTwo {x y : Int32} (hC : zCy o) (hA : zAt M o c) : ZPi mdX0_hasTwo (d + 1) [.ref o, .int x, .int y] M (zb (twoB (yN c) x y)) := by
  have hC' := hC
  have hA' := hA
  obtain ⟨c0, c1, c2, c3, c4, c5⟩ := hC
  obtain ⟨hN, hY, hK, hF, hM, hS, hX⟩ := hA
  refine zex_intro (L := [some (.ref o), some (.int x), some (.int y)]) (by decide) (Nat.le_of_ble_eq_true rfl) rfl ?_
  refine zv_aload_n (pc' := 1) dX0_hasTwo_0 rfl rfl ?_
  refine zv_iload_n (pc' := 2) dX0_hasTwo_1 rfl rfl ?_
  refine zv_cV1_pi (pc' := 5) dX0_hasTwo_2 rfl lkX0_40 (by first | rfl | assumption) rfl (Nat.le_of_ble_eq_true rfl) (x0_has hC' hA') ?_
  refine zv_if_eq (pc' := 8) (tgt := 25) dX0_hasTwo_5 rfl rfl ?_ ?_
  · intro h
    refine zv_iconst (v := nI 0) (pc' := 26) dX0_hasTwo_25 rfl (by decide) ?_
    refine zv_ireturn dX0_hasTwo_26 rfl (by first | rfl | exact zb_nar _) ?_
    exact zpi_f (by simp [twoB, zb_0.mp h])
  · intro h
    refine zv_aload_n (pc' := 9) dX0_hasTwo_8 rfl rfl ?_
    refine zv_iload_n (pc' := 10) dX0_hasTwo_9 rfl rfl ?_
    refine zv_cV1_pi (pc' := 13) dX0_hasTwo_10 rfl lkX0_40 (by first | rfl | assumption) rfl (Nat.le_of_ble_eq_true rfl) (x0_has hC' hA') ?_
    refine zv_if_eq (pc' := 16) (tgt := 25) dX0_hasTwo_13 rfl rfl ?_ ?_
    · intro h2
      refine zv_iconst (v := nI 0) (pc' := 26) dX0_hasTwo_25 rfl (by decide) ?_
      refine zv_ireturn dX0_hasTwo_26 rfl (by first | rfl | exact zb_nar _) ?_
      exact zpi_f (by simp [twoB, zb_0.mp h2])
    · intro h2
      refine zv_iload_n (pc' := 17) dX0_hasTwo_16 rfl rfl ?_
      refine zv_iload_n (pc' := 18) dX0_hasTwo_17 rfl rfl ?_
      refine zv_icmp_eq (pc' := 21) (tgt := 25) dX0_hasTwo_18 rfl rfl ?_ ?_
      · intro h3
        refine zv_iconst (v := nI 0) (pc' := 26) dX0_hasTwo_25 rfl (by decide) ?_
        refine zv_ireturn dX0_hasTwo_26 rfl (by first | rfl | exact zb_nar _) ?_
        exact zpi_f (by simp [twoB, h3])
      · intro h3
        refine zv_iconst (v := nI 1) (pc' := 22) dX0_hasTwo_21 rfl (by decide) ?_
        refine zv_goto (pc' := 26) dX0_hasTwo_22 rfl ?_
        refine zv_ireturn dX0_hasTwo_26 rfl (by first | rfl | exact zb_nar _) ?_
        exact zpi_t (by simp [twoB, h3, zb_ne.mp h, zb_ne.mp h2])
theorem x0_hasSigned {p q : Nat} (hC : zCy o) (hA : zAt M o c) (hn : yN c ≤ 8) (hp : p < yN c) (hq : q < yN c) (hpq : p ≠ q) : ZPi mdX0_hasSigned (d + 2) [.ref o, .int (nI p), .int (nI q)] M (zb (yS c p q)) := by
  have hC' := hC
  have hA' := hA
  obtain ⟨c0, c1, c2, c3, c4, c5⟩ := hC
  obtain ⟨hN, hY, hK, hF, hM, hS, hX⟩ := hA
  refine zex_intro (L := [some (.ref o), some (.int (nI p)), some (.int (nI q))]) (by decide) (Nat.le_of_ble_eq_true rfl) rfl ?_
  refine zv_aload_n (pc' := 1) dX0_hasSigned_0 rfl rfl ?_
  refine zv_iload_n (pc' := 2) dX0_hasSigned_1 rfl rfl ?_
  refine zv_iload_n (pc' := 3) dX0_hasSigned_2 rfl rfl ?_
  refine zv_cV2_pi (pc' := 6) dX0_hasSigned_3 rfl lkX0_44 (by first | rfl | assumption) rfl (Nat.le_of_ble_eq_true rfl) (x0_hasTwo hC' hA') ?_
  rw [twoB_in hn hp hq hpq]
  refine zv_if_eq (pc' := 9) (tgt := 26) dX0_hasSigned_6 rfl rfl (fun hcc => absurd hcc (by decide)) (fun _ => ?_)
  refine zv_aload_n (pc' := 10) dX0_hasSigned_9 rfl rfl ?_
  refine zv_getR (pc' := 13) dX0_hasSigned_10 rfl flX0_21 (by first | rfl | assumption) rfl ?_
  refine zv_iload_n (pc' := 14) dX0_hasSigned_13 rfl rfl ?_
  refine zv_ialoadE (pc' := 15) dX0_hasSigned_14 rfl (by first | rfl | assumption) (by decide) (by omega) (by first | exact hN | exact hY | exact hM _ (by omega) | exact hS _ (by omega) | exact hX _ (by omega) | exact hK _ (by omega) | exact hF _ (by omega) | rfl) ?_
  refine zv_iload_n (pc' := 16) dX0_hasSigned_15 rfl rfl ?_
  refine zv_cS2_pi (pc' := 19) dX0_hasSigned_16 rfl lkX0_48 (Nat.le_of_ble_eq_true rfl) (x6_isInM (by omega)) ?_
  refine zv_if_eq (pc' := 22) (tgt := 26) dX0_hasSigned_19 rfl rfl ?_ ?_
  · intro h
    refine zv_iconst (v := nI 0) (pc' := 27) dX0_hasSigned_26 rfl (by decide) ?_
    refine zv_ireturn dX0_hasSigned_27 rfl (by first | rfl | exact zb_nar _) ?_
    exact zpi_f (zb_0.mp h)
  · intro h
    refine zv_iconst (v := nI 1) (pc' := 23) dX0_hasSigned_22 rfl (by decide) ?_
    refine zv_goto (pc' := 27) dX0_hasSigned_23 rfl ?_
    refine zv_ireturn dX0_hasSigned_27 rfl (by first | rfl | exact zb_nar _) ?_
    exact zpi_t (zb_ne.mp h)
theorem x0_hasSigned0 {x y : Int32} (hC : zCy o) (hA : zAt M o c) (h : twoB (yN c) x y = false) : ZPi mdX0_hasSigned (d + 2) [.ref o, .int x, .int y] M (zb false) := by
  have hC' := hC
  have hA' := hA
  obtain ⟨c0, c1, c2, c3, c4, c5⟩ := hC
  refine zex_intro (L := [some (.ref o), some (.int x), some (.int y)]) (by decide) (Nat.le_of_ble_eq_true rfl) rfl ?_
  refine zv_aload_n (pc' := 1) dX0_hasSigned_0 rfl rfl ?_
  refine zv_iload_n (pc' := 2) dX0_hasSigned_1 rfl rfl ?_
  refine zv_iload_n (pc' := 3) dX0_hasSigned_2 rfl rfl ?_
  refine zv_cV2_pi (pc' := 6) dX0_hasSigned_3 rfl lkX0_44 (by first | rfl | assumption) rfl (Nat.le_of_ble_eq_true rfl) (x0_hasTwo hC' hA') ?_
  rw [h]
  refine zv_if_eq (pc' := 9) (tgt := 26) dX0_hasSigned_6 rfl rfl (fun _ => ?_) (fun hcc => absurd (by decide) hcc)
  refine zv_iconst (v := nI 0) (pc' := 27) dX0_hasSigned_26 rfl (by decide) ?_
  refine zv_ireturn dX0_hasSigned_27 rfl (by first | rfl | exact zb_nar _) ?_
  exact zpi_f rfl
theorem x0_atFeud {p q : Nat} (hC : zCy o) (hA : zAt M o c) (hn : yN c ≤ 8) (hp : p < yN c) (hq : q < yN c) (hpq : p ≠ q) : ZPi mdX0_atFeud (d + 2) [.ref o, .int (nI p), .int (nI q)] M (zb (yX c p q)) := by
  have hC' := hC
  have hA' := hA
  obtain ⟨c0, c1, c2, c3, c4, c5⟩ := hC
  obtain ⟨hN, hY, hK, hF, hM, hS, hX⟩ := hA
  refine zex_intro (L := [some (.ref o), some (.int (nI p)), some (.int (nI q))]) (by decide) (Nat.le_of_ble_eq_true rfl) rfl ?_
  refine zv_aload_n (pc' := 1) dX0_atFeud_0 rfl rfl ?_
  refine zv_iload_n (pc' := 2) dX0_atFeud_1 rfl rfl ?_
  refine zv_iload_n (pc' := 3) dX0_atFeud_2 rfl rfl ?_
  refine zv_cV2_pi (pc' := 6) dX0_atFeud_3 rfl lkX0_44 (by first | rfl | assumption) rfl (Nat.le_of_ble_eq_true rfl) (x0_hasTwo hC' hA') ?_
  rw [twoB_in hn hp hq hpq]
  refine zv_if_eq (pc' := 9) (tgt := 26) dX0_atFeud_6 rfl rfl (fun hcc => absurd hcc (by decide)) (fun _ => ?_)
  refine zv_aload_n (pc' := 10) dX0_atFeud_9 rfl rfl ?_
  refine zv_getR (pc' := 13) dX0_atFeud_10 rfl flX0_24 (by first | rfl | assumption) rfl ?_
  refine zv_iload_n (pc' := 14) dX0_atFeud_13 rfl rfl ?_
  refine zv_ialoadE (pc' := 15) dX0_atFeud_14 rfl (by first | rfl | assumption) (by decide) (by omega) (by first | exact hN | exact hY | exact hM _ (by omega) | exact hS _ (by omega) | exact hX _ (by omega) | exact hK _ (by omega) | exact hF _ (by omega) | rfl) ?_
  refine zv_iload_n (pc' := 16) dX0_atFeud_15 rfl rfl ?_
  refine zv_cS2_pi (pc' := 19) dX0_atFeud_16 rfl lkX0_48 (Nat.le_of_ble_eq_true rfl) (x6_isInM (by omega)) ?_
  refine zv_if_eq (pc' := 22) (tgt := 26) dX0_atFeud_19 rfl rfl ?_ ?_
  · intro h
    refine zv_iconst (v := nI 0) (pc' := 27) dX0_atFeud_26 rfl (by decide) ?_
    refine zv_ireturn dX0_atFeud_27 rfl (by first | rfl | exact zb_nar _) ?_
    exact zpi_f (zb_0.mp h)
  · intro h
    refine zv_iconst (v := nI 1) (pc' := 23) dX0_atFeud_22 rfl (by decide) ?_
    refine zv_goto (pc' := 27) dX0_atFeud_23 rfl ?_
    refine zv_ireturn dX0_atFeud_27 rfl (by first | rfl | exact zb_nar _) ?_
    exact zpi_t (zb_ne.mp h)
theorem x0_atFeud0 {x y : Int32} (hC : zCy o) (hA : zAt M o c) (h : twoB (yN c) x y = false) : ZPi mdX0_atFeud (d + 2) [.ref o, .int x, .int y] M (zb false) := by
  have hC' := hC
  have hA' := hA
  obtain ⟨c0, c1, c2, c3, c4, c5⟩ := hC
  refine zex_intro (L := [some (.ref o), some (.int x), some (.int y)]) (by decide) (Nat.le_of_ble_eq_true rfl) rfl ?_
  refine zv_aload_n (pc' := 1) dX0_atFeud_0 rfl rfl ?_
  refine zv_iload_n (pc' := 2) dX0_atFeud_1 rfl rfl ?_
  refine zv_iload_n (pc' := 3) dX0_atFeud_2 rfl rfl ?_
  refine zv_cV2_pi (pc' := 6) dX0_atFeud_3 rfl lkX0_44 (by first | rfl | assumption) rfl (Nat.le_of_ble_eq_true rfl) (x0_hasTwo hC' hA') ?_
  rw [h]
  refine zv_if_eq (pc' := 9) (tgt := 26) dX0_atFeud_6 rfl rfl (fun _ => ?_) (fun hcc => absurd (by decide) hcc)
  refine zv_iconst (v := nI 0) (pc' := 27) dX0_atFeud_26 rfl (by decide) ?_
  refine zv_ireturn dX0_atFeud_27 rfl (by first | rfl | exact zb_nar _) ?_
  exact zpi_f rfl
theorem x0_kinOf_loop {p : Nat} {f0 : Nat → Bool} (hC : zCy o) (hA : zAt M o c) (hn : yN c ≤ 8) (hp : p < yN c) : ∀ (r k : Nat), k + r = yN c →
    ZV mdX0_kinOf (d + 1) (fun v M' => v = some (.int (nI (zm 8 (fun j => f0 j && (decide (yN c ≤ j) || yS c j p))))) ∧ M' = M) 28 [some (.ref o), some (.int (nI p)), some (.int (nI (zm 8 (fun j => f0 j && (decide (k ≤ j) || yS c j p))))), some (.int (nI k))] [] M := by
  obtain ⟨c0, c1, c2, c3, c4, c5⟩ := hC
  obtain ⟨hN, hY, hK, hF, hM, hS, hX⟩ := hA
  intro r
  induction r with
  | zero =>
    intro k hkr
    have e : k = yN c := by omega
    subst e
    refine zv_iload_n (pc' := 29) dX0_kinOf_28 rfl rfl ?_
    refine zv_aload_n (pc' := 30) dX0_kinOf_29 rfl rfl ?_
    refine zv_getIE (pc' := 33) dX0_kinOf_30 rfl flX0_33 (by first | rfl | assumption) rfl (by first | exact hN | exact hY | exact hM _ (by omega) | exact hS _ (by omega) | exact hX _ (by omega) | exact hK _ (by omega) | exact hF _ (by omega) | rfl) ?_
    refine zv_icmp_ge (pc' := 36) (tgt := 63) dX0_kinOf_33 rfl rfl (fun _ => ?_) (fun hcc => absurd (Int32.le_refl _) hcc)
    refine zv_iload_n (pc' := 64) dX0_kinOf_63 rfl rfl ?_
    refine zv_iret dX0_kinOf_64 rfl ?_
    exact ⟨rfl, rfl⟩
  | succ r ih =>
    intro k hkr
    have hkn : k < yN c := by omega
    refine zv_iload_n (pc' := 29) dX0_kinOf_28 rfl rfl ?_
    refine zv_aload_n (pc' := 30) dX0_kinOf_29 rfl rfl ?_
    refine zv_getIE (pc' := 33) dX0_kinOf_30 rfl flX0_33 (by first | rfl | assumption) rfl (by first | exact hN | exact hY | exact hM _ (by omega) | exact hS _ (by omega) | exact hX _ (by omega) | exact hK _ (by omega) | exact hF _ (by omega) | rfl) ?_
    refine zv_icmp_ge (pc' := 36) (tgt := 63) dX0_kinOf_33 rfl rfl (fun hcc => absurd hcc (nI_ge hkn (by omega))) (fun _ => ?_)
    refine zv_aload_n (pc' := 37) dX0_kinOf_36 rfl rfl ?_
    refine zv_getR (pc' := 40) dX0_kinOf_37 rfl flX0_21 (by first | rfl | assumption) rfl ?_
    refine zv_iload_n (pc' := 41) dX0_kinOf_40 rfl rfl ?_
    refine zv_ialoadE (pc' := 42) dX0_kinOf_41 rfl (by first | rfl | assumption) (by decide) (by omega) (by first | exact hN | exact hY | exact hM _ (by omega) | exact hS _ (by omega) | exact hX _ (by omega) | exact hK _ (by omega) | exact hF _ (by omega) | rfl) ?_
    refine zv_iload_n (pc' := 43) dX0_kinOf_42 rfl rfl ?_
    refine zv_cS2_pi (pc' := 46) dX0_kinOf_43 rfl lkX0_48 (Nat.le_of_ble_eq_true rfl) (x6_isInM (by omega)) ?_
    refine zv_if_ne (pc' := 49) (tgt := 57) dX0_kinOf_46 rfl rfl ?_ ?_
    · intro h
      refine zv_iinc (w := nI 1) (pc' := 60) dX0_kinOf_57 rfl rfl (by decide) (by decide) ?_
      refine zv_goto (pc' := 28) dX0_kinOf_60 rfl ?_
      have e1 : (fun j => f0 j && (decide (k ≤ j) || yS c j p)) = (fun j => f0 j && (decide (k + 1 ≤ j) || yS c j p)) := by
        funext j
        by_cases e : j = k
        · subst e; simp [zb_ne.mp h]
        · have : (k ≤ j) ↔ (k + 1 ≤ j) := by omega
          simp [this]
      rw [e1, nI_add]
      exact ih (k + 1) (by omega)
    · intro h
      refine zv_iload_n (pc' := 50) dX0_kinOf_49 rfl rfl ?_
      refine zv_iconst (v := nI 1) (pc' := 51) dX0_kinOf_50 rfl (by decide) ?_
      refine zv_iload_n (pc' := 52) dX0_kinOf_51 rfl rfl ?_
      refine zv_ishl (pc' := 53) dX0_kinOf_52 rfl ?_
      refine zv_top (zsh1 k (by omega)) ?_
      refine zv_iconst (v := (-1 : Int32)) (pc' := 54) dX0_kinOf_53 rfl (by decide) ?_
      refine zv_ixor (pc' := 55) dX0_kinOf_54 rfl ?_
      refine zv_iand (pc' := 56) dX0_kinOf_55 rfl ?_
      refine zv_top mk_cl1 ?_
      refine zv_istore_n (pc' := 57) dX0_kinOf_56 rfl (by decide) ?_
      refine zv_iinc (w := nI 1) (pc' := 60) dX0_kinOf_57 rfl rfl (by decide) (by decide) ?_
      refine zv_goto (pc' := 28) dX0_kinOf_60 rfl ?_
      have e1 : (fun j => (f0 j && (decide (k ≤ j) || yS c j p)) && !decide (j = k)) = (fun j => f0 j && (decide (k + 1 ≤ j) || yS c j p)) := by
        funext j
        by_cases e : j = k
        · subst e; simp [zb_0.mp h]
        · have : (k ≤ j) ↔ (k + 1 ≤ j) := by omega
          simp [this, e]
      rw [e1, nI_add]
      exact ih (k + 1) (by omega)
theorem kinB_row {c : ZCty} {p : Nat} (hk : zOk c) (j : Nat) : (yS c p j && !yX c p j && (decide (yN c ≤ j) || yS c j p)) = kinB c p j := by
  unfold kinB
  by_cases h : yS c p j = true
  · have := (hk.2.2.2.2.1 p j h).2.1
    have h2 : ¬ yN c ≤ j := by omega
    simp only [h, h2]
    cases yX c p j <;> cases yS c j p <;> rfl
  · simp only [Bool.not_eq_true] at h
    simp [h]
theorem x0_kinOf {p : Nat} (hC : zCy o) (hA : zAt M o c) (hk : zOk c) (hp : p < yN c) : ZPi mdX0_kinOf (d + 1) [.ref o, .int (nI p)] M (nI (zm 8 (kinB c p))) := by
  have hC' := hC
  have hA' := hA
  have hn := hk.1
  obtain ⟨c0, c1, c2, c3, c4, c5⟩ := hC
  obtain ⟨hN, hY, hK, hF, hM, hS, hX⟩ := hA
  refine zex_intro (L := [some (.ref o), some (.int (nI p)), none, none]) (by decide) (Nat.le_of_ble_eq_true rfl) rfl ?_
  refine zv_aload_n (pc' := 1) dX0_kinOf_0 rfl rfl ?_
  refine zv_iload_n (pc' := 2) dX0_kinOf_1 rfl rfl ?_
  refine zv_cV1_pi (pc' := 5) dX0_kinOf_2 rfl lkX0_40 (by first | rfl | assumption) rfl (Nat.le_of_ble_eq_true rfl) (x0_has hC' hA') ?_
  rw [hasB_in hp hn]
  refine zv_if_ne (pc' := 8) (tgt := 10) dX0_kinOf_5 rfl rfl (fun _ => ?_) (fun hcc => absurd hcc (by decide))
  refine zv_aload_n (pc' := 11) dX0_kinOf_10 rfl rfl ?_
  refine zv_getR (pc' := 14) dX0_kinOf_11 rfl flX0_21 (by first | rfl | assumption) rfl ?_
  refine zv_iload_n (pc' := 15) dX0_kinOf_14 rfl rfl ?_
  refine zv_ialoadE (pc' := 16) dX0_kinOf_15 rfl (by first | rfl | assumption) (by decide) (by omega) (by first | exact hN | exact hY | exact hM _ (by omega) | exact hS _ (by omega) | exact hX _ (by omega) | exact hK _ (by omega) | exact hF _ (by omega) | rfl) ?_
  refine zv_aload_n (pc' := 17) dX0_kinOf_16 rfl rfl ?_
  refine zv_getR (pc' := 20) dX0_kinOf_17 rfl flX0_24 (by first | rfl | assumption) rfl ?_
  refine zv_iload_n (pc' := 21) dX0_kinOf_20 rfl rfl ?_
  refine zv_ialoadE (pc' := 22) dX0_kinOf_21 rfl (by first | rfl | assumption) (by decide) (by omega) (by first | exact hN | exact hY | exact hM _ (by omega) | exact hS _ (by omega) | exact hX _ (by omega) | exact hK _ (by omega) | exact hF _ (by omega) | rfl) ?_
  refine zv_iconst (v := (-1 : Int32)) (pc' := 23) dX0_kinOf_22 rfl (by decide) ?_
  refine zv_ixor (pc' := 24) dX0_kinOf_23 rfl ?_
  refine zv_iand (pc' := 25) dX0_kinOf_24 rfl ?_
  refine zv_top mk_cl ?_
  refine zv_istore_n (pc' := 26) dX0_kinOf_25 rfl (by decide) ?_
  refine zv_iconst (v := nI 0) (pc' := 27) dX0_kinOf_26 rfl (by decide) ?_
  refine zv_istore_n (pc' := 28) dX0_kinOf_27 rfl (by decide) ?_
  have h := x0_kinOf_loop (d := d) (f0 := fun j => yS c p j && !yX c p j) hC' hA' hn hp (yN c) 0 (by omega)
  have e1 : (fun j => (yS c p j && !yX c p j) && (decide (0 ≤ j) || yS c j p)) = (fun j => yS c p j && !yX c p j) := by funext j; simp
  have e2 : (fun j => (yS c p j && !yX c p j) && (decide (yN c ≤ j) || yS c j p)) = kinB c p := funext (kinB_row hk)
  rw [e1, e2] at h
  exact h
theorem x0_isKin {p q : Nat} (hC : zCy o) (hA : zAt M o c) (hk : zOk c) (hp : p < yN c) (hq : q < yN c) (hpq : p ≠ q) : ZPi mdX0_isKin (d + 2) [.ref o, .int (nI p), .int (nI q)] M (zb (kinB c p q)) := by
  have hC' := hC
  have hA' := hA
  have hn := hk.1
  obtain ⟨c0, c1, c2, c3, c4, c5⟩ := hC
  obtain ⟨hN, hY, hK, hF, hM, hS, hX⟩ := hA
  refine zex_intro (L := [some (.ref o), some (.int (nI p)), some (.int (nI q))]) (by decide) (Nat.le_of_ble_eq_true rfl) rfl ?_
  refine zv_aload_n (pc' := 1) dX0_isKin_0 rfl rfl ?_
  refine zv_iload_n (pc' := 2) dX0_isKin_1 rfl rfl ?_
  refine zv_iload_n (pc' := 3) dX0_isKin_2 rfl rfl ?_
  refine zv_cV2_pi (pc' := 6) dX0_isKin_3 rfl lkX0_44 (by first | rfl | assumption) rfl (Nat.le_of_ble_eq_true rfl) (x0_hasTwo hC' hA') ?_
  rw [twoB_in hn hp hq hpq]
  refine zv_if_eq (pc' := 9) (tgt := 25) dX0_isKin_6 rfl rfl (fun hcc => absurd hcc (by decide)) (fun _ => ?_)
  refine zv_aload_n (pc' := 10) dX0_isKin_9 rfl rfl ?_
  refine zv_iload_n (pc' := 11) dX0_isKin_10 rfl rfl ?_
  refine zv_cV1_pi (pc' := 14) dX0_isKin_11 rfl lkX0_51 (by first | rfl | assumption) rfl (Nat.le_of_ble_eq_true rfl) (x0_kinOf hC' hA' hk hp) ?_
  refine zv_iload_n (pc' := 15) dX0_isKin_14 rfl rfl ?_
  refine zv_cS2_pi (pc' := 18) dX0_isKin_15 rfl lkX0_48 (Nat.le_of_ble_eq_true rfl) (x6_isInM (by omega)) ?_
  refine zv_if_eq (pc' := 21) (tgt := 25) dX0_isKin_18 rfl rfl ?_ ?_
  · intro h
    refine zv_iconst (v := nI 0) (pc' := 26) dX0_isKin_25 rfl (by decide) ?_
    refine zv_ireturn dX0_isKin_26 rfl (by first | rfl | exact zb_nar _) ?_
    exact zpi_f (zb_0.mp h)
  · intro h
    refine zv_iconst (v := nI 1) (pc' := 22) dX0_isKin_21 rfl (by decide) ?_
    refine zv_goto (pc' := 26) dX0_isKin_22 rfl ?_
    refine zv_ireturn dX0_isKin_26 rfl (by first | rfl | exact zb_nar _) ?_
    exact zpi_t (zb_ne.mp h)
end
