/-! County: sums, places changed, new people -/
def zall : Nat → (Nat → Bool) → Bool
  | 0, _ => true
  | k + 1, f => zall k f && f k
theorem zall_iff {f : Nat → Bool} : ∀ {k : Nat}, zall k f = true ↔ ∀ j, j < k → f j = true
  | 0 => by simp [zall]
  | k + 1 => by
    rw [zall, Bool.and_eq_true, zall_iff]
    constructor
    · rintro ⟨h1, h2⟩ j hj
      rcases Nat.lt_or_ge j k with h | h
      · exact h1 j h
      · rw [show j = k by omega]; exact h2
    · intro h
      exact ⟨fun j hj => h j (by omega), h k (by omega)⟩
def signN (c : ZCty) : Nat := zsum (yN c) (fun i => zcn 8 (yS c i))
def feudN (c : ZCty) : Nat := zsum (yN c) (fun i => zcn 8 (yX c i)) / 2
def kinN (c : ZCty) : Nat := zsum (yN c) (fun i => zcn 8 (kinB c i)) / 2
def asB (c c2 : ZCty) : Bool := zall (yN c) (fun i => decide (yM c i = yM c2 i) && decide (zm 8 (yS c i) = zm 8 (yS c2 i)))
def passB (y : Nat) (x : Int32) : Bool := decide (¬ x < nI 1) && decide (¬ nI 60 < x) && decide (¬ nI 999 < nI y + x)
def addC (c : ZCty) (k f v : Nat) : ZCty := (yN c + 1, yY c, fu (yK c) (yN c) k, fu (yF c) (yN c) f, fu (yM c) (yN c) v, yS c, yX c)
theorem zOk_add {c : ZCty} {k f v : Nat} (hk : zOk c) (h8 : yN c < 8) (h1 : k ≤ 5) (h2 : f ≤ 9) (h3 : v ≤ 99) : zOk (addC c k f v) := by
  obtain ⟨g1, g2, g3, g4, g5, g6, g7⟩ := hk
  refine ⟨by show yN c + 1 ≤ 8; omega, fun i => ?_, fun i => ?_, fun i => ?_, fun i j h => ?_, fun i j h => ?_, g7⟩
  · show fu (yK c) (yN c) k i ≤ 5
    unfold fu; split
    · exact h1
    · exact g2 i
  · show fu (yF c) (yN c) f i ≤ 9
    unfold fu; split
    · exact h2
    · exact g3 i
  · show fu (yM c) (yN c) v i ≤ 99
    unfold fu; split
    · exact h3
    · exact g4 i
  · have := g5 i j h
    show i < yN c + 1 ∧ j < yN c + 1 ∧ i ≠ j
    omega
  · have := g6 i j h
    show i < yN c + 1 ∧ j < yN c + 1 ∧ i ≠ j
    omega
/-- p and q change places -/
def zsw (p q i : Nat) : Nat := if i = p then q else if i = q then p else i
def swR (g : Nat → Nat → Bool) (p q : Nat) : Nat → Nat → Bool := fun i j => g (zsw p q i) (zsw p q j)
def swC (c : ZCty) (p q : Nat) : ZCty := setX (setS c (swR (yS c) p q)) (swR (yX c) p q)
theorem zsw_lt {p q i n : Nat} (hp : p < n) (hq : q < n) : zsw p q i < n ↔ i < n := by
  unfold zsw
  split
  · omega
  · split <;> omega
theorem zsw_inj {p q i j : Nat} (h : zsw p q i = zsw p q j) : i = j := by
  unfold zsw at h
  split at h <;> split at h <;> (try split at h) <;> (try split at h) <;> omega
theorem zOk_sw {c : ZCty} {p q : Nat} (hk : zOk c) (hp : p < yN c) (hq : q < yN c) : zOk (swC c p q) := by
  obtain ⟨g1, g2, g3, g4, g5, g6, g7⟩ := hk
  refine ⟨g1, g2, g3, g4, fun i j h => ?_, fun i j h => ?_, fun i j => g7 _ _⟩
  · obtain ⟨a, b, e⟩ := g5 _ _ h
    exact ⟨(zsw_lt hp hq).mp a, (zsw_lt hp hq).mp b, fun z => e (by rw [z])⟩
  · obtain ⟨a, b, e⟩ := g6 _ _ h
    exact ⟨(zsw_lt hp hq).mp a, (zsw_lt hp hq).mp b, fun z => e (by rw [z])⟩
section
variable {o : Nat} {M : ZMem} {c : ZCty} {d : Nat}
theorem x0_wealth (hC : zCy o) (hA : zAt M o c) (hn : yN c ≤ 8) : ZPi mdX0_wealth d [.ref o] M (nI (wealthN c)) := by
  obtain ⟨c0, c1, c2, c3, c4, c5⟩ := hC
  obtain ⟨hN, hY, hK, hF, hM, hS, hX⟩ := hA
  have lp : ∀ r k, k + r = yN c → ZV mdX0_wealth d (fun v M' => v = some (.int (nI (wealthN c))) ∧ M' = M) 4 [some (.ref o), some (.int (nI (zsum k (yM c)))), some (.int (nI k))] [] M := by
    intro r
    induction r with
    | zero =>
      intro k e
      have e : k = yN c := by omega
      subst e
      refine zv_iload_n (pc' := 5) dX0_wealth_4 rfl rfl ?_
      refine zv_aload_n (pc' := 6) dX0_wealth_5 rfl rfl ?_
      refine zv_getIE (pc' := 9) dX0_wealth_6 rfl flX0_33 (by first | rfl | assumption) rfl (by first | exact hN | exact hY | exact hM _ (by omega) | exact hS _ (by omega) | exact hX _ (by omega) | exact hK _ (by omega) | exact hF _ (by omega) | rfl) ?_
      refine zv_icmp_ge (pc' := 12) (tgt := 27) dX0_wealth_9 rfl rfl (fun _ => ?_) (fun hcc => absurd (Int32.le_refl _) hcc)
      refine zv_iload_n (pc' := 28) dX0_wealth_27 rfl rfl ?_
      refine zv_iret dX0_wealth_28 rfl ?_
      exact zpi_ret rfl
    | succ r ih =>
      intro k e
      refine zv_iload_n (pc' := 5) dX0_wealth_4 rfl rfl ?_
      refine zv_aload_n (pc' := 6) dX0_wealth_5 rfl rfl ?_
      refine zv_getIE (pc' := 9) dX0_wealth_6 rfl flX0_33 (by first | rfl | assumption) rfl (by first | exact hN | exact hY | exact hM _ (by omega) | exact hS _ (by omega) | exact hX _ (by omega) | exact hK _ (by omega) | exact hF _ (by omega) | rfl) ?_
      refine zv_icmp_ge (pc' := 12) (tgt := 27) dX0_wealth_9 rfl rfl (fun hcc => absurd hcc (nI_ge (by omega) (by omega))) (fun _ => ?_)
      refine zv_iload_n (pc' := 13) dX0_wealth_12 rfl rfl ?_
      refine zv_aload_n (pc' := 14) dX0_wealth_13 rfl rfl ?_
      refine zv_getR (pc' := 17) dX0_wealth_14 rfl flX0_18 (by first | rfl | assumption) rfl ?_
      refine zv_iload_n (pc' := 18) dX0_wealth_17 rfl rfl ?_
      refine zv_ialoadE (pc' := 19) dX0_wealth_18 rfl (by first | rfl | assumption) (by decide) (by omega) (by first | exact hN | exact hY | exact hM _ (by omega) | exact hS _ (by omega) | exact hX _ (by omega) | exact hK _ (by omega) | exact hF _ (by omega) | rfl) ?_
      refine zv_iadd (pc' := 20) dX0_wealth_19 rfl ?_
      refine zv_top (nI_add _ _) ?_
      refine zv_istore_n (pc' := 21) dX0_wealth_20 rfl (by decide) ?_
      refine zv_iinc (w := nI 1) (pc' := 24) dX0_wealth_21 rfl rfl (by decide) (by decide) ?_
      refine zv_goto (pc' := 4) dX0_wealth_24 rfl ?_
      rw [nI_add]
      exact ih (k + 1) (by omega)
  refine zex_intro (L := [some (.ref o), none, none]) (by decide) (Nat.le_of_ble_eq_true rfl) rfl ?_
  refine zv_iconst (v := nI 0) (pc' := 1) dX0_wealth_0 rfl (by decide) ?_
  refine zv_istore_n (pc' := 2) dX0_wealth_1 rfl (by decide) ?_
  refine zv_iconst (v := nI 0) (pc' := 3) dX0_wealth_2 rfl (by decide) ?_
  refine zv_istore_n (pc' := 4) dX0_wealth_3 rfl (by decide) ?_
  exact lp (yN c) 0 (by omega)
theorem x0_signings (hC : zCy o) (hA : zAt M o c) (hn : yN c ≤ 8) : ZPi mdX0_signings (d + 1) [.ref o] M (nI (signN c)) := by
  obtain ⟨c0, c1, c2, c3, c4, c5⟩ := hC
  obtain ⟨hN, hY, hK, hF, hM, hS, hX⟩ := hA
  have lp : ∀ r k, k + r = yN c → ZV mdX0_signings (d + 1) (fun v M' => v = some (.int (nI (signN c))) ∧ M' = M) 4 [some (.ref o), some (.int (nI (zsum k (fun i => zcn 8 (yS c i))))), some (.int (nI k))] [] M := by
    intro r
    induction r with
    | zero =>
      intro k e
      have e : k = yN c := by omega
      subst e
      refine zv_iload_n (pc' := 5) dX0_signings_4 rfl rfl ?_
      refine zv_aload_n (pc' := 6) dX0_signings_5 rfl rfl ?_
      refine zv_getIE (pc' := 9) dX0_signings_6 rfl flX0_33 (by first | rfl | assumption) rfl (by first | exact hN | exact hY | exact hM _ (by omega) | exact hS _ (by omega) | exact hX _ (by omega) | exact hK _ (by omega) | exact hF _ (by omega) | rfl) ?_
      refine zv_icmp_ge (pc' := 12) (tgt := 30) dX0_signings_9 rfl rfl (fun _ => ?_) (fun hcc => absurd (Int32.le_refl _) hcc)
      refine zv_iload_n (pc' := 31) dX0_signings_30 rfl rfl ?_
      refine zv_iret dX0_signings_31 rfl ?_
      exact zpi_ret rfl
    | succ r ih =>
      intro k e
      refine zv_iload_n (pc' := 5) dX0_signings_4 rfl rfl ?_
      refine zv_aload_n (pc' := 6) dX0_signings_5 rfl rfl ?_
      refine zv_getIE (pc' := 9) dX0_signings_6 rfl flX0_33 (by first | rfl | assumption) rfl (by first | exact hN | exact hY | exact hM _ (by omega) | exact hS _ (by omega) | exact hX _ (by omega) | exact hK _ (by omega) | exact hF _ (by omega) | rfl) ?_
      refine zv_icmp_ge (pc' := 12) (tgt := 30) dX0_signings_9 rfl rfl (fun hcc => absurd hcc (nI_ge (by omega) (by omega))) (fun _ => ?_)
      refine zv_iload_n (pc' := 13) dX0_signings_12 rfl rfl ?_
      refine zv_aload_n (pc' := 14) dX0_signings_13 rfl rfl ?_
      refine zv_getR (pc' := 17) dX0_signings_14 rfl flX0_21 (by first | rfl | assumption) rfl ?_
      refine zv_iload_n (pc' := 18) dX0_signings_17 rfl rfl ?_
      refine zv_ialoadE (pc' := 19) dX0_signings_18 rfl (by first | rfl | assumption) (by decide) (by omega) (by first | exact hN | exact hY | exact hM _ (by omega) | exact hS _ (by omega) | exact hX _ (by omega) | exact hK _ (by omega) | exact hF _ (by omega) | rfl) ?_
      refine zv_cS1_pi (pc' := 22) dX0_signings_19 rfl lkX0_93 (Nat.le_of_ble_eq_true rfl) (j6_bitM) ?_
      refine zv_iadd (pc' := 23) dX0_signings_22 rfl ?_
      refine zv_top (nI_add _ _) ?_
      refine zv_istore_n (pc' := 24) dX0_signings_23 rfl (by decide) ?_
      refine zv_iinc (w := nI 1) (pc' := 27) dX0_signings_24 rfl rfl (by decide) (by decide) ?_
      refine zv_goto (pc' := 4) dX0_signings_27 rfl ?_
      rw [nI_add]
      exact ih (k + 1) (by omega)
  refine zex_intro (L := [some (.ref o), none, none]) (by decide) (Nat.le_of_ble_eq_true rfl) rfl ?_
  refine zv_iconst (v := nI 0) (pc' := 1) dX0_signings_0 rfl (by decide) ?_
  refine zv_istore_n (pc' := 2) dX0_signings_1 rfl (by decide) ?_
  refine zv_iconst (v := nI 0) (pc' := 3) dX0_signings_2 rfl (by decide) ?_
  refine zv_istore_n (pc' := 4) dX0_signings_3 rfl (by decide) ?_
  exact lp (yN c) 0 (by omega)
theorem zsum_cn {n : Nat} {f : Nat → Nat → Bool} : zsum n (fun i => zcn 8 (f i)) ≤ n * 8 := zsum_le (fun j _ => zcn_le (f j) 8)
theorem x0_feudTwos (hC : zCy o) (hA : zAt M o c) (hn : yN c ≤ 8) : ZPi mdX0_feudTwos (d + 1) [.ref o] M (nI (feudN c)) := by
  obtain ⟨c0, c1, c2, c3, c4, c5⟩ := hC
  obtain ⟨hN, hY, hK, hF, hM, hS, hX⟩ := hA
  have lp : ∀ r k, k + r = yN c → ZV mdX0_feudTwos (d + 1) (fun v M' => v = some (.int (nI (feudN c))) ∧ M' = M) 4 [some (.ref o), some (.int (nI (zsum k (fun i => zcn 8 (yX c i))))), some (.int (nI k))] [] M := by
    intro r
    induction r with
    | zero =>
      intro k e
      have e : k = yN c := by omega
      subst e
      refine zv_iload_n (pc' := 5) dX0_feudTwos_4 rfl rfl ?_
      refine zv_aload_n (pc' := 6) dX0_feudTwos_5 rfl rfl ?_
      refine zv_getIE (pc' := 9) dX0_feudTwos_6 rfl flX0_33 (by first | rfl | assumption) rfl (by first | exact hN | exact hY | exact hM _ (by omega) | exact hS _ (by omega) | exact hX _ (by omega) | exact hK _ (by omega) | exact hF _ (by omega) | rfl) ?_
      refine zv_icmp_ge (pc' := 12) (tgt := 30) dX0_feudTwos_9 rfl rfl (fun _ => ?_) (fun hcc => absurd (Int32.le_refl _) hcc)
      refine zv_iload_n (pc' := 31) dX0_feudTwos_30 rfl rfl ?_
      refine zv_iconst (v := nI 2) (pc' := 32) dX0_feudTwos_31 rfl (by decide) ?_
      refine zv_idiv (pc' := 33) dX0_feudTwos_32 rfl (by first | assumption | decide) ?_
      refine zv_iret dX0_feudTwos_33 rfl ?_
      refine zpi_ret (pk_div ?_ (by omega) (by omega))
      have := zsum_cn (n := yN c) (f := yX c)
      omega
    | succ r ih =>
      intro k e
      refine zv_iload_n (pc' := 5) dX0_feudTwos_4 rfl rfl ?_
      refine zv_aload_n (pc' := 6) dX0_feudTwos_5 rfl rfl ?_
      refine zv_getIE (pc' := 9) dX0_feudTwos_6 rfl flX0_33 (by first | rfl | assumption) rfl (by first | exact hN | exact hY | exact hM _ (by omega) | exact hS _ (by omega) | exact hX _ (by omega) | exact hK _ (by omega) | exact hF _ (by omega) | rfl) ?_
      refine zv_icmp_ge (pc' := 12) (tgt := 30) dX0_feudTwos_9 rfl rfl (fun hcc => absurd hcc (nI_ge (by omega) (by omega))) (fun _ => ?_)
      refine zv_iload_n (pc' := 13) dX0_feudTwos_12 rfl rfl ?_
      refine zv_aload_n (pc' := 14) dX0_feudTwos_13 rfl rfl ?_
      refine zv_getR (pc' := 17) dX0_feudTwos_14 rfl flX0_24 (by first | rfl | assumption) rfl ?_
      refine zv_iload_n (pc' := 18) dX0_feudTwos_17 rfl rfl ?_
      refine zv_ialoadE (pc' := 19) dX0_feudTwos_18 rfl (by first | rfl | assumption) (by decide) (by omega) (by first | exact hN | exact hY | exact hM _ (by omega) | exact hS _ (by omega) | exact hX _ (by omega) | exact hK _ (by omega) | exact hF _ (by omega) | rfl) ?_
      refine zv_cS1_pi (pc' := 22) dX0_feudTwos_19 rfl lkX0_93 (Nat.le_of_ble_eq_true rfl) (j6_bitM) ?_
      refine zv_iadd (pc' := 23) dX0_feudTwos_22 rfl ?_
      refine zv_top (nI_add _ _) ?_
      refine zv_istore_n (pc' := 24) dX0_feudTwos_23 rfl (by decide) ?_
      refine zv_iinc (w := nI 1) (pc' := 27) dX0_feudTwos_24 rfl rfl (by decide) (by decide) ?_
      refine zv_goto (pc' := 4) dX0_feudTwos_27 rfl ?_
      rw [nI_add]
      exact ih (k + 1) (by omega)
  refine zex_intro (L := [some (.ref o), none, none]) (by decide) (Nat.le_of_ble_eq_true rfl) rfl ?_
  refine zv_iconst (v := nI 0) (pc' := 1) dX0_feudTwos_0 rfl (by decide) ?_
  refine zv_istore_n (pc' := 2) dX0_feudTwos_1 rfl (by decide) ?_
  refine zv_iconst (v := nI 0) (pc' := 3) dX0_feudTwos_2 rfl (by decide) ?_
  refine zv_istore_n (pc' := 4) dX0_feudTwos_3 rfl (by decide) ?_
  exact lp (yN c) 0 (by omega)
theorem x0_kinTwos (hC : zCy o) (hA : zAt M o c) (hk : zOk c) : ZPi mdX0_kinTwos (d + 2) [.ref o] M (nI (kinN c)) := by
  have hn := hk.1
  have hC' := hC
  have hA' := hA
  obtain ⟨c0, c1, c2, c3, c4, c5⟩ := hC
  obtain ⟨hN, hY, hK, hF, hM, hS, hX⟩ := hA
  have lp : ∀ r k, k + r = yN c → ZV mdX0_kinTwos (d + 2) (fun v M' => v = some (.int (nI (kinN c))) ∧ M' = M) 4 [some (.ref o), some (.int (nI (zsum k (fun i => zcn 8 (kinB c i))))), some (.int (nI k))] [] M := by
    intro r
    induction r with
    | zero =>
      intro k e
      have e : k = yN c := by omega
      subst e
      refine zv_iload_n (pc' := 5) dX0_kinTwos_4 rfl rfl ?_
      refine zv_aload_n (pc' := 6) dX0_kinTwos_5 rfl rfl ?_
      refine zv_getIE (pc' := 9) dX0_kinTwos_6 rfl flX0_33 (by first | rfl | assumption) rfl (by first | exact hN | exact hY | exact hM _ (by omega) | exact hS _ (by omega) | exact hX _ (by omega) | exact hK _ (by omega) | exact hF _ (by omega) | rfl) ?_
      refine zv_icmp_ge (pc' := 12) (tgt := 29) dX0_kinTwos_9 rfl rfl (fun _ => ?_) (fun hcc => absurd (Int32.le_refl _) hcc)
      refine zv_iload_n (pc' := 30) dX0_kinTwos_29 rfl rfl ?_
      refine zv_iconst (v := nI 2) (pc' := 31) dX0_kinTwos_30 rfl (by decide) ?_
      refine zv_idiv (pc' := 32) dX0_kinTwos_31 rfl (by first | assumption | decide) ?_
      refine zv_iret dX0_kinTwos_32 rfl ?_
      refine zpi_ret (pk_div ?_ (by omega) (by omega))
      have := zsum_cn (n := yN c) (f := kinB c)
      omega
    | succ r ih =>
      intro k e
      refine zv_iload_n (pc' := 5) dX0_kinTwos_4 rfl rfl ?_
      refine zv_aload_n (pc' := 6) dX0_kinTwos_5 rfl rfl ?_
      refine zv_getIE (pc' := 9) dX0_kinTwos_6 rfl flX0_33 (by first | rfl | assumption) rfl (by first | exact hN | exact hY | exact hM _ (by omega) | exact hS _ (by omega) | exact hX _ (by omega) | exact hK _ (by omega) | exact hF _ (by omega) | rfl) ?_
      refine zv_icmp_ge (pc' := 12) (tgt := 29) dX0_kinTwos_9 rfl rfl (fun hcc => absurd hcc (nI_ge (by omega) (by omega))) (fun _ => ?_)
      refine zv_iload_n (pc' := 13) dX0_kinTwos_12 rfl rfl ?_
      refine zv_aload_n (pc' := 14) dX0_kinTwos_13 rfl rfl ?_
      refine zv_iload_n (pc' := 15) dX0_kinTwos_14 rfl rfl ?_
      refine zv_cV1_pi (pc' := 18) dX0_kinTwos_15 rfl lkX0_51 (by first | rfl | assumption) rfl (Nat.le_of_ble_eq_true rfl) (x0_kinOf hC' hA' hk (by omega)) ?_
      refine zv_cS1_pi (pc' := 21) dX0_kinTwos_18 rfl lkX0_93 (Nat.le_of_ble_eq_true rfl) (j6_bitM) ?_
      refine zv_iadd (pc' := 22) dX0_kinTwos_21 rfl ?_
      refine zv_top (nI_add _ _) ?_
      refine zv_istore_n (pc' := 23) dX0_kinTwos_22 rfl (by decide) ?_
      refine zv_iinc (w := nI 1) (pc' := 26) dX0_kinTwos_23 rfl rfl (by decide) (by decide) ?_
      refine zv_goto (pc' := 4) dX0_kinTwos_26 rfl ?_
      rw [nI_add]
      exact ih (k + 1) (by omega)
  refine zex_intro (L := [some (.ref o), none, none]) (by decide) (Nat.le_of_ble_eq_true rfl) rfl ?_
  refine zv_iconst (v := nI 0) (pc' := 1) dX0_kinTwos_0 rfl (by decide) ?_
  refine zv_istore_n (pc' := 2) dX0_kinTwos_1 rfl (by decide) ?_
  refine zv_iconst (v := nI 0) (pc' := 3) dX0_kinTwos_2 rfl (by decide) ?_
  refine zv_istore_n (pc' := 4) dX0_kinTwos_3 rfl (by decide) ?_
  exact lp (yN c) 0 (by omega)
theorem x0_mayPass {x : Int32} (hC : zCy o) (hA : zAt M o c) : ZPi mdX0_mayPass d [.ref o, .int x] M (zb (passB (yY c) x)) := by
  obtain ⟨c0, c1, c2, c3, c4, c5⟩ := hC
  obtain ⟨hN, hY, hK, hF, hM, hS, hX⟩ := hA
  refine zex_intro (L := [some (.ref o), some (.int x)]) (by decide) (Nat.le_of_ble_eq_true rfl) rfl ?_
  refine zv_iload_n (pc' := 1) dX0_mayPass_0 rfl rfl ?_
  refine zv_iconst (v := nI 1) (pc' := 2) dX0_mayPass_1 rfl (by decide) ?_
  refine zv_icmp_lt (pc' := 5) (tgt := 27) dX0_mayPass_2 rfl rfl ?_ ?_
  · intro h
    refine zv_iconst (v := nI 0) (pc' := 28) dX0_mayPass_27 rfl (by decide) ?_
    refine zv_ireturn dX0_mayPass_28 rfl (by first | rfl | exact zb_nar _) ?_
    exact zpi_f (by simp [passB, h])
  · intro h
    refine zv_iload_n (pc' := 6) dX0_mayPass_5 rfl rfl ?_
    refine zv_bipush (v := nI 60) (pc' := 8) dX0_mayPass_6 rfl (by decide) ?_
    refine zv_icmp_gt (pc' := 11) (tgt := 27) dX0_mayPass_8 rfl rfl ?_ ?_
    · intro h2
      refine zv_iconst (v := nI 0) (pc' := 28) dX0_mayPass_27 rfl (by decide) ?_
      refine zv_ireturn dX0_mayPass_28 rfl (by first | rfl | exact zb_nar _) ?_
      exact zpi_f (by simp [passB, h2])
    · intro h2
      refine zv_aload_n (pc' := 12) dX0_mayPass_11 rfl rfl ?_
      refine zv_getIE (pc' := 15) dX0_mayPass_12 rfl flX0_37 (by first | rfl | assumption) rfl (by first | exact hN | exact hY | exact hM _ (by omega) | exact hS _ (by omega) | exact hX _ (by omega) | exact hK _ (by omega) | exact hF _ (by omega) | rfl) ?_
      refine zv_iload_n (pc' := 16) dX0_mayPass_15 rfl rfl ?_
      refine zv_iadd (pc' := 17) dX0_mayPass_16 rfl ?_
      refine zv_sipush (v := nI 999) (pc' := 20) dX0_mayPass_17 rfl (by decide) ?_
      refine zv_icmp_gt (pc' := 23) (tgt := 27) dX0_mayPass_20 rfl rfl ?_ ?_
      · intro h3
        refine zv_iconst (v := nI 0) (pc' := 28) dX0_mayPass_27 rfl (by decide) ?_
        refine zv_ireturn dX0_mayPass_28 rfl (by first | rfl | exact zb_nar _) ?_
        exact zpi_f (by simp [passB, h3])
      · intro h3
        refine zv_iconst (v := nI 1) (pc' := 24) dX0_mayPass_23 rfl (by decide) ?_
        refine zv_goto (pc' := 28) dX0_mayPass_24 rfl ?_
        refine zv_ireturn dX0_mayPass_28 rfl (by first | rfl | exact zb_nar _) ?_
        exact zpi_t (by simp only [passB, h, h2, h3]; rfl)
theorem x0_isAs {o2 : Nat} {c2 : ZCty} (hC : zCy o) (hC2 : zCy o2) (hA : zAt M o c) (hA2 : zAt M o2 c2) (hk : zOk c) (hk2 : zOk c2) : ZPi mdX0_isAs d [.ref o, .ref o2] M (zb (asB c c2)) := by
  have hn := hk.1
  have hb := hk.2.2.2.1
  have hb2 := hk2.2.2.2.1
  obtain ⟨c0, c1, c2', c3, c4, c5⟩ := hC
  obtain ⟨e0, e1, e2, e3, e4, e5⟩ := hC2
  obtain ⟨hN, hY, hK, hF, hM, hS, hX⟩ := hA
  obtain ⟨gN, gY, gK, gF, gM, gS, gX⟩ := hA2
  have lp : ∀ r k, k + r = yN c → zall k (fun i => decide (yM c i = yM c2 i) && decide (zm 8 (yS c i) = zm 8 (yS c2 i))) = true → ZV mdX0_isAs d (fun v M' => v = some (.int (zb (asB c c2))) ∧ M' = M) 2 [some (.ref o), some (.ref o2), some (.int (nI k))] [] M := by
    intro r
    induction r with
    | zero =>
      intro k e ha
      have e : k = yN c := by omega
      subst e
      refine zv_iload_n (pc' := 3) dX0_isAs_2 rfl rfl ?_
      refine zv_aload_n (pc' := 4) dX0_isAs_3 rfl rfl ?_
      refine zv_getIE (pc' := 7) dX0_isAs_4 rfl flX0_33 (by first | rfl | assumption) rfl (by first | exact hN | exact hM _ (by omega) | exact hS _ (by omega) | exact gM _ (by omega) | exact gS _ (by omega) | rfl) ?_
      refine zv_icmp_ge (pc' := 10) (tgt := 48) dX0_isAs_7 rfl rfl (fun _ => ?_) (fun hcc => absurd (Int32.le_refl _) hcc)
      refine zv_iconst (v := nI 1) (pc' := 49) dX0_isAs_48 rfl (by decide) ?_
      refine zv_ireturn dX0_isAs_49 rfl (by first | rfl | exact zb_nar _) ?_
      exact zpi_t ha
    | succ r ih =>
      intro k e ha
      have bad : ¬ (yM c k = yM c2 k ∧ zm 8 (yS c k) = zm 8 (yS c2 k)) → asB c c2 = false := by
        intro h
        cases h2 : asB c c2
        · rfl
        · have := zall_iff.mp h2 k (by omega)
          simp at this
          exact absurd this h
      refine zv_iload_n (pc' := 3) dX0_isAs_2 rfl rfl ?_
      refine zv_aload_n (pc' := 4) dX0_isAs_3 rfl rfl ?_
      refine zv_getIE (pc' := 7) dX0_isAs_4 rfl flX0_33 (by first | rfl | assumption) rfl (by first | exact hN | exact hM _ (by omega) | exact hS _ (by omega) | exact gM _ (by omega) | exact gS _ (by omega) | rfl) ?_
      refine zv_icmp_ge (pc' := 10) (tgt := 48) dX0_isAs_7 rfl rfl (fun hcc => absurd hcc (nI_ge (by omega) (by omega))) (fun _ => ?_)
      refine zv_aload_n (pc' := 11) dX0_isAs_10 rfl rfl ?_
      refine zv_getR (pc' := 14) dX0_isAs_11 rfl flX0_18 (by first | rfl | assumption) rfl ?_
      refine zv_iload_n (pc' := 15) dX0_isAs_14 rfl rfl ?_
      refine zv_ialoadE (pc' := 16) dX0_isAs_15 rfl (by first | rfl | assumption) (by decide) (by omega) (by first | exact hN | exact hM _ (by omega) | exact hS _ (by omega) | exact gM _ (by omega) | exact gS _ (by omega) | rfl) ?_
      refine zv_aload_n (pc' := 17) dX0_isAs_16 rfl rfl ?_
      refine zv_getR (pc' := 20) dX0_isAs_17 rfl flX0_18 (by first | rfl | assumption) rfl ?_
      refine zv_iload_n (pc' := 21) dX0_isAs_20 rfl rfl ?_
      refine zv_ialoadE (pc' := 22) dX0_isAs_21 rfl (by first | rfl | assumption) (by decide) (by omega) (by first | exact hN | exact hM _ (by omega) | exact hS _ (by omega) | exact gM _ (by omega) | exact gS _ (by omega) | rfl) ?_
      have g1 := hb k
      have g2 := hb2 k
      refine zv_icmp_ne (pc' := 25) (tgt := 40) dX0_isAs_22 rfl rfl ?_ ?_
      · intro h
        refine zv_iconst (v := nI 0) (pc' := 41) dX0_isAs_40 rfl (by decide) ?_
        refine zv_ireturn dX0_isAs_41 rfl (by first | rfl | exact zb_nar _) ?_
        exact zpi_f (bad (fun z => h (by rw [z.1])))
      · intro h
        have h := (nI_eq (by omega) (by omega)).mp h
        refine zv_aload_n (pc' := 26) dX0_isAs_25 rfl rfl ?_
        refine zv_getR (pc' := 29) dX0_isAs_26 rfl flX0_21 (by first | rfl | assumption) rfl ?_
        refine zv_iload_n (pc' := 30) dX0_isAs_29 rfl rfl ?_
        refine zv_ialoadE (pc' := 31) dX0_isAs_30 rfl (by first | rfl | assumption) (by decide) (by omega) (by first | exact hN | exact hM _ (by omega) | exact hS _ (by omega) | exact gM _ (by omega) | exact gS _ (by omega) | rfl) ?_
        refine zv_aload_n (pc' := 32) dX0_isAs_31 rfl rfl ?_
        refine zv_getR (pc' := 35) dX0_isAs_32 rfl flX0_21 (by first | rfl | assumption) rfl ?_
        refine zv_iload_n (pc' := 36) dX0_isAs_35 rfl rfl ?_
        refine zv_ialoadE (pc' := 37) dX0_isAs_36 rfl (by first | rfl | assumption) (by decide) (by omega) (by first | exact hN | exact hM _ (by omega) | exact hS _ (by omega) | exact gM _ (by omega) | exact gS _ (by omega) | rfl) ?_
        have g3 := zm8_lt (yS c k)
        have g4 := zm8_lt (yS c2 k)
        refine zv_icmp_eq (pc' := 40) (tgt := 42) dX0_isAs_37 rfl rfl ?_ ?_
        · intro h2
          have h2 := (nI_eq (by omega) (by omega)).mp h2
          refine zv_iinc (w := nI 1) (pc' := 45) dX0_isAs_42 rfl rfl (by decide) (by decide) ?_
          refine zv_goto (pc' := 2) dX0_isAs_45 rfl ?_
          rw [nI_add]
          exact ih (k + 1) (by omega) (by rw [zall, ha]; simp [h, h2])
        · intro h2
          refine zv_iconst (v := nI 0) (pc' := 41) dX0_isAs_40 rfl (by decide) ?_
          refine zv_ireturn dX0_isAs_41 rfl (by first | rfl | exact zb_nar _) ?_
          exact zpi_f (bad (fun z => h2 (by rw [z.2])))
  refine zex_intro (L := [some (.ref o), some (.ref o2), none]) (by decide) (Nat.le_of_ble_eq_true rfl) rfl ?_
  refine zv_iconst (v := nI 0) (pc' := 1) dX0_isAs_0 rfl (by decide) ?_
  refine zv_istore_n (pc' := 2) dX0_isAs_1 rfl (by decide) ?_
  exact lp (yN c) 0 (by omega) rfl
theorem x0_welcome {k f v : Nat} (hC : zCy o) (hA : zAt M o c) (h8 : yN c < 8) : ZFi mdX0_welcome d [.ref o, .int (nI k), .int (nI f), .int (nI v)] M (fun r M' => r = 1 ∧ zAt M' o (addC c k f v) ∧ zSame o (o + 6) M M') := by
  have hA' := hA
  obtain ⟨c0, c1, c2, c3, c4, c5⟩ := hC
  obtain ⟨hN, hY, hK, hF, hM, hS, hX⟩ := hA
  refine zex_intro (L := [some (.ref o), some (.int (nI k)), some (.int (nI f)), some (.int (nI v))]) (by decide) (Nat.le_of_ble_eq_true rfl) rfl ?_
  refine zv_aload_n (pc' := 1) dX0_welcome_0 rfl rfl ?_
  refine zv_getIE (pc' := 4) dX0_welcome_1 rfl flX0_33 (by first | rfl | assumption) rfl (by first | exact hN | exact hY | exact hM _ (by omega) | exact hS _ (by omega) | exact hX _ (by omega) | exact hK _ (by omega) | exact hF _ (by omega) | rfl) ?_
  refine zv_bipush (v := nI 8) (pc' := 6) dX0_welcome_4 rfl (by decide) ?_
  refine zv_icmp_lt (pc' := 9) (tgt := 11) dX0_welcome_6 rfl rfl (fun _ => ?_) (fun hcc => absurd (nI_lt h8 (by omega)) hcc)
  refine zv_aload_n (pc' := 12) dX0_welcome_11 rfl rfl ?_
  refine zv_getR (pc' := 15) dX0_welcome_12 rfl flX0_9 (by first | rfl | assumption) rfl ?_
  refine zv_aload_n (pc' := 16) dX0_welcome_15 rfl rfl ?_
  refine zv_getIE (pc' := 19) dX0_welcome_16 rfl flX0_33 (by first | rfl | assumption) rfl (by first | exact hN | exact hY | exact hM _ (by omega) | exact hS _ (by omega) | exact hX _ (by omega) | exact hK _ (by omega) | exact hF _ (by omega) | rfl) ?_
  refine zv_iload_n (pc' := 20) dX0_welcome_19 rfl rfl ?_
  refine zv_iastoreN (pc' := 21) dX0_welcome_20 rfl (by first | rfl | assumption) (by decide) (by omega) ?_
  have a1 := zAt_K (i := yN c) (w := k) hA'
  have s1 : zSame o (o + 6) M (zup M (o + 1) (yN c) (nI k)) := zSame.up (by omega) (by omega)
  generalize zup M (o + 1) (yN c) (nI k) = M1 at a1 s1 ⊢
  have hN : M1 o 5 = nI (yN c) := a1.1
  refine zv_aload_n (pc' := 22) dX0_welcome_21 rfl rfl ?_
  refine zv_getR (pc' := 25) dX0_welcome_22 rfl flX0_15 (by first | rfl | assumption) rfl ?_
  refine zv_aload_n (pc' := 26) dX0_welcome_25 rfl rfl ?_
  refine zv_getIE (pc' := 29) dX0_welcome_26 rfl flX0_33 (by first | rfl | assumption) rfl (by first | exact hN | exact hY | exact hM _ (by omega) | exact hS _ (by omega) | exact hX _ (by omega) | exact hK _ (by omega) | exact hF _ (by omega) | rfl) ?_
  refine zv_iload_n (pc' := 30) dX0_welcome_29 rfl rfl ?_
  refine zv_iastoreN (pc' := 31) dX0_welcome_30 rfl (by first | rfl | assumption) (by decide) (by omega) ?_
  have a2 := zAt_F (i := yN c) (w := f) a1
  have s2 : zSame o (o + 6) M (zup M1 (o + 2) (yN c) (nI f)) := s1.tr (zSame.up (by omega) (by omega))
  generalize zup M1 (o + 2) (yN c) (nI f) = M2 at a2 s2 ⊢
  have hN : M2 o 5 = nI (yN c) := a2.1
  refine zv_aload_n (pc' := 32) dX0_welcome_31 rfl rfl ?_
  refine zv_getR (pc' := 35) dX0_welcome_32 rfl flX0_18 (by first | rfl | assumption) rfl ?_
  refine zv_aload_n (pc' := 36) dX0_welcome_35 rfl rfl ?_
  refine zv_getIE (pc' := 39) dX0_welcome_36 rfl flX0_33 (by first | rfl | assumption) rfl (by first | exact hN | exact hY | exact hM _ (by omega) | exact hS _ (by omega) | exact hX _ (by omega) | exact hK _ (by omega) | exact hF _ (by omega) | rfl) ?_
  refine zv_iload_n (pc' := 40) dX0_welcome_39 rfl rfl ?_
  refine zv_iastoreN (pc' := 41) dX0_welcome_40 rfl (by first | rfl | assumption) (by decide) (by omega) ?_
  have a3 := zAt_M (i := yN c) (w := v) a2
  have s3 : zSame o (o + 6) M (zup M2 (o + 3) (yN c) (nI v)) := s2.tr (zSame.up (by omega) (by omega))
  generalize zup M2 (o + 3) (yN c) (nI v) = M3 at a3 s3 ⊢
  have hN : M3 o 5 = nI (yN c) := a3.1
  refine zv_aload_n (pc' := 42) dX0_welcome_41 rfl rfl ?_
  refine zv_dup (pc' := 43) dX0_welcome_42 rfl rfl ?_
  refine zv_getIE (pc' := 46) dX0_welcome_43 rfl flX0_33 (by first | rfl | assumption) rfl (by first | exact hN | exact hY | exact hM _ (by omega) | exact hS _ (by omega) | exact hX _ (by omega) | exact hK _ (by omega) | exact hF _ (by omega) | rfl) ?_
  refine zv_iconst (v := nI 1) (pc' := 47) dX0_welcome_46 rfl (by decide) ?_
  refine zv_iadd (pc' := 48) dX0_welcome_47 rfl ?_
  refine zv_top (nI_add _ _) ?_
  refine zv_putI (pc' := 51) dX0_welcome_48 rfl flX0_33 pfX0_5 (by first | rfl | assumption) rfl rfl rfl ?_
  refine zv_iconst (v := nI 1) (pc' := 52) dX0_welcome_51 rfl (by decide) ?_
  refine zv_ireturn dX0_welcome_52 rfl (by first | rfl | exact zb_nar _) ?_
  exact ⟨_, rfl, rfl, zAt_N a3, s3.tr (zSame.up (by omega) (by omega))⟩
theorem x0_welcome0 {x y z : Int32} (hC : zCy o) (hA : zAt M o c) (h8 : yN c = 8) : ZPi mdX0_welcome d [.ref o, .int x, .int y, .int z] M (zb false) := by
  obtain ⟨c0, c1, c2, c3, c4, c5⟩ := hC
  have hN : M o 5 = nI 8 := by rw [← h8]; exact hA.1
  refine zex_intro (L := [some (.ref o), some (.int x), some (.int y), some (.int z)]) (by decide) (Nat.le_of_ble_eq_true rfl) rfl ?_
  refine zv_aload_n (pc' := 1) dX0_welcome_0 rfl rfl ?_
  refine zv_getIE (pc' := 4) dX0_welcome_1 rfl flX0_33 (by first | rfl | assumption) rfl (by first | exact hN | exact hY | exact hM _ (by omega) | exact hS _ (by omega) | exact hX _ (by omega) | exact hK _ (by omega) | exact hF _ (by omega) | rfl) ?_
  refine zv_bipush (v := nI 8) (pc' := 6) dX0_welcome_4 rfl (by decide) ?_
  refine zv_icmp_lt (pc' := 9) (tgt := 11) dX0_welcome_6 rfl rfl (fun hcc => absurd hcc (by decide)) (fun _ => ?_)
  refine zv_iconst (v := nI 0) (pc' := 10) dX0_welcome_9 rfl (by decide) ?_
  refine zv_ireturn dX0_welcome_10 rfl (by first | rfl | exact zb_nar _) ?_
  exact zpi_f rfl
theorem mk_bit0 {x : Int32} : x &&& nI 1 = zb (bt x 0) := by
  apply b_ext
  intro i hi
  rw [b_and, bt_nI hi]
  by_cases h : i = 0
  · subst h
    cases hb : bt x 0 <;> rfl
  · have e1 : (1 : Nat).testBit i = false := by
      rw [show (1 : Nat) = 2 ^ 0 from rfl, Nat.testBit_two_pow]
      simp; omega
    rw [e1]
    cases hb : bt x 0
    · simp only [Bool.and_false]
      exact ((by decide +kernel : ∀ i, i < 32 → false = bt (zb false) i) i hi)
    · simp only [Bool.and_false]
      exact ((by decide +kernel : ∀ i, i < 32 → i ≠ 0 → false = bt (zb true) i) i hi h)
theorem mk_shr0 {v q : Nat} (hv : v < 2 ^ 31) (hq : q < 32) : bt (nI v >>> (nI q &&& 31)) 0 = v.testBit q := by
  rw [pk_shrN hv _ q (s_l q hq), bt_nI (by omega), Nat.testBit_div_two_pow, Nat.zero_add]
theorem mk_differ {f : Nat → Bool} {p q : Nat} (hp : p < 8) (hq : q < 8) : ((nI (zm 8 f) >>> (nI p &&& 31)) ^^^ (nI (zm 8 f) >>> (nI q &&& 31))) &&& nI 1 = zb (f p ^^ f q) := by
  have hl := zm8_lt f
  rw [mk_bit0, b_xor, mk_shr0 (by omega) (by omega), mk_shr0 (by omega) (by omega), zm_tb, zm_tb]
  simp [hp, hq]
theorem mk_swap {f : Nat → Bool} {p q : Nat} (hp : p < 8) (hq : q < 8) (hpq : p ≠ q) : nI (zm 8 f) ^^^ (zb (f p ^^ f q) <<< (nI p &&& 31) ||| zb (f p ^^ f q) <<< (nI q &&& 31)) = nI (zm 8 (fun j => f (zsw p q j))) := by
  have hb0 : ∀ q, q < 8 → zb false <<< (nI q &&& 31) = nI 0 := by decide +kernel
  have hb1 : ∀ q, q < 8 → zb true <<< (nI q &&& 31) = nI (2 ^ q) := by decide +kernel
  cases hx : (f p ^^ f q)
  · rw [hb0 p hp, hb0 q hq]
    have e : f p = f q := by cases h1 : f p <;> cases h2 : f q <;> rw [h1, h2] at hx <;> first | rfl | cases hx
    have e2 : (fun j => f (zsw p q j)) = f := by
      funext j
      unfold zsw
      split
      · subst_vars; exact e.symm
      · split
        · subst_vars; exact e
        · rfl
    rw [e2]
    exact mk_eq (fun i hi => by
      rw [b_xor, b_or, zm_bt hi, bt_nI hi]
      simp)
  · rw [hb1 p hp, hb1 q hq]
    have e : f p = !f q := by cases h1 : f p <;> cases h2 : f q <;> rw [h1, h2] at hx <;> first | rfl | cases hx
    refine mk_eq (fun i hi => ?_)
    rw [b_xor, b_or, zm_bt hi, bt_2 hi, bt_2 hi]
    unfold zsw
    by_cases h1 : i = p
    · subst h1
      simp [hp, hpq.symm, e]
    · by_cases h2 : i = q
      · subst h2
        simp [hq, h1, e, Ne.symm h1]
      · simp [h1, h2, Ne.symm h1, Ne.symm h2]
theorem x0_changeIn {b p q n : Nat} {g : Nat → Nat → Bool} (hC : zCy o) (hN0 : M o 5 = nI n) (hn : n ≤ 8) (hp : p < n) (hq : q < n) (hpq : p ≠ q) (hb : zshL[b]? = some (.inl 8)) (hbo : b ≠ o) (hg : ∀ j, j < 8 → M b j = nI (zm 8 (g j))) (hgn : ∀ i j, n ≤ i → g i j = false) : ZFv mdX0_changeIn d [.ref o, .ref b, .int (nI p), .int (nI q)] M (fun M' => (∀ j, j < 8 → M' b j = nI (zm 8 (swR g p q j))) ∧ ∀ k, k ≠ b → M' k = M k) := by
  obtain ⟨c0, c1, c2, c3, c4, c5⟩ := hC
  have lp : ∀ r k M1, k + r = n → (∀ j, j < 8 → M1 b j = nI (zm 8 (if j < k then swR g p q j else g (zsw p q j)))) → (∀ k, k ≠ b → M1 k = M k) → ZV mdX0_changeIn d (fun v M' => v = none ∧ ((∀ j, j < 8 → M' b j = nI (zm 8 (swR g p q j))) ∧ ∀ k, k ≠ b → M' k = M k)) 19 [some (.ref o), some (.ref b), some (.int (nI p)), some (.int (nI q)), none, some (.int (nI k)), none] [] M1 := by
    intro r
    induction r with
    | zero =>
      intro k M1 e hg1 hs1
      have e : k = n := by omega
      subst e
      have hN : M1 o 5 = nI k := by rw [hs1 o (Ne.symm hbo)]; exact hN0
      refine zv_iload (pc' := 21) dX0_changeIn_19 rfl rfl ?_
      refine zv_aload_n (pc' := 22) dX0_changeIn_21 rfl rfl ?_
      refine zv_getIE (pc' := 25) dX0_changeIn_22 rfl flX0_33 (by first | rfl | assumption) rfl (by first | exact hN | exact hY | exact hM _ (by omega) | exact hS _ (by omega) | exact hX _ (by omega) | exact hK _ (by omega) | exact hF _ (by omega) | rfl) ?_
      refine zv_icmp_ge (pc' := 28) (tgt := 67) dX0_changeIn_25 rfl rfl (fun _ => ?_) (fun hcc => absurd (Int32.le_refl _) hcc)
      refine zv_vret dX0_changeIn_67 rfl ?_
      refine ⟨rfl, fun j hj => ?_, hs1⟩
      rw [hg1 j hj]
      split
      · rfl
      · congr 2
        funext x
        rename_i h
        show g (zsw p q j) x = g (zsw p q j) (zsw p q x)
        have : ¬ zsw p q j < k := fun z => h ((zsw_lt hp hq).mp z)
        rw [hgn _ _ (by omega), hgn _ _ (by omega)]
    | succ r ih =>
      intro k M1 e hg1 hs1
      have hN : M1 o 5 = nI n := by rw [hs1 o (Ne.symm hbo)]; exact hN0
      have hgk := hg1 k (by omega)
      rw [if_neg (by omega)] at hgk
      refine zv_iload (pc' := 21) dX0_changeIn_19 rfl rfl ?_
      refine zv_aload_n (pc' := 22) dX0_changeIn_21 rfl rfl ?_
      refine zv_getIE (pc' := 25) dX0_changeIn_22 rfl flX0_33 (by first | rfl | assumption) rfl (by first | exact hN | exact hgk | rfl) ?_
      refine zv_icmp_ge (pc' := 28) (tgt := 67) dX0_changeIn_25 rfl rfl (fun hcc => absurd hcc (nI_ge (by omega) (by omega))) (fun _ => ?_)
      refine zv_aload_n (pc' := 29) dX0_changeIn_28 rfl rfl ?_
      refine zv_iload (pc' := 31) dX0_changeIn_29 rfl rfl ?_
      refine zv_ialoadE (pc' := 32) dX0_changeIn_31 rfl (by first | rfl | assumption) (by decide) (by omega) (by first | exact hN | exact hgk | rfl) ?_
      refine zv_iload_n (pc' := 33) dX0_changeIn_32 rfl rfl ?_
      refine zv_ishr (pc' := 34) dX0_changeIn_33 rfl ?_
      refine zv_aload_n (pc' := 35) dX0_changeIn_34 rfl rfl ?_
      refine zv_iload (pc' := 37) dX0_changeIn_35 rfl rfl ?_
      refine zv_ialoadE (pc' := 38) dX0_changeIn_37 rfl (by first | rfl | assumption) (by decide) (by omega) (by first | exact hN | exact hgk | rfl) ?_
      refine zv_iload_n (pc' := 39) dX0_changeIn_38 rfl rfl ?_
      refine zv_ishr (pc' := 40) dX0_changeIn_39 rfl ?_
      refine zv_ixor (pc' := 41) dX0_changeIn_40 rfl ?_
      refine zv_iconst (v := nI 1) (pc' := 42) dX0_changeIn_41 rfl (by decide) ?_
      refine zv_iand (pc' := 43) dX0_changeIn_42 rfl ?_
      refine zv_top (mk_differ (by omega) (by omega)) ?_
      refine zv_istore (pc' := 45) dX0_changeIn_43 rfl (by decide) ?_
      refine zv_aload_n (pc' := 46) dX0_changeIn_45 rfl rfl ?_
      refine zv_iload (pc' := 48) dX0_changeIn_46 rfl rfl ?_
      refine zv_dup2 (pc' := 49) dX0_changeIn_48 rfl rfl rfl ?_
      refine zv_ialoadE (pc' := 50) dX0_changeIn_49 rfl (by first | rfl | assumption) (by decide) (by omega) (by first | exact hN | exact hgk | rfl) ?_
      refine zv_iload (pc' := 52) dX0_changeIn_50 rfl rfl ?_
      refine zv_iload_n (pc' := 53) dX0_changeIn_52 rfl rfl ?_
      refine zv_ishl (pc' := 54) dX0_changeIn_53 rfl ?_
      refine zv_iload (pc' := 56) dX0_changeIn_54 rfl rfl ?_
      refine zv_iload_n (pc' := 57) dX0_changeIn_56 rfl rfl ?_
      refine zv_ishl (pc' := 58) dX0_changeIn_57 rfl ?_
      refine zv_ior (pc' := 59) dX0_changeIn_58 rfl ?_
      refine zv_ixor (pc' := 60) dX0_changeIn_59 rfl ?_
      refine zv_top (mk_swap (by omega) (by omega) hpq) ?_
      refine zv_iastoreN (pc' := 61) dX0_changeIn_60 rfl (by first | rfl | assumption) (by decide) (by omega) ?_
      refine zv_iinc (w := nI 1) (pc' := 64) dX0_changeIn_61 rfl rfl (by decide) (by decide) ?_
      refine zv_goto (pc' := 19) dX0_changeIn_64 rfl ?_
      rw [nI_add]
      refine zv_fg [6] ?_
      refine ih (k + 1) _ (by omega) (fun j hj => ?_) (fun x hx => by rw [zup_ne hx]; exact hs1 x hx)
      rw [zup_eq]
      by_cases ej : j = k
      · subst ej
        rw [upd_s, if_pos (by omega)]
        rfl
      · rw [upd_n ej, hg1 j hj]
        by_cases h1 : j < k
        · rw [if_pos h1, if_pos (by omega)]
        · rw [if_neg h1, if_neg (by omega)]
  refine zex_intro (L := [some (.ref o), some (.ref b), some (.int (nI p)), some (.int (nI q)), none, none, none]) (by decide) (Nat.le_of_ble_eq_true rfl) rfl ?_
  refine zv_aload_n (pc' := 1) dX0_changeIn_0 rfl rfl ?_
  refine zv_iload_n (pc' := 2) dX0_changeIn_1 rfl rfl ?_
  refine zv_ialoadE (pc' := 3) dX0_changeIn_2 rfl (by first | rfl | assumption) (by decide) (by omega) (by first | exact hg _ (by omega) | rfl) ?_
  refine zv_istore (pc' := 5) dX0_changeIn_3 rfl (by decide) ?_
  refine zv_aload_n (pc' := 6) dX0_changeIn_5 rfl rfl ?_
  refine zv_iload_n (pc' := 7) dX0_changeIn_6 rfl rfl ?_
  refine zv_aload_n (pc' := 8) dX0_changeIn_7 rfl rfl ?_
  refine zv_iload_n (pc' := 9) dX0_changeIn_8 rfl rfl ?_
  refine zv_ialoadE (pc' := 10) dX0_changeIn_9 rfl (by first | rfl | assumption) (by decide) (by omega) (by first | exact hg _ (by omega) | rfl) ?_
  refine zv_iastoreN (pc' := 11) dX0_changeIn_10 rfl (by first | rfl | assumption) (by decide) (by omega) ?_
  refine zv_aload_n (pc' := 12) dX0_changeIn_11 rfl rfl ?_
  refine zv_iload_n (pc' := 13) dX0_changeIn_12 rfl rfl ?_
  refine zv_iload (pc' := 15) dX0_changeIn_13 rfl rfl ?_
  have hMb : ∀ j, j < 8 → zup (zup M b p (nI (zm 8 (g q)))) b q (nI (zm 8 (g p))) b j = nI (zm 8 (g (zsw p q j))) := by
    intro j hj
    rw [zup_eq]
    unfold zsw
    by_cases h2 : j = q
    · subst h2
      rw [upd_s, if_neg (Ne.symm hpq), if_pos rfl]
    · rw [upd_n h2, zup_eq]
      by_cases h1 : j = p
      · subst h1
        rw [upd_s, if_pos rfl]
      · rw [upd_n h1, if_neg h1, if_neg h2, hg j hj]
  refine zv_iastoreN (pc' := 16) dX0_changeIn_15 rfl (by first | rfl | assumption) (by decide) (by omega) ?_
  refine zv_iconst (v := nI 0) (pc' := 17) dX0_changeIn_16 rfl (by decide) ?_
  refine zv_istore (pc' := 19) dX0_changeIn_17 rfl (by decide) ?_
  refine zv_fg [4] ?_
  refine lp n 0 _ (by omega) (fun j hj => ?_) (fun x hx => by rw [zup_ne hx, zup_ne hx])
  rw [if_neg (by omega)]
  exact hMb j hj
theorem x0_changePlaces {p q : Nat} (hC : zCy o) (hA : zAt M o c) (hk : zOk c) (hp : p < yN c) (hq : q < yN c) (hpq : p ≠ q) : ZFv mdX0_changePlaces (d + 2) [.ref o, .int (nI p), .int (nI q)] M (fun M' => zAt M' o (swC c p q) ∧ zSame o (o + 6) M M') := by
  have hn := hk.1
  have hC' := hC
  have hA' := hA
  obtain ⟨c0, c1, c2, c3, c4, c5⟩ := hC
  obtain ⟨hN, hY, hK, hF, hM, hS, hX⟩ := hA
  refine zex_intro (L := [some (.ref o), some (.int (nI p)), some (.int (nI q))]) (by decide) (Nat.le_of_ble_eq_true rfl) rfl ?_
  refine zv_aload_n (pc' := 1) dX0_changePlaces_0 rfl rfl ?_
  refine zv_iload_n (pc' := 2) dX0_changePlaces_1 rfl rfl ?_
  refine zv_iload_n (pc' := 3) dX0_changePlaces_2 rfl rfl ?_
  refine zv_cV2_pi (pc' := 6) dX0_changePlaces_3 rfl lkX0_44 (by first | rfl | assumption) rfl (Nat.le_of_ble_eq_true rfl) (x0_hasTwo hC' hA') ?_
  rw [twoB_in hn hp hq hpq]
  refine zv_if_ne (pc' := 9) (tgt := 10) dX0_changePlaces_6 rfl rfl (fun _ => ?_) (fun hcc => absurd hcc (by decide))
  refine zv_aload_n (pc' := 11) dX0_changePlaces_10 rfl rfl ?_
  refine zv_aload_n (pc' := 12) dX0_changePlaces_11 rfl rfl ?_
  refine zv_getR (pc' := 15) dX0_changePlaces_12 rfl flX0_21 (by first | rfl | assumption) rfl ?_
  refine zv_iload_n (pc' := 16) dX0_changePlaces_15 rfl rfl ?_
  refine zv_iload_n (pc' := 17) dX0_changePlaces_16 rfl rfl ?_
  have hsn : ∀ i j, yN c ≤ i → yS c i j = false := fun i j h => by
    cases h2 : yS c i j
    · rfl
    · have := (hk.2.2.2.2.1 i j h2).1; omega
  have hxn : ∀ i j, yN c ≤ i → yX c i j = false := fun i j h => by
    cases h2 : yX c i j
    · rfl
    · have := (hk.2.2.2.2.2.1 i j h2).1; omega
  refine zv_cV3_fv (pc' := 20) dX0_changePlaces_17 rfl lkX0_72 (by first | rfl | assumption) rfl (Nat.le_of_ble_eq_true rfl) (x0_changeIn (d := d + 1) (g := yS c) hC' hN hn hp hq hpq c4 (by omega) hS hsn) ?_
  rintro M1 ⟨h1, h2⟩
  refine zv_aload_n (pc' := 21) dX0_changePlaces_20 rfl rfl ?_
  refine zv_aload_n (pc' := 22) dX0_changePlaces_21 rfl rfl ?_
  refine zv_getR (pc' := 25) dX0_changePlaces_22 rfl flX0_24 (by first | rfl | assumption) rfl ?_
  refine zv_iload_n (pc' := 26) dX0_changePlaces_25 rfl rfl ?_
  refine zv_iload_n (pc' := 27) dX0_changePlaces_26 rfl rfl ?_
  refine zv_cV3_fv (pc' := 30) dX0_changePlaces_27 rfl lkX0_72 (by first | rfl | assumption) rfl (Nat.le_of_ble_eq_true rfl) (x0_changeIn (d := d + 1) (g := yX c) hC' (by rw [h2 _ (by omega)]; exact hN) hn hp hq hpq c5 (by omega) (by rw [h2 _ (by omega)]; exact hX) hxn) ?_
  rintro M2 ⟨h3, h4⟩
  refine zv_vret dX0_changePlaces_30 rfl ?_
  refine ⟨rfl, ⟨?_, ?_, ?_, ?_, ?_, ?_, ?_⟩, fun k hk => ?_⟩
  · rw [h4 _ (by omega), h2 _ (by omega)]; exact hN
  · rw [h4 _ (by omega), h2 _ (by omega)]; exact hY
  · rw [h4 _ (by omega), h2 _ (by omega)]; exact hK
  · rw [h4 _ (by omega), h2 _ (by omega)]; exact hF
  · rw [h4 _ (by omega), h2 _ (by omega)]; exact hM
  · rw [h4 _ (by omega)]; exact h1
  · exact h3
  · rw [h4 _ (by omega), h2 _ (by omega)]
end
