/-! ties: reading them, spreading, reach, steps, clan -/
def zany : Nat → (Nat → Bool) → Bool
  | 0, _ => false
  | k + 1, f => zany k f || f k
theorem zany_iff {f : Nat → Bool} : ∀ {k : Nat}, zany k f = true ↔ ∃ j, j < k ∧ f j = true
  | 0 => by simp [zany]
  | k + 1 => by
    rw [zany, Bool.or_eq_true, zany_iff]
    constructor
    · rintro (⟨j, hj, h⟩ | h)
      · exact ⟨j, by omega, h⟩
      · exact ⟨k, by omega, h⟩
    · rintro ⟨j, hj, h⟩
      by_cases e : j = k
      · subst e; exact Or.inr h
      · exact Or.inl ⟨j, by omega, h⟩
def sprd (c : ZCty) (f : Nat → Bool) : Nat → Bool := fun j => f j || zany (yN c) (fun i => f i && kinB c i j)
def rch (c : ZCty) : Nat → Nat → Nat → Bool
  | 0, p => fun j => decide (j = p)
  | k + 1, p => sprd c (rch c k p)
def zTi (M : ZMem) (c : ZCty) : Prop := M 29 1 = nI (yN c) ∧ ∀ j, j < yN c → M 30 j = nI (zm 8 (kinB c j))
def clIn (c : ZCty) (v p : Nat) : Bool := !v.testBit p || zall 8 (fun j => !v.testBit j || decide (j = p) || kinB c p j)
theorem clanB_eq {c : ZCty} {v : Nat} : clanB c v = zall (yN c) (clIn c v) := rfl
theorem kin_lt {c : ZCty} (hk : zOk c) {p q : Nat} (h : kinB c p q = true) : p < yN c ∧ q < yN c := by
  simp only [kinB, Bool.and_eq_true] at h
  exact ⟨(hk.2.2.2.2.1 p q h.1.1).1, (hk.2.2.2.2.1 p q h.1.1).2.1⟩
theorem kin_sym {c : ZCty} (hk : zOk c) {p q : Nat} : kinB c p q = kinB c q p := by
  unfold kinB
  rw [hk.2.2.2.2.2.2 p q]
  cases yS c p q <;> cases yS c q p <;> rfl
theorem zall_f {f : Nat → Bool} {k q : Nat} (hq : q < k) (h : f q = false) : zall k f = false := by
  cases e : zall k f
  · rfl
  · rw [zall_iff.mp e q hq] at h; cases h
theorem cl_x {c : ZCty} {v p : Nat} : zm 8 (fun j => v.testBit j && !decide (j = p) && !kinB c p j) = 0 ↔ zall 8 (fun j => !v.testBit j || decide (j = p) || kinB c p j) = true := by
  rw [zm_0, zall_iff]
  constructor <;> intro h j hj <;> have := h j hj <;> revert this <;> cases v.testBit j <;> cases decide (j = p) <;> cases kinB c p j <;> simp
theorem cl_m {c : ZCty} (hk : zOk c) {v p : Nat} (hp : p < 8) (hv : v.testBit p = true) : zm 8 (fun j => v.testBit j && !kinB c p j) = 2 ^ p ↔ zall 8 (fun j => !v.testBit j || decide (j = p) || kinB c p j) = true := by
  rw [← zm_1 hp, zall_iff]
  constructor
  · intro h j hj
    have := zm_inj h j hj
    revert this
    cases v.testBit j <;> cases decide (j = p) <;> cases kinB c p j <;> simp
  · intro h
    refine zm_ext (fun j hj => ?_)
    have := h j hj
    by_cases e : j = p
    · subst e; simp [hv, kin_irr hk]
    · revert this
      simp only [e, decide_false]
      cases v.testBit j <;> cases kinB c p j <;> simp
section
variable {M : ZMem} {c : ZCty} {d : Nat}
theorem x5_read (hA : zAt M 1 c) (hk : zOk c) : ZFv mdX5_read (d + 2) [.ref 29, .ref 1] M (fun M' => zTi M' c ∧ zSame 29 31 M M') := by
  have hn := hk.1
  have lp : ∀ r k M1, k + r = yN c → zSame 29 31 M M1 → M1 29 1 = nI (yN c) → (∀ j, j < k → M1 30 j = nI (zm 8 (kinB c j))) → ZV mdX5_read (d + 2) (fun v M' => v = none ∧ (zTi M' c ∧ zSame 29 31 M M')) 10 [some (.ref 29), some (.ref 1), some (.int (nI k))] [] M1 := by
    intro r
    induction r with
    | zero =>
      intro k M1 e hs h1 h2
      have e : k = yN c := by omega
      subst e
      refine zv_iload_n (pc' := 11) dX5_read_10 rfl rfl ?_
      refine zv_aload_n (pc' := 12) dX5_read_11 rfl rfl ?_
      refine zv_getIE (pc' := 15) dX5_read_12 rfl flX5_21 (by first | rfl | assumption) rfl (by first | exact h1 | rfl) ?_
      refine zv_icmp_ge (pc' := 18) (tgt := 35) dX5_read_15 rfl rfl (fun _ => ?_) (fun hcc => absurd (Int32.le_refl _) hcc)
      refine zv_vret dX5_read_35 rfl ?_
      exact ⟨rfl, ⟨h1, h2⟩, hs⟩
    | succ r ih =>
      intro k M1 e hs h1 h2
      have hA1 := hA.same hs (Or.inl (by omega))
      refine zv_iload_n (pc' := 11) dX5_read_10 rfl rfl ?_
      refine zv_aload_n (pc' := 12) dX5_read_11 rfl rfl ?_
      refine zv_getIE (pc' := 15) dX5_read_12 rfl flX5_21 (by first | rfl | assumption) rfl (by first | exact h1 | rfl) ?_
      refine zv_icmp_ge (pc' := 18) (tgt := 35) dX5_read_15 rfl rfl (fun hcc => absurd hcc (nI_ge (by omega) (by omega))) (fun _ => ?_)
      refine zv_aload_n (pc' := 19) dX5_read_18 rfl rfl ?_
      refine zv_getR (pc' := 22) dX5_read_19 rfl flX5_9 (by first | rfl | assumption) rfl ?_
      refine zv_iload_n (pc' := 23) dX5_read_22 rfl rfl ?_
      refine zv_aload_n (pc' := 24) dX5_read_23 rfl rfl ?_
      refine zv_iload_n (pc' := 25) dX5_read_24 rfl rfl ?_
      refine zv_cV1_pi (pc' := 28) dX5_read_25 rfl lkX5_22 (by first | rfl | assumption) rfl (Nat.le_of_ble_eq_true rfl) (x0_kinOf zCy1 hA1 hk (by omega)) ?_
      refine zv_iastoreN (pc' := 29) dX5_read_28 rfl (by first | rfl | assumption) (by decide) (by omega) ?_
      refine zv_iinc (w := nI 1) (pc' := 32) dX5_read_29 rfl rfl (by decide) (by decide) ?_
      refine zv_goto (pc' := 10) dX5_read_32 rfl ?_
      rw [nI_add]
      refine ih (k + 1) _ (by omega) (hs.tr (zSame.up (by omega) (by omega))) (by rw [zup_ne (by omega)]; exact h1) (fun j hj => ?_)
      rw [zup_eq]
      by_cases ej : j = k
      · rw [ej, upd_s]
      · rw [upd_n ej]; exact h2 j (by omega)
  have hN := hA.1
  refine zex_intro (L := [some (.ref 29), some (.ref 1), none]) (by decide) (Nat.le_of_ble_eq_true rfl) rfl ?_
  refine zv_aload_n (pc' := 1) dX5_read_0 rfl rfl ?_
  refine zv_aload_n (pc' := 2) dX5_read_1 rfl rfl ?_
  refine zv_getIE (pc' := 5) dX5_read_2 rfl flX5_15 (by first | rfl | assumption) rfl (by first | exact hN | rfl) ?_
  refine zv_putI (pc' := 8) dX5_read_5 rfl flX5_21 pfX5_1 (by first | rfl | assumption) rfl rfl rfl ?_
  refine zv_iconst (v := nI 0) (pc' := 9) dX5_read_8 rfl (by decide) ?_
  refine zv_istore_n (pc' := 10) dX5_read_9 rfl (by decide) ?_
  exact lp (yN c) 0 _ (by omega) (zSame.up (by omega) (by omega)) (by rw [zup_eq, upd_s]) (fun j hj => by omega)
theorem x5_spread {f : Nat → Bool} (hT : zTi M c) (hn : yN c ≤ 8) : ZPi mdX5_spread (d + 1) [.ref 29, .int (nI (zm 8 f))] M (nI (zm 8 (sprd c f))) := by
  obtain ⟨h1, h2⟩ := hT
  have lp : ∀ r k, k + r = yN c → ZV mdX5_spread (d + 1) (fun v M' => v = some (.int (nI (zm 8 (sprd c f)))) ∧ M' = M) 4 [some (.ref 29), some (.int (nI (zm 8 f))), some (.int (nI (zm 8 (fun j => f j || zany k (fun i => f i && kinB c i j))))), some (.int (nI k))] [] M := by
    intro r
    induction r with
    | zero =>
      intro k e
      have e : k = yN c := by omega
      subst e
      refine zv_iload_n (pc' := 5) dX5_spread_4 rfl rfl ?_
      refine zv_aload_n (pc' := 6) dX5_spread_5 rfl rfl ?_
      refine zv_getIE (pc' := 9) dX5_spread_6 rfl flX5_21 (by first | rfl | assumption) rfl (by first | exact h1 | exact h2 _ (by omega) | rfl) ?_
      refine zv_icmp_ge (pc' := 12) (tgt := 35) dX5_spread_9 rfl rfl (fun _ => ?_) (fun hcc => absurd (Int32.le_refl _) hcc)
      refine zv_iload_n (pc' := 36) dX5_spread_35 rfl rfl ?_
      refine zv_iret dX5_spread_36 rfl ?_
      exact zpi_ret rfl
    | succ r ih =>
      intro k e
      have := ih (k + 1) (by omega)
      refine zv_iload_n (pc' := 5) dX5_spread_4 rfl rfl ?_
      refine zv_aload_n (pc' := 6) dX5_spread_5 rfl rfl ?_
      refine zv_getIE (pc' := 9) dX5_spread_6 rfl flX5_21 (by first | rfl | assumption) rfl (by first | exact h1 | exact h2 _ (by omega) | rfl) ?_
      refine zv_icmp_ge (pc' := 12) (tgt := 35) dX5_spread_9 rfl rfl (fun hcc => absurd hcc (nI_ge (by omega) (by omega))) (fun _ => ?_)
      refine zv_iload_n (pc' := 13) dX5_spread_12 rfl rfl ?_
      refine zv_iload_n (pc' := 14) dX5_spread_13 rfl rfl ?_
      refine zv_cS2_pi (pc' := 17) dX5_spread_14 rfl lkX5_26 (Nat.le_of_ble_eq_true rfl) (x6_isInM (by omega)) ?_
      refine zv_if_eq (pc' := 20) (tgt := 29) dX5_spread_17 rfl rfl ?_ ?_
      · intro h
        have h := zb_0.mp h
        refine zv_iinc (w := nI 1) (pc' := 32) dX5_spread_29 rfl rfl (by decide) (by decide) ?_
        refine zv_goto (pc' := 4) dX5_spread_32 rfl ?_
        rw [nI_add]
        rw [show (fun j => f j || zany (k + 1) (fun i => f i && kinB c i j)) = (fun j => f j || zany k (fun i => f i && kinB c i j)) from by funext j; simp [zany, h]] at this
        exact this
      · intro h
        have h := zb_ne.mp h
        refine zv_iload_n (pc' := 21) dX5_spread_20 rfl rfl ?_
        refine zv_aload_n (pc' := 22) dX5_spread_21 rfl rfl ?_
        refine zv_getR (pc' := 25) dX5_spread_22 rfl flX5_9 (by first | rfl | assumption) rfl ?_
        refine zv_iload_n (pc' := 26) dX5_spread_25 rfl rfl ?_
        refine zv_ialoadE (pc' := 27) dX5_spread_26 rfl (by first | rfl | assumption) (by decide) (by omega) (by first | exact h1 | exact h2 _ (by omega) | rfl) ?_
        refine zv_ior (pc' := 28) dX5_spread_27 rfl ?_
        refine zv_top mk_or ?_
        refine zv_istore_n (pc' := 29) dX5_spread_28 rfl (by decide) ?_
        refine zv_iinc (w := nI 1) (pc' := 32) dX5_spread_29 rfl rfl (by decide) (by decide) ?_
        refine zv_goto (pc' := 4) dX5_spread_32 rfl ?_
        rw [nI_add]
        rw [show (fun j => f j || zany (k + 1) (fun i => f i && kinB c i j)) = (fun j => (f j || zany k (fun i => f i && kinB c i j)) || kinB c k j) from by funext j; simp [zany, h, Bool.or_assoc]] at this
        exact this
  refine zex_intro (L := [some (.ref 29), some (.int (nI (zm 8 f))), none, none]) (by decide) (Nat.le_of_ble_eq_true rfl) rfl ?_
  refine zv_iload_n (pc' := 1) dX5_spread_0 rfl rfl ?_
  refine zv_istore_n (pc' := 2) dX5_spread_1 rfl (by decide) ?_
  refine zv_iconst (v := nI 0) (pc' := 3) dX5_spread_2 rfl (by decide) ?_
  refine zv_istore_n (pc' := 4) dX5_spread_3 rfl (by decide) ?_
  have := lp (yN c) 0 (by omega)
  rw [show (fun j => f j || zany 0 (fun i => f i && kinB c i j)) = f from by funext j; simp [zany]] at this
  exact this
theorem x5_reachOf {p : Nat} (hT : zTi M c) (hn : yN c ≤ 8) (hp : p < yN c) : ZPi mdX5_reachOf (d + 2) [.ref 29, .int (nI p)] M (nI (zm 8 (rch c (yN c - 1) p))) := by
  have h1 := hT.1
  have lp : ∀ r k, k + r = yN c - 1 → ZV mdX5_reachOf (d + 2) (fun v M' => v = some (.int (nI (zm 8 (rch c (yN c - 1) p)))) ∧ M' = M) 6 [some (.ref 29), some (.int (nI p)), some (.int (nI (zm 8 (rch c k p)))), some (.int (nI (k + 1)))] [] M := by
    intro r
    induction r with
    | zero =>
      intro k e
      have e : k = yN c - 1 := by omega
      have e2 : k + 1 = yN c := by omega
      rw [e2, e]
      refine zv_iload_n (pc' := 7) dX5_reachOf_6 rfl rfl ?_
      refine zv_aload_n (pc' := 8) dX5_reachOf_7 rfl rfl ?_
      refine zv_getIE (pc' := 11) dX5_reachOf_8 rfl flX5_21 (by first | rfl | assumption) rfl (by first | exact h1 | rfl) ?_
      refine zv_icmp_ge (pc' := 14) (tgt := 26) dX5_reachOf_11 rfl rfl (fun _ => ?_) (fun hcc => absurd (Int32.le_refl _) hcc)
      refine zv_iload_n (pc' := 27) dX5_reachOf_26 rfl rfl ?_
      refine zv_iret dX5_reachOf_27 rfl ?_
      exact zpi_ret rfl
    | succ r ih =>
      intro k e
      refine zv_iload_n (pc' := 7) dX5_reachOf_6 rfl rfl ?_
      refine zv_aload_n (pc' := 8) dX5_reachOf_7 rfl rfl ?_
      refine zv_getIE (pc' := 11) dX5_reachOf_8 rfl flX5_21 (by first | rfl | assumption) rfl (by first | exact h1 | rfl) ?_
      refine zv_icmp_ge (pc' := 14) (tgt := 26) dX5_reachOf_11 rfl rfl (fun hcc => absurd hcc (nI_ge (by omega) (by omega))) (fun _ => ?_)
      refine zv_aload_n (pc' := 15) dX5_reachOf_14 rfl rfl ?_
      refine zv_iload_n (pc' := 16) dX5_reachOf_15 rfl rfl ?_
      refine zv_cV1_pi (pc' := 19) dX5_reachOf_16 rfl lkX5_30 (by first | rfl | assumption) rfl (Nat.le_of_ble_eq_true rfl) (x5_spread hT hn) ?_
      refine zv_istore_n (pc' := 20) dX5_reachOf_19 rfl (by decide) ?_
      refine zv_iinc (w := nI 1) (pc' := 23) dX5_reachOf_20 rfl rfl (by decide) (by decide) ?_
      refine zv_goto (pc' := 6) dX5_reachOf_23 rfl ?_
      rw [nI_add]
      exact ih (k + 1) (by omega)
  refine zex_intro (L := [some (.ref 29), some (.int (nI p)), none, none]) (by decide) (Nat.le_of_ble_eq_true rfl) rfl ?_
  refine zv_iconst (v := nI 1) (pc' := 1) dX5_reachOf_0 rfl (by decide) ?_
  refine zv_iload_n (pc' := 2) dX5_reachOf_1 rfl rfl ?_
  refine zv_ishl (pc' := 3) dX5_reachOf_2 rfl ?_
  refine zv_top (zsh1 p (by omega)) ?_
  refine zv_top (congrArg nI (zm_1 (k := 8) (by omega)).symm) ?_
  refine zv_istore_n (pc' := 4) dX5_reachOf_3 rfl (by decide) ?_
  refine zv_iconst (v := nI 1) (pc' := 5) dX5_reachOf_4 rfl (by decide) ?_
  refine zv_istore_n (pc' := 6) dX5_reachOf_5 rfl (by decide) ?_
  exact lp (yN c - 1) 0 (by omega)
theorem x5_steps {p q : Nat} (hT : zTi M c) (hn : yN c ≤ 8) (hp : p < yN c) (hq : q < yN c) : ZPi mdX5_steps (d + 2) [.ref 29, .int (nI p), .int (nI q)] M (optI (zfst (yN c - 1) 1 (fun k => rch c k p q))) := by
  have h1 := hT.1
  have lp : ∀ r k, k + r = yN c - 1 → zfst r (k + 1) (fun k => rch c k p q) = zfst (yN c - 1) 1 (fun k => rch c k p q) → ZV mdX5_steps (d + 2) (fun v M' => v = some (.int (optI (zfst (yN c - 1) 1 (fun k => rch c k p q)))) ∧ M' = M) 7 [some (.ref 29), some (.int (nI p)), some (.int (nI q)), some (.int (nI (zm 8 (rch c k p)))), some (.int (nI (k + 1)))] [] M := by
    intro r
    induction r with
    | zero =>
      intro k e hz
      have e2 : k + 1 = yN c := by omega
      rw [e2]
      refine zv_iload (pc' := 9) dX5_steps_7 rfl rfl ?_
      refine zv_aload_n (pc' := 10) dX5_steps_9 rfl rfl ?_
      refine zv_getIE (pc' := 13) dX5_steps_10 rfl flX5_21 (by first | rfl | assumption) rfl (by first | exact h1 | rfl) ?_
      refine zv_icmp_ge (pc' := 16) (tgt := 39) dX5_steps_13 rfl rfl (fun _ => ?_) (fun hcc => absurd (Int32.le_refl _) hcc)
      refine zv_bipush (v := (-9 : Int32)) (pc' := 41) dX5_steps_39 rfl (by decide) ?_
      refine zv_iret dX5_steps_41 rfl ?_
      exact zpi_ret (by rw [← hz]; rfl)
    | succ r ih =>
      intro k e hz
      refine zv_iload (pc' := 9) dX5_steps_7 rfl rfl ?_
      refine zv_aload_n (pc' := 10) dX5_steps_9 rfl rfl ?_
      refine zv_getIE (pc' := 13) dX5_steps_10 rfl flX5_21 (by first | rfl | assumption) rfl (by first | exact h1 | rfl) ?_
      refine zv_icmp_ge (pc' := 16) (tgt := 39) dX5_steps_13 rfl rfl (fun hcc => absurd hcc (nI_ge (by omega) (by omega))) (fun _ => ?_)
      refine zv_aload_n (pc' := 17) dX5_steps_16 rfl rfl ?_
      refine zv_iload_n (pc' := 18) dX5_steps_17 rfl rfl ?_
      refine zv_cV1_pi (pc' := 21) dX5_steps_18 rfl lkX5_30 (by first | rfl | assumption) rfl (Nat.le_of_ble_eq_true rfl) (x5_spread hT hn) ?_
      refine zv_istore_n (pc' := 22) dX5_steps_21 rfl (by decide) ?_
      refine zv_iload_n (pc' := 23) dX5_steps_22 rfl rfl ?_
      refine zv_iload_n (pc' := 24) dX5_steps_23 rfl rfl ?_
      refine zv_cS2_pi (pc' := 27) dX5_steps_24 rfl lkX5_26 (Nat.le_of_ble_eq_true rfl) (x6_isInM (f := rch c (k + 1) p) (by omega)) ?_
      refine zv_if_eq (pc' := 30) (tgt := 33) dX5_steps_27 rfl rfl ?_ ?_
      · intro h
        have h := zb_0.mp h
        refine zv_iinc (w := nI 1) (pc' := 36) dX5_steps_33 rfl rfl (by decide) (by decide) ?_
        refine zv_goto (pc' := 7) dX5_steps_36 rfl ?_
        rw [nI_add]
        exact ih (k + 1) (by omega) (by rw [zfst, if_neg (by rw [h]; decide)] at hz; exact hz)
      · intro h
        have h := zb_ne.mp h
        refine zv_iload (pc' := 32) dX5_steps_30 rfl rfl ?_
        refine zv_iret dX5_steps_32 rfl ?_
        exact zpi_ret (by rw [zfst, if_pos h] at hz; rw [← hz]; rfl)
  refine zex_intro (L := [some (.ref 29), some (.int (nI p)), some (.int (nI q)), none, none]) (by decide) (Nat.le_of_ble_eq_true rfl) rfl ?_
  refine zv_iconst (v := nI 1) (pc' := 1) dX5_steps_0 rfl (by decide) ?_
  refine zv_iload_n (pc' := 2) dX5_steps_1 rfl rfl ?_
  refine zv_ishl (pc' := 3) dX5_steps_2 rfl ?_
  refine zv_top (zsh1 p (by omega)) ?_
  refine zv_top (congrArg nI (zm_1 (k := 8) (by omega)).symm) ?_
  refine zv_istore_n (pc' := 4) dX5_steps_3 rfl (by decide) ?_
  refine zv_iconst (v := nI 1) (pc' := 5) dX5_steps_4 rfl (by decide) ?_
  refine zv_istore (pc' := 7) dX5_steps_5 rfl (by decide) ?_
  exact lp (yN c - 1) 0 (by omega) rfl
theorem x5_isClan {v : Nat} (hv : v < 256) (hT : zTi M c) (hn : yN c ≤ 8) : ZPi mdX5_isClan (d + 1) [.ref 29, .int (nI v)] M (zb (clanB c v)) := by
  obtain ⟨h1, h2⟩ := hT
  have lp : ∀ r k, k + r = yN c → zall k (clIn c v) = true → ZV mdX5_isClan (d + 1) (fun w M' => w = some (.int (zb (clanB c v))) ∧ M' = M) 2 [some (.ref 29), some (.int (nI v)), some (.int (nI k))] [] M := by
    intro r
    induction r with
    | zero =>
      intro k e ha
      have e : k = yN c := by omega
      subst e
      refine zv_iload_n (pc' := 3) dX5_isClan_2 rfl rfl ?_
      refine zv_aload_n (pc' := 4) dX5_isClan_3 rfl rfl ?_
      refine zv_getIE (pc' := 7) dX5_isClan_4 rfl flX5_21 (by first | rfl | assumption) rfl (by first | exact h1 | exact h2 _ (by omega) | rfl) ?_
      refine zv_icmp_ge (pc' := 10) (tgt := 45) dX5_isClan_7 rfl rfl (fun _ => ?_) (fun hcc => absurd (Int32.le_refl _) hcc)
      refine zv_iconst (v := nI 1) (pc' := 46) dX5_isClan_45 rfl (by decide) ?_
      refine zv_ireturn dX5_isClan_46 rfl (by first | rfl | exact zb_nar _) ?_
      exact zpi_t ha
    | succ r ih =>
      intro k e ha
      have nx : clIn c v k = true → ZV mdX5_isClan (d + 1) (fun w M' => w = some (.int (zb (clanB c v))) ∧ M' = M) 39 [some (.ref 29), some (.int (nI v)), some (.int (nI k))] [] M := by
        intro hc
        refine zv_iinc (w := nI 1) (pc' := 42) dX5_isClan_39 rfl rfl (by decide) (by decide) ?_
        refine zv_goto (pc' := 2) dX5_isClan_42 rfl ?_
        rw [nI_add]
        exact ih (k + 1) (by omega) (by rw [zall, ha, hc]; rfl)
      refine zv_iload_n (pc' := 3) dX5_isClan_2 rfl rfl ?_
      refine zv_aload_n (pc' := 4) dX5_isClan_3 rfl rfl ?_
      refine zv_getIE (pc' := 7) dX5_isClan_4 rfl flX5_21 (by first | rfl | assumption) rfl (by first | exact h1 | exact h2 _ (by omega) | rfl) ?_
      refine zv_icmp_ge (pc' := 10) (tgt := 45) dX5_isClan_7 rfl rfl (fun hcc => absurd hcc (nI_ge (by omega) (by omega))) (fun _ => ?_)
      refine zv_iload_n (pc' := 11) dX5_isClan_10 rfl rfl ?_
      refine zv_iload_n (pc' := 12) dX5_isClan_11 rfl rfl ?_
      refine zv_cS2_pi (pc' := 15) dX5_isClan_12 rfl lkX5_26 (Nat.le_of_ble_eq_true rfl) (x6_isIn (by omega) (by omega)) ?_
      refine zv_if_eq (pc' := 18) (tgt := 39) dX5_isClan_15 rfl rfl ?_ ?_
      · intro h
        exact nx (by simp [clIn, zb_0.mp h])
      · intro h
        have h := zb_ne.mp h
        have hvv : nI v = nI (zm 8 (fun j => v.testBit j)) := by rw [zm_bits hv]
        refine zv_iload_n (pc' := 19) dX5_isClan_18 rfl rfl ?_
        refine zv_iconst (v := nI 1) (pc' := 20) dX5_isClan_19 rfl (by decide) ?_
        refine zv_iload_n (pc' := 21) dX5_isClan_20 rfl rfl ?_
        refine zv_ishl (pc' := 22) dX5_isClan_21 rfl ?_
        refine zv_top (zsh1 k (by omega)) ?_
        refine zv_iconst (v := (-1 : Int32)) (pc' := 23) dX5_isClan_22 rfl (by decide) ?_
        refine zv_ixor (pc' := 24) dX5_isClan_23 rfl ?_
        refine zv_iand (pc' := 25) dX5_isClan_24 rfl ?_
        refine zv_top ((congrArg (· &&& _) hvv).trans mk_cl1) ?_
        refine zv_aload_n (pc' := 26) dX5_isClan_25 rfl rfl ?_
        refine zv_getR (pc' := 29) dX5_isClan_26 rfl flX5_9 (by first | rfl | assumption) rfl ?_
        refine zv_iload_n (pc' := 30) dX5_isClan_29 rfl rfl ?_
        refine zv_ialoadE (pc' := 31) dX5_isClan_30 rfl (by first | rfl | assumption) (by decide) (by omega) (by first | exact h1 | exact h2 _ (by omega) | rfl) ?_
        refine zv_iconst (v := (-1 : Int32)) (pc' := 32) dX5_isClan_31 rfl (by decide) ?_
        refine zv_ixor (pc' := 33) dX5_isClan_32 rfl ?_
        refine zv_iand (pc' := 34) dX5_isClan_33 rfl ?_
        refine zv_top mk_cl ?_
        refine zv_if_eq (pc' := 37) (tgt := 39) dX5_isClan_34 rfl rfl ?_ ?_
        · intro h3
          have h3 := (nI_eq (b := 0) (Nat.lt_trans (zm8_lt _) (by decide)) (by decide)).mp h3
          exact nx (by rw [clIn, h, cl_x.mp h3]; rfl)
        · intro h3
          refine zv_iconst (v := nI 0) (pc' := 38) dX5_isClan_37 rfl (by decide) ?_
          refine zv_ireturn dX5_isClan_38 rfl (by first | rfl | exact zb_nar _) ?_
          refine zpi_f (zall_f (f := clIn c v) (q := k) (by omega) ?_)
          cases hz : clIn c v k
          · rfl
          · rw [clIn, h] at hz
            exact absurd (congrArg nI (cl_x.mpr hz)) h3
  refine zex_intro (L := [some (.ref 29), some (.int (nI v)), none]) (by decide) (Nat.le_of_ble_eq_true rfl) rfl ?_
  refine zv_iconst (v := nI 0) (pc' := 1) dX5_isClan_0 rfl (by decide) ?_
  refine zv_istore_n (pc' := 2) dX5_isClan_1 rfl (by decide) ?_
  exact lp (yN c) 0 (by omega) rfl
theorem x5_greatestClan (hT : zTi M c) (hn : yN c ≤ 8) : ZPi mdX5_greatestClan (d + 2) [.ref 29] M (nI (clS c (2 ^ yN c))) := by
  have h1 := hT.1
  have h256 : 2 ^ yN c ≤ 256 := Nat.pow_le_pow_right (n := 2) (by decide) hn
  have lp : ∀ r k, k + r = 2 ^ yN c → ZV mdX5_greatestClan (d + 2) (fun v M' => v = some (.int (nI (clS c (2 ^ yN c)))) ∧ M' = M) 11 [some (.ref 29), some (.int (nI (clS c k))), some (.int (nI (2 ^ yN c))), some (.int (nI k))] [] M := by
    intro r
    induction r with
    | zero =>
      intro k e
      have e : k = 2 ^ yN c := by omega
      rw [e]
      refine zv_iload_n (pc' := 12) dX5_greatestClan_11 rfl rfl ?_
      refine zv_iload_n (pc' := 13) dX5_greatestClan_12 rfl rfl ?_
      refine zv_icmp_ge (pc' := 16) (tgt := 43) dX5_greatestClan_13 rfl rfl (fun _ => ?_) (fun hcc => absurd (Int32.le_refl _) hcc)
      refine zv_iload_n (pc' := 44) dX5_greatestClan_43 rfl rfl ?_
      refine zv_iret dX5_greatestClan_44 rfl ?_
      exact zpi_ret rfl
    | succ r ih =>
      intro k e
      have hb := clS_lt (c := c) (k := k) (by omega)
      have nx : ¬ (pop8 (clS c k) < pop8 k ∧ clanB c k = true) → ZV mdX5_greatestClan (d + 2) (fun v M' => v = some (.int (nI (clS c (2 ^ yN c)))) ∧ M' = M) 37 [some (.ref 29), some (.int (nI (clS c k))), some (.int (nI (2 ^ yN c))), some (.int (nI k))] [] M := by
        intro hc
        have := ih (k + 1) (by omega)
        rw [clS, if_neg hc] at this
        refine zv_iinc (w := nI 1) (pc' := 40) dX5_greatestClan_37 rfl rfl (by decide) (by decide) ?_
        refine zv_goto (pc' := 11) dX5_greatestClan_40 rfl ?_
        rw [nI_add]
        exact this
      have p1 : pop8 k ≤ 8 := zcn_le _ 8
      have p2 : pop8 (clS c k) ≤ 8 := zcn_le _ 8
      refine zv_iload_n (pc' := 12) dX5_greatestClan_11 rfl rfl ?_
      refine zv_iload_n (pc' := 13) dX5_greatestClan_12 rfl rfl ?_
      refine zv_icmp_ge (pc' := 16) (tgt := 43) dX5_greatestClan_13 rfl rfl (fun hcc => absurd hcc (nI_ge (by omega) (by omega))) (fun _ => ?_)
      refine zv_iload_n (pc' := 17) dX5_greatestClan_16 rfl rfl ?_
      refine zv_cS1_pi (pc' := 20) dX5_greatestClan_17 rfl lkX5_36 (Nat.le_of_ble_eq_true rfl) (j6_bitCount (by omega)) ?_
      refine zv_iload_n (pc' := 21) dX5_greatestClan_20 rfl rfl ?_
      refine zv_cS1_pi (pc' := 24) dX5_greatestClan_21 rfl lkX5_36 (Nat.le_of_ble_eq_true rfl) (j6_bitCount hb) ?_
      refine zv_icmp_le (pc' := 27) (tgt := 37) dX5_greatestClan_24 rfl rfl ?_ ?_
      · intro h
        have h := (nI_leI (a := pop8 k) (b := pop8 (clS c k)) (by omega) (by omega)).mp h
        exact nx (fun z => by omega)
      · intro h
        have h := mt (nI_leI (a := pop8 k) (b := pop8 (clS c k)) (by omega) (by omega)).mpr h
        refine zv_aload_n (pc' := 28) dX5_greatestClan_27 rfl rfl ?_
        refine zv_iload_n (pc' := 29) dX5_greatestClan_28 rfl rfl ?_
        refine zv_cV1_pi (pc' := 32) dX5_greatestClan_29 rfl lkX5_47 (by first | rfl | assumption) rfl (Nat.le_of_ble_eq_true rfl) (x5_isClan (by omega) hT hn) ?_
        refine zv_if_eq (pc' := 35) (tgt := 37) dX5_greatestClan_32 rfl rfl ?_ ?_
        · intro h3
          exact nx (fun z => by rw [zb_0.mp h3] at z; exact absurd z.2 (by decide))
        · intro h3
          have := ih (k + 1) (by omega)
          rw [clS, if_pos ⟨by omega, zb_ne.mp h3⟩] at this
          refine zv_iload_n (pc' := 36) dX5_greatestClan_35 rfl rfl ?_
          refine zv_istore_n (pc' := 37) dX5_greatestClan_36 rfl (by decide) ?_
          refine zv_iinc (w := nI 1) (pc' := 40) dX5_greatestClan_37 rfl rfl (by decide) (by decide) ?_
          refine zv_goto (pc' := 11) dX5_greatestClan_40 rfl ?_
          rw [nI_add]
          exact this
  refine zex_intro (L := [some (.ref 29), none, none, none]) (by decide) (Nat.le_of_ble_eq_true rfl) rfl ?_
  refine zv_iconst (v := nI 0) (pc' := 1) dX5_greatestClan_0 rfl (by decide) ?_
  refine zv_istore_n (pc' := 2) dX5_greatestClan_1 rfl (by decide) ?_
  refine zv_iconst (v := nI 1) (pc' := 3) dX5_greatestClan_2 rfl (by decide) ?_
  refine zv_aload_n (pc' := 4) dX5_greatestClan_3 rfl rfl ?_
  refine zv_getIE (pc' := 7) dX5_greatestClan_4 rfl flX5_21 (by first | rfl | assumption) rfl (by first | exact h1 | rfl) ?_
  refine zv_ishl (pc' := 8) dX5_greatestClan_7 rfl ?_
  refine zv_top (zsh1 (yN c) (by omega)) ?_
  refine zv_istore_n (pc' := 9) dX5_greatestClan_8 rfl (by decide) ?_
  refine zv_iconst (v := nI 1) (pc' := 10) dX5_greatestClan_9 rfl (by decide) ?_
  refine zv_istore_n (pc' := 11) dX5_greatestClan_10 rfl (by decide) ?_
  have hp : 0 < 2 ^ yN c := Nat.pow_pos (by decide)
  have := lp (2 ^ yN c - 1) 1 (by omega)
  rw [show clS c 1 = 0 from by rw [clS]; split <;> rfl] at this
  exact this
end
section
variable {d : Nat}
theorem gx_clan (x : Int32) : zGx mdX6_clan (d + 4) [.int x] (sp_clan x) := by
  intro M s hI hk
  have hn := hk.1.1
  have hA := hI.1
  refine zex_intro (L := [some (.ref 0), some (.int x), none, none]) (by decide) (Nat.le_of_ble_eq_true rfl) rfl ?_
  refine zv_iload_n (pc' := 1) dX6_clan_0 rfl rfl ?_
  refine zv_iconst (v := nI 1) (pc' := 2) dX6_clan_1 rfl (by decide) ?_
  refine zv_cS2_pi (pc' := 5) dX6_clan_2 rfl lkX6_114 (Nat.le_of_ble_eq_true rfl) (x6_otherThan) ?_
  have hw := otN_lt (x := x) (n := 1)
  refine zv_istore_n (pc' := 6) dX6_clan_5 rfl (by decide) ?_
  refine zv_iload_n (pc' := 7) dX6_clan_6 rfl rfl ?_
  refine zv_if_eq (pc' := 10) (tgt := 16) dX6_clan_7 rfl rfl ?_ ?_
  · intro h
    have h0 := (neg_w0 _ hw).mp h
    obtain ⟨w, -, hw2, rfl⟩ := isInB_of (by decide) (otN_0.mp h0) (by decide)
    have ev : sp_clan (nI w) s = (clW (clS (sC s) (2 ^ yN (sC s))) w, s) := by rw [sp_clan, zans_0 h0, pN_nI (by omega)]
    have hb : clS (sC s) (2 ^ yN (sC s)) < 256 := clS_lt (Nat.pow_le_pow_right (n := 2) (by decide) hn)
    refine zv_aload_n (pc' := 17) dX6_clan_16 rfl rfl ?_
    refine zv_getR (pc' := 20) dX6_clan_17 rfl flX6_42 (by first | rfl | assumption) rfl ?_
    refine zv_aload_n (pc' := 21) dX6_clan_20 rfl rfl ?_
    refine zv_getR (pc' := 24) dX6_clan_21 rfl flX6_10 (by first | rfl | assumption) rfl ?_
    refine zv_cV1_fv (pc' := 27) dX6_clan_24 rfl lkX6_189 (by first | rfl | assumption) rfl (Nat.le_of_ble_eq_true rfl) (x5_read hA hk.1) ?_
    rintro M1 ⟨hT, hs⟩
    refine zv_aload_n (pc' := 28) dX6_clan_27 rfl rfl ?_
    refine zv_getR (pc' := 31) dX6_clan_28 rfl flX6_42 (by first | rfl | assumption) rfl ?_
    refine zv_cV0_pi (pc' := 34) dX6_clan_31 rfl lkX6_207 (by first | rfl | assumption) rfl (Nat.le_of_ble_eq_true rfl) (x5_greatestClan hT hn) ?_
    refine zv_istore_n (pc' := 35) dX6_clan_34 rfl (by decide) ?_
    refine zv_iload_n (pc' := 36) dX6_clan_35 rfl rfl ?_
    rcases (show w = 0 ∨ w = 1 by omega) with rfl | rfl
    · refine zv_if_ne (pc' := 39) (tgt := 43) dX6_clan_36 rfl rfl (fun hcc => absurd (rfl) hcc) (fun _ => ?_)
      refine zv_iload_n (pc' := 40) dX6_clan_39 rfl rfl ?_
      refine zv_goto (pc' := 47) dX6_clan_40 rfl ?_
      refine zv_iret dX6_clan_47 rfl ?_
      exact zdonq ev hI (zScr.same hs (by omega))
    · refine zv_if_ne (pc' := 39) (tgt := 43) dX6_clan_36 rfl rfl (fun _ => ?_) (fun hcc => absurd hcc (by decide))
      refine zv_iload_n (pc' := 44) dX6_clan_43 rfl rfl ?_
      refine zv_cS1_pi (pc' := 47) dX6_clan_44 rfl lkX6_130 (Nat.le_of_ble_eq_true rfl) (j6_bitCount hb) ?_
      refine zv_iret dX6_clan_47 rfl ?_
      exact zdonq ev hI (zScr.same hs (by omega))
  · intro h
    have h0 := mt (neg_w0 _ hw).mpr h
    refine zv_aload_n (pc' := 11) dX6_clan_10 rfl rfl ?_
    refine zv_iload_n (pc' := 12) dX6_clan_11 rfl rfl ?_
    refine zv_cV1_fi (pc' := 15) dX6_clan_12 rfl lkX6_84 (by first | rfl | assumption) rfl (Nat.le_of_ble_eq_true rfl) (x6_refuse hw h0) ?_
    rintro r M1 ⟨rfl, rfl⟩
    refine zv_iret dX6_clan_15 rfl ?_
    exact zrefx hI h0
theorem x7_areAllKin {M : ZMem} {c : ZCty} {v : Nat} (hv : v < 256) (hA : zAm M c) (hk : zOk c) : ZPi mdX7_areAllKin (d + 3) [.ref 90, .int (nI v)] M (zb (clanB c v)) := by
  have hn := hk.1
  have h1 := hA.1
  have lp : ∀ r k, k + r = yN c → zall k (clIn c v) = true → ZV mdX7_areAllKin (d + 3) (fun w M' => w = some (.int (zb (clanB c v))) ∧ M' = M) 2 [some (.ref 90), some (.int (nI v)), some (.int (nI k))] [] M := by
    intro r
    induction r with
    | zero =>
      intro k e ha
      have e : k = yN c := by omega
      subst e
      refine zv_iload_n (pc' := 3) dX7_areAllKin_2 rfl rfl ?_
      refine zv_aload_n (pc' := 4) dX7_areAllKin_3 rfl rfl ?_
      refine zv_getIE (pc' := 7) dX7_areAllKin_4 rfl flX7_65 (by first | rfl | assumption) rfl (by first | exact h1 | rfl) ?_
      refine zv_icmp_ge (pc' := 10) (tgt := 41) dX7_areAllKin_7 rfl rfl (fun _ => ?_) (fun hcc => absurd (Int32.le_refl _) hcc)
      refine zv_iconst (v := nI 1) (pc' := 42) dX7_areAllKin_41 rfl (by decide) ?_
      refine zv_ireturn dX7_areAllKin_42 rfl (by first | rfl | exact zb_nar _) ?_
      exact zpi_t ha
    | succ r ih =>
      intro k e ha
      have nx : clIn c v k = true → ZV mdX7_areAllKin (d + 3) (fun w M' => w = some (.int (zb (clanB c v))) ∧ M' = M) 35 [some (.ref 90), some (.int (nI v)), some (.int (nI k))] [] M := by
        intro hc
        refine zv_iinc (w := nI 1) (pc' := 38) dX7_areAllKin_35 rfl rfl (by decide) (by decide) ?_
        refine zv_goto (pc' := 2) dX7_areAllKin_38 rfl ?_
        rw [nI_add]
        exact ih (k + 1) (by omega) (by rw [zall, ha, hc]; rfl)
      refine zv_iload_n (pc' := 3) dX7_areAllKin_2 rfl rfl ?_
      refine zv_aload_n (pc' := 4) dX7_areAllKin_3 rfl rfl ?_
      refine zv_getIE (pc' := 7) dX7_areAllKin_4 rfl flX7_65 (by first | rfl | assumption) rfl (by first | exact h1 | rfl) ?_
      refine zv_icmp_ge (pc' := 10) (tgt := 41) dX7_areAllKin_7 rfl rfl (fun hcc => absurd hcc (nI_ge (by omega) (by omega))) (fun _ => ?_)
      refine zv_iload_n (pc' := 11) dX7_areAllKin_10 rfl rfl ?_
      refine zv_iload_n (pc' := 12) dX7_areAllKin_11 rfl rfl ?_
      refine zv_cS2_pi (pc' := 15) dX7_areAllKin_12 rfl lkX7_75 (Nat.le_of_ble_eq_true rfl) (x7_has (by omega) (by omega)) ?_
      refine zv_if_eq (pc' := 18) (tgt := 35) dX7_areAllKin_15 rfl rfl ?_ ?_
      · intro h
        exact nx (by simp [clIn, zb_0.mp h])
      · intro h
        have h := zb_ne.mp h
        have hvv : nI v = nI (zm 8 (fun j => v.testBit j)) := by rw [zm_bits hv]
        refine zv_iload_n (pc' := 19) dX7_areAllKin_18 rfl rfl ?_
        refine zv_aload_n (pc' := 20) dX7_areAllKin_19 rfl rfl ?_
        refine zv_iload_n (pc' := 21) dX7_areAllKin_20 rfl rfl ?_
        refine zv_cV1_pi (pc' := 24) dX7_areAllKin_21 rfl lkX7_181 (by first | rfl | assumption) rfl (Nat.le_of_ble_eq_true rfl) (x7_kinOf hA hk (by omega)) ?_
        refine zv_iconst (v := (-1 : Int32)) (pc' := 25) dX7_areAllKin_24 rfl (by decide) ?_
        refine zv_ixor (pc' := 26) dX7_areAllKin_25 rfl ?_
        refine zv_iand (pc' := 27) dX7_areAllKin_26 rfl ?_
        refine zv_top ((congrArg (· &&& _) hvv).trans mk_cl) ?_
        refine zv_iconst (v := nI 1) (pc' := 28) dX7_areAllKin_27 rfl (by decide) ?_
        refine zv_iload_n (pc' := 29) dX7_areAllKin_28 rfl rfl ?_
        refine zv_ishl (pc' := 30) dX7_areAllKin_29 rfl ?_
        refine zv_top (zsh1 k (by omega)) ?_
        have hlt : (2 : Nat) ^ k < 2 ^ 31 := Nat.pow_lt_pow_right (by decide) (by omega)
        refine zv_icmp_eq (pc' := 33) (tgt := 35) dX7_areAllKin_30 rfl rfl ?_ ?_
        · intro h3
          have h3 := (nI_eq (Nat.lt_trans (zm8_lt _) (by decide)) hlt).mp h3
          exact nx (by rw [clIn, h, (cl_m hk (by omega) h).mp h3]; rfl)
        · intro h3
          refine zv_iconst (v := nI 0) (pc' := 34) dX7_areAllKin_33 rfl (by decide) ?_
          refine zv_ireturn dX7_areAllKin_34 rfl (by first | rfl | exact zb_nar _) ?_
          refine zpi_f (zall_f (f := clIn c v) (q := k) (by omega) ?_)
          cases hz : clIn c v k
          · rfl
          · rw [clIn, h] at hz
            exact absurd (congrArg nI ((cl_m hk (by omega) h).mpr hz)) h3
  refine zex_intro (L := [some (.ref 90), some (.int (nI v)), none]) (by decide) (Nat.le_of_ble_eq_true rfl) rfl ?_
  refine zv_iconst (v := nI 0) (pc' := 1) dX7_areAllKin_0 rfl (by decide) ?_
  refine zv_istore_n (pc' := 2) dX7_areAllKin_1 rfl (by decide) ?_
  exact lp (yN c) 0 (by omega) rfl
theorem gm_clan (x : Int32) : zGm mdX7_clan (d + 4) [.int x] (sp_clan x) := by
  intro M s hI hk
  have hn := hk.1.1
  have hN := hI.1.1
  have h256 : 2 ^ yN (sC s) ≤ 256 := Nat.pow_le_pow_right (n := 2) (by decide) hn
  refine zex_intro (L := [some (.ref 90), some (.int x), none, none]) (by decide) (Nat.le_of_ble_eq_true rfl) rfl ?_
  refine zv_iload_n (pc' := 1) dX7_clan_0 rfl rfl ?_
  refine zv_iconst (v := nI 0) (pc' := 2) dX7_clan_1 rfl (by decide) ?_
  refine zv_iconst (v := nI 1) (pc' := 3) dX7_clan_2 rfl (by decide) ?_
  refine zv_cS3_pi (pc' := 6) dX7_clan_3 rfl lkX7_100 (Nat.le_of_ble_eq_true rfl) (x7_isIn) ?_
  refine zv_if_ne (pc' := 9) (tgt := 16) dX7_clan_6 rfl rfl ?_ ?_
  · intro h
    have h1 := zb_ne.mp h
    have h0 := otN_0.mpr h1
    obtain ⟨w, -, hw2, rfl⟩ := isInB_of (by decide) h1 (by decide)
    have ev : sp_clan (nI w) s = (clW (clS (sC s) (2 ^ yN (sC s))) w, s) := by rw [sp_clan, zans_0 h0, pN_nI (by omega)]
    have hbb : clS (sC s) (2 ^ yN (sC s)) < 256 := clS_lt h256
    have lp : ∀ r k, k + r = 2 ^ yN (sC s) → ZV mdX7_clan (d + 4) (fun v M' => ∃ r, v = some (.int r) ∧ (r = (sp_clan (nI w) s).1 ∧ zIm M' (sp_clan (nI w) s).2 ∧ ∀ k, k < 90 → M' k = M k)) 20 [some (.ref 90), some (.int (nI w)), some (.int (nI (clS (sC s) k))), some (.int (nI k))] [] M := by
      intro r
      induction r with
      | zero =>
        intro k e
        have e : k = 2 ^ yN (sC s) := by omega
        rw [e]
        refine zv_iload_n (pc' := 21) dX7_clan_20 rfl rfl ?_
        refine zv_iconst (v := nI 1) (pc' := 22) dX7_clan_21 rfl (by decide) ?_
        refine zv_aload_n (pc' := 23) dX7_clan_22 rfl rfl ?_
        refine zv_getIE (pc' := 26) dX7_clan_23 rfl flX7_65 (by first | rfl | assumption) rfl (by first | exact hN | rfl) ?_
        refine zv_ishl (pc' := 27) dX7_clan_26 rfl ?_
        refine zv_top (zsh1 (yN (sC s)) (by omega)) ?_
        refine zv_icmp_ge (pc' := 30) (tgt := 57) dX7_clan_27 rfl rfl (fun _ => ?_) (fun hcc => absurd (Int32.le_refl _) hcc)
        refine zv_iload_n (pc' := 58) dX7_clan_57 rfl rfl ?_
        rcases (show w = 0 ∨ w = 1 by omega) with rfl | rfl
        · refine zv_if_ne (pc' := 61) (tgt := 65) dX7_clan_58 rfl rfl (fun hcc => absurd (rfl) hcc) (fun _ => ?_)
          refine zv_iload_n (pc' := 62) dX7_clan_61 rfl rfl ?_
          refine zv_goto (pc' := 69) dX7_clan_62 rfl ?_
          refine zv_iret dX7_clan_69 rfl ?_
          exact zdonm (s' := s) ev hI (fun _ _ => rfl)
        · refine zv_if_ne (pc' := 61) (tgt := 65) dX7_clan_58 rfl rfl (fun _ => ?_) (fun hcc => absurd hcc (by decide))
          refine zv_iload_n (pc' := 66) dX7_clan_65 rfl rfl ?_
          refine zv_cS1_pi (pc' := 69) dX7_clan_66 rfl lkX7_184 (Nat.le_of_ble_eq_true rfl) (x7_bits hbb) ?_
          refine zv_iret dX7_clan_69 rfl ?_
          exact zdonm (s' := s) ev hI (fun _ _ => rfl)
      | succ r ih =>
        intro k e
        have hb := clS_lt (c := sC s) (k := k) (by omega)
        have nx : ¬ (pop8 (clS (sC s) k) < pop8 k ∧ clanB (sC s) k = true) → ZV mdX7_clan (d + 4) (fun v M' => ∃ r, v = some (.int r) ∧ (r = (sp_clan (nI w) s).1 ∧ zIm M' (sp_clan (nI w) s).2 ∧ ∀ k, k < 90 → M' k = M k)) 51 [some (.ref 90), some (.int (nI w)), some (.int (nI (clS (sC s) k))), some (.int (nI k))] [] M := by
          intro hc
          have := ih (k + 1) (by omega)
          rw [clS, if_neg hc] at this
          refine zv_iinc (w := nI 1) (pc' := 54) dX7_clan_51 rfl rfl (by decide) (by decide) ?_
          refine zv_goto (pc' := 20) dX7_clan_54 rfl ?_
          rw [nI_add]
          exact this
        have p1 : pop8 k ≤ 8 := zcn_le _ 8
        have p2 : pop8 (clS (sC s) k) ≤ 8 := zcn_le _ 8
        refine zv_iload_n (pc' := 21) dX7_clan_20 rfl rfl ?_
        refine zv_iconst (v := nI 1) (pc' := 22) dX7_clan_21 rfl (by decide) ?_
        refine zv_aload_n (pc' := 23) dX7_clan_22 rfl rfl ?_
        refine zv_getIE (pc' := 26) dX7_clan_23 rfl flX7_65 (by first | rfl | assumption) rfl (by first | exact hN | rfl) ?_
        refine zv_ishl (pc' := 27) dX7_clan_26 rfl ?_
        refine zv_top (zsh1 (yN (sC s)) (by omega)) ?_
        refine zv_icmp_ge (pc' := 30) (tgt := 57) dX7_clan_27 rfl rfl (fun hcc => absurd hcc (nI_ge (by omega) (by omega))) (fun _ => ?_)
        refine zv_iload_n (pc' := 31) dX7_clan_30 rfl rfl ?_
        refine zv_cS1_pi (pc' := 34) dX7_clan_31 rfl lkX7_184 (Nat.le_of_ble_eq_true rfl) (x7_bits (by omega)) ?_
        refine zv_iload_n (pc' := 35) dX7_clan_34 rfl rfl ?_
        refine zv_cS1_pi (pc' := 38) dX7_clan_35 rfl lkX7_184 (Nat.le_of_ble_eq_true rfl) (x7_bits hb) ?_
        refine zv_icmp_le (pc' := 41) (tgt := 51) dX7_clan_38 rfl rfl ?_ ?_
        · intro h
          have h := (nI_leI (a := pop8 k) (b := pop8 (clS (sC s) k)) (by omega) (by omega)).mp h
          exact nx (fun z => by omega)
        · intro h
          have h := mt (nI_leI (a := pop8 k) (b := pop8 (clS (sC s) k)) (by omega) (by omega)).mpr h
          refine zv_aload_n (pc' := 42) dX7_clan_41 rfl rfl ?_
          refine zv_iload_n (pc' := 43) dX7_clan_42 rfl rfl ?_
          refine zv_cV1_pi (pc' := 46) dX7_clan_43 rfl lkX7_223 (by first | rfl | assumption) rfl (Nat.le_of_ble_eq_true rfl) (x7_areAllKin (by omega) hI.1 hk.1) ?_
          refine zv_if_eq (pc' := 49) (tgt := 51) dX7_clan_46 rfl rfl ?_ ?_
          · intro h3
            exact nx (fun z => by rw [zb_0.mp h3] at z; exact absurd z.2 (by decide))
          · intro h3
            have := ih (k + 1) (by omega)
            rw [clS, if_pos ⟨by omega, zb_ne.mp h3⟩] at this
            refine zv_iload_n (pc' := 50) dX7_clan_49 rfl rfl ?_
            refine zv_istore_n (pc' := 51) dX7_clan_50 rfl (by decide) ?_
            refine zv_iinc (w := nI 1) (pc' := 54) dX7_clan_51 rfl rfl (by decide) (by decide) ?_
            refine zv_goto (pc' := 20) dX7_clan_54 rfl ?_
            rw [nI_add]
            exact this
    refine zv_iconst (v := nI 0) (pc' := 17) dX7_clan_16 rfl (by decide) ?_
    refine zv_istore_n (pc' := 18) dX7_clan_17 rfl (by decide) ?_
    refine zv_iconst (v := nI 1) (pc' := 19) dX7_clan_18 rfl (by decide) ?_
    refine zv_istore_n (pc' := 20) dX7_clan_19 rfl (by decide) ?_
    have hp : 0 < 2 ^ yN (sC s) := Nat.pow_pos (by decide)
    have := lp (2 ^ yN (sC s) - 1) 1 (by omega)
    rw [show clS (sC s) 1 = 0 from by rw [clS]; split <;> rfl] at this
    exact this
  · intro h
    refine zv_aload_n (pc' := 10) dX7_clan_9 rfl rfl ?_
    refine zv_bipush (v := (-2 : Int32)) (pc' := 12) dX7_clan_10 rfl (by decide) ?_
    refine zv_top (show (-2 : Int32) = -nI 2 by decide) ?_
    refine zv_cV1_fi (pc' := 15) dX7_clan_12 rfl lkX7_89 (by first | rfl | assumption) rfl (Nat.le_of_ble_eq_true rfl) (x7_no (by decide)) ?_
    rintro r M1 ⟨rfl, rfl⟩
    refine zv_iret dX7_clan_15 rfl ?_
    rw [sp_clan, show otN x 1 = 2 by rw [otN, if_neg (by rw [zb_0.mp h]; decide)]]
    exact zrefm hI (by decide)
end
