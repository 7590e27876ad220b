/-! couples: the class -/
def zPm (M : ZMem) (c : ZCty) (v : Nat) : Prop := M 34 3 = nI (yN c) ∧ ∀ j, j < yN c → M 36 j = nI (zm 8 (fun q => decide (q < yN c) && cpB c v j q))
theorem zPm.same {M M' : ZMem} {c : ZCty} {v : Nat} (h : zPm M c v) (h1 : M' 34 = M 34) (h2 : M' 36 = M 36) : zPm M' c v := by
  unfold zPm
  rw [h1, h2]
  exact h
theorem may_in {c : ZCty} {v p R q : Nat} (hq : q < yN c) (hn : yN c ≤ 8) : (zm 8 (fun q => decide (q < yN c) && cpB c v p q) &&& R).testBit q = (cpB c v p q && R.testBit q) := by
  rw [Nat.testBit_and, zm_tb]
  have : q < 8 := by omega
  simp [hq, this]
theorem and_lt31 {a R : Nat} (hR : R < 256) : a &&& R < 2 ^ 31 := by
  have : a &&& R ≤ R := Nat.and_le_right
  omega
section
variable {d : Nat} {M : ZMem} {c : ZCty} {v : Nat}
theorem x3_fitting {p : Nat} (hA : zAt M 1 c) (hk : zOk c) (hv : v ≤ 99) (hp : p < yN c) : ZPi mdX3_fitting (d + 3) [.ref 1, .int (nI p), .int (nI v)] M (nI (zm 8 (fun q => decide (q < yN c) && cpB c v p q))) := by
  have hn8 := hk.1
  have hN := hA.1
  have hM := hA.2.2.2.2.1
  have hm := hk.2.2.2.1
  have lp : ∀ j q, q + j = yN c → ZV mdX3_fitting (d + 3) (fun x M' => x = some (.int (nI (zm 8 (fun q => decide (q < yN c) && cpB c v p q)))) ∧ M' = M) 5 [some (.ref 1), some (.int (nI p)), some (.int (nI v)), some (.int (nI (zm 8 (fun x => decide (x < q) && cpB c v p x)))), some (.int (nI q)), none] [] M := by
    intro j
    induction j with
    | zero =>
      intro q e
      have e : q = yN c := by omega
      subst e
      refine zv_iload (pc' := 7) dX3_fitting_5 rfl rfl ?_
      refine zv_aload_n (pc' := 8) dX3_fitting_7 rfl rfl ?_
      refine zv_getIE (pc' := 11) dX3_fitting_8 rfl flX3_21 (by first | rfl | assumption) rfl (by first | exact hN | rfl) ?_
      refine zv_icmp_ge (pc' := 14) (tgt := 76) dX3_fitting_11 rfl rfl (fun _ => ?_) (fun hcc => absurd (Int32.le_refl _) hcc)
      refine zv_iload_n (pc' := 77) dX3_fitting_76 rfl rfl ?_
      refine zv_iret dX3_fitting_77 rfl ?_
      exact ⟨rfl, rfl⟩
    | succ j ih =>
      intro q e
      have hp9 := hm p
      have hq9 := hm q
      have skip : cpB c v p q = false → ZV mdX3_fitting (d + 3) (fun x M' => x = some (.int (nI (zm 8 (fun q => decide (q < yN c) && cpB c v p q)))) ∧ M' = M) 70 [some (.ref 1), some (.int (nI p)), some (.int (nI v)), some (.int (nI (zm 8 (fun x => decide (x < q) && cpB c v p x)))), some (.int (nI q)), none] [] M := by
        intro hb
        refine zv_iinc (w := nI 1) (pc' := 73) dX3_fitting_70 rfl rfl (by decide) (by decide) ?_
        refine zv_goto (pc' := 5) dX3_fitting_73 rfl ?_
        rw [nI_add]
        refine zv_eq ?_ rfl rfl (ih (q + 1) (by omega))
        have e2 : zm 8 (fun x => decide (x < q) && cpB c v p x) = zm 8 (fun x => decide (x < q + 1) && cpB c v p x) := zm_ext (fun x _ => by
          by_cases z : x = q
          · rw [z, hb]; simp
          · by_cases z2 : x < q
            · have : x < q + 1 := by omega
              simp [z2, this]
            · have : ¬ x < q + 1 := by omega
              simp [z2, this])
        rw [← e2]
        rfl
      have near : ∀ b : Bool, b = decide (dsN (yM c p) (yM c q) ≤ v) → ZV mdX3_fitting (d + 3) (fun x M' => x = some (.int (nI (zm 8 (fun q => decide (q < yN c) && cpB c v p q)))) ∧ M' = M) 40 [some (.ref 1), some (.int (nI p)), some (.int (nI v)), some (.int (nI (zm 8 (fun x => decide (x < q) && cpB c v p x)))), some (.int (nI q)), none] [.int (zb b)] M := by
        intro b hb
        refine zv_istore (pc' := 42) dX3_fitting_40 rfl (by decide) ?_
        refine zv_iload (pc' := 44) dX3_fitting_42 rfl rfl ?_
        refine zv_iload_n (pc' := 45) dX3_fitting_44 rfl rfl ?_
        refine zv_icmp_eq (pc' := 48) (tgt := 70) dX3_fitting_45 rfl rfl ?_ ?_
        · intro h
          have h := (nI_eq (by omega) (by omega)).mp h
          refine zv_fg [5] ?_
          exact skip (by simp [cpB, h])
        · intro h
          have hpq : p ≠ q := fun z => h (by rw [z])
          refine zv_iload (pc' := 50) dX3_fitting_48 rfl rfl ?_
          refine zv_if_eq (pc' := 53) (tgt := 70) dX3_fitting_50 rfl rfl ?_ ?_
          · intro hz
            refine zv_fg [5] ?_
            have hz := zb_0.mp hz
            rw [hb] at hz
            exact skip (by simp only [cpB, hz, Bool.and_false])
          · intro hz
            have hz := zb_ne.mp hz
            rw [hb] at hz
            refine zv_aload_n (pc' := 54) dX3_fitting_53 rfl rfl ?_
            refine zv_iload_n (pc' := 55) dX3_fitting_54 rfl rfl ?_
            refine zv_iload (pc' := 57) dX3_fitting_55 rfl rfl ?_
            refine zv_cV2_pi (pc' := 60) dX3_fitting_57 rfl lkX3_48 (by first | rfl | assumption) rfl (Nat.le_of_ble_eq_true rfl) (x0_atFeud zCy1 hA hn8 hp (by omega) hpq) ?_
            refine zv_if_ne (pc' := 63) (tgt := 70) dX3_fitting_60 rfl rfl ?_ ?_
            · intro hx
              refine zv_fg [5] ?_
              exact skip (by simp only [cpB, zb_ne.mp hx, Bool.not_true, Bool.and_false, Bool.false_and])
            · intro hx
              have hcp : cpB c v p q = true := by simp only [cpB, zb_0.mp hx, hz, Bool.not_false, Bool.and_true]; simpa using hpq
              refine zv_iload_n (pc' := 64) dX3_fitting_63 rfl rfl ?_
              refine zv_iconst (v := nI 1) (pc' := 65) dX3_fitting_64 rfl (by decide) ?_
              refine zv_iload (pc' := 67) dX3_fitting_65 rfl rfl ?_
              refine zv_ishl (pc' := 68) dX3_fitting_67 rfl ?_
              refine zv_top (zsh1 q (by omega)) ?_
              refine zv_ior (pc' := 69) dX3_fitting_68 rfl ?_
              refine zv_top (mk_or1 (by omega)) ?_
              refine zv_istore_n (pc' := 70) dX3_fitting_69 rfl (by decide) ?_
              refine zv_iinc (w := nI 1) (pc' := 73) dX3_fitting_70 rfl rfl (by decide) (by decide) ?_
              refine zv_goto (pc' := 5) dX3_fitting_73 rfl ?_
              rw [nI_add]
              refine zv_fg [5] ?_
              refine zv_eq ?_ rfl rfl (ih (q + 1) (by omega))
              have e2 : zm 8 (fun x => (decide (x < q) && cpB c v p x) || decide (x = q)) = zm 8 (fun x => decide (x < q + 1) && cpB c v p x) := zm_ext (fun x _ => by
                by_cases z : x = q
                · rw [z, hcp]; simp
                · by_cases z2 : x < q
                  · have : x < q + 1 := by omega
                    simp [z2, z, this]
                  · have : ¬ x < q + 1 := by omega
                    simp [z2, z, this])
              rw [← e2]
              rfl
      refine zv_iload (pc' := 7) dX3_fitting_5 rfl rfl ?_
      refine zv_aload_n (pc' := 8) dX3_fitting_7 rfl rfl ?_
      refine zv_getIE (pc' := 11) dX3_fitting_8 rfl flX3_21 (by first | rfl | assumption) rfl (by first | exact hN | exact hM _ (by omega) | rfl) ?_
      refine zv_icmp_ge (pc' := 14) (tgt := 76) dX3_fitting_11 rfl rfl (fun hcc => absurd hcc (nI_ge (by omega) (by omega))) (fun _ => ?_)
      refine zv_aload_n (pc' := 15) dX3_fitting_14 rfl rfl ?_
      refine zv_getR (pc' := 18) dX3_fitting_15 rfl flX3_40 (by first | rfl | assumption) rfl ?_
      refine zv_iload_n (pc' := 19) dX3_fitting_18 rfl rfl ?_
      refine zv_ialoadE (pc' := 20) dX3_fitting_19 rfl (by first | rfl | assumption) (by decide) (by omega) (by first | exact hN | exact hM _ (by omega) | rfl) ?_
      refine zv_aload_n (pc' := 21) dX3_fitting_20 rfl rfl ?_
      refine zv_getR (pc' := 24) dX3_fitting_21 rfl flX3_40 (by first | rfl | assumption) rfl ?_
      refine zv_iload (pc' := 26) dX3_fitting_24 rfl rfl ?_
      refine zv_ialoadE (pc' := 27) dX3_fitting_26 rfl (by first | rfl | assumption) (by decide) (by omega) (by first | exact hN | exact hM _ (by omega) | rfl) ?_
      refine zv_isub (pc' := 28) dX3_fitting_27 rfl ?_
      refine zv_mabs (pc' := 31) dX3_fitting_28 rfl lmX3_43 (Nat.le_of_ble_eq_true rfl) ?_
      refine zv_top (ds_abs (by omega) (by omega)) ?_
      refine zv_iload_n (pc' := 32) dX3_fitting_31 rfl rfl ?_
      have hd : dsN (yM c p) (yM c q) < 2 ^ 31 := by unfold dsN; split <;> omega
      refine zv_icmp_gt (pc' := 35) (tgt := 39) dX3_fitting_32 rfl rfl ?_ ?_
      · intro h
        have h := (nI_ltI (by omega) hd).mp h
        refine zv_iconst (v := nI 0) (pc' := 40) dX3_fitting_39 rfl (by decide) ?_
        exact near false (by simp; omega)
      · intro h
        have h := mt (nI_ltI (a := v) (b := dsN (yM c p) (yM c q)) (by omega) hd).mpr h
        refine zv_iconst (v := nI 1) (pc' := 36) dX3_fitting_35 rfl (by decide) ?_
        refine zv_goto (pc' := 40) dX3_fitting_36 rfl ?_
        exact near true (by simp; omega)
  refine zex_intro (L := [some (.ref 1), some (.int (nI p)), some (.int (nI v)), none, none, none]) (by decide) (Nat.le_of_ble_eq_true rfl) rfl ?_
  refine zv_iconst (v := nI 0) (pc' := 1) dX3_fitting_0 rfl (by decide) ?_
  refine zv_istore_n (pc' := 2) dX3_fitting_1 rfl (by decide) ?_
  refine zv_iconst (v := nI 0) (pc' := 3) dX3_fitting_2 rfl (by decide) ?_
  refine zv_istore (pc' := 5) dX3_fitting_3 rfl (by decide) ?_
  refine zv_eq ?_ rfl rfl (lp (yN c) 0 (by omega))
  rw [zm_0.mpr (fun j _ => by simp)]
  rfl
theorem x3_leastIn {S : Nat} (hN : M 34 3 = nI (yN c)) (hn8 : yN c ≤ 8) (h0 : 0 < S) (hS : S < 2 ^ yN c) : ZPi mdX3_leastIn (d + 1) [.ref 34, .int (nI S)] M (nI (lw S)) := by
  have h256 := p2_le hn8
  obtain ⟨l1, l2, l3⟩ := lw_of h0 (by omega)
  have l4 := lw_n h0 (by omega) hS
  have lp : ∀ j r, r + j = lw S → ZV mdX3_leastIn (d + 1) (fun x M' => x = some (.int (nI (lw S))) ∧ M' = M) 2 [some (.ref 34), some (.int (nI S)), some (.int (nI r))] [] M := by
    intro j
    induction j with
    | zero =>
      intro r e
      have e : r = lw S := by omega
      subst e
      refine zv_iload_n (pc' := 3) dX3_leastIn_2 rfl rfl ?_
      refine zv_aload_n (pc' := 4) dX3_leastIn_3 rfl rfl ?_
      refine zv_getIE (pc' := 7) dX3_leastIn_4 rfl flX3_27 (by first | rfl | assumption) rfl (by first | exact hN | rfl) ?_
      refine zv_iconst (v := nI 1) (pc' := 8) dX3_leastIn_7 rfl (by decide) ?_
      refine zv_isub (pc' := 9) dX3_leastIn_8 rfl ?_
      refine zv_top (pk_sub (by omega)) ?_
      refine zv_icmp_ge (pc' := 12) (tgt := 26) dX3_leastIn_9 rfl rfl ?_ ?_
      · intro _
        refine zv_iload_n (pc' := 27) dX3_leastIn_26 rfl rfl ?_
        refine zv_iret dX3_leastIn_27 rfl ?_
        exact ⟨rfl, rfl⟩
      · intro _
        refine zv_iload_n (pc' := 13) dX3_leastIn_12 rfl rfl ?_
        refine zv_iload_n (pc' := 14) dX3_leastIn_13 rfl rfl ?_
        refine zv_cS2_pi (pc' := 17) dX3_leastIn_14 rfl lkX3_55 (Nat.le_of_ble_eq_true rfl) (x6_isIn (by omega) (by omega)) ?_
        refine zv_if_ne (pc' := 20) (tgt := 26) dX3_leastIn_17 rfl rfl (fun _ => ?_) (fun hcc => absurd hcc (zb_ne.mpr l1))
        refine zv_iload_n (pc' := 27) dX3_leastIn_26 rfl rfl ?_
        refine zv_iret dX3_leastIn_27 rfl ?_
        exact ⟨rfl, rfl⟩
    | succ j ih =>
      intro r e
      refine zv_iload_n (pc' := 3) dX3_leastIn_2 rfl rfl ?_
      refine zv_aload_n (pc' := 4) dX3_leastIn_3 rfl rfl ?_
      refine zv_getIE (pc' := 7) dX3_leastIn_4 rfl flX3_27 (by first | rfl | assumption) rfl (by first | exact hN | rfl) ?_
      refine zv_iconst (v := nI 1) (pc' := 8) dX3_leastIn_7 rfl (by decide) ?_
      refine zv_isub (pc' := 9) dX3_leastIn_8 rfl ?_
      refine zv_top (pk_sub (by omega)) ?_
      refine zv_icmp_ge (pc' := 12) (tgt := 26) dX3_leastIn_9 rfl rfl (fun hcc => absurd hcc (nI_ge (by omega) (by omega))) (fun _ => ?_)
      refine zv_iload_n (pc' := 13) dX3_leastIn_12 rfl rfl ?_
      refine zv_iload_n (pc' := 14) dX3_leastIn_13 rfl rfl ?_
      refine zv_cS2_pi (pc' := 17) dX3_leastIn_14 rfl lkX3_55 (Nat.le_of_ble_eq_true rfl) (x6_isIn (by omega) (by omega)) ?_
      refine zv_if_ne (pc' := 20) (tgt := 26) dX3_leastIn_17 rfl rfl (fun hcc => absurd (zb_0.mpr (l3 r (by omega))) hcc) (fun _ => ?_)
      refine zv_iinc (w := nI 1) (pc' := 23) dX3_leastIn_20 rfl rfl (by decide) (by decide) ?_
      refine zv_goto (pc' := 2) dX3_leastIn_23 rfl ?_
      rw [nI_add]
      exact ih (r + 1) (by omega)
  refine zex_intro (L := [some (.ref 34), some (.int (nI S)), none]) (by decide) (Nat.le_of_ble_eq_true rfl) rfl ?_
  refine zv_iconst (v := nI 0) (pc' := 1) dX3_leastIn_0 rfl (by decide) ?_
  refine zv_istore_n (pc' := 2) dX3_leastIn_1 rfl (by decide) ?_
  exact lp (lw S) 0 (by omega)
theorem x3_mostOf {S : Nat} {T : Nat → Nat} (hP : zPm M c v) (hn8 : yN c ≤ 8) (h0 : 0 < S) (hS : S < 2 ^ yN c) (hT : ∀ R, R < S → M 35 R = nI (T R)) (hTl : ∀ R, T R ≤ R) : ZPi mdX3_mostOf (d + 2) [.ref 34, .int (nI S)] M (nI (cpS c v T S)) := by
  have h256 := p2_le hn8
  obtain ⟨l1, l2, l3⟩ := lw_of h0 (by omega)
  have l4 := lw_n h0 (by omega) hS
  have hR0 := bc_down (by omega) l1
  have hbit : ∀ j, (bc S (lw S)).testBit j = true → lw S < j := by
    intro j hj
    rw [bc_tb (by omega)] at hj
    simp at hj
    rcases Nat.lt_or_ge (lw S) j with z | z
    · exact z
    · have := l3 j (by omega)
      rw [hj.1] at this
      cases this
  have hN := hP.1
  have hY := hP.2
  have hcS : cpS c v T S = cpM c v T (lw S) (bc S (lw S)) (yN c) := rfl
  rw [hcS]
  have st : cpM c v T (lw S) (bc S (lw S)) (lw S + 1) = T (bc S (lw S)) := by
    have : ∀ q, q ≤ lw S + 1 → cpM c v T (lw S) (bc S (lw S)) q = T (bc S (lw S)) := by
      intro q
      induction q with
      | zero => intro _; rfl
      | succ q ih =>
        intro hq
        rw [cpM, if_neg (fun z => by have := hbit q z.1; omega)]
        exact ih (by omega)
    exact this _ (Nat.le_refl _)
  have hcl : ∀ q, cpM c v T (lw S) (bc S (lw S)) q ≤ S := cpM_le hTl bc_lt hR0
  generalize hp' : lw S = p at hR0 l1 l2 l4 hbit st hcl ⊢
  generalize hR' : bc S p = R at hR0 hbit st hcl ⊢
  have lp : ∀ j q, q + j = yN c → p < q → ZV mdX3_mostOf (d + 2) (fun x M' => x = some (.int (nI (cpM c v T p R (yN c)))) ∧ M' = M) 27 [some (.ref 34), some (.int (nI S)), some (.int (nI p)), some (.int (nI R)), some (.int (nI (cpM c v T p R q))), some (.int (nI q))] [] M := by
    intro j
    induction j with
    | zero =>
      intro q e hpq
      have e : q = yN c := by omega
      subst e
      refine zv_iload (pc' := 29) dX3_mostOf_27 rfl rfl ?_
      refine zv_aload_n (pc' := 30) dX3_mostOf_29 rfl rfl ?_
      refine zv_getIE (pc' := 33) dX3_mostOf_30 rfl flX3_27 (by first | rfl | assumption) rfl (by first | exact hN | rfl) ?_
      refine zv_icmp_ge (pc' := 36) (tgt := 80) dX3_mostOf_33 rfl rfl (fun _ => ?_) (fun hcc => absurd (Int32.le_refl _) hcc)
      refine zv_iload (pc' := 82) dX3_mostOf_80 rfl rfl ?_
      refine zv_iret dX3_mostOf_82 rfl ?_
      exact ⟨rfl, rfl⟩
    | succ j ih =>
      intro q e hpq
      have hb := bc_le (p := q) (show R < 256 by omega)
      have hl := hcl q
      have hl2 := hTl (bc R q)
      have ihq := ih (q + 1) (by omega) (by omega)
      rw [cpM] at ihq
      refine zv_iload (pc' := 29) dX3_mostOf_27 rfl rfl ?_
      refine zv_aload_n (pc' := 30) dX3_mostOf_29 rfl rfl ?_
      refine zv_getIE (pc' := 33) dX3_mostOf_30 rfl flX3_27 (by first | rfl | assumption) rfl (by first | exact hN | exact hY _ (by omega) | exact hT _ (by omega) | rfl) ?_
      refine zv_icmp_ge (pc' := 36) (tgt := 80) dX3_mostOf_33 rfl rfl (fun hcc => absurd hcc (nI_ge (by omega) (by omega))) (fun _ => ?_)
      refine zv_aload_n (pc' := 37) dX3_mostOf_36 rfl rfl ?_
      refine zv_getR (pc' := 40) dX3_mostOf_37 rfl flX3_15 (by first | rfl | assumption) rfl ?_
      refine zv_iload_n (pc' := 41) dX3_mostOf_40 rfl rfl ?_
      refine zv_ialoadE (pc' := 42) dX3_mostOf_41 rfl (by first | rfl | assumption) (by decide) (by omega) (by first | exact hN | exact hY _ (by omega) | exact hT _ (by omega) | rfl) ?_
      refine zv_iload_n (pc' := 43) dX3_mostOf_42 rfl rfl ?_
      refine zv_iand (pc' := 44) dX3_mostOf_43 rfl ?_
      refine zv_top (nx_and _ _) ?_
      refine zv_iload (pc' := 46) dX3_mostOf_44 rfl rfl ?_
      refine zv_cS2_pi (pc' := 49) dX3_mostOf_46 rfl lkX3_55 (Nat.le_of_ble_eq_true rfl) (x6_isIn (and_lt31 (by omega)) (by omega)) ?_
      rw [may_in (by omega) hn8]
      refine zv_if_eq (pc' := 52) (tgt := 74) dX3_mostOf_49 rfl rfl ?_ ?_
      · intro h
        have h := zb_0.mp h
        rw [if_neg (fun z => by rw [z.1, z.2] at h; cases h)] at ihq
        refine zv_iinc (w := nI 1) (pc' := 77) dX3_mostOf_74 rfl rfl (by decide) (by decide) ?_
        refine zv_goto (pc' := 27) dX3_mostOf_77 rfl ?_
        rw [nI_add]
        exact ihq
      · intro h
        have h := zb_ne.mp h
        simp only [Bool.and_eq_true] at h
        rw [if_pos ⟨h.2, h.1⟩] at ihq
        refine zv_iload (pc' := 54) dX3_mostOf_52 rfl rfl ?_
        refine zv_iconst (v := nI 1) (pc' := 55) dX3_mostOf_54 rfl (by decide) ?_
        refine zv_aload_n (pc' := 56) dX3_mostOf_55 rfl rfl ?_
        refine zv_getR (pc' := 59) dX3_mostOf_56 rfl flX3_9 (by first | rfl | assumption) rfl ?_
        refine zv_iload_n (pc' := 60) dX3_mostOf_59 rfl rfl ?_
        refine zv_iconst (v := nI 1) (pc' := 61) dX3_mostOf_60 rfl (by decide) ?_
        refine zv_iload (pc' := 63) dX3_mostOf_61 rfl rfl ?_
        refine zv_ishl (pc' := 64) dX3_mostOf_63 rfl ?_
        refine zv_top (zsh1 q (by omega)) ?_
        refine zv_iconst (v := (-1 : Int32)) (pc' := 65) dX3_mostOf_64 rfl (by decide) ?_
        refine zv_ixor (pc' := 66) dX3_mostOf_65 rfl ?_
        refine zv_iand (pc' := 67) dX3_mostOf_66 rfl ?_
        refine zv_top (bc_nI (by omega)) ?_
        refine zv_ialoadE (pc' := 68) dX3_mostOf_67 rfl (by first | rfl | assumption) (by decide) (by omega) (by first | exact hN | exact hY _ (by omega) | exact hT _ (by omega) | rfl) ?_
        refine zv_iadd (pc' := 69) dX3_mostOf_68 rfl ?_
        refine zv_top (nI_add _ _) ?_
        refine zv_mmax (pc' := 72) dX3_mostOf_69 rfl lmX3_58 (Nat.le_of_ble_eq_true rfl) ?_
        refine zv_top (max_nI (by omega) (by omega)) ?_
        refine zv_istore (pc' := 74) dX3_mostOf_72 rfl (by decide) ?_
        refine zv_iinc (w := nI 1) (pc' := 77) dX3_mostOf_74 rfl rfl (by decide) (by decide) ?_
        refine zv_goto (pc' := 27) dX3_mostOf_77 rfl ?_
        rw [nI_add]
        exact ihq
  refine zex_intro (L := [some (.ref 34), some (.int (nI S)), none, none, none, none]) (by decide) (Nat.le_of_ble_eq_true rfl) rfl ?_
  refine zv_aload_n (pc' := 1) dX3_mostOf_0 rfl rfl ?_
  refine zv_iload_n (pc' := 2) dX3_mostOf_1 rfl rfl ?_
  refine zv_cV1_pi (pc' := 5) dX3_mostOf_2 rfl lkX3_52 (by first | rfl | assumption) rfl (Nat.le_of_ble_eq_true rfl) (x3_leastIn hN hn8 h0 hS) ?_
  rw [hp']
  refine zv_istore_n (pc' := 6) dX3_mostOf_5 rfl (by decide) ?_
  refine zv_iload_n (pc' := 7) dX3_mostOf_6 rfl rfl ?_
  refine zv_iconst (v := nI 1) (pc' := 8) dX3_mostOf_7 rfl (by decide) ?_
  refine zv_iload_n (pc' := 9) dX3_mostOf_8 rfl rfl ?_
  refine zv_ishl (pc' := 10) dX3_mostOf_9 rfl ?_
  refine zv_top (zsh1 p (by omega)) ?_
  refine zv_iconst (v := (-1 : Int32)) (pc' := 11) dX3_mostOf_10 rfl (by decide) ?_
  refine zv_ixor (pc' := 12) dX3_mostOf_11 rfl ?_
  refine zv_iand (pc' := 13) dX3_mostOf_12 rfl ?_
  refine zv_top (bc_nI (by omega)) ?_
  rw [hR']
  refine zv_istore_n (pc' := 14) dX3_mostOf_13 rfl (by decide) ?_
  refine zv_aload_n (pc' := 15) dX3_mostOf_14 rfl rfl ?_
  refine zv_getR (pc' := 18) dX3_mostOf_15 rfl flX3_9 (by first | rfl | assumption) rfl ?_
  refine zv_iload_n (pc' := 19) dX3_mostOf_18 rfl rfl ?_
  refine zv_ialoadE (pc' := 20) dX3_mostOf_19 rfl (by first | rfl | assumption) (by decide) (by omega) (by first | exact hT _ (by omega) | rfl) ?_
  refine zv_istore (pc' := 22) dX3_mostOf_20 rfl (by decide) ?_
  refine zv_iload_n (pc' := 23) dX3_mostOf_22 rfl rfl ?_
  refine zv_iconst (v := nI 1) (pc' := 24) dX3_mostOf_23 rfl (by decide) ?_
  refine zv_iadd (pc' := 25) dX3_mostOf_24 rfl ?_
  refine zv_top (nI_add _ _) ?_
  refine zv_istore (pc' := 27) dX3_mostOf_25 rfl (by decide) ?_
  rw [← st]
  exact lp (yN c - (p + 1)) (p + 1) (by omega) (by omega)
theorem x3_leastPartner {F k : Nat} {T : Nat → Nat} (hP : zPm M c v) (hn8 : yN c ≤ 8) (hF : F < 2 ^ yN c) (hk : k < yN c) (hlow : ∀ j, j < k → F.testBit j = false) (hT : ∀ R, R < 2 ^ yN c → M 35 R = nI (T R)) (hTl : ∀ R, T R ≤ R) : ZPi mdX3_leastPartner (d + 1) [.ref 34, .int (nI k), .int (nI F)] M (optI (cpP c v T F k)) := by
  have h256 := p2_le hn8
  have hN := hP.1
  have hY := hP.2
  have hR0 := bc_le (p := k) (show F < 256 by omega)
  have hFl := hTl F
  have st : cpP c v T F k = zfst (yN c - (k + 1)) (k + 1) (fun q => (bc F k).testBit q && cpB c v k q && decide (1 + T (bc (bc F k) q) = T F)) := by
    rw [cpP]
    have : ∀ j, j ≤ k + 1 → zfst (yN c) 0 (fun q => (bc F k).testBit q && cpB c v k q && decide (1 + T (bc (bc F k) q) = T F)) = zfst (yN c - j) j (fun q => (bc F k).testBit q && cpB c v k q && decide (1 + T (bc (bc F k) q) = T F)) := by
      intro j
      induction j with
      | zero => intro _; rfl
      | succ j ih =>
        intro hj
        rw [ih (by omega), show yN c - j = (yN c - (j + 1)) + 1 by omega, zfst, if_neg]
        intro z
        simp only [Bool.and_eq_true] at z
        have z := z.1.1
        rw [bc_tb (by omega)] at z
        simp at z
        have := hlow j (by omega)
        rw [z.1] at this
        cases this
    exact this _ (Nat.le_refl _)
  rw [st]
  generalize hR' : bc F k = R at hR0 ⊢
  have lp : ∀ j q, q + j = yN c → k < q → ZV mdX3_leastPartner (d + 1) (fun x M' => x = some (.int (optI (zfst (yN c - (k + 1)) (k + 1) (fun q => R.testBit q && cpB c v k q && decide (1 + T (bc R q) = T F))))) ∧ M' = M) 13 [some (.ref 34), some (.int (nI k)), some (.int (nI F)), some (.int (nI R)), some (.int (nI q))] [] M ∨ zfst (yN c - (k + 1)) (k + 1) (fun q => R.testBit q && cpB c v k q && decide (1 + T (bc R q) = T F)) ≠ zfst j q (fun q => R.testBit q && cpB c v k q && decide (1 + T (bc R q) = T F)) := by
    intro j
    induction j with
    | zero =>
      intro q e hkq
      have e : q = yN c := by omega
      subst e
      by_cases hz : zfst (yN c - (k + 1)) (k + 1) (fun q => R.testBit q && cpB c v k q && decide (1 + T (bc R q) = T F)) = zfst 0 (yN c) (fun q => R.testBit q && cpB c v k q && decide (1 + T (bc R q) = T F))
      · refine Or.inl ?_
        rw [hz]
        refine zv_iload (pc' := 15) dX3_leastPartner_13 rfl rfl ?_
        refine zv_aload_n (pc' := 16) dX3_leastPartner_15 rfl rfl ?_
        refine zv_getIE (pc' := 19) dX3_leastPartner_16 rfl flX3_27 (by first | rfl | assumption) rfl (by first | exact hN | rfl) ?_
        refine zv_icmp_ge (pc' := 22) (tgt := 71) dX3_leastPartner_19 rfl rfl (fun _ => ?_) (fun hcc => absurd (Int32.le_refl _) hcc)
        refine zv_bipush (v := (-9 : Int32)) (pc' := 73) dX3_leastPartner_71 rfl (by decide) ?_
        refine zv_iret dX3_leastPartner_73 rfl ?_
        exact ⟨rfl, rfl⟩
      · exact Or.inr hz
    | succ j ih =>
      intro q e hkq
      by_cases hz : zfst (yN c - (k + 1)) (k + 1) (fun q => R.testBit q && cpB c v k q && decide (1 + T (bc R q) = T F)) = zfst (j + 1) q (fun q => R.testBit q && cpB c v k q && decide (1 + T (bc R q) = T F))
      · refine Or.inl ?_
        have hz' := hz
        rw [zfst] at hz
        have hb := bc_le (p := q) (show R < 256 by omega)
        have hl2 := hTl (bc R q)
        have go : (R.testBit q && cpB c v k q && decide (1 + T (bc R q) = T F)) = false → ZV mdX3_leastPartner (d + 1) (fun x M' => x = some (.int (optI (zfst (yN c - (k + 1)) (k + 1) (fun q => R.testBit q && cpB c v k q && decide (1 + T (bc R q) = T F))))) ∧ M' = M) 65 [some (.ref 34), some (.int (nI k)), some (.int (nI F)), some (.int (nI R)), some (.int (nI q))] [] M := by
          intro hf
          rw [if_neg (by rw [hf]; decide)] at hz
          refine zv_iinc (w := nI 1) (pc' := 68) dX3_leastPartner_65 rfl rfl (by decide) (by decide) ?_
          refine zv_goto (pc' := 13) dX3_leastPartner_68 rfl ?_
          rw [nI_add]
          rcases ih (q + 1) (by omega) (by omega) with h | h
          · exact h
          · exact absurd hz h
        refine zv_iload (pc' := 15) dX3_leastPartner_13 rfl rfl ?_
        refine zv_aload_n (pc' := 16) dX3_leastPartner_15 rfl rfl ?_
        refine zv_getIE (pc' := 19) dX3_leastPartner_16 rfl flX3_27 (by first | rfl | assumption) rfl (by first | exact hN | exact hY _ (by omega) | exact hT _ (by omega) | rfl) ?_
        refine zv_icmp_ge (pc' := 22) (tgt := 71) dX3_leastPartner_19 rfl rfl (fun hcc => absurd hcc (nI_ge (by omega) (by omega))) (fun _ => ?_)
        refine zv_aload_n (pc' := 23) dX3_leastPartner_22 rfl rfl ?_
        refine zv_getR (pc' := 26) dX3_leastPartner_23 rfl flX3_15 (by first | rfl | assumption) rfl ?_
        refine zv_iload_n (pc' := 27) dX3_leastPartner_26 rfl rfl ?_
        refine zv_ialoadE (pc' := 28) dX3_leastPartner_27 rfl (by first | rfl | assumption) (by decide) (by omega) (by first | exact hN | exact hY _ (by omega) | exact hT _ (by omega) | rfl) ?_
        refine zv_iload_n (pc' := 29) dX3_leastPartner_28 rfl rfl ?_
        refine zv_iand (pc' := 30) dX3_leastPartner_29 rfl ?_
        refine zv_top (nx_and _ _) ?_
        refine zv_iload (pc' := 32) dX3_leastPartner_30 rfl rfl ?_
        refine zv_cS2_pi (pc' := 35) dX3_leastPartner_32 rfl lkX3_55 (Nat.le_of_ble_eq_true rfl) (x6_isIn (and_lt31 (by omega)) (by omega)) ?_
        rw [may_in (by omega) hn8]
        refine zv_if_eq (pc' := 38) (tgt := 65) dX3_leastPartner_35 rfl rfl ?_ ?_
        · intro h
          have h := zb_0.mp h
          exact go (by rw [Bool.and_comm (R.testBit q), h]; rfl)
        · intro h
          have h := zb_ne.mp h
          refine zv_iconst (v := nI 1) (pc' := 39) dX3_leastPartner_38 rfl (by decide) ?_
          refine zv_aload_n (pc' := 40) dX3_leastPartner_39 rfl rfl ?_
          refine zv_getR (pc' := 43) dX3_leastPartner_40 rfl flX3_9 (by first | rfl | assumption) rfl ?_
          refine zv_iload_n (pc' := 44) dX3_leastPartner_43 rfl rfl ?_
          refine zv_iconst (v := nI 1) (pc' := 45) dX3_leastPartner_44 rfl (by decide) ?_
          refine zv_iload (pc' := 47) dX3_leastPartner_45 rfl rfl ?_
          refine zv_ishl (pc' := 48) dX3_leastPartner_47 rfl ?_
          refine zv_top (zsh1 q (by omega)) ?_
          refine zv_iconst (v := (-1 : Int32)) (pc' := 49) dX3_leastPartner_48 rfl (by decide) ?_
          refine zv_ixor (pc' := 50) dX3_leastPartner_49 rfl ?_
          refine zv_iand (pc' := 51) dX3_leastPartner_50 rfl ?_
          refine zv_top (bc_nI (by omega)) ?_
          refine zv_ialoadE (pc' := 52) dX3_leastPartner_51 rfl (by first | rfl | assumption) (by decide) (by omega) (by first | exact hN | exact hY _ (by omega) | exact hT _ (by omega) | rfl) ?_
          refine zv_iadd (pc' := 53) dX3_leastPartner_52 rfl ?_
          refine zv_top (nI_add _ _) ?_
          refine zv_aload_n (pc' := 54) dX3_leastPartner_53 rfl rfl ?_
          refine zv_getR (pc' := 57) dX3_leastPartner_54 rfl flX3_9 (by first | rfl | assumption) rfl ?_
          refine zv_iload_n (pc' := 58) dX3_leastPartner_57 rfl rfl ?_
          refine zv_ialoadE (pc' := 59) dX3_leastPartner_58 rfl (by first | rfl | assumption) (by decide) (by omega) (by first | exact hN | exact hY _ (by omega) | exact hT _ (by omega) | rfl) ?_
          refine zv_icmp_ne (pc' := 62) (tgt := 65) dX3_leastPartner_59 rfl rfl ?_ ?_
          · intro hne
            exact go (by
              have : ¬ 1 + T (bc R q) = T F := fun z => hne (by rw [z])
              simp [this])
          · intro heq
            have heq := (nI_eq (by omega) (by omega)).mp heq
            rw [if_pos (by rw [Bool.and_comm (R.testBit q), h]; simpa using heq)] at hz
            rw [hz]
            refine zv_iload (pc' := 64) dX3_leastPartner_62 rfl rfl ?_
            refine zv_iret dX3_leastPartner_64 rfl ?_
            exact ⟨rfl, rfl⟩
      · exact Or.inr hz
  refine zex_intro (L := [some (.ref 34), some (.int (nI k)), some (.int (nI F)), none, none]) (by decide) (Nat.le_of_ble_eq_true rfl) rfl ?_
  refine zv_iload_n (pc' := 1) dX3_leastPartner_0 rfl rfl ?_
  refine zv_iconst (v := nI 1) (pc' := 2) dX3_leastPartner_1 rfl (by decide) ?_
  refine zv_iload_n (pc' := 3) dX3_leastPartner_2 rfl rfl ?_
  refine zv_ishl (pc' := 4) dX3_leastPartner_3 rfl ?_
  refine zv_top (zsh1 k (by omega)) ?_
  refine zv_iconst (v := (-1 : Int32)) (pc' := 5) dX3_leastPartner_4 rfl (by decide) ?_
  refine zv_ixor (pc' := 6) dX3_leastPartner_5 rfl ?_
  refine zv_iand (pc' := 7) dX3_leastPartner_6 rfl ?_
  refine zv_top (bc_nI (by omega)) ?_
  rw [hR']
  refine zv_istore_n (pc' := 8) dX3_leastPartner_7 rfl (by decide) ?_
  refine zv_iload_n (pc' := 9) dX3_leastPartner_8 rfl rfl ?_
  refine zv_iconst (v := nI 1) (pc' := 10) dX3_leastPartner_9 rfl (by decide) ?_
  refine zv_iadd (pc' := 11) dX3_leastPartner_10 rfl ?_
  refine zv_top (nI_add _ _) ?_
  refine zv_istore (pc' := 13) dX3_leastPartner_11 rfl (by decide) ?_
  rcases lp (yN c - (k + 1)) (k + 1) (by omega) (by omega) with h | h
  · exact h
  · exact absurd rfl h
end
