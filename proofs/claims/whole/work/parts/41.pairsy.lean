/-! couples: the class's choice and the call -/
section
variable {d : Nat} {M : ZMem} {c : ZCty} {v : Nat}
theorem x3_choose {T : Nat → Nat} (hP : zPm M c v) (hn8 : yN c ≤ 8) (hT : ∀ R, R < 2 ^ yN c → M 35 R = nI (T R)) (hTl : ∀ R, T R ≤ R) : ZFv mdX3_choose (d + 2) [.ref 34, .int (nI (2 ^ yN c - 1))] M (fun M' => (∀ x, x < 8 → M' 37 x = optI ((chS c v T (2 ^ yN c - 1) (yN c)).2 x)) ∧ ∀ k, k ≠ 37 → M' k = M k) := by
  have h256 := p2_le hn8
  have hp1 : 0 < 2 ^ yN c := Nat.pow_pos (by decide)
  have lp : ∀ j k M1, k + j = yN c → (∀ x, x < 8 → M1 37 x = optI ((chS c v T (2 ^ yN c - 1) k).2 x)) → (∀ i, i ≠ 37 → M1 i = M i) → ZV mdX3_choose (d + 2) (fun x M' => x = none ∧ ((∀ x, x < 8 → M' 37 x = optI ((chS c v T (2 ^ yN c - 1) (yN c)).2 x)) ∧ ∀ k, k ≠ 37 → M' k = M k)) 13 [some (.ref 34), some (.int (nI (2 ^ yN c - 1))), some (.int (nI (chS c v T (2 ^ yN c - 1) k).1)), some (.int (nI k)), none] [] M1 := by
    intro j
    induction j with
    | zero =>
      intro k M1 e hp hs
      have e : k = yN c := by omega
      subst e
      have hN1 := (hP.same (hs 34 (by decide)) (hs 36 (by decide))).1
      refine zv_iload_n (pc' := 14) dX3_choose_13 rfl rfl ?_
      refine zv_aload_n (pc' := 15) dX3_choose_14 rfl rfl ?_
      refine zv_getIE (pc' := 18) dX3_choose_15 rfl flX3_27 (by first | rfl | assumption) rfl (by first | exact hN1 | rfl) ?_
      refine zv_icmp_ge (pc' := 21) (tgt := 90) dX3_choose_18 rfl rfl (fun _ => ?_) (fun hcc => absurd (Int32.le_refl _) hcc)
      refine zv_vret dX3_choose_90 rfl ?_
      exact ⟨rfl, hp, hs⟩
    | succ j ih =>
      intro k M1 e hp hs
      have hP1 := hP.same (hs 34 (by decide)) (hs 36 (by decide))
      have hN1 := hP1.1
      obtain ⟨f1, f2, f3⟩ := chS_ok (c := c) (v := v) (T := T) (F := 2 ^ yN c - 1) (by omega) k
      have ihk := ih (k + 1)
      have hF : (chS c v T (2 ^ yN c - 1) k).1 < 256 := by omega
      refine zv_iload_n (pc' := 14) dX3_choose_13 rfl rfl ?_
      refine zv_aload_n (pc' := 15) dX3_choose_14 rfl rfl ?_
      refine zv_getIE (pc' := 18) dX3_choose_15 rfl flX3_27 (by first | rfl | assumption) rfl (by first | exact hN1 | rfl) ?_
      refine zv_icmp_ge (pc' := 21) (tgt := 90) dX3_choose_18 rfl rfl (fun hcc => absurd hcc (nI_ge (by omega) (by omega))) (fun _ => ?_)
      refine zv_iload_n (pc' := 22) dX3_choose_21 rfl rfl ?_
      refine zv_iload_n (pc' := 23) dX3_choose_22 rfl rfl ?_
      refine zv_cS2_pi (pc' := 26) dX3_choose_23 rfl lkX3_55 (Nat.le_of_ble_eq_true rfl) (x6_isIn (by omega) (by omega)) ?_
      refine zv_if_eq (pc' := 29) (tgt := 84) dX3_choose_26 rfl rfl ?_ ?_
      · intro h
        have h := zb_0.mp h
        have e1 : chS c v T (2 ^ yN c - 1) (k + 1) = chS c v T (2 ^ yN c - 1) k := by rw [chS, chF, if_neg (by rw [h]; decide)]
        rw [e1] at ihk
        refine zv_iinc (w := nI 1) (pc' := 87) dX3_choose_84 rfl rfl (by decide) (by decide) ?_
        refine zv_goto (pc' := 13) dX3_choose_87 rfl ?_
        rw [nI_add]
        exact ihk M1 (by omega) hp hs
      · intro h
        have h := zb_ne.mp h
        refine zv_aload_n (pc' := 30) dX3_choose_29 rfl rfl ?_
        refine zv_iload_n (pc' := 31) dX3_choose_30 rfl rfl ?_
        refine zv_iload_n (pc' := 32) dX3_choose_31 rfl rfl ?_
        refine zv_cV2_pi (pc' := 35) dX3_choose_32 rfl lkX3_68 (by first | rfl | assumption) rfl (Nat.le_of_ble_eq_true rfl) (x3_leastPartner hP1 hn8 (by omega) (by omega) f2 (by rw [hs 35 (by decide)]; exact hT) hTl) ?_
        refine zv_istore (pc' := 37) dX3_choose_35 rfl (by decide) ?_
        refine zv_iload_n (pc' := 38) dX3_choose_37 rfl rfl ?_
        refine zv_iconst (v := nI 1) (pc' := 39) dX3_choose_38 rfl (by decide) ?_
        refine zv_iload_n (pc' := 40) dX3_choose_39 rfl rfl ?_
        refine zv_ishl (pc' := 41) dX3_choose_40 rfl ?_
        refine zv_top (zsh1 k (by omega)) ?_
        refine zv_iconst (v := (-1 : Int32)) (pc' := 42) dX3_choose_41 rfl (by decide) ?_
        refine zv_ixor (pc' := 43) dX3_choose_42 rfl ?_
        refine zv_iand (pc' := 44) dX3_choose_43 rfl ?_
        refine zv_top (bc_nI hF) ?_
        refine zv_istore_n (pc' := 45) dX3_choose_44 rfl (by decide) ?_
        refine zv_iload (pc' := 47) dX3_choose_45 rfl rfl ?_
        cases e2 : cpP c v T (chS c v T (2 ^ yN c - 1) k).1 k with
        | none =>
          have e1 : chS c v T (2 ^ yN c - 1) (k + 1) = (bc (chS c v T (2 ^ yN c - 1) k).1 k, (chS c v T (2 ^ yN c - 1) k).2) := by rw [chS, chF, if_pos h, e2]
          rw [e1] at ihk
          refine zv_if_lt (pc' := 50) (tgt := 84) dX3_choose_47 rfl rfl (fun _ => ?_) (fun hcc => absurd ((show (-9 : Int32) < 0 by decide)) hcc)
          refine zv_iinc (w := nI 1) (pc' := 87) dX3_choose_84 rfl rfl (by decide) (by decide) ?_
          refine zv_goto (pc' := 13) dX3_choose_87 rfl ?_
          rw [nI_add]
          refine zv_fg [4] ?_
          exact ihk M1 (by omega) hp hs
        | some o =>
          have ho := (cpP_of e2).1
          have e1 : chS c v T (2 ^ yN c - 1) (k + 1) = (bc (bc (chS c v T (2 ^ yN c - 1) k).1 k) o, fu (fu (chS c v T (2 ^ yN c - 1) k).2 k (some o)) o (some k)) := by rw [chS, chF, if_pos h, e2]
          rw [e1] at ihk
          refine zv_eq (L2 := [some (.ref 34), some (.int (nI (2 ^ yN c - 1))), some (.int (nI (bc (chS c v T (2 ^ yN c - 1) k).1 k))), some (.int (nI k)), some (.int (nI o))]) rfl (st2 := [.int (nI o)]) rfl rfl ?_
          refine zv_if_lt (pc' := 50) (tgt := 84) dX3_choose_47 rfl rfl (fun hcc => absurd hcc (nI_pos (by omega))) (fun _ => ?_)
          refine zv_iload (pc' := 52) dX3_choose_50 rfl rfl ?_
          refine zv_aload_n (pc' := 53) dX3_choose_52 rfl rfl ?_
          refine zv_getIE (pc' := 56) dX3_choose_53 rfl flX3_27 (by first | rfl | assumption) rfl (by first | exact hN1 | rfl) ?_
          refine zv_icmp_ge (pc' := 59) (tgt := 84) dX3_choose_56 rfl rfl (fun hcc => absurd hcc (nI_ge (by omega) (by omega))) (fun _ => ?_)
          refine zv_aload_n (pc' := 60) dX3_choose_59 rfl rfl ?_
          refine zv_getR (pc' := 63) dX3_choose_60 rfl flX3_18 (by first | rfl | assumption) rfl ?_
          refine zv_iload_n (pc' := 64) dX3_choose_63 rfl rfl ?_
          refine zv_iload (pc' := 66) dX3_choose_64 rfl rfl ?_
          refine zv_iastoreN (pc' := 67) dX3_choose_66 rfl (by first | rfl | assumption) (by decide) (by omega) ?_
          refine zv_aload_n (pc' := 68) dX3_choose_67 rfl rfl ?_
          refine zv_getR (pc' := 71) dX3_choose_68 rfl flX3_18 (by first | rfl | assumption) rfl ?_
          refine zv_iload (pc' := 73) dX3_choose_71 rfl rfl ?_
          refine zv_iload_n (pc' := 74) dX3_choose_73 rfl rfl ?_
          refine zv_iastoreN (pc' := 75) dX3_choose_74 rfl (by first | rfl | assumption) (by decide) (by omega) ?_
          refine zv_iload_n (pc' := 76) dX3_choose_75 rfl rfl ?_
          refine zv_iconst (v := nI 1) (pc' := 77) dX3_choose_76 rfl (by decide) ?_
          refine zv_iload (pc' := 79) dX3_choose_77 rfl rfl ?_
          refine zv_ishl (pc' := 80) dX3_choose_79 rfl ?_
          refine zv_top (zsh1 o (by omega)) ?_
          refine zv_iconst (v := (-1 : Int32)) (pc' := 81) dX3_choose_80 rfl (by decide) ?_
          refine zv_ixor (pc' := 82) dX3_choose_81 rfl ?_
          refine zv_iand (pc' := 83) dX3_choose_82 rfl ?_
          refine zv_top (bc_nI bc_lt) ?_
          refine zv_istore_n (pc' := 84) dX3_choose_83 rfl (by decide) ?_
          refine zv_iinc (w := nI 1) (pc' := 87) dX3_choose_84 rfl rfl (by decide) (by decide) ?_
          refine zv_goto (pc' := 13) dX3_choose_87 rfl ?_
          rw [nI_add]
          refine zv_fg [4] ?_
          refine ihk _ (by omega) (fun x hx => ?_) (fun i hi => by rw [zup_ne hi, zup_ne hi]; exact hs i hi)
          rw [zup_eq, zup_eq]
          show upd (upd (M1 37) k (nI o)) o (nI k) x = optI (fu (fu (chS c v T (2 ^ yN c - 1) k).2 k (some o)) o (some k) x)
          by_cases z1 : x = o
          · rw [z1, upd_s, fu_s]; rfl
          · rw [upd_n z1, fu_n z1]
            by_cases z2 : x = k
            · rw [z2, upd_s, fu_s]; rfl
            · rw [upd_n z2, fu_n z2]; exact hp x hx
  refine zex_intro (L := [some (.ref 34), some (.int (nI (2 ^ yN c - 1))), none, none, none]) (by decide) (Nat.le_of_ble_eq_true rfl) rfl ?_
  refine zv_aload_n (pc' := 1) dX3_choose_0 rfl rfl ?_
  refine zv_getR (pc' := 4) dX3_choose_1 rfl flX3_18 (by first | rfl | assumption) rfl ?_
  refine zv_bipush (v := (-9 : Int32)) (pc' := 6) dX3_choose_4 rfl (by decide) ?_
  refine zv_cS2_fv (pc' := 9) dX3_choose_6 rfl lkX3_62 (Nat.le_of_ble_eq_true rfl) (j7_fill rfl) ?_
  rintro M1 ⟨h1, h2⟩
  refine zv_iload_n (pc' := 10) dX3_choose_9 rfl rfl ?_
  refine zv_istore_n (pc' := 11) dX3_choose_10 rfl (by decide) ?_
  refine zv_iconst (v := nI 0) (pc' := 12) dX3_choose_11 rfl (by decide) ?_
  refine zv_istore_n (pc' := 13) dX3_choose_12 rfl (by decide) ?_
  exact lp (yN c) 0 M1 (by omega) (fun x hx => h1 x hx) h2
theorem x3_partnerOf {p n : Nat} {y : Int32} (hN : M 34 3 = nI n) (hn : n ≤ 8) (hp : p < n) (hy : M 37 p = y) : ZPi mdX3_partnerOf d [.ref 34, .int (nI p)] M y := by
  refine zex_intro (L := [some (.ref 34), some (.int (nI p))]) (by decide) (Nat.le_of_ble_eq_true rfl) rfl ?_
  refine zv_iload_n (pc' := 1) dX3_partnerOf_0 rfl rfl ?_
  refine zv_if_lt (pc' := 4) (tgt := 21) dX3_partnerOf_1 rfl rfl (fun hcc => absurd hcc (nI_pos (by omega))) (fun _ => ?_)
  refine zv_iload_n (pc' := 5) dX3_partnerOf_4 rfl rfl ?_
  refine zv_aload_n (pc' := 6) dX3_partnerOf_5 rfl rfl ?_
  refine zv_getIE (pc' := 9) dX3_partnerOf_6 rfl flX3_27 (by first | rfl | assumption) rfl (by first | exact hN | exact hy | rfl) ?_
  refine zv_icmp_ge (pc' := 12) (tgt := 21) dX3_partnerOf_9 rfl rfl (fun hcc => absurd hcc (nI_ge (by omega) (by omega))) (fun _ => ?_)
  refine zv_aload_n (pc' := 13) dX3_partnerOf_12 rfl rfl ?_
  refine zv_getR (pc' := 16) dX3_partnerOf_13 rfl flX3_18 (by first | rfl | assumption) rfl ?_
  refine zv_iload_n (pc' := 17) dX3_partnerOf_16 rfl rfl ?_
  refine zv_ialoadE (pc' := 18) dX3_partnerOf_17 rfl (by first | rfl | assumption) (by decide) (by omega) (by first | exact hN | exact hy | rfl) ?_
  refine zv_goto (pc' := 23) dX3_partnerOf_18 rfl ?_
  refine zv_iret dX3_partnerOf_23 rfl ?_
  exact ⟨rfl, rfl⟩
theorem x3_pairAll (hA : zAt M 1 c) (hk : zOk c) (hv : v ≤ 99) : ZFi mdX3_pairAll (d + 4) [.ref 34, .ref 1, .int (nI v)] M (fun x M' => x = nI (cpZ c v (2 ^ yN c - 1)) ∧ (∀ x, x < 8 → M' 37 x = optI ((chS c v (cpZ c v) (2 ^ yN c - 1) (yN c)).2 x)) ∧ M' 34 3 = nI (yN c) ∧ zSame 34 38 M M') := by
  have hn8 := hk.1
  have h256 := p2_le hn8
  have hp1 : 0 < 2 ^ yN c := Nat.pow_pos (by decide)
  have hN := hA.1
  have l2 : ∀ j S M1, S + j = 2 ^ yN c → 0 < S → (∀ R, R < S → M1 35 R = nI (cpT c v S R)) → zPm M1 c v → zSame 34 38 M M1 → ZV mdX3_pairAll (d + 4) (fun x M' => ∃ r, x = some (.int r) ∧ (r = nI (cpZ c v (2 ^ yN c - 1)) ∧ (∀ x, x < 8 → M' 37 x = optI ((chS c v (cpZ c v) (2 ^ yN c - 1) (yN c)).2 x)) ∧ M' 34 3 = nI (yN c) ∧ zSame 34 38 M M')) 53 [some (.ref 34), some (.ref 1), some (.int (nI v)), some (.int (nI (2 ^ yN c))), some (.int (nI S))] [] M1 := by
    intro j
    induction j with
    | zero =>
      intro S M1 e h0 hT hP hs
      have e : S = 2 ^ yN c := by omega
      rw [e]
      rw [e] at hT
      refine zv_iload (pc' := 55) dX3_pairAll_53 rfl rfl ?_
      refine zv_iload_n (pc' := 56) dX3_pairAll_55 rfl rfl ?_
      refine zv_icmp_ge (pc' := 59) (tgt := 88) dX3_pairAll_56 rfl rfl (fun _ => ?_) (fun hcc => absurd (Int32.le_refl _) hcc)
      refine zv_aload_n (pc' := 89) dX3_pairAll_88 rfl rfl ?_
      refine zv_iload_n (pc' := 90) dX3_pairAll_89 rfl rfl ?_
      refine zv_iconst (v := nI 1) (pc' := 91) dX3_pairAll_90 rfl (by decide) ?_
      refine zv_isub (pc' := 92) dX3_pairAll_91 rfl ?_
      refine zv_top (pk_sub (by omega)) ?_
      refine zv_cV1_fv (pc' := 95) dX3_pairAll_92 rfl lkX3_36 (by first | rfl | assumption) rfl (Nat.le_of_ble_eq_true rfl) (x3_choose hP hn8 hT (cpT_le _ h256)) ?_
      rintro M2 ⟨g1, g2⟩
      have hT2 : ∀ R, R < 2 ^ yN c → M2 35 R = nI (cpT c v (2 ^ yN c) R) := by rw [g2 35 (by decide)]; exact hT
      refine zv_aload_n (pc' := 96) dX3_pairAll_95 rfl rfl ?_
      refine zv_getR (pc' := 99) dX3_pairAll_96 rfl flX3_9 (by first | rfl | assumption) rfl ?_
      refine zv_iload_n (pc' := 100) dX3_pairAll_99 rfl rfl ?_
      refine zv_iconst (v := nI 1) (pc' := 101) dX3_pairAll_100 rfl (by decide) ?_
      refine zv_isub (pc' := 102) dX3_pairAll_101 rfl ?_
      refine zv_top (pk_sub (by omega)) ?_
      refine zv_ialoadE (pc' := 103) dX3_pairAll_102 rfl (by first | rfl | assumption) (by decide) (by omega) (by first | exact hT2 _ (by omega) | rfl) ?_
      refine zv_iret dX3_pairAll_103 rfl ?_
      exact ⟨_, rfl, rfl, g1, by rw [g2 34 (by decide)]; exact hP.1, hs.tr (fun k hk => g2 k (by omega))⟩
    | succ j ih =>
      intro S M1 e h0 hT hP hs
      have hle := cpT_le (c := c) (v := v) S (by omega)
      refine zv_iload (pc' := 55) dX3_pairAll_53 rfl rfl ?_
      refine zv_iload_n (pc' := 56) dX3_pairAll_55 rfl rfl ?_
      refine zv_icmp_ge (pc' := 59) (tgt := 88) dX3_pairAll_56 rfl rfl (fun hcc => absurd hcc (nI_ge (by omega) (by omega))) (fun _ => ?_)
      refine zv_iload (pc' := 61) dX3_pairAll_59 rfl rfl ?_
      refine zv_aload_n (pc' := 62) dX3_pairAll_61 rfl rfl ?_
      refine zv_getR (pc' := 65) dX3_pairAll_62 rfl flX3_9 (by first | rfl | assumption) rfl ?_
      refine zv_alen (pc' := 66) dX3_pairAll_65 rfl (by first | rfl | assumption) ?_
      refine zv_icmp_ge (pc' := 69) (tgt := 88) dX3_pairAll_66 rfl rfl (fun hcc => absurd hcc (nI_ge (by omega) (by omega))) (fun _ => ?_)
      refine zv_aload_n (pc' := 70) dX3_pairAll_69 rfl rfl ?_
      refine zv_getR (pc' := 73) dX3_pairAll_70 rfl flX3_9 (by first | rfl | assumption) rfl ?_
      refine zv_iload (pc' := 75) dX3_pairAll_73 rfl rfl ?_
      refine zv_aload_n (pc' := 76) dX3_pairAll_75 rfl rfl ?_
      refine zv_iload (pc' := 78) dX3_pairAll_76 rfl rfl ?_
      refine zv_cV1_pi (pc' := 81) dX3_pairAll_78 rfl lkX3_32 (by first | rfl | assumption) rfl (Nat.le_of_ble_eq_true rfl) (x3_mostOf hP hn8 h0 (by omega) hT hle) ?_
      refine zv_iastoreN (pc' := 82) dX3_pairAll_81 rfl (by first | rfl | assumption) (by decide) (by omega) ?_
      refine zv_iinc (w := nI 1) (pc' := 85) dX3_pairAll_82 rfl rfl (by decide) (by decide) ?_
      refine zv_goto (pc' := 53) dX3_pairAll_85 rfl ?_
      rw [nI_add]
      refine ih (S + 1) _ (by omega) (by omega) (fun R hR => ?_) (hP.same (zup_ne (by decide)) (zup_ne (by decide))) (hs.tr (zSame.up (by omega) (by omega)))
      rw [zup_eq]
      by_cases z : R = S
      · rw [z, upd_s, cpT_at h0]
      · rw [upd_n z, cpT_st (by omega)]
        exact hT R (by omega)
  have l1 : ∀ j i M1, i + j = yN c → zAt M1 1 c → M1 34 3 = nI (yN c) → (∀ j, j < i → M1 36 j = nI (zm 8 (fun q => decide (q < yN c) && cpB c v j q))) → zSame 34 38 M M1 → ZV mdX3_pairAll (d + 4) (fun x M' => ∃ r, x = some (.int r) ∧ (r = nI (cpZ c v (2 ^ yN c - 1)) ∧ (∀ x, x < 8 → M' 37 x = optI ((chS c v (cpZ c v) (2 ^ yN c - 1) (yN c)).2 x)) ∧ M' 34 3 = nI (yN c) ∧ zSame 34 38 M M')) 10 [some (.ref 34), some (.ref 1), some (.int (nI v)), some (.int (nI i)), none] [] M1 := by
    intro j
    induction j with
    | zero =>
      intro i M1 e hA1 hN1 hY hs
      have e : i = yN c := by omega
      subst e
      refine zv_iload_n (pc' := 11) dX3_pairAll_10 rfl rfl ?_
      refine zv_aload_n (pc' := 12) dX3_pairAll_11 rfl rfl ?_
      refine zv_getIE (pc' := 15) dX3_pairAll_12 rfl flX3_27 (by first | rfl | assumption) rfl (by first | exact hN1 | rfl) ?_
      refine zv_icmp_ge (pc' := 18) (tgt := 36) dX3_pairAll_15 rfl rfl (fun _ => ?_) (fun hcc => absurd (Int32.le_refl _) hcc)
      refine zv_iconst (v := nI 1) (pc' := 37) dX3_pairAll_36 rfl (by decide) ?_
      refine zv_aload_n (pc' := 38) dX3_pairAll_37 rfl rfl ?_
      refine zv_getIE (pc' := 41) dX3_pairAll_38 rfl flX3_27 (by first | rfl | assumption) rfl (by first | exact hN1 | rfl) ?_
      refine zv_ishl (pc' := 42) dX3_pairAll_41 rfl ?_
      refine zv_top (zsh1 (yN c) (by omega)) ?_
      refine zv_istore_n (pc' := 43) dX3_pairAll_42 rfl (by decide) ?_
      refine zv_aload_n (pc' := 44) dX3_pairAll_43 rfl rfl ?_
      refine zv_getR (pc' := 47) dX3_pairAll_44 rfl flX3_9 (by first | rfl | assumption) rfl ?_
      refine zv_iconst (v := nI 0) (pc' := 48) dX3_pairAll_47 rfl (by decide) ?_
      refine zv_iconst (v := nI 0) (pc' := 49) dX3_pairAll_48 rfl (by decide) ?_
      refine zv_iastoreN (pc' := 50) dX3_pairAll_49 rfl (by first | rfl | assumption) (by decide) (by omega) ?_
      refine zv_iconst (v := nI 1) (pc' := 51) dX3_pairAll_50 rfl (by decide) ?_
      refine zv_istore (pc' := 53) dX3_pairAll_51 rfl (by decide) ?_
      refine l2 (2 ^ yN c - 1) 1 _ (by omega) (by omega) (fun R hR => ?_) ⟨?_, ?_⟩ (hs.tr (zSame.up (by omega) (by omega)))
      · rw [zup_eq, show R = 0 by omega, upd_s]; rfl
      · rw [zup_ne (by decide)]; exact hN1
      · rw [zup_ne (by decide)]; exact hY
    | succ j ih =>
      intro i M1 e hA1 hN1 hY hs
      refine zv_iload_n (pc' := 11) dX3_pairAll_10 rfl rfl ?_
      refine zv_aload_n (pc' := 12) dX3_pairAll_11 rfl rfl ?_
      refine zv_getIE (pc' := 15) dX3_pairAll_12 rfl flX3_27 (by first | rfl | assumption) rfl (by first | exact hN1 | rfl) ?_
      refine zv_icmp_ge (pc' := 18) (tgt := 36) dX3_pairAll_15 rfl rfl (fun hcc => absurd hcc (nI_ge (by omega) (by omega))) (fun _ => ?_)
      refine zv_aload_n (pc' := 19) dX3_pairAll_18 rfl rfl ?_
      refine zv_getR (pc' := 22) dX3_pairAll_19 rfl flX3_15 (by first | rfl | assumption) rfl ?_
      refine zv_iload_n (pc' := 23) dX3_pairAll_22 rfl rfl ?_
      refine zv_aload_n (pc' := 24) dX3_pairAll_23 rfl rfl ?_
      refine zv_iload_n (pc' := 25) dX3_pairAll_24 rfl rfl ?_
      refine zv_iload_n (pc' := 26) dX3_pairAll_25 rfl rfl ?_
      refine zv_cS3_pi (pc' := 29) dX3_pairAll_26 rfl lkX3_28 (Nat.le_of_ble_eq_true rfl) (x3_fitting hA1 hk hv (by omega)) ?_
      refine zv_iastoreN (pc' := 30) dX3_pairAll_29 rfl (by first | rfl | assumption) (by decide) (by omega) ?_
      refine zv_iinc (w := nI 1) (pc' := 33) dX3_pairAll_30 rfl rfl (by decide) (by decide) ?_
      refine zv_goto (pc' := 10) dX3_pairAll_33 rfl ?_
      rw [nI_add]
      refine ih (i + 1) _ (by omega) (hA1.same (zSame.up (lo := 36) (hi := 37) (by omega) (by omega)) (by omega)) ?_ (fun j hj => ?_) (hs.tr (zSame.up (by omega) (by omega)))
      · rw [zup_ne (by decide)]; exact hN1
      · rw [zup_eq]
        by_cases z : j = i
        · rw [z, upd_s]
        · rw [upd_n z]; exact hY j (by omega)
  refine zex_intro (L := [some (.ref 34), some (.ref 1), some (.int (nI v)), none, none]) (by decide) (Nat.le_of_ble_eq_true rfl) rfl ?_
  refine zv_aload_n (pc' := 1) dX3_pairAll_0 rfl rfl ?_
  refine zv_aload_n (pc' := 2) dX3_pairAll_1 rfl rfl ?_
  refine zv_getIE (pc' := 5) dX3_pairAll_2 rfl flX3_21 (by first | rfl | assumption) rfl (by first | exact hN | rfl) ?_
  refine zv_putI (pc' := 8) dX3_pairAll_5 rfl flX3_27 pfX3_3 (by first | rfl | assumption) rfl rfl rfl ?_
  refine zv_iconst (v := nI 0) (pc' := 9) dX3_pairAll_8 rfl (by decide) ?_
  refine zv_istore_n (pc' := 10) dX3_pairAll_9 rfl (by decide) ?_
  refine l1 (yN c) 0 _ (by omega) (hA.same (zSame.up (lo := 34) (hi := 35) (by omega) (by omega)) (by omega)) ?_ (fun j hj => by omega) (zSame.up (by omega) (by omega))
  rw [zup_eq, upd_s]
end
section
variable {d : Nat}
theorem gx_couples (v x : Int32) : zGx mdX6_couples (d + 5) [.int v, .int x] (sp_couples v x) := by
  intro M s hI hk
  have hn8 := hk.1.1
  have hA := hI.1
  have fin : ∀ b, b < 7 → b = (if x = -1 then 0 else nbN (yN (sC s)) x) → ZV mdX6_couples (d + 5) (fun v' M' => ∃ r, v' = some (.int r) ∧ (r = (sp_couples v x s).1 ∧ zIx M' (sp_couples v x s).2 ∧ zSame 0 90 M M')) 21 [some (.ref 0), some (.int v), some (.int x), none, none] [.int (-nI b), .int (-nI (bdN v (nI 0) (nI 99)))] M := by
    intro b hb hbe
    refine zv_iconst (v := nI 0) (pc' := 22) dX6_couples_21 rfl (by decide) ?_
    refine zv_top (show nI 0 = -nI 0 by decide) ?_
    refine zv_cS3_pi (pc' := 25) dX6_couples_22 rfl lkX6_81 (Nat.le_of_ble_eq_true rfl) (x6_firstOf bdN_lt hb) ?_
    have hw := fiN_lt (bdN_lt (x := v) (lo := nI 0) (hi := nI 99)) hb (by decide : 0 < 7)
    refine zv_istore_n (pc' := 26) dX6_couples_25 rfl (by decide) ?_
    refine zv_iload_n (pc' := 27) dX6_couples_26 rfl rfl ?_
    refine zv_if_eq (pc' := 30) (tgt := 36) dX6_couples_27 rfl rfl ?_ ?_
    · intro h
      have h0 := (neg_w0 _ hw).mp h
      obtain ⟨g1, g2, -⟩ := fiN_0.mp h0
      obtain ⟨v, -, hv, rfl⟩ := isInB_of (by decide) (bdN_0.mp g1) (by decide)
      rw [hbe] at h0 g2
      refine zv_aload_n (pc' := 37) dX6_couples_36 rfl rfl ?_
      refine zv_getR (pc' := 40) dX6_couples_37 rfl flX6_56 (by first | rfl | assumption) rfl ?_
      refine zv_aload_n (pc' := 41) dX6_couples_40 rfl rfl ?_
      refine zv_getR (pc' := 44) dX6_couples_41 rfl flX6_10 (by first | rfl | assumption) rfl ?_
      refine zv_iload_n (pc' := 45) dX6_couples_44 rfl rfl ?_
      refine zv_cV2_fi (pc' := 48) dX6_couples_45 rfl lkX6_227 (by first | rfl | assumption) rfl (Nat.le_of_ble_eq_true rfl) (x3_pairAll hA hk.1 hv) ?_
      rintro r M1 ⟨rfl, e1, e2, s1⟩
      refine zv_istore (pc' := 50) dX6_couples_48 rfl (by decide) ?_
      refine zv_iload_n (pc' := 51) dX6_couples_50 rfl rfl ?_
      refine zv_iconst (v := (-1 : Int32)) (pc' := 52) dX6_couples_51 rfl (by decide) ?_
      refine zv_icmp_ne (pc' := 55) (tgt := 60) dX6_couples_52 rfl rfl ?_ ?_
      · intro hx
        have g2' := g2
        rw [if_neg hx] at g2'
        obtain ⟨p, hp, rfl⟩ := hasB_of hn8 (nbN_0.mp g2')
        refine zv_aload_n (pc' := 61) dX6_couples_60 rfl rfl ?_
        refine zv_getR (pc' := 64) dX6_couples_61 rfl flX6_56 (by first | rfl | assumption) rfl ?_
        refine zv_iload_n (pc' := 65) dX6_couples_64 rfl rfl ?_
        refine zv_cV1_pi (pc' := 68) dX6_couples_65 rfl lkX6_231 (by first | rfl | assumption) rfl (Nat.le_of_ble_eq_true rfl) (x3_partnerOf e2 hn8 hp (e1 p (by omega))) ?_
        refine zv_iret dX6_couples_68 rfl ?_
        exact zdonq (by rw [sp_couples, zans_0 h0, if_neg hx, pN_nI (by omega), pN_nI (by omega)]) hI (zScr.same s1 (by omega))
      · intro hx
        subst hx
        refine zv_iload (pc' := 57) dX6_couples_55 rfl rfl ?_
        refine zv_goto (pc' := 68) dX6_couples_57 rfl ?_
        refine zv_iret dX6_couples_68 rfl ?_
        exact zdonq (by rw [sp_couples, zans_0 h0, if_pos rfl, pN_nI (by omega)]) hI (zScr.same s1 (by omega))
    · intro h
      have h0 := mt (neg_w0 _ hw).mpr h
      refine zv_aload_n (pc' := 31) dX6_couples_30 rfl rfl ?_
      refine zv_iload_n (pc' := 32) dX6_couples_31 rfl rfl ?_
      refine zv_cV1_fi (pc' := 35) dX6_couples_32 rfl lkX6_84 (by first | rfl | assumption) rfl (Nat.le_of_ble_eq_true rfl) (x6_refuse hw h0) ?_
      rintro r M1 ⟨rfl, rfl⟩
      refine zv_iret dX6_couples_35 rfl ?_
      rw [sp_couples, ← hbe]
      exact zrefx hI h0
  refine zex_intro (L := [some (.ref 0), some (.int v), some (.int x), none, none]) (by decide) (Nat.le_of_ble_eq_true rfl) rfl ?_
  refine zv_iload_n (pc' := 1) dX6_couples_0 rfl rfl ?_
  refine zv_iconst (v := nI 0) (pc' := 2) dX6_couples_1 rfl (by decide) ?_
  refine zv_bipush (v := nI 99) (pc' := 4) dX6_couples_2 rfl (by decide) ?_
  refine zv_cS3_pi (pc' := 7) dX6_couples_4 rfl lkX6_73 (Nat.le_of_ble_eq_true rfl) (x6_outside) ?_
  refine zv_iload_n (pc' := 8) dX6_couples_7 rfl rfl ?_
  refine zv_iconst (v := (-1 : Int32)) (pc' := 9) dX6_couples_8 rfl (by decide) ?_
  refine zv_icmp_ne (pc' := 12) (tgt := 16) dX6_couples_9 rfl rfl ?_ ?_
  · intro hx
    refine zv_aload_n (pc' := 17) dX6_couples_16 rfl rfl ?_
    refine zv_iload_n (pc' := 18) dX6_couples_17 rfl rfl ?_
    refine zv_cV1_pi (pc' := 21) dX6_couples_18 rfl lkX6_111 (by first | rfl | assumption) rfl (Nat.le_of_ble_eq_true rfl) (x6_nobody hA) ?_
    exact fin _ nbN_lt (by rw [if_neg hx])
  · intro hx
    refine zv_iconst (v := nI 0) (pc' := 13) dX6_couples_12 rfl (by decide) ?_
    refine zv_goto (pc' := 21) dX6_couples_13 rfl ?_
    refine zv_top (show nI 0 = -nI 0 by decide) ?_
    exact fin 0 (by decide) (by rw [if_pos hx])
end
