/-! couples: the reference -/
theorem zTe.cp {M M' : ZMem} {c : ZCty} (hA : zAm M c) (h : zFr [105] [] M M') : zTe M M' c := ⟨hA.same h (by simp; omega) (by simp), h.mono (by simp) (by simp), fun i _ => by rw [h.1 101 (by decide) (by decide)]⟩
theorem bc2_nI {F j o : Nat} (h : F < 256) : nI F &&& ((nI (2 ^ j) ||| nI (2 ^ o)) ^^^ (-1)) = nI (bc (bc F j) o) := mk_eq (fun i hi => by
  rw [b_and, b_xor, b_or, bt_nI hi, bt_2 hi, bt_2 hi, b_m1 i hi, bc_tb h]
  by_cases h8 : i < 8
  · by_cases e1 : j = i
    · subst e1; simp
    · have e1' : ¬ i = j := fun z => e1 z.symm
      by_cases e2 : o = i
      · subst e2; simp
      · have e2' : ¬ i = o := fun z => e2 z.symm
        simp [h8, e1, e2, e1', e2']
  · rw [tb_hi (n := 8) h (by omega)]; simp [h8])
section
variable {d : Nat} {M : ZMem} {c : ZCty} {v : Nat}
theorem x7_isCouple {p q : Nat} (hA : zAm M c) (hk : zOk c) (hv : v ≤ 99) (hp : p < yN c) (hq : q < yN c) : ZPi mdX7_isCouple (d + 1) [.ref 90, .int (nI p), .int (nI q), .int (nI v)] M (zb (cpB c v p q)) := by
  have hn8 := hk.1
  have hM := hA.2.2.2.2.1
  have hX := hA.2.2.2.2.2.2
  have hp9 := hk.2.2.2.1 p
  have hq9 := hk.2.2.2.1 q
  have hd : dsN (yM c p) (yM c q) < 2 ^ 31 := by unfold dsN; split <;> omega
  have no : cpB c v p q = false → ZV mdX7_isCouple (d + 1) (fun x M' => x = some (.int (zb (cpB c v p q))) ∧ M' = M) 74 [some (.ref 90), some (.int (nI p)), some (.int (nI q)), some (.int (nI v)), some (.int (nI (dsN (yM c p) (yM c q))))] [] M := by
    intro h
    refine zv_iconst (v := nI 0) (pc' := 75) dX7_isCouple_74 rfl (by decide) ?_
    refine zv_ireturn dX7_isCouple_75 rfl (by first | rfl | exact zb_nar _) ?_
    exact zpi_f h
  have far : ZV mdX7_isCouple (d + 1) (fun x M' => x = some (.int (zb (cpB c v p q))) ∧ M' = M) 44 [some (.ref 90), some (.int (nI p)), some (.int (nI q)), some (.int (nI v)), none] [.int (nI (dsN (yM c p) (yM c q)))] M := by
    refine zv_istore (pc' := 46) dX7_isCouple_44 rfl (by decide) ?_
    refine zv_iload_n (pc' := 47) dX7_isCouple_46 rfl rfl ?_
    refine zv_iload_n (pc' := 48) dX7_isCouple_47 rfl rfl ?_
    refine zv_icmp_eq (pc' := 51) (tgt := 74) dX7_isCouple_48 rfl rfl ?_ ?_
    · intro h
      have h := (nI_eq (by omega) (by omega)).mp h
      exact no (by simp [cpB, h])
    · intro h
      have hpq : p ≠ q := fun z => h (by rw [z])
      refine zv_aload_n (pc' := 52) dX7_isCouple_51 rfl rfl ?_
      refine zv_getR (pc' := 55) dX7_isCouple_52 rfl flX7_25 (by first | rfl | assumption) rfl ?_
      refine zv_iload_n (pc' := 56) dX7_isCouple_55 rfl rfl ?_
      refine zv_ialoadE (pc' := 57) dX7_isCouple_56 rfl (by first | rfl | assumption) (by decide) (by omega) (by first | exact hX _ (by omega) | rfl) ?_
      refine zv_iload_n (pc' := 58) dX7_isCouple_57 rfl rfl ?_
      refine zv_cS2_pi (pc' := 61) dX7_isCouple_58 rfl lkX7_75 (Nat.le_of_ble_eq_true rfl) (x7_hasM (by omega)) ?_
      refine zv_if_ne (pc' := 64) (tgt := 74) dX7_isCouple_61 rfl rfl ?_ ?_
      · intro hx
        exact no (by simp only [cpB, zb_ne.mp hx, Bool.not_true, Bool.and_false, Bool.false_and])
      · intro hx
        have hx := zb_0.mp hx
        refine zv_iload (pc' := 66) dX7_isCouple_64 rfl rfl ?_
        refine zv_iload_n (pc' := 67) dX7_isCouple_66 rfl rfl ?_
        refine zv_icmp_gt (pc' := 70) (tgt := 74) dX7_isCouple_67 rfl rfl ?_ ?_
        · intro hl
          have hl := (nI_ltI (by omega) hd).mp hl
          exact no (by
            have : ¬ dsN (yM c p) (yM c q) ≤ v := by omega
            simp [cpB, this])
        · intro hl
          have hl := mt (nI_ltI (a := v) (b := dsN (yM c p) (yM c q)) (by omega) hd).mpr hl
          refine zv_iconst (v := nI 1) (pc' := 71) dX7_isCouple_70 rfl (by decide) ?_
          refine zv_goto (pc' := 75) dX7_isCouple_71 rfl ?_
          refine zv_ireturn dX7_isCouple_75 rfl (by first | rfl | exact zb_nar _) ?_
          exact zpi_t (by
            have : dsN (yM c p) (yM c q) ≤ v := by omega
            simp [cpB, this, hx, hpq])
  refine zex_intro (L := [some (.ref 90), some (.int (nI p)), some (.int (nI q)), some (.int (nI v)), none]) (by decide) (Nat.le_of_ble_eq_true rfl) rfl ?_
  refine zv_aload_n (pc' := 1) dX7_isCouple_0 rfl rfl ?_
  refine zv_getR (pc' := 4) dX7_isCouple_1 rfl flX7_19 (by first | rfl | assumption) rfl ?_
  refine zv_iload_n (pc' := 5) dX7_isCouple_4 rfl rfl ?_
  refine zv_ialoadE (pc' := 6) dX7_isCouple_5 rfl (by first | rfl | assumption) (by decide) (by omega) (by first | exact hM _ (by omega) | rfl) ?_
  refine zv_aload_n (pc' := 7) dX7_isCouple_6 rfl rfl ?_
  refine zv_getR (pc' := 10) dX7_isCouple_7 rfl flX7_19 (by first | rfl | assumption) rfl ?_
  refine zv_iload_n (pc' := 11) dX7_isCouple_10 rfl rfl ?_
  refine zv_ialoadE (pc' := 12) dX7_isCouple_11 rfl (by first | rfl | assumption) (by decide) (by omega) (by first | exact hM _ (by omega) | rfl) ?_
  refine zv_icmp_le (pc' := 15) (tgt := 31) dX7_isCouple_12 rfl rfl ?_ ?_
  · intro h
    have h := (nI_leI (by omega) (by omega)).mp h
    refine zv_aload_n (pc' := 32) dX7_isCouple_31 rfl rfl ?_
    refine zv_getR (pc' := 35) dX7_isCouple_32 rfl flX7_19 (by first | rfl | assumption) rfl ?_
    refine zv_iload_n (pc' := 36) dX7_isCouple_35 rfl rfl ?_
    refine zv_ialoadE (pc' := 37) dX7_isCouple_36 rfl (by first | rfl | assumption) (by decide) (by omega) (by first | exact hM _ (by omega) | rfl) ?_
    refine zv_aload_n (pc' := 38) dX7_isCouple_37 rfl rfl ?_
    refine zv_getR (pc' := 41) dX7_isCouple_38 rfl flX7_19 (by first | rfl | assumption) rfl ?_
    refine zv_iload_n (pc' := 42) dX7_isCouple_41 rfl rfl ?_
    refine zv_ialoadE (pc' := 43) dX7_isCouple_42 rfl (by first | rfl | assumption) (by decide) (by omega) (by first | exact hM _ (by omega) | rfl) ?_
    refine zv_isub (pc' := 44) dX7_isCouple_43 rfl ?_
    refine zv_top (pk_sub (by omega)) ?_
    rw [dsN, if_neg (by omega)] at far
    exact far
  · intro h
    have h := mt (nI_leI (a := yM c p) (b := yM c q) (by omega) (by omega)).mpr h
    refine zv_aload_n (pc' := 16) dX7_isCouple_15 rfl rfl ?_
    refine zv_getR (pc' := 19) dX7_isCouple_16 rfl flX7_19 (by first | rfl | assumption) rfl ?_
    refine zv_iload_n (pc' := 20) dX7_isCouple_19 rfl rfl ?_
    refine zv_ialoadE (pc' := 21) dX7_isCouple_20 rfl (by first | rfl | assumption) (by decide) (by omega) (by first | exact hM _ (by omega) | rfl) ?_
    refine zv_aload_n (pc' := 22) dX7_isCouple_21 rfl rfl ?_
    refine zv_getR (pc' := 25) dX7_isCouple_22 rfl flX7_19 (by first | rfl | assumption) rfl ?_
    refine zv_iload_n (pc' := 26) dX7_isCouple_25 rfl rfl ?_
    refine zv_ialoadE (pc' := 27) dX7_isCouple_26 rfl (by first | rfl | assumption) (by decide) (by omega) (by first | exact hM _ (by omega) | rfl) ?_
    refine zv_isub (pc' := 28) dX7_isCouple_27 rfl ?_
    refine zv_top (pk_sub (by omega)) ?_
    refine zv_goto (pc' := 44) dX7_isCouple_28 rfl ?_
    rw [dsN, if_pos (by omega)] at far
    exact far
theorem x7_lowest {S : Nat} (h0 : 0 < S) (hS : S < 256) : ZPi mdX7_lowest (d + 1) [.int (nI S)] M (nI (lw S)) := by
  obtain ⟨l1, l2, l3⟩ := lw_of h0 hS
  have lp : ∀ j r, r + j = lw S → ZV mdX7_lowest (d + 1) (fun x M' => x = some (.int (nI (lw S))) ∧ M' = M) 2 [some (.int (nI S)), some (.int (nI r))] [] M := by
    intro j
    induction j with
    | zero =>
      intro r e
      have e : r = lw S := by omega
      subst e
      refine zv_iload_n (pc' := 3) dX7_lowest_2 rfl rfl ?_
      refine zv_iload_n (pc' := 4) dX7_lowest_3 rfl rfl ?_
      refine zv_cS2_pi (pc' := 7) dX7_lowest_4 rfl lkX7_75 (Nat.le_of_ble_eq_true rfl) (x7_has (by omega) (by omega)) ?_
      refine zv_if_ne (pc' := 10) (tgt := 16) dX7_lowest_7 rfl rfl (fun _ => ?_) (fun hcc => absurd hcc (zb_ne.mpr l1))
      refine zv_iload_n (pc' := 17) dX7_lowest_16 rfl rfl ?_
      refine zv_iret dX7_lowest_17 rfl ?_
      exact ⟨rfl, rfl⟩
    | succ j ih =>
      intro r e
      refine zv_iload_n (pc' := 3) dX7_lowest_2 rfl rfl ?_
      refine zv_iload_n (pc' := 4) dX7_lowest_3 rfl rfl ?_
      refine zv_cS2_pi (pc' := 7) dX7_lowest_4 rfl lkX7_75 (Nat.le_of_ble_eq_true rfl) (x7_has (by omega) (by omega)) ?_
      refine zv_if_ne (pc' := 10) (tgt := 16) dX7_lowest_7 rfl rfl (fun hcc => absurd (zb_0.mpr (l3 r (by omega))) hcc) (fun _ => ?_)
      refine zv_iinc (w := nI 1) (pc' := 13) dX7_lowest_10 rfl rfl (by decide) (by decide) ?_
      refine zv_goto (pc' := 2) dX7_lowest_13 rfl ?_
      rw [nI_add]
      exact ih (r + 1) (by omega)
  refine zex_intro (L := [some (.int (nI S)), none]) (by decide) (Nat.le_of_ble_eq_true rfl) rfl ?_
  refine zv_iconst (v := nI 0) (pc' := 1) dX7_lowest_0 rfl (by decide) ?_
  refine zv_istore_n (pc' := 2) dX7_lowest_1 rfl (by decide) ?_
  exact lp (lw S) 0 (by omega)
theorem x7_findCouples (hA : zAm M c) (hk : zOk c) (hv : v ≤ 99) : ZFv mdX7_findCouples (d + 3) [.ref 90, .int (nI v)] M (fun M' => (∀ R, R < 2 ^ yN c → M' 105 R = nI (cpZ c v R)) ∧ zFr [105] [] M M') := by
  have hn8 := hk.1
  have h256 := p2_le hn8
  have hp1 : 0 < 2 ^ yN c := Nat.pow_pos (by decide)
  have l1 : ∀ j S M1, S + j = 2 ^ yN c → 0 < S → (∀ R, R < S → M1 105 R = nI (cpT c v S R)) → zFr [105] [] M M1 → ZV mdX7_findCouples (d + 3) (fun x M' => x = none ∧ ((∀ R, R < 2 ^ yN c → M' 105 R = nI (cpZ c v R)) ∧ zFr [105] [] M M')) 9 [some (.ref 90), some (.int (nI v)), some (.int (nI S)), none, none, none, none, none] [] M1 := by
    intro j
    induction j with
    | zero =>
      intro S M1 e h0 hT hs
      have e : S = 2 ^ yN c := by omega
      rw [e]
      rw [e] at hT
      have hN1 := (hA.same hs (by simp; omega) (by simp)).1
      refine zv_iload_n (pc' := 10) dX7_findCouples_9 rfl rfl ?_
      refine zv_iconst (v := nI 1) (pc' := 11) dX7_findCouples_10 rfl (by decide) ?_
      refine zv_aload_n (pc' := 12) dX7_findCouples_11 rfl rfl ?_
      refine zv_getIE (pc' := 15) dX7_findCouples_12 rfl flX7_65 (by first | rfl | assumption) rfl (by first | exact hN1 | rfl) ?_
      refine zv_ishl (pc' := 16) dX7_findCouples_15 rfl ?_
      refine zv_top (zsh1 (yN c) (by omega)) ?_
      refine zv_icmp_ge (pc' := 19) (tgt := 132) dX7_findCouples_16 rfl rfl (fun _ => ?_) (fun hcc => absurd (Int32.le_refl _) hcc)
      refine zv_vret dX7_findCouples_132 rfl ?_
      exact ⟨rfl, hT, hs⟩
    | succ j ihj =>
      intro S M1 e h0 hT hs
      have hA1 := hA.same hs (by simp; omega) (by simp)
      have hN1 := hA1.1
      have hle := cpT_le (c := c) (v := v) S (by omega)
      obtain ⟨w1, w2, w3⟩ := lw_of h0 (show S < 256 by omega)
      have w4 := lw_n h0 (by omega) (show S < 2 ^ yN c by omega)
      have hR0 := bc_down (by omega) w1
      have hcl : ∀ q, cpM c v (cpT c v S) (lw S) (bc S (lw S)) q ≤ S := cpM_le hle bc_lt hR0
      have ihS := ihj (S + 1)
      have hcS : cpT c v (S + 1) S = cpM c v (cpT c v S) (lw S) (bc S (lw S)) (yN c) := cpT_at h0
      have low := x7_lowest (d := d + 1) (M := M1) h0 (show S < 256 by omega)
      generalize hp' : lw S = p at hR0 w1 w2 w4 hcl hcS low
      generalize hR' : bc S p = R at hR0 hcl hcS
      have l2 : ∀ j q, q + j = yN c → ZV mdX7_findCouples (d + 3) (fun x M' => x = none ∧ ((∀ R, R < 2 ^ yN c → M' 105 R = nI (cpZ c v R)) ∧ zFr [105] [] M M')) 45 [some (.ref 90), some (.int (nI v)), some (.int (nI S)), some (.int (nI p)), some (.int (nI R)), some (.int (nI (cpM c v (cpT c v S) p R q))), some (.int (nI q)), none] [] M1 := by
        intro j
        induction j with
        | zero =>
          intro q e
          have e : q = yN c := by omega
          subst e
          refine zv_iload (pc' := 47) dX7_findCouples_45 rfl rfl ?_
          refine zv_aload_n (pc' := 48) dX7_findCouples_47 rfl rfl ?_
          refine zv_getIE (pc' := 51) dX7_findCouples_48 rfl flX7_65 (by first | rfl | assumption) rfl (by first | exact hN1 | rfl) ?_
          refine zv_icmp_ge (pc' := 54) (tgt := 118) dX7_findCouples_51 rfl rfl (fun _ => ?_) (fun hcc => absurd (Int32.le_refl _) hcc)
          refine zv_aload_n (pc' := 119) dX7_findCouples_118 rfl rfl ?_
          refine zv_getR (pc' := 122) dX7_findCouples_119 rfl flX7_56 (by first | rfl | assumption) rfl ?_
          refine zv_iload_n (pc' := 123) dX7_findCouples_122 rfl rfl ?_
          refine zv_iload (pc' := 125) dX7_findCouples_123 rfl rfl ?_
          refine zv_iastoreN (pc' := 126) dX7_findCouples_125 rfl (by first | rfl | assumption) (by decide) (by omega) ?_
          refine zv_iinc (w := nI 1) (pc' := 129) dX7_findCouples_126 rfl rfl (by decide) (by decide) ?_
          refine zv_goto (pc' := 9) dX7_findCouples_129 rfl ?_
          rw [nI_add]
          refine zv_fg [3, 4, 5, 6] ?_
          refine ihS _ (by omega) (by omega) (fun R' hR' => ?_) (hs.tr (zFr.up (by decide) (by decide)))
          rw [zup_eq]
          by_cases z : R' = S
          · rw [z, upd_s, hcS]
          · rw [upd_n z, cpT_st (by omega)]
            exact hT R' (by omega)
        | succ j ih =>
          intro q e
          have hb := bc_le (p := q) (show R < 256 by omega)
          have hl := hcl q
          have hl2 := hle (bc R q)
          have ihq := ih (q + 1) (by omega)
          rw [cpM] at ihq
          refine zv_iload (pc' := 47) dX7_findCouples_45 rfl rfl ?_
          refine zv_aload_n (pc' := 48) dX7_findCouples_47 rfl rfl ?_
          refine zv_getIE (pc' := 51) dX7_findCouples_48 rfl flX7_65 (by first | rfl | assumption) rfl (by first | exact hN1 | exact hT _ (by omega) | rfl) ?_
          refine zv_icmp_ge (pc' := 54) (tgt := 118) dX7_findCouples_51 rfl rfl (fun hcc => absurd hcc (nI_ge (by omega) (by omega))) (fun _ => ?_)
          refine zv_iload (pc' := 56) dX7_findCouples_54 rfl rfl ?_
          refine zv_iload (pc' := 58) dX7_findCouples_56 rfl rfl ?_
          refine zv_cS2_pi (pc' := 61) dX7_findCouples_58 rfl lkX7_75 (Nat.le_of_ble_eq_true rfl) (x7_has (by omega) (by omega)) ?_
          refine zv_if_eq (pc' := 64) (tgt := 112) dX7_findCouples_61 rfl rfl ?_ ?_
          · intro h
            have h := zb_0.mp h
            rw [if_neg (fun z => by rw [z.1] at h; cases h)] at ihq
            refine zv_iinc (w := nI 1) (pc' := 115) dX7_findCouples_112 rfl rfl (by decide) (by decide) ?_
            refine zv_goto (pc' := 45) dX7_findCouples_115 rfl ?_
            rw [nI_add]
            exact ihq
          · intro h
            have h := zb_ne.mp h
            refine zv_aload_n (pc' := 65) dX7_findCouples_64 rfl rfl ?_
            refine zv_iload_n (pc' := 66) dX7_findCouples_65 rfl rfl ?_
            refine zv_iload (pc' := 68) dX7_findCouples_66 rfl rfl ?_
            refine zv_iload_n (pc' := 69) dX7_findCouples_68 rfl rfl ?_
            refine zv_cV3_pi (pc' := 72) dX7_findCouples_69 rfl lkX7_248 (by first | rfl | assumption) rfl (Nat.le_of_ble_eq_true rfl) (x7_isCouple hA1 hk hv (by omega) (by omega)) ?_
            refine zv_if_ne (pc' := 75) (tgt := 78) dX7_findCouples_72 rfl rfl ?_ ?_
            · intro h2
              have h2 := zb_ne.mp h2
              rw [if_pos ⟨h, h2⟩] at ihq
              refine zv_iconst (v := nI 1) (pc' := 79) dX7_findCouples_78 rfl (by decide) ?_
              refine zv_aload_n (pc' := 80) dX7_findCouples_79 rfl rfl ?_
              refine zv_getR (pc' := 83) dX7_findCouples_80 rfl flX7_56 (by first | rfl | assumption) rfl ?_
              refine zv_iload (pc' := 85) dX7_findCouples_83 rfl rfl ?_
              refine zv_iconst (v := nI 1) (pc' := 86) dX7_findCouples_85 rfl (by decide) ?_
              refine zv_iload (pc' := 88) dX7_findCouples_86 rfl rfl ?_
              refine zv_ishl (pc' := 89) dX7_findCouples_88 rfl ?_
              refine zv_top (zsh1 q (by omega)) ?_
              refine zv_iconst (v := (-1 : Int32)) (pc' := 90) dX7_findCouples_89 rfl (by decide) ?_
              refine zv_ixor (pc' := 91) dX7_findCouples_90 rfl ?_
              refine zv_iand (pc' := 92) dX7_findCouples_91 rfl ?_
              refine zv_top (bc_nI (by omega)) ?_
              refine zv_ialoadE (pc' := 93) dX7_findCouples_92 rfl (by first | rfl | assumption) (by decide) (by omega) (by first | exact hN1 | exact hT _ (by omega) | rfl) ?_
              refine zv_iadd (pc' := 94) dX7_findCouples_93 rfl ?_
              refine zv_top (nI_add _ _) ?_
              refine zv_istore (pc' := 96) dX7_findCouples_94 rfl (by decide) ?_
              refine zv_iload (pc' := 98) dX7_findCouples_96 rfl rfl ?_
              refine zv_iload (pc' := 100) dX7_findCouples_98 rfl rfl ?_
              refine zv_icmp_le (pc' := 103) (tgt := 108) dX7_findCouples_100 rfl rfl ?_ ?_
              · intro h3
                have h3 := (nI_leI (by omega) (by omega)).mp h3
                rw [Nat.max_eq_left (by omega)] at ihq
                refine zv_iload (pc' := 110) dX7_findCouples_108 rfl rfl ?_
                refine zv_istore (pc' := 112) dX7_findCouples_110 rfl (by decide) ?_
                refine zv_iinc (w := nI 1) (pc' := 115) dX7_findCouples_112 rfl rfl (by decide) (by decide) ?_
                refine zv_goto (pc' := 45) dX7_findCouples_115 rfl ?_
                rw [nI_add]
                refine zv_fg [7] ?_
                exact ihq
              · intro h3
                have h3 := mt (nI_leI (a := 1 + cpT c v S (bc R q)) (b := cpM c v (cpT c v S) p R q) (by omega) (by omega)).mpr h3
                rw [Nat.max_eq_right (by omega)] at ihq
                refine zv_iload (pc' := 105) dX7_findCouples_103 rfl rfl ?_
                refine zv_goto (pc' := 110) dX7_findCouples_105 rfl ?_
                refine zv_istore (pc' := 112) dX7_findCouples_110 rfl (by decide) ?_
                refine zv_iinc (w := nI 1) (pc' := 115) dX7_findCouples_112 rfl rfl (by decide) (by decide) ?_
                refine zv_goto (pc' := 45) dX7_findCouples_115 rfl ?_
                rw [nI_add]
                refine zv_fg [7] ?_
                exact ihq
            · intro h2
              have h2 := zb_0.mp h2
              rw [if_neg (fun z => by rw [z.2] at h2; cases h2)] at ihq
              refine zv_goto (pc' := 112) dX7_findCouples_75 rfl ?_
              refine zv_iinc (w := nI 1) (pc' := 115) dX7_findCouples_112 rfl rfl (by decide) (by decide) ?_
              refine zv_goto (pc' := 45) dX7_findCouples_115 rfl ?_
              rw [nI_add]
              exact ihq
      refine zv_iload_n (pc' := 10) dX7_findCouples_9 rfl rfl ?_
      refine zv_iconst (v := nI 1) (pc' := 11) dX7_findCouples_10 rfl (by decide) ?_
      refine zv_aload_n (pc' := 12) dX7_findCouples_11 rfl rfl ?_
      refine zv_getIE (pc' := 15) dX7_findCouples_12 rfl flX7_65 (by first | rfl | assumption) rfl (by first | exact hN1 | exact hT _ (by omega) | rfl) ?_
      refine zv_ishl (pc' := 16) dX7_findCouples_15 rfl ?_
      refine zv_top (zsh1 (yN c) (by omega)) ?_
      refine zv_icmp_ge (pc' := 19) (tgt := 132) dX7_findCouples_16 rfl rfl (fun hcc => absurd hcc (nI_ge (by omega) (by omega))) (fun _ => ?_)
      refine zv_iload_n (pc' := 20) dX7_findCouples_19 rfl rfl ?_
      refine zv_cS1_pi (pc' := 23) dX7_findCouples_20 rfl lkX7_245 (Nat.le_of_ble_eq_true rfl) (low) ?_
      refine zv_istore_n (pc' := 24) dX7_findCouples_23 rfl (by decide) ?_
      refine zv_iload_n (pc' := 25) dX7_findCouples_24 rfl rfl ?_
      refine zv_iconst (v := nI 1) (pc' := 26) dX7_findCouples_25 rfl (by decide) ?_
      refine zv_iload_n (pc' := 27) dX7_findCouples_26 rfl rfl ?_
      refine zv_ishl (pc' := 28) dX7_findCouples_27 rfl ?_
      refine zv_top (zsh1 p (by omega)) ?_
      refine zv_iconst (v := (-1 : Int32)) (pc' := 29) dX7_findCouples_28 rfl (by decide) ?_
      refine zv_ixor (pc' := 30) dX7_findCouples_29 rfl ?_
      refine zv_iand (pc' := 31) dX7_findCouples_30 rfl ?_
      refine zv_top (bc_nI (by omega)) ?_
      rw [hR']
      refine zv_istore (pc' := 33) dX7_findCouples_31 rfl (by decide) ?_
      refine zv_aload_n (pc' := 34) dX7_findCouples_33 rfl rfl ?_
      refine zv_getR (pc' := 37) dX7_findCouples_34 rfl flX7_56 (by first | rfl | assumption) rfl ?_
      refine zv_iload (pc' := 39) dX7_findCouples_37 rfl rfl ?_
      refine zv_ialoadE (pc' := 40) dX7_findCouples_39 rfl (by first | rfl | assumption) (by decide) (by omega) (by first | exact hN1 | exact hT _ (by omega) | rfl) ?_
      refine zv_istore (pc' := 42) dX7_findCouples_40 rfl (by decide) ?_
      refine zv_iconst (v := nI 0) (pc' := 43) dX7_findCouples_42 rfl (by decide) ?_
      refine zv_istore (pc' := 45) dX7_findCouples_43 rfl (by decide) ?_
      exact l2 (yN c) 0 (by omega)
  refine zex_intro (L := [some (.ref 90), some (.int (nI v)), none, none, none, none, none, none]) (by decide) (Nat.le_of_ble_eq_true rfl) rfl ?_
  refine zv_aload_n (pc' := 1) dX7_findCouples_0 rfl rfl ?_
  refine zv_getR (pc' := 4) dX7_findCouples_1 rfl flX7_56 (by first | rfl | assumption) rfl ?_
  refine zv_iconst (v := nI 0) (pc' := 5) dX7_findCouples_4 rfl (by decide) ?_
  refine zv_iconst (v := nI 0) (pc' := 6) dX7_findCouples_5 rfl (by decide) ?_
  refine zv_iastoreN (pc' := 7) dX7_findCouples_6 rfl (by first | rfl | assumption) (by decide) (by omega) ?_
  refine zv_iconst (v := nI 1) (pc' := 8) dX7_findCouples_7 rfl (by decide) ?_
  refine zv_istore_n (pc' := 9) dX7_findCouples_8 rfl (by decide) ?_
  refine l1 (2 ^ yN c - 1) 1 _ (by omega) (by omega) (fun R hR => ?_) (zFr.up (by decide) (by decide))
  rw [zup_eq, show R = 0 by omega, upd_s]
  rfl
theorem x7_partnerIn {F k : Nat} {T : Nat → Nat} (hA : zAm M c) (hkk : zOk c) (hv : v ≤ 99) (hF : F < 2 ^ yN c) (hk : k < yN c) (hT : ∀ R, R < 2 ^ yN c → M 105 R = nI (T R)) (hTl : ∀ R, T R ≤ R) : ZPi mdX7_partnerIn (d + 2) [.ref 90, .int (nI F), .int (nI k), .int (nI v)] M (optI (cpP c v T F k)) := by
  have hn8 := hkk.1
  have h256 := p2_le hn8
  have hN := hA.1
  have hR0 := bc_le (p := k) (show F < 256 by omega)
  have hFl := hTl F
  rw [cpP]
  generalize hR' : bc F k = R at hR0 ⊢
  have lp : ∀ j q, q + j = yN c → ZV mdX7_partnerIn (d + 2) (fun x M' => x = some (.int (optI (zfst (yN c) 0 (fun q => R.testBit q && cpB c v k q && decide (1 + T (bc R q) = T F))))) ∧ M' = M) 12 [some (.ref 90), some (.int (nI F)), some (.int (nI k)), some (.int (nI v)), some (.int (nI R)), some (.int (nI q))] [] M ∨ zfst (yN c) 0 (fun q => R.testBit q && cpB c v k q && decide (1 + T (bc R q) = T F)) ≠ zfst j q (fun q => R.testBit q && cpB c v k q && decide (1 + T (bc R q) = T F)) := by
    intro j
    induction j with
    | zero =>
      intro q e
      have e : q = yN c := by omega
      subst e
      by_cases hz : zfst (yN c) 0 (fun q => R.testBit q && cpB c v k q && decide (1 + T (bc R q) = T F)) = zfst 0 (yN c) (fun q => R.testBit q && cpB c v k q && decide (1 + T (bc R q) = T F))
      · refine Or.inl ?_
        rw [hz]
        refine zv_iload (pc' := 14) dX7_partnerIn_12 rfl rfl ?_
        refine zv_aload_n (pc' := 15) dX7_partnerIn_14 rfl rfl ?_
        refine zv_getIE (pc' := 18) dX7_partnerIn_15 rfl flX7_65 (by first | rfl | assumption) rfl (by first | exact hN | rfl) ?_
        refine zv_icmp_ge (pc' := 21) (tgt := 76) dX7_partnerIn_18 rfl rfl (fun _ => ?_) (fun hcc => absurd (Int32.le_refl _) hcc)
        refine zv_bipush (v := (-9 : Int32)) (pc' := 78) dX7_partnerIn_76 rfl (by decide) ?_
        refine zv_iret dX7_partnerIn_78 rfl ?_
        exact ⟨rfl, rfl⟩
      · exact Or.inr hz
    | succ j ih =>
      intro q e
      by_cases hz : zfst (yN c) 0 (fun q => R.testBit q && cpB c v k q && decide (1 + T (bc R q) = T F)) = zfst (j + 1) q (fun q => R.testBit q && cpB c v k q && decide (1 + T (bc R q) = T F))
      · refine Or.inl ?_
        rw [zfst] at hz
        have hb := bc_le (p := q) (show R < 256 by omega)
        have hl2 := hTl (bc R q)
        have go : (R.testBit q && cpB c v k q && decide (1 + T (bc R q) = T F)) = false → ZV mdX7_partnerIn (d + 2) (fun x M' => x = some (.int (optI (zfst (yN c) 0 (fun q => R.testBit q && cpB c v k q && decide (1 + T (bc R q) = T F))))) ∧ M' = M) 70 [some (.ref 90), some (.int (nI F)), some (.int (nI k)), some (.int (nI v)), some (.int (nI R)), some (.int (nI q))] [] M := by
          intro hf
          rw [if_neg (by rw [hf]; decide)] at hz
          refine zv_iinc (w := nI 1) (pc' := 73) dX7_partnerIn_70 rfl rfl (by decide) (by decide) ?_
          refine zv_goto (pc' := 12) dX7_partnerIn_73 rfl ?_
          rw [nI_add]
          rcases ih (q + 1) (by omega) with h | h
          · exact h
          · exact absurd hz h
        refine zv_iload (pc' := 14) dX7_partnerIn_12 rfl rfl ?_
        refine zv_aload_n (pc' := 15) dX7_partnerIn_14 rfl rfl ?_
        refine zv_getIE (pc' := 18) dX7_partnerIn_15 rfl flX7_65 (by first | rfl | assumption) rfl (by first | exact hN | exact hT _ (by omega) | rfl) ?_
        refine zv_icmp_ge (pc' := 21) (tgt := 76) dX7_partnerIn_18 rfl rfl (fun hcc => absurd hcc (nI_ge (by omega) (by omega))) (fun _ => ?_)
        refine zv_iload (pc' := 23) dX7_partnerIn_21 rfl rfl ?_
        refine zv_iload (pc' := 25) dX7_partnerIn_23 rfl rfl ?_
        refine zv_cS2_pi (pc' := 28) dX7_partnerIn_25 rfl lkX7_75 (Nat.le_of_ble_eq_true rfl) (x7_has (by omega) (by omega)) ?_
        refine zv_if_eq (pc' := 31) (tgt := 70) dX7_partnerIn_28 rfl rfl ?_ ?_
        · intro h
          exact go (by rw [zb_0.mp h]; rfl)
        · intro h
          have h := zb_ne.mp h
          refine zv_aload_n (pc' := 32) dX7_partnerIn_31 rfl rfl ?_
          refine zv_iload_n (pc' := 33) dX7_partnerIn_32 rfl rfl ?_
          refine zv_iload (pc' := 35) dX7_partnerIn_33 rfl rfl ?_
          refine zv_iload_n (pc' := 36) dX7_partnerIn_35 rfl rfl ?_
          refine zv_cV3_pi (pc' := 39) dX7_partnerIn_36 rfl lkX7_248 (by first | rfl | assumption) rfl (Nat.le_of_ble_eq_true rfl) (x7_isCouple hA hkk hv hk (by omega)) ?_
          refine zv_if_eq (pc' := 42) (tgt := 70) dX7_partnerIn_39 rfl rfl ?_ ?_
          · intro h2
            exact go (by rw [zb_0.mp h2, Bool.and_false]; rfl)
          · intro h2
            have h2 := zb_ne.mp h2
            refine zv_iconst (v := nI 1) (pc' := 43) dX7_partnerIn_42 rfl (by decide) ?_
            refine zv_aload_n (pc' := 44) dX7_partnerIn_43 rfl rfl ?_
            refine zv_getR (pc' := 47) dX7_partnerIn_44 rfl flX7_56 (by first | rfl | assumption) rfl ?_
            refine zv_iload (pc' := 49) dX7_partnerIn_47 rfl rfl ?_
            refine zv_iconst (v := nI 1) (pc' := 50) dX7_partnerIn_49 rfl (by decide) ?_
            refine zv_iload (pc' := 52) dX7_partnerIn_50 rfl rfl ?_
            refine zv_ishl (pc' := 53) dX7_partnerIn_52 rfl ?_
            refine zv_top (zsh1 q (by omega)) ?_
            refine zv_iconst (v := (-1 : Int32)) (pc' := 54) dX7_partnerIn_53 rfl (by decide) ?_
            refine zv_ixor (pc' := 55) dX7_partnerIn_54 rfl ?_
            refine zv_iand (pc' := 56) dX7_partnerIn_55 rfl ?_
            refine zv_top (bc_nI (by omega)) ?_
            refine zv_ialoadE (pc' := 57) dX7_partnerIn_56 rfl (by first | rfl | assumption) (by decide) (by omega) (by first | exact hN | exact hT _ (by omega) | rfl) ?_
            refine zv_iadd (pc' := 58) dX7_partnerIn_57 rfl ?_
            refine zv_top (nI_add _ _) ?_
            refine zv_aload_n (pc' := 59) dX7_partnerIn_58 rfl rfl ?_
            refine zv_getR (pc' := 62) dX7_partnerIn_59 rfl flX7_56 (by first | rfl | assumption) rfl ?_
            refine zv_iload_n (pc' := 63) dX7_partnerIn_62 rfl rfl ?_
            refine zv_ialoadE (pc' := 64) dX7_partnerIn_63 rfl (by first | rfl | assumption) (by decide) (by omega) (by first | exact hN | exact hT _ (by omega) | rfl) ?_
            refine zv_icmp_ne (pc' := 67) (tgt := 70) dX7_partnerIn_64 rfl rfl ?_ ?_
            · intro hne
              exact go (by
                have : ¬ 1 + T (bc R q) = T F := fun z => hne (by rw [z])
                simp [this])
            · intro heq
              have heq := (nI_eq (by omega) (by omega)).mp heq
              rw [if_pos (by rw [h, h2]; simpa using heq)] at hz
              rw [hz]
              refine zv_iload (pc' := 69) dX7_partnerIn_67 rfl rfl ?_
              refine zv_iret dX7_partnerIn_69 rfl ?_
              exact ⟨rfl, rfl⟩
      · exact Or.inr hz
  refine zex_intro (L := [some (.ref 90), some (.int (nI F)), some (.int (nI k)), some (.int (nI v)), none, none]) (by decide) (Nat.le_of_ble_eq_true rfl) rfl ?_
  refine zv_iload_n (pc' := 1) dX7_partnerIn_0 rfl rfl ?_
  refine zv_iconst (v := nI 1) (pc' := 2) dX7_partnerIn_1 rfl (by decide) ?_
  refine zv_iload_n (pc' := 3) dX7_partnerIn_2 rfl rfl ?_
  refine zv_ishl (pc' := 4) dX7_partnerIn_3 rfl ?_
  refine zv_top (zsh1 k (by omega)) ?_
  refine zv_iconst (v := (-1 : Int32)) (pc' := 5) dX7_partnerIn_4 rfl (by decide) ?_
  refine zv_ixor (pc' := 6) dX7_partnerIn_5 rfl ?_
  refine zv_iand (pc' := 7) dX7_partnerIn_6 rfl ?_
  refine zv_top (bc_nI (by omega)) ?_
  rw [hR']
  refine zv_istore (pc' := 9) dX7_partnerIn_7 rfl (by decide) ?_
  refine zv_iconst (v := nI 0) (pc' := 10) dX7_partnerIn_9 rfl (by decide) ?_
  refine zv_istore (pc' := 12) dX7_partnerIn_10 rfl (by decide) ?_
  rcases lp (yN c) 0 (by omega) with h | h
  · exact h
  · exact absurd rfl h
theorem x7_partnerOf {x : Nat} {T : Nat → Nat} (hA : zAm M c) (hkk : zOk c) (hv : v ≤ 99) (hx : x < yN c) (hT : ∀ R, R < 2 ^ yN c → M 105 R = nI (T R)) (hTl : ∀ R, T R ≤ R) : ZPi mdX7_partnerOf (d + 3) [.ref 90, .int (nI x), .int (nI v)] M (optI ((chS c v T (2 ^ yN c - 1) (yN c)).2 x)) := by
  have hn8 := hkk.1
  have h256 := p2_le hn8
  have hp1 : 0 < 2 ^ yN c := Nat.pow_pos (by decide)
  have hN := hA.1
  have hF0 : 2 ^ yN c - 1 < 256 := by omega
  have lp : ∀ b k, yN c - k ≤ b → k ≤ yN c → (chS c v T (2 ^ yN c - 1) k).1.testBit x = true → ZV mdX7_partnerOf (d + 3) (fun y M' => y = some (.int (optI ((chS c v T (2 ^ yN c - 1) (yN c)).2 x))) ∧ M' = M) 9 [some (.ref 90), some (.int (nI x)), some (.int (nI v)), some (.int (nI (chS c v T (2 ^ yN c - 1) k).1)), none, none] [] M := by
    intro b
    induction b with
    | zero =>
      intro k h1 h2 h3
      have e : k = yN c := by omega
      have := (chS_ok (c := c) (v := v) (T := T) hF0 k).2.1 x (by omega)
      rw [h3] at this
      cases this
    | succ b ih =>
      intro k h1 h2 h3
      obtain ⟨f1, f2, f3⟩ := chS_ok (c := c) (v := v) (T := T) hF0 k
      have hF : (chS c v T (2 ^ yN c - 1) k).1 < 256 := by omega
      have hpos : 0 < (chS c v T (2 ^ yN c - 1) k).1 := by
        rcases Nat.eq_zero_or_pos (chS c v T (2 ^ yN c - 1) k).1 with z | z
        · rw [z, Nat.zero_testBit] at h3; cases h3
        · exact z
      obtain ⟨w1, w2, w3⟩ := lw_of hpos hF
      have w4 := lw_n hpos hF (show (chS c v T (2 ^ yN c - 1) k).1 < 2 ^ yN c by omega)
      have wk : k ≤ lw (chS c v T (2 ^ yN c - 1) k).1 := by
        rcases Nat.lt_or_ge (lw (chS c v T (2 ^ yN c - 1) k).1) k with z | z
        · rw [f2 _ z] at w1; cases w1
        · exact z
      have low := x7_lowest (d := d + 1) (M := M) hpos hF
      have sk : chS c v T (2 ^ yN c - 1) (k + (lw (chS c v T (2 ^ yN c - 1) k).1 - k)) = chS c v T (2 ^ yN c - 1) k := chS_skip _ (fun y g1 g2 => w3 y (by omega))
      generalize lw (chS c v T (2 ^ yN c - 1) k).1 = j at w1 w2 w3 w4 wk low sk
      rw [show k + (j - k) = j by omega] at sk
      have nx : chS c v T (2 ^ yN c - 1) (j + 1) = chF c v T j (chS c v T (2 ^ yN c - 1) k) := by rw [chS, sk]
      have fini : ∀ y, (chS c v T (2 ^ yN c - 1) (j + 1)).1.testBit x = false → (chS c v T (2 ^ yN c - 1) (j + 1)).2 x = y → (chS c v T (2 ^ yN c - 1) (yN c)).2 x = y := by
        intro y g1 g2
        have := (chS_stays hF0 g1 (yN c - (j + 1))).2
        rw [show j + 1 + (yN c - (j + 1)) = yN c by omega, g2] at this
        exact this
      have ihj := ih (j + 1) (by omega) (by omega)
      rw [nx] at ihj fini
      rw [chF, if_pos w1] at ihj fini
      refine zv_iload_n (pc' := 10) dX7_partnerOf_9 rfl rfl ?_
      refine zv_if_eq (pc' := 13) (tgt := 78) dX7_partnerOf_10 rfl rfl (fun hcc => absurd hcc (nI_ne0 hpos (by omega))) (fun _ => ?_)
      refine zv_iload_n (pc' := 14) dX7_partnerOf_13 rfl rfl ?_
      refine zv_cS1_pi (pc' := 17) dX7_partnerOf_14 rfl lkX7_245 (Nat.le_of_ble_eq_true rfl) (low) ?_
      refine zv_istore (pc' := 19) dX7_partnerOf_17 rfl (by decide) ?_
      refine zv_aload_n (pc' := 20) dX7_partnerOf_19 rfl rfl ?_
      refine zv_iload_n (pc' := 21) dX7_partnerOf_20 rfl rfl ?_
      refine zv_iload (pc' := 23) dX7_partnerOf_21 rfl rfl ?_
      refine zv_iload_n (pc' := 24) dX7_partnerOf_23 rfl rfl ?_
      refine zv_cV3_pi (pc' := 27) dX7_partnerOf_24 rfl lkX7_251 (by first | rfl | assumption) rfl (Nat.le_of_ble_eq_true rfl) (x7_partnerIn hA hkk hv (by omega) w4 hT hTl) ?_
      refine zv_istore (pc' := 29) dX7_partnerOf_27 rfl (by decide) ?_
      refine zv_iload (pc' := 31) dX7_partnerOf_29 rfl rfl ?_
      refine zv_iload_n (pc' := 32) dX7_partnerOf_31 rfl rfl ?_
      cases e : cpP c v T (chS c v T (2 ^ yN c - 1) k).1 j with
      | none =>
        rw [e] at ihj fini
        have ihj : (bc (chS c v T (2 ^ yN c - 1) k).1 j).testBit x = true → _ := ihj
        have fini : ∀ y, (bc (chS c v T (2 ^ yN c - 1) k).1 j).testBit x = false → (chS c v T (2 ^ yN c - 1) k).2 x = y → _ := fini
        refine zv_eq (L2 := [some (.ref 90), some (.int (nI x)), some (.int (nI v)), some (.int (nI (chS c v T (2 ^ yN c - 1) k).1)), some (.int (nI j)), some (.int (-9))]) rfl (st2 := [.int (nI x), .int (nI j)]) rfl rfl ?_
        refine zv_icmp_ne (pc' := 35) (tgt := 38) dX7_partnerOf_32 rfl rfl ?_ ?_
        · intro hjx
          have hjx : x ≠ j := fun z => hjx (by rw [z])
          refine zv_iload (pc' := 40) dX7_partnerOf_38 rfl rfl ?_
          refine zv_iload_n (pc' := 41) dX7_partnerOf_40 rfl rfl ?_
          refine zv_icmp_ne (pc' := 44) (tgt := 47) dX7_partnerOf_41 rfl rfl (fun _ => ?_) (fun hcc => absurd hcc ((by decide +kernel : ∀ x, x < 8 → ¬ (-9 : Int32) = nI x) x (by omega)))
          refine zv_iload_n (pc' := 48) dX7_partnerOf_47 rfl rfl ?_
          refine zv_iload (pc' := 50) dX7_partnerOf_48 rfl rfl ?_
          refine zv_if_ge (pc' := 53) (tgt := 62) dX7_partnerOf_50 rfl rfl (fun hcc => absurd hcc (by decide)) (fun _ => ?_)
          refine zv_iconst (v := nI 1) (pc' := 54) dX7_partnerOf_53 rfl (by decide) ?_
          refine zv_iload (pc' := 56) dX7_partnerOf_54 rfl rfl ?_
          refine zv_ishl (pc' := 57) dX7_partnerOf_56 rfl ?_
          refine zv_top (zsh1 j (by omega)) ?_
          refine zv_iconst (v := (-1 : Int32)) (pc' := 58) dX7_partnerOf_57 rfl (by decide) ?_
          refine zv_ixor (pc' := 59) dX7_partnerOf_58 rfl ?_
          refine zv_goto (pc' := 73) dX7_partnerOf_59 rfl ?_
          refine zv_iand (pc' := 74) dX7_partnerOf_73 rfl ?_
          refine zv_top (bc_nI hF) ?_
          refine zv_istore_n (pc' := 75) dX7_partnerOf_74 rfl (by decide) ?_
          refine zv_goto (pc' := 9) dX7_partnerOf_75 rfl ?_
          refine zv_fg [4, 5] ?_
          exact ihj (by rw [bc_tb hF, h3]; simp [hjx])
        · intro hjx
          have hjx := (nI_eq (by omega) (by omega)).mp hjx
          subst hjx
          refine zv_iload (pc' := 37) dX7_partnerOf_35 rfl rfl ?_
          refine zv_iret dX7_partnerOf_37 rfl ?_
          rw [fini none (by rw [bc_tb hF]; simp) (f3 j w1)]
          exact ⟨rfl, rfl⟩
      | some o =>
        rw [e] at ihj fini
        have ho := cpP_of e
        have hoj : o ≠ j := fun z => by
          have := ho.2
          rw [bc_tb hF, z] at this
          simp at this
        have ihj : (bc (bc (chS c v T (2 ^ yN c - 1) k).1 j) o).testBit x = true → _ := ihj
        have fini : ∀ y, (bc (bc (chS c v T (2 ^ yN c - 1) k).1 j) o).testBit x = false → fu (fu (chS c v T (2 ^ yN c - 1) k).2 j (some o)) o (some j) x = y → _ := fini
        refine zv_eq (L2 := [some (.ref 90), some (.int (nI x)), some (.int (nI v)), some (.int (nI (chS c v T (2 ^ yN c - 1) k).1)), some (.int (nI j)), some (.int (nI o))]) rfl (st2 := [.int (nI x), .int (nI j)]) rfl rfl ?_
        refine zv_icmp_ne (pc' := 35) (tgt := 38) dX7_partnerOf_32 rfl rfl ?_ ?_
        · intro hjx
          have hjx : x ≠ j := fun z => hjx (by rw [z])
          refine zv_iload (pc' := 40) dX7_partnerOf_38 rfl rfl ?_
          refine zv_iload_n (pc' := 41) dX7_partnerOf_40 rfl rfl ?_
          refine zv_icmp_ne (pc' := 44) (tgt := 47) dX7_partnerOf_41 rfl rfl ?_ ?_
          · intro hox
            have hox : x ≠ o := fun z => hox (by rw [z])
            refine zv_iload_n (pc' := 48) dX7_partnerOf_47 rfl rfl ?_
            refine zv_iload (pc' := 50) dX7_partnerOf_48 rfl rfl ?_
            refine zv_if_ge (pc' := 53) (tgt := 62) dX7_partnerOf_50 rfl rfl (fun _ => ?_) (fun hcc => absurd (nI_pos' (by omega)) hcc)
            refine zv_iconst (v := nI 1) (pc' := 63) dX7_partnerOf_62 rfl (by decide) ?_
            refine zv_iload (pc' := 65) dX7_partnerOf_63 rfl rfl ?_
            refine zv_ishl (pc' := 66) dX7_partnerOf_65 rfl ?_
            refine zv_top (zsh1 j (by omega)) ?_
            refine zv_iconst (v := nI 1) (pc' := 67) dX7_partnerOf_66 rfl (by decide) ?_
            refine zv_iload (pc' := 69) dX7_partnerOf_67 rfl rfl ?_
            refine zv_ishl (pc' := 70) dX7_partnerOf_69 rfl ?_
            refine zv_top (zsh1 o (by omega)) ?_
            refine zv_ior (pc' := 71) dX7_partnerOf_70 rfl ?_
            refine zv_iconst (v := (-1 : Int32)) (pc' := 72) dX7_partnerOf_71 rfl (by decide) ?_
            refine zv_ixor (pc' := 73) dX7_partnerOf_72 rfl ?_
            refine zv_iand (pc' := 74) dX7_partnerOf_73 rfl ?_
            refine zv_top (bc2_nI hF) ?_
            refine zv_istore_n (pc' := 75) dX7_partnerOf_74 rfl (by decide) ?_
            refine zv_goto (pc' := 9) dX7_partnerOf_75 rfl ?_
            refine zv_fg [4, 5] ?_
            exact ihj (by rw [bc_tb bc_lt, bc_tb hF, h3]; simp [hjx, hox])
          · intro hox
            have hox := (nI_eq (by omega) (by omega)).mp hox
            subst hox
            refine zv_iload (pc' := 46) dX7_partnerOf_44 rfl rfl ?_
            refine zv_iret dX7_partnerOf_46 rfl ?_
            rw [fini (some j) (by rw [bc_tb bc_lt]; simp) fu_s]
            exact ⟨rfl, rfl⟩
        · intro hjx
          have hjx := (nI_eq (by omega) (by omega)).mp hjx
          subst hjx
          refine zv_iload (pc' := 37) dX7_partnerOf_35 rfl rfl ?_
          refine zv_iret dX7_partnerOf_37 rfl ?_
          rw [fini (some o) (by rw [bc_tb bc_lt, bc_tb hF]; simp) (by rw [fu_n (Ne.symm hoj), fu_s])]
          exact ⟨rfl, rfl⟩
  refine zex_intro (L := [some (.ref 90), some (.int (nI x)), some (.int (nI v)), none, none, none]) (by decide) (Nat.le_of_ble_eq_true rfl) rfl ?_
  refine zv_iconst (v := nI 1) (pc' := 1) dX7_partnerOf_0 rfl (by decide) ?_
  refine zv_aload_n (pc' := 2) dX7_partnerOf_1 rfl rfl ?_
  refine zv_getIE (pc' := 5) dX7_partnerOf_2 rfl flX7_65 (by first | rfl | assumption) rfl (by first | exact hN | rfl) ?_
  refine zv_ishl (pc' := 6) dX7_partnerOf_5 rfl ?_
  refine zv_top (zsh1 (yN c) (by omega)) ?_
  refine zv_iconst (v := nI 1) (pc' := 7) dX7_partnerOf_6 rfl (by decide) ?_
  refine zv_isub (pc' := 8) dX7_partnerOf_7 rfl ?_
  refine zv_top (pk_sub (by omega)) ?_
  refine zv_istore_n (pc' := 9) dX7_partnerOf_8 rfl (by decide) ?_
  exact lp (yN c) 0 (by omega) (by omega) (by show (2 ^ yN c - 1).testBit x = true; rw [Nat.testBit_two_pow_sub_one]; simpa using hx)
end
section
variable {d : Nat}
theorem gm_couples (v x : Int32) : zGm mdX7_couples (d + 4) [.int v, .int x] (sp_couples v x) := by
  intro M s hI hk
  have hn8 := hk.1.1
  have hN := hI.1.1
  have h256 := p2_le hn8
  have hp1 : 0 < 2 ^ yN (sC s) := Nat.pow_pos (by decide)
  have fin : ∀ u, u < 7 → u = fiN (bdN v (nI 0) (nI 99)) (if x = -1 then 0 else nbN (yN (sC s)) x) 0 → ZV mdX7_couples (d + 4) (fun v' M' => ∃ r, v' = some (.int r) ∧ (r = (sp_couples v x s).1 ∧ zIm M' (sp_couples v x s).2 ∧ ∀ k, k < 90 → M' k = M k)) 27 [some (.ref 90), some (.int v), some (.int x), some (.int (-nI u))] [] M := by
    intro u hu hue
    refine zv_iload_n (pc' := 28) dX7_couples_27 rfl rfl ?_
    refine zv_if_eq (pc' := 31) (tgt := 37) dX7_couples_28 rfl rfl ?_ ?_
    · intro h
      have h0 := (neg_w0 _ hu).mp h
      rw [hue] at h0
      obtain ⟨g1, g2, -⟩ := fiN_0.mp h0
      obtain ⟨v, -, hv, rfl⟩ := isInB_of (by decide) (bdN_0.mp g1) (by decide)
      refine zv_aload_n (pc' := 38) dX7_couples_37 rfl rfl ?_
      refine zv_iload_n (pc' := 39) dX7_couples_38 rfl rfl ?_
      refine zv_cV1_fv (pc' := 42) dX7_couples_39 rfl lkX7_254 (by first | rfl | assumption) rfl (Nat.le_of_ble_eq_true rfl) (x7_findCouples hI.1 hk.1 hv) ?_
      rintro M1 ⟨hT, s1⟩
      have hA1 := hI.1.same s1 (by simp; omega) (by simp)
      have hN1 := hA1.1
      refine zv_iload_n (pc' := 43) dX7_couples_42 rfl rfl ?_
      by_cases hx : x = -1
      · subst hx
        refine zv_if_ge (pc' := 46) (tgt := 62) dX7_couples_43 rfl rfl (fun hcc => absurd hcc (by decide)) (fun _ => ?_)
        refine zv_aload_n (pc' := 47) dX7_couples_46 rfl rfl ?_
        refine zv_getR (pc' := 50) dX7_couples_47 rfl flX7_56 (by first | rfl | assumption) rfl ?_
        refine zv_iconst (v := nI 1) (pc' := 51) dX7_couples_50 rfl (by decide) ?_
        refine zv_aload_n (pc' := 52) dX7_couples_51 rfl rfl ?_
        refine zv_getIE (pc' := 55) dX7_couples_52 rfl flX7_65 (by first | rfl | assumption) rfl (by first | exact hN1 | exact hT _ (by omega) | rfl) ?_
        refine zv_ishl (pc' := 56) dX7_couples_55 rfl ?_
        refine zv_top (zsh1 (yN (sC s)) (by omega)) ?_
        refine zv_iconst (v := nI 1) (pc' := 57) dX7_couples_56 rfl (by decide) ?_
        refine zv_isub (pc' := 58) dX7_couples_57 rfl ?_
        refine zv_top (pk_sub (by omega)) ?_
        refine zv_ialoadE (pc' := 59) dX7_couples_58 rfl (by first | rfl | assumption) (by decide) (by omega) (by first | exact hN1 | exact hT _ (by omega) | rfl) ?_
        refine zv_goto (pc' := 68) dX7_couples_59 rfl ?_
        refine zv_iret dX7_couples_68 rfl ?_
        exact zdonme (by rw [sp_couples, zans_0 h0, if_pos rfl, pN_nI (by omega)]) hI (zTe.cp hI.1 s1)
      · have g2' := g2
        rw [if_neg hx] at g2'
        obtain ⟨p, hp, rfl⟩ := hasB_of hn8 (nbN_0.mp g2')
        refine zv_if_ge (pc' := 46) (tgt := 62) dX7_couples_43 rfl rfl (fun _ => ?_) (fun hcc => absurd (nI_pos' (by omega)) hcc)
        refine zv_aload_n (pc' := 63) dX7_couples_62 rfl rfl ?_
        refine zv_iload_n (pc' := 64) dX7_couples_63 rfl rfl ?_
        refine zv_iload_n (pc' := 65) dX7_couples_64 rfl rfl ?_
        refine zv_cV2_pi (pc' := 68) dX7_couples_65 rfl lkX7_257 (by first | rfl | assumption) rfl (Nat.le_of_ble_eq_true rfl) (x7_partnerOf hA1 hk.1 hv hp hT (cpT_le _ h256)) ?_
        refine zv_iret dX7_couples_68 rfl ?_
        exact zdonme (by rw [sp_couples, zans_0 h0, if_neg hx, pN_nI (by omega), pN_nI (by omega)]) hI (zTe.cp hI.1 s1)
    · intro h
      have h0 := mt (neg_w0 _ hu).mpr h
      refine zv_aload_n (pc' := 32) dX7_couples_31 rfl rfl ?_
      refine zv_iload_n (pc' := 33) dX7_couples_32 rfl rfl ?_
      refine zv_cV1_fi (pc' := 36) dX7_couples_33 rfl lkX7_89 (by first | rfl | assumption) rfl (Nat.le_of_ble_eq_true rfl) (x7_no hu) ?_
      rintro r M1 ⟨rfl, rfl⟩
      refine zv_iret dX7_couples_36 rfl ?_
      rw [sp_couples, ← hue]
      exact zrefm hI h0
  refine zex_intro (L := [some (.ref 90), some (.int v), some (.int x), none]) (by decide) (Nat.le_of_ble_eq_true rfl) rfl ?_
  refine zv_iload_n (pc' := 1) dX7_couples_0 rfl rfl ?_
  refine zv_iconst (v := nI 0) (pc' := 2) dX7_couples_1 rfl (by decide) ?_
  refine zv_bipush (v := nI 99) (pc' := 4) dX7_couples_2 rfl (by decide) ?_
  refine zv_cS3_pi (pc' := 7) dX7_couples_4 rfl lkX7_82 (Nat.le_of_ble_eq_true rfl) (x7_bound) ?_
  refine zv_istore_n (pc' := 8) dX7_couples_7 rfl (by decide) ?_
  refine zv_iload_n (pc' := 9) dX7_couples_8 rfl rfl ?_
  refine zv_if_ne (pc' := 12) (tgt := 27) dX7_couples_9 rfl rfl ?_ ?_
  · intro h
    have h := mt (neg_w0 _ bdN_lt).mpr h
    exact fin _ bdN_lt (by rw [fiN, if_neg h])
  · intro h
    have h := (neg_w0 _ bdN_lt).mp h
    refine zv_iload_n (pc' := 13) dX7_couples_12 rfl rfl ?_
    refine zv_iconst (v := (-1 : Int32)) (pc' := 14) dX7_couples_13 rfl (by decide) ?_
    refine zv_icmp_eq (pc' := 17) (tgt := 27) dX7_couples_14 rfl rfl ?_ ?_
    · intro hx
      exact fin _ bdN_lt (by rw [fiN, if_pos h, if_pos (by rw [if_pos hx]), h])
    · intro hx
      refine zv_aload_n (pc' := 18) dX7_couples_17 rfl rfl ?_
      refine zv_iload_n (pc' := 19) dX7_couples_18 rfl rfl ?_
      refine zv_cV1_pi (pc' := 22) dX7_couples_19 rfl lkX7_71 (by first | rfl | assumption) rfl (Nat.le_of_ble_eq_true rfl) (x7_isOne hN) ?_
      refine zv_if_ne (pc' := 25) (tgt := 27) dX7_couples_22 rfl rfl ?_ ?_
      · intro h1
        exact fin _ bdN_lt (by rw [fiN, if_pos h, if_pos (by rw [if_neg hx]; exact nbN_0.mpr (zb_ne.mp h1)), h])
      · intro h1
        refine zv_iconst (v := (-1 : Int32)) (pc' := 26) dX7_couples_25 rfl (by decide) ?_
        refine zv_istore_n (pc' := 27) dX7_couples_26 rfl (by decide) ?_
        refine zv_eq (L2 := [some (.ref 90), some (.int v), some (.int x), some (.int (-nI 1))]) (by rw [show -nI 1 = (-1 : Int32) by decide]; rfl) rfl rfl ?_
        have e1 : nbN (yN (sC s)) x = 1 := by rw [nbN, if_neg (by rw [zb_0.mp h1]; decide)]
        exact fin 1 (by decide) (by rw [fiN, if_pos h, if_neg hx, e1]; rfl)
end
