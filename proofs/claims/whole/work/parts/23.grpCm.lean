/-! bestSign, bestCut, buys, feudCosts: the reference -/
theorem zm_eta {M : ZMem} {c : ZCty} {p q : Nat} {b : Bool} (hA : zAm M (signC c p q b)) (hb : fu2 (fu2 (yS c) p q b) p q (yS c p q) = yS c) : True := trivial
theorem sign_back {c : ZCty} {p q : Nat} {b : Bool} : setS (signC c p q b) (fu (yS (signC c p q b)) p (yS c p)) = c := by
  have e : fu (yS (signC c p q b)) p (yS c p) = yS c := by
    funext i
    unfold fu
    split
    · rename_i h; rw [h]
    · rename_i h
      funext j
      show fu2 (yS c) p q b i j = _
      rw [fu2_at, if_neg (fun z => h z.1)]
  rw [e]
  rfl
theorem mk_turned {f : Nat → Bool} {p q : Nat} (hp : p < 8) (hq : q < 8) (hpq : p ≠ q) : (nI (zm 8 (fun j => (f j && !decide (j = p)) && !decide (j = q))) ||| zb (f p) <<< (nI q &&& 31)) ||| zb (f q) <<< (nI p &&& 31) = nI (zm 8 (fun j => f (zsw p q j))) := by
  have hb : ∀ (b : Bool) (q : Nat), q < 8 → zb b <<< (nI q &&& 31) = nI (if b = true then 2 ^ q else 0) := by decide +kernel
  rw [hb _ q hq, hb _ p hp]
  refine mk_eq (fun i hi => ?_)
  rw [b_or, b_or, zm_bt hi, bt_nI hi, bt_nI hi]
  have ht : ∀ (b : Bool) (q : Nat), (if b = true then 2 ^ q else 0).testBit i = (b && decide (q = i)) := by
    intro b q
    cases b
    · simp
    · simp [Nat.testBit_two_pow]
  rw [ht, ht]
  unfold zsw
  by_cases h1 : i = p
  · subst h1
    simp [hp, Ne.symm hpq]
  · by_cases h2 : i = q
    · subst h2
      simp [hq, h1, Ne.symm h1]
    · simp [h1, h2, Ne.symm h1, Ne.symm h2]
section
variable {d : Nat} {M : ZMem} {c : ZCty}
theorem x7_moneySigning {p q n : Nat} (hA : zAm M c) (hk : zOk c) (hD : M 90 8 = absM 100) (hp : p < yN c) (hq : q < yN c) (hpq : p ≠ q) (hn : n < 2 ^ 31) : ZFi mdX7_moneySigning (d + 5) [.ref 90, .int (nI p), .int (nI q), .int (nI n)] M (fun r M' => r = nI (yM (yearsC n (signC c p q (!yS c p q))) p) ∧ zTd M M' c) := by
  have hn8 := hk.1
  have hA' := hA
  obtain ⟨hN, hY, hK, hF, hM, hS, hX⟩ := hA
  refine zex_intro (L := [some (.ref 90), some (.int (nI p)), some (.int (nI q)), some (.int (nI n)), none, none]) (by decide) (Nat.le_of_ble_eq_true rfl) rfl ?_
  refine zv_aload_n (pc' := 1) dX7_moneySigning_0 rfl rfl ?_
  refine zv_getR (pc' := 4) dX7_moneySigning_1 rfl flX7_22 (by first | rfl | assumption) rfl ?_
  refine zv_iload_n (pc' := 5) dX7_moneySigning_4 rfl rfl ?_
  refine zv_ialoadE (pc' := 6) dX7_moneySigning_5 rfl (by first | rfl | assumption) (by decide) (by omega) (by first | exact hN | exact hY | exact hM _ (by omega) | exact hS _ (by omega) | exact hX _ (by omega) | exact hK _ (by omega) | exact hF _ (by omega) | rfl) ?_
  refine zv_istore (pc' := 8) dX7_moneySigning_6 rfl (by decide) ?_
  refine zv_aload_n (pc' := 9) dX7_moneySigning_8 rfl rfl ?_
  refine zv_getR (pc' := 12) dX7_moneySigning_9 rfl flX7_22 (by first | rfl | assumption) rfl ?_
  refine zv_iload_n (pc' := 13) dX7_moneySigning_12 rfl rfl ?_
  refine zv_dup2 (pc' := 14) dX7_moneySigning_13 rfl rfl rfl ?_
  refine zv_ialoadE (pc' := 15) dX7_moneySigning_14 rfl (by first | rfl | assumption) (by decide) (by omega) (by first | exact hN | exact hY | exact hM _ (by omega) | exact hS _ (by omega) | exact hX _ (by omega) | exact hK _ (by omega) | exact hF _ (by omega) | rfl) ?_
  refine zv_iconst (v := nI 1) (pc' := 16) dX7_moneySigning_15 rfl (by decide) ?_
  refine zv_iload_n (pc' := 17) dX7_moneySigning_16 rfl rfl ?_
  refine zv_ishl (pc' := 18) dX7_moneySigning_17 rfl ?_
  refine zv_top (zsh1 q (by omega)) ?_
  refine zv_ixor (pc' := 19) dX7_moneySigning_18 rfl ?_
  refine zv_top (mk_xor1 (by omega)) ?_
  rw [fu_xor]
  refine zv_iastoreN (pc' := 20) dX7_moneySigning_19 rfl (by first | rfl | assumption) (by decide) (by omega) ?_
  have h1 : zAm (zup M 95 p (nI (zm 8 (fu (yS c p) q (!yS c p q))))) (signC c p q (!yS c p q)) := zAm_S hA'
  have hs1 : zFr [95] [] M (zup M 95 p (nI (zm 8 (fu (yS c p) q (!yS c p q))))) := zFr.up (by decide) (by decide)
  generalize zup M 95 p (nI (zm 8 (fu (yS c p) q (!yS c p q)))) = M1 at h1 hs1 ⊢
  refine zv_aload_n (pc' := 21) dX7_moneySigning_20 rfl rfl ?_
  refine zv_iload_n (pc' := 22) dX7_moneySigning_21 rfl rfl ?_
  refine zv_iload_n (pc' := 23) dX7_moneySigning_22 rfl rfl ?_
  refine zv_cV2_fi (pc' := 26) dX7_moneySigning_23 rfl lkX7_199 (by first | rfl | assumption) rfl (Nat.le_of_ble_eq_true rfl) (x7_moneyIn h1 (zOk_sign hk hp hq hpq) (by rw [hs1.2 _ (by decide)]; exact hD) hp hn) ?_
  rintro r M2 ⟨rfl, h2, h3, h4⟩
  refine zv_istore (pc' := 28) dX7_moneySigning_26 rfl (by decide) ?_
  refine zv_aload_n (pc' := 29) dX7_moneySigning_28 rfl rfl ?_
  refine zv_getR (pc' := 32) dX7_moneySigning_29 rfl flX7_22 (by first | rfl | assumption) rfl ?_
  refine zv_iload_n (pc' := 33) dX7_moneySigning_32 rfl rfl ?_
  refine zv_iload (pc' := 35) dX7_moneySigning_33 rfl rfl ?_
  refine zv_iastoreN (pc' := 36) dX7_moneySigning_35 rfl (by first | rfl | assumption) (by decide) (by omega) ?_
  refine zv_iload (pc' := 38) dX7_moneySigning_36 rfl rfl ?_
  refine zv_iret dX7_moneySigning_38 rfl ?_
  have h5 := zAm_S (i := p) (r := yS c p) h2
  rw [sign_back] at h5
  refine ⟨_, rfl, rfl, h5, ?_, fun i hi => ?_⟩
  · exact (hs1.mono (by simp) (by simp)).tr (h3.tr (zFr.up (by decide) (by decide)))
  · rw [zup_ne (by decide), h4 i hi, hs1.1 101 (by decide) (by decide)]
theorem bc_sign {t p q : Nat} (ht : t < 2) (h : mayB c t p q = true) : signC c p q (!yS c p q) = chC c t p q := by
  rcases (show t = 0 ∨ t = 1 by omega) with rfl | rfl
  · simp only [mayB, Bool.and_eq_true, Bool.not_eq_true'] at h
    show signC c p q (!yS c p q) = signC c p q true
    rw [h.1.2]; rfl
  · simp only [mayB, kinB, Bool.and_eq_true] at h
    show signC c p q (!yS c p q) = signC c p q false
    rw [h.1.1]; rfl
theorem x7_bestTurn {t p n : Nat} (ht : t < 2) (hA : zAm M c) (hk : zOk c) (hD : M 90 8 = absM 100) (hp : p < yN c) (hn : n < 2 ^ 31) : ZFi mdX7_bestTurn (d + 6) [.ref 90, .int (nI p), .int (nI n), .int (zb (decide (t = 0)))] M (fun r M' => r = optI (bcS c t p n (yN c)).1 ∧ zTd M M' c) := by
  have hn8 := hk.1
  have lp : ∀ r k M1, k + r = yN c → zTd M M1 c → ZV mdX7_bestTurn (d + 6) (fun v M' => ∃ r, v = some (.int r) ∧ (r = optI (bcS c t p n (yN c)).1 ∧ zTd M M' c)) 15 [some (.ref 90), some (.int (nI p)), some (.int (nI n)), some (.int (zb (decide (t = 0)))), some (.int (optI (bcS c t p n k).1)), some (.int (nI (bcS c t p n k).2)), some (.int (nI k)), none, none] [] M1 := by
    intro r
    induction r with
    | zero =>
      intro k M1 e ht1
      have e : k = yN c := by omega
      subst e
      have hN := ht1.1.1
      refine zv_iload (pc' := 17) dX7_bestTurn_15 rfl rfl ?_
      refine zv_aload_n (pc' := 18) dX7_bestTurn_17 rfl rfl ?_
      refine zv_getIE (pc' := 21) dX7_bestTurn_18 rfl flX7_65 (by first | rfl | assumption) rfl (by first | exact hN | exact hY | exact hM _ (by omega) | exact hS _ (by omega) | exact hX _ (by omega) | exact hK _ (by omega) | exact hF _ (by omega) | rfl) ?_
      refine zv_icmp_ge (pc' := 24) (tgt := 137) dX7_bestTurn_21 rfl rfl (fun _ => ?_) (fun hcc => absurd (Int32.le_refl _) hcc)
      refine zv_iload (pc' := 139) dX7_bestTurn_137 rfl rfl ?_
      refine zv_iret dX7_bestTurn_139 rfl ?_
      exact ⟨_, rfl, rfl, ht1⟩
    | succ r ih =>
      intro k M1 e ht1
      obtain ⟨hN, hY, hK, hF, hM, hS, hX⟩ := ht1.1
      have hle := bcS_le (t := t) (n := n) (k := k) hk hp (by omega)
      have stay : ∀ (L7 L8 : Option Value) (M2 : ZMem), zTd M M2 c → bcS c t p n (k + 1) = bcS c t p n k → ZV mdX7_bestTurn (d + 6) (fun v M' => ∃ r, v = some (.int r) ∧ (r = optI (bcS c t p n (yN c)).1 ∧ zTd M M' c)) 131 [some (.ref 90), some (.int (nI p)), some (.int (nI n)), some (.int (zb (decide (t = 0)))), some (.int (optI (bcS c t p n k).1)), some (.int (nI (bcS c t p n k).2)), some (.int (nI k)), L7, L8] [] M2 := by
        intro L7 L8 M2 ht2 eb
        refine zv_iinc (w := nI 1) (pc' := 134) dX7_bestTurn_131 rfl rfl (by decide) (by decide) ?_
        refine zv_goto (pc' := 15) dX7_bestTurn_134 rfl ?_
        refine zv_fg [7, 8] ?_
        have := ih (k + 1) M2 (by omega) ht2
        rw [eb] at this
        rw [nI_add]
        exact this
      have mid : ZV mdX7_bestTurn (d + 6) (fun v M' => ∃ r, v = some (.int r) ∧ (r = optI (bcS c t p n (yN c)).1 ∧ zTd M M' c)) 91 [some (.ref 90), some (.int (nI p)), some (.int (nI n)), some (.int (zb (decide (t = 0)))), some (.int (optI (bcS c t p n k).1)), some (.int (nI (bcS c t p n k).2)), some (.int (nI k)), none, none] [.int (zb (mayB c t p k))] M1 := by
        refine zv_istore (pc' := 93) dX7_bestTurn_91 rfl (by decide) ?_
        refine zv_iload (pc' := 95) dX7_bestTurn_93 rfl rfl ?_
        refine zv_if_eq (pc' := 98) (tgt := 109) dX7_bestTurn_95 rfl rfl ?_ ?_
        · intro h
          refine zv_bipush (v := (-9 : Int32)) (pc' := 111) dX7_bestTurn_109 rfl (by decide) ?_
          refine zv_istore (pc' := 113) dX7_bestTurn_111 rfl (by decide) ?_
          refine zv_iload (pc' := 115) dX7_bestTurn_113 rfl rfl ?_
          refine zv_iload (pc' := 117) dX7_bestTurn_115 rfl rfl ?_
          refine zv_icmp_gt (pc' := 120) (tgt := 123) dX7_bestTurn_117 rfl rfl (fun hcc => absurd hcc ((by decide +kernel : ∀ v, v < 100 → ¬ nI v < (-9 : Int32)) _ (by omega))) (fun _ => ?_)
          refine zv_goto (pc' := 131) dX7_bestTurn_120 rfl ?_
          exact stay _ _ M1 ht1 (by rw [bcS, if_neg (by rw [zb_0.mp h]; simp)])
        · intro h
          have hmay := zb_ne.mp h
          have hne := mayB_ne hk hmay
          have hch := zOk_ch (t := t) hk hp (show k < yN c by omega) hne
          have hb := (zOk_years (k := n) hch.1).1.2.2.2.1 p
          refine zv_aload_n (pc' := 99) dX7_bestTurn_98 rfl rfl ?_
          refine zv_iload_n (pc' := 100) dX7_bestTurn_99 rfl rfl ?_
          refine zv_iload (pc' := 102) dX7_bestTurn_100 rfl rfl ?_
          refine zv_iload_n (pc' := 103) dX7_bestTurn_102 rfl rfl ?_
          refine zv_cV3_fi (pc' := 106) dX7_bestTurn_103 rfl lkX7_226 (by first | rfl | assumption) rfl (Nat.le_of_ble_eq_true rfl) (x7_moneySigning ht1.1 hk (by rw [ht1.dead]; exact hD) hp (by omega) hne hn) ?_
          rintro r' M2 ⟨rfl, ht2⟩
          rw [bc_sign ht hmay]
          have t2 := ht1.tr ht2
          refine zv_goto (pc' := 111) dX7_bestTurn_106 rfl ?_
          refine zv_istore (pc' := 113) dX7_bestTurn_111 rfl (by decide) ?_
          refine zv_iload (pc' := 115) dX7_bestTurn_113 rfl rfl ?_
          refine zv_iload (pc' := 117) dX7_bestTurn_115 rfl rfl ?_
          refine zv_icmp_gt (pc' := 120) (tgt := 123) dX7_bestTurn_117 rfl rfl ?_ ?_
          · intro hz
            have hz := (nI_ltI (by omega) (by omega)).mp hz
            have eb : bcS c t p n (k + 1) = (some k, yM (yearsC n (chC c t p k)) p) := by rw [bcS, if_pos ⟨hmay, hz⟩]
            have := ih (k + 1) M2 (by omega) t2
            rw [eb] at this
            refine zv_iload (pc' := 125) dX7_bestTurn_123 rfl rfl ?_
            refine zv_istore (pc' := 127) dX7_bestTurn_125 rfl (by decide) ?_
            refine zv_iload (pc' := 129) dX7_bestTurn_127 rfl rfl ?_
            refine zv_istore (pc' := 131) dX7_bestTurn_129 rfl (by decide) ?_
            refine zv_iinc (w := nI 1) (pc' := 134) dX7_bestTurn_131 rfl rfl (by decide) (by decide) ?_
            refine zv_goto (pc' := 15) dX7_bestTurn_134 rfl ?_
            refine zv_fg [7, 8] ?_
            rw [nI_add]
            exact this
          · intro hz
            have hz := mt (nI_ltI (a := (bcS c t p n k).2) (b := yM (yearsC n (chC c t p k)) p) (by omega) (by omega)).mpr hz
            refine zv_goto (pc' := 131) dX7_bestTurn_120 rfl ?_
            exact stay _ _ M2 t2 (by rw [bcS, if_neg (by omega)])
      refine zv_iload (pc' := 17) dX7_bestTurn_15 rfl rfl ?_
      refine zv_aload_n (pc' := 18) dX7_bestTurn_17 rfl rfl ?_
      refine zv_getIE (pc' := 21) dX7_bestTurn_18 rfl flX7_65 (by first | rfl | assumption) rfl (by first | exact hN | exact hY | exact hM _ (by omega) | exact hS _ (by omega) | exact hX _ (by omega) | exact hK _ (by omega) | exact hF _ (by omega) | rfl) ?_
      refine zv_icmp_ge (pc' := 24) (tgt := 137) dX7_bestTurn_21 rfl rfl (fun hcc => absurd hcc (nI_ge (by omega) (by omega))) (fun _ => ?_)
      refine zv_iload_n (pc' := 25) dX7_bestTurn_24 rfl rfl ?_
      rcases (show t = 0 ∨ t = 1 by omega) with rfl | rfl
      · have no : mayB c 0 p k = false → ZV mdX7_bestTurn (d + 6) (fun v M' => ∃ r, v = some (.int r) ∧ (r = optI (bcS c 0 p n (yN c)).1 ∧ zTd M M' c)) 80 [some (.ref 90), some (.int (nI p)), some (.int (nI n)), some (.int (zb (decide (0 = 0)))), some (.int (optI (bcS c 0 p n k).1)), some (.int (nI (bcS c 0 p n k).2)), some (.int (nI k)), none, none] [] M1 := by
          intro hb
          rw [hb] at mid
          refine zv_iconst (v := nI 0) (pc' := 81) dX7_bestTurn_80 rfl (by decide) ?_
          refine zv_goto (pc' := 91) dX7_bestTurn_81 rfl ?_
          exact mid
        refine zv_if_eq (pc' := 28) (tgt := 84) dX7_bestTurn_25 rfl rfl (fun hcc => absurd hcc (by decide)) (fun _ => ?_)
        refine zv_iload_n (pc' := 29) dX7_bestTurn_28 rfl rfl ?_
        refine zv_iload (pc' := 31) dX7_bestTurn_29 rfl rfl ?_
        refine zv_icmp_eq (pc' := 34) (tgt := 80) dX7_bestTurn_31 rfl rfl ?_ ?_
        · intro h
          have h := (nI_eq (by omega) (by omega)).mp h
          refine no ?_
          cases hb : mayB c 0 p k
          · rfl
          · exact absurd h (mayB_ne hk hb)
        · intro h
          refine zv_aload_n (pc' := 35) dX7_bestTurn_34 rfl rfl ?_
          refine zv_getR (pc' := 38) dX7_bestTurn_35 rfl flX7_22 (by first | rfl | assumption) rfl ?_
          refine zv_iload (pc' := 40) dX7_bestTurn_38 rfl rfl ?_
          refine zv_ialoadE (pc' := 41) dX7_bestTurn_40 rfl (by first | rfl | assumption) (by decide) (by omega) (by first | exact hN | exact hY | exact hM _ (by omega) | exact hS _ (by omega) | exact hX _ (by omega) | exact hK _ (by omega) | exact hF _ (by omega) | rfl) ?_
          refine zv_iload_n (pc' := 42) dX7_bestTurn_41 rfl rfl ?_
          refine zv_cS2_pi (pc' := 45) dX7_bestTurn_42 rfl lkX7_75 (Nat.le_of_ble_eq_true rfl) (x7_hasM (by omega)) ?_
          refine zv_if_eq (pc' := 48) (tgt := 80) dX7_bestTurn_45 rfl rfl ?_ ?_
          · intro h2
            exact no (by simp [mayB, zb_0.mp h2])
          · intro h2
            refine zv_aload_n (pc' := 49) dX7_bestTurn_48 rfl rfl ?_
            refine zv_getR (pc' := 52) dX7_bestTurn_49 rfl flX7_25 (by first | rfl | assumption) rfl ?_
            refine zv_iload_n (pc' := 53) dX7_bestTurn_52 rfl rfl ?_
            refine zv_ialoadE (pc' := 54) dX7_bestTurn_53 rfl (by first | rfl | assumption) (by decide) (by omega) (by first | exact hN | exact hY | exact hM _ (by omega) | exact hS _ (by omega) | exact hX _ (by omega) | exact hK _ (by omega) | exact hF _ (by omega) | rfl) ?_
            refine zv_iload (pc' := 56) dX7_bestTurn_54 rfl rfl ?_
            refine zv_cS2_pi (pc' := 59) dX7_bestTurn_56 rfl lkX7_75 (Nat.le_of_ble_eq_true rfl) (x7_hasM (by omega)) ?_
            refine zv_if_ne (pc' := 62) (tgt := 80) dX7_bestTurn_59 rfl rfl ?_ ?_
            · intro h3
              exact no (by simp [mayB, zb_ne.mp h3])
            · intro h3
              refine zv_aload_n (pc' := 63) dX7_bestTurn_62 rfl rfl ?_
              refine zv_getR (pc' := 66) dX7_bestTurn_63 rfl flX7_22 (by first | rfl | assumption) rfl ?_
              refine zv_iload_n (pc' := 67) dX7_bestTurn_66 rfl rfl ?_
              refine zv_ialoadE (pc' := 68) dX7_bestTurn_67 rfl (by first | rfl | assumption) (by decide) (by omega) (by first | exact hN | exact hY | exact hM _ (by omega) | exact hS _ (by omega) | exact hX _ (by omega) | exact hK _ (by omega) | exact hF _ (by omega) | rfl) ?_
              refine zv_iload (pc' := 70) dX7_bestTurn_68 rfl rfl ?_
              refine zv_cS2_pi (pc' := 73) dX7_bestTurn_70 rfl lkX7_75 (Nat.le_of_ble_eq_true rfl) (x7_hasM (by omega)) ?_
              refine zv_if_ne (pc' := 76) (tgt := 80) dX7_bestTurn_73 rfl rfl ?_ ?_
              · intro h4
                exact no (by simp [mayB, zb_ne.mp h4])
              · intro h4
                have hb : mayB c 0 p k = true := by simp [mayB, zb_ne.mp h2, zb_0.mp h3, zb_0.mp h4]
                rw [hb] at mid
                refine zv_iconst (v := nI 1) (pc' := 77) dX7_bestTurn_76 rfl (by decide) ?_
                refine zv_goto (pc' := 91) dX7_bestTurn_77 rfl ?_
                exact mid
      · refine zv_if_eq (pc' := 28) (tgt := 84) dX7_bestTurn_25 rfl rfl (fun _ => ?_) (fun hcc => absurd (rfl) hcc)
        refine zv_aload_n (pc' := 85) dX7_bestTurn_84 rfl rfl ?_
        refine zv_iload_n (pc' := 86) dX7_bestTurn_85 rfl rfl ?_
        refine zv_iload (pc' := 88) dX7_bestTurn_86 rfl rfl ?_
        refine zv_cV2_pi (pc' := 91) dX7_bestTurn_88 rfl lkX7_79 (by first | rfl | assumption) rfl (Nat.le_of_ble_eq_true rfl) (x7_isKin ht1.1 hk hp (by omega)) ?_
        exact mid
  refine zex_intro (L := [some (.ref 90), some (.int (nI p)), some (.int (nI n)), some (.int (zb (decide (t = 0)))), none, none, none, none, none]) (by decide) (Nat.le_of_ble_eq_true rfl) rfl ?_
  refine zv_bipush (v := (-9 : Int32)) (pc' := 2) dX7_bestTurn_0 rfl (by decide) ?_
  refine zv_istore (pc' := 4) dX7_bestTurn_2 rfl (by decide) ?_
  refine zv_aload_n (pc' := 5) dX7_bestTurn_4 rfl rfl ?_
  refine zv_iload_n (pc' := 6) dX7_bestTurn_5 rfl rfl ?_
  refine zv_iload_n (pc' := 7) dX7_bestTurn_6 rfl rfl ?_
  refine zv_cV2_fi (pc' := 10) dX7_bestTurn_7 rfl lkX7_199 (by first | rfl | assumption) rfl (Nat.le_of_ble_eq_true rfl) (x7_moneyIn hA hk hD hp hn) ?_
  rintro r M1 ⟨rfl, ht1⟩
  refine zv_istore (pc' := 12) dX7_bestTurn_10 rfl (by decide) ?_
  refine zv_iconst (v := nI 0) (pc' := 13) dX7_bestTurn_12 rfl (by decide) ?_
  refine zv_istore (pc' := 15) dX7_bestTurn_13 rfl (by decide) ?_
  exact lp (yN c) 0 M1 (by omega) ht1
theorem x7_turned {f : Nat → Bool} {p q : Nat} (hp : p < 8) (hq : q < 8) (hpq : p ≠ q) : ZPi mdX7_turned d [.int (nI (zm 8 f)), .int (nI p), .int (nI q)] M (nI (zm 8 (fun j => f (zsw p q j)))) := by
  refine zex_intro (L := [some (.int (nI (zm 8 f))), some (.int (nI p)), some (.int (nI q)), none]) (by decide) (Nat.le_of_ble_eq_true rfl) rfl ?_
  refine zv_iload_n (pc' := 1) dX7_turned_0 rfl rfl ?_
  refine zv_iconst (v := nI 1) (pc' := 2) dX7_turned_1 rfl (by decide) ?_
  refine zv_iload_n (pc' := 3) dX7_turned_2 rfl rfl ?_
  refine zv_ishl (pc' := 4) dX7_turned_3 rfl ?_
  refine zv_top (zsh1 p (by omega)) ?_
  refine zv_iconst (v := (-1 : Int32)) (pc' := 5) dX7_turned_4 rfl (by decide) ?_
  refine zv_ixor (pc' := 6) dX7_turned_5 rfl ?_
  refine zv_iand (pc' := 7) dX7_turned_6 rfl ?_
  refine zv_top mk_cl1 ?_
  refine zv_iconst (v := nI 1) (pc' := 8) dX7_turned_7 rfl (by decide) ?_
  refine zv_iload_n (pc' := 9) dX7_turned_8 rfl rfl ?_
  refine zv_ishl (pc' := 10) dX7_turned_9 rfl ?_
  refine zv_top (zsh1 q (by omega)) ?_
  refine zv_iconst (v := (-1 : Int32)) (pc' := 11) dX7_turned_10 rfl (by decide) ?_
  refine zv_ixor (pc' := 12) dX7_turned_11 rfl ?_
  refine zv_iand (pc' := 13) dX7_turned_12 rfl ?_
  refine zv_top mk_cl1 ?_
  refine zv_istore_n (pc' := 14) dX7_turned_13 rfl (by decide) ?_
  refine zv_iload_n (pc' := 15) dX7_turned_14 rfl rfl ?_
  refine zv_iload_n (pc' := 16) dX7_turned_15 rfl rfl ?_
  refine zv_iload_n (pc' := 17) dX7_turned_16 rfl rfl ?_
  refine zv_ishr (pc' := 18) dX7_turned_17 rfl ?_
  refine zv_iconst (v := nI 1) (pc' := 19) dX7_turned_18 rfl (by decide) ?_
  refine zv_iand (pc' := 20) dX7_turned_19 rfl ?_
  refine zv_top (mk_tst hp) ?_
  refine zv_iload_n (pc' := 21) dX7_turned_20 rfl rfl ?_
  refine zv_ishl (pc' := 22) dX7_turned_21 rfl ?_
  refine zv_ior (pc' := 23) dX7_turned_22 rfl ?_
  refine zv_iload_n (pc' := 24) dX7_turned_23 rfl rfl ?_
  refine zv_iload_n (pc' := 25) dX7_turned_24 rfl rfl ?_
  refine zv_ishr (pc' := 26) dX7_turned_25 rfl ?_
  refine zv_iconst (v := nI 1) (pc' := 27) dX7_turned_26 rfl (by decide) ?_
  refine zv_iand (pc' := 28) dX7_turned_27 rfl ?_
  refine zv_top (mk_tst hq) ?_
  refine zv_iload_n (pc' := 29) dX7_turned_28 rfl rfl ?_
  refine zv_ishl (pc' := 30) dX7_turned_29 rfl ?_
  refine zv_ior (pc' := 31) dX7_turned_30 rfl ?_
  refine zv_iret dX7_turned_31 rfl ?_
  exact zpi_ret (mk_turned hp hq hpq)
theorem x7_exchanges {b p q n : Nat} {g : Nat → Nat → Bool} (hN0 : M 90 6 = nI n) (hn : n ≤ 8) (hp : p < n) (hq : q < n) (hpq : p ≠ q) (hb : zshL[b]? = some (.inl 8)) (hbo : b ≠ 90) (hg : ∀ j, j < 8 → M b j = nI (zm 8 (g j))) (hgn : ∀ i j, n ≤ i → g i j = false) : ZFv mdX7_exchanges (d + 1) [.ref 90, .ref b, .int (nI p), .int (nI q)] M (fun M' => (∀ j, j < 8 → M' b j = nI (zm 8 (swR g p q j))) ∧ zFr [b] [] M M') := by
  have lp : ∀ r k M1, k + r = n → (∀ j, j < 8 → M1 b j = nI (zm 8 (if j < k then swR g p q j else g (zsw p q j)))) → zFr [b] [] M M1 → ZV mdX7_exchanges (d + 1) (fun v M' => v = none ∧ ((∀ j, j < 8 → M' b j = nI (zm 8 (swR g p q j))) ∧ zFr [b] [] M M')) 19 [some (.ref 90), some (.ref b), some (.int (nI p)), some (.int (nI q)), none, some (.int (nI k))] [] M1 := by
    intro r
    induction r with
    | zero =>
      intro k M1 e hg1 hs1
      have e : k = n := by omega
      subst e
      have hN : M1 90 6 = nI k := by rw [hs1.2 _ (by simp)]; exact hN0
      refine zv_iload (pc' := 21) dX7_exchanges_19 rfl rfl ?_
      refine zv_aload_n (pc' := 22) dX7_exchanges_21 rfl rfl ?_
      refine zv_getIE (pc' := 25) dX7_exchanges_22 rfl flX7_65 (by first | rfl | assumption) rfl (by first | exact hN | exact hY | exact hM _ (by omega) | exact hS _ (by omega) | exact hX _ (by omega) | exact hK _ (by omega) | exact hF _ (by omega) | rfl) ?_
      refine zv_icmp_ge (pc' := 28) (tgt := 47) dX7_exchanges_25 rfl rfl (fun _ => ?_) (fun hcc => absurd (Int32.le_refl _) hcc)
      refine zv_vret dX7_exchanges_47 rfl ?_
      refine ⟨rfl, fun j hj => ?_, hs1⟩
      rw [hg1 j hj]
      split
      · rfl
      · congr 2
        funext x
        rename_i h
        show g (zsw p q j) x = g (zsw p q j) (zsw p q x)
        have : ¬ zsw p q j < k := fun z => h ((zsw_lt hp hq).mp z)
        rw [hgn _ _ (by omega), hgn _ _ (by omega)]
    | succ r ih =>
      intro k M1 e hg1 hs1
      have hN : M1 90 6 = nI n := by rw [hs1.2 _ (by simp)]; exact hN0
      have hgk := hg1 k (by omega)
      rw [if_neg (by omega)] at hgk
      refine zv_iload (pc' := 21) dX7_exchanges_19 rfl rfl ?_
      refine zv_aload_n (pc' := 22) dX7_exchanges_21 rfl rfl ?_
      refine zv_getIE (pc' := 25) dX7_exchanges_22 rfl flX7_65 (by first | rfl | assumption) rfl (by first | exact hN | exact hgk | rfl) ?_
      refine zv_icmp_ge (pc' := 28) (tgt := 47) dX7_exchanges_25 rfl rfl (fun hcc => absurd hcc (nI_ge (by omega) (by omega))) (fun _ => ?_)
      refine zv_aload_n (pc' := 29) dX7_exchanges_28 rfl rfl ?_
      refine zv_iload (pc' := 31) dX7_exchanges_29 rfl rfl ?_
      refine zv_aload_n (pc' := 32) dX7_exchanges_31 rfl rfl ?_
      refine zv_iload (pc' := 34) dX7_exchanges_32 rfl rfl ?_
      refine zv_ialoadE (pc' := 35) dX7_exchanges_34 rfl (by first | rfl | assumption) (by decide) (by omega) (by first | exact hN | exact hgk | rfl) ?_
      refine zv_iload_n (pc' := 36) dX7_exchanges_35 rfl rfl ?_
      refine zv_iload_n (pc' := 37) dX7_exchanges_36 rfl rfl ?_
      refine zv_cS3_pi (pc' := 40) dX7_exchanges_37 rfl lkX7_260 (Nat.le_of_ble_eq_true rfl) (x7_turned (by omega) (by omega) hpq) ?_
      refine zv_iastoreN (pc' := 41) dX7_exchanges_40 rfl (by first | rfl | assumption) (by decide) (by omega) ?_
      refine zv_iinc (w := nI 1) (pc' := 44) dX7_exchanges_41 rfl rfl (by decide) (by decide) ?_
      refine zv_goto (pc' := 19) dX7_exchanges_44 rfl ?_
      rw [nI_add]
      refine ih (k + 1) _ (by omega) (fun j hj => ?_) (hs1.tr (zFr.up (by simp) hbo))
      rw [zup_eq]
      by_cases ej : j = k
      · subst ej
        rw [upd_s, if_pos (by omega)]
        rfl
      · rw [upd_n ej, hg1 j hj]
        by_cases h1 : j < k
        · rw [if_pos h1, if_pos (by omega)]
        · rw [if_neg h1, if_neg (by omega)]
  refine zex_intro (L := [some (.ref 90), some (.ref b), some (.int (nI p)), some (.int (nI q)), none, none]) (by decide) (Nat.le_of_ble_eq_true rfl) rfl ?_
  refine zv_aload_n (pc' := 1) dX7_exchanges_0 rfl rfl ?_
  refine zv_iload_n (pc' := 2) dX7_exchanges_1 rfl rfl ?_
  refine zv_ialoadE (pc' := 3) dX7_exchanges_2 rfl (by first | rfl | assumption) (by decide) (by omega) (by first | exact hg _ (by omega) | rfl) ?_
  refine zv_istore (pc' := 5) dX7_exchanges_3 rfl (by decide) ?_
  refine zv_aload_n (pc' := 6) dX7_exchanges_5 rfl rfl ?_
  refine zv_iload_n (pc' := 7) dX7_exchanges_6 rfl rfl ?_
  refine zv_aload_n (pc' := 8) dX7_exchanges_7 rfl rfl ?_
  refine zv_iload_n (pc' := 9) dX7_exchanges_8 rfl rfl ?_
  refine zv_ialoadE (pc' := 10) dX7_exchanges_9 rfl (by first | rfl | assumption) (by decide) (by omega) (by first | exact hg _ (by omega) | rfl) ?_
  refine zv_iastoreN (pc' := 11) dX7_exchanges_10 rfl (by first | rfl | assumption) (by decide) (by omega) ?_
  refine zv_aload_n (pc' := 12) dX7_exchanges_11 rfl rfl ?_
  refine zv_iload_n (pc' := 13) dX7_exchanges_12 rfl rfl ?_
  refine zv_iload (pc' := 15) dX7_exchanges_13 rfl rfl ?_
  have hMb : ∀ j, j < 8 → zup (zup M b p (nI (zm 8 (g q)))) b q (nI (zm 8 (g p))) b j = nI (zm 8 (g (zsw p q j))) := by
    intro j hj
    rw [zup_eq]
    unfold zsw
    by_cases h2 : j = q
    · subst h2
      rw [upd_s, if_neg (Ne.symm hpq), if_pos rfl]
    · rw [upd_n h2, zup_eq]
      by_cases h1 : j = p
      · subst h1
        rw [upd_s, if_pos rfl]
      · rw [upd_n h1, if_neg h1, if_neg h2, hg j hj]
  refine zv_iastoreN (pc' := 16) dX7_exchanges_15 rfl (by first | rfl | assumption) (by decide) (by omega) ?_
  refine zv_iconst (v := nI 0) (pc' := 17) dX7_exchanges_16 rfl (by decide) ?_
  refine zv_istore (pc' := 19) dX7_exchanges_17 rfl (by decide) ?_
  refine zv_fg [4] ?_
  refine lp n 0 _ (by omega) (fun j hj => ?_) ((zFr.up (by simp) hbo).tr (zFr.up (by simp) hbo))
  rw [if_neg (by omega)]
  exact hMb j hj
theorem x7_moneyChanged {p q n : Nat} (hA : zAm M c) (hk : zOk c) (hD : M 90 8 = absM 100) (hp : p < yN c) (hq : q < yN c) (hpq : p ≠ q) (hn : n < 2 ^ 31) : ZFi mdX7_moneyChanged (d + 5) [.ref 90, .int (nI p), .int (nI q), .int (nI n)] M (fun r M' => r = nI (yM (yearsC n (swC c p q)) p) ∧ zAm M' c ∧ zFr psT fsT M M' ∧ ∀ i, i < 42 → M' 101 i = M 101 i) := by
  have hsn : ∀ i j, yN c ≤ i → yS c i j = false := fun i j h => by
    cases h2 : yS c i j
    · rfl
    · have := (hk.2.2.2.2.1 i j h2).1; omega
  have hxn : ∀ i j, yN c ≤ i → yX c i j = false := fun i j h => by
    cases h2 : yX c i j
    · rfl
    · have := (hk.2.2.2.2.2.1 i j h2).1; omega
  refine zex_intro (L := [some (.ref 90), some (.int (nI p)), some (.int (nI q)), some (.int (nI n)), none]) (by decide) (Nat.le_of_ble_eq_true rfl) rfl ?_
  refine zv_aload_n (pc' := 1) dX7_moneyChanged_0 rfl rfl ?_
  refine zv_cV0_fv (pc' := 4) dX7_moneyChanged_1 rfl lkX7_263 (by first | rfl | assumption) rfl (Nat.le_of_ble_eq_true rfl) (x7_changes hA) ?_
  rintro M1 ⟨k1, a1, b1, s1⟩
  refine zv_aload_n (pc' := 5) dX7_moneyChanged_4 rfl rfl ?_
  refine zv_aload_n (pc' := 6) dX7_moneyChanged_5 rfl rfl ?_
  refine zv_getR (pc' := 9) dX7_moneyChanged_6 rfl flX7_22 (by first | rfl | assumption) rfl ?_
  refine zv_iload_n (pc' := 10) dX7_moneyChanged_9 rfl rfl ?_
  refine zv_iload_n (pc' := 11) dX7_moneyChanged_10 rfl rfl ?_
  refine zv_cV3_fv (pc' := 14) dX7_moneyChanged_11 rfl lkX7_266 (by first | rfl | assumption) rfl (Nat.le_of_ble_eq_true rfl) (x7_exchanges (g := yS c) a1.1 hk.1 hp hq hpq rfl (by decide) a1.2.2.2.2.2.1 hsn) ?_
  rintro M2 ⟨e2, s2⟩
  refine zv_aload_n (pc' := 15) dX7_moneyChanged_14 rfl rfl ?_
  refine zv_aload_n (pc' := 16) dX7_moneyChanged_15 rfl rfl ?_
  refine zv_getR (pc' := 19) dX7_moneyChanged_16 rfl flX7_25 (by first | rfl | assumption) rfl ?_
  refine zv_iload_n (pc' := 20) dX7_moneyChanged_19 rfl rfl ?_
  refine zv_iload_n (pc' := 21) dX7_moneyChanged_20 rfl rfl ?_
  refine zv_cV3_fv (pc' := 24) dX7_moneyChanged_21 rfl lkX7_266 (by first | rfl | assumption) rfl (Nat.le_of_ble_eq_true rfl) (x7_exchanges (g := yX c) (by rw [s2.2 _ (by simp)]; exact a1.1) hk.1 hp hq hpq rfl (by decide) (by rw [s2.1 96 (by decide) (by decide)]; exact a1.2.2.2.2.2.2) hxn) ?_
  rintro M3 ⟨e3, s3⟩
  have a3 : zAm M3 (swC c p q) := by
    obtain ⟨hN, hY, hK, hF, hM, hS, hX⟩ := a1
    refine ⟨?_, ?_, ?_, ?_, ?_, ?_, e3⟩
    · rw [s3.2 _ (by simp), s2.2 _ (by simp)]; exact hN
    · rw [s3.2 _ (by simp), s2.2 _ (by simp)]; exact hY
    · rw [s3.1 _ (by decide) (by decide), s2.1 _ (by decide) (by decide)]; exact hK
    · rw [s3.1 _ (by decide) (by decide), s2.1 _ (by decide) (by decide)]; exact hF
    · rw [s3.1 _ (by decide) (by decide), s2.1 _ (by decide) (by decide)]; exact hM
    · rw [s3.1 _ (by decide) (by decide)]; exact e2
  refine zv_aload_n (pc' := 25) dX7_moneyChanged_24 rfl rfl ?_
  refine zv_iload_n (pc' := 26) dX7_moneyChanged_25 rfl rfl ?_
  refine zv_iload_n (pc' := 27) dX7_moneyChanged_26 rfl rfl ?_
  refine zv_cV2_fi (pc' := 30) dX7_moneyChanged_27 rfl lkX7_199 (by first | rfl | assumption) rfl (Nat.le_of_ble_eq_true rfl) (x7_moneyIn a3 (zOk_sw hk hp hq) (by rw [s3.2 _ (by simp), s2.2 _ (by simp), s1.2 _ (by decide)]; exact hD) hp hn) ?_
  rintro r M4 ⟨rfl, h2, h3, h4⟩
  have k4 : zKp M4 42 c := (k1.same (fun i _ _ => by rw [s3.1 101 (by decide) (by decide), s2.1 101 (by decide) (by decide)])).same (fun i _ hi => h4 i (by omega))
  refine zv_istore (pc' := 32) dX7_moneyChanged_30 rfl (by decide) ?_
  refine zv_aload_n (pc' := 33) dX7_moneyChanged_32 rfl rfl ?_
  refine zv_cV0_fv (pc' := 36) dX7_moneyChanged_33 rfl lkX7_270 (by first | rfl | assumption) rfl (Nat.le_of_ble_eq_true rfl) (x7_changesBack k4) ?_
  rintro M5 ⟨h5, h6⟩
  refine zv_iload (pc' := 38) dX7_moneyChanged_36 rfl rfl ?_
  refine zv_iret dX7_moneyChanged_38 rfl ?_
  refine ⟨_, rfl, rfl, h5, ?_, fun i hi => ?_⟩
  · exact (s1.mono (by simp) (by simp)).tr ((s2.mono (by simp) (by simp)).tr ((s3.mono (by simp) (by simp)).tr (h3.tr (h6.mono (by simp) (by simp)))))
  · rw [h6.1 101 (by decide) (by decide), h4 i (by omega), s3.1 101 (by decide) (by decide), s2.1 101 (by decide) (by decide), b1 i (by omega)]
end
section
variable {d : Nat}
/-- changes that leave the county: what the reference may have changed -/
def zTe (M M1 : ZMem) (c : ZCty) : Prop := zAm M1 c ∧ zFr psM fsM M M1 ∧ ∀ i, i < 42 → M1 101 i = M 101 i
theorem zTe.rf {M : ZMem} {c : ZCty} (h : zAm M c) : zTe M M c := ⟨h, zFr.rf, fun _ _ => rfl⟩
theorem zTe.tr {M M1 M2 : ZMem} {c c' : ZCty} (h1 : zTe M M1 c) (h2 : zTe M1 M2 c') : zTe M M2 c' := ⟨h2.1, h1.2.1.tr h2.2.1, fun i hi => (h2.2.2 i hi).trans (h1.2.2 i hi)⟩
theorem zTd.te {M M1 : ZMem} {c : ZCty} (h : zTd M M1 c) : zTe M M1 c := ⟨h.1, h.2.1.mono (by simp) (by simp), fun i hi => h.2.2 i (by omega)⟩
theorem zTe.dead {M M' : ZMem} {c : ZCty} (h : zTe M M' c) : M' 90 8 = M 90 8 := h.2.1.2 8 (by decide)
theorem zdonme {v : Int32} {s : ZS} {sp : Int32 × ZS} {M M' : ZMem} (e : sp = (v, s)) (hI : zIm M s) (ht : zTe M M' (sC s)) : ∃ r, some (Value.int v) = some (Value.int r) ∧ (r = sp.1 ∧ zIm M' sp.2 ∧ ∀ k, k < 90 → M' k = M k) := zdonm e (hI.frm ht.1 ht.2.1 (fun _ h => h) (fun _ h => h) ht.2.2) (ht.2.1.lt (fun _ h => h))
theorem gm_bestSign (x n : Int32) : zGm mdX7_bestSign (d + 7) [.int x, .int n] (sp_best 0 x n) := by
  intro M s hI hk
  have hn := hk.1.1
  have hN := hI.1.1
  have fin : ∀ v, v < 7 → v = fiN (nbN (yN (sC s)) x) (bdN n (nI 0) (nI 20)) 0 → ZV mdX7_bestSign (d + 7) (fun v M' => ∃ r, v = some (.int r) ∧ (r = (sp_best 0 x n s).1 ∧ zIm M' (sp_best 0 x n s).2 ∧ ∀ k, k < 90 → M' k = M k)) 16 [some (.ref 90), some (.int x), some (.int n), none] [.int (-nI v)] M := by
    intro v hv hve
    refine zv_istore_n (pc' := 17) dX7_bestSign_16 rfl (by decide) ?_
    refine zv_iload_n (pc' := 18) dX7_bestSign_17 rfl rfl ?_
    refine zv_if_eq (pc' := 21) (tgt := 29) dX7_bestSign_18 rfl rfl ?_ ?_
    · intro h
      have h0 := (neg_w0 _ hv).mp h
      rw [hve] at h0
      obtain ⟨g1, g2, -⟩ := fiN_0.mp h0
      obtain ⟨p, hp, rfl⟩ := hasB_of hn (nbN_0.mp g1)
      obtain ⟨n, -, hn2, rfl⟩ := isInB_of (by decide) (bdN_0.mp g2) (by decide)
      refine zv_aload_n (pc' := 30) dX7_bestSign_29 rfl rfl ?_
      refine zv_iload_n (pc' := 31) dX7_bestSign_30 rfl rfl ?_
      refine zv_iload_n (pc' := 32) dX7_bestSign_31 rfl rfl ?_
      refine zv_iconst (v := nI 1) (pc' := 33) dX7_bestSign_32 rfl (by decide) ?_
      refine zv_cV3_fi (pc' := 36) dX7_bestSign_33 rfl lkX7_232 (by first | rfl | assumption) rfl (Nat.le_of_ble_eq_true rfl) (x7_bestTurn (t := 0) (by decide) hI.1 hk.1 hI.2.1 hp (by omega)) ?_
      rintro r M1 ⟨rfl, ht⟩
      refine zv_iret dX7_bestSign_36 rfl ?_
      exact zdonmq (by rw [sp_best, zans_0 h0, pN_nI (by omega), pN_nI (by omega)]) hI ht
    · intro h
      have h0 := mt (neg_w0 _ hv).mpr h
      refine zv_aload_n (pc' := 22) dX7_bestSign_21 rfl rfl ?_
      refine zv_iload_n (pc' := 23) dX7_bestSign_22 rfl rfl ?_
      refine zv_cV1_fi (pc' := 26) dX7_bestSign_23 rfl lkX7_89 (by first | rfl | assumption) rfl (Nat.le_of_ble_eq_true rfl) (x7_no hv) ?_
      rintro r M1 ⟨rfl, rfl⟩
      refine zv_goto (pc' := 36) dX7_bestSign_26 rfl ?_
      refine zv_iret dX7_bestSign_36 rfl ?_
      rw [sp_best, ← hve]
      exact zrefm hI h0
  refine zex_intro (L := [some (.ref 90), some (.int x), some (.int n), none]) (by decide) (Nat.le_of_ble_eq_true rfl) rfl ?_
  refine zv_aload_n (pc' := 1) dX7_bestSign_0 rfl rfl ?_
  refine zv_iload_n (pc' := 2) dX7_bestSign_1 rfl rfl ?_
  refine zv_cV1_pi (pc' := 5) dX7_bestSign_2 rfl lkX7_71 (by first | rfl | assumption) rfl (Nat.le_of_ble_eq_true rfl) (x7_isOne hN) ?_
  refine zv_if_ne (pc' := 8) (tgt := 12) dX7_bestSign_5 rfl rfl ?_ ?_
  · intro h
    have g1 := nbN_0.mpr (zb_ne.mp h)
    refine zv_iload_n (pc' := 13) dX7_bestSign_12 rfl rfl ?_
    refine zv_cS1_pi (pc' := 16) dX7_bestSign_13 rfl lkX7_229 (Nat.le_of_ble_eq_true rfl) (x7_notShort) ?_
    refine fin _ bdN_lt ?_
    rw [fiN, if_pos g1]
    split
    · assumption
    · rfl
  · intro h
    refine zv_iconst (v := (-1 : Int32)) (pc' := 9) dX7_bestSign_8 rfl (by decide) ?_
    refine zv_goto (pc' := 16) dX7_bestSign_9 rfl ?_
    refine zv_top (show (-1 : Int32) = -nI 1 by decide) ?_
    exact fin 1 (by decide) (by rw [nbN, if_neg (by rw [zb_0.mp h]; decide)]; rfl)
theorem gm_bestCut (x n : Int32) : zGm mdX7_bestCut (d + 7) [.int x, .int n] (sp_best 1 x n) := by
  intro M s hI hk
  have hn := hk.1.1
  have hN := hI.1.1
  have fin : ∀ v, v < 7 → v = fiN (nbN (yN (sC s)) x) (bdN n (nI 0) (nI 20)) 0 → ZV mdX7_bestCut (d + 7) (fun v M' => ∃ r, v = some (.int r) ∧ (r = (sp_best 1 x n s).1 ∧ zIm M' (sp_best 1 x n s).2 ∧ ∀ k, k < 90 → M' k = M k)) 16 [some (.ref 90), some (.int x), some (.int n), none] [.int (-nI v)] M := by
    intro v hv hve
    refine zv_istore_n (pc' := 17) dX7_bestCut_16 rfl (by decide) ?_
    refine zv_iload_n (pc' := 18) dX7_bestCut_17 rfl rfl ?_
    refine zv_if_eq (pc' := 21) (tgt := 29) dX7_bestCut_18 rfl rfl ?_ ?_
    · intro h
      have h0 := (neg_w0 _ hv).mp h
      rw [hve] at h0
      obtain ⟨g1, g2, -⟩ := fiN_0.mp h0
      obtain ⟨p, hp, rfl⟩ := hasB_of hn (nbN_0.mp g1)
      obtain ⟨n, -, hn2, rfl⟩ := isInB_of (by decide) (bdN_0.mp g2) (by decide)
      refine zv_aload_n (pc' := 30) dX7_bestCut_29 rfl rfl ?_
      refine zv_iload_n (pc' := 31) dX7_bestCut_30 rfl rfl ?_
      refine zv_iload_n (pc' := 32) dX7_bestCut_31 rfl rfl ?_
      refine zv_iconst (v := nI 0) (pc' := 33) dX7_bestCut_32 rfl (by decide) ?_
      refine zv_cV3_fi (pc' := 36) dX7_bestCut_33 rfl lkX7_232 (by first | rfl | assumption) rfl (Nat.le_of_ble_eq_true rfl) (x7_bestTurn (t := 1) (by decide) hI.1 hk.1 hI.2.1 hp (by omega)) ?_
      rintro r M1 ⟨rfl, ht⟩
      refine zv_iret dX7_bestCut_36 rfl ?_
      exact zdonmq (by rw [sp_best, zans_0 h0, pN_nI (by omega), pN_nI (by omega)]) hI ht
    · intro h
      have h0 := mt (neg_w0 _ hv).mpr h
      refine zv_aload_n (pc' := 22) dX7_bestCut_21 rfl rfl ?_
      refine zv_iload_n (pc' := 23) dX7_bestCut_22 rfl rfl ?_
      refine zv_cV1_fi (pc' := 26) dX7_bestCut_23 rfl lkX7_89 (by first | rfl | assumption) rfl (Nat.le_of_ble_eq_true rfl) (x7_no hv) ?_
      rintro r M1 ⟨rfl, rfl⟩
      refine zv_goto (pc' := 36) dX7_bestCut_26 rfl ?_
      refine zv_iret dX7_bestCut_36 rfl ?_
      rw [sp_best, ← hve]
      exact zrefm hI h0
  refine zex_intro (L := [some (.ref 90), some (.int x), some (.int n), none]) (by decide) (Nat.le_of_ble_eq_true rfl) rfl ?_
  refine zv_aload_n (pc' := 1) dX7_bestCut_0 rfl rfl ?_
  refine zv_iload_n (pc' := 2) dX7_bestCut_1 rfl rfl ?_
  refine zv_cV1_pi (pc' := 5) dX7_bestCut_2 rfl lkX7_71 (by first | rfl | assumption) rfl (Nat.le_of_ble_eq_true rfl) (x7_isOne hN) ?_
  refine zv_if_ne (pc' := 8) (tgt := 12) dX7_bestCut_5 rfl rfl ?_ ?_
  · intro h
    have g1 := nbN_0.mpr (zb_ne.mp h)
    refine zv_iload_n (pc' := 13) dX7_bestCut_12 rfl rfl ?_
    refine zv_cS1_pi (pc' := 16) dX7_bestCut_13 rfl lkX7_229 (Nat.le_of_ble_eq_true rfl) (x7_notShort) ?_
    refine fin _ bdN_lt ?_
    rw [fiN, if_pos g1]
    split
    · assumption
    · rfl
  · intro h
    refine zv_iconst (v := (-1 : Int32)) (pc' := 9) dX7_bestCut_8 rfl (by decide) ?_
    refine zv_goto (pc' := 16) dX7_bestCut_9 rfl ?_
    refine zv_top (show (-1 : Int32) = -nI 1 by decide) ?_
    exact fin 1 (by decide) (by rw [nbN, if_neg (by rw [zb_0.mp h]; decide)]; rfl)
theorem gm_buys (x n : Int32) : zGm mdX7_buys (d + 6) [.int x, .int n] (sp_best 2 x n) := by
  intro M s hI hk
  have hn8 := hk.1.1
  have hN := hI.1.1
  have fin : ∀ v, v < 7 → v = fiN (nbN (yN (sC s)) x) (bdN n (nI 0) (nI 20)) 0 → ZV mdX7_buys (d + 6) (fun v M' => ∃ r, v = some (.int r) ∧ (r = (sp_best 2 x n s).1 ∧ zIm M' (sp_best 2 x n s).2 ∧ ∀ k, k < 90 → M' k = M k)) 16 [some (.ref 90), some (.int x), some (.int n), none, none, none, none, none] [.int (-nI v)] M := by
    intro v hv hve
    refine zv_istore_n (pc' := 17) dX7_buys_16 rfl (by decide) ?_
    refine zv_iload_n (pc' := 18) dX7_buys_17 rfl rfl ?_
    refine zv_if_eq (pc' := 21) (tgt := 27) dX7_buys_18 rfl rfl ?_ ?_
    · intro h
      have h0 := (neg_w0 _ hv).mp h
      rw [hve] at h0
      obtain ⟨g1, g2, -⟩ := fiN_0.mp h0
      obtain ⟨p, hp, rfl⟩ := hasB_of hn8 (nbN_0.mp g1)
      obtain ⟨n, -, hn2, rfl⟩ := isInB_of (by decide) (bdN_0.mp g2) (by decide)
      have lp : ∀ r k M1, k + r = yN (sC s) → zTe M M1 (sC s) → ZV mdX7_buys (d + 6) (fun v M' => ∃ r, v = some (.int r) ∧ (r = (sp_best 2 (nI p) (nI n) s).1 ∧ zIm M' (sp_best 2 (nI p) (nI n) s).2 ∧ ∀ k, k < 90 → M' k = M k)) 42 [some (.ref 90), some (.int (nI p)), some (.int (nI n)), none, some (.int (optI (bcS (sC s) 2 p n k).1)), some (.int (nI (bcS (sC s) 2 p n k).2)), some (.int (nI k)), none] [] M1 := by
        intro r
        induction r with
        | zero =>
          intro k M1 e ht1
          have e : k = yN (sC s) := by omega
          subst e
          have hN := ht1.1.1
          refine zv_iload (pc' := 44) dX7_buys_42 rfl rfl ?_
          refine zv_aload_n (pc' := 45) dX7_buys_44 rfl rfl ?_
          refine zv_getIE (pc' := 48) dX7_buys_45 rfl flX7_65 (by first | rfl | assumption) rfl (by first | exact hN | rfl) ?_
          refine zv_icmp_ge (pc' := 51) (tgt := 96) dX7_buys_48 rfl rfl (fun _ => ?_) (fun hcc => absurd (Int32.le_refl _) hcc)
          refine zv_iload (pc' := 98) dX7_buys_96 rfl rfl ?_
          refine zv_iret dX7_buys_98 rfl ?_
          exact zdonme (by rw [sp_best, zans_0 h0, pN_nI (by omega), pN_nI (by omega)]) hI ht1
        | succ r ih =>
          intro k M1 e ht1
          have hN := ht1.1.1
          have hle := bcS_le (t := 2) (n := n) (k := k) hk.1 hp (by omega)
          have stay : ∀ (L7 : Option Value) (M2 : ZMem), zTe M M2 (sC s) → bcS (sC s) 2 p n (k + 1) = bcS (sC s) 2 p n k → ZV mdX7_buys (d + 6) (fun v M' => ∃ r, v = some (.int r) ∧ (r = (sp_best 2 (nI p) (nI n) s).1 ∧ zIm M' (sp_best 2 (nI p) (nI n) s).2 ∧ ∀ k, k < 90 → M' k = M k)) 90 [some (.ref 90), some (.int (nI p)), some (.int (nI n)), none, some (.int (optI (bcS (sC s) 2 p n k).1)), some (.int (nI (bcS (sC s) 2 p n k).2)), some (.int (nI k)), L7] [] M2 := by
            intro L7 M2 ht2 eb
            refine zv_iinc (w := nI 1) (pc' := 93) dX7_buys_90 rfl rfl (by decide) (by decide) ?_
            refine zv_goto (pc' := 42) dX7_buys_93 rfl ?_
            refine zv_fg [7] ?_
            have := ih (k + 1) M2 (by omega) ht2
            rw [eb] at this
            rw [nI_add]
            exact this
          refine zv_iload (pc' := 44) dX7_buys_42 rfl rfl ?_
          refine zv_aload_n (pc' := 45) dX7_buys_44 rfl rfl ?_
          refine zv_getIE (pc' := 48) dX7_buys_45 rfl flX7_65 (by first | rfl | assumption) rfl (by first | exact hN | rfl) ?_
          refine zv_icmp_ge (pc' := 51) (tgt := 96) dX7_buys_48 rfl rfl (fun hcc => absurd hcc (nI_ge (by omega) (by omega))) (fun _ => ?_)
          refine zv_iload (pc' := 53) dX7_buys_51 rfl rfl ?_
          refine zv_iload_n (pc' := 54) dX7_buys_53 rfl rfl ?_
          refine zv_icmp_ne (pc' := 57) (tgt := 62) dX7_buys_54 rfl rfl ?_ ?_
          · intro hne
            have hne := mt (nI_eq (a := k) (b := p) (by omega) (by omega)).mpr hne
            have hmay : mayB (sC s) 2 p k = true := by simp [mayB]; omega
            have hch := zOk_ch (t := 2) hk.1 hp (show k < yN (sC s) by omega) (Ne.symm hne)
            have hb := (zOk_years (k := n) hch.1).1.2.2.2.1 p
            refine zv_aload_n (pc' := 63) dX7_buys_62 rfl rfl ?_
            refine zv_iload_n (pc' := 64) dX7_buys_63 rfl rfl ?_
            refine zv_iload (pc' := 66) dX7_buys_64 rfl rfl ?_
            refine zv_iload_n (pc' := 67) dX7_buys_66 rfl rfl ?_
            refine zv_cV3_fi (pc' := 70) dX7_buys_67 rfl lkX7_273 (by first | rfl | assumption) rfl (Nat.le_of_ble_eq_true rfl) (x7_moneyChanged ht1.1 hk.1 (by rw [ht1.dead]; exact hI.2.1) hp (by omega) (Ne.symm hne) (by omega)) ?_
            rintro r' M2 ⟨rfl, a2, b2, c2⟩
            have t2 : zTe M M2 (sC s) := ht1.tr ⟨a2, b2.mono (by simp) (by simp), c2⟩
            refine zv_istore (pc' := 72) dX7_buys_70 rfl (by decide) ?_
            refine zv_iload (pc' := 74) dX7_buys_72 rfl rfl ?_
            refine zv_iload (pc' := 76) dX7_buys_74 rfl rfl ?_
            refine zv_icmp_gt (pc' := 79) (tgt := 82) dX7_buys_76 rfl rfl ?_ ?_
            · intro hz
              have hz := (nI_ltI (a := (bcS (sC s) 2 p n k).2) (b := yM (yearsC n (chC (sC s) 2 p k)) p) (by omega) (by omega)).mp hz
              have eb : bcS (sC s) 2 p n (k + 1) = (some k, yM (yearsC n (chC (sC s) 2 p k)) p) := by rw [bcS, if_pos ⟨hmay, hz⟩]
              have := ih (k + 1) M2 (by omega) t2
              rw [eb] at this
              refine zv_iload (pc' := 84) dX7_buys_82 rfl rfl ?_
              refine zv_istore (pc' := 86) dX7_buys_84 rfl (by decide) ?_
              refine zv_iload (pc' := 88) dX7_buys_86 rfl rfl ?_
              refine zv_istore (pc' := 90) dX7_buys_88 rfl (by decide) ?_
              refine zv_iinc (w := nI 1) (pc' := 93) dX7_buys_90 rfl rfl (by decide) (by decide) ?_
              refine zv_goto (pc' := 42) dX7_buys_93 rfl ?_
              refine zv_fg [7] ?_
              rw [nI_add]
              exact this
            · intro hz
              have hz := mt (nI_ltI (a := (bcS (sC s) 2 p n k).2) (b := yM (yearsC n (chC (sC s) 2 p k)) p) (by omega) (by omega)).mpr hz
              refine zv_goto (pc' := 90) dX7_buys_79 rfl ?_
              exact stay _ M2 t2 (by rw [bcS, if_neg (by omega)])
          · intro he
            have he := (nI_eq (by omega) (by omega)).mp he
            refine zv_bipush (v := (-9 : Int32)) (pc' := 59) dX7_buys_57 rfl (by decide) ?_
            refine zv_goto (pc' := 70) dX7_buys_59 rfl ?_
            refine zv_istore (pc' := 72) dX7_buys_70 rfl (by decide) ?_
            refine zv_iload (pc' := 74) dX7_buys_72 rfl rfl ?_
            refine zv_iload (pc' := 76) dX7_buys_74 rfl rfl ?_
            refine zv_icmp_gt (pc' := 79) (tgt := 82) dX7_buys_76 rfl rfl (fun hcc => absurd hcc ((by decide +kernel : ∀ v, v < 100 → ¬ nI v < (-9 : Int32)) _ (by omega))) (fun _ => ?_)
            refine zv_goto (pc' := 90) dX7_buys_79 rfl ?_
            exact stay _ M1 ht1 (by rw [bcS, if_neg (by simp [mayB, he])])
      refine zv_bipush (v := (-9 : Int32)) (pc' := 29) dX7_buys_27 rfl (by decide) ?_
      refine zv_istore (pc' := 31) dX7_buys_29 rfl (by decide) ?_
      refine zv_aload_n (pc' := 32) dX7_buys_31 rfl rfl ?_
      refine zv_iload_n (pc' := 33) dX7_buys_32 rfl rfl ?_
      refine zv_iload_n (pc' := 34) dX7_buys_33 rfl rfl ?_
      refine zv_cV2_fi (pc' := 37) dX7_buys_34 rfl lkX7_199 (by first | rfl | assumption) rfl (Nat.le_of_ble_eq_true rfl) (x7_moneyIn hI.1 hk.1 hI.2.1 hp (by omega)) ?_
      rintro r M1 ⟨rfl, ht⟩
      refine zv_istore (pc' := 39) dX7_buys_37 rfl (by decide) ?_
      refine zv_iconst (v := nI 0) (pc' := 40) dX7_buys_39 rfl (by decide) ?_
      refine zv_istore (pc' := 42) dX7_buys_40 rfl (by decide) ?_
      refine zv_fg [3] ?_
      exact lp (yN (sC s)) 0 M1 (by omega) ht.te
    · intro h
      have h0 := mt (neg_w0 _ hv).mpr h
      refine zv_aload_n (pc' := 22) dX7_buys_21 rfl rfl ?_
      refine zv_iload_n (pc' := 23) dX7_buys_22 rfl rfl ?_
      refine zv_cV1_fi (pc' := 26) dX7_buys_23 rfl lkX7_89 (by first | rfl | assumption) rfl (Nat.le_of_ble_eq_true rfl) (x7_no hv) ?_
      rintro r M1 ⟨rfl, rfl⟩
      refine zv_iret dX7_buys_26 rfl ?_
      rw [sp_best, ← hve]
      exact zrefm hI h0
  refine zex_intro (L := [some (.ref 90), some (.int x), some (.int n), none, none, none, none, none]) (by decide) (Nat.le_of_ble_eq_true rfl) rfl ?_
  refine zv_aload_n (pc' := 1) dX7_buys_0 rfl rfl ?_
  refine zv_iload_n (pc' := 2) dX7_buys_1 rfl rfl ?_
  refine zv_cV1_pi (pc' := 5) dX7_buys_2 rfl lkX7_71 (by first | rfl | assumption) rfl (Nat.le_of_ble_eq_true rfl) (x7_isOne hN) ?_
  refine zv_if_ne (pc' := 8) (tgt := 12) dX7_buys_5 rfl rfl ?_ ?_
  · intro h
    have g1 := nbN_0.mpr (zb_ne.mp h)
    refine zv_iload_n (pc' := 13) dX7_buys_12 rfl rfl ?_
    refine zv_cS1_pi (pc' := 16) dX7_buys_13 rfl lkX7_229 (Nat.le_of_ble_eq_true rfl) (x7_notShort) ?_
    refine fin _ bdN_lt ?_
    rw [fiN, if_pos g1]
    split
    · assumption
    · rfl
  · intro h
    refine zv_iconst (v := (-1 : Int32)) (pc' := 9) dX7_buys_8 rfl (by decide) ?_
    refine zv_goto (pc' := 16) dX7_buys_9 rfl ?_
    refine zv_top (show (-1 : Int32) = -nI 1 by decide) ?_
    exact fin 1 (by decide) (by rw [nbN, if_neg (by rw [zb_0.mp h]; decide)]; rfl)
theorem feud_same {c : ZCty} {p q : Nat} (hk : zOk c) : feudC c p q (yX c p q) = c := by
  have e : fu2 (fu2 (yX c) p q (yX c p q)) q p (yX c p q) = yX c := by
    funext i j
    rw [fu2_at, fu2_at]
    split
    · rename_i h; rw [h.1, h.2]; exact hk.2.2.2.2.2.2 p q
    · split
      · rename_i h; rw [h.1, h.2]
      · rfl
  show (yN c, yY c, yK c, yF c, yM c, yS c, fu2 (fu2 (yX c) p q (yX c p q)) q p (yX c p q)) = c
  rw [e]
theorem feud_twice {c : ZCty} {p q : Nat} {b b2 : Bool} : feudC (feudC c p q b) p q b2 = feudC c p q b2 := by
  have e : fu2 (fu2 (yX (feudC c p q b)) p q b2) q p b2 = fu2 (fu2 (yX c) p q b2) q p b2 := by
    funext i j
    show fu2 (fu2 (fu2 (fu2 (yX c) p q b) q p b) p q b2) q p b2 i j = _
    simp only [fu2_at]
    by_cases h1 : i = q ∧ j = p
    · simp [h1]
    · by_cases h2 : i = p ∧ j = q
      · simp [h2]
      · simp [h1, h2]
  show (yN c, yY c, yK c, yF c, yM c, yS c, fu2 (fu2 (yX (feudC c p q b)) p q b2) q p b2) = _
  rw [e]
  rfl
theorem gm_feudCosts (x y n : Int32) : zGm mdX7_feudCosts (d + 5) [.int x, .int y, .int n] (sp_feudCosts x y n) := by
  intro M s hI hk
  have hn := hk.1.1
  have hN := hI.1.1
  have fin : ∀ v, v < 7 → v = fiN (twN (yN (sC s)) x y) (bdN n (nI 0) (nI 60)) 0 → ZV mdX7_feudCosts (d + 5) (fun v M' => ∃ r, v = some (.int r) ∧ (r = (sp_feudCosts x y n s).1 ∧ zIm M' (sp_feudCosts x y n s).2 ∧ ∀ k, k < 90 → M' k = M k)) 17 [some (.ref 90), some (.int x), some (.int y), some (.int n), none, none, none] [.int (-nI v)] M := by
    intro v hv hve
    refine zv_istore (pc' := 19) dX7_feudCosts_17 rfl (by decide) ?_
    refine zv_iload (pc' := 21) dX7_feudCosts_19 rfl rfl ?_
    refine zv_if_eq (pc' := 24) (tgt := 31) dX7_feudCosts_21 rfl rfl ?_ ?_
    · intro h
      have h0 := (neg_w0 _ hv).mp h
      rw [hve] at h0
      obtain ⟨g1, g2, -⟩ := fiN_0.mp h0
      obtain ⟨p, q, hp, hq, hpq, rfl, rfl⟩ := twoB_of hn (twN_0.mp g1)
      obtain ⟨n, -, hn2, rfl⟩ := isInB_of (by decide) (bdN_0.mp g2) (by decide)
      have ev : sp_feudCosts (nI p) (nI q) (nI n) s = (fcV (sC s) p q n, s) := by rw [sp_feudCosts, zanl, if_pos h0, pN_nI (by omega), pN_nI (by omega), pN_nI (by omega)]
      have hf := zOk_feud (b := !yX (sC s) p q) hk.1 hp hq hpq
      refine zv_aload_n (pc' := 32) dX7_feudCosts_31 rfl rfl ?_
      refine zv_iload_n (pc' := 33) dX7_feudCosts_32 rfl rfl ?_
      refine zv_cV1_fi (pc' := 36) dX7_feudCosts_33 rfl lkX7_202 (by first | rfl | assumption) rfl (Nat.le_of_ble_eq_true rfl) (x7_wealthIn hI.1 hk.1 hI.2.1 (by omega)) ?_
      rintro r M1 ⟨rfl, t1⟩
      refine zv_istore (pc' := 38) dX7_feudCosts_36 rfl (by decide) ?_
      refine zv_aload_n (pc' := 39) dX7_feudCosts_38 rfl rfl ?_
      refine zv_iload_n (pc' := 40) dX7_feudCosts_39 rfl rfl ?_
      refine zv_iload_n (pc' := 41) dX7_feudCosts_40 rfl rfl ?_
      refine zv_cV2_fv (pc' := 44) dX7_feudCosts_41 rfl lkX7_122 (by first | rfl | assumption) rfl (Nat.le_of_ble_eq_true rfl) (x7_turnsFeud t1.1 hk.1 hp hq hpq) ?_
      rintro M2 ⟨a2, s2⟩
      refine zv_aload_n (pc' := 45) dX7_feudCosts_44 rfl rfl ?_
      refine zv_iload_n (pc' := 46) dX7_feudCosts_45 rfl rfl ?_
      refine zv_cV1_fi (pc' := 49) dX7_feudCosts_46 rfl lkX7_202 (by first | rfl | assumption) rfl (Nat.le_of_ble_eq_true rfl) (x7_wealthIn a2 hf (by rw [s2.2 _ (by simp), t1.dead]; exact hI.2.1) (by omega)) ?_
      rintro r M3 ⟨rfl, t3⟩
      refine zv_istore (pc' := 51) dX7_feudCosts_49 rfl (by decide) ?_
      refine zv_aload_n (pc' := 52) dX7_feudCosts_51 rfl rfl ?_
      refine zv_iload_n (pc' := 53) dX7_feudCosts_52 rfl rfl ?_
      refine zv_iload_n (pc' := 54) dX7_feudCosts_53 rfl rfl ?_
      refine zv_cV2_fv (pc' := 57) dX7_feudCosts_54 rfl lkX7_122 (by first | rfl | assumption) rfl (Nat.le_of_ble_eq_true rfl) (x7_turnsFeud t3.1 hf hp hq hpq) ?_
      rintro M4 ⟨a4, s4⟩
      have eX : (!yX (feudC (sC s) p q (!yX (sC s) p q)) p q) = yX (sC s) p q := by
        show (!fu2 (fu2 (yX (sC s)) p q (!yX (sC s) p q)) q p (!yX (sC s) p q) p q) = _
        rw [fu2_at, if_neg (by omega), fu2_at, if_pos ⟨rfl, rfl⟩]
        simp
      rw [eX, feud_twice, feud_same hk.1] at a4
      have t4 : zTe M M4 (sC s) := ⟨a4, (t1.2.1.mono (by simp) (by simp)).tr ((s2.mono (by simp) (by simp)).tr ((t3.2.1.mono (by simp) (by simp)).tr (s4.mono (by simp) (by simp)))), fun i hi => by rw [s4.1 101 (by decide) (by decide), t3.2.2 i (by omega), s2.1 101 (by decide) (by decide), t1.2.2 i (by omega)]⟩
      have hX := a4.2.2.2.2.2.2
      refine zv_aload_n (pc' := 58) dX7_feudCosts_57 rfl rfl ?_
      refine zv_getR (pc' := 61) dX7_feudCosts_58 rfl flX7_25 (by first | rfl | assumption) rfl ?_
      refine zv_iload_n (pc' := 62) dX7_feudCosts_61 rfl rfl ?_
      refine zv_ialoadE (pc' := 63) dX7_feudCosts_62 rfl (by first | rfl | assumption) (by decide) (by omega) (by first | exact hX _ (by omega) | rfl) ?_
      refine zv_iload_n (pc' := 64) dX7_feudCosts_63 rfl rfl ?_
      refine zv_cS2_pi (pc' := 67) dX7_feudCosts_64 rfl lkX7_75 (Nat.le_of_ble_eq_true rfl) (x7_hasM (by omega)) ?_
      refine zv_if_eq (pc' := 70) (tgt := 78) dX7_feudCosts_67 rfl rfl ?_ ?_
      · intro hb
        have hb := zb_0.mp hb
        refine zv_iload (pc' := 80) dX7_feudCosts_78 rfl rfl ?_
        refine zv_iload (pc' := 82) dX7_feudCosts_80 rfl rfl ?_
        refine zv_isub (pc' := 83) dX7_feudCosts_82 rfl ?_
        refine zv_iret dX7_feudCosts_83 rfl ?_
        refine zdonme ?_ hI t4
        rw [ev]
        show (_, s) = (_, s)
        congr 1
        unfold fcV
        rw [hb]
        congr 3
        rw [← hb, feud_same hk.1]
      · intro hb
        have hb := zb_ne.mp hb
        refine zv_iload (pc' := 72) dX7_feudCosts_70 rfl rfl ?_
        refine zv_iload (pc' := 74) dX7_feudCosts_72 rfl rfl ?_
        refine zv_isub (pc' := 75) dX7_feudCosts_74 rfl ?_
        refine zv_goto (pc' := 83) dX7_feudCosts_75 rfl ?_
        refine zv_iret dX7_feudCosts_83 rfl ?_
        refine zdonme ?_ hI t4
        rw [ev]
        show (_, s) = (_, s)
        congr 1
        unfold fcV
        rw [hb]
        congr 3
        rw [← hb, feud_same hk.1]
    · intro h
      have h0 := mt (neg_w0 _ hv).mpr h
      refine zv_aload_n (pc' := 25) dX7_feudCosts_24 rfl rfl ?_
      refine zv_iload (pc' := 27) dX7_feudCosts_25 rfl rfl ?_
      refine zv_cV1_fi (pc' := 30) dX7_feudCosts_27 rfl lkX7_236 (by first | rfl | assumption) rfl (Nat.le_of_ble_eq_true rfl) (x7_lower hv) ?_
      rintro r M1 ⟨rfl, rfl⟩
      refine zv_iret dX7_feudCosts_30 rfl ?_
      rw [sp_feudCosts, ← hve]
      exact zreflm hI h0
  refine zex_intro (L := [some (.ref 90), some (.int x), some (.int y), some (.int n), none, none, none]) (by decide) (Nat.le_of_ble_eq_true rfl) rfl ?_
  refine zv_aload_n (pc' := 1) dX7_feudCosts_0 rfl rfl ?_
  refine zv_iload_n (pc' := 2) dX7_feudCosts_1 rfl rfl ?_
  refine zv_iload_n (pc' := 3) dX7_feudCosts_2 rfl rfl ?_
  refine zv_cV2_pi (pc' := 6) dX7_feudCosts_3 rfl lkX7_119 (by first | rfl | assumption) rfl (Nat.le_of_ble_eq_true rfl) (x7_areTwo hN) ?_
  refine zv_if_ne (pc' := 9) (tgt := 13) dX7_feudCosts_6 rfl rfl ?_ ?_
  · intro h
    have g1 := twN_0.mpr (zb_ne.mp h)
    refine zv_iload_n (pc' := 14) dX7_feudCosts_13 rfl rfl ?_
    refine zv_cS1_pi (pc' := 17) dX7_feudCosts_14 rfl lkX7_196 (Nat.le_of_ble_eq_true rfl) (x7_notYears) ?_
    refine fin _ bdN_lt ?_
    rw [fiN, if_pos g1]
    split
    · assumption
    · rfl
  · intro h
    refine zv_iconst (v := (-1 : Int32)) (pc' := 10) dX7_feudCosts_9 rfl (by decide) ?_
    refine zv_goto (pc' := 17) dX7_feudCosts_10 rfl ?_
    refine zv_top (show (-1 : Int32) = -nI 1 by decide) ?_
    exact fin 1 (by decide) (by rw [twN, if_neg (by rw [zb_0.mp h]; decide)]; rfl)
end
