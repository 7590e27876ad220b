/-! kin, removed, farthest, groups: the calls -/
section
variable {d : Nat}
theorem gx_kin (x y : Int32) : zGx mdX6_kin (d + 4) [.int x, .int y] (sp_kin x y) := by
  intro M s hI hk
  have hn := hk.1.1
  have hA := hI.1
  refine zex_intro (L := [some (.ref 0), some (.int x), some (.int y), none]) (by decide) (Nat.le_of_ble_eq_true rfl) rfl ?_
  refine zv_aload_n (pc' := 1) dX6_kin_0 rfl rfl ?_
  refine zv_iload_n (pc' := 2) dX6_kin_1 rfl rfl ?_
  refine zv_cV1_pi (pc' := 5) dX6_kin_2 rfl lkX6_111 (by first | rfl | assumption) rfl (Nat.le_of_ble_eq_true rfl) (x6_nobody hA) ?_
  refine zv_iload_n (pc' := 6) dX6_kin_5 rfl rfl ?_
  refine zv_iconst (v := nI 1) (pc' := 7) dX6_kin_6 rfl (by decide) ?_
  refine zv_cS2_pi (pc' := 10) dX6_kin_7 rfl lkX6_114 (Nat.le_of_ble_eq_true rfl) (x6_otherThan) ?_
  refine zv_iconst (v := nI 0) (pc' := 11) dX6_kin_10 rfl (by decide) ?_
  refine zv_top (show nI 0 = -nI 0 by decide) ?_
  refine zv_cS3_pi (pc' := 14) dX6_kin_11 rfl lkX6_81 (Nat.le_of_ble_eq_true rfl) (x6_firstOf nbN_lt otN_lt) ?_
  have hw := fiN_lt (nbN_lt (n := yN (sC s)) (x := x)) (otN_lt (x := y) (n := 1)) (by decide : 0 < 7)
  refine zv_istore_n (pc' := 15) dX6_kin_14 rfl (by decide) ?_
  refine zv_iload_n (pc' := 16) dX6_kin_15 rfl rfl ?_
  refine zv_if_eq (pc' := 19) (tgt := 25) dX6_kin_16 rfl rfl ?_ ?_
  · intro h
    have h0 := (neg_w0 _ hw).mp h
    obtain ⟨g1, g2, -⟩ := fiN_0.mp h0
    obtain ⟨p, hp, rfl⟩ := hasB_of hn (nbN_0.mp g1)
    obtain ⟨k, -, hk2, rfl⟩ := isInB_of (by decide) (otN_0.mp g2) (by decide)
    have ev : sp_kin (nI p) (nI k) s = (kiV (sC s) p k, s) := by rw [sp_kin, zans_0 h0, pN_nI (by omega), pN_nI (by omega)]
    refine zv_iload_n (pc' := 26) dX6_kin_25 rfl rfl ?_
    rcases (show k = 0 ∨ k = 1 by omega) with rfl | rfl
    · refine zv_if_ne (pc' := 29) (tgt := 38) dX6_kin_26 rfl rfl (fun hcc => absurd (rfl) hcc) (fun _ => ?_)
      refine zv_aload_n (pc' := 30) dX6_kin_29 rfl rfl ?_
      refine zv_getR (pc' := 33) dX6_kin_30 rfl flX6_10 (by first | rfl | assumption) rfl ?_
      refine zv_iload_n (pc' := 34) dX6_kin_33 rfl rfl ?_
      refine zv_cV1_pi (pc' := 37) dX6_kin_34 rfl lkX6_127 (by first | rfl | assumption) rfl (Nat.le_of_ble_eq_true rfl) (x0_kinOf zCy1 hA hk.1 hp) ?_
      refine zv_iret dX6_kin_37 rfl ?_
      exact zdonq ev hI zScr.rf
    · refine zv_if_ne (pc' := 29) (tgt := 38) dX6_kin_26 rfl rfl (fun _ => ?_) (fun hcc => absurd hcc (by decide))
      refine zv_aload_n (pc' := 39) dX6_kin_38 rfl rfl ?_
      refine zv_getR (pc' := 42) dX6_kin_39 rfl flX6_42 (by first | rfl | assumption) rfl ?_
      refine zv_aload_n (pc' := 43) dX6_kin_42 rfl rfl ?_
      refine zv_getR (pc' := 46) dX6_kin_43 rfl flX6_10 (by first | rfl | assumption) rfl ?_
      refine zv_cV1_fv (pc' := 49) dX6_kin_46 rfl lkX6_189 (by first | rfl | assumption) rfl (Nat.le_of_ble_eq_true rfl) (x5_read hA hk.1) ?_
      rintro M1 ⟨hT, hs⟩
      refine zv_aload_n (pc' := 50) dX6_kin_49 rfl rfl ?_
      refine zv_getR (pc' := 53) dX6_kin_50 rfl flX6_42 (by first | rfl | assumption) rfl ?_
      refine zv_iload_n (pc' := 54) dX6_kin_53 rfl rfl ?_
      refine zv_cV1_pi (pc' := 57) dX6_kin_54 rfl lkX6_192 (by first | rfl | assumption) rfl (Nat.le_of_ble_eq_true rfl) (x5_reachOf hT hn hp) ?_
      refine zv_iret dX6_kin_57 rfl ?_
      exact zdonq ev hI (zScr.same hs (by omega))
  · intro h
    have h0 := mt (neg_w0 _ hw).mpr h
    refine zv_aload_n (pc' := 20) dX6_kin_19 rfl rfl ?_
    refine zv_iload_n (pc' := 21) dX6_kin_20 rfl rfl ?_
    refine zv_cV1_fi (pc' := 24) dX6_kin_21 rfl lkX6_84 (by first | rfl | assumption) rfl (Nat.le_of_ble_eq_true rfl) (x6_refuse hw h0) ?_
    rintro r M1 ⟨rfl, rfl⟩
    refine zv_iret dX6_kin_24 rfl ?_
    exact zrefx hI h0
theorem gm_kin (x y : Int32) : zGm mdX7_kin (d + 4) [.int x, .int y] (sp_kin x y) := by
  intro M s hI hk
  have hn := hk.1.1
  have hA := hI.1
  have hN := hI.1.1
  have ref : ∀ w, w < 7 → w ≠ 0 → w = fiN (nbN (yN (sC s)) x) (otN y 1) 0 → ZV mdX7_kin (d + 4) (fun v M' => ∃ r, v = some (.int r) ∧ (r = (sp_kin x y s).1 ∧ zIm M' (sp_kin x y s).2 ∧ ∀ k, k < 90 → M' k = M k)) 27 [some (.ref 90), some (.int x), some (.int y), none] [.int (-nI w)] M := by
    intro w hw h0 e
    refine zv_istore_n (pc' := 28) dX7_kin_27 rfl (by decide) ?_
    refine zv_iload_n (pc' := 29) dX7_kin_28 rfl rfl ?_
    refine zv_if_eq (pc' := 32) (tgt := 38) dX7_kin_29 rfl rfl (fun hcc => absurd hcc (mt (neg_w0 _ hw).mp h0)) (fun _ => ?_)
    refine zv_aload_n (pc' := 33) dX7_kin_32 rfl rfl ?_
    refine zv_iload_n (pc' := 34) dX7_kin_33 rfl rfl ?_
    refine zv_cV1_fi (pc' := 37) dX7_kin_34 rfl lkX7_89 (by first | rfl | assumption) rfl (Nat.le_of_ble_eq_true rfl) (x7_no hw) ?_
    rintro r M1 ⟨rfl, rfl⟩
    refine zv_iret dX7_kin_37 rfl ?_
    rw [sp_kin, ← e]
    exact zrefm hI h0
  refine zex_intro (L := [some (.ref 90), some (.int x), some (.int y), none]) (by decide) (Nat.le_of_ble_eq_true rfl) rfl ?_
  refine zv_aload_n (pc' := 1) dX7_kin_0 rfl rfl ?_
  refine zv_iload_n (pc' := 2) dX7_kin_1 rfl rfl ?_
  refine zv_cV1_pi (pc' := 5) dX7_kin_2 rfl lkX7_71 (by first | rfl | assumption) rfl (Nat.le_of_ble_eq_true rfl) (x7_isOne hN) ?_
  refine zv_if_ne (pc' := 8) (tgt := 12) dX7_kin_5 rfl rfl ?_ ?_
  · intro h
    have h := zb_ne.mp h
    have g1 := nbN_0.mpr h
    refine zv_iload_n (pc' := 13) dX7_kin_12 rfl rfl ?_
    refine zv_iconst (v := nI 0) (pc' := 14) dX7_kin_13 rfl (by decide) ?_
    refine zv_iconst (v := nI 1) (pc' := 15) dX7_kin_14 rfl (by decide) ?_
    refine zv_cS3_pi (pc' := 18) dX7_kin_15 rfl lkX7_100 (Nat.le_of_ble_eq_true rfl) (x7_isIn) ?_
    refine zv_if_ne (pc' := 21) (tgt := 26) dX7_kin_18 rfl rfl ?_ ?_
    · intro h2
      have h2 := zb_ne.mp h2
      have g2 := otN_0.mpr h2
      have h0 : fiN (nbN (yN (sC s)) x) (otN y 1) 0 = 0 := fiN_0.mpr ⟨g1, g2, rfl⟩
      obtain ⟨p, hp, rfl⟩ := hasB_of hn h
      obtain ⟨k, -, hk2, rfl⟩ := isInB_of (by decide) h2 (by decide)
      have ev : sp_kin (nI p) (nI k) s = (kiV (sC s) p k, s) := by rw [sp_kin, zans_0 h0, pN_nI (by omega), pN_nI (by omega)]
      refine zv_iconst (v := nI 0) (pc' := 27) dX7_kin_26 rfl (by decide) ?_
      refine zv_istore_n (pc' := 28) dX7_kin_27 rfl (by decide) ?_
      refine zv_iload_n (pc' := 29) dX7_kin_28 rfl rfl ?_
      refine zv_if_eq (pc' := 32) (tgt := 38) dX7_kin_29 rfl rfl (fun _ => ?_) (fun hcc => absurd (rfl) hcc)
      refine zv_iload_n (pc' := 39) dX7_kin_38 rfl rfl ?_
      rcases (show k = 0 ∨ k = 1 by omega) with rfl | rfl
      · refine zv_if_ne (pc' := 42) (tgt := 50) dX7_kin_39 rfl rfl (fun hcc => absurd (rfl) hcc) (fun _ => ?_)
        refine zv_aload_n (pc' := 43) dX7_kin_42 rfl rfl ?_
        refine zv_iload_n (pc' := 44) dX7_kin_43 rfl rfl ?_
        refine zv_cV1_pi (pc' := 47) dX7_kin_44 rfl lkX7_181 (by first | rfl | assumption) rfl (Nat.le_of_ble_eq_true rfl) (x7_kinOf hA hk.1 hp) ?_
        refine zv_goto (pc' := 55) dX7_kin_47 rfl ?_
        refine zv_iret dX7_kin_55 rfl ?_
        exact zdonm (s' := s) ev hI (fun _ _ => rfl)
      · refine zv_if_ne (pc' := 42) (tgt := 50) dX7_kin_39 rfl rfl (fun _ => ?_) (fun hcc => absurd hcc (by decide))
        refine zv_aload_n (pc' := 51) dX7_kin_50 rfl rfl ?_
        refine zv_iload_n (pc' := 52) dX7_kin_51 rfl rfl ?_
        refine zv_cV1_fi (pc' := 55) dX7_kin_52 rfl lkX7_217 (by first | rfl | assumption) rfl (Nat.le_of_ble_eq_true rfl) (x7_reached hA hk.1 hp) ?_
        rintro r M1 ⟨rfl, hf⟩
        refine zv_iret dX7_kin_55 rfl ?_
        exact zdonme ev hI (zTe.st hA hf)
    · intro h2
      have h2 := zb_0.mp h2
      refine zv_bipush (v := (-2 : Int32)) (pc' := 23) dX7_kin_21 rfl (by decide) ?_
      refine zv_goto (pc' := 27) dX7_kin_23 rfl ?_
      refine zv_top (show (-2 : Int32) = -nI 2 by decide) ?_
      exact ref 2 (by decide) (by decide) (by rw [g1, show otN y 1 = 2 from by rw [otN, if_neg (by rw [h2]; decide)]]; rfl)
  · intro h
    have h := zb_0.mp h
    refine zv_iconst (v := (-1 : Int32)) (pc' := 9) dX7_kin_8 rfl (by decide) ?_
    refine zv_goto (pc' := 27) dX7_kin_9 rfl ?_
    refine zv_top (show (-1 : Int32) = -nI 1 by decide) ?_
    exact ref 1 (by decide) (by decide) (by rw [nbN, if_neg (by rw [h]; decide)]; rfl)
theorem gx_removed (x y : Int32) : zGx mdX6_removed (d + 4) [.int x, .int y] (sp_removed x y) := by
  intro M s hI hk
  have hn := hk.1.1
  have hA := hI.1
  refine zex_intro (L := [some (.ref 0), some (.int x), some (.int y), none]) (by decide) (Nat.le_of_ble_eq_true rfl) rfl ?_
  refine zv_aload_n (pc' := 1) dX6_removed_0 rfl rfl ?_
  refine zv_iload_n (pc' := 2) dX6_removed_1 rfl rfl ?_
  refine zv_iload_n (pc' := 3) dX6_removed_2 rfl rfl ?_
  refine zv_cV2_pi (pc' := 6) dX6_removed_3 rfl lkX6_138 (by first | rfl | assumption) rfl (Nat.le_of_ble_eq_true rfl) (x6_notTwo hA) ?_
  have hw := twN_lt (n := yN (sC s)) (x := x) (y := y)
  refine zv_istore_n (pc' := 7) dX6_removed_6 rfl (by decide) ?_
  refine zv_iload_n (pc' := 8) dX6_removed_7 rfl rfl ?_
  refine zv_if_eq (pc' := 11) (tgt := 17) dX6_removed_8 rfl rfl ?_ ?_
  · intro h
    have h0 := (neg_w0 _ hw).mp h
    obtain ⟨p, q, hp, hq, hpq, rfl, rfl⟩ := twoB_of hn (twN_0.mp h0)
    have ev : sp_removed (nI p) (nI q) s = (optI (rmO (sC s) p q), s) := by rw [sp_removed, zans_0 h0, pN_nI (by omega), pN_nI (by omega)]
    refine zv_aload_n (pc' := 18) dX6_removed_17 rfl rfl ?_
    refine zv_getR (pc' := 21) dX6_removed_18 rfl flX6_42 (by first | rfl | assumption) rfl ?_
    refine zv_aload_n (pc' := 22) dX6_removed_21 rfl rfl ?_
    refine zv_getR (pc' := 25) dX6_removed_22 rfl flX6_10 (by first | rfl | assumption) rfl ?_
    refine zv_cV1_fv (pc' := 28) dX6_removed_25 rfl lkX6_189 (by first | rfl | assumption) rfl (Nat.le_of_ble_eq_true rfl) (x5_read hA hk.1) ?_
    rintro M1 ⟨hT, hs⟩
    refine zv_aload_n (pc' := 29) dX6_removed_28 rfl rfl ?_
    refine zv_getR (pc' := 32) dX6_removed_29 rfl flX6_42 (by first | rfl | assumption) rfl ?_
    refine zv_iload_n (pc' := 33) dX6_removed_32 rfl rfl ?_
    refine zv_iload_n (pc' := 34) dX6_removed_33 rfl rfl ?_
    refine zv_cV2_pi (pc' := 37) dX6_removed_34 rfl lkX6_195 (by first | rfl | assumption) rfl (Nat.le_of_ble_eq_true rfl) (x5_steps hT hn hp hq) ?_
    refine zv_iret dX6_removed_37 rfl ?_
    exact zdonq ev hI (zScr.same hs (by omega))
  · intro h
    have h0 := mt (neg_w0 _ hw).mpr h
    refine zv_aload_n (pc' := 12) dX6_removed_11 rfl rfl ?_
    refine zv_iload_n (pc' := 13) dX6_removed_12 rfl rfl ?_
    refine zv_cV1_fi (pc' := 16) dX6_removed_13 rfl lkX6_84 (by first | rfl | assumption) rfl (Nat.le_of_ble_eq_true rfl) (x6_refuse hw h0) ?_
    rintro r M1 ⟨rfl, rfl⟩
    refine zv_iret dX6_removed_16 rfl ?_
    exact zrefx hI h0
theorem gm_removed (x y : Int32) : zGm mdX7_removed (d + 3) [.int x, .int y] (sp_removed x y) := by
  intro M s hI hk
  have hn := hk.1.1
  have hA := hI.1
  have hN := hI.1.1
  refine zex_intro (L := [some (.ref 90), some (.int x), some (.int y)]) (by decide) (Nat.le_of_ble_eq_true rfl) rfl ?_
  refine zv_aload_n (pc' := 1) dX7_removed_0 rfl rfl ?_
  refine zv_iload_n (pc' := 2) dX7_removed_1 rfl rfl ?_
  refine zv_iload_n (pc' := 3) dX7_removed_2 rfl rfl ?_
  refine zv_cV2_pi (pc' := 6) dX7_removed_3 rfl lkX7_119 (by first | rfl | assumption) rfl (Nat.le_of_ble_eq_true rfl) (x7_areTwo hN) ?_
  refine zv_if_ne (pc' := 9) (tgt := 15) dX7_removed_6 rfl rfl ?_ ?_
  · intro h
    have h1 := zb_ne.mp h
    have h0 := twN_0.mpr h1
    obtain ⟨p, q, hp, hq, hpq, rfl, rfl⟩ := twoB_of hn h1
    have ev : sp_removed (nI p) (nI q) s = (optI (rmO (sC s) p q), s) := by rw [sp_removed, zans_0 h0, pN_nI (by omega), pN_nI (by omega)]
    refine zv_aload_n (pc' := 16) dX7_removed_15 rfl rfl ?_
    refine zv_iload_n (pc' := 17) dX7_removed_16 rfl rfl ?_
    refine zv_cV1_fv (pc' := 20) dX7_removed_17 rfl lkX7_214 (by first | rfl | assumption) rfl (Nat.le_of_ble_eq_true rfl) (x7_findSteps hA hk.1 hp) ?_
    rintro M1 ⟨h1, hf⟩
    refine zv_aload_n (pc' := 21) dX7_removed_20 rfl rfl ?_
    refine zv_getR (pc' := 24) dX7_removed_21 rfl flX7_50 (by first | rfl | assumption) rfl ?_
    refine zv_iload_n (pc' := 25) dX7_removed_24 rfl rfl ?_
    refine zv_ialoadE (pc' := 26) dX7_removed_25 rfl (by first | rfl | assumption) (by decide) (by omega) (by first | exact h1 _ (by omega) | rfl) ?_
    refine zv_iret dX7_removed_26 rfl ?_
    exact zdonme (by rw [ev, dst_rem hk.1 hp hpq]) hI (zTe.st hA hf)
  · intro h
    have h := zb_0.mp h
    refine zv_aload_n (pc' := 10) dX7_removed_9 rfl rfl ?_
    refine zv_iconst (v := (-1 : Int32)) (pc' := 11) dX7_removed_10 rfl (by decide) ?_
    refine zv_top (show (-1 : Int32) = -nI 1 by decide) ?_
    refine zv_cV1_fi (pc' := 14) dX7_removed_11 rfl lkX7_89 (by first | rfl | assumption) rfl (Nat.le_of_ble_eq_true rfl) (x7_no (by decide)) ?_
    rintro r M1 ⟨rfl, rfl⟩
    refine zv_iret dX7_removed_14 rfl ?_
    rw [sp_removed, show twN (yN (sC s)) x y = 1 from by rw [twN, if_neg (by rw [h]; decide)]]
    exact zrefm hI (by decide)
theorem gx_farthest (x : Int32) : zGx mdX6_farthest (d + 4) [.int x] (sp_farthest x) := by
  intro M s hI hk
  have hn := hk.1.1
  have hA := hI.1
  refine zex_intro (L := [some (.ref 0), some (.int x), none, none, none, none, none, none]) (by decide) (Nat.le_of_ble_eq_true rfl) rfl ?_
  refine zv_iload_n (pc' := 1) dX6_farthest_0 rfl rfl ?_
  refine zv_iconst (v := nI 1) (pc' := 2) dX6_farthest_1 rfl (by decide) ?_
  refine zv_cS2_pi (pc' := 5) dX6_farthest_2 rfl lkX6_114 (Nat.le_of_ble_eq_true rfl) (x6_otherThan) ?_
  have hw := otN_lt (x := x) (n := 1)
  refine zv_istore_n (pc' := 6) dX6_farthest_5 rfl (by decide) ?_
  refine zv_iload_n (pc' := 7) dX6_farthest_6 rfl rfl ?_
  refine zv_if_eq (pc' := 10) (tgt := 16) dX6_farthest_7 rfl rfl ?_ ?_
  · intro h
    have h0 := (neg_w0 _ hw).mp h
    obtain ⟨w, -, hw2, rfl⟩ := isInB_of (by decide) (otN_0.mp h0) (by decide)
    have ev : sp_farthest (nI w) s = (frW (frS (sC s)) w, s) := by rw [sp_farthest, zans_0 h0, pN_nI (by omega)]
    refine zv_aload_n (pc' := 17) dX6_farthest_16 rfl rfl ?_
    refine zv_getR (pc' := 20) dX6_farthest_17 rfl flX6_42 (by first | rfl | assumption) rfl ?_
    refine zv_aload_n (pc' := 21) dX6_farthest_20 rfl rfl ?_
    refine zv_getR (pc' := 24) dX6_farthest_21 rfl flX6_10 (by first | rfl | assumption) rfl ?_
    refine zv_cV1_fv (pc' := 27) dX6_farthest_24 rfl lkX6_189 (by first | rfl | assumption) rfl (Nat.le_of_ble_eq_true rfl) (x5_read hA hk.1) ?_
    rintro M1 ⟨hT, hs⟩
    have hN := (hA.same hs (Or.inl (by omega))).1
    have l2 : ∀ a, a < yN (sC s) → ∀ r b t, b + r = yN (sC s) → a < b → (ZV mdX6_farthest (d + 4) (fun v M' => ∃ r, v = some (.int r) ∧ (r = (sp_farthest (nI w) s).1 ∧ zIx M' (sp_farthest (nI w) s).2 ∧ zSame 0 90 M M')) 105 [some (.ref 0), some (.int (nI w)), none, some (.int (zlf r b (frP (sC s) a) t).1), some (.int (zlf r b (frP (sC s) a) t).2), some (.int (nI a)), none, none] [] M1) →
        ZV mdX6_farthest (d + 4) (fun v M' => ∃ r, v = some (.int r) ∧ (r = (sp_farthest (nI w) s).1 ∧ zIx M' (sp_farthest (nI w) s).2 ∧ zSame 0 90 M M')) 55 [some (.ref 0), some (.int (nI w)), none, some (.int t.1), some (.int t.2), some (.int (nI a)), some (.int (nI b)), none] [] M1 := by
      intro a ha r
      induction r with
      | zero =>
        intro b t e hab kk
        have e : b = yN (sC s) := by omega
        subst e
        refine zv_iload (pc' := 57) dX6_farthest_55 rfl rfl ?_
        refine zv_aload_n (pc' := 58) dX6_farthest_57 rfl rfl ?_
        refine zv_getR (pc' := 61) dX6_farthest_58 rfl flX6_10 (by first | rfl | assumption) rfl ?_
        refine zv_getIE (pc' := 64) dX6_farthest_61 rfl flX6_186 (by first | rfl | assumption) rfl (by first | exact hN | rfl) ?_
        refine zv_icmp_ge (pc' := 67) (tgt := 105) dX6_farthest_64 rfl rfl (fun _ => ?_) (fun hcc => absurd (Int32.le_refl _) hcc)
        refine zv_fg [6] ?_
        exact kk
      | succ r ih =>
        intro b t e hab kk
        have := ih (b + 1) (frP (sC s) a b t) (by omega) (by omega) kk
        refine zv_iload (pc' := 57) dX6_farthest_55 rfl rfl ?_
        refine zv_aload_n (pc' := 58) dX6_farthest_57 rfl rfl ?_
        refine zv_getR (pc' := 61) dX6_farthest_58 rfl flX6_10 (by first | rfl | assumption) rfl ?_
        refine zv_getIE (pc' := 64) dX6_farthest_61 rfl flX6_186 (by first | rfl | assumption) rfl (by first | exact hN | rfl) ?_
        refine zv_icmp_ge (pc' := 67) (tgt := 105) dX6_farthest_64 rfl rfl (fun hcc => absurd hcc (nI_ge (by omega) (by omega))) (fun _ => ?_)
        refine zv_aload_n (pc' := 68) dX6_farthest_67 rfl rfl ?_
        refine zv_getR (pc' := 71) dX6_farthest_68 rfl flX6_42 (by first | rfl | assumption) rfl ?_
        refine zv_iload (pc' := 73) dX6_farthest_71 rfl rfl ?_
        refine zv_iload (pc' := 75) dX6_farthest_73 rfl rfl ?_
        refine zv_cV2_pi (pc' := 78) dX6_farthest_75 rfl lkX6_195 (by first | rfl | assumption) rfl (Nat.le_of_ble_eq_true rfl) (x5_steps hT hn ha (by omega)) ?_
        refine zv_istore (pc' := 80) dX6_farthest_78 rfl (by decide) ?_
        refine zv_iload (pc' := 82) dX6_farthest_80 rfl rfl ?_
        refine zv_iload_n (pc' := 83) dX6_farthest_82 rfl rfl ?_
        refine zv_icmp_le (pc' := 86) (tgt := 99) dX6_farthest_83 rfl rfl ?_ ?_
        · intro h
          rw [frP, if_neg (show ¬ t.1 < optI (rmO (sC s) a b) from Int32.not_lt.mpr h)] at this
          refine zv_iinc (w := nI 1) (pc' := 102) dX6_farthest_99 rfl rfl (by decide) (by decide) ?_
          refine zv_goto (pc' := 55) dX6_farthest_102 rfl ?_
          refine zv_fg [7] ?_
          rw [nI_add]
          exact this
        · intro h
          rw [frP, if_pos (show t.1 < optI (rmO (sC s) a b) from Int32.not_le.mp h)] at this
          refine zv_iload (pc' := 88) dX6_farthest_86 rfl rfl ?_
          refine zv_istore_n (pc' := 89) dX6_farthest_88 rfl (by decide) ?_
          refine zv_bipush (v := nI 10) (pc' := 91) dX6_farthest_89 rfl (by decide) ?_
          refine zv_iload (pc' := 93) dX6_farthest_91 rfl rfl ?_
          refine zv_imul (pc' := 94) dX6_farthest_93 rfl ?_
          refine zv_top (pk_mul _ _) ?_
          refine zv_iload (pc' := 96) dX6_farthest_94 rfl rfl ?_
          refine zv_iadd (pc' := 97) dX6_farthest_96 rfl ?_
          refine zv_top (nI_add _ _) ?_
          refine zv_istore (pc' := 99) dX6_farthest_97 rfl (by decide) ?_
          refine zv_iinc (w := nI 1) (pc' := 102) dX6_farthest_99 rfl rfl (by decide) (by decide) ?_
          refine zv_goto (pc' := 55) dX6_farthest_102 rfl ?_
          refine zv_fg [7] ?_
          rw [nI_add]
          exact this
    have l1 : ∀ r a t, a + r = yN (sC s) → zlf r a (frI (sC s)) t = frS (sC s) → ZV mdX6_farthest (d + 4) (fun v M' => ∃ r, v = some (.int r) ∧ (r = (sp_farthest (nI w) s).1 ∧ zIx M' (sp_farthest (nI w) s).2 ∧ zSame 0 90 M M')) 37 [some (.ref 0), some (.int (nI w)), none, some (.int t.1), some (.int t.2), some (.int (nI a)), none, none] [] M1 := by
      intro r
      induction r with
      | zero =>
        intro a t e hz
        have e : a = yN (sC s) := by omega
        subst e
        have hz : t = frS (sC s) := hz
        subst hz
        refine zv_iload (pc' := 39) dX6_farthest_37 rfl rfl ?_
        refine zv_aload_n (pc' := 40) dX6_farthest_39 rfl rfl ?_
        refine zv_getR (pc' := 43) dX6_farthest_40 rfl flX6_10 (by first | rfl | assumption) rfl ?_
        refine zv_getIE (pc' := 46) dX6_farthest_43 rfl flX6_186 (by first | rfl | assumption) rfl (by first | exact hN | rfl) ?_
        refine zv_icmp_ge (pc' := 49) (tgt := 111) dX6_farthest_46 rfl rfl (fun _ => ?_) (fun hcc => absurd (Int32.le_refl _) hcc)
        refine zv_iload_n (pc' := 112) dX6_farthest_111 rfl rfl ?_
        rcases (show w = 0 ∨ w = 1 by omega) with rfl | rfl
        · refine zv_if_ne (pc' := 115) (tgt := 120) dX6_farthest_112 rfl rfl (fun hcc => absurd (rfl) hcc) (fun _ => ?_)
          refine zv_iload (pc' := 117) dX6_farthest_115 rfl rfl ?_
          refine zv_goto (pc' := 121) dX6_farthest_117 rfl ?_
          refine zv_iret dX6_farthest_121 rfl ?_
          exact zdonq ev hI (zScr.same hs (by omega))
        · refine zv_if_ne (pc' := 115) (tgt := 120) dX6_farthest_112 rfl rfl (fun _ => ?_) (fun hcc => absurd hcc (by decide))
          refine zv_iload_n (pc' := 121) dX6_farthest_120 rfl rfl ?_
          refine zv_iret dX6_farthest_121 rfl ?_
          exact zdonq ev hI (zScr.same hs (by omega))
      | succ r ih =>
        intro a t e hz
        refine zv_iload (pc' := 39) dX6_farthest_37 rfl rfl ?_
        refine zv_aload_n (pc' := 40) dX6_farthest_39 rfl rfl ?_
        refine zv_getR (pc' := 43) dX6_farthest_40 rfl flX6_10 (by first | rfl | assumption) rfl ?_
        refine zv_getIE (pc' := 46) dX6_farthest_43 rfl flX6_186 (by first | rfl | assumption) rfl (by first | exact hN | rfl) ?_
        refine zv_icmp_ge (pc' := 49) (tgt := 111) dX6_farthest_46 rfl rfl (fun hcc => absurd hcc (nI_ge (by omega) (by omega))) (fun _ => ?_)
        refine zv_iload (pc' := 51) dX6_farthest_49 rfl rfl ?_
        refine zv_iconst (v := nI 1) (pc' := 52) dX6_farthest_51 rfl (by decide) ?_
        refine zv_iadd (pc' := 53) dX6_farthest_52 rfl ?_
        refine zv_istore (pc' := 55) dX6_farthest_53 rfl (by decide) ?_
        rw [nI_add]
        refine l2 a (by omega) (yN (sC s) - (a + 1)) (a + 1) t (by omega) (by omega) ?_
        refine zv_iinc (w := nI 1) (pc' := 108) dX6_farthest_105 rfl rfl (by decide) (by decide) ?_
        refine zv_goto (pc' := 37) dX6_farthest_108 rfl ?_
        rw [nI_add]
        exact ih (a + 1) _ (by omega) hz
    refine zv_bipush (v := (-9 : Int32)) (pc' := 29) dX6_farthest_27 rfl (by decide) ?_
    refine zv_istore_n (pc' := 30) dX6_farthest_29 rfl (by decide) ?_
    refine zv_bipush (v := (-9 : Int32)) (pc' := 32) dX6_farthest_30 rfl (by decide) ?_
    refine zv_istore (pc' := 34) dX6_farthest_32 rfl (by decide) ?_
    refine zv_iconst (v := nI 0) (pc' := 35) dX6_farthest_34 rfl (by decide) ?_
    refine zv_istore (pc' := 37) dX6_farthest_35 rfl (by decide) ?_
    refine zv_fg [2] ?_
    exact l1 (yN (sC s)) 0 (-9, -9) (by omega) rfl
  · intro h
    have h0 := mt (neg_w0 _ hw).mpr h
    refine zv_aload_n (pc' := 11) dX6_farthest_10 rfl rfl ?_
    refine zv_iload_n (pc' := 12) dX6_farthest_11 rfl rfl ?_
    refine zv_cV1_fi (pc' := 15) dX6_farthest_12 rfl lkX6_84 (by first | rfl | assumption) rfl (Nat.le_of_ble_eq_true rfl) (x6_refuse hw h0) ?_
    rintro r M1 ⟨rfl, rfl⟩
    refine zv_iret dX6_farthest_15 rfl ?_
    exact zrefx hI h0
theorem gm_farthest (x : Int32) : zGm mdX7_farthest (d + 3) [.int x] (sp_farthest x) := by
  intro M s hI hk
  have hn := hk.1.1
  have hA := hI.1
  refine zex_intro (L := [some (.ref 90), some (.int x), none, none, none, none]) (by decide) (Nat.le_of_ble_eq_true rfl) rfl ?_
  refine zv_iload_n (pc' := 1) dX7_farthest_0 rfl rfl ?_
  refine zv_iconst (v := nI 0) (pc' := 2) dX7_farthest_1 rfl (by decide) ?_
  refine zv_iconst (v := nI 1) (pc' := 3) dX7_farthest_2 rfl (by decide) ?_
  refine zv_cS3_pi (pc' := 6) dX7_farthest_3 rfl lkX7_100 (Nat.le_of_ble_eq_true rfl) (x7_isIn) ?_
  refine zv_if_ne (pc' := 9) (tgt := 16) dX7_farthest_6 rfl rfl ?_ ?_
  · intro h
    have h1 := zb_ne.mp h
    have h0 := otN_0.mpr h1
    obtain ⟨w, -, hw2, rfl⟩ := isInB_of (by decide) h1 (by decide)
    have ev : sp_farthest (nI w) s = (frW (frS (sC s)) w, s) := by rw [sp_farthest, zans_0 h0, pN_nI (by omega)]
    have l2 : ∀ a, a < yN (sC s) → ∀ M1, zFr [103] [] M M1 → (∀ q, q < 8 → M1 103 q = optI (dst (sC s) 8 a q)) → ∀ r b t, b + r = yN (sC s) → a < b → ¬ t.1 < -9 → (¬ (zlf r b (frP (sC s) a) t).1 < -9 → ZV mdX7_farthest (d + 3) (fun v M' => ∃ r, v = some (.int r) ∧ (r = (sp_farthest (nI w) s).1 ∧ zIm M' (sp_farthest (nI w) s).2 ∧ ∀ k, k < 90 → M' k = M k)) 102 [some (.ref 90), some (.int (nI w)), some (.int (zlf r b (frP (sC s) a) t).2), some (.int (zlf r b (frP (sC s) a) t).1), some (.int (nI a)), none] [] M1) →
        ZV mdX7_farthest (d + 3) (fun v M' => ∃ r, v = some (.int r) ∧ (r = (sp_farthest (nI w) s).1 ∧ zIm M' (sp_farthest (nI w) s).2 ∧ ∀ k, k < 90 → M' k = M k)) 46 [some (.ref 90), some (.int (nI w)), some (.int t.2), some (.int t.1), some (.int (nI a)), some (.int (nI b))] [] M1 := by
      intro a ha M1 hf hst r
      have hN := (zTe.st hA hf).1.1
      induction r with
      | zero =>
        intro b t e hab h9 kk
        have e : b = yN (sC s) := by omega
        subst e
        refine zv_iload (pc' := 48) dX7_farthest_46 rfl rfl ?_
        refine zv_aload_n (pc' := 49) dX7_farthest_48 rfl rfl ?_
        refine zv_getIE (pc' := 52) dX7_farthest_49 rfl flX7_65 (by first | rfl | assumption) rfl (by first | exact hN | rfl) ?_
        refine zv_icmp_ge (pc' := 55) (tgt := 102) dX7_farthest_52 rfl rfl (fun _ => ?_) (fun hcc => absurd (Int32.le_refl _) hcc)
        refine zv_fg [5] ?_
        exact kk h9
      | succ r ih =>
        intro b t e hab h9 kk
        have := ih (b + 1) (frP (sC s) a b t) (by omega) (by omega) (frP_ge hk.1 h9) kk
        have hb : M1 103 b = optI (rmO (sC s) a b) := by rw [hst b (by omega), dst_rem hk.1 ha (by omega)]
        have nx : ¬ t.1 < optI (rmO (sC s) a b) → ZV mdX7_farthest (d + 3) (fun v M' => ∃ r, v = some (.int r) ∧ (r = (sp_farthest (nI w) s).1 ∧ zIm M' (sp_farthest (nI w) s).2 ∧ ∀ k, k < 90 → M' k = M k)) 96 [some (.ref 90), some (.int (nI w)), some (.int t.2), some (.int t.1), some (.int (nI a)), some (.int (nI b))] [] M1 := by
          intro hc
          rw [frP, if_neg hc] at this
          refine zv_iinc (w := nI 1) (pc' := 99) dX7_farthest_96 rfl rfl (by decide) (by decide) ?_
          refine zv_goto (pc' := 46) dX7_farthest_99 rfl ?_
          rw [nI_add]
          exact this
        refine zv_iload (pc' := 48) dX7_farthest_46 rfl rfl ?_
        refine zv_aload_n (pc' := 49) dX7_farthest_48 rfl rfl ?_
        refine zv_getIE (pc' := 52) dX7_farthest_49 rfl flX7_65 (by first | rfl | assumption) rfl (by first | exact hN | exact hb | rfl) ?_
        refine zv_icmp_ge (pc' := 55) (tgt := 102) dX7_farthest_52 rfl rfl (fun hcc => absurd hcc (nI_ge (by omega) (by omega))) (fun _ => ?_)
        refine zv_aload_n (pc' := 56) dX7_farthest_55 rfl rfl ?_
        refine zv_getR (pc' := 59) dX7_farthest_56 rfl flX7_50 (by first | rfl | assumption) rfl ?_
        refine zv_iload (pc' := 61) dX7_farthest_59 rfl rfl ?_
        refine zv_ialoadE (pc' := 62) dX7_farthest_61 rfl (by first | rfl | assumption) (by decide) (by omega) (by first | exact hN | exact hb | rfl) ?_
        refine zv_if_lt (pc' := 65) (tgt := 96) dX7_farthest_62 rfl rfl ?_ ?_
        · intro h
          have h := (optI_lt (fun v hv => by have := rmO_lt hk.1 hv; omega)).mp h
          exact nx (by rw [h]; exact h9)
        · intro h
          refine zv_aload_n (pc' := 66) dX7_farthest_65 rfl rfl ?_
          refine zv_getR (pc' := 69) dX7_farthest_66 rfl flX7_50 (by first | rfl | assumption) rfl ?_
          refine zv_iload (pc' := 71) dX7_farthest_69 rfl rfl ?_
          refine zv_ialoadE (pc' := 72) dX7_farthest_71 rfl (by first | rfl | assumption) (by decide) (by omega) (by first | exact hN | exact hb | rfl) ?_
          refine zv_iload_n (pc' := 73) dX7_farthest_72 rfl rfl ?_
          refine zv_icmp_gt (pc' := 76) (tgt := 79) dX7_farthest_73 rfl rfl ?_ ?_
          · intro h2
            rw [frP, if_pos h2] at this
            refine zv_bipush (v := nI 10) (pc' := 81) dX7_farthest_79 rfl (by decide) ?_
            refine zv_iload (pc' := 83) dX7_farthest_81 rfl rfl ?_
            refine zv_imul (pc' := 84) dX7_farthest_83 rfl ?_
            refine zv_top (pk_mul _ _) ?_
            refine zv_iload (pc' := 86) dX7_farthest_84 rfl rfl ?_
            refine zv_iadd (pc' := 87) dX7_farthest_86 rfl ?_
            refine zv_top (nI_add _ _) ?_
            refine zv_istore_n (pc' := 88) dX7_farthest_87 rfl (by decide) ?_
            refine zv_aload_n (pc' := 89) dX7_farthest_88 rfl rfl ?_
            refine zv_getR (pc' := 92) dX7_farthest_89 rfl flX7_50 (by first | rfl | assumption) rfl ?_
            refine zv_iload (pc' := 94) dX7_farthest_92 rfl rfl ?_
            refine zv_ialoadE (pc' := 95) dX7_farthest_94 rfl (by first | rfl | assumption) (by decide) (by omega) (by first | exact hN | exact hb | rfl) ?_
            refine zv_istore_n (pc' := 96) dX7_farthest_95 rfl (by decide) ?_
            refine zv_iinc (w := nI 1) (pc' := 99) dX7_farthest_96 rfl rfl (by decide) (by decide) ?_
            refine zv_goto (pc' := 46) dX7_farthest_99 rfl ?_
            rw [nI_add]
            exact this
          · intro h2
            refine zv_goto (pc' := 96) dX7_farthest_76 rfl ?_
            exact nx h2
    have l1 : ∀ r a t M1, a + r = yN (sC s) → zFr [103] [] M M1 → ¬ t.1 < -9 → zlf r a (frI (sC s)) t = frS (sC s) → ZV mdX7_farthest (d + 3) (fun v M' => ∃ r, v = some (.int r) ∧ (r = (sp_farthest (nI w) s).1 ∧ zIm M' (sp_farthest (nI w) s).2 ∧ ∀ k, k < 90 → M' k = M k)) 25 [some (.ref 90), some (.int (nI w)), some (.int t.2), some (.int t.1), some (.int (nI a)), none] [] M1 := by
      intro r
      induction r with
      | zero =>
        intro a t M1 e hf h9 hz
        have e : a = yN (sC s) := by omega
        subst e
        have hz : t = frS (sC s) := hz
        subst hz
        have hN := (zTe.st hA hf).1.1
        refine zv_iload (pc' := 27) dX7_farthest_25 rfl rfl ?_
        refine zv_aload_n (pc' := 28) dX7_farthest_27 rfl rfl ?_
        refine zv_getIE (pc' := 31) dX7_farthest_28 rfl flX7_65 (by first | rfl | assumption) rfl (by first | exact hN | rfl) ?_
        refine zv_icmp_ge (pc' := 34) (tgt := 108) dX7_farthest_31 rfl rfl (fun _ => ?_) (fun hcc => absurd (Int32.le_refl _) hcc)
        refine zv_iload_n (pc' := 109) dX7_farthest_108 rfl rfl ?_
        rcases (show w = 0 ∨ w = 1 by omega) with rfl | rfl
        · refine zv_if_ne (pc' := 112) (tgt := 116) dX7_farthest_109 rfl rfl (fun hcc => absurd (rfl) hcc) (fun _ => ?_)
          refine zv_iload_n (pc' := 113) dX7_farthest_112 rfl rfl ?_
          refine zv_goto (pc' := 117) dX7_farthest_113 rfl ?_
          refine zv_iret dX7_farthest_117 rfl ?_
          exact zdonme ev hI (zTe.st hA hf)
        · refine zv_if_ne (pc' := 112) (tgt := 116) dX7_farthest_109 rfl rfl (fun _ => ?_) (fun hcc => absurd hcc (by decide))
          refine zv_iload_n (pc' := 117) dX7_farthest_116 rfl rfl ?_
          refine zv_iret dX7_farthest_117 rfl ?_
          exact zdonme ev hI (zTe.st hA hf)
      | succ r ih =>
        intro a t M1 e hf h9 hz
        have hA1 := (zTe.st hA hf).1
        have hN := hA1.1
        refine zv_iload (pc' := 27) dX7_farthest_25 rfl rfl ?_
        refine zv_aload_n (pc' := 28) dX7_farthest_27 rfl rfl ?_
        refine zv_getIE (pc' := 31) dX7_farthest_28 rfl flX7_65 (by first | rfl | assumption) rfl (by first | exact hN | rfl) ?_
        refine zv_icmp_ge (pc' := 34) (tgt := 108) dX7_farthest_31 rfl rfl (fun hcc => absurd hcc (nI_ge (by omega) (by omega))) (fun _ => ?_)
        refine zv_aload_n (pc' := 35) dX7_farthest_34 rfl rfl ?_
        refine zv_iload (pc' := 37) dX7_farthest_35 rfl rfl ?_
        refine zv_cV1_fv (pc' := 40) dX7_farthest_37 rfl lkX7_214 (by first | rfl | assumption) rfl (Nat.le_of_ble_eq_true rfl) (x7_findSteps hA1 hk.1 (by omega)) ?_
        rintro M2 ⟨hst, hf2⟩
        refine zv_iload (pc' := 42) dX7_farthest_40 rfl rfl ?_
        refine zv_iconst (v := nI 1) (pc' := 43) dX7_farthest_42 rfl (by decide) ?_
        refine zv_iadd (pc' := 44) dX7_farthest_43 rfl ?_
        refine zv_istore (pc' := 46) dX7_farthest_44 rfl (by decide) ?_
        rw [nI_add]
        refine l2 a (by omega) M2 (hf.tr hf2) hst (yN (sC s) - (a + 1)) (a + 1) t (by omega) (by omega) h9 (fun h9' => ?_)
        refine zv_iinc (w := nI 1) (pc' := 105) dX7_farthest_102 rfl rfl (by decide) (by decide) ?_
        refine zv_goto (pc' := 25) dX7_farthest_105 rfl ?_
        rw [nI_add]
        exact ih (a + 1) _ M2 (by omega) (hf.tr hf2) h9' hz
    refine zv_bipush (v := (-9 : Int32)) (pc' := 18) dX7_farthest_16 rfl (by decide) ?_
    refine zv_istore_n (pc' := 19) dX7_farthest_18 rfl (by decide) ?_
    refine zv_bipush (v := (-9 : Int32)) (pc' := 21) dX7_farthest_19 rfl (by decide) ?_
    refine zv_istore_n (pc' := 22) dX7_farthest_21 rfl (by decide) ?_
    refine zv_iconst (v := nI 0) (pc' := 23) dX7_farthest_22 rfl (by decide) ?_
    refine zv_istore (pc' := 25) dX7_farthest_23 rfl (by decide) ?_
    exact l1 (yN (sC s)) 0 (-9, -9) M (by omega) zFr.rf (by decide) rfl
  · intro h
    refine zv_aload_n (pc' := 10) dX7_farthest_9 rfl rfl ?_
    refine zv_bipush (v := (-2 : Int32)) (pc' := 12) dX7_farthest_10 rfl (by decide) ?_
    refine zv_top (show (-2 : Int32) = -nI 2 by decide) ?_
    refine zv_cV1_fi (pc' := 15) dX7_farthest_12 rfl lkX7_89 (by first | rfl | assumption) rfl (Nat.le_of_ble_eq_true rfl) (x7_no (by decide)) ?_
    rintro r M1 ⟨rfl, rfl⟩
    refine zv_iret dX7_farthest_15 rfl ?_
    rw [sp_farthest, show otN x 1 = 2 by rw [otN, if_neg (by rw [zb_0.mp h]; decide)]]
    exact zrefm hI (by decide)
theorem gx_groups (x : Int32) : zGx mdX6_groups (d + 4) [.int x] (sp_groups x) := by
  intro M s hI hk
  have hn := hk.1.1
  have hA := hI.1
  refine zex_intro (L := [some (.ref 0), some (.int x), none]) (by decide) (Nat.le_of_ble_eq_true rfl) rfl ?_
  refine zv_iload_n (pc' := 1) dX6_groups_0 rfl rfl ?_
  refine zv_iconst (v := nI 2) (pc' := 2) dX6_groups_1 rfl (by decide) ?_
  refine zv_cS2_pi (pc' := 5) dX6_groups_2 rfl lkX6_114 (Nat.le_of_ble_eq_true rfl) (x6_otherThan) ?_
  have hw := otN_lt (x := x) (n := 2)
  refine zv_istore_n (pc' := 6) dX6_groups_5 rfl (by decide) ?_
  refine zv_iload_n (pc' := 7) dX6_groups_6 rfl rfl ?_
  refine zv_if_eq (pc' := 10) (tgt := 16) dX6_groups_7 rfl rfl ?_ ?_
  · intro h
    have h0 := (neg_w0 _ hw).mp h
    obtain ⟨w, -, hw2, rfl⟩ := isInB_of (by decide) (otN_0.mp h0) (by decide)
    have ev : sp_groups (nI w) s = (grW (sC s) w, s) := by rw [sp_groups, zans_0 h0, pN_nI (by omega)]
    refine zv_aload_n (pc' := 17) dX6_groups_16 rfl rfl ?_
    refine zv_getR (pc' := 20) dX6_groups_17 rfl flX6_42 (by first | rfl | assumption) rfl ?_
    refine zv_aload_n (pc' := 21) dX6_groups_20 rfl rfl ?_
    refine zv_getR (pc' := 24) dX6_groups_21 rfl flX6_10 (by first | rfl | assumption) rfl ?_
    refine zv_cV1_fv (pc' := 27) dX6_groups_24 rfl lkX6_189 (by first | rfl | assumption) rfl (Nat.le_of_ble_eq_true rfl) (x5_read hA hk.1) ?_
    rintro M1 ⟨hT, hs⟩
    refine zv_iload_n (pc' := 28) dX6_groups_27 rfl rfl ?_
    rcases (show w = 0 ∨ w = 1 ∨ w = 2 by omega) with rfl | rfl | rfl
    · refine zv_lookup (pc' := 56) (off := 28) dX6_groups_28 (by decide) (by decide) (by decide) ?_
      refine zv_aload_n (pc' := 57) dX6_groups_56 rfl rfl ?_
      refine zv_getR (pc' := 60) dX6_groups_57 rfl flX6_42 (by first | rfl | assumption) rfl ?_
      refine zv_cV0_pi (pc' := 63) dX6_groups_60 rfl lkX6_198 (by first | rfl | assumption) rfl (Nat.le_of_ble_eq_true rfl) (x5_howManyGroups hT hk.1) ?_
      refine zv_iret dX6_groups_63 rfl ?_
      exact zdonq ev hI (zScr.same hs (by omega))
    · refine zv_lookup (pc' := 64) (off := 36) dX6_groups_28 (by decide) (by decide) (by decide) ?_
      refine zv_aload_n (pc' := 65) dX6_groups_64 rfl rfl ?_
      refine zv_getR (pc' := 68) dX6_groups_65 rfl flX6_42 (by first | rfl | assumption) rfl ?_
      refine zv_cV0_pi (pc' := 71) dX6_groups_68 rfl lkX6_201 (by first | rfl | assumption) rfl (Nat.le_of_ble_eq_true rfl) (x5_mostInGroup hT hk.1) ?_
      refine zv_iret dX6_groups_71 rfl ?_
      exact zdonq ev hI (zScr.same hs (by omega))
    · refine zv_lookup (pc' := 72) (off := 44) dX6_groups_28 (by decide) (by decide) (by decide) ?_
      refine zv_aload_n (pc' := 73) dX6_groups_72 rfl rfl ?_
      refine zv_getR (pc' := 76) dX6_groups_73 rfl flX6_42 (by first | rfl | assumption) rfl ?_
      refine zv_cV0_pi (pc' := 79) dX6_groups_76 rfl lkX6_204 (by first | rfl | assumption) rfl (Nat.le_of_ble_eq_true rfl) (x5_threes hT hk.1) ?_
      refine zv_iret dX6_groups_79 rfl ?_
      exact zdonq ev hI (zScr.same hs (by omega))
  · intro h
    have h0 := mt (neg_w0 _ hw).mpr h
    refine zv_aload_n (pc' := 11) dX6_groups_10 rfl rfl ?_
    refine zv_iload_n (pc' := 12) dX6_groups_11 rfl rfl ?_
    refine zv_cV1_fi (pc' := 15) dX6_groups_12 rfl lkX6_84 (by first | rfl | assumption) rfl (Nat.le_of_ble_eq_true rfl) (x6_refuse hw h0) ?_
    rintro r M1 ⟨rfl, rfl⟩
    refine zv_iret dX6_groups_15 rfl ?_
    exact zrefx hI h0
theorem gm_groups (x : Int32) : zGm mdX7_groups (d + 4) [.int x] (sp_groups x) := by
  intro M s hI hk
  have hn := hk.1.1
  have hA := hI.1
  refine zex_intro (L := [some (.ref 90), some (.int x), none, none, none, none]) (by decide) (Nat.le_of_ble_eq_true rfl) rfl ?_
  refine zv_iload_n (pc' := 1) dX7_groups_0 rfl rfl ?_
  refine zv_iconst (v := nI 0) (pc' := 2) dX7_groups_1 rfl (by decide) ?_
  refine zv_iconst (v := nI 2) (pc' := 3) dX7_groups_2 rfl (by decide) ?_
  refine zv_cS3_pi (pc' := 6) dX7_groups_3 rfl lkX7_100 (Nat.le_of_ble_eq_true rfl) (x7_isIn) ?_
  refine zv_if_ne (pc' := 9) (tgt := 16) dX7_groups_6 rfl rfl ?_ ?_
  · intro h
    have h1 := zb_ne.mp h
    have h0 := otN_0.mpr h1
    obtain ⟨w, -, hw2, rfl⟩ := isInB_of (by decide) h1 (by decide)
    have ev : sp_groups (nI w) s = (grW (sC s) w, s) := by rw [sp_groups, zans_0 h0, pN_nI (by omega)]
    refine zv_iload_n (pc' := 17) dX7_groups_16 rfl rfl ?_
    refine zv_iconst (v := nI 2) (pc' := 18) dX7_groups_17 rfl (by decide) ?_
    refine zv_icmp_ne (pc' := 21) (tgt := 26) dX7_groups_18 rfl rfl ?_ ?_
    · intro hne
      have hne := mt (fun z => (nI_eq (a := w) (b := 2) (by omega) (by decide)).mpr z) hne
      have lp : ∀ r a M1, a + r = yN (sC s) → zFr [103] [] M M1 → ZV mdX7_groups (d + 4) (fun v M' => ∃ r, v = some (.int r) ∧ (r = (sp_groups (nI w) s).1 ∧ zIm M' (sp_groups (nI w) s).2 ∧ ∀ k, k < 90 → M' k = M k)) 33 [some (.ref 90), some (.int (nI w)), some (.int (nI (gpN (sC s) a))), some (.int (nI (mxN (sC s) a))), some (.int (nI a)), none] [] M1 := by
        intro r
        induction r with
        | zero =>
          intro a M1 e hf
          have e : a = yN (sC s) := by omega
          subst e
          have hN := (zTe.st hA hf).1.1
          refine zv_iload (pc' := 35) dX7_groups_33 rfl rfl ?_
          refine zv_aload_n (pc' := 36) dX7_groups_35 rfl rfl ?_
          refine zv_getIE (pc' := 39) dX7_groups_36 rfl flX7_65 (by first | rfl | assumption) rfl (by first | exact hN | rfl) ?_
          refine zv_icmp_ge (pc' := 42) (tgt := 95) dX7_groups_39 rfl rfl (fun _ => ?_) (fun hcc => absurd (Int32.le_refl _) hcc)
          refine zv_iload_n (pc' := 96) dX7_groups_95 rfl rfl ?_
          rcases (show w = 0 ∨ w = 1 by omega) with rfl | rfl
          · refine zv_if_ne (pc' := 99) (tgt := 103) dX7_groups_96 rfl rfl (fun hcc => absurd (rfl) hcc) (fun _ => ?_)
            refine zv_iload_n (pc' := 100) dX7_groups_99 rfl rfl ?_
            refine zv_goto (pc' := 104) dX7_groups_100 rfl ?_
            refine zv_iret dX7_groups_104 rfl ?_
            exact zdonme ev hI (zTe.st hA hf)
          · refine zv_if_ne (pc' := 99) (tgt := 103) dX7_groups_96 rfl rfl (fun _ => ?_) (fun hcc => absurd hcc (by decide))
            refine zv_iload_n (pc' := 104) dX7_groups_103 rfl rfl ?_
            refine zv_iret dX7_groups_104 rfl ?_
            exact zdonme ev hI (zTe.st hA hf)
        | succ r ih =>
          intro a M1 e hf
          have hA1 := (zTe.st hA hf).1
          have hN := hA1.1
          have b1 := mxN_le (c := sC s) a
          have b2 := zcn_le (rrB (sC s) a) 8
          refine zv_iload (pc' := 35) dX7_groups_33 rfl rfl ?_
          refine zv_aload_n (pc' := 36) dX7_groups_35 rfl rfl ?_
          refine zv_getIE (pc' := 39) dX7_groups_36 rfl flX7_65 (by first | rfl | assumption) rfl (by first | exact hN | rfl) ?_
          refine zv_icmp_ge (pc' := 42) (tgt := 95) dX7_groups_39 rfl rfl (fun hcc => absurd hcc (nI_ge (by omega) (by omega))) (fun _ => ?_)
          refine zv_aload_n (pc' := 43) dX7_groups_42 rfl rfl ?_
          refine zv_iload (pc' := 45) dX7_groups_43 rfl rfl ?_
          refine zv_cV1_fi (pc' := 48) dX7_groups_45 rfl lkX7_217 (by first | rfl | assumption) rfl (Nat.le_of_ble_eq_true rfl) (x7_reached hA1 hk.1 (by omega)) ?_
          rintro r2 M2 ⟨rfl, hf2⟩
          have hnext := ih (a + 1) M2 (by omega) (hf.tr hf2)
          have nx2 : ∀ g, g = gpN (sC s) (a + 1) → ZV mdX7_groups (d + 4) (fun v M' => ∃ r, v = some (.int r) ∧ (r = (sp_groups (nI w) s).1 ∧ zIm M' (sp_groups (nI w) s).2 ∧ ∀ k, k < 90 → M' k = M k)) 69 [some (.ref 90), some (.int (nI w)), some (.int (nI (gpN (sC s) a))), some (.int (nI (mxN (sC s) a))), some (.int (nI a)), some (.int (nI (zm 8 (rrB (sC s) a))))] [.int (nI g)] M2 := by
            intro g hg
            rw [mxN] at hnext
            refine zv_istore_n (pc' := 70) dX7_groups_69 rfl (by decide) ?_
            refine zv_iload (pc' := 72) dX7_groups_70 rfl rfl ?_
            refine zv_cS1_pi (pc' := 75) dX7_groups_72 rfl lkX7_184 (Nat.le_of_ble_eq_true rfl) (x7_bitsM) ?_
            refine zv_iload_n (pc' := 76) dX7_groups_75 rfl rfl ?_
            refine zv_icmp_le (pc' := 79) (tgt := 87) dX7_groups_76 rfl rfl ?_ ?_
            · intro h
              have h := (nI_leI (by omega) (by omega)).mp h
              rw [if_neg (by omega)] at hnext
              refine zv_iload_n (pc' := 88) dX7_groups_87 rfl rfl ?_
              refine zv_istore_n (pc' := 89) dX7_groups_88 rfl (by decide) ?_
              refine zv_iinc (w := nI 1) (pc' := 92) dX7_groups_89 rfl rfl (by decide) (by decide) ?_
              refine zv_goto (pc' := 33) dX7_groups_92 rfl ?_
              refine zv_fg [5] ?_
              rw [nI_add, hg]
              exact hnext
            · intro h
              have h := mt (nI_leI (a := zcn 8 (rrB (sC s) a)) (b := mxN (sC s) a) (by omega) (by omega)).mpr h
              rw [if_pos (by omega)] at hnext
              refine zv_iload (pc' := 81) dX7_groups_79 rfl rfl ?_
              refine zv_cS1_pi (pc' := 84) dX7_groups_81 rfl lkX7_184 (Nat.le_of_ble_eq_true rfl) (x7_bitsM) ?_
              refine zv_goto (pc' := 88) dX7_groups_84 rfl ?_
              refine zv_istore_n (pc' := 89) dX7_groups_88 rfl (by decide) ?_
              refine zv_iinc (w := nI 1) (pc' := 92) dX7_groups_89 rfl rfl (by decide) (by decide) ?_
              refine zv_goto (pc' := 33) dX7_groups_92 rfl ?_
              refine zv_fg [5] ?_
              rw [nI_add, hg]
              exact hnext
          refine zv_istore (pc' := 50) dX7_groups_48 rfl (by decide) ?_
          refine zv_iload_n (pc' := 51) dX7_groups_50 rfl rfl ?_
          refine zv_iload (pc' := 53) dX7_groups_51 rfl rfl ?_
          refine zv_iconst (v := nI 1) (pc' := 54) dX7_groups_53 rfl (by decide) ?_
          refine zv_iload (pc' := 56) dX7_groups_54 rfl rfl ?_
          refine zv_ishl (pc' := 57) dX7_groups_56 rfl ?_
          refine zv_top (zsh1 a (by omega)) ?_
          refine zv_iconst (v := nI 1) (pc' := 58) dX7_groups_57 rfl (by decide) ?_
          refine zv_isub (pc' := 59) dX7_groups_58 rfl ?_
          refine zv_top (low_mask a (by omega)) ?_
          refine zv_iand (pc' := 60) dX7_groups_59 rfl ?_
          refine zv_top mk_and ?_
          refine zv_if_ne (pc' := 63) (tgt := 67) dX7_groups_60 rfl rfl ?_ ?_
          · intro h
            have h := mt (fun z => congrArg nI ((rr_low hk.1 (by omega)).mpr z)) h
            have h : zany a (fun i => rrB (sC s) i a) = true := by simpa using h
            refine zv_iconst (v := nI 0) (pc' := 68) dX7_groups_67 rfl (by decide) ?_
            refine zv_iadd (pc' := 69) dX7_groups_68 rfl ?_
            refine zv_top (nI_add _ _) ?_
            exact nx2 _ (by unfold gpN; rw [zcn, h]; rfl)
          · intro h
            have h := (rr_low hk.1 (by omega)).mp ((nI_eq (b := 0) (Nat.lt_trans (zm8_lt _) (by decide)) (by decide)).mp h)
            refine zv_iconst (v := nI 1) (pc' := 64) dX7_groups_63 rfl (by decide) ?_
            refine zv_goto (pc' := 68) dX7_groups_64 rfl ?_
            refine zv_iadd (pc' := 69) dX7_groups_68 rfl ?_
            refine zv_top (nI_add _ _) ?_
            exact nx2 _ (by unfold gpN; rw [zcn, h]; rfl)
      refine zv_iconst (v := nI 0) (pc' := 27) dX7_groups_26 rfl (by decide) ?_
      refine zv_istore_n (pc' := 28) dX7_groups_27 rfl (by decide) ?_
      refine zv_iconst (v := nI 0) (pc' := 29) dX7_groups_28 rfl (by decide) ?_
      refine zv_istore_n (pc' := 30) dX7_groups_29 rfl (by decide) ?_
      refine zv_iconst (v := nI 0) (pc' := 31) dX7_groups_30 rfl (by decide) ?_
      refine zv_istore (pc' := 33) dX7_groups_31 rfl (by decide) ?_
      exact lp (yN (sC s)) 0 M (by omega) zFr.rf
    · intro he
      have he := (nI_eq (a := w) (b := 2) (by omega) (by decide)).mp he
      subst he
      refine zv_aload_n (pc' := 22) dX7_groups_21 rfl rfl ?_
      refine zv_cV0_pi (pc' := 25) dX7_groups_22 rfl lkX7_220 (by first | rfl | assumption) rfl (Nat.le_of_ble_eq_true rfl) (x7_threes hA hk.1) ?_
      refine zv_iret dX7_groups_25 rfl ?_
      exact zdonm (s' := s) ev hI (fun _ _ => rfl)
  · intro h
    refine zv_aload_n (pc' := 10) dX7_groups_9 rfl rfl ?_
    refine zv_bipush (v := (-2 : Int32)) (pc' := 12) dX7_groups_10 rfl (by decide) ?_
    refine zv_top (show (-2 : Int32) = -nI 2 by decide) ?_
    refine zv_cV1_fi (pc' := 15) dX7_groups_12 rfl lkX7_89 (by first | rfl | assumption) rfl (Nat.le_of_ble_eq_true rfl) (x7_no (by decide)) ?_
    rintro r M1 ⟨rfl, rfl⟩
    refine zv_iret dX7_groups_15 rfl ?_
    rw [sp_groups, show otN x 2 = 2 by rw [otN, if_neg (by rw [zb_0.mp h]; decide)]]
    exact zrefm hI (by decide)
end
