/-! hasThen, areKin, allMoney, ruined, first, richest: the reference -/
theorem zdonmq {v : Int32} {s : ZS} {sp : Int32 × ZS} {M M' : ZMem} (e : sp = (v, s)) (hI : zIm M s) (ht : zTd M M' (sC s)) : ∃ r, some (Value.int v) = some (Value.int r) ∧ (r = sp.1 ∧ zIm M' sp.2 ∧ ∀ k, k < 90 → M' k = M k) := zdonm e (hI.td ht) ht.lt
theorem neg9 : ∀ k, k < 100 → ¬ nI k < 0 := by decide +kernel
section
variable {d : Nat} {M : ZMem} {c : ZCty}
theorem x7_moneyIn {p n : Nat} (hA : zAm M c) (hk : zOk c) (hD : M 90 8 = absM 100) (hp : p < yN c) (hn : n < 2 ^ 31) : ZFi mdX7_moneyIn (d + 4) [.ref 90, .int (nI p), .int (nI n)] M (fun r M' => r = nI (yM (yearsC n c) p) ∧ zTd M M' c) := by
  have hn8 := hk.1
  refine zex_intro (L := [some (.ref 90), some (.int (nI p)), some (.int (nI n)), none]) (by decide) (Nat.le_of_ble_eq_true rfl) rfl ?_
  refine zv_aload_n (pc' := 1) dX7_moneyIn_0 rfl rfl ?_
  refine zv_cV0_fv (pc' := 4) dX7_moneyIn_1 rfl lkX7_190 (by first | rfl | assumption) rfl (Nat.le_of_ble_eq_true rfl) (x7_thinks hA) ?_
  rintro M1 h1
  have t1 := zTh.be h1
  refine zv_aload_n (pc' := 5) dX7_moneyIn_4 rfl rfl ?_
  refine zv_iload_n (pc' := 6) dX7_moneyIn_5 rfl rfl ?_
  refine zv_cV1_fv (pc' := 9) dX7_moneyIn_6 rfl lkX7_129 (by first | rfl | assumption) rfl (Nat.le_of_ble_eq_true rfl) (x7_goes t1.2.1 hk (by rw [t1.dead]; exact hD) hn) ?_
  rintro M2 ⟨h2, h3⟩
  have t2 := t1.go h2 h3 (by simp) (by simp)
  have hM := h2.2.2.2.2.1
  refine zv_aload_n (pc' := 10) dX7_moneyIn_9 rfl rfl ?_
  refine zv_getR (pc' := 13) dX7_moneyIn_10 rfl flX7_19 (by first | rfl | assumption) rfl ?_
  refine zv_iload_n (pc' := 14) dX7_moneyIn_13 rfl rfl ?_
  refine zv_ialoadE (pc' := 15) dX7_moneyIn_14 rfl (by first | rfl | assumption) (by decide) (by omega) (by first | exact hM _ (by omega) | rfl) ?_
  refine zv_istore_n (pc' := 16) dX7_moneyIn_15 rfl (by decide) ?_
  refine zv_aload_n (pc' := 17) dX7_moneyIn_16 rfl rfl ?_
  refine zv_cV0_fv (pc' := 20) dX7_moneyIn_17 rfl lkX7_193 (by first | rfl | assumption) rfl (Nat.le_of_ble_eq_true rfl) (x7_forgets t2.1) ?_
  rintro M3 h4
  refine zv_iload_n (pc' := 21) dX7_moneyIn_20 rfl rfl ?_
  refine zv_iret dX7_moneyIn_21 rfl ?_
  exact ⟨_, rfl, rfl, t2.fin h4⟩
theorem x7_wealthIn {n : Nat} (hA : zAm M c) (hk : zOk c) (hD : M 90 8 = absM 100) (hn : n < 2 ^ 31) : ZFi mdX7_wealthIn (d + 4) [.ref 90, .int (nI n)] M (fun r M' => r = nI (wealthN (yearsC n c)) ∧ zTd M M' c) := by
  have hn8 := hk.1
  refine zex_intro (L := [some (.ref 90), some (.int (nI n)), none]) (by decide) (Nat.le_of_ble_eq_true rfl) rfl ?_
  refine zv_aload_n (pc' := 1) dX7_wealthIn_0 rfl rfl ?_
  refine zv_cV0_fv (pc' := 4) dX7_wealthIn_1 rfl lkX7_190 (by first | rfl | assumption) rfl (Nat.le_of_ble_eq_true rfl) (x7_thinks hA) ?_
  rintro M1 h1
  have t1 := zTh.be h1
  refine zv_aload_n (pc' := 5) dX7_wealthIn_4 rfl rfl ?_
  refine zv_iload_n (pc' := 6) dX7_wealthIn_5 rfl rfl ?_
  refine zv_cV1_fv (pc' := 9) dX7_wealthIn_6 rfl lkX7_129 (by first | rfl | assumption) rfl (Nat.le_of_ble_eq_true rfl) (x7_goes t1.2.1 hk (by rw [t1.dead]; exact hD) hn) ?_
  rintro M2 ⟨h2, h3⟩
  have t2 := t1.go h2 h3 (by simp) (by simp)
  refine zv_aload_n (pc' := 10) dX7_wealthIn_9 rfl rfl ?_
  refine zv_cV0_pi (pc' := 13) dX7_wealthIn_10 rfl lkX7_187 (by first | rfl | assumption) rfl (Nat.le_of_ble_eq_true rfl) (x7_wealth h2 (by rw [(zOk_years hk).2]; exact hn8)) ?_
  refine zv_istore_n (pc' := 14) dX7_wealthIn_13 rfl (by decide) ?_
  refine zv_aload_n (pc' := 15) dX7_wealthIn_14 rfl rfl ?_
  refine zv_cV0_fv (pc' := 18) dX7_wealthIn_15 rfl lkX7_193 (by first | rfl | assumption) rfl (Nat.le_of_ble_eq_true rfl) (x7_forgets t2.1) ?_
  rintro M3 h4
  refine zv_iload_n (pc' := 19) dX7_wealthIn_18 rfl rfl ?_
  refine zv_iret dX7_wealthIn_19 rfl ?_
  exact ⟨_, rfl, rfl, t2.fin h4⟩
theorem gm_hasThen (x n w : Int32) : zGm mdX7_hasThen (d + 5) [.int x, .int n, .int w] (sp_hasThen x n w) := by
  intro M s hI hk
  have hn := hk.1.1
  have hA := hI.1
  have hN := hI.1.1
  have fin : ∀ v, v < 7 → v = fiN (nbN (yN (sC s)) x) (bdN n (nI 0) (nI 60)) (otN w 1) → ZV mdX7_hasThen (d + 5) (fun v M' => ∃ r, v = some (.int r) ∧ (r = (sp_hasThen x n w s).1 ∧ zIm M' (sp_hasThen x n w s).2 ∧ ∀ k, k < 90 → M' k = M k)) 36 [some (.ref 90), some (.int x), some (.int n), some (.int w), some (.int (-nI v)), none] [] M := by
    intro v hv hve
    refine zv_iload (pc' := 38) dX7_hasThen_36 rfl rfl ?_
    refine zv_if_eq (pc' := 41) (tgt := 48) dX7_hasThen_38 rfl rfl ?_ ?_
    · intro h
      have h0 := (neg_w0 _ hv).mp h
      rw [hve] at h0
      obtain ⟨g1, g2, g3⟩ := fiN_0.mp h0
      obtain ⟨p, hp, rfl⟩ := hasB_of hn (nbN_0.mp g1)
      obtain ⟨n, -, hn2, rfl⟩ := isInB_of (by decide) (bdN_0.mp g2) (by decide)
      obtain ⟨w, -, hw2, rfl⟩ := isInB_of (by decide) (otN_0.mp g3) (by decide)
      have done : ∀ (u : Int32) (M1 : ZMem), u = htV (yearsC n (sC s)) p w → zTd M M1 (sC s) → ∃ r, some (Value.int u) = some (Value.int r) ∧ (r = (sp_hasThen (nI p) (nI n) (nI w) s).1 ∧ zIm M1 (sp_hasThen (nI p) (nI n) (nI w) s).2 ∧ ∀ k, k < 90 → M1 k = M k) := fun u M1 hu ht => zdonmq (by rw [sp_hasThen, zans_0 h0, pN_nI (by omega), pN_nI (by omega), pN_nI (by omega), hu]) hI ht
      refine zv_iload_n (pc' := 49) dX7_hasThen_48 rfl rfl ?_
      rcases (show w = 0 ∨ w = 1 by omega) with rfl | rfl
      · refine zv_if_ne (pc' := 52) (tgt := 59) dX7_hasThen_49 rfl rfl (fun hcc => absurd (rfl) hcc) (fun _ => ?_)
        refine zv_aload_n (pc' := 53) dX7_hasThen_52 rfl rfl ?_
        refine zv_iload_n (pc' := 54) dX7_hasThen_53 rfl rfl ?_
        refine zv_iload_n (pc' := 55) dX7_hasThen_54 rfl rfl ?_
        refine zv_cV2_fi (pc' := 58) dX7_hasThen_55 rfl lkX7_199 (by first | rfl | assumption) rfl (Nat.le_of_ble_eq_true rfl) (x7_moneyIn hA hk.1 hI.2.1 hp (by omega)) ?_
        rintro r M1 ⟨rfl, ht⟩
        refine zv_iret dX7_hasThen_58 rfl ?_
        exact done _ M1 rfl ht
      · refine zv_if_ne (pc' := 52) (tgt := 59) dX7_hasThen_49 rfl rfl (fun _ => ?_) (fun hcc => absurd hcc (by decide))
        refine zv_aload_n (pc' := 60) dX7_hasThen_59 rfl rfl ?_
        refine zv_cV0_fv (pc' := 63) dX7_hasThen_60 rfl lkX7_190 (by first | rfl | assumption) rfl (Nat.le_of_ble_eq_true rfl) (x7_thinks hA) ?_
        rintro M1 h1
        have t1 := zTh.be h1
        refine zv_aload_n (pc' := 64) dX7_hasThen_63 rfl rfl ?_
        refine zv_iload_n (pc' := 65) dX7_hasThen_64 rfl rfl ?_
        refine zv_cV1_fv (pc' := 68) dX7_hasThen_65 rfl lkX7_129 (by first | rfl | assumption) rfl (Nat.le_of_ble_eq_true rfl) (x7_goes t1.2.1 hk.1 (by rw [t1.dead]; exact hI.2.1) (by omega)) ?_
        rintro M2 ⟨h2, h3⟩
        have t2 := t1.go h2 h3 (by simp) (by simp)
        refine zv_aload_n (pc' := 69) dX7_hasThen_68 rfl rfl ?_
        refine zv_iload_n (pc' := 70) dX7_hasThen_69 rfl rfl ?_
        refine zv_cV1_pi (pc' := 73) dX7_hasThen_70 rfl lkX7_181 (by first | rfl | assumption) rfl (Nat.le_of_ble_eq_true rfl) (x7_kinOf h2 (zOk_years hk.1).1 (by rw [(zOk_years hk.1).2]; exact hp)) ?_
        refine zv_cS1_pi (pc' := 76) dX7_hasThen_73 rfl lkX7_184 (Nat.le_of_ble_eq_true rfl) (x7_bitsM) ?_
        refine zv_istore (pc' := 78) dX7_hasThen_76 rfl (by decide) ?_
        refine zv_aload_n (pc' := 79) dX7_hasThen_78 rfl rfl ?_
        refine zv_cV0_fv (pc' := 82) dX7_hasThen_79 rfl lkX7_193 (by first | rfl | assumption) rfl (Nat.le_of_ble_eq_true rfl) (x7_forgets t2.1) ?_
        rintro M3 h4
        refine zv_iload (pc' := 84) dX7_hasThen_82 rfl rfl ?_
        refine zv_iret dX7_hasThen_84 rfl ?_
        exact done _ M3 rfl (t2.fin h4)
    · intro h
      have h0 := mt (neg_w0 _ hv).mpr h
      refine zv_aload_n (pc' := 42) dX7_hasThen_41 rfl rfl ?_
      refine zv_iload (pc' := 44) dX7_hasThen_42 rfl rfl ?_
      refine zv_cV1_fi (pc' := 47) dX7_hasThen_44 rfl lkX7_89 (by first | rfl | assumption) rfl (Nat.le_of_ble_eq_true rfl) (x7_no hv) ?_
      rintro r M1 ⟨rfl, rfl⟩
      refine zv_iret dX7_hasThen_47 rfl ?_
      rw [sp_hasThen, ← hve]
      exact zrefm hI h0
  have mid : ∀ v, v < 7 → v = fiN (nbN (yN (sC s)) x) (bdN n (nI 0) (nI 60)) 0 → ZV mdX7_hasThen (d + 5) (fun v M' => ∃ r, v = some (.int r) ∧ (r = (sp_hasThen x n w s).1 ∧ zIm M' (sp_hasThen x n w s).2 ∧ ∀ k, k < 90 → M' k = M k)) 16 [some (.ref 90), some (.int x), some (.int n), some (.int w), none, none] [.int (-nI v)] M := by
    intro v hv hve
    refine zv_istore (pc' := 18) dX7_hasThen_16 rfl (by decide) ?_
    refine zv_iload (pc' := 20) dX7_hasThen_18 rfl rfl ?_
    refine zv_if_ne (pc' := 23) (tgt := 36) dX7_hasThen_20 rfl rfl ?_ ?_
    · intro h
      have h0 := mt (neg_w0 _ hv).mpr h
      refine fin v hv ?_
      rw [hve] at h0 ⊢
      unfold fiN at h0 ⊢
      split
      · rename_i q1
        rw [if_pos q1] at h0
        split
        · rename_i q2
          rw [if_pos q2] at h0
          exact absurd rfl h0
        · rfl
      · rfl
    · intro h
      have h0 := (neg_w0 _ hv).mp h
      have h1 := h0
      rw [hve] at h1
      obtain ⟨g1, g2, -⟩ := fiN_0.mp h1
      refine zv_iload_n (pc' := 24) dX7_hasThen_23 rfl rfl ?_
      refine zv_iconst (v := nI 0) (pc' := 25) dX7_hasThen_24 rfl (by decide) ?_
      refine zv_iconst (v := nI 1) (pc' := 26) dX7_hasThen_25 rfl (by decide) ?_
      refine zv_cS3_pi (pc' := 29) dX7_hasThen_26 rfl lkX7_100 (Nat.le_of_ble_eq_true rfl) (x7_isIn) ?_
      refine zv_if_ne (pc' := 32) (tgt := 36) dX7_hasThen_29 rfl rfl ?_ ?_
      · intro h3
        exact fin v hv (by rw [fiN, if_pos g1, if_pos g2, otN_0.mpr (zb_ne.mp h3), h0])
      · intro h3
        have e : otN w 1 = 2 := by rw [otN, if_neg (by rw [zb_0.mp h3]; decide)]
        refine zv_bipush (v := (-2 : Int32)) (pc' := 34) dX7_hasThen_32 rfl (by decide) ?_
        refine zv_top (show (-2 : Int32) = -nI 2 by decide) ?_
        refine zv_istore (pc' := 36) dX7_hasThen_34 rfl (by decide) ?_
        exact fin 2 (by decide) (by rw [fiN, if_pos g1, if_pos g2, e])
  refine zex_intro (L := [some (.ref 90), some (.int x), some (.int n), some (.int w), none, none]) (by decide) (Nat.le_of_ble_eq_true rfl) rfl ?_
  refine zv_aload_n (pc' := 1) dX7_hasThen_0 rfl rfl ?_
  refine zv_iload_n (pc' := 2) dX7_hasThen_1 rfl rfl ?_
  refine zv_cV1_pi (pc' := 5) dX7_hasThen_2 rfl lkX7_71 (by first | rfl | assumption) rfl (Nat.le_of_ble_eq_true rfl) (x7_isOne hN) ?_
  refine zv_if_ne (pc' := 8) (tgt := 12) dX7_hasThen_5 rfl rfl ?_ ?_
  · intro h
    have g1 := nbN_0.mpr (zb_ne.mp h)
    refine zv_iload_n (pc' := 13) dX7_hasThen_12 rfl rfl ?_
    refine zv_cS1_pi (pc' := 16) dX7_hasThen_13 rfl lkX7_196 (Nat.le_of_ble_eq_true rfl) (x7_notYears) ?_
    refine mid _ bdN_lt ?_
    rw [fiN, if_pos g1]
    split
    · assumption
    · rfl
  · intro h
    refine zv_iconst (v := (-1 : Int32)) (pc' := 9) dX7_hasThen_8 rfl (by decide) ?_
    refine zv_goto (pc' := 16) dX7_hasThen_9 rfl ?_
    refine zv_top (show (-1 : Int32) = -nI 1 by decide) ?_
    exact mid 1 (by decide) (by rw [nbN, if_neg (by rw [zb_0.mp h]; decide)]; rfl)
theorem gm_areKin (x y n : Int32) : zGm mdX7_areKin (d + 5) [.int x, .int y, .int n] (sp_areKin x y n) := by
  intro M s hI hk
  have hn := hk.1.1
  have hA := hI.1
  have hN := hI.1.1
  have fin : ∀ v, v < 7 → v = fiN (twN (yN (sC s)) x y) (bdN n (nI 0) (nI 60)) 0 → ZV mdX7_areKin (d + 5) (fun v M' => ∃ r, v = some (.int r) ∧ (r = (sp_areKin x y n s).1 ∧ zIm M' (sp_areKin x y n s).2 ∧ ∀ k, k < 90 → M' k = M k)) 17 [some (.ref 90), some (.int x), some (.int y), some (.int n), none, none] [.int (-nI v)] M := by
    intro v hv hve
    refine zv_istore (pc' := 19) dX7_areKin_17 rfl (by decide) ?_
    refine zv_iload (pc' := 21) dX7_areKin_19 rfl rfl ?_
    refine zv_if_eq (pc' := 24) (tgt := 31) dX7_areKin_21 rfl rfl ?_ ?_
    · intro h
      have h0 := (neg_w0 _ hv).mp h
      rw [hve] at h0
      obtain ⟨g1, g2, -⟩ := fiN_0.mp h0
      obtain ⟨p, q, hp, hq, hpq, rfl, rfl⟩ := twoB_of hn (twN_0.mp g1)
      obtain ⟨n, -, hn2, rfl⟩ := isInB_of (by decide) (bdN_0.mp g2) (by decide)
      refine zv_aload_n (pc' := 32) dX7_areKin_31 rfl rfl ?_
      refine zv_cV0_fv (pc' := 35) dX7_areKin_32 rfl lkX7_190 (by first | rfl | assumption) rfl (Nat.le_of_ble_eq_true rfl) (x7_thinks hA) ?_
      rintro M1 h1
      have t1 := zTh.be h1
      refine zv_aload_n (pc' := 36) dX7_areKin_35 rfl rfl ?_
      refine zv_iload_n (pc' := 37) dX7_areKin_36 rfl rfl ?_
      refine zv_cV1_fv (pc' := 40) dX7_areKin_37 rfl lkX7_129 (by first | rfl | assumption) rfl (Nat.le_of_ble_eq_true rfl) (x7_goes t1.2.1 hk.1 (by rw [t1.dead]; exact hI.2.1) (by omega)) ?_
      rintro M2 ⟨h2, h3⟩
      have t2 := t1.go h2 h3 (by simp) (by simp)
      have rest : ZV mdX7_areKin (d + 5) (fun v M' => ∃ r, v = some (.int r) ∧ (r = (sp_areKin (nI p) (nI q) (nI n) s).1 ∧ zIm M' (sp_areKin (nI p) (nI q) (nI n) s).2 ∧ ∀ k, k < 90 → M' k = M k)) 54 [some (.ref 90), some (.int (nI p)), some (.int (nI q)), some (.int (nI n)), none, none] [.int (zb (kinB (yearsC n (sC s)) p q))] M2 := by
        refine zv_istore (pc' := 56) dX7_areKin_54 rfl (by decide) ?_
        refine zv_aload_n (pc' := 57) dX7_areKin_56 rfl rfl ?_
        refine zv_cV0_fv (pc' := 60) dX7_areKin_57 rfl lkX7_193 (by first | rfl | assumption) rfl (Nat.le_of_ble_eq_true rfl) (x7_forgets t2.1) ?_
        rintro M3 h4
        refine zv_iload (pc' := 62) dX7_areKin_60 rfl rfl ?_
        refine zv_iret dX7_areKin_62 rfl ?_
        exact zdonmq (by rw [sp_areKin, zans_0 h0, pN_nI (by omega), pN_nI (by omega), pN_nI (by omega)]) hI (t2.fin h4)
      refine zv_aload_n (pc' := 41) dX7_areKin_40 rfl rfl ?_
      refine zv_iload_n (pc' := 42) dX7_areKin_41 rfl rfl ?_
      refine zv_iload_n (pc' := 43) dX7_areKin_42 rfl rfl ?_
      refine zv_cV2_pi (pc' := 46) dX7_areKin_43 rfl lkX7_79 (by first | rfl | assumption) rfl (Nat.le_of_ble_eq_true rfl) (x7_isKin h2 (zOk_years hk.1).1 (by rw [(zOk_years hk.1).2]; exact hp) (by rw [(zOk_years hk.1).2]; exact hq)) ?_
      refine zv_if_eq (pc' := 49) (tgt := 53) dX7_areKin_46 rfl rfl ?_ ?_
      · intro hb
        rw [zb_0.mp hb] at rest
        refine zv_iconst (v := nI 0) (pc' := 54) dX7_areKin_53 rfl (by decide) ?_
        refine zv_fg [4] ?_
        exact rest
      · intro hb
        rw [zb_ne.mp hb] at rest
        refine zv_iconst (v := nI 1) (pc' := 50) dX7_areKin_49 rfl (by decide) ?_
        refine zv_goto (pc' := 54) dX7_areKin_50 rfl ?_
        refine zv_fg [4] ?_
        exact rest
    · intro h
      have h0 := mt (neg_w0 _ hv).mpr h
      refine zv_aload_n (pc' := 25) dX7_areKin_24 rfl rfl ?_
      refine zv_iload (pc' := 27) dX7_areKin_25 rfl rfl ?_
      refine zv_cV1_fi (pc' := 30) dX7_areKin_27 rfl lkX7_89 (by first | rfl | assumption) rfl (Nat.le_of_ble_eq_true rfl) (x7_no hv) ?_
      rintro r M1 ⟨rfl, rfl⟩
      refine zv_iret dX7_areKin_30 rfl ?_
      rw [sp_areKin, ← hve]
      exact zrefm hI h0
  refine zex_intro (L := [some (.ref 90), some (.int x), some (.int y), some (.int n), none, none]) (by decide) (Nat.le_of_ble_eq_true rfl) rfl ?_
  refine zv_aload_n (pc' := 1) dX7_areKin_0 rfl rfl ?_
  refine zv_iload_n (pc' := 2) dX7_areKin_1 rfl rfl ?_
  refine zv_iload_n (pc' := 3) dX7_areKin_2 rfl rfl ?_
  refine zv_cV2_pi (pc' := 6) dX7_areKin_3 rfl lkX7_119 (by first | rfl | assumption) rfl (Nat.le_of_ble_eq_true rfl) (x7_areTwo hN) ?_
  refine zv_if_ne (pc' := 9) (tgt := 13) dX7_areKin_6 rfl rfl ?_ ?_
  · intro h
    have g1 := twN_0.mpr (zb_ne.mp h)
    refine zv_iload_n (pc' := 14) dX7_areKin_13 rfl rfl ?_
    refine zv_cS1_pi (pc' := 17) dX7_areKin_14 rfl lkX7_196 (Nat.le_of_ble_eq_true rfl) (x7_notYears) ?_
    refine fin _ bdN_lt ?_
    rw [fiN, if_pos g1]
    split
    · assumption
    · rfl
  · intro h
    refine zv_iconst (v := (-1 : Int32)) (pc' := 10) dX7_areKin_9 rfl (by decide) ?_
    refine zv_goto (pc' := 17) dX7_areKin_10 rfl ?_
    refine zv_top (show (-1 : Int32) = -nI 1 by decide) ?_
    exact fin 1 (by decide) (by rw [twN, if_neg (by rw [zb_0.mp h]; decide)]; rfl)
theorem gm_allMoney (n : Int32) : zGm mdX7_allMoney (d + 5) [.int n] (sp_allMoney n) := by
  intro M s hI hk
  refine zex_intro (L := [some (.ref 90), some (.int n), none]) (by decide) (Nat.le_of_ble_eq_true rfl) rfl ?_
  refine zv_iload_n (pc' := 1) dX7_allMoney_0 rfl rfl ?_
  refine zv_cS1_pi (pc' := 4) dX7_allMoney_1 rfl lkX7_196 (Nat.le_of_ble_eq_true rfl) (x7_notYears) ?_
  have hw := bdN_lt (x := n) (lo := nI 0) (hi := nI 60)
  refine zv_istore_n (pc' := 5) dX7_allMoney_4 rfl (by decide) ?_
  refine zv_iload_n (pc' := 6) dX7_allMoney_5 rfl rfl ?_
  refine zv_if_eq (pc' := 9) (tgt := 17) dX7_allMoney_6 rfl rfl ?_ ?_
  · intro h
    have h0 := (neg_w0 _ hw).mp h
    obtain ⟨n, -, hn2, rfl⟩ := isInB_of (by decide) (bdN_0.mp h0) (by decide)
    refine zv_aload_n (pc' := 18) dX7_allMoney_17 rfl rfl ?_
    refine zv_iload_n (pc' := 19) dX7_allMoney_18 rfl rfl ?_
    refine zv_cV1_fi (pc' := 22) dX7_allMoney_19 rfl lkX7_202 (by first | rfl | assumption) rfl (Nat.le_of_ble_eq_true rfl) (x7_wealthIn hI.1 hk.1 hI.2.1 (by omega)) ?_
    rintro r M1 ⟨rfl, ht⟩
    refine zv_iret dX7_allMoney_22 rfl ?_
    exact zdonmq (by rw [sp_allMoney, zans_0 h0, pN_nI (by omega)]) hI ht
  · intro h
    have h0 := mt (neg_w0 _ hw).mpr h
    refine zv_aload_n (pc' := 10) dX7_allMoney_9 rfl rfl ?_
    refine zv_iload_n (pc' := 11) dX7_allMoney_10 rfl rfl ?_
    refine zv_cV1_fi (pc' := 14) dX7_allMoney_11 rfl lkX7_89 (by first | rfl | assumption) rfl (Nat.le_of_ble_eq_true rfl) (x7_no hw) ?_
    rintro r M1 ⟨rfl, rfl⟩
    refine zv_goto (pc' := 22) dX7_allMoney_14 rfl ?_
    refine zv_iret dX7_allMoney_22 rfl ?_
    exact zrefm hI h0
theorem x7_ruinOf {p : Nat} (hA : zAm M c) (hk : zOk c) (hD : M 90 8 = absM 100) (hp : p < yN c) : ZFi mdX7_ruinOf (d + 3) [.ref 90, .int (nI p)] M (fun r M' => r = optI (ruinC c p) ∧ zTd M M' c) := by
  have hn8 := hk.1
  have done : ∀ (x : Int32) (M1 : ZMem) (c1 : ZCty) (L3 : Option Value), x = optI (ruinC c p) → zTh M M1 c c1 → ZV mdX7_ruinOf (d + 3) (fun v M' => ∃ r, v = some (.int r) ∧ (r = optI (ruinC c p) ∧ zTd M M' c)) 45 [some (.ref 90), some (.int (nI p)), some (.int x), L3] [] M1 := by
    intro x M1 c1 L3 hx ht
    refine zv_aload_n (pc' := 46) dX7_ruinOf_45 rfl rfl ?_
    refine zv_cV0_fv (pc' := 49) dX7_ruinOf_46 rfl lkX7_193 (by first | rfl | assumption) rfl (Nat.le_of_ble_eq_true rfl) (x7_forgets ht.1) ?_
    rintro M3 h4
    refine zv_iload_n (pc' := 50) dX7_ruinOf_49 rfl rfl ?_
    refine zv_iret dX7_ruinOf_50 rfl ?_
    exact ⟨_, rfl, hx, ht.fin h4⟩
  have lp : ∀ r k M1, k + r = 61 → zTh M M1 c (yearsC k c) → zfst r k (fun k => decide (yM (yearsC k c) p = 0)) = ruinC c p → ZV mdX7_ruinOf (d + 3) (fun v M' => ∃ r, v = some (.int r) ∧ (r = optI (ruinC c p) ∧ zTd M M' c)) 9 [some (.ref 90), some (.int (nI p)), some (.int (-9)), some (.int (nI k))] [] M1 := by
    intro r
    induction r with
    | zero =>
      intro k M1 e ht hz
      have e : k = 61 := by omega
      subst e
      refine zv_iload_n (pc' := 10) dX7_ruinOf_9 rfl rfl ?_
      refine zv_bipush (v := nI 60) (pc' := 12) dX7_ruinOf_10 rfl (by decide) ?_
      refine zv_icmp_gt (pc' := 15) (tgt := 45) dX7_ruinOf_12 rfl rfl (fun _ => ?_) (fun hcc => absurd (by decide) hcc)
      exact done _ M1 _ _ (by rw [← hz]; rfl) ht
    | succ r ih =>
      intro k M1 e ht hz
      have hM := ht.2.1.2.2.2.2.1
      have hkk := zOk_years (k := k) hk
      have hM9 := hkk.1.2.2.2.1 p
      refine zv_iload_n (pc' := 10) dX7_ruinOf_9 rfl rfl ?_
      refine zv_bipush (v := nI 60) (pc' := 12) dX7_ruinOf_10 rfl (by decide) ?_
      refine zv_icmp_gt (pc' := 15) (tgt := 45) dX7_ruinOf_12 rfl rfl (fun hcc => absurd hcc (nI_nlt (by omega) (by omega))) (fun _ => ?_)
      refine zv_iload_n (pc' := 16) dX7_ruinOf_15 rfl rfl ?_
      refine zv_if_ge (pc' := 19) (tgt := 45) dX7_ruinOf_16 rfl rfl (fun hcc => absurd hcc (by decide)) (fun _ => ?_)
      refine zv_aload_n (pc' := 20) dX7_ruinOf_19 rfl rfl ?_
      refine zv_getR (pc' := 23) dX7_ruinOf_20 rfl flX7_19 (by first | rfl | assumption) rfl ?_
      refine zv_iload_n (pc' := 24) dX7_ruinOf_23 rfl rfl ?_
      refine zv_ialoadE (pc' := 25) dX7_ruinOf_24 rfl (by first | rfl | assumption) (by decide) (by omega) (by first | exact hM _ (by omega) | rfl) ?_
      refine zv_if_ne (pc' := 28) (tgt := 32) dX7_ruinOf_25 rfl rfl ?_ ?_
      · intro h
        have hne : ¬ yM (yearsC k c) p = 0 := fun z => h (by rw [z]; rfl)
        refine zv_bipush (v := (-9 : Int32)) (pc' := 34) dX7_ruinOf_32 rfl (by decide) ?_
        refine zv_istore_n (pc' := 35) dX7_ruinOf_34 rfl (by decide) ?_
        refine zv_aload_n (pc' := 36) dX7_ruinOf_35 rfl rfl ?_
        refine zv_cV0_fv (pc' := 39) dX7_ruinOf_36 rfl lkX7_178 (by first | rfl | assumption) rfl (Nat.le_of_ble_eq_true rfl) (x7_goesYear (dd := 100) ht.2.1 hkk.1 (by rw [ht.dead]; exact hD)) ?_
        rintro M2 ⟨h1, h2⟩
        refine zv_iinc (w := nI 1) (pc' := 42) dX7_ruinOf_39 rfl rfl (by decide) (by decide) ?_
        refine zv_goto (pc' := 9) dX7_ruinOf_42 rfl ?_
        rw [nI_add]
        rw [zfst, if_neg (by simp [hne])] at hz
        refine ih (k + 1) M2 (by omega) ?_ hz
        rw [yearsC_succ]
        exact ht.go h1 h2 (by simp) (by simp)
      · intro h
        have he : yM (yearsC k c) p = 0 := (nI_eq (b := 0) (by omega) (by decide)).mp h
        rw [zfst, if_pos (by simp [he])] at hz
        refine zv_iload_n (pc' := 29) dX7_ruinOf_28 rfl rfl ?_
        refine zv_goto (pc' := 34) dX7_ruinOf_29 rfl ?_
        refine zv_istore_n (pc' := 35) dX7_ruinOf_34 rfl (by decide) ?_
        refine zv_aload_n (pc' := 36) dX7_ruinOf_35 rfl rfl ?_
        refine zv_cV0_fv (pc' := 39) dX7_ruinOf_36 rfl lkX7_178 (by first | rfl | assumption) rfl (Nat.le_of_ble_eq_true rfl) (x7_goesYear (dd := 100) ht.2.1 hkk.1 (by rw [ht.dead]; exact hD)) ?_
        rintro M2 ⟨h1, h2⟩
        refine zv_iinc (w := nI 1) (pc' := 42) dX7_ruinOf_39 rfl rfl (by decide) (by decide) ?_
        refine zv_goto (pc' := 9) dX7_ruinOf_42 rfl ?_
        have t2 := ht.go h1 h2 (by simp) (by simp)
        refine zv_iload_n (pc' := 10) dX7_ruinOf_9 rfl rfl ?_
        refine zv_bipush (v := nI 60) (pc' := 12) dX7_ruinOf_10 rfl (by decide) ?_
        refine zv_icmp_gt (pc' := 15) (tgt := 45) dX7_ruinOf_12 rfl rfl ?_ ?_
        · intro _
          exact done _ M2 _ _ (by rw [← hz]; rfl) t2
        · intro _
          refine zv_iload_n (pc' := 16) dX7_ruinOf_15 rfl rfl ?_
          refine zv_if_ge (pc' := 19) (tgt := 45) dX7_ruinOf_16 rfl rfl (fun _ => ?_) (fun hcc => absurd (nI_pos' (by omega)) hcc)
          exact done _ M2 _ _ (by rw [← hz]; rfl) t2
  refine zex_intro (L := [some (.ref 90), some (.int (nI p)), none, none]) (by decide) (Nat.le_of_ble_eq_true rfl) rfl ?_
  refine zv_aload_n (pc' := 1) dX7_ruinOf_0 rfl rfl ?_
  refine zv_cV0_fv (pc' := 4) dX7_ruinOf_1 rfl lkX7_190 (by first | rfl | assumption) rfl (Nat.le_of_ble_eq_true rfl) (x7_thinks hA) ?_
  rintro M1 h1
  have t1 := zTh.be h1
  refine zv_bipush (v := (-9 : Int32)) (pc' := 6) dX7_ruinOf_4 rfl (by decide) ?_
  refine zv_istore_n (pc' := 7) dX7_ruinOf_6 rfl (by decide) ?_
  refine zv_iconst (v := nI 0) (pc' := 8) dX7_ruinOf_7 rfl (by decide) ?_
  refine zv_istore_n (pc' := 9) dX7_ruinOf_8 rfl (by decide) ?_
  exact lp 61 0 M1 (by omega) t1 rfl
theorem gm_ruined (x : Int32) : zGm mdX7_ruined (d + 4) [.int x] (sp_ruined x) := by
  intro M s hI hk
  have hN := hI.1.1
  refine zex_intro (L := [some (.ref 90), some (.int x)]) (by decide) (Nat.le_of_ble_eq_true rfl) rfl ?_
  refine zv_aload_n (pc' := 1) dX7_ruined_0 rfl rfl ?_
  refine zv_iload_n (pc' := 2) dX7_ruined_1 rfl rfl ?_
  refine zv_cV1_pi (pc' := 5) dX7_ruined_2 rfl lkX7_71 (by first | rfl | assumption) rfl (Nat.le_of_ble_eq_true rfl) (x7_isOne hN) ?_
  refine zv_if_eq (pc' := 8) (tgt := 16) dX7_ruined_5 rfl rfl ?_ ?_
  · intro h
    refine zv_aload_n (pc' := 17) dX7_ruined_16 rfl rfl ?_
    refine zv_iconst (v := (-1 : Int32)) (pc' := 18) dX7_ruined_17 rfl (by decide) ?_
    refine zv_top (show (-1 : Int32) = -nI 1 by decide) ?_
    refine zv_cV1_fi (pc' := 21) dX7_ruined_18 rfl lkX7_89 (by first | rfl | assumption) rfl (Nat.le_of_ble_eq_true rfl) (x7_no (by decide)) ?_
    rintro r M1 ⟨rfl, rfl⟩
    refine zv_iret dX7_ruined_21 rfl ?_
    rw [sp_ruined, show nbN (yN (sC s)) x = 1 by rw [nbN, if_neg (by rw [zb_0.mp h]; decide)]]
    exact zrefm hI (by decide)
  · intro h
    have h1 := zb_ne.mp h
    have h0 := nbN_0.mpr h1
    obtain ⟨p, hp, rfl⟩ := hasB_of hk.1.1 h1
    have := hk.1.1
    refine zv_aload_n (pc' := 9) dX7_ruined_8 rfl rfl ?_
    refine zv_iload_n (pc' := 10) dX7_ruined_9 rfl rfl ?_
    refine zv_cV1_fi (pc' := 13) dX7_ruined_10 rfl lkX7_205 (by first | rfl | assumption) rfl (Nat.le_of_ble_eq_true rfl) (x7_ruinOf hI.1 hk.1 hI.2.1 hp) ?_
    rintro r M1 ⟨rfl, ht⟩
    refine zv_goto (pc' := 21) dX7_ruined_13 rfl ?_
    refine zv_iret dX7_ruined_21 rfl ?_
    exact zdonmq (by rw [sp_ruined, zans_0 h0, pN_nI (by omega)]) hI ht
theorem x7_isSteady (hA : zAm M c) (hk : zOk c) (hD : M 90 8 = absM 100) : ZFi mdX7_isSteady (d + 3) [.ref 90] M (fun r M' => r = zb (asB (yearC 100 c) c) ∧ zAm M' (yearC 100 c) ∧ zFr [94, 95, 102] [7] M M') := by
  have hn := hk.1
  have hb := hk.2.2.2.1
  have hk2 := zOk_year (dd := 100) hk
  have hb2 := hk2.1.2.2.2.1
  have lp2 : ∀ M2, zAm M2 (yearC 100 c) → zFr [94, 95, 102] [7] M M2 → (∀ j, j < yN c → M2 102 j = nI (yM c j) ∧ M2 102 (j + 8) = nI (zm 8 (yS c j))) → ∀ r k, k + r = yN c → zall k (fun i => decide (yM (yearC 100 c) i = yM c i) && decide (zm 8 (yS (yearC 100 c) i) = zm 8 (yS c i))) = true → ZV mdX7_isSteady (d + 3) (fun v M' => ∃ r, v = some (.int r) ∧ (r = zb (asB (yearC 100 c) c) ∧ zAm M' (yearC 100 c) ∧ zFr [94, 95, 102] [7] M M')) 49 [some (.ref 90), some (.int (nI k))] [] M2 := by
    intro M2 hA2 hs2 hB r
    have hN : M2 90 6 = nI (yN c) := by rw [← hk2.2]; exact hA2.1
    have hM := hA2.2.2.2.2.1
    have hS := hA2.2.2.2.2.2.1
    induction r with
    | zero =>
      intro k e ha
      have e : k = yN c := by omega
      subst e
      refine zv_iload_n (pc' := 50) dX7_isSteady_49 rfl rfl ?_
      refine zv_aload_n (pc' := 51) dX7_isSteady_50 rfl rfl ?_
      refine zv_getIE (pc' := 54) dX7_isSteady_51 rfl flX7_65 (by first | rfl | assumption) rfl (by first | exact hN | rfl) ?_
      refine zv_icmp_ge (pc' := 57) (tgt := 98) dX7_isSteady_54 rfl rfl (fun _ => ?_) (fun hcc => absurd (Int32.le_refl _) hcc)
      refine zv_iconst (v := nI 1) (pc' := 99) dX7_isSteady_98 rfl (by decide) ?_
      refine zv_ireturn dX7_isSteady_99 rfl (by first | rfl | exact zb_nar _) ?_
      refine ⟨_, rfl, ?_, hA2, hs2⟩
      have : asB (yearC 100 c) c = true := by rw [asB, hk2.2]; exact ha
      rw [this]; rfl
    | succ r ih =>
      intro k e ha
      have bad : ¬ (yM (yearC 100 c) k = yM c k ∧ zm 8 (yS (yearC 100 c) k) = zm 8 (yS c k)) → ∃ r, some (Value.int (nI 0)) = some (Value.int r) ∧ (r = zb (asB (yearC 100 c) c) ∧ zAm M2 (yearC 100 c) ∧ zFr [94, 95, 102] [7] M M2) := by
        intro h
        have : asB (yearC 100 c) c = false := by
          cases h2 : asB (yearC 100 c) c
          · rfl
          · have := zall_iff.mp h2 k (by rw [hk2.2]; omega)
            simp at this
            exact absurd this h
        exact ⟨_, rfl, by rw [this]; rfl, hA2, hs2⟩
      have hB1 := (hB k (by omega)).1
      have hB2 := (hB k (by omega)).2
      refine zv_iload_n (pc' := 50) dX7_isSteady_49 rfl rfl ?_
      refine zv_aload_n (pc' := 51) dX7_isSteady_50 rfl rfl ?_
      refine zv_getIE (pc' := 54) dX7_isSteady_51 rfl flX7_65 (by first | rfl | assumption) rfl (by first | exact hN | exact hM _ (by omega) | exact hS _ (by omega) | exact hB1 | exact hB2 | rfl) ?_
      refine zv_icmp_ge (pc' := 57) (tgt := 98) dX7_isSteady_54 rfl rfl (fun hcc => absurd hcc (nI_ge (by omega) (by omega))) (fun _ => ?_)
      refine zv_aload_n (pc' := 58) dX7_isSteady_57 rfl rfl ?_
      refine zv_getR (pc' := 61) dX7_isSteady_58 rfl flX7_47 (by first | rfl | assumption) rfl ?_
      refine zv_iload_n (pc' := 62) dX7_isSteady_61 rfl rfl ?_
      refine zv_ialoadE (pc' := 63) dX7_isSteady_62 rfl (by first | rfl | assumption) (by decide) (by omega) (by first | exact hN | exact hM _ (by omega) | exact hS _ (by omega) | exact hB1 | exact hB2 | rfl) ?_
      refine zv_aload_n (pc' := 64) dX7_isSteady_63 rfl rfl ?_
      refine zv_getR (pc' := 67) dX7_isSteady_64 rfl flX7_19 (by first | rfl | assumption) rfl ?_
      refine zv_iload_n (pc' := 68) dX7_isSteady_67 rfl rfl ?_
      refine zv_ialoadE (pc' := 69) dX7_isSteady_68 rfl (by first | rfl | assumption) (by decide) (by omega) (by first | exact hN | exact hM _ (by omega) | exact hS _ (by omega) | exact hB1 | exact hB2 | rfl) ?_
      have q1 := hb k
      have q2 := hb2 k
      refine zv_icmp_ne (pc' := 72) (tgt := 90) dX7_isSteady_69 rfl rfl ?_ ?_
      · intro h
        refine zv_iconst (v := nI 0) (pc' := 91) dX7_isSteady_90 rfl (by decide) ?_
        refine zv_ireturn dX7_isSteady_91 rfl (by first | rfl | exact zb_nar _) ?_
        exact bad (fun z => h (by rw [z.1]))
      · intro h
        have h := (nI_eq (by omega) (by omega)).mp h
        refine zv_aload_n (pc' := 73) dX7_isSteady_72 rfl rfl ?_
        refine zv_getR (pc' := 76) dX7_isSteady_73 rfl flX7_47 (by first | rfl | assumption) rfl ?_
        refine zv_iload_n (pc' := 77) dX7_isSteady_76 rfl rfl ?_
        refine zv_bipush (v := nI 8) (pc' := 79) dX7_isSteady_77 rfl (by decide) ?_
        refine zv_iadd (pc' := 80) dX7_isSteady_79 rfl ?_
        refine zv_top (nI_add _ _) ?_
        refine zv_ialoadE (pc' := 81) dX7_isSteady_80 rfl (by first | rfl | assumption) (by decide) (by omega) (by first | exact hN | exact hM _ (by omega) | exact hS _ (by omega) | exact hB1 | exact hB2 | rfl) ?_
        refine zv_aload_n (pc' := 82) dX7_isSteady_81 rfl rfl ?_
        refine zv_getR (pc' := 85) dX7_isSteady_82 rfl flX7_22 (by first | rfl | assumption) rfl ?_
        refine zv_iload_n (pc' := 86) dX7_isSteady_85 rfl rfl ?_
        refine zv_ialoadE (pc' := 87) dX7_isSteady_86 rfl (by first | rfl | assumption) (by decide) (by omega) (by first | exact hN | exact hM _ (by omega) | exact hS _ (by omega) | exact hB1 | exact hB2 | rfl) ?_
        have q3 := zm8_lt (yS c k)
        have q4 := zm8_lt (yS (yearC 100 c) k)
        refine zv_icmp_eq (pc' := 90) (tgt := 92) dX7_isSteady_87 rfl rfl ?_ ?_
        · intro h2
          have h2 := (nI_eq (by omega) (by omega)).mp h2
          refine zv_iinc (w := nI 1) (pc' := 95) dX7_isSteady_92 rfl rfl (by decide) (by decide) ?_
          refine zv_goto (pc' := 49) dX7_isSteady_95 rfl ?_
          rw [nI_add]
          exact ih (k + 1) (by omega) (by rw [zall, ha]; simp [h, h2])
        · intro h2
          refine zv_iconst (v := nI 0) (pc' := 91) dX7_isSteady_90 rfl (by decide) ?_
          refine zv_ireturn dX7_isSteady_91 rfl (by first | rfl | exact zb_nar _) ?_
          exact bad (fun z => h2 (by rw [z.2]))
  have lp1 : ∀ r k M1, k + r = yN c → zAm M1 c → zFr [94, 95, 102] [7] M M1 → (∀ j, j < k → M1 102 j = nI (yM c j) ∧ M1 102 (j + 8) = nI (zm 8 (yS c j))) → ZV mdX7_isSteady (d + 3) (fun v M' => ∃ r, v = some (.int r) ∧ (r = zb (asB (yearC 100 c) c) ∧ zAm M' (yearC 100 c) ∧ zFr [94, 95, 102] [7] M M')) 2 [some (.ref 90), some (.int (nI k))] [] M1 := by
    intro r
    induction r with
    | zero =>
      intro k M1 e hA1 hs1 hB
      have e : k = yN c := by omega
      subst e
      have hN := hA1.1
      refine zv_iload_n (pc' := 3) dX7_isSteady_2 rfl rfl ?_
      refine zv_aload_n (pc' := 4) dX7_isSteady_3 rfl rfl ?_
      refine zv_getIE (pc' := 7) dX7_isSteady_4 rfl flX7_65 (by first | rfl | assumption) rfl (by first | exact hN | rfl) ?_
      refine zv_icmp_ge (pc' := 10) (tgt := 43) dX7_isSteady_7 rfl rfl (fun _ => ?_) (fun hcc => absurd (Int32.le_refl _) hcc)
      refine zv_aload_n (pc' := 44) dX7_isSteady_43 rfl rfl ?_
      refine zv_cV0_fv (pc' := 47) dX7_isSteady_44 rfl lkX7_178 (by first | rfl | assumption) rfl (Nat.le_of_ble_eq_true rfl) (x7_goesYear (dd := 100) hA1 hk (by rw [hs1.2 8 (by decide)]; exact hD)) ?_
      rintro M2 ⟨h1, h2⟩
      refine zv_iconst (v := nI 0) (pc' := 48) dX7_isSteady_47 rfl (by decide) ?_
      refine zv_istore_n (pc' := 49) dX7_isSteady_48 rfl (by decide) ?_
      refine lp2 M2 h1 (hs1.tr (h2.mono (by simp) (by simp))) (fun j hj => ?_) (yN c) 0 (by omega) rfl
      rw [h2.1 102 (by decide) (by decide)]
      exact hB j hj
    | succ r ih =>
      intro k M1 e hA1 hs1 hB
      have hN := hA1.1
      have hM := hA1.2.2.2.2.1
      have hS := hA1.2.2.2.2.2.1
      have hS' : ∀ j, j < 8 → zup M1 102 k (nI (yM c k)) 95 j = nI (zm 8 (yS c j)) := by rw [zup_ne (by decide)]; exact hS
      refine zv_iload_n (pc' := 3) dX7_isSteady_2 rfl rfl ?_
      refine zv_aload_n (pc' := 4) dX7_isSteady_3 rfl rfl ?_
      refine zv_getIE (pc' := 7) dX7_isSteady_4 rfl flX7_65 (by first | rfl | assumption) rfl (by first | exact hN | exact hM _ (by omega) | exact hS _ (by omega) | exact hS' _ (by omega) | rfl) ?_
      refine zv_icmp_ge (pc' := 10) (tgt := 43) dX7_isSteady_7 rfl rfl (fun hcc => absurd hcc (nI_ge (by omega) (by omega))) (fun _ => ?_)
      refine zv_aload_n (pc' := 11) dX7_isSteady_10 rfl rfl ?_
      refine zv_getR (pc' := 14) dX7_isSteady_11 rfl flX7_47 (by first | rfl | assumption) rfl ?_
      refine zv_iload_n (pc' := 15) dX7_isSteady_14 rfl rfl ?_
      refine zv_aload_n (pc' := 16) dX7_isSteady_15 rfl rfl ?_
      refine zv_getR (pc' := 19) dX7_isSteady_16 rfl flX7_19 (by first | rfl | assumption) rfl ?_
      refine zv_iload_n (pc' := 20) dX7_isSteady_19 rfl rfl ?_
      refine zv_ialoadE (pc' := 21) dX7_isSteady_20 rfl (by first | rfl | assumption) (by decide) (by omega) (by first | exact hN | exact hM _ (by omega) | exact hS _ (by omega) | exact hS' _ (by omega) | rfl) ?_
      refine zv_iastoreN (pc' := 22) dX7_isSteady_21 rfl (by first | rfl | assumption) (by decide) (by omega) ?_
      refine zv_aload_n (pc' := 23) dX7_isSteady_22 rfl rfl ?_
      refine zv_getR (pc' := 26) dX7_isSteady_23 rfl flX7_47 (by first | rfl | assumption) rfl ?_
      refine zv_iload_n (pc' := 27) dX7_isSteady_26 rfl rfl ?_
      refine zv_bipush (v := nI 8) (pc' := 29) dX7_isSteady_27 rfl (by decide) ?_
      refine zv_iadd (pc' := 30) dX7_isSteady_29 rfl ?_
      rw [nI_add]
      refine zv_aload_n (pc' := 31) dX7_isSteady_30 rfl rfl ?_
      refine zv_getR (pc' := 34) dX7_isSteady_31 rfl flX7_22 (by first | rfl | assumption) rfl ?_
      refine zv_iload_n (pc' := 35) dX7_isSteady_34 rfl rfl ?_
      refine zv_ialoadE (pc' := 36) dX7_isSteady_35 rfl (by first | rfl | assumption) (by decide) (by omega) (by first | exact hN | exact hM _ (by omega) | exact hS _ (by omega) | exact hS' _ (by omega) | rfl) ?_
      refine zv_iastoreN (pc' := 37) dX7_isSteady_36 rfl (by first | rfl | assumption) (by decide) (by omega) ?_
      refine zv_iinc (w := nI 1) (pc' := 40) dX7_isSteady_37 rfl rfl (by decide) (by decide) ?_
      refine zv_goto (pc' := 2) dX7_isSteady_40 rfl ?_
      rw [nI_add]
      have s2 : zFr [102] [] M1 (zup (zup M1 102 k (nI (yM c k))) 102 (k + 8) (nI (zm 8 (yS c k)))) := (zFr.up (by decide) (by decide)).tr (zFr.up (by decide) (by decide))
      refine ih (k + 1) _ (by omega) (hA1.same s2 (by simp; omega) (by simp)) (hs1.tr (s2.mono (by simp) (by simp))) (fun j hj => ?_)
      rw [zup_eq]
      by_cases e : j = k
      · subst e
        rw [upd_n (by omega), upd_s, zup_eq, upd_s]
        exact ⟨rfl, rfl⟩
      · rw [upd_n (by omega), upd_n (by omega), zup_eq, upd_n e, upd_n (by omega)]
        exact hB j (by omega)
  refine zex_intro (L := [some (.ref 90), none]) (by decide) (Nat.le_of_ble_eq_true rfl) rfl ?_
  refine zv_iconst (v := nI 0) (pc' := 1) dX7_isSteady_0 rfl (by decide) ?_
  refine zv_istore_n (pc' := 2) dX7_isSteady_1 rfl (by decide) ?_
  exact lp1 (yN c) 0 M (by omega) hA zFr.rf (fun j hj => by omega)
theorem x7_steadyAt (hA : zAm M c) (hk : zOk c) (hD : M 90 8 = absM 100) : ZFi mdX7_steadyAt (d + 4) [.ref 90] M (fun r M' => r = optI (steadyC c) ∧ zAm M' c ∧ zFr [92, 93, 94, 95, 96, 101, 102] fsT M M' ∧ ∀ i, i < 84 → M' 101 i = M 101 i) := by
  have done : ∀ (x : Int32) (M1 : ZMem) (L3 : Option Value), x = optI (steadyC c) → zKp M1 84 c → (∀ i, i < 84 → M1 101 i = M 101 i) → zFr [92, 93, 94, 95, 96, 101, 102] fsT M M1 → ZV mdX7_steadyAt (d + 4) (fun v M' => ∃ r, v = some (.int r) ∧ (r = optI (steadyC c) ∧ zAm M' c ∧ zFr [92, 93, 94, 95, 96, 101, 102] fsT M M' ∧ ∀ i, i < 84 → M' 101 i = M 101 i)) 39 [some (.ref 90), some (.int x), L3] [] M1 := by
    intro x M1 L3 hx hkp h101 hs
    refine zv_aload_n (pc' := 40) dX7_steadyAt_39 rfl rfl ?_
    refine zv_cV0_fv (pc' := 43) dX7_steadyAt_40 rfl lkX7_193 (by first | rfl | assumption) rfl (Nat.le_of_ble_eq_true rfl) (x7_forgets hkp) ?_
    rintro M3 ⟨h4, h5⟩
    refine zv_iload_n (pc' := 44) dX7_steadyAt_43 rfl rfl ?_
    refine zv_iret dX7_steadyAt_44 rfl ?_
    exact ⟨_, rfl, hx, h4, hs.tr (h5.mono (by simp) (by simp)), fun i hi => by rw [h5.1 101 (by decide) (by decide)]; exact h101 i hi⟩
  have lp : ∀ r k M1, k + r = 61 → zAm M1 (yearsC k c) → zKp M1 84 c → (∀ i, i < 84 → M1 101 i = M 101 i) → zFr [92, 93, 94, 95, 96, 101, 102] fsT M M1 → zfst r k (fun k => asB (yearC 100 (yearsC k c)) (yearsC k c)) = steadyC c → ZV mdX7_steadyAt (d + 4) (fun v M' => ∃ r, v = some (.int r) ∧ (r = optI (steadyC c) ∧ zAm M' c ∧ zFr [92, 93, 94, 95, 96, 101, 102] fsT M M' ∧ ∀ i, i < 84 → M' 101 i = M 101 i)) 9 [some (.ref 90), some (.int (-9)), some (.int (nI k))] [] M1 := by
    intro r
    induction r with
    | zero =>
      intro k M1 e hA1 hkp h101 hs hz
      have e : k = 61 := by omega
      subst e
      refine zv_iload_n (pc' := 10) dX7_steadyAt_9 rfl rfl ?_
      refine zv_bipush (v := nI 60) (pc' := 12) dX7_steadyAt_10 rfl (by decide) ?_
      refine zv_icmp_gt (pc' := 15) (tgt := 39) dX7_steadyAt_12 rfl rfl (fun _ => ?_) (fun hcc => absurd (by decide) hcc)
      exact done _ M1 _ (by rw [← hz]; rfl) hkp h101 hs
    | succ r ih =>
      intro k M1 e hA1 hkp h101 hs hz
      have hkk := zOk_years (k := k) hk
      refine zv_iload_n (pc' := 10) dX7_steadyAt_9 rfl rfl ?_
      refine zv_bipush (v := nI 60) (pc' := 12) dX7_steadyAt_10 rfl (by decide) ?_
      refine zv_icmp_gt (pc' := 15) (tgt := 39) dX7_steadyAt_12 rfl rfl (fun hcc => absurd hcc (nI_nlt (by omega) (by omega))) (fun _ => ?_)
      refine zv_iload_n (pc' := 16) dX7_steadyAt_15 rfl rfl ?_
      refine zv_if_ge (pc' := 19) (tgt := 39) dX7_steadyAt_16 rfl rfl (fun hcc => absurd hcc (by decide)) (fun _ => ?_)
      refine zv_aload_n (pc' := 20) dX7_steadyAt_19 rfl rfl ?_
      refine zv_cV0_fi (pc' := 23) dX7_steadyAt_20 rfl lkX7_208 (by first | rfl | assumption) rfl (Nat.le_of_ble_eq_true rfl) (x7_isSteady hA1 hkk.1 (by rw [hs.2 8 (by decide)]; exact hD)) ?_
      rintro r' M2 ⟨rfl, h1, h2⟩
      have e101 : M2 101 = M1 101 := h2.1 101 (by decide) (by decide)
      have hkp2 : zKp M2 84 c := hkp.same (fun i _ _ => by rw [e101])
      have h1012 : ∀ i, i < 84 → M2 101 i = M 101 i := fun i hi => by rw [e101]; exact h101 i hi
      have hs2 : zFr [92, 93, 94, 95, 96, 101, 102] fsT M M2 := hs.tr (h2.mono (by simp) (by simp))
      refine zv_if_eq (pc' := 26) (tgt := 30) dX7_steadyAt_23 rfl rfl ?_ ?_
      · intro h
        refine zv_bipush (v := (-9 : Int32)) (pc' := 32) dX7_steadyAt_30 rfl (by decide) ?_
        refine zv_istore_n (pc' := 33) dX7_steadyAt_32 rfl (by decide) ?_
        refine zv_iinc (w := nI 1) (pc' := 36) dX7_steadyAt_33 rfl rfl (by decide) (by decide) ?_
        refine zv_goto (pc' := 9) dX7_steadyAt_36 rfl ?_
        rw [nI_add]
        rw [zfst, if_neg (by rw [zb_0.mp h]; decide)] at hz
        exact ih (k + 1) M2 (by omega) (by rw [yearsC_succ]; exact h1) hkp2 h1012 hs2 hz
      · intro h
        rw [zfst, if_pos (zb_ne.mp h)] at hz
        refine zv_iload_n (pc' := 27) dX7_steadyAt_26 rfl rfl ?_
        refine zv_goto (pc' := 32) dX7_steadyAt_27 rfl ?_
        refine zv_istore_n (pc' := 33) dX7_steadyAt_32 rfl (by decide) ?_
        refine zv_iinc (w := nI 1) (pc' := 36) dX7_steadyAt_33 rfl rfl (by decide) (by decide) ?_
        refine zv_goto (pc' := 9) dX7_steadyAt_36 rfl ?_
        refine zv_iload_n (pc' := 10) dX7_steadyAt_9 rfl rfl ?_
        refine zv_bipush (v := nI 60) (pc' := 12) dX7_steadyAt_10 rfl (by decide) ?_
        refine zv_icmp_gt (pc' := 15) (tgt := 39) dX7_steadyAt_12 rfl rfl ?_ ?_
        · intro _
          exact done _ M2 _ (by rw [← hz]; rfl) hkp2 h1012 hs2
        · intro _
          refine zv_iload_n (pc' := 16) dX7_steadyAt_15 rfl rfl ?_
          refine zv_if_ge (pc' := 19) (tgt := 39) dX7_steadyAt_16 rfl rfl (fun _ => ?_) (fun hcc => absurd (nI_pos' (by omega)) hcc)
          exact done _ M2 _ (by rw [← hz]; rfl) hkp2 h1012 hs2
  refine zex_intro (L := [some (.ref 90), none, none]) (by decide) (Nat.le_of_ble_eq_true rfl) rfl ?_
  refine zv_aload_n (pc' := 1) dX7_steadyAt_0 rfl rfl ?_
  refine zv_cV0_fv (pc' := 4) dX7_steadyAt_1 rfl lkX7_190 (by first | rfl | assumption) rfl (Nat.le_of_ble_eq_true rfl) (x7_thinks hA) ?_
  rintro M1 ⟨h1, h2, h3, h4⟩
  refine zv_bipush (v := (-9 : Int32)) (pc' := 6) dX7_steadyAt_4 rfl (by decide) ?_
  refine zv_istore_n (pc' := 7) dX7_steadyAt_6 rfl (by decide) ?_
  refine zv_iconst (v := nI 0) (pc' := 8) dX7_steadyAt_7 rfl (by decide) ?_
  refine zv_istore_n (pc' := 9) dX7_steadyAt_8 rfl (by decide) ?_
  exact lp 61 0 M1 (by omega) h2 h1 h3 (h4.mono (by simp) (by simp)) rfl
theorem ruin_lt {p k : Nat} (h : ruinC c p = some k) : k < 61 := by
  have := (zfst_some.mp h).2.1
  omega
theorem frN_lt {n p k : Nat} (h : frN c n = some (p, k)) : p < n ∧ k < 61 := by
  obtain ⟨a, b, -⟩ := (frN_char (c := c) (n := n)).2 p k h
  unfold frK at b
  split at b
  · cases b
  · exact ⟨a, ruin_lt b⟩
theorem gm_first (x : Int32) : zGm mdX7_first (d + 5) [.int x] (sp_first x) := by
  intro M s hI hk
  have hn := hk.1.1
  have hM9 := hk.1.2.2.2.1
  refine zex_intro (L := [some (.ref 90), some (.int x), none, none, none, none]) (by decide) (Nat.le_of_ble_eq_true rfl) rfl ?_
  refine zv_iload_n (pc' := 1) dX7_first_0 rfl rfl ?_
  refine zv_iconst (v := nI 0) (pc' := 2) dX7_first_1 rfl (by decide) ?_
  refine zv_iconst (v := nI 2) (pc' := 3) dX7_first_2 rfl (by decide) ?_
  refine zv_cS3_pi (pc' := 6) dX7_first_3 rfl lkX7_100 (Nat.le_of_ble_eq_true rfl) (x7_isIn) ?_
  refine zv_if_ne (pc' := 9) (tgt := 16) dX7_first_6 rfl rfl ?_ ?_
  · intro h
    have h1 := zb_ne.mp h
    have h0 := otN_0.mpr h1
    obtain ⟨w, -, hw2, rfl⟩ := isInB_of (by decide) h1 (by decide)
    have ev : sp_first (nI w) s = (firV (sC s) w, s) := by rw [sp_first, zans_0 h0, pN_nI (by omega)]
    refine zv_iload_n (pc' := 17) dX7_first_16 rfl rfl ?_
    refine zv_iconst (v := nI 2) (pc' := 18) dX7_first_17 rfl (by decide) ?_
    by_cases h2 : w = 2
    · subst h2
      refine zv_icmp_ne (pc' := 21) (tgt := 26) dX7_first_18 rfl rfl (fun hcc => absurd (rfl) hcc) (fun _ => ?_)
      refine zv_aload_n (pc' := 22) dX7_first_21 rfl rfl ?_
      refine zv_cV0_fi (pc' := 25) dX7_first_22 rfl lkX7_211 (by first | rfl | assumption) rfl (Nat.le_of_ble_eq_true rfl) (x7_steadyAt hI.1 hk.1 hI.2.1) ?_
      rintro r M1 ⟨rfl, h3, h4, h5⟩
      refine zv_iret dX7_first_25 rfl ?_
      exact zdonm ev (hI.frm h3 h4 (by simp) (by simp) (fun i hi => h5 i (by omega))) (h4.lt (by simp))
    · refine zv_icmp_ne (pc' := 21) (tgt := 26) dX7_first_18 rfl rfl (fun _ => ?_) (fun hcc => absurd hcc (fun z => h2 ((nI_eq (by omega) (by omega)).mp z)))
      have lp : ∀ r p M1, p + r = yN (sC s) → zTd M M1 (sC s) → ZV mdX7_first (d + 5) (fun v M' => ∃ r, v = some (.int r) ∧ (r = (sp_first (nI w) s).1 ∧ zIm M' (sp_first (nI w) s).2 ∧ ∀ k, k < 90 → M' k = M k)) 35 [some (.ref 90), some (.int (nI w)), some (.int (optI ((frN (sC s) p).map (fun q => q.1)))), some (.int (optI ((frN (sC s) p).map (fun q => q.2)))), some (.int (nI p)), none] [] M1 := by
        intro r
        induction r with
        | zero =>
          intro p M1 e ht
          have e : p = yN (sC s) := by omega
          subst e
          have hN := ht.1.1
          refine zv_iload (pc' := 37) dX7_first_35 rfl rfl ?_
          refine zv_aload_n (pc' := 38) dX7_first_37 rfl rfl ?_
          refine zv_getIE (pc' := 41) dX7_first_38 rfl flX7_65 (by first | rfl | assumption) rfl (by first | exact hN | rfl) ?_
          refine zv_icmp_ge (pc' := 44) (tgt := 97) dX7_first_41 rfl rfl (fun _ => ?_) (fun hcc => absurd (Int32.le_refl _) hcc)
          refine zv_iload_n (pc' := 98) dX7_first_97 rfl rfl ?_
          rcases (show w = 0 ∨ w = 1 by omega) with rfl | rfl
          · refine zv_if_ne (pc' := 101) (tgt := 105) dX7_first_98 rfl rfl (fun hcc => absurd (rfl) hcc) (fun _ => ?_)
            refine zv_iload_n (pc' := 102) dX7_first_101 rfl rfl ?_
            refine zv_goto (pc' := 106) dX7_first_102 rfl ?_
            refine zv_iret dX7_first_106 rfl ?_
            exact zdonmq ev hI ht
          · refine zv_if_ne (pc' := 101) (tgt := 105) dX7_first_98 rfl rfl (fun _ => ?_) (fun hcc => absurd hcc (by decide))
            refine zv_iload_n (pc' := 106) dX7_first_105 rfl rfl ?_
            refine zv_iret dX7_first_106 rfl ?_
            exact zdonmq ev hI ht
        | succ r ih =>
          intro p M1 e ht
          have hN := ht.1.1
          have hM := ht.1.2.2.2.2.1
          have q1 := hM9 p
          have mid : ∀ M2, zTd M M2 (sC s) → ZV mdX7_first (d + 5) (fun v M' => ∃ r, v = some (.int r) ∧ (r = (sp_first (nI w) s).1 ∧ zIm M' (sp_first (nI w) s).2 ∧ ∀ k, k < 90 → M' k = M k)) 65 [some (.ref 90), some (.int (nI w)), some (.int (optI ((frN (sC s) p).map (fun q => q.1)))), some (.int (optI ((frN (sC s) p).map (fun q => q.2)))), some (.int (nI p)), none] [.int (optI (frK (sC s) p))] M2 := by
            intro M2 ht2
            have ih2 := ih (p + 1) M2 (by omega) ht2
            cases hK : frK (sC s) p with
            | none =>
              have e1 : frN (sC s) (p + 1) = frN (sC s) p := by simp only [frN, hK]
              rw [e1] at ih2
              refine zv_istore (pc' := 67) dX7_first_65 rfl (by decide) ?_
              refine zv_iload (pc' := 69) dX7_first_67 rfl rfl ?_
              refine zv_if_lt (pc' := 72) (tgt := 91) dX7_first_69 rfl rfl (fun _ => ?_) (fun hcc => absurd (by decide) hcc)
              refine zv_iinc (w := nI 1) (pc' := 94) dX7_first_91 rfl rfl (by decide) (by decide) ?_
              refine zv_goto (pc' := 35) dX7_first_94 rfl ?_
              refine zv_fg [5] ?_
              rw [nI_add]
              exact ih2
            | some k0 =>
              have hk61 : k0 < 61 := by
                unfold frK at hK
                split at hK
                · cases hK
                · exact ruin_lt hK
              refine zv_istore (pc' := 67) dX7_first_65 rfl (by decide) ?_
              refine zv_iload (pc' := 69) dX7_first_67 rfl rfl ?_
              refine zv_if_lt (pc' := 72) (tgt := 91) dX7_first_69 rfl rfl (fun hcc => absurd hcc (nI_pos (by omega))) (fun _ => ?_)
              refine zv_iload_n (pc' := 73) dX7_first_72 rfl rfl ?_
              cases hF : frN (sC s) p with
              | none =>
                have e1 : frN (sC s) (p + 1) = some (p, k0) := by simp only [frN, hK, hF]
                rw [e1] at ih2
                refine zv_if_lt (pc' := 76) (tgt := 85) dX7_first_73 rfl rfl (fun _ => ?_) (fun hcc => absurd (by decide) hcc)
                refine zv_iload (pc' := 87) dX7_first_85 rfl rfl ?_
                refine zv_istore_n (pc' := 88) dX7_first_87 rfl (by decide) ?_
                refine zv_iload (pc' := 90) dX7_first_88 rfl rfl ?_
                refine zv_istore_n (pc' := 91) dX7_first_90 rfl (by decide) ?_
                refine zv_iinc (w := nI 1) (pc' := 94) dX7_first_91 rfl rfl (by decide) (by decide) ?_
                refine zv_goto (pc' := 35) dX7_first_94 rfl ?_
                refine zv_fg [5] ?_
                rw [nI_add]
                exact ih2
              | some bj =>
                obtain ⟨b, j⟩ := bj
                have hlt := frN_lt hF
                refine zv_if_lt (pc' := 76) (tgt := 85) dX7_first_73 rfl rfl (fun hcc => absurd hcc (nI_pos (n := b) (by omega))) (fun _ => ?_)
                refine zv_iload (pc' := 78) dX7_first_76 rfl rfl ?_
                refine zv_iload_n (pc' := 79) dX7_first_78 rfl rfl ?_
                refine zv_icmp_lt (pc' := 82) (tgt := 85) dX7_first_79 rfl rfl ?_ ?_
                · intro hlt2
                  have hlt2 := (nI_ltI (a := k0) (b := j) (by omega) (by omega)).mp hlt2
                  have e1 : frN (sC s) (p + 1) = some (p, k0) := by simp only [frN, hK, hF, show ¬ j ≤ k0 by omega, if_false]
                  rw [e1] at ih2
                  refine zv_iload (pc' := 87) dX7_first_85 rfl rfl ?_
                  refine zv_istore_n (pc' := 88) dX7_first_87 rfl (by decide) ?_
                  refine zv_iload (pc' := 90) dX7_first_88 rfl rfl ?_
                  refine zv_istore_n (pc' := 91) dX7_first_90 rfl (by decide) ?_
                  refine zv_iinc (w := nI 1) (pc' := 94) dX7_first_91 rfl rfl (by decide) (by decide) ?_
                  refine zv_goto (pc' := 35) dX7_first_94 rfl ?_
                  refine zv_fg [5] ?_
                  rw [nI_add]
                  exact ih2
                · intro hlt2
                  have hlt2 := mt (nI_ltI (a := k0) (b := j) (by omega) (by omega)).mpr hlt2
                  have e1 : frN (sC s) (p + 1) = some (b, j) := by simp only [frN, hK, hF, show j ≤ k0 by omega, if_true]
                  rw [e1] at ih2
                  refine zv_goto (pc' := 91) dX7_first_82 rfl ?_
                  refine zv_iinc (w := nI 1) (pc' := 94) dX7_first_91 rfl rfl (by decide) (by decide) ?_
                  refine zv_goto (pc' := 35) dX7_first_94 rfl ?_
                  refine zv_fg [5] ?_
                  rw [nI_add]
                  exact ih2
          refine zv_iload (pc' := 37) dX7_first_35 rfl rfl ?_
          refine zv_aload_n (pc' := 38) dX7_first_37 rfl rfl ?_
          refine zv_getIE (pc' := 41) dX7_first_38 rfl flX7_65 (by first | rfl | assumption) rfl (by first | exact hN | exact hM _ (by omega) | rfl) ?_
          refine zv_icmp_ge (pc' := 44) (tgt := 97) dX7_first_41 rfl rfl (fun hcc => absurd hcc (nI_ge (by omega) (by omega))) (fun _ => ?_)
          refine zv_aload_n (pc' := 45) dX7_first_44 rfl rfl ?_
          refine zv_getR (pc' := 48) dX7_first_45 rfl flX7_19 (by first | rfl | assumption) rfl ?_
          refine zv_iload (pc' := 50) dX7_first_48 rfl rfl ?_
          refine zv_ialoadE (pc' := 51) dX7_first_50 rfl (by first | rfl | assumption) (by decide) (by omega) (by first | exact hN | exact hM _ (by omega) | rfl) ?_
          refine zv_if_ne (pc' := 54) (tgt := 59) dX7_first_51 rfl rfl ?_ ?_
          · intro h
            have hne : ¬ yM (sC s) p = 0 := fun z => h (by rw [z]; rfl)
            refine zv_aload_n (pc' := 60) dX7_first_59 rfl rfl ?_
            refine zv_iload (pc' := 62) dX7_first_60 rfl rfl ?_
            refine zv_cV1_fi (pc' := 65) dX7_first_62 rfl lkX7_205 (by first | rfl | assumption) rfl (Nat.le_of_ble_eq_true rfl) (x7_ruinOf ht.1 hk.1 (by rw [ht.dead]; exact hI.2.1) (by omega)) ?_
            rintro r' M2 ⟨rfl, ht2⟩
            have := mid M2 (ht.tr ht2)
            rw [frK, if_neg hne] at this
            exact this
          · intro h
            have he : yM (sC s) p = 0 := (nI_eq (b := 0) (by omega) (by decide)).mp h
            refine zv_bipush (v := (-9 : Int32)) (pc' := 56) dX7_first_54 rfl (by decide) ?_
            refine zv_goto (pc' := 65) dX7_first_56 rfl ?_
            have := mid M1 ht
            rw [frK, if_pos he] at this
            exact this
      refine zv_bipush (v := (-9 : Int32)) (pc' := 28) dX7_first_26 rfl (by decide) ?_
      refine zv_istore_n (pc' := 29) dX7_first_28 rfl (by decide) ?_
      refine zv_bipush (v := (-9 : Int32)) (pc' := 31) dX7_first_29 rfl (by decide) ?_
      refine zv_istore_n (pc' := 32) dX7_first_31 rfl (by decide) ?_
      refine zv_iconst (v := nI 0) (pc' := 33) dX7_first_32 rfl (by decide) ?_
      refine zv_istore (pc' := 35) dX7_first_33 rfl (by decide) ?_
      exact lp (yN (sC s)) 0 M (by omega) (zTd.rf hI.1)
  · intro h
    refine zv_aload_n (pc' := 10) dX7_first_9 rfl rfl ?_
    refine zv_bipush (v := (-2 : Int32)) (pc' := 12) dX7_first_10 rfl (by decide) ?_
    refine zv_top (show (-2 : Int32) = -nI 2 by decide) ?_
    refine zv_cV1_fi (pc' := 15) dX7_first_12 rfl lkX7_89 (by first | rfl | assumption) rfl (Nat.le_of_ble_eq_true rfl) (x7_no (by decide)) ?_
    rintro r M1 ⟨rfl, rfl⟩
    refine zv_iret dX7_first_15 rfl ?_
    rw [sp_first, show otN x 2 = 2 by rw [otN, if_neg (by rw [zb_0.mp h]; decide)]]
    exact zrefm hI (by decide)
theorem gm_richest (n : Int32) : zGm mdX7_richest (d + 4) [.int n] (sp_richest n) := by
  intro M s hI hk
  have hn := hk.1.1
  refine zex_intro (L := [some (.ref 90), some (.int n), none, none, none]) (by decide) (Nat.le_of_ble_eq_true rfl) rfl ?_
  refine zv_iload_n (pc' := 1) dX7_richest_0 rfl rfl ?_
  refine zv_cS1_pi (pc' := 4) dX7_richest_1 rfl lkX7_196 (Nat.le_of_ble_eq_true rfl) (x7_notYears) ?_
  have hw := bdN_lt (x := n) (lo := nI 0) (hi := nI 60)
  refine zv_istore_n (pc' := 5) dX7_richest_4 rfl (by decide) ?_
  refine zv_iload_n (pc' := 6) dX7_richest_5 rfl rfl ?_
  refine zv_if_eq (pc' := 9) (tgt := 15) dX7_richest_6 rfl rfl ?_ ?_
  · intro h
    have h0 := (neg_w0 _ hw).mp h
    obtain ⟨n, -, hn2, rfl⟩ := isInB_of (by decide) (bdN_0.mp h0) (by decide)
    refine zv_aload_n (pc' := 16) dX7_richest_15 rfl rfl ?_
    refine zv_cV0_fv (pc' := 19) dX7_richest_16 rfl lkX7_190 (by first | rfl | assumption) rfl (Nat.le_of_ble_eq_true rfl) (x7_thinks hI.1) ?_
    rintro M1 h1
    have t1 := zTh.be h1
    refine zv_aload_n (pc' := 20) dX7_richest_19 rfl rfl ?_
    refine zv_iload_n (pc' := 21) dX7_richest_20 rfl rfl ?_
    refine zv_cV1_fv (pc' := 24) dX7_richest_21 rfl lkX7_129 (by first | rfl | assumption) rfl (Nat.le_of_ble_eq_true rfl) (x7_goes t1.2.1 hk.1 (by rw [t1.dead]; exact hI.2.1) (by omega)) ?_
    rintro M2 ⟨h2, h3⟩
    have t2 := t1.go h2 h3 (by simp) (by simp)
    have hkk := zOk_years (k := n) hk.1
    have hN := h2.1
    rw [hkk.2] at hN
    have hM := h2.2.2.2.2.1
    have lp : ∀ r k, k + r = yN (sC s) → ZV mdX7_richest (d + 4) (fun v M' => ∃ r, v = some (.int r) ∧ (r = (sp_richest (nI n) s).1 ∧ zIm M' (sp_richest (nI n) s).2 ∧ ∀ k, k < 90 → M' k = M k)) 30 [some (.ref 90), some (.int (nI n)), none, some (.int (optI (rmx (yM (yearsC n (sC s))) k))), some (.int (nI k))] [] M2 := by
      intro r
      induction r with
      | zero =>
        intro k e
        have e : k = yN (sC s) := by omega
        subst e
        refine zv_iload (pc' := 32) dX7_richest_30 rfl rfl ?_
        refine zv_aload_n (pc' := 33) dX7_richest_32 rfl rfl ?_
        refine zv_getIE (pc' := 36) dX7_richest_33 rfl flX7_65 (by first | rfl | assumption) rfl (by first | exact hN | exact hM _ (by omega) | rfl) ?_
        refine zv_icmp_ge (pc' := 39) (tgt := 72) dX7_richest_36 rfl rfl (fun _ => ?_) (fun hcc => absurd (Int32.le_refl _) hcc)
        refine zv_aload_n (pc' := 73) dX7_richest_72 rfl rfl ?_
        refine zv_cV0_fv (pc' := 76) dX7_richest_73 rfl lkX7_193 (by first | rfl | assumption) rfl (Nat.le_of_ble_eq_true rfl) (x7_forgets t2.1) ?_
        rintro M3 h4
        refine zv_iload_n (pc' := 77) dX7_richest_76 rfl rfl ?_
        refine zv_iret dX7_richest_77 rfl ?_
        exact zdonmq (by rw [sp_richest, zans_0 h0, pN_nI (by omega)]) hI (t2.fin h4)
      | succ r ih =>
        intro k e
        have g1 := hkk.1.2.2.2.1 k
        have ih2 := ih (k + 1) (by omega)
        refine zv_iload (pc' := 32) dX7_richest_30 rfl rfl ?_
        refine zv_aload_n (pc' := 33) dX7_richest_32 rfl rfl ?_
        refine zv_getIE (pc' := 36) dX7_richest_33 rfl flX7_65 (by first | rfl | assumption) rfl (by first | exact hN | exact hM _ (by omega) | rfl) ?_
        refine zv_icmp_ge (pc' := 39) (tgt := 72) dX7_richest_36 rfl rfl (fun hcc => absurd hcc (nI_ge (by omega) (by omega))) (fun _ => ?_)
        refine zv_iload_n (pc' := 40) dX7_richest_39 rfl rfl ?_
        cases hx : rmx (yM (yearsC n (sC s))) k with
        | none =>
          have e1 : rmx (yM (yearsC n (sC s))) (k + 1) = some k := by simp only [rmx, hx]
          rw [e1] at ih2
          refine zv_if_lt (pc' := 43) (tgt := 59) dX7_richest_40 rfl rfl (fun _ => ?_) (fun hcc => absurd (by decide) hcc)
          refine zv_iload (pc' := 61) dX7_richest_59 rfl rfl ?_
          refine zv_goto (pc' := 65) dX7_richest_61 rfl ?_
          refine zv_istore_n (pc' := 66) dX7_richest_65 rfl (by decide) ?_
          refine zv_iinc (w := nI 1) (pc' := 69) dX7_richest_66 rfl rfl (by decide) (by decide) ?_
          refine zv_goto (pc' := 30) dX7_richest_69 rfl ?_
          rw [nI_add]
          exact ih2
        | some b =>
          have hb := rmx_lt hx
          have g2 := hkk.1.2.2.2.1 b
          refine zv_if_lt (pc' := 43) (tgt := 59) dX7_richest_40 rfl rfl (fun hcc => absurd hcc (nI_pos (by omega))) (fun _ => ?_)
          refine zv_aload_n (pc' := 44) dX7_richest_43 rfl rfl ?_
          refine zv_getR (pc' := 47) dX7_richest_44 rfl flX7_19 (by first | rfl | assumption) rfl ?_
          refine zv_iload (pc' := 49) dX7_richest_47 rfl rfl ?_
          refine zv_ialoadE (pc' := 50) dX7_richest_49 rfl (by first | rfl | assumption) (by decide) (by omega) (by first | exact hN | exact hM _ (by omega) | rfl) ?_
          refine zv_aload_n (pc' := 51) dX7_richest_50 rfl rfl ?_
          refine zv_getR (pc' := 54) dX7_richest_51 rfl flX7_19 (by first | rfl | assumption) rfl ?_
          refine zv_iload_n (pc' := 55) dX7_richest_54 rfl rfl ?_
          refine zv_ialoadE (i := b) (pc' := 56) dX7_richest_55 rfl (by first | rfl | assumption) (by decide) (by omega) (hM b (by omega)) ?_
          refine zv_icmp_le (pc' := 59) (tgt := 64) dX7_richest_56 rfl rfl ?_ ?_
          · intro hz
            have hz := (nI_leI (by omega) (by omega)).mp hz
            have e1 : rmx (yM (yearsC n (sC s))) (k + 1) = some b := by simp only [rmx, hx]; rw [if_neg (by omega)]
            rw [e1] at ih2
            refine zv_iload_n (pc' := 65) dX7_richest_64 rfl rfl ?_
            refine zv_istore_n (pc' := 66) dX7_richest_65 rfl (by decide) ?_
            refine zv_iinc (w := nI 1) (pc' := 69) dX7_richest_66 rfl rfl (by decide) (by decide) ?_
            refine zv_goto (pc' := 30) dX7_richest_69 rfl ?_
            rw [nI_add]
            exact ih2
          · intro hz
            have hz := mt (nI_leI (a := yM (yearsC n (sC s)) k) (b := yM (yearsC n (sC s)) b) (by omega) (by omega)).mpr hz
            have e1 : rmx (yM (yearsC n (sC s))) (k + 1) = some k := by simp only [rmx, hx]; rw [if_pos (by omega)]
            rw [e1] at ih2
            refine zv_iload (pc' := 61) dX7_richest_59 rfl rfl ?_
            refine zv_goto (pc' := 65) dX7_richest_61 rfl ?_
            refine zv_istore_n (pc' := 66) dX7_richest_65 rfl (by decide) ?_
            refine zv_iinc (w := nI 1) (pc' := 69) dX7_richest_66 rfl rfl (by decide) (by decide) ?_
            refine zv_goto (pc' := 30) dX7_richest_69 rfl ?_
            rw [nI_add]
            exact ih2
    refine zv_bipush (v := (-9 : Int32)) (pc' := 26) dX7_richest_24 rfl (by decide) ?_
    refine zv_istore_n (pc' := 27) dX7_richest_26 rfl (by decide) ?_
    refine zv_iconst (v := nI 0) (pc' := 28) dX7_richest_27 rfl (by decide) ?_
    refine zv_istore (pc' := 30) dX7_richest_28 rfl (by decide) ?_
    refine zv_fg [2] ?_
    exact lp (yN (sC s)) 0 (by omega)
  · intro h
    have h0 := mt (neg_w0 _ hw).mpr h
    refine zv_aload_n (pc' := 10) dX7_richest_9 rfl rfl ?_
    refine zv_iload_n (pc' := 11) dX7_richest_10 rfl rfl ?_
    refine zv_cV1_fi (pc' := 14) dX7_richest_11 rfl lkX7_89 (by first | rfl | assumption) rfl (Nat.le_of_ble_eq_true rfl) (x7_no hw) ?_
    rintro r M1 ⟨rfl, rfl⟩
    refine zv_iret dX7_richest_14 rfl ?_
    exact zrefm hI h0
end
