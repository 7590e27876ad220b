/-! the reference: what is kept and put back -/
/-- the row at 101 holds a county from place s on -/
def zKp (M : ZMem) (s : Nat) (c : ZCty) : Prop := (∀ j, j < 8 → M 101 (s + j) = nI (yK c j)) ∧ (∀ j, j < 8 → M 101 (s + 8 + j) = nI (yF c j)) ∧ (∀ j, j < 8 → M 101 (s + 16 + j) = nI (yM c j)) ∧ (∀ j, j < 8 → M 101 (s + 24 + j) = nI (zm 8 (yS c j))) ∧ (∀ j, j < 8 → M 101 (s + 32 + j) = nI (zm 8 (yX c j))) ∧ M 101 (s + 40) = nI (yN c) ∧ M 101 (s + 41) = nI (yY c)
theorem zKp.same {M M' : ZMem} {s : Nat} {c : ZCty} (h : zKp M s c) (hs : ∀ i, s ≤ i → i < s + 42 → M' 101 i = M 101 i) : zKp M' s c := by
  obtain ⟨h1, h2, h3, h4, h5, h6, h7⟩ := h
  exact ⟨fun j hj => by rw [hs _ (by omega) (by omega)]; exact h1 j hj, fun j hj => by rw [hs _ (by omega) (by omega)]; exact h2 j hj, fun j hj => by rw [hs _ (by omega) (by omega)]; exact h3 j hj, fun j hj => by rw [hs _ (by omega) (by omega)]; exact h4 j hj, fun j hj => by rw [hs _ (by omega) (by omega)]; exact h5 j hj, by rw [hs _ (by omega) (by omega)]; exact h6, by rw [hs _ (by omega) (by omega)]; exact h7⟩
section
variable {M : ZMem} {c : ZCty} {d : Nat}
theorem x7_passesK {b cu : Nat} (hb : zshL[b]? = some (.inl 8)) (hb1 : b ≠ 101) (hb2 : b ≠ 90) (hI : M 90 18 = 1) (hC : M 90 19 = nI cu) (hcu : cu + 8 ≤ 126) : ZFv mdX7_passes d [.ref 90, .ref b] M (fun M' => (∀ i, i < 8 → M' 101 (cu + i) = M b i) ∧ (∀ i, (i < cu ∨ cu + 8 ≤ i) → M' 101 i = M 101 i) ∧ M' 90 19 = nI (cu + 8) ∧ zFr [101] [19] M M') := by
  have lp : ∀ r k M1, k + r = 8 → (∀ i, i < k → M1 101 (cu + i) = M b i) → (∀ i, (i < cu ∨ cu + k ≤ i) → M1 101 i = M 101 i) → M1 90 19 = nI (cu + k) → zFr [101] [19] M M1 →
      ZV mdX7_passes d (fun v M' => v = none ∧ ((∀ i, i < 8 → M' 101 (cu + i) = M b i) ∧ (∀ i, (i < cu ∨ cu + 8 ≤ i) → M' 101 i = M 101 i) ∧ M' 90 19 = nI (cu + 8) ∧ zFr [101] [19] M M')) 2 [some (.ref 90), some (.ref b), some (.int (nI k))] [] M1 := by
    intro r
    induction r with
    | zero =>
      intro k M1 e h1 h2 h3 h4
      have e : k = 8 := by omega
      subst e
      refine zv_iload_n (pc' := 3) dX7_passes_2 rfl rfl ?_
      refine zv_aload_n (pc' := 4) dX7_passes_3 rfl rfl ?_
      refine zv_alen (pc' := 5) dX7_passes_4 rfl (by first | rfl | assumption) ?_
      refine zv_icmp_ge (pc' := 8) (tgt := 58) dX7_passes_5 rfl rfl (fun _ => ?_) (fun hcc => absurd (Int32.le_refl _) hcc)
      refine zv_vret dX7_passes_58 rfl ?_
      exact ⟨rfl, h1, h2, h3, h4⟩
    | succ r ih =>
      intro k M1 e h1 h2 h3 h4
      have hI1 : M1 90 18 = 1 := by rw [h4.2 18 (by decide)]; exact hI
      have hR : M1 b k = M b k := by rw [h4.1 b (by simpa using hb1) hb2]
      refine zv_iload_n (pc' := 3) dX7_passes_2 rfl rfl ?_
      refine zv_aload_n (pc' := 4) dX7_passes_3 rfl rfl ?_
      refine zv_alen (pc' := 5) dX7_passes_4 rfl (by first | rfl | assumption) ?_
      refine zv_icmp_ge (pc' := 8) (tgt := 58) dX7_passes_5 rfl rfl (fun hcc => absurd hcc (nI_ge (by omega) (by omega))) (fun _ => ?_)
      refine zv_aload_n (pc' := 9) dX7_passes_8 rfl rfl ?_
      refine zv_getIE (pc' := 12) dX7_passes_9 rfl flX7_154 (by first | rfl | assumption) rfl (by first | exact hI1 | exact h3 | exact hR | rfl) ?_
      refine zv_if_eq (pc' := 15) (tgt := 30) dX7_passes_12 rfl rfl (fun hcc => absurd hcc (by decide)) (fun _ => ?_)
      refine zv_aload_n (pc' := 16) dX7_passes_15 rfl rfl ?_
      refine zv_getR (pc' := 19) dX7_passes_16 rfl flX7_44 (by first | rfl | assumption) rfl ?_
      refine zv_aload_n (pc' := 20) dX7_passes_19 rfl rfl ?_
      refine zv_getIE (pc' := 23) dX7_passes_20 rfl flX7_158 (by first | rfl | assumption) rfl (by first | exact hI1 | exact h3 | exact hR | rfl) ?_
      refine zv_aload_n (pc' := 24) dX7_passes_23 rfl rfl ?_
      refine zv_iload_n (pc' := 25) dX7_passes_24 rfl rfl ?_
      refine zv_ialoadE (pc' := 26) dX7_passes_25 rfl (by first | rfl | assumption) (by decide) (by omega) (by first | exact hI1 | exact h3 | exact hR | rfl) ?_
      refine zv_iastoreN (pc' := 27) dX7_passes_26 rfl (by first | rfl | assumption) (by decide) (by omega) ?_
      refine zv_goto (pc' := 42) dX7_passes_27 rfl ?_
      have h3' : zup M1 101 (cu + k) (M b k) 90 19 = nI (cu + k) := by rw [zup_ne (by decide)]; exact h3
      refine zv_aload_n (pc' := 43) dX7_passes_42 rfl rfl ?_
      refine zv_dup (pc' := 44) dX7_passes_43 rfl rfl ?_
      refine zv_getIE (pc' := 47) dX7_passes_44 rfl flX7_158 (by first | rfl | assumption) rfl (by first | exact h3' | rfl) ?_
      refine zv_iconst (v := nI 1) (pc' := 48) dX7_passes_47 rfl (by decide) ?_
      refine zv_iadd (pc' := 49) dX7_passes_48 rfl ?_
      refine zv_top (nI_add _ _) ?_
      refine zv_putI (pc' := 52) dX7_passes_49 rfl flX7_158 pfX7_19 (by first | rfl | assumption) rfl rfl rfl ?_
      refine zv_iinc (w := nI 1) (pc' := 55) dX7_passes_52 rfl rfl (by decide) (by decide) ?_
      refine zv_goto (pc' := 2) dX7_passes_55 rfl ?_
      rw [nI_add]
      refine ih (k + 1) _ (by omega) ?_ ?_ ?_ ?_
      · intro i hi
        rw [zup_ne (by decide), zup_eq]
        by_cases hk : i = k
        · subst hk; rw [upd_s]
        · rw [upd_n (by omega)]; exact h1 i (by omega)
      · intro i hi
        rw [zup_ne (by decide), zup_eq, upd_n (by omega)]
        exact h2 i (by omega)
      · rw [zup_eq, upd_s]; rfl
      · exact (h4.tr (zFr.up (by decide) (by decide))).tr (zFr.uf (by decide))
  refine zex_intro (L := [some (.ref 90), some (.ref b), none]) (by decide) (Nat.le_of_ble_eq_true rfl) rfl ?_
  refine zv_iconst (v := nI 0) (pc' := 1) dX7_passes_0 rfl (by decide) ?_
  refine zv_istore_n (pc' := 2) dX7_passes_1 rfl (by decide) ?_
  exact lp 8 0 M (by omega) (fun i hi => by omega) (fun i _ => rfl) hC zFr.rf
theorem x7_passesB {b cu : Nat} (hb : zshL[b]? = some (.inl 8)) (hb1 : b ≠ 101) (hb2 : b ≠ 90) (hI : M 90 18 = 0) (hC : M 90 19 = nI cu) (hcu : cu + 8 ≤ 126) : ZFv mdX7_passes d [.ref 90, .ref b] M (fun M' => (∀ i, i < 8 → M' b i = M 101 (cu + i)) ∧ M' 90 19 = nI (cu + 8) ∧ zFr [b] [19] M M') := by
  have lp : ∀ r k M1, k + r = 8 → (∀ i, i < k → M1 b i = M 101 (cu + i)) → M1 90 19 = nI (cu + k) → zFr [b] [19] M M1 →
      ZV mdX7_passes d (fun v M' => v = none ∧ ((∀ i, i < 8 → M' b i = M 101 (cu + i)) ∧ M' 90 19 = nI (cu + 8) ∧ zFr [b] [19] M M')) 2 [some (.ref 90), some (.ref b), some (.int (nI k))] [] M1 := by
    intro r
    induction r with
    | zero =>
      intro k M1 e h1 h3 h4
      have e : k = 8 := by omega
      subst e
      refine zv_iload_n (pc' := 3) dX7_passes_2 rfl rfl ?_
      refine zv_aload_n (pc' := 4) dX7_passes_3 rfl rfl ?_
      refine zv_alen (pc' := 5) dX7_passes_4 rfl (by first | rfl | assumption) ?_
      refine zv_icmp_ge (pc' := 8) (tgt := 58) dX7_passes_5 rfl rfl (fun _ => ?_) (fun hcc => absurd (Int32.le_refl _) hcc)
      refine zv_vret dX7_passes_58 rfl ?_
      exact ⟨rfl, h1, h3, h4⟩
    | succ r ih =>
      intro k M1 e h1 h3 h4
      have hI1 : M1 90 18 = 0 := by rw [h4.2 18 (by decide)]; exact hI
      have hR : M1 101 (cu + k) = M 101 (cu + k) := by rw [h4.1 101 (by simpa using Ne.symm hb1) (by decide)]
      refine zv_iload_n (pc' := 3) dX7_passes_2 rfl rfl ?_
      refine zv_aload_n (pc' := 4) dX7_passes_3 rfl rfl ?_
      refine zv_alen (pc' := 5) dX7_passes_4 rfl (by first | rfl | assumption) ?_
      refine zv_icmp_ge (pc' := 8) (tgt := 58) dX7_passes_5 rfl rfl (fun hcc => absurd hcc (nI_ge (by omega) (by omega))) (fun _ => ?_)
      refine zv_aload_n (pc' := 9) dX7_passes_8 rfl rfl ?_
      refine zv_getIE (pc' := 12) dX7_passes_9 rfl flX7_154 (by first | rfl | assumption) rfl (by first | exact hI1 | exact h3 | exact hR | rfl) ?_
      refine zv_if_eq (pc' := 15) (tgt := 30) dX7_passes_12 rfl rfl (fun _ => ?_) (fun hcc => absurd (rfl) hcc)
      refine zv_aload_n (pc' := 31) dX7_passes_30 rfl rfl ?_
      refine zv_iload_n (pc' := 32) dX7_passes_31 rfl rfl ?_
      refine zv_aload_n (pc' := 33) dX7_passes_32 rfl rfl ?_
      refine zv_getR (pc' := 36) dX7_passes_33 rfl flX7_44 (by first | rfl | assumption) rfl ?_
      refine zv_aload_n (pc' := 37) dX7_passes_36 rfl rfl ?_
      refine zv_getIE (pc' := 40) dX7_passes_37 rfl flX7_158 (by first | rfl | assumption) rfl (by first | exact hI1 | exact h3 | exact hR | rfl) ?_
      refine zv_ialoadE (pc' := 41) dX7_passes_40 rfl (by first | rfl | assumption) (by decide) (by omega) (by first | exact hI1 | exact h3 | exact hR | rfl) ?_
      refine zv_iastoreN (pc' := 42) dX7_passes_41 rfl (by first | rfl | assumption) (by decide) (by omega) ?_
      have h3' : zup M1 b k (M 101 (cu + k)) 90 19 = nI (cu + k) := by rw [zup_ne (Ne.symm hb2)]; exact h3
      refine zv_aload_n (pc' := 43) dX7_passes_42 rfl rfl ?_
      refine zv_dup (pc' := 44) dX7_passes_43 rfl rfl ?_
      refine zv_getIE (pc' := 47) dX7_passes_44 rfl flX7_158 (by first | rfl | assumption) rfl (by first | exact h3' | rfl) ?_
      refine zv_iconst (v := nI 1) (pc' := 48) dX7_passes_47 rfl (by decide) ?_
      refine zv_iadd (pc' := 49) dX7_passes_48 rfl ?_
      refine zv_top (nI_add _ _) ?_
      refine zv_putI (pc' := 52) dX7_passes_49 rfl flX7_158 pfX7_19 (by first | rfl | assumption) rfl rfl rfl ?_
      refine zv_iinc (w := nI 1) (pc' := 55) dX7_passes_52 rfl rfl (by decide) (by decide) ?_
      refine zv_goto (pc' := 2) dX7_passes_55 rfl ?_
      rw [nI_add]
      refine ih (k + 1) _ (by omega) ?_ ?_ ?_
      · intro i hi
        rw [zup_ne hb2, zup_eq]
        by_cases hk : i = k
        · subst hk; rw [upd_s]
        · rw [upd_n (by omega)]; exact h1 i (by omega)
      · rw [zup_eq, upd_s]; rfl
      · exact (h4.tr (zFr.up (by simp) hb2)).tr (zFr.uf (by decide))
  refine zex_intro (L := [some (.ref 90), some (.ref b), none]) (by decide) (Nat.le_of_ble_eq_true rfl) rfl ?_
  refine zv_iconst (v := nI 0) (pc' := 1) dX7_passes_0 rfl (by decide) ?_
  refine zv_istore_n (pc' := 2) dX7_passes_1 rfl (by decide) ?_
  exact lp 8 0 M (by omega) (fun i hi => by omega) hC zFr.rf
theorem x7_passOneK {x : Int32} {cu : Nat} (hI : M 90 18 = 1) (hC : M 90 19 = nI cu) (hcu : cu < 126) : ZFi mdX7_passOne d [.ref 90, .int x] M (fun r M' => r = x ∧ M' 101 cu = x ∧ (∀ i, i ≠ cu → M' 101 i = M 101 i) ∧ M' 90 19 = nI (cu + 1) ∧ zFr [101] [19] M M') := by
  refine zex_intro (L := [some (.ref 90), some (.int x), none]) (by decide) (Nat.le_of_ble_eq_true rfl) rfl ?_
  refine zv_aload_n (pc' := 1) dX7_passOne_0 rfl rfl ?_
  refine zv_getIE (pc' := 4) dX7_passOne_1 rfl flX7_154 (by first | rfl | assumption) rfl (by first | exact hI | exact hC | rfl) ?_
  refine zv_if_eq (pc' := 7) (tgt := 11) dX7_passOne_4 rfl rfl (fun hcc => absurd hcc (by decide)) (fun _ => ?_)
  refine zv_iload_n (pc' := 8) dX7_passOne_7 rfl rfl ?_
  refine zv_goto (pc' := 20) dX7_passOne_8 rfl ?_
  refine zv_istore_n (pc' := 21) dX7_passOne_20 rfl (by decide) ?_
  refine zv_aload_n (pc' := 22) dX7_passOne_21 rfl rfl ?_
  refine zv_getIE (pc' := 25) dX7_passOne_22 rfl flX7_154 (by first | rfl | assumption) rfl (by first | exact hI | exact hC | rfl) ?_
  refine zv_if_eq (pc' := 28) (tgt := 38) dX7_passOne_25 rfl rfl (fun hcc => absurd hcc (by decide)) (fun _ => ?_)
  refine zv_aload_n (pc' := 29) dX7_passOne_28 rfl rfl ?_
  refine zv_getR (pc' := 32) dX7_passOne_29 rfl flX7_44 (by first | rfl | assumption) rfl ?_
  refine zv_aload_n (pc' := 33) dX7_passOne_32 rfl rfl ?_
  refine zv_getIE (pc' := 36) dX7_passOne_33 rfl flX7_158 (by first | rfl | assumption) rfl (by first | exact hI | exact hC | rfl) ?_
  refine zv_iload_n (pc' := 37) dX7_passOne_36 rfl rfl ?_
  refine zv_iastoreN (pc' := 38) dX7_passOne_37 rfl (by first | rfl | assumption) (by decide) (by omega) ?_
  have hC' : zup M 101 cu x 90 19 = nI cu := by rw [zup_ne (by decide)]; exact hC
  refine zv_aload_n (pc' := 39) dX7_passOne_38 rfl rfl ?_
  refine zv_dup (pc' := 40) dX7_passOne_39 rfl rfl ?_
  refine zv_getIE (pc' := 43) dX7_passOne_40 rfl flX7_158 (by first | rfl | assumption) rfl (by first | exact hC' | rfl) ?_
  refine zv_iconst (v := nI 1) (pc' := 44) dX7_passOne_43 rfl (by decide) ?_
  refine zv_iadd (pc' := 45) dX7_passOne_44 rfl ?_
  refine zv_top (nI_add _ _) ?_
  refine zv_putI (pc' := 48) dX7_passOne_45 rfl flX7_158 pfX7_19 (by first | rfl | assumption) rfl rfl rfl ?_
  refine zv_iload_n (pc' := 49) dX7_passOne_48 rfl rfl ?_
  refine zv_iret dX7_passOne_49 rfl ?_
  refine ⟨_, rfl, rfl, ?_, ?_, ?_, ?_⟩
  · rw [zup_ne (by decide), zup_eq, upd_s]
  · intro i hi
    rw [zup_ne (by decide), zup_eq, upd_n hi]
  · rw [zup_eq, upd_s]
  · exact (zFr.up (by decide) (by decide)).tr (zFr.uf (by decide))
theorem x7_passOneB {x : Int32} {cu : Nat} (hI : M 90 18 = 0) (hC : M 90 19 = nI cu) (hcu : cu < 126) : ZFi mdX7_passOne d [.ref 90, .int x] M (fun r M' => r = M 101 cu ∧ M' 90 19 = nI (cu + 1) ∧ zFr [] [19] M M') := by
  refine zex_intro (L := [some (.ref 90), some (.int x), none]) (by decide) (Nat.le_of_ble_eq_true rfl) rfl ?_
  refine zv_aload_n (pc' := 1) dX7_passOne_0 rfl rfl ?_
  refine zv_getIE (pc' := 4) dX7_passOne_1 rfl flX7_154 (by first | rfl | assumption) rfl (by first | exact hI | exact hC | rfl) ?_
  refine zv_if_eq (pc' := 7) (tgt := 11) dX7_passOne_4 rfl rfl (fun _ => ?_) (fun hcc => absurd (rfl) hcc)
  refine zv_aload_n (pc' := 12) dX7_passOne_11 rfl rfl ?_
  refine zv_getR (pc' := 15) dX7_passOne_12 rfl flX7_44 (by first | rfl | assumption) rfl ?_
  refine zv_aload_n (pc' := 16) dX7_passOne_15 rfl rfl ?_
  refine zv_getIE (pc' := 19) dX7_passOne_16 rfl flX7_158 (by first | rfl | assumption) rfl (by first | exact hI | exact hC | rfl) ?_
  refine zv_ialoadE (pc' := 20) dX7_passOne_19 rfl (by first | rfl | assumption) (by decide) (by omega) (by first | exact hI | exact hC | rfl) ?_
  refine zv_istore_n (pc' := 21) dX7_passOne_20 rfl (by decide) ?_
  refine zv_aload_n (pc' := 22) dX7_passOne_21 rfl rfl ?_
  refine zv_getIE (pc' := 25) dX7_passOne_22 rfl flX7_154 (by first | rfl | assumption) rfl (by first | exact hI | exact hC | rfl) ?_
  refine zv_if_eq (pc' := 28) (tgt := 38) dX7_passOne_25 rfl rfl (fun _ => ?_) (fun hcc => absurd (rfl) hcc)
  refine zv_aload_n (pc' := 39) dX7_passOne_38 rfl rfl ?_
  refine zv_dup (pc' := 40) dX7_passOne_39 rfl rfl ?_
  refine zv_getIE (pc' := 43) dX7_passOne_40 rfl flX7_158 (by first | rfl | assumption) rfl (by first | exact hI | exact hC | rfl) ?_
  refine zv_iconst (v := nI 1) (pc' := 44) dX7_passOne_43 rfl (by decide) ?_
  refine zv_iadd (pc' := 45) dX7_passOne_44 rfl ?_
  refine zv_top (nI_add _ _) ?_
  refine zv_putI (pc' := 48) dX7_passOne_45 rfl flX7_158 pfX7_19 (by first | rfl | assumption) rfl rfl rfl ?_
  refine zv_iload_n (pc' := 49) dX7_passOne_48 rfl rfl ?_
  refine zv_iret dX7_passOne_49 rfl ?_
  refine ⟨_, rfl, rfl, ?_, ?_⟩
  · rw [zup_eq, upd_s]
  · exact zFr.uf (by decide)
theorem x7_keepAll {w : Nat} (hA : zAm M c) (hw : w < 3) : ZFv mdX7_passesAll (d + 1) [.ref 90, .int (nI w), .int (nI 1)] M (fun M' => zKp M' (42 * w) c ∧ zAm M' c ∧ (∀ i, (i < 42 * w ∨ 42 * w + 42 ≤ i) → M' 101 i = M 101 i) ∧ zFr [101] [6, 7, 18, 19] M M') := by
  obtain ⟨hN, hY, hK, hF, hM, hS, hX⟩ := hA
  refine zex_intro (L := [some (.ref 90), some (.int (nI w)), some (.int (nI 1))]) (by decide) (Nat.le_of_ble_eq_true rfl) rfl ?_
  refine zv_aload_n (pc' := 1) dX7_passesAll_0 rfl rfl ?_
  refine zv_bipush (v := nI 42) (pc' := 3) dX7_passesAll_1 rfl (by decide) ?_
  refine zv_iload_n (pc' := 4) dX7_passesAll_3 rfl rfl ?_
  refine zv_imul (pc' := 5) dX7_passesAll_4 rfl ?_
  refine zv_top (pk_mul _ _) ?_
  refine zv_putI (pc' := 8) dX7_passesAll_5 rfl flX7_158 pfX7_19 (by first | rfl | assumption) rfl rfl rfl ?_
  refine zv_aload_n (pc' := 9) dX7_passesAll_8 rfl rfl ?_
  refine zv_iload_n (pc' := 10) dX7_passesAll_9 rfl rfl ?_
  refine zv_putI (pc' := 13) dX7_passesAll_10 rfl flX7_154 pfX7_18 (by first | rfl | assumption) rfl (by first | rfl | exact zb_nar _) (by first | rfl | exact zb_fit _) ?_
  generalize e0 : zup (zup M 90 19 (nI (42 * w))) 90 18 (nI 1) = M0
  have s0 : zFr [101] [18, 19] M M0 := by rw [← e0]; exact (zFr.uf (by decide)).tr (zFr.uf (by decide))
  have i0 : M0 90 18 = 1 := by rw [← e0, zup_eq, upd_s]; rfl
  have k0 : M0 90 19 = nI (42 * w) := by rw [← e0, zup_eq, upd_n (by decide), zup_eq, upd_s]
  have z0 : M0 101 = M 101 := by rw [← e0, zup_ne (by decide), zup_ne (by decide)]
  refine zv_aload_n (pc' := 14) dX7_passesAll_13 rfl rfl ?_
  refine zv_aload_n (pc' := 15) dX7_passesAll_14 rfl rfl ?_
  refine zv_getR (pc' := 18) dX7_passesAll_15 rfl flX7_13 (by first | rfl | assumption) rfl ?_
  refine zv_cV1_fv (pc' := 21) dX7_passesAll_18 rfl lkX7_161 (by first | rfl | assumption) rfl (Nat.le_of_ble_eq_true rfl) (x7_passesK rfl (by decide) (by decide) i0 k0 (by omega)) ?_
  rintro M1 ⟨a1, b1, k1, s1⟩
  have i1 : M1 90 18 = 1 := by rw [s1.2 _ (by decide)]; exact i0
  refine zv_aload_n (pc' := 22) dX7_passesAll_21 rfl rfl ?_
  refine zv_aload_n (pc' := 23) dX7_passesAll_22 rfl rfl ?_
  refine zv_getR (pc' := 26) dX7_passesAll_23 rfl flX7_16 (by first | rfl | assumption) rfl ?_
  refine zv_cV1_fv (pc' := 29) dX7_passesAll_26 rfl lkX7_161 (by first | rfl | assumption) rfl (Nat.le_of_ble_eq_true rfl) (x7_passesK rfl (by decide) (by decide) i1 k1 (by omega)) ?_
  rintro M2 ⟨a2, b2, k2, s2⟩
  have i2 : M2 90 18 = 1 := by rw [s2.2 _ (by decide)]; exact i1
  refine zv_aload_n (pc' := 30) dX7_passesAll_29 rfl rfl ?_
  refine zv_aload_n (pc' := 31) dX7_passesAll_30 rfl rfl ?_
  refine zv_getR (pc' := 34) dX7_passesAll_31 rfl flX7_19 (by first | rfl | assumption) rfl ?_
  refine zv_cV1_fv (pc' := 37) dX7_passesAll_34 rfl lkX7_161 (by first | rfl | assumption) rfl (Nat.le_of_ble_eq_true rfl) (x7_passesK rfl (by decide) (by decide) i2 k2 (by omega)) ?_
  rintro M3 ⟨a3, b3, k3, s3⟩
  have i3 : M3 90 18 = 1 := by rw [s3.2 _ (by decide)]; exact i2
  refine zv_aload_n (pc' := 38) dX7_passesAll_37 rfl rfl ?_
  refine zv_aload_n (pc' := 39) dX7_passesAll_38 rfl rfl ?_
  refine zv_getR (pc' := 42) dX7_passesAll_39 rfl flX7_22 (by first | rfl | assumption) rfl ?_
  refine zv_cV1_fv (pc' := 45) dX7_passesAll_42 rfl lkX7_161 (by first | rfl | assumption) rfl (Nat.le_of_ble_eq_true rfl) (x7_passesK rfl (by decide) (by decide) i3 k3 (by omega)) ?_
  rintro M4 ⟨a4, b4, k4, s4⟩
  have i4 : M4 90 18 = 1 := by rw [s4.2 _ (by decide)]; exact i3
  refine zv_aload_n (pc' := 46) dX7_passesAll_45 rfl rfl ?_
  refine zv_aload_n (pc' := 47) dX7_passesAll_46 rfl rfl ?_
  refine zv_getR (pc' := 50) dX7_passesAll_47 rfl flX7_25 (by first | rfl | assumption) rfl ?_
  refine zv_cV1_fv (pc' := 53) dX7_passesAll_50 rfl lkX7_161 (by first | rfl | assumption) rfl (Nat.le_of_ble_eq_true rfl) (x7_passesK rfl (by decide) (by decide) i4 k4 (by omega)) ?_
  rintro M5 ⟨a5, b5, k5, s5⟩
  have i5 : M5 90 18 = 1 := by rw [s5.2 _ (by decide)]; exact i4
  have t5 : zFr [101] [18, 19] M M5 := s0.tr ((s1.mono (by simp) (by simp)).tr ((s2.mono (by simp) (by simp)).tr ((s3.mono (by simp) (by simp)).tr ((s4.mono (by simp) (by simp)).tr (s5.mono (by simp) (by simp))))))
  have n5 : M5 90 6 = nI (yN c) := by rw [t5.2 _ (by decide)]; exact hN
  refine zv_aload_n (pc' := 54) dX7_passesAll_53 rfl rfl ?_
  refine zv_aload_n (pc' := 55) dX7_passesAll_54 rfl rfl ?_
  refine zv_aload_n (pc' := 56) dX7_passesAll_55 rfl rfl ?_
  refine zv_getIE (pc' := 59) dX7_passesAll_56 rfl flX7_65 (by first | rfl | assumption) rfl (by first | exact n5 | rfl) ?_
  refine zv_cV1_fi (pc' := 62) dX7_passesAll_59 rfl lkX7_165 (by first | rfl | assumption) rfl (Nat.le_of_ble_eq_true rfl) (x7_passOneK i5 k5 (by omega)) ?_
  rintro r M6 ⟨rfl, a6, b6, k6, s6⟩
  refine zv_putI (pc' := 65) dX7_passesAll_62 rfl flX7_65 pfX7_6 (by first | rfl | assumption) rfl rfl rfl ?_
  have y6 : zup M6 90 6 (nI (yN c)) 90 7 = nI (yY c) := by rw [zup_eq, upd_n (by decide), s6.2 _ (by decide), t5.2 _ (by decide)]; exact hY
  have i6 : zup M6 90 6 (nI (yN c)) 90 18 = 1 := by rw [zup_eq, upd_n (by decide), s6.2 _ (by decide)]; exact i5
  have k6' : zup M6 90 6 (nI (yN c)) 90 19 = nI (42 * w + 8 + 8 + 8 + 8 + 8 + 1) := by rw [zup_eq, upd_n (by decide)]; exact k6
  have s6' : zFr [101] [6, 7, 18, 19] M5 (zup M6 90 6 (nI (yN c))) := (s6.mono (by simp) (by simp)).tr (zFr.uf (by decide))
  have z6 : zup M6 90 6 (nI (yN c)) 101 = M6 101 := zup_ne (by decide)
  have n6 : zup M6 90 6 (nI (yN c)) 90 6 = nI (yN c) := by rw [zup_eq, upd_s]
  generalize zup M6 90 6 (nI (yN c)) = M7 at y6 i6 k6' s6' z6 n6 ⊢
  refine zv_aload_n (pc' := 66) dX7_passesAll_65 rfl rfl ?_
  refine zv_aload_n (pc' := 67) dX7_passesAll_66 rfl rfl ?_
  refine zv_aload_n (pc' := 68) dX7_passesAll_67 rfl rfl ?_
  refine zv_getIE (pc' := 71) dX7_passesAll_68 rfl flX7_126 (by first | rfl | assumption) rfl (by first | exact y6 | rfl) ?_
  refine zv_cV1_fi (pc' := 74) dX7_passesAll_71 rfl lkX7_165 (by first | rfl | assumption) rfl (Nat.le_of_ble_eq_true rfl) (x7_passOneK i6 k6' (by omega)) ?_
  rintro r M8 ⟨rfl, a8, b8, k8, s8⟩
  refine zv_putI (pc' := 77) dX7_passesAll_74 rfl flX7_126 pfX7_7 (by first | rfl | assumption) rfl rfl rfl ?_
  refine zv_vret dX7_passesAll_77 rfl ?_
  have hz : zup M8 90 7 (nI (yY c)) 101 = M8 101 := zup_ne (by decide)
  have tt : zFr [101] [6, 7, 18, 19] M (zup M8 90 7 (nI (yY c))) := (t5.mono (by simp) (by simp)).tr (s6'.tr ((s8.mono (by simp) (by simp)).tr (zFr.uf (by decide))))
  refine ⟨rfl, ⟨?_, ?_, ?_, ?_, ?_, ?_, ?_⟩, ⟨?_, ?_, ?_, ?_, ?_, ?_, ?_⟩, ?_, tt⟩
  · intro j hj
    rw [hz, b8 _ (by omega), z6, b6 _ (by omega), b5 _ (by omega), b4 _ (by omega), b3 _ (by omega), b2 _ (by omega), a1 j hj, s0.1 _ (by decide) (by decide)]
    exact hK j hj
  · intro j hj
    rw [hz, b8 _ (by omega), z6, b6 _ (by omega), b5 _ (by omega), b4 _ (by omega), b3 _ (by omega), a2 j hj, s1.1 _ (by decide) (by decide), s0.1 _ (by decide) (by decide)]
    exact hF j hj
  · intro j hj
    rw [hz, b8 _ (by omega), z6, b6 _ (by omega), b5 _ (by omega), b4 _ (by omega), show 42 * w + 16 + j = 42 * w + 8 + 8 + j by omega, a3 j hj, s2.1 _ (by decide) (by decide), s1.1 _ (by decide) (by decide), s0.1 _ (by decide) (by decide)]
    exact hM j hj
  · intro j hj
    rw [hz, b8 _ (by omega), z6, b6 _ (by omega), b5 _ (by omega), show 42 * w + 24 + j = 42 * w + 8 + 8 + 8 + j by omega, a4 j hj, s3.1 _ (by decide) (by decide), s2.1 _ (by decide) (by decide), s1.1 _ (by decide) (by decide), s0.1 _ (by decide) (by decide)]
    exact hS j hj
  · intro j hj
    rw [hz, b8 _ (by omega), z6, b6 _ (by omega), show 42 * w + 32 + j = 42 * w + 8 + 8 + 8 + 8 + j by omega, a5 j hj, s4.1 _ (by decide) (by decide), s3.1 _ (by decide) (by decide), s2.1 _ (by decide) (by decide), s1.1 _ (by decide) (by decide), s0.1 _ (by decide) (by decide)]
    exact hX j hj
  · rw [hz, b8 _ (by omega), z6, show 42 * w + 40 = 42 * w + 8 + 8 + 8 + 8 + 8 by omega]
    exact a6
  · rw [hz, show 42 * w + 41 = 42 * w + 8 + 8 + 8 + 8 + 8 + 1 by omega]
    exact a8
  · rw [zup_eq, upd_n (by decide), s8.2 _ (by decide)]
    exact n6
  · rw [zup_eq, upd_s]
  · rw [tt.1 _ (by decide) (by decide)]; exact hK
  · rw [tt.1 _ (by decide) (by decide)]; exact hF
  · rw [tt.1 _ (by decide) (by decide)]; exact hM
  · rw [tt.1 _ (by decide) (by decide)]; exact hS
  · rw [tt.1 _ (by decide) (by decide)]; exact hX
  · intro i hi
    rw [hz, b8 _ (by omega), z6, b6 _ (by omega), b5 _ (by omega), b4 _ (by omega), b3 _ (by omega), b2 _ (by omega), b1 _ (by omega), z0]
theorem x7_backAll {w : Nat} (hk : zKp M (42 * w) c) (hw : w < 3) : ZFv mdX7_passesAll (d + 1) [.ref 90, .int (nI w), .int (nI 0)] M (fun M' => zAm M' c ∧ zFr [92, 93, 94, 95, 96] [6, 7, 18, 19] M M') := by
  obtain ⟨hK, hF, hM, hS, hX, hN, hY⟩ := hk
  refine zex_intro (L := [some (.ref 90), some (.int (nI w)), some (.int (nI 0))]) (by decide) (Nat.le_of_ble_eq_true rfl) rfl ?_
  refine zv_aload_n (pc' := 1) dX7_passesAll_0 rfl rfl ?_
  refine zv_bipush (v := nI 42) (pc' := 3) dX7_passesAll_1 rfl (by decide) ?_
  refine zv_iload_n (pc' := 4) dX7_passesAll_3 rfl rfl ?_
  refine zv_imul (pc' := 5) dX7_passesAll_4 rfl ?_
  refine zv_top (pk_mul _ _) ?_
  refine zv_putI (pc' := 8) dX7_passesAll_5 rfl flX7_158 pfX7_19 (by first | rfl | assumption) rfl rfl rfl ?_
  refine zv_aload_n (pc' := 9) dX7_passesAll_8 rfl rfl ?_
  refine zv_iload_n (pc' := 10) dX7_passesAll_9 rfl rfl ?_
  refine zv_putI (pc' := 13) dX7_passesAll_10 rfl flX7_154 pfX7_18 (by first | rfl | assumption) rfl (by first | rfl | exact zb_nar _) (by first | rfl | exact zb_fit _) ?_
  generalize e0 : zup (zup M 90 19 (nI (42 * w))) 90 18 (nI 0) = M0
  have s0 : zFr [] [18, 19] M M0 := by rw [← e0]; exact (zFr.uf (by decide)).tr (zFr.uf (by decide))
  have i0 : M0 90 18 = 0 := by rw [← e0, zup_eq, upd_s]; rfl
  have k0 : M0 90 19 = nI (42 * w) := by rw [← e0, zup_eq, upd_n (by decide), zup_eq, upd_s]
  have z0 : M0 101 = M 101 := s0.1 _ (by decide) (by decide)
  refine zv_aload_n (pc' := 14) dX7_passesAll_13 rfl rfl ?_
  refine zv_aload_n (pc' := 15) dX7_passesAll_14 rfl rfl ?_
  refine zv_getR (pc' := 18) dX7_passesAll_15 rfl flX7_13 (by first | rfl | assumption) rfl ?_
  refine zv_cV1_fv (pc' := 21) dX7_passesAll_18 rfl lkX7_161 (by first | rfl | assumption) rfl (Nat.le_of_ble_eq_true rfl) (x7_passesB rfl (by decide) (by decide) i0 k0 (by omega)) ?_
  rintro M1 ⟨a1, k1, s1⟩
  have i1 : M1 90 18 = 0 := by rw [s1.2 _ (by decide)]; exact i0
  have z1 : M1 101 = M 101 := (s1.1 _ (by decide) (by decide)).trans z0
  refine zv_aload_n (pc' := 22) dX7_passesAll_21 rfl rfl ?_
  refine zv_aload_n (pc' := 23) dX7_passesAll_22 rfl rfl ?_
  refine zv_getR (pc' := 26) dX7_passesAll_23 rfl flX7_16 (by first | rfl | assumption) rfl ?_
  refine zv_cV1_fv (pc' := 29) dX7_passesAll_26 rfl lkX7_161 (by first | rfl | assumption) rfl (Nat.le_of_ble_eq_true rfl) (x7_passesB rfl (by decide) (by decide) i1 k1 (by omega)) ?_
  rintro M2 ⟨a2, k2, s2⟩
  have i2 : M2 90 18 = 0 := by rw [s2.2 _ (by decide)]; exact i1
  have z2 : M2 101 = M 101 := (s2.1 _ (by decide) (by decide)).trans z1
  refine zv_aload_n (pc' := 30) dX7_passesAll_29 rfl rfl ?_
  refine zv_aload_n (pc' := 31) dX7_passesAll_30 rfl rfl ?_
  refine zv_getR (pc' := 34) dX7_passesAll_31 rfl flX7_19 (by first | rfl | assumption) rfl ?_
  refine zv_cV1_fv (pc' := 37) dX7_passesAll_34 rfl lkX7_161 (by first | rfl | assumption) rfl (Nat.le_of_ble_eq_true rfl) (x7_passesB rfl (by decide) (by decide) i2 k2 (by omega)) ?_
  rintro M3 ⟨a3, k3, s3⟩
  have i3 : M3 90 18 = 0 := by rw [s3.2 _ (by decide)]; exact i2
  have z3 : M3 101 = M 101 := (s3.1 _ (by decide) (by decide)).trans z2
  refine zv_aload_n (pc' := 38) dX7_passesAll_37 rfl rfl ?_
  refine zv_aload_n (pc' := 39) dX7_passesAll_38 rfl rfl ?_
  refine zv_getR (pc' := 42) dX7_passesAll_39 rfl flX7_22 (by first | rfl | assumption) rfl ?_
  refine zv_cV1_fv (pc' := 45) dX7_passesAll_42 rfl lkX7_161 (by first | rfl | assumption) rfl (Nat.le_of_ble_eq_true rfl) (x7_passesB rfl (by decide) (by decide) i3 k3 (by omega)) ?_
  rintro M4 ⟨a4, k4, s4⟩
  have i4 : M4 90 18 = 0 := by rw [s4.2 _ (by decide)]; exact i3
  have z4 : M4 101 = M 101 := (s4.1 _ (by decide) (by decide)).trans z3
  refine zv_aload_n (pc' := 46) dX7_passesAll_45 rfl rfl ?_
  refine zv_aload_n (pc' := 47) dX7_passesAll_46 rfl rfl ?_
  refine zv_getR (pc' := 50) dX7_passesAll_47 rfl flX7_25 (by first | rfl | assumption) rfl ?_
  refine zv_cV1_fv (pc' := 53) dX7_passesAll_50 rfl lkX7_161 (by first | rfl | assumption) rfl (Nat.le_of_ble_eq_true rfl) (x7_passesB rfl (by decide) (by decide) i4 k4 (by omega)) ?_
  rintro M5 ⟨a5, k5, s5⟩
  have i5 : M5 90 18 = 0 := by rw [s5.2 _ (by decide)]; exact i4
  have z5 : M5 101 = M 101 := (s5.1 _ (by decide) (by decide)).trans z4
  refine zv_aload_n (pc' := 54) dX7_passesAll_53 rfl rfl ?_
  refine zv_aload_n (pc' := 55) dX7_passesAll_54 rfl rfl ?_
  refine zv_aload_n (pc' := 56) dX7_passesAll_55 rfl rfl ?_
  refine zv_getIE (pc' := 59) dX7_passesAll_56 rfl flX7_65 (by first | rfl | assumption) rfl (by first | rfl) ?_
  refine zv_cV1_fi (pc' := 62) dX7_passesAll_59 rfl lkX7_165 (by first | rfl | assumption) rfl (Nat.le_of_ble_eq_true rfl) (x7_passOneB i5 k5 (by omega)) ?_
  rintro r M6 ⟨rfl, k6, s6⟩
  refine zv_top (show _ = nI (yN c) by rw [z5, show 42 * w + 8 + 8 + 8 + 8 + 8 = 42 * w + 40 by omega]; exact hN) ?_
  refine zv_putI (pc' := 65) dX7_passesAll_62 rfl flX7_65 pfX7_6 (by first | rfl | assumption) rfl rfl rfl ?_
  have i6 : zup M6 90 6 (nI (yN c)) 90 18 = 0 := by rw [zup_eq, upd_n (by decide), s6.2 _ (by decide)]; exact i5
  have k6' : zup M6 90 6 (nI (yN c)) 90 19 = nI (42 * w + 8 + 8 + 8 + 8 + 8 + 1) := by rw [zup_eq, upd_n (by decide)]; exact k6
  have s6' : zFr [] [6, 19] M5 (zup M6 90 6 (nI (yN c))) := (s6.mono (by simp) (by simp)).tr (zFr.uf (by decide))
  have n6 : zup M6 90 6 (nI (yN c)) 90 6 = nI (yN c) := by rw [zup_eq, upd_s]
  generalize zup M6 90 6 (nI (yN c)) = M7 at i6 k6' s6' n6 ⊢
  have z7 : M7 101 = M 101 := (s6'.1 _ (by decide) (by decide)).trans z5
  refine zv_aload_n (pc' := 66) dX7_passesAll_65 rfl rfl ?_
  refine zv_aload_n (pc' := 67) dX7_passesAll_66 rfl rfl ?_
  refine zv_aload_n (pc' := 68) dX7_passesAll_67 rfl rfl ?_
  refine zv_getIE (pc' := 71) dX7_passesAll_68 rfl flX7_126 (by first | rfl | assumption) rfl (by first | rfl) ?_
  refine zv_cV1_fi (pc' := 74) dX7_passesAll_71 rfl lkX7_165 (by first | rfl | assumption) rfl (Nat.le_of_ble_eq_true rfl) (x7_passOneB i6 k6' (by omega)) ?_
  rintro r M8 ⟨rfl, k8, s8⟩
  refine zv_top (show _ = nI (yY c) by rw [z7, show 42 * w + 8 + 8 + 8 + 8 + 8 + 1 = 42 * w + 41 by omega]; exact hY) ?_
  refine zv_putI (pc' := 77) dX7_passesAll_74 rfl flX7_126 pfX7_7 (by first | rfl | assumption) rfl rfl rfl ?_
  refine zv_vret dX7_passesAll_77 rfl ?_
  have t8 : zFr [] [6, 7, 19] M5 (zup M8 90 7 (nI (yY c))) := (s6'.mono (by simp) (by simp)).tr ((s8.mono (by simp) (by simp)).tr (zFr.uf (by decide)))
  refine ⟨rfl, ⟨?_, ?_, ?_, ?_, ?_, ?_, ?_⟩, ?_⟩
  · rw [zup_eq, upd_n (by decide), s8.2 _ (by decide)]
    exact n6
  · rw [zup_eq, upd_s]
  · intro j hj
    rw [t8.1 _ (by decide) (by decide), s5.1 _ (by decide) (by decide), s4.1 _ (by decide) (by decide), s3.1 _ (by decide) (by decide), s2.1 _ (by decide) (by decide), a1 j hj, z0]
    exact hK j hj
  · intro j hj
    rw [t8.1 _ (by decide) (by decide), s5.1 _ (by decide) (by decide), s4.1 _ (by decide) (by decide), s3.1 _ (by decide) (by decide), a2 j hj, z1]
    exact hF j hj
  · intro j hj
    rw [t8.1 _ (by decide) (by decide), s5.1 _ (by decide) (by decide), s4.1 _ (by decide) (by decide), a3 j hj, z2, show 42 * w + 8 + 8 + j = 42 * w + 16 + j by omega]
    exact hM j hj
  · intro j hj
    rw [t8.1 _ (by decide) (by decide), s5.1 _ (by decide) (by decide), a4 j hj, z3, show 42 * w + 8 + 8 + 8 + j = 42 * w + 24 + j by omega]
    exact hS j hj
  · intro j hj
    rw [t8.1 _ (by decide) (by decide), a5 j hj, z4, show 42 * w + 8 + 8 + 8 + 8 + j = 42 * w + 32 + j by omega]
    exact hX j hj
  · exact (s0.mono (by simp) (by simp)).tr ((s1.mono (by simp) (by simp)).tr ((s2.mono (by simp) (by simp)).tr ((s3.mono (by simp) (by simp)).tr ((s4.mono (by simp) (by simp)).tr ((s5.mono (by simp) (by simp)).tr (t8.mono (by simp) (by simp)))))))
theorem x7_thinks (hA : zAm M c) : ZFv mdX7_thinks (d + 2) [.ref 90] M (fun M' => zKp M' 84 c ∧ zAm M' c ∧ (∀ i, i < 84 → M' 101 i = M 101 i) ∧ zFr [101] [6, 7, 18, 19] M M') := by
  refine zex_intro (L := [some (.ref 90)]) (by decide) (Nat.le_of_ble_eq_true rfl) rfl ?_
  refine zv_aload_n (pc' := 1) dX7_thinks_0 rfl rfl ?_
  refine zv_iconst (v := nI 2) (pc' := 2) dX7_thinks_1 rfl (by decide) ?_
  refine zv_iconst (v := nI 1) (pc' := 3) dX7_thinks_2 rfl (by decide) ?_
  refine zv_cV2_fv (pc' := 6) dX7_thinks_3 rfl lkX7_147 (by first | rfl | assumption) rfl (Nat.le_of_ble_eq_true rfl) (x7_keepAll (w := 2) hA (by decide)) ?_
  rintro M1 ⟨h1, h2, h3, h4⟩
  refine zv_vret dX7_thinks_6 rfl ?_
  exact ⟨rfl, h1, h2, fun i hi => h3 i (by omega), h4⟩
theorem x7_forgets (hk : zKp M 84 c) : ZFv mdX7_forgets (d + 2) [.ref 90] M (fun M' => zAm M' c ∧ zFr [92, 93, 94, 95, 96] [6, 7, 18, 19] M M') := by
  refine zex_intro (L := [some (.ref 90)]) (by decide) (Nat.le_of_ble_eq_true rfl) rfl ?_
  refine zv_aload_n (pc' := 1) dX7_forgets_0 rfl rfl ?_
  refine zv_iconst (v := nI 2) (pc' := 2) dX7_forgets_1 rfl (by decide) ?_
  refine zv_iconst (v := nI 0) (pc' := 3) dX7_forgets_2 rfl (by decide) ?_
  refine zv_cV2_fv (pc' := 6) dX7_forgets_3 rfl lkX7_147 (by first | rfl | assumption) rfl (Nat.le_of_ble_eq_true rfl) (x7_backAll (w := 2) hk (by decide)) ?_
  rintro M1 ⟨h1, h2⟩
  refine zv_vret dX7_forgets_6 rfl ?_
  exact ⟨rfl, h1, h2⟩
theorem x7_changes (hA : zAm M c) : ZFv mdX7_changes (d + 2) [.ref 90] M (fun M' => zKp M' 42 c ∧ zAm M' c ∧ (∀ i, (i < 42 ∨ 84 ≤ i) → M' 101 i = M 101 i) ∧ zFr [101] [6, 7, 18, 19] M M') := by
  refine zex_intro (L := [some (.ref 90)]) (by decide) (Nat.le_of_ble_eq_true rfl) rfl ?_
  refine zv_aload_n (pc' := 1) dX7_changes_0 rfl rfl ?_
  refine zv_iconst (v := nI 1) (pc' := 2) dX7_changes_1 rfl (by decide) ?_
  refine zv_iconst (v := nI 1) (pc' := 3) dX7_changes_2 rfl (by decide) ?_
  refine zv_cV2_fv (pc' := 6) dX7_changes_3 rfl lkX7_147 (by first | rfl | assumption) rfl (Nat.le_of_ble_eq_true rfl) (x7_keepAll (w := 1) hA (by decide)) ?_
  rintro M1 ⟨h1, h2, h3, h4⟩
  refine zv_vret dX7_changes_6 rfl ?_
  exact ⟨rfl, h1, h2, fun i hi => h3 i (by omega), h4⟩
theorem x7_changesBack (hk : zKp M 42 c) : ZFv mdX7_changesBack (d + 2) [.ref 90] M (fun M' => zAm M' c ∧ zFr [92, 93, 94, 95, 96] [6, 7, 18, 19] M M') := by
  refine zex_intro (L := [some (.ref 90)]) (by decide) (Nat.le_of_ble_eq_true rfl) rfl ?_
  refine zv_aload_n (pc' := 1) dX7_changesBack_0 rfl rfl ?_
  refine zv_iconst (v := nI 1) (pc' := 2) dX7_changesBack_1 rfl (by decide) ?_
  refine zv_iconst (v := nI 0) (pc' := 3) dX7_changesBack_2 rfl (by decide) ?_
  refine zv_cV2_fv (pc' := 6) dX7_changesBack_3 rfl lkX7_147 (by first | rfl | assumption) rfl (Nat.le_of_ble_eq_true rfl) (x7_backAll (w := 1) hk (by decide)) ?_
  rintro M1 ⟨h1, h2⟩
  refine zv_vret dX7_changesBack_6 rfl ?_
  exact ⟨rfl, h1, h2⟩
end
