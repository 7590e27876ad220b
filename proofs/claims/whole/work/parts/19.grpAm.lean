/-! letter, row, judge, clear, image, on, person, tie, signs, feuds, gets, turn, years, count: the reference -/
abbrev psM : List Nat := [92, 93, 94, 95, 96, 98, 99, 100, 101, 102, 103, 104, 105, 106]
abbrev fsM : List Nat := [6, 7, 14, 15, 18, 19, 27]
theorem zFr.lt {ps fs : List Nat} {M M' : ZMem} (h : zFr ps fs M M') (hp : ∀ x ∈ ps, x ∈ psM) : ∀ k, k < 90 → M' k = M k := fun k hk => h.1 k (fun z => by
  have := hp k z
  simp at this
  omega) (by omega)
theorem zIm.frm {M M' : ZMem} {s : ZS} {c : ZCty} {ps fs : List Nat} (h : zIm M s) (hA : zAm M' c) (hs : zFr ps fs M M') (hp : ∀ x ∈ ps, x ∈ psM) (hf : ∀ x ∈ fs, x ∈ fsM) (h101 : ∀ i, i < 42 → M' 101 i = M 101 i) : zIm M' (c, s.2) := by
  obtain ⟨h1, h2, h3, h4, h5, h6⟩ := h
  have hs := hs.mono hp hf
  exact ⟨hA, by rw [hs.2 _ (by decide)]; exact h2, ⟨by rw [hs.2 _ (by decide)]; exact h3.1, fun ci hc => (h3.2 ci hc).same (fun i _ hi => h101 i (by omega))⟩, by rw [hs.2 _ (by decide), hs.1 97 (by decide) (by decide)]; exact h4, by rw [hs.2 _ (by decide), hs.1 107 (by decide) (by decide)]; exact h5, by rw [hs.1 91 (by decide) (by decide)]; exact h6⟩
theorem zIm.setc {M M' : ZMem} {s : ZS} {c : ZCty} {ps fs : List Nat} (h : zIm M s) (hA : zAm M' c) (hs : zFr ps fs M M') (hp : ∀ x ∈ ps, x ∈ [92, 93, 94, 95, 96]) (hf : ∀ x ∈ fs, x ∈ [6, 7]) : zIm M' (c, s.2) :=
  h.frm hA hs (fun x hx => by have := hp x hx; simp at this; rcases this with rfl | rfl | rfl | rfl | rfl <;> decide) (fun x hx => by have := hf x hx; simp at this; rcases this with rfl | rfl <;> decide) (fun i _ => by rw [hs.1 101 (fun z => by have := hp _ z; simp at this) (by decide)])
theorem zdonm {v : Int32} {s' : ZS} {sp : Int32 × ZS} {M M' : ZMem} (e : sp = (v, s')) (hI : zIm M' s') (hs : ∀ k, k < 90 → M' k = M k) : ∃ r, some (Value.int v) = some (Value.int r) ∧ (r = sp.1 ∧ zIm M' sp.2 ∧ ∀ k, k < 90 → M' k = M k) := ⟨v, rfl, by rw [e], by rw [e]; exact hI, hs⟩
section
variable {d : Nat}
theorem gm_letter (x : Int32) : zGm mdX7_letter (d + 1) [.int x] (sp_letter x) := by
  intro M s hI hk
  have hl96 := hk.2.2.2.1.1
  have hL := hI.2.2.2.1.1
  have fin : ∀ w, w < 7 → w = fiN (bdN x (nI 0) (nI 255)) (if 96 ≤ (sL s).1 then 6 else 0) 0 → ZV mdX7_letter (d + 1) (fun v M' => ∃ r, v = some (.int r) ∧ (r = (sp_letter x s).1 ∧ zIm M' (sp_letter x s).2 ∧ ∀ k, k < 90 → M' k = M k)) 25 [some (.ref 90), some (.int x), some (.int (-nI w))] [] M := by
    intro w hw hwe
    refine zv_iload_n (pc' := 26) dX7_letter_25 rfl rfl ?_
    refine zv_if_eq (pc' := 29) (tgt := 35) dX7_letter_26 rfl rfl ?_ ?_
    · intro h
      have h0 := (neg_w0 _ hw).mp h
      have h0' := h0
      rw [hwe] at h0'
      obtain ⟨g1, g2, -⟩ := fiN_0.mp h0'
      have hlt : (sL s).1 < 96 := by split at g2 <;> omega
      obtain ⟨k, -, hk2, rfl⟩ := isInB_of (by decide) (bdN_0.mp g1) (by decide)
      refine zv_aload_n (pc' := 36) dX7_letter_35 rfl rfl ?_
      refine zv_getR (pc' := 39) dX7_letter_36 rfl flX7_32 (by first | rfl | assumption) rfl ?_
      refine zv_aload_n (pc' := 40) dX7_letter_39 rfl rfl ?_
      refine zv_getIE (pc' := 43) dX7_letter_40 rfl flX7_86 (by first | rfl | assumption) rfl (by first | exact hL | rfl) ?_
      refine zv_iload_n (pc' := 44) dX7_letter_43 rfl rfl ?_
      refine zv_iastoreN (pc' := 45) dX7_letter_44 rfl (by first | rfl | assumption) (by decide) (by omega) ?_
      have hL1 : zup M 97 (sL s).1 (nI k) 90 13 = nI (sL s).1 := by rw [zup_ne (by decide)]; exact hL
      refine zv_aload_n (pc' := 46) dX7_letter_45 rfl rfl ?_
      refine zv_dup (pc' := 47) dX7_letter_46 rfl rfl ?_
      refine zv_getIE (pc' := 50) dX7_letter_47 rfl flX7_86 (by first | rfl | assumption) rfl (by first | exact hL1 | rfl) ?_
      refine zv_iconst (v := nI 1) (pc' := 51) dX7_letter_50 rfl (by decide) ?_
      refine zv_iadd (pc' := 52) dX7_letter_51 rfl ?_
      refine zv_top (nI_add _ _) ?_
      refine zv_putI (pc' := 55) dX7_letter_52 rfl flX7_86 pfX7_13 (by first | rfl | assumption) rfl rfl rfl ?_
      have hL2 : zup (zup M 97 (sL s).1 (nI k)) 90 13 (nI ((sL s).1 + 1)) 90 13 = nI ((sL s).1 + 1) := by rw [zup_eq, upd_s]
      refine zv_aload_n (pc' := 56) dX7_letter_55 rfl rfl ?_
      refine zv_getIE (pc' := 59) dX7_letter_56 rfl flX7_86 (by first | rfl | assumption) rfl (by first | exact hL2 | rfl) ?_
      refine zv_iret dX7_letter_59 rfl ?_
      refine zdonm (s' := (sC s, sI s, ((sL s).1 + 1, fu (sL s).2 (sL s).1 k), sR s, sW s)) (by rw [sp_letter, zans_0 h0', pN_nI (by omega)]) ?_ (fun q hq => by rw [zup_ne (by omega), zup_ne (by omega)])
      obtain ⟨h1, h2, h3, h4, h5, h6⟩ := hI
      have hs : zFr [97] [13] M (zup (zup M 97 (sL s).1 (nI k)) 90 13 (nI ((sL s).1 + 1))) := (zFr.up (by decide) (by decide)).tr (zFr.uf (by decide))
      refine ⟨h1.same hs (by simp; omega) (by simp), by rw [hs.2 _ (by decide)]; exact h2, ⟨by rw [hs.2 _ (by decide)]; exact h3.1, fun ci hc => (h3.2 ci hc).same (fun i _ _ => by rw [hs.1 _ (by decide) (by decide)])⟩, ⟨hL2, fun j hj => ?_⟩, by rw [hs.2 _ (by decide), hs.1 107 (by decide) (by decide)]; exact h5, by rw [hs.1 91 (by decide) (by decide)]; exact h6⟩
      have hj : j < (sL s).1 + 1 := hj
      show _ = nI (fu (sL s).2 (sL s).1 k j)
      rw [zup_ne (by omega), zup_eq]
      by_cases e : j = (sL s).1
      · rw [e, upd_s, fu_s]
      · rw [upd_n e, fu_n e]; exact h4.2 j (by omega)
    · intro h
      have h0 := mt (neg_w0 _ hw).mpr h
      refine zv_aload_n (pc' := 30) dX7_letter_29 rfl rfl ?_
      refine zv_iload_n (pc' := 31) dX7_letter_30 rfl rfl ?_
      refine zv_cV1_fi (pc' := 34) dX7_letter_31 rfl lkX7_89 (by first | rfl | assumption) rfl (Nat.le_of_ble_eq_true rfl) (x7_no hw) ?_
      rintro r M1 ⟨rfl, rfl⟩
      refine zv_iret dX7_letter_34 rfl ?_
      rw [sp_letter, ← hwe]
      exact zrefm hI h0
  refine zex_intro (L := [some (.ref 90), some (.int x), none]) (by decide) (Nat.le_of_ble_eq_true rfl) rfl ?_
  refine zv_iload_n (pc' := 1) dX7_letter_0 rfl rfl ?_
  refine zv_iconst (v := nI 0) (pc' := 2) dX7_letter_1 rfl (by decide) ?_
  refine zv_sipush (v := nI 255) (pc' := 5) dX7_letter_2 rfl (by decide) ?_
  refine zv_cS3_pi (pc' := 8) dX7_letter_5 rfl lkX7_82 (Nat.le_of_ble_eq_true rfl) (x7_bound) ?_
  refine zv_istore_n (pc' := 9) dX7_letter_8 rfl (by decide) ?_
  refine zv_iload_n (pc' := 10) dX7_letter_9 rfl rfl ?_
  refine zv_if_ne (pc' := 13) (tgt := 25) dX7_letter_10 rfl rfl ?_ ?_
  · intro h
    have h0 := mt (neg_w0 _ (bdN_lt (x := x) (lo := nI 0) (hi := nI 255))).mpr h
    exact fin _ bdN_lt (by rw [fiN, if_neg h0])
  · intro h
    have h0 := (neg_w0 _ (bdN_lt (x := x) (lo := nI 0) (hi := nI 255))).mp h
    refine zv_aload_n (pc' := 14) dX7_letter_13 rfl rfl ?_
    refine zv_getIE (pc' := 17) dX7_letter_14 rfl flX7_86 (by first | rfl | assumption) rfl (by first | exact hL | rfl) ?_
    refine zv_bipush (v := nI 96) (pc' := 19) dX7_letter_17 rfl (by decide) ?_
    refine zv_icmp_ne (pc' := 22) (tgt := 25) dX7_letter_19 rfl rfl ?_ ?_
    · intro h2
      have h2 := mt (nI_eq (a := (sL s).1) (b := 96) (by omega) (by omega)).mpr h2
      exact fin _ bdN_lt (by rw [fiN, if_pos h0, if_pos (if_neg (by omega)), h0])
    · intro h2
      have h2 := (nI_eq (by omega) (by omega)).mp h2
      refine zv_bipush (v := (-6 : Int32)) (pc' := 24) dX7_letter_22 rfl (by decide) ?_
      refine zv_istore_n (pc' := 25) dX7_letter_24 rfl (by decide) ?_
      exact fin 6 (by decide) (by rw [fiN, if_pos h0, show (if 96 ≤ (sL s).1 then 6 else 0) = 6 from if_pos (by omega)]; rfl)
theorem gm_row (x : Int32) : zGm mdX7_row (d + 1) [.int x] (sp_row x) := by
  intro M s hI hk
  have hl16 := hk.2.2.2.2.1
  have hL := hI.2.2.2.2.1.1
  have fin : ∀ w, w < 7 → w = fiN (bdN x (nI 0) (nI 99)) (if 16 ≤ (sR s).1 then 6 else 0) 0 → ZV mdX7_row (d + 1) (fun v M' => ∃ r, v = some (.int r) ∧ (r = (sp_row x s).1 ∧ zIm M' (sp_row x s).2 ∧ ∀ k, k < 90 → M' k = M k)) 24 [some (.ref 90), some (.int x), some (.int (-nI w))] [] M := by
    intro w hw hwe
    refine zv_iload_n (pc' := 25) dX7_row_24 rfl rfl ?_
    refine zv_if_eq (pc' := 28) (tgt := 34) dX7_row_25 rfl rfl ?_ ?_
    · intro h
      have h0 := (neg_w0 _ hw).mp h
      have h0' := h0
      rw [hwe] at h0'
      obtain ⟨g1, g2, -⟩ := fiN_0.mp h0'
      have hlt : (sR s).1 < 16 := by split at g2 <;> omega
      obtain ⟨k, -, hk2, rfl⟩ := isInB_of (by decide) (bdN_0.mp g1) (by decide)
      refine zv_aload_n (pc' := 35) dX7_row_34 rfl rfl ?_
      refine zv_getR (pc' := 38) dX7_row_35 rfl flX7_62 (by first | rfl | assumption) rfl ?_
      refine zv_aload_n (pc' := 39) dX7_row_38 rfl rfl ?_
      refine zv_getIE (pc' := 42) dX7_row_39 rfl flX7_297 (by first | rfl | assumption) rfl (by first | exact hL | rfl) ?_
      refine zv_iload_n (pc' := 43) dX7_row_42 rfl rfl ?_
      refine zv_iastoreN (pc' := 44) dX7_row_43 rfl (by first | rfl | assumption) (by decide) (by omega) ?_
      have hL1 : zup M 107 (sR s).1 (nI k) 90 26 = nI (sR s).1 := by rw [zup_ne (by decide)]; exact hL
      refine zv_aload_n (pc' := 45) dX7_row_44 rfl rfl ?_
      refine zv_dup (pc' := 46) dX7_row_45 rfl rfl ?_
      refine zv_getIE (pc' := 49) dX7_row_46 rfl flX7_297 (by first | rfl | assumption) rfl (by first | exact hL1 | rfl) ?_
      refine zv_iconst (v := nI 1) (pc' := 50) dX7_row_49 rfl (by decide) ?_
      refine zv_iadd (pc' := 51) dX7_row_50 rfl ?_
      refine zv_top (nI_add _ _) ?_
      refine zv_putI (pc' := 54) dX7_row_51 rfl flX7_297 pfX7_26 (by first | rfl | assumption) rfl rfl rfl ?_
      have hL2 : zup (zup M 107 (sR s).1 (nI k)) 90 26 (nI ((sR s).1 + 1)) 90 26 = nI ((sR s).1 + 1) := by rw [zup_eq, upd_s]
      refine zv_aload_n (pc' := 55) dX7_row_54 rfl rfl ?_
      refine zv_getIE (pc' := 58) dX7_row_55 rfl flX7_297 (by first | rfl | assumption) rfl (by first | exact hL2 | rfl) ?_
      refine zv_iret dX7_row_58 rfl ?_
      refine zdonm (s' := (sC s, sI s, sL s, ((sR s).1 + 1, fu (sR s).2 (sR s).1 k), sW s)) (by rw [sp_row, zans_0 h0', pN_nI (by omega)]) ?_ (fun q hq => by rw [zup_ne (by omega), zup_ne (by omega)])
      obtain ⟨h1, h2, h3, h4, h5, h6⟩ := hI
      have hs : zFr [107] [26] M (zup (zup M 107 (sR s).1 (nI k)) 90 26 (nI ((sR s).1 + 1))) := (zFr.up (by decide) (by decide)).tr (zFr.uf (by decide))
      refine ⟨h1.same hs (by simp; omega) (by simp), by rw [hs.2 _ (by decide)]; exact h2, ⟨by rw [hs.2 _ (by decide)]; exact h3.1, fun ci hc => (h3.2 ci hc).same (fun i _ _ => by rw [hs.1 _ (by decide) (by decide)])⟩, by rw [hs.2 _ (by decide), hs.1 97 (by decide) (by decide)]; exact h4, ⟨hL2, fun j hj => ?_⟩, by rw [hs.1 91 (by decide) (by decide)]; exact h6⟩
      have hj : j < (sR s).1 + 1 := hj
      show _ = nI (fu (sR s).2 (sR s).1 k j)
      rw [zup_ne (by omega), zup_eq]
      by_cases e : j = (sR s).1
      · rw [e, upd_s, fu_s]
      · rw [upd_n e, fu_n e]; exact h5.2 j (by omega)
    · intro h
      have h0 := mt (neg_w0 _ hw).mpr h
      refine zv_aload_n (pc' := 29) dX7_row_28 rfl rfl ?_
      refine zv_iload_n (pc' := 30) dX7_row_29 rfl rfl ?_
      refine zv_cV1_fi (pc' := 33) dX7_row_30 rfl lkX7_89 (by first | rfl | assumption) rfl (Nat.le_of_ble_eq_true rfl) (x7_no hw) ?_
      rintro r M1 ⟨rfl, rfl⟩
      refine zv_iret dX7_row_33 rfl ?_
      rw [sp_row, ← hwe]
      exact zrefm hI h0
  refine zex_intro (L := [some (.ref 90), some (.int x), none]) (by decide) (Nat.le_of_ble_eq_true rfl) rfl ?_
  refine zv_iload_n (pc' := 1) dX7_row_0 rfl rfl ?_
  refine zv_iconst (v := nI 0) (pc' := 2) dX7_row_1 rfl (by decide) ?_
  refine zv_bipush (v := nI 99) (pc' := 4) dX7_row_2 rfl (by decide) ?_
  refine zv_cS3_pi (pc' := 7) dX7_row_4 rfl lkX7_82 (Nat.le_of_ble_eq_true rfl) (x7_bound) ?_
  refine zv_istore_n (pc' := 8) dX7_row_7 rfl (by decide) ?_
  refine zv_iload_n (pc' := 9) dX7_row_8 rfl rfl ?_
  refine zv_if_ne (pc' := 12) (tgt := 24) dX7_row_9 rfl rfl ?_ ?_
  · intro h
    have h0 := mt (neg_w0 _ (bdN_lt (x := x) (lo := nI 0) (hi := nI 99))).mpr h
    exact fin _ bdN_lt (by rw [fiN, if_neg h0])
  · intro h
    have h0 := (neg_w0 _ (bdN_lt (x := x) (lo := nI 0) (hi := nI 99))).mp h
    refine zv_aload_n (pc' := 13) dX7_row_12 rfl rfl ?_
    refine zv_getIE (pc' := 16) dX7_row_13 rfl flX7_297 (by first | rfl | assumption) rfl (by first | exact hL | rfl) ?_
    refine zv_bipush (v := nI 16) (pc' := 18) dX7_row_16 rfl (by decide) ?_
    refine zv_icmp_ne (pc' := 21) (tgt := 24) dX7_row_18 rfl rfl ?_ ?_
    · intro h2
      have h2 := mt (nI_eq (a := (sR s).1) (b := 16) (by omega) (by omega)).mpr h2
      exact fin _ bdN_lt (by rw [fiN, if_pos h0, if_pos (if_neg (by omega)), h0])
    · intro h2
      have h2 := (nI_eq (by omega) (by omega)).mp h2
      refine zv_bipush (v := (-6 : Int32)) (pc' := 23) dX7_row_21 rfl (by decide) ?_
      refine zv_istore_n (pc' := 24) dX7_row_23 rfl (by decide) ?_
      exact fin 6 (by decide) (by rw [fiN, if_pos h0, show (if 16 ≤ (sR s).1 then 6 else 0) = 6 from if_pos (by omega)]; rfl)
theorem zIm.clr {M : ZMem} {s : ZS} (h : zIm M s) : zIm (zup M 90 26 (nI 0)) (sC s, sI s, sL s, (0, (sR s).2), sW s) := by
  obtain ⟨h1, h2, h3, h4, h5, h6⟩ := h
  have hs : zFr [] [26] M (zup M 90 26 (nI 0)) := zFr.uf (by decide)
  exact ⟨h1.same hs (by simp) (by simp), by rw [hs.2 _ (by decide)]; exact h2, ⟨by rw [hs.2 _ (by decide)]; exact h3.1, fun ci hc => (h3.2 ci hc).same (fun i _ _ => by rw [hs.1 _ (by decide) (by decide)])⟩, by rw [hs.2 _ (by decide), hs.1 97 (by decide) (by decide)]; exact h4, ⟨by rw [zup_eq, upd_s], fun j hj => absurd hj (Nat.not_lt_zero j)⟩, by rw [hs.1 91 (by decide) (by decide)]; exact h6⟩
theorem gm_clear : zGm mdX7_clear d [] sp_clear := by
  intro M s hI hk
  have hL := hI.2.2.2.2.1.1
  refine zex_intro (L := [some (.ref 90), none]) (by decide) (Nat.le_of_ble_eq_true rfl) rfl ?_
  refine zv_aload_n (pc' := 1) dX7_clear_0 rfl rfl ?_
  refine zv_getIE (pc' := 4) dX7_clear_1 rfl flX7_297 (by first | rfl | assumption) rfl (by first | exact hL | rfl) ?_
  refine zv_istore_n (pc' := 5) dX7_clear_4 rfl (by decide) ?_
  refine zv_aload_n (pc' := 6) dX7_clear_5 rfl rfl ?_
  refine zv_iconst (v := nI 0) (pc' := 7) dX7_clear_6 rfl (by decide) ?_
  refine zv_putI (pc' := 10) dX7_clear_7 rfl flX7_297 pfX7_26 (by first | rfl | assumption) rfl rfl rfl ?_
  refine zv_iload_n (pc' := 11) dX7_clear_10 rfl rfl ?_
  refine zv_iret dX7_clear_11 rfl ?_
  exact zdonm rfl hI.clr (fun k hk => zup_ne (by omega))
theorem gm_judge : zGm mdX7_judge d [] sp_judge := by
  intro M s hI hk
  have hL := hI.2.2.2.2.1.1
  have hr16 := hk.2.2.2.2.1
  have hr99 := hk.2.2.2.2.2
  have hn := hk.1.1
  have hM9 := hk.1.2.2.2.1
  have hI1 := hI.clr
  have hN : zup M 90 26 (nI 0) 90 6 = nI (yN (sC s)) := hI1.1.1
  have hM : ∀ j, j < 8 → zup M 90 26 (nI 0) 94 j = nI (yM (sC s) j) := hI1.1.2.2.2.2.1
  have hRv : ∀ j, j < (sR s).1 → zup M 90 26 (nI 0) 107 j = nI ((sR s).2 j) := fun j hj => by rw [zup_ne (by decide)]; exact hI.2.2.2.2.1.2 j hj
  have fin : ∀ x : Int32, x = (sp_judge s).1 → ∃ r, some (Value.int x) = some (Value.int r) ∧ (r = (sp_judge s).1 ∧ zIm (zup M 90 26 (nI 0)) (sp_judge s).2 ∧ ∀ k, k < 90 → zup M 90 26 (nI 0) k = M k) := fun x hx => ⟨x, rfl, hx, hI1, fun k hk => zup_ne (by omega)⟩
  have lp : ∀ r k, k + r = (sR s).1 → zfst r k (fun k => !(decide (k < yN (sC s)) && decide (yM (sC s) k = (sR s).2 k))) = zfst (sR s).1 0 (fun k => !(decide (k < yN (sC s)) && decide (yM (sC s) k = (sR s).2 k))) → ZV mdX7_judge d (fun v M' => ∃ r, v = some (.int r) ∧ (r = (sp_judge s).1 ∧ zIm M' (sp_judge s).2 ∧ ∀ k, k < 90 → M' k = M k)) 12 [some (.ref 90), some (.int (nI (sR s).1)), some (.int (nI k))] [] (zup M 90 26 (nI 0)) := by
    intro r
    induction r with
    | zero =>
      intro k e hz
      have e : k = (sR s).1 := by omega
      subst e
      refine zv_iload_n (pc' := 13) dX7_judge_12 rfl rfl ?_
      refine zv_iload_n (pc' := 14) dX7_judge_13 rfl rfl ?_
      refine zv_icmp_ge (pc' := 17) (tgt := 48) dX7_judge_14 rfl rfl (fun _ => ?_) (fun hcc => absurd (Int32.le_refl _) hcc)
      refine zv_bipush (v := (-9 : Int32)) (pc' := 50) dX7_judge_48 rfl (by decide) ?_
      refine zv_iret dX7_judge_50 rfl ?_
      exact fin _ (by rw [sp_judge, ← hz]; rfl)
    | succ r ih =>
      intro k e hz
      have bad : (!(decide (k < yN (sC s)) && decide (yM (sC s) k = (sR s).2 k))) = true → ZV mdX7_judge d (fun v M' => ∃ r, v = some (.int r) ∧ (r = (sp_judge s).1 ∧ zIm M' (sp_judge s).2 ∧ ∀ k, k < 90 → M' k = M k)) 40 [some (.ref 90), some (.int (nI (sR s).1)), some (.int (nI k))] [] (zup M 90 26 (nI 0)) := by
        intro hb
        refine zv_iload_n (pc' := 41) dX7_judge_40 rfl rfl ?_
        refine zv_iret dX7_judge_41 rfl ?_
        exact fin _ (by rw [sp_judge, ← hz, zfst, if_pos hb]; rfl)
      refine zv_iload_n (pc' := 13) dX7_judge_12 rfl rfl ?_
      refine zv_iload_n (pc' := 14) dX7_judge_13 rfl rfl ?_
      refine zv_icmp_ge (pc' := 17) (tgt := 48) dX7_judge_14 rfl rfl (fun hcc => absurd hcc (nI_ge (by omega) (by omega))) (fun _ => ?_)
      refine zv_iload_n (pc' := 18) dX7_judge_17 rfl rfl ?_
      refine zv_aload_n (pc' := 19) dX7_judge_18 rfl rfl ?_
      refine zv_getIE (pc' := 22) dX7_judge_19 rfl flX7_65 (by first | rfl | assumption) rfl (by first | exact hN | exact hM _ (by omega) | exact hRv _ (by omega) | rfl) ?_
      refine zv_icmp_ge (pc' := 25) (tgt := 40) dX7_judge_22 rfl rfl ?_ ?_
      · intro h
        have h := (nI_leI (by omega) (by omega)).mp h
        exact bad (by simp; omega)
      · intro h
        have h := mt (nI_leI (a := yN (sC s)) (b := k) (by omega) (by omega)).mpr h
        refine zv_aload_n (pc' := 26) dX7_judge_25 rfl rfl ?_
        refine zv_getR (pc' := 29) dX7_judge_26 rfl flX7_19 (by first | rfl | assumption) rfl ?_
        refine zv_iload_n (pc' := 30) dX7_judge_29 rfl rfl ?_
        refine zv_ialoadE (pc' := 31) dX7_judge_30 rfl (by first | rfl | assumption) (by decide) (by omega) (by first | exact hN | exact hM _ (by omega) | exact hRv _ (by omega) | rfl) ?_
        refine zv_aload_n (pc' := 32) dX7_judge_31 rfl rfl ?_
        refine zv_getR (pc' := 35) dX7_judge_32 rfl flX7_62 (by first | rfl | assumption) rfl ?_
        refine zv_iload_n (pc' := 36) dX7_judge_35 rfl rfl ?_
        refine zv_ialoadE (pc' := 37) dX7_judge_36 rfl (by first | rfl | assumption) (by decide) (by omega) (by first | exact hN | exact hM _ (by omega) | exact hRv _ (by omega) | rfl) ?_
        have q1 := hM9 k
        have q2 := hr99 k
        refine zv_icmp_eq (pc' := 40) (tgt := 42) dX7_judge_37 rfl rfl ?_ ?_
        · intro h2
          have h2 := (nI_eq (by omega) (by omega)).mp h2
          refine zv_iinc (w := nI 1) (pc' := 45) dX7_judge_42 rfl rfl (by decide) (by decide) ?_
          refine zv_goto (pc' := 12) dX7_judge_45 rfl ?_
          rw [nI_add]
          refine ih (k + 1) (by omega) ?_
          rw [← hz, zfst, if_neg (by simp [h2]; omega)]
        · intro h2
          have h2 := mt (nI_eq (a := yM (sC s) k) (b := (sR s).2 k) (by omega) (by omega)).mpr h2
          exact bad (by simp [h2])
  refine zex_intro (L := [some (.ref 90), none, none]) (by decide) (Nat.le_of_ble_eq_true rfl) rfl ?_
  refine zv_aload_n (pc' := 1) dX7_judge_0 rfl rfl ?_
  refine zv_getIE (pc' := 4) dX7_judge_1 rfl flX7_297 (by first | rfl | assumption) rfl (by first | exact hL | rfl) ?_
  refine zv_istore_n (pc' := 5) dX7_judge_4 rfl (by decide) ?_
  refine zv_aload_n (pc' := 6) dX7_judge_5 rfl rfl ?_
  refine zv_iconst (v := nI 0) (pc' := 7) dX7_judge_6 rfl (by decide) ?_
  refine zv_putI (pc' := 10) dX7_judge_7 rfl flX7_297 pfX7_26 (by first | rfl | assumption) rfl rfl rfl ?_
  refine zv_iconst (v := nI 0) (pc' := 11) dX7_judge_10 rfl (by decide) ?_
  refine zv_istore_n (pc' := 12) dX7_judge_11 rfl (by decide) ?_
  exact lp (sR s).1 0 (by omega) rfl
theorem gm_image : zGm mdX7_image (d + 2) [] sp_image := by
  intro M s hI hk
  refine zex_intro (L := [some (.ref 90)]) (by decide) (Nat.le_of_ble_eq_true rfl) rfl ?_
  refine zv_aload_n (pc' := 1) dX7_image_0 rfl rfl ?_
  refine zv_iconst (v := nI 1) (pc' := 2) dX7_image_1 rfl (by decide) ?_
  refine zv_putI (pc' := 5) dX7_image_2 rfl flX7_168 pfX7_17 (by first | rfl | assumption) rfl (by first | rfl | exact zb_nar _) (by first | rfl | exact zb_fit _) ?_
  refine zv_aload_n (pc' := 6) dX7_image_5 rfl rfl ?_
  refine zv_iconst (v := nI 0) (pc' := 7) dX7_image_6 rfl (by decide) ?_
  refine zv_iconst (v := nI 1) (pc' := 8) dX7_image_7 rfl (by decide) ?_
  have s0 : zFr [] [17] M (zup M 90 17 (nI 1)) := zFr.uf (by decide)
  refine zv_cV2_fv (pc' := 11) dX7_image_8 rfl lkX7_147 (by first | rfl | assumption) rfl (Nat.le_of_ble_eq_true rfl) (x7_keepAll (w := 0) (hI.1.same s0 (by simp) (by simp)) (by decide)) ?_
  rintro M1 ⟨h1, h2, h3, h4⟩
  have hY := h2.2.1
  refine zv_aload_n (pc' := 12) dX7_image_11 rfl rfl ?_
  refine zv_getIE (pc' := 15) dX7_image_12 rfl flX7_126 (by first | rfl | assumption) rfl (by first | exact hY | rfl) ?_
  refine zv_iret dX7_image_15 rfl ?_
  have s1 : zFr [101] [6, 7, 17, 18, 19] M M1 := (s0.mono (by simp) (by simp)).tr (h4.mono (by simp) (by simp))
  refine zdonm rfl ?_ (s1.lt (by simp))
  obtain ⟨g1, g2, g3, g4, g5, g6⟩ := hI
  refine ⟨h2, by rw [s1.2 _ (by decide)]; exact g2, ⟨by rw [h4.2 _ (by decide), zup_eq, upd_s]; rfl, fun ci hc => ?_⟩, by rw [s1.2 _ (by decide), s1.1 97 (by decide) (by decide)]; exact g4, by rw [s1.2 _ (by decide), s1.1 107 (by decide) (by decide)]; exact g5, by rw [s1.1 91 (by decide) (by decide)]; exact g6⟩
  have hc : some (sC s) = some ci := hc
  rw [← Option.some.inj hc]
  exact h1
theorem gm_on : zGm mdX7_on (d + 2) [] sp_on := by
  intro M s hI hk
  have hX := hI.2.2.1.1
  refine zex_intro (L := [some (.ref 90)]) (by decide) (Nat.le_of_ble_eq_true rfl) rfl ?_
  refine zv_aload_n (pc' := 1) dX7_on_0 rfl rfl ?_
  refine zv_getIE (pc' := 4) dX7_on_1 rfl flX7_168 (by first | rfl | assumption) rfl (by first | exact hX | rfl) ?_
  cases hs : sI s with
  | none =>
    refine zv_if_ne (pc' := 7) (tgt := 14) dX7_on_4 rfl rfl (fun hcc => absurd (rfl) hcc) (fun _ => ?_)
    refine zv_aload_n (pc' := 8) dX7_on_7 rfl rfl ?_
    refine zv_bipush (v := (-3 : Int32)) (pc' := 10) dX7_on_8 rfl (by decide) ?_
    refine zv_top (show (-3 : Int32) = -nI 3 by decide) ?_
    refine zv_cV1_fi (pc' := 13) dX7_on_10 rfl lkX7_89 (by first | rfl | assumption) rfl (Nat.le_of_ble_eq_true rfl) (x7_no (by decide)) ?_
    rintro r M1 ⟨rfl, rfl⟩
    refine zv_iret dX7_on_13 rfl ?_
    have h := zrefm (w := 3) (s' := s) (v := 0) hI (by decide)
    have e : sp_on s = zans 3 s 0 s := by
      have : sp_on s = (match sI s with | none => (-nI 3, refS s 3) | some ci => (nI (yY ci), (ci, s.2))) := rfl
      rw [this, hs]; rfl
    rw [e]
    exact h
  | some ci =>
    refine zv_if_ne (pc' := 7) (tgt := 14) dX7_on_4 rfl rfl (fun _ => ?_) (fun hcc => absurd hcc (show ¬ zb true = 0 from by decide))
    refine zv_aload_n (pc' := 15) dX7_on_14 rfl rfl ?_
    refine zv_iconst (v := nI 0) (pc' := 16) dX7_on_15 rfl (by decide) ?_
    refine zv_iconst (v := nI 0) (pc' := 17) dX7_on_16 rfl (by decide) ?_
    have hA7 := hI.2.2.1.2 ci hs
    refine zv_cV2_fv (pc' := 20) dX7_on_17 rfl lkX7_147 (by first | rfl | assumption) rfl (Nat.le_of_ble_eq_true rfl) (x7_backAll (w := 0) hA7 (by decide)) ?_
    rintro M1 ⟨h1, h2⟩
    have hY := h1.2.1
    refine zv_aload_n (pc' := 21) dX7_on_20 rfl rfl ?_
    refine zv_getIE (pc' := 24) dX7_on_21 rfl flX7_126 (by first | rfl | assumption) rfl (by first | exact hY | rfl) ?_
    refine zv_iret dX7_on_24 rfl ?_
    have e : sp_on s = (nI (yY ci), (ci, s.2)) := by
      have : sp_on s = (match sI s with | none => (-nI 3, refS s 3) | some ci => (nI (yY ci), (ci, s.2))) := rfl
      rw [this, hs]
    exact zdonm e (hI.frm h1 h2 (by simp) (by simp) (fun i _ => by rw [h2.1 101 (by decide) (by decide)])) (h2.lt (by simp))
theorem gm_person (x y : Int32) : zGm mdX7_person (d + 3) [.int x, .int y] (sp_person x y) := by
  intro M s hI hk
  have hn := hk.1.1
  have hA := hI.1
  obtain ⟨hN, hY, hK, hF, hM, hS, hX⟩ := hI.1
  have ref : ∀ w, w < 7 → w ≠ 0 → w = fiN (nbN (yN (sC s)) x) (otN y 4) 0 → ∃ r, some (Value.int (-nI w)) = some (Value.int r) ∧ (r = (sp_person x y s).1 ∧ zIm (zup M 91 w (M 91 w + 1)) (sp_person x y s).2 ∧ ∀ k, k < 90 → zup M 91 w (M 91 w + 1) k = M k) := by
    intro w hw h0 e
    rw [sp_person, ← e]
    exact zrefm hI h0
  refine zex_intro (L := [some (.ref 90), some (.int x), some (.int y)]) (by decide) (Nat.le_of_ble_eq_true rfl) rfl ?_
  refine zv_aload_n (pc' := 1) dX7_person_0 rfl rfl ?_
  refine zv_iload_n (pc' := 2) dX7_person_1 rfl rfl ?_
  refine zv_cV1_pi (pc' := 5) dX7_person_2 rfl lkX7_71 (by first | rfl | assumption) rfl (Nat.le_of_ble_eq_true rfl) (x7_isOne hN) ?_
  refine zv_if_ne (pc' := 8) (tgt := 14) dX7_person_5 rfl rfl ?_ ?_
  · intro h
    have h := zb_ne.mp h
    have g1 := nbN_0.mpr h
    obtain ⟨p, hp, rfl⟩ := hasB_of hn h
    refine zv_iload_n (pc' := 15) dX7_person_14 rfl rfl ?_
    by_cases h4 : isInB y (nI 0) (nI 4) = true
    · have g2 := otN_0.mpr h4
      have h0 : fiN (nbN (yN (sC s)) (nI p)) (otN y 4) 0 = 0 := fiN_0.mpr ⟨g1, g2, rfl⟩
      obtain ⟨k, -, hk2, rfl⟩ := isInB_of (by decide) h4 (by decide)
      have fin : ∀ v : Int32, v = perV (sC s) p k → ∃ r, some (Value.int v) = some (Value.int r) ∧ (r = (sp_person (nI p) (nI k) s).1 ∧ zIm M (sp_person (nI p) (nI k) s).2 ∧ ∀ k, k < 90 → M k = M k) := fun v hv => zdonm (by rw [sp_person, zans_0 h0, pN_nI (by omega), pN_nI (by omega), hv]) hI (fun _ _ => rfl)
      rcases (show k = 0 ∨ k = 1 ∨ k = 2 ∨ k = 3 ∨ k = 4 by omega) with rfl | rfl | rfl | rfl | rfl
      · refine zv_tableIn (pc' := 48) (off := 33) dX7_person_15 (by decide) (by decide) (by decide) rfl ?_
        refine zv_aload_n (pc' := 49) dX7_person_48 rfl rfl ?_
        refine zv_getR (pc' := 52) dX7_person_49 rfl flX7_13 (by first | rfl | assumption) rfl ?_
        refine zv_iload_n (pc' := 53) dX7_person_52 rfl rfl ?_
        refine zv_ialoadE (pc' := 54) dX7_person_53 rfl (by first | rfl | assumption) (by decide) (by omega) (by first | exact hN | exact hY | exact hM _ (by omega) | exact hS _ (by omega) | exact hX _ (by omega) | exact hK _ (by omega) | exact hF _ (by omega) | rfl) ?_
        refine zv_iret dX7_person_54 rfl ?_
        exact fin _ rfl
      · refine zv_tableIn (pc' := 55) (off := 40) dX7_person_15 (by decide) (by decide) (by decide) rfl ?_
        refine zv_aload_n (pc' := 56) dX7_person_55 rfl rfl ?_
        refine zv_getR (pc' := 59) dX7_person_56 rfl flX7_16 (by first | rfl | assumption) rfl ?_
        refine zv_iload_n (pc' := 60) dX7_person_59 rfl rfl ?_
        refine zv_ialoadE (pc' := 61) dX7_person_60 rfl (by first | rfl | assumption) (by decide) (by omega) (by first | exact hN | exact hY | exact hM _ (by omega) | exact hS _ (by omega) | exact hX _ (by omega) | exact hK _ (by omega) | exact hF _ (by omega) | rfl) ?_
        refine zv_iret dX7_person_61 rfl ?_
        exact fin _ rfl
      · refine zv_tableIn (pc' := 62) (off := 47) dX7_person_15 (by decide) (by decide) (by decide) rfl ?_
        refine zv_aload_n (pc' := 63) dX7_person_62 rfl rfl ?_
        refine zv_getR (pc' := 66) dX7_person_63 rfl flX7_19 (by first | rfl | assumption) rfl ?_
        refine zv_iload_n (pc' := 67) dX7_person_66 rfl rfl ?_
        refine zv_ialoadE (pc' := 68) dX7_person_67 rfl (by first | rfl | assumption) (by decide) (by omega) (by first | exact hN | exact hY | exact hM _ (by omega) | exact hS _ (by omega) | exact hX _ (by omega) | exact hK _ (by omega) | exact hF _ (by omega) | rfl) ?_
        refine zv_iret dX7_person_68 rfl ?_
        exact fin _ rfl
      · refine zv_tableIn (pc' := 69) (off := 54) dX7_person_15 (by decide) (by decide) (by decide) rfl ?_
        refine zv_aload_n (pc' := 70) dX7_person_69 rfl rfl ?_
        refine zv_iload_n (pc' := 71) dX7_person_70 rfl rfl ?_
        refine zv_cV1_pi (pc' := 74) dX7_person_71 rfl lkX7_181 (by first | rfl | assumption) rfl (Nat.le_of_ble_eq_true rfl) (x7_kinOf hA hk.1 hp) ?_
        refine zv_cS1_pi (pc' := 77) dX7_person_74 rfl lkX7_184 (Nat.le_of_ble_eq_true rfl) (x7_bitsM) ?_
        refine zv_iret dX7_person_77 rfl ?_
        exact fin _ rfl
      · refine zv_tableIn (pc' := 78) (off := 63) dX7_person_15 (by decide) (by decide) (by decide) rfl ?_
        refine zv_aload_n (pc' := 79) dX7_person_78 rfl rfl ?_
        refine zv_getR (pc' := 82) dX7_person_79 rfl flX7_22 (by first | rfl | assumption) rfl ?_
        refine zv_iload_n (pc' := 83) dX7_person_82 rfl rfl ?_
        refine zv_ialoadE (pc' := 84) dX7_person_83 rfl (by first | rfl | assumption) (by decide) (by omega) (by first | exact hN | exact hY | exact hM _ (by omega) | exact hS _ (by omega) | exact hX _ (by omega) | exact hK _ (by omega) | exact hF _ (by omega) | rfl) ?_
        refine zv_cS1_pi (pc' := 87) dX7_person_84 rfl lkX7_184 (Nat.le_of_ble_eq_true rfl) (x7_bitsM) ?_
        refine zv_iret dX7_person_87 rfl ?_
        exact fin _ rfl
    · have h4 : isInB y (nI 0) (nI 4) = false := by simpa using h4
      refine zv_tableOut (pc' := 88) dX7_person_15 (toInt_out (a := 0) (b := 4) (by decide) (by decide) h4) rfl ?_
      refine zv_aload_n (pc' := 89) dX7_person_88 rfl rfl ?_
      refine zv_bipush (v := (-2 : Int32)) (pc' := 91) dX7_person_89 rfl (by decide) ?_
      refine zv_top (show (-2 : Int32) = -nI 2 by decide) ?_
      refine zv_cV1_fi (pc' := 94) dX7_person_91 rfl lkX7_89 (by first | rfl | assumption) rfl (Nat.le_of_ble_eq_true rfl) (x7_no (by decide)) ?_
      rintro r M1 ⟨rfl, rfl⟩
      refine zv_iret dX7_person_94 rfl ?_
      exact ref 2 (by decide) (by decide) (by rw [fiN, if_pos g1, show otN y 4 = 2 by rw [otN, if_neg (by rw [h4]; decide)]]; rfl)
  · intro h
    have h := zb_0.mp h
    refine zv_aload_n (pc' := 9) dX7_person_8 rfl rfl ?_
    refine zv_iconst (v := (-1 : Int32)) (pc' := 10) dX7_person_9 rfl (by decide) ?_
    refine zv_top (show (-1 : Int32) = -nI 1 by decide) ?_
    refine zv_cV1_fi (pc' := 13) dX7_person_10 rfl lkX7_89 (by first | rfl | assumption) rfl (Nat.le_of_ble_eq_true rfl) (x7_no (by decide)) ?_
    rintro r M1 ⟨rfl, rfl⟩
    refine zv_iret dX7_person_13 rfl ?_
    exact ref 1 (by decide) (by decide) (by rw [nbN, if_neg (by rw [h]; decide)]; rfl)
theorem gm_tie (x y z : Int32) : zGm mdX7_tie (d + 2) [.int x, .int y, .int z] (sp_tie x y z) := by
  intro M s hI hk
  have hn := hk.1.1
  have hA := hI.1
  obtain ⟨hN, hY, hK, hF, hM, hS, hX⟩ := hI.1
  have ref : ∀ w, w < 7 → w ≠ 0 → w = fiN (twN (yN (sC s)) x y) (otN z 3) 0 → ∃ r, some (Value.int (-nI w)) = some (Value.int r) ∧ (r = (sp_tie x y z s).1 ∧ zIm (zup M 91 w (M 91 w + 1)) (sp_tie x y z s).2 ∧ ∀ k, k < 90 → zup M 91 w (M 91 w + 1) k = M k) := by
    intro w hw h0 e
    rw [sp_tie, ← e]
    exact zrefm hI h0
  refine zex_intro (L := [some (.ref 90), some (.int x), some (.int y), some (.int z)]) (by decide) (Nat.le_of_ble_eq_true rfl) rfl ?_
  refine zv_aload_n (pc' := 1) dX7_tie_0 rfl rfl ?_
  refine zv_iload_n (pc' := 2) dX7_tie_1 rfl rfl ?_
  refine zv_iload_n (pc' := 3) dX7_tie_2 rfl rfl ?_
  refine zv_cV2_pi (pc' := 6) dX7_tie_3 rfl lkX7_119 (by first | rfl | assumption) rfl (Nat.le_of_ble_eq_true rfl) (x7_areTwo hN) ?_
  refine zv_if_ne (pc' := 9) (tgt := 15) dX7_tie_6 rfl rfl ?_ ?_
  · intro h
    have h := zb_ne.mp h
    have g1 := twN_0.mpr h
    obtain ⟨p, q, hp, hq, hpq, rfl, rfl⟩ := twoB_of hn h
    refine zv_iload_n (pc' := 16) dX7_tie_15 rfl rfl ?_
    by_cases h4 : isInB z (nI 0) (nI 3) = true
    · have g2 := otN_0.mpr h4
      have h0 : fiN (twN (yN (sC s)) (nI p) (nI q)) (otN z 3) 0 = 0 := fiN_0.mpr ⟨g1, g2, rfl⟩
      obtain ⟨k, -, hk2, rfl⟩ := isInB_of (by decide) h4 (by decide)
      have fin : ∀ v : Int32, v = tieV (sC s) p q k → ∃ r, some (Value.int v) = some (Value.int r) ∧ (r = (sp_tie (nI p) (nI q) (nI k) s).1 ∧ zIm M (sp_tie (nI p) (nI q) (nI k) s).2 ∧ ∀ k, k < 90 → M k = M k) := fun v hv => zdonm (by rw [sp_tie, zans_0 h0, pN_nI (by omega), pN_nI (by omega), pN_nI (by omega), hv]) hI (fun _ _ => rfl)
      rcases (show k = 0 ∨ k = 1 ∨ k = 2 ∨ k = 3 by omega) with rfl | rfl | rfl | rfl
      · refine zv_tableIn (pc' := 48) (off := 32) dX7_tie_16 (by decide) (by decide) (by decide) rfl ?_
        refine zv_aload_n (pc' := 49) dX7_tie_48 rfl rfl ?_
        refine zv_getR (pc' := 52) dX7_tie_49 rfl flX7_22 (by first | rfl | assumption) rfl ?_
        refine zv_iload_n (pc' := 53) dX7_tie_52 rfl rfl ?_
        refine zv_ialoadE (pc' := 54) dX7_tie_53 rfl (by first | rfl | assumption) (by decide) (by omega) (by first | exact hN | exact hY | exact hM _ (by omega) | exact hS _ (by omega) | exact hX _ (by omega) | exact hK _ (by omega) | exact hF _ (by omega) | rfl) ?_
        refine zv_iload_n (pc' := 55) dX7_tie_54 rfl rfl ?_
        refine zv_ishr (pc' := 56) dX7_tie_55 rfl ?_
        refine zv_iconst (v := nI 1) (pc' := 57) dX7_tie_56 rfl (by decide) ?_
        refine zv_iand (pc' := 58) dX7_tie_57 rfl ?_
        refine zv_top (mk_tst (by omega)) ?_
        refine zv_iret dX7_tie_58 rfl ?_
        exact fin _ rfl
      · refine zv_tableIn (pc' := 59) (off := 43) dX7_tie_16 (by decide) (by decide) (by decide) rfl ?_
        refine zv_aload_n (pc' := 60) dX7_tie_59 rfl rfl ?_
        refine zv_getR (pc' := 63) dX7_tie_60 rfl flX7_25 (by first | rfl | assumption) rfl ?_
        refine zv_iload_n (pc' := 64) dX7_tie_63 rfl rfl ?_
        refine zv_ialoadE (pc' := 65) dX7_tie_64 rfl (by first | rfl | assumption) (by decide) (by omega) (by first | exact hN | exact hY | exact hM _ (by omega) | exact hS _ (by omega) | exact hX _ (by omega) | exact hK _ (by omega) | exact hF _ (by omega) | rfl) ?_
        refine zv_iload_n (pc' := 66) dX7_tie_65 rfl rfl ?_
        refine zv_ishr (pc' := 67) dX7_tie_66 rfl ?_
        refine zv_iconst (v := nI 1) (pc' := 68) dX7_tie_67 rfl (by decide) ?_
        refine zv_iand (pc' := 69) dX7_tie_68 rfl ?_
        refine zv_top (mk_tst (by omega)) ?_
        refine zv_iret dX7_tie_69 rfl ?_
        exact fin _ rfl
      · refine zv_tableIn (pc' := 70) (off := 54) dX7_tie_16 (by decide) (by decide) (by decide) rfl ?_
        refine zv_aload_n (pc' := 71) dX7_tie_70 rfl rfl ?_
        refine zv_iload_n (pc' := 72) dX7_tie_71 rfl rfl ?_
        refine zv_iload_n (pc' := 73) dX7_tie_72 rfl rfl ?_
        refine zv_cV2_pi (pc' := 76) dX7_tie_73 rfl lkX7_79 (by first | rfl | assumption) rfl (Nat.le_of_ble_eq_true rfl) (x7_isKin hA hk.1 hp hq) ?_
        refine zv_if_eq (pc' := 79) (tgt := 83) dX7_tie_76 rfl rfl ?_ ?_
        · intro hb
          refine zv_iconst (v := nI 0) (pc' := 84) dX7_tie_83 rfl (by decide) ?_
          refine zv_iret dX7_tie_84 rfl ?_
          exact fin _ (by show _ = zb (kinB (sC s) p q); rw [zb_0.mp hb]; rfl)
        · intro hb
          refine zv_iconst (v := nI 1) (pc' := 80) dX7_tie_79 rfl (by decide) ?_
          refine zv_goto (pc' := 84) dX7_tie_80 rfl ?_
          refine zv_iret dX7_tie_84 rfl ?_
          exact fin _ (by show _ = zb (kinB (sC s) p q); rw [zb_ne.mp hb]; rfl)
      · refine zv_tableIn (pc' := 85) (off := 69) dX7_tie_16 (by decide) (by decide) (by decide) rfl ?_
        refine zv_aload_n (pc' := 86) dX7_tie_85 rfl rfl ?_
        refine zv_iload_n (pc' := 87) dX7_tie_86 rfl rfl ?_
        refine zv_iload_n (pc' := 88) dX7_tie_87 rfl rfl ?_
        refine zv_cV2_pi (pc' := 91) dX7_tie_88 rfl lkX7_171 (by first | rfl | assumption) rfl (Nat.le_of_ble_eq_true rfl) (x7_paysOf hA hk.1 hp hq) ?_
        refine zv_iret dX7_tie_91 rfl ?_
        exact fin _ rfl
    · have h4 : isInB z (nI 0) (nI 3) = false := by simpa using h4
      refine zv_tableOut (pc' := 92) dX7_tie_16 (toInt_out (a := 0) (b := 3) (by decide) (by decide) h4) rfl ?_
      refine zv_aload_n (pc' := 93) dX7_tie_92 rfl rfl ?_
      refine zv_bipush (v := (-2 : Int32)) (pc' := 95) dX7_tie_93 rfl (by decide) ?_
      refine zv_top (show (-2 : Int32) = -nI 2 by decide) ?_
      refine zv_cV1_fi (pc' := 98) dX7_tie_95 rfl lkX7_89 (by first | rfl | assumption) rfl (Nat.le_of_ble_eq_true rfl) (x7_no (by decide)) ?_
      rintro r M1 ⟨rfl, rfl⟩
      refine zv_iret dX7_tie_98 rfl ?_
      exact ref 2 (by decide) (by decide) (by rw [fiN, if_pos g1, show otN z 3 = 2 by rw [otN, if_neg (by rw [h4]; decide)]]; rfl)
  · intro h
    have h := zb_0.mp h
    refine zv_aload_n (pc' := 10) dX7_tie_9 rfl rfl ?_
    refine zv_iconst (v := (-1 : Int32)) (pc' := 11) dX7_tie_10 rfl (by decide) ?_
    refine zv_top (show (-1 : Int32) = -nI 1 by decide) ?_
    refine zv_cV1_fi (pc' := 14) dX7_tie_11 rfl lkX7_89 (by first | rfl | assumption) rfl (Nat.le_of_ble_eq_true rfl) (x7_no (by decide)) ?_
    rintro r M1 ⟨rfl, rfl⟩
    refine zv_iret dX7_tie_14 rfl ?_
    exact ref 1 (by decide) (by decide) (by rw [twN, if_neg (by rw [h]; decide)]; rfl)
theorem fu_xor {f : Nat → Bool} {q : Nat} : (fun j => f j ^^ decide (j = q)) = fu f q (!f q) := by
  funext j
  by_cases e : j = q
  · subst e; simp [fu]
  · simp [fu, e]
theorem gm_signs (x y : Int32) : zGm mdX7_signs (d + 2) [.int x, .int y] (sp_signs x y) := by
  intro M s hI hk
  have hn := hk.1.1
  have hA := hI.1
  obtain ⟨hN, hY, hK, hF, hM, hS, hX⟩ := hI.1
  refine zex_intro (L := [some (.ref 90), some (.int x), some (.int y)]) (by decide) (Nat.le_of_ble_eq_true rfl) rfl ?_
  refine zv_aload_n (pc' := 1) dX7_signs_0 rfl rfl ?_
  refine zv_iload_n (pc' := 2) dX7_signs_1 rfl rfl ?_
  refine zv_iload_n (pc' := 3) dX7_signs_2 rfl rfl ?_
  refine zv_cV2_pi (pc' := 6) dX7_signs_3 rfl lkX7_119 (by first | rfl | assumption) rfl (Nat.le_of_ble_eq_true rfl) (x7_areTwo hN) ?_
  refine zv_if_ne (pc' := 9) (tgt := 15) dX7_signs_6 rfl rfl ?_ ?_
  · intro h
    have h := zb_ne.mp h
    have g1 := twN_0.mpr h
    obtain ⟨p, q, hp, hq, hpq, rfl, rfl⟩ := twoB_of hn h
    refine zv_aload_n (pc' := 16) dX7_signs_15 rfl rfl ?_
    refine zv_getR (pc' := 19) dX7_signs_16 rfl flX7_22 (by first | rfl | assumption) rfl ?_
    refine zv_iload_n (pc' := 20) dX7_signs_19 rfl rfl ?_
    refine zv_dup2 (pc' := 21) dX7_signs_20 rfl rfl rfl ?_
    refine zv_ialoadE (pc' := 22) dX7_signs_21 rfl (by first | rfl | assumption) (by decide) (by omega) (by first | exact hN | exact hY | exact hM _ (by omega) | exact hS _ (by omega) | exact hX _ (by omega) | exact hK _ (by omega) | exact hF _ (by omega) | rfl) ?_
    refine zv_iconst (v := nI 1) (pc' := 23) dX7_signs_22 rfl (by decide) ?_
    refine zv_iload_n (pc' := 24) dX7_signs_23 rfl rfl ?_
    refine zv_ishl (pc' := 25) dX7_signs_24 rfl ?_
    refine zv_top (zsh1 q (by omega)) ?_
    refine zv_ixor (pc' := 26) dX7_signs_25 rfl ?_
    refine zv_top (mk_xor1 (by omega)) ?_
    rw [fu_xor]
    refine zv_iastoreN (pc' := 27) dX7_signs_26 rfl (by first | rfl | assumption) (by decide) (by omega) ?_
    have h1 : zAm (zup M 95 p (nI (zm 8 (fu (yS (sC s) p) q (!yS (sC s) p q))))) (signC (sC s) p q (!yS (sC s) p q)) := zAm_S hA
    have hs1 : zFr [95] [] M (zup M 95 p (nI (zm 8 (fu (yS (sC s) p) q (!yS (sC s) p q))))) := zFr.up (by decide) (by decide)
    generalize zup M 95 p (nI (zm 8 (fu (yS (sC s) p) q (!yS (sC s) p q)))) = M1 at h1 hs1 ⊢
    have hS := h1.2.2.2.2.2.1
    refine zv_aload_n (pc' := 28) dX7_signs_27 rfl rfl ?_
    refine zv_getR (pc' := 31) dX7_signs_28 rfl flX7_22 (by first | rfl | assumption) rfl ?_
    refine zv_iload_n (pc' := 32) dX7_signs_31 rfl rfl ?_
    refine zv_ialoadE (pc' := 33) dX7_signs_32 rfl (by first | rfl | assumption) (by decide) (by omega) (by first | exact hN | exact hY | exact hM _ (by omega) | exact hS _ (by omega) | exact hX _ (by omega) | exact hK _ (by omega) | exact hF _ (by omega) | rfl) ?_
    refine zv_iload_n (pc' := 34) dX7_signs_33 rfl rfl ?_
    refine zv_ishr (pc' := 35) dX7_signs_34 rfl ?_
    refine zv_iconst (v := nI 1) (pc' := 36) dX7_signs_35 rfl (by decide) ?_
    refine zv_iand (pc' := 37) dX7_signs_36 rfl ?_
    refine zv_top (mk_tst (by omega)) ?_
    refine zv_iret dX7_signs_37 rfl ?_
    refine zdonm (s' := (signC (sC s) p q (!yS (sC s) p q), s.2)) ?_ (hI.setc h1 hs1 (by simp) (by simp)) (hs1.lt (by simp))
    rw [sp_signs, zans_0 g1, pN_nI (by omega), pN_nI (by omega)]
    congr 2
    show _ = fu2 (yS (sC s)) p q (!yS (sC s) p q) p q
    rw [fu2_at, if_pos ⟨rfl, rfl⟩]
  · intro h
    have h := zb_0.mp h
    refine zv_aload_n (pc' := 10) dX7_signs_9 rfl rfl ?_
    refine zv_iconst (v := (-1 : Int32)) (pc' := 11) dX7_signs_10 rfl (by decide) ?_
    refine zv_top (show (-1 : Int32) = -nI 1 by decide) ?_
    refine zv_cV1_fi (pc' := 14) dX7_signs_11 rfl lkX7_89 (by first | rfl | assumption) rfl (Nat.le_of_ble_eq_true rfl) (x7_no (by decide)) ?_
    rintro r M1 ⟨rfl, rfl⟩
    refine zv_iret dX7_signs_14 rfl ?_
    rw [sp_signs, show twN (yN (sC s)) x y = 1 from by rw [twN, if_neg (by rw [h]; decide)]]
    exact zrefm hI (by decide)
theorem x7_turnsFeud {M : ZMem} {c : ZCty} {p q : Nat} (hA : zAm M c) (hk : zOk c) (hp : p < yN c) (hq : q < yN c) (hpq : p ≠ q) : ZFv mdX7_turnsFeud d [.ref 90, .int (nI p), .int (nI q)] M (fun M' => zAm M' (feudC c p q (!yX c p q)) ∧ zFr [96] [] M M') := by
  have hn := hk.1
  have hA' := hA
  obtain ⟨hN, hY, hK, hF, hM, hS, hX⟩ := hA
  refine zex_intro (L := [some (.ref 90), some (.int (nI p)), some (.int (nI q))]) (by decide) (Nat.le_of_ble_eq_true rfl) rfl ?_
  refine zv_aload_n (pc' := 1) dX7_turnsFeud_0 rfl rfl ?_
  refine zv_getR (pc' := 4) dX7_turnsFeud_1 rfl flX7_25 (by first | rfl | assumption) rfl ?_
  refine zv_iload_n (pc' := 5) dX7_turnsFeud_4 rfl rfl ?_
  refine zv_dup2 (pc' := 6) dX7_turnsFeud_5 rfl rfl rfl ?_
  refine zv_ialoadE (pc' := 7) dX7_turnsFeud_6 rfl (by first | rfl | assumption) (by decide) (by omega) (by first | exact hN | exact hY | exact hM _ (by omega) | exact hS _ (by omega) | exact hX _ (by omega) | exact hK _ (by omega) | exact hF _ (by omega) | rfl) ?_
  refine zv_iconst (v := nI 1) (pc' := 8) dX7_turnsFeud_7 rfl (by decide) ?_
  refine zv_iload_n (pc' := 9) dX7_turnsFeud_8 rfl rfl ?_
  refine zv_ishl (pc' := 10) dX7_turnsFeud_9 rfl ?_
  refine zv_top (zsh1 q (by omega)) ?_
  refine zv_ixor (pc' := 11) dX7_turnsFeud_10 rfl ?_
  refine zv_top (mk_xor1 (by omega)) ?_
  rw [fu_xor]
  refine zv_iastoreN (pc' := 12) dX7_turnsFeud_11 rfl (by first | rfl | assumption) (by decide) (by omega) ?_
  have h1 : zAm (zup M 96 p (nI (zm 8 (fu (yX c p) q (!yX c p q))))) (setX c (fu2 (yX c) p q (!yX c p q))) := zAm_X hA'
  have hs1 : zFr [96] [] M (zup M 96 p (nI (zm 8 (fu (yX c p) q (!yX c p q))))) := zFr.up (by decide) (by decide)
  generalize zup M 96 p (nI (zm 8 (fu (yX c p) q (!yX c p q)))) = M1 at h1 hs1 ⊢
  have hX := h1.2.2.2.2.2.2
  refine zv_aload_n (pc' := 13) dX7_turnsFeud_12 rfl rfl ?_
  refine zv_getR (pc' := 16) dX7_turnsFeud_13 rfl flX7_25 (by first | rfl | assumption) rfl ?_
  refine zv_iload_n (pc' := 17) dX7_turnsFeud_16 rfl rfl ?_
  refine zv_dup2 (pc' := 18) dX7_turnsFeud_17 rfl rfl rfl ?_
  refine zv_ialoadE (pc' := 19) dX7_turnsFeud_18 rfl (by first | rfl | assumption) (by decide) (by omega) (by first | exact hN | exact hY | exact hM _ (by omega) | exact hS _ (by omega) | exact hX _ (by omega) | exact hK _ (by omega) | exact hF _ (by omega) | rfl) ?_
  refine zv_iconst (v := nI 1) (pc' := 20) dX7_turnsFeud_19 rfl (by decide) ?_
  refine zv_iload_n (pc' := 21) dX7_turnsFeud_20 rfl rfl ?_
  refine zv_ishl (pc' := 22) dX7_turnsFeud_21 rfl ?_
  refine zv_top (zsh1 p (by omega)) ?_
  refine zv_ixor (pc' := 23) dX7_turnsFeud_22 rfl ?_
  refine zv_top (mk_xor1 (by omega)) ?_
  rw [fu_xor]
  refine zv_iastoreN (pc' := 24) dX7_turnsFeud_23 rfl (by first | rfl | assumption) (by decide) (by omega) ?_
  refine zv_vret dX7_turnsFeud_24 rfl ?_
  refine ⟨rfl, ?_, hs1.tr (zFr.up (by decide) (by decide))⟩
  have h2 := zAm_X (i := q) (r := fu (yX (setX c (fu2 (yX c) p q (!yX c p q))) q) p (!yX (setX c (fu2 (yX c) p q (!yX c p q))) q p)) h1
  have e : (!yX (setX c (fu2 (yX c) p q (!yX c p q))) q p) = !yX c p q := by
    show (!fu2 (yX c) p q (!yX c p q) q p) = _
    rw [fu2_at, if_neg (by omega), hk.2.2.2.2.2.2 q p]
  rw [e] at h2 ⊢
  exact h2
theorem gm_feuds (x y : Int32) : zGm mdX7_feuds (d + 2) [.int x, .int y] (sp_feuds x y) := by
  intro M s hI hk
  have hn := hk.1.1
  have hA := hI.1
  obtain ⟨hN, hY, hK, hF, hM, hS, hX⟩ := hI.1
  refine zex_intro (L := [some (.ref 90), some (.int x), some (.int y)]) (by decide) (Nat.le_of_ble_eq_true rfl) rfl ?_
  refine zv_aload_n (pc' := 1) dX7_feuds_0 rfl rfl ?_
  refine zv_iload_n (pc' := 2) dX7_feuds_1 rfl rfl ?_
  refine zv_iload_n (pc' := 3) dX7_feuds_2 rfl rfl ?_
  refine zv_cV2_pi (pc' := 6) dX7_feuds_3 rfl lkX7_119 (by first | rfl | assumption) rfl (Nat.le_of_ble_eq_true rfl) (x7_areTwo hN) ?_
  refine zv_if_ne (pc' := 9) (tgt := 15) dX7_feuds_6 rfl rfl ?_ ?_
  · intro h
    have h := zb_ne.mp h
    have g1 := twN_0.mpr h
    obtain ⟨p, q, hp, hq, hpq, rfl, rfl⟩ := twoB_of hn h
    refine zv_aload_n (pc' := 16) dX7_feuds_15 rfl rfl ?_
    refine zv_iload_n (pc' := 17) dX7_feuds_16 rfl rfl ?_
    refine zv_iload_n (pc' := 18) dX7_feuds_17 rfl rfl ?_
    refine zv_cV2_fv (pc' := 21) dX7_feuds_18 rfl lkX7_122 (by first | rfl | assumption) rfl (Nat.le_of_ble_eq_true rfl) (x7_turnsFeud hA hk.1 hp hq hpq) ?_
    rintro M1 ⟨h1, hs1⟩
    have hX := h1.2.2.2.2.2.2
    refine zv_aload_n (pc' := 22) dX7_feuds_21 rfl rfl ?_
    refine zv_getR (pc' := 25) dX7_feuds_22 rfl flX7_25 (by first | rfl | assumption) rfl ?_
    refine zv_iload_n (pc' := 26) dX7_feuds_25 rfl rfl ?_
    refine zv_ialoadE (pc' := 27) dX7_feuds_26 rfl (by first | rfl | assumption) (by decide) (by omega) (by first | exact hN | exact hY | exact hM _ (by omega) | exact hS _ (by omega) | exact hX _ (by omega) | exact hK _ (by omega) | exact hF _ (by omega) | rfl) ?_
    refine zv_iload_n (pc' := 28) dX7_feuds_27 rfl rfl ?_
    refine zv_ishr (pc' := 29) dX7_feuds_28 rfl ?_
    refine zv_iconst (v := nI 1) (pc' := 30) dX7_feuds_29 rfl (by decide) ?_
    refine zv_iand (pc' := 31) dX7_feuds_30 rfl ?_
    refine zv_top (mk_tst (by omega)) ?_
    refine zv_iret dX7_feuds_31 rfl ?_
    refine zdonm (s' := (feudC (sC s) p q (!yX (sC s) p q), s.2)) ?_ (hI.setc h1 hs1 (by simp) (by simp)) (hs1.lt (by simp))
    rw [sp_feuds, zans_0 g1, pN_nI (by omega), pN_nI (by omega)]
    congr 2
    show _ = fu2 (fu2 (yX (sC s)) p q (!yX (sC s) p q)) q p (!yX (sC s) p q) p q
    rw [fu2_at, if_neg (by omega), fu2_at, if_pos ⟨rfl, rfl⟩]
  · intro h
    have h := zb_0.mp h
    refine zv_aload_n (pc' := 10) dX7_feuds_9 rfl rfl ?_
    refine zv_iconst (v := (-1 : Int32)) (pc' := 11) dX7_feuds_10 rfl (by decide) ?_
    refine zv_top (show (-1 : Int32) = -nI 1 by decide) ?_
    refine zv_cV1_fi (pc' := 14) dX7_feuds_11 rfl lkX7_89 (by first | rfl | assumption) rfl (Nat.le_of_ble_eq_true rfl) (x7_no (by decide)) ?_
    rintro r M1 ⟨rfl, rfl⟩
    refine zv_iret dX7_feuds_14 rfl ?_
    rw [sp_feuds, show twN (yN (sC s)) x y = 1 from by rw [twN, if_neg (by rw [h]; decide)]]
    exact zrefm hI (by decide)
theorem gm_gets (x v : Int32) : zGm mdX7_gets (d + 1) [.int x, .int v] (sp_gets x v) := by
  intro M s hI hk
  have hn := hk.1.1
  have hA := hI.1
  obtain ⟨hN, hY, hK, hF, hM, hS, hX⟩ := hI.1
  have fin : ∀ w, w < 7 → w = fiN (nbN (yN (sC s)) x) (bdN v (nI 0) (nI 99)) 0 → ZV mdX7_gets (d + 1) (fun u M' => ∃ r, u = some (.int r) ∧ (r = (sp_gets x v s).1 ∧ zIm M' (sp_gets x v s).2 ∧ ∀ k, k < 90 → M' k = M k)) 19 [some (.ref 90), some (.int x), some (.int v), none, none] [.int (-nI w)] M := by
    intro w hw hwe
    refine zv_istore_n (pc' := 20) dX7_gets_19 rfl (by decide) ?_
    refine zv_iload_n (pc' := 21) dX7_gets_20 rfl rfl ?_
    refine zv_if_eq (pc' := 24) (tgt := 30) dX7_gets_21 rfl rfl ?_ ?_
    · intro h
      have h0 := (neg_w0 _ hw).mp h
      have h0' := h0
      rw [hwe] at h0'
      obtain ⟨g1, g2, -⟩ := fiN_0.mp h0'
      obtain ⟨p, hp, rfl⟩ := hasB_of hn (nbN_0.mp g1)
      obtain ⟨k, -, hk2, rfl⟩ := isInB_of (by decide) (bdN_0.mp g2) (by decide)
      refine zv_aload_n (pc' := 31) dX7_gets_30 rfl rfl ?_
      refine zv_getR (pc' := 34) dX7_gets_31 rfl flX7_19 (by first | rfl | assumption) rfl ?_
      refine zv_iload_n (pc' := 35) dX7_gets_34 rfl rfl ?_
      refine zv_ialoadE (pc' := 36) dX7_gets_35 rfl (by first | rfl | assumption) (by decide) (by omega) (by first | exact hN | exact hY | exact hM _ (by omega) | exact hS _ (by omega) | exact hX _ (by omega) | exact hK _ (by omega) | exact hF _ (by omega) | rfl) ?_
      refine zv_istore (pc' := 38) dX7_gets_36 rfl (by decide) ?_
      refine zv_aload_n (pc' := 39) dX7_gets_38 rfl rfl ?_
      refine zv_getR (pc' := 42) dX7_gets_39 rfl flX7_19 (by first | rfl | assumption) rfl ?_
      refine zv_iload_n (pc' := 43) dX7_gets_42 rfl rfl ?_
      refine zv_iload_n (pc' := 44) dX7_gets_43 rfl rfl ?_
      refine zv_iastoreN (pc' := 45) dX7_gets_44 rfl (by first | rfl | assumption) (by decide) (by omega) ?_
      refine zv_iload (pc' := 47) dX7_gets_45 rfl rfl ?_
      refine zv_iret dX7_gets_47 rfl ?_
      have h1 : zAm (zup M 94 p (nI k)) (setM (sC s) (fu (yM (sC s)) p k)) := zAm_M hA
      have hs1 : zFr [94] [] M (zup M 94 p (nI k)) := zFr.up (by decide) (by decide)
      exact zdonm (by rw [sp_gets, zans_0 h0', pN_nI (by omega), pN_nI (by omega)]) (hI.setc h1 hs1 (by simp) (by simp)) (hs1.lt (by simp))
    · intro h
      have h0 := mt (neg_w0 _ hw).mpr h
      refine zv_aload_n (pc' := 25) dX7_gets_24 rfl rfl ?_
      refine zv_iload_n (pc' := 26) dX7_gets_25 rfl rfl ?_
      refine zv_cV1_fi (pc' := 29) dX7_gets_26 rfl lkX7_89 (by first | rfl | assumption) rfl (Nat.le_of_ble_eq_true rfl) (x7_no hw) ?_
      rintro r M1 ⟨rfl, rfl⟩
      refine zv_iret dX7_gets_29 rfl ?_
      rw [sp_gets, ← hwe]
      exact zrefm hI h0
  refine zex_intro (L := [some (.ref 90), some (.int x), some (.int v), none, none]) (by decide) (Nat.le_of_ble_eq_true rfl) rfl ?_
  refine zv_aload_n (pc' := 1) dX7_gets_0 rfl rfl ?_
  refine zv_iload_n (pc' := 2) dX7_gets_1 rfl rfl ?_
  refine zv_cV1_pi (pc' := 5) dX7_gets_2 rfl lkX7_71 (by first | rfl | assumption) rfl (Nat.le_of_ble_eq_true rfl) (x7_isOne hN) ?_
  refine zv_if_ne (pc' := 8) (tgt := 12) dX7_gets_5 rfl rfl ?_ ?_
  · intro h
    have g1 := nbN_0.mpr (zb_ne.mp h)
    refine zv_iload_n (pc' := 13) dX7_gets_12 rfl rfl ?_
    refine zv_iconst (v := nI 0) (pc' := 14) dX7_gets_13 rfl (by decide) ?_
    refine zv_bipush (v := nI 99) (pc' := 16) dX7_gets_14 rfl (by decide) ?_
    refine zv_cS3_pi (pc' := 19) dX7_gets_16 rfl lkX7_82 (Nat.le_of_ble_eq_true rfl) (x7_bound) ?_
    refine fin _ bdN_lt ?_
    rw [fiN, if_pos g1]
    split
    · assumption
    · rfl
  · intro h
    refine zv_iconst (v := (-1 : Int32)) (pc' := 9) dX7_gets_8 rfl (by decide) ?_
    refine zv_goto (pc' := 19) dX7_gets_9 rfl ?_
    refine zv_top (show (-1 : Int32) = -nI 1 by decide) ?_
    exact fin 1 (by decide) (by rw [nbN, if_neg (by rw [zb_0.mp h]; decide)]; rfl)
theorem gm_turn (x k f : Int32) : zGm mdX7_turn (d + 1) [.int x, .int k, .int f] (sp_turn x k f) := by
  intro M s hI hk
  have hn := hk.1.1
  have hA := hI.1
  obtain ⟨hN, hY, hK, hF, hM, hS, hX⟩ := hI.1
  have fin : ∀ w, w < 7 → w = fiN (nbN (yN (sC s)) x) (otN k 5) (bdN f (nI 0) (nI 9)) → ZV mdX7_turn (d + 1) (fun v M' => ∃ r, v = some (.int r) ∧ (r = (sp_turn x k f s).1 ∧ zIm M' (sp_turn x k f s).2 ∧ ∀ k, k < 90 → M' k = M k)) 33 [some (.ref 90), some (.int x), some (.int k), some (.int f), none, none] [.int (-nI w)] M := by
    intro w hw hwe
    refine zv_istore (pc' := 35) dX7_turn_33 rfl (by decide) ?_
    refine zv_iload (pc' := 37) dX7_turn_35 rfl rfl ?_
    refine zv_if_eq (pc' := 40) (tgt := 47) dX7_turn_37 rfl rfl ?_ ?_
    · intro h
      have h0 := (neg_w0 _ hw).mp h
      have h0' := h0
      rw [hwe] at h0'
      obtain ⟨g1, g2, g3⟩ := fiN_0.mp h0'
      obtain ⟨p, hp, rfl⟩ := hasB_of hn (nbN_0.mp g1)
      obtain ⟨k, -, hk2, rfl⟩ := isInB_of (by decide) (otN_0.mp g2) (by decide)
      obtain ⟨f, -, hf2, rfl⟩ := isInB_of (by decide) (bdN_0.mp g3) (by decide)
      refine zv_bipush (v := nI 10) (pc' := 49) dX7_turn_47 rfl (by decide) ?_
      refine zv_aload_n (pc' := 50) dX7_turn_49 rfl rfl ?_
      refine zv_getR (pc' := 53) dX7_turn_50 rfl flX7_13 (by first | rfl | assumption) rfl ?_
      refine zv_iload_n (pc' := 54) dX7_turn_53 rfl rfl ?_
      refine zv_ialoadE (pc' := 55) dX7_turn_54 rfl (by first | rfl | assumption) (by decide) (by omega) (by first | exact hN | exact hY | exact hM _ (by omega) | exact hS _ (by omega) | exact hX _ (by omega) | exact hK _ (by omega) | exact hF _ (by omega) | rfl) ?_
      refine zv_imul (pc' := 56) dX7_turn_55 rfl ?_
      refine zv_top (pk_mul _ _) ?_
      refine zv_aload_n (pc' := 57) dX7_turn_56 rfl rfl ?_
      refine zv_getR (pc' := 60) dX7_turn_57 rfl flX7_16 (by first | rfl | assumption) rfl ?_
      refine zv_iload_n (pc' := 61) dX7_turn_60 rfl rfl ?_
      refine zv_ialoadE (pc' := 62) dX7_turn_61 rfl (by first | rfl | assumption) (by decide) (by omega) (by first | exact hN | exact hY | exact hM _ (by omega) | exact hS _ (by omega) | exact hX _ (by omega) | exact hK _ (by omega) | exact hF _ (by omega) | rfl) ?_
      refine zv_iadd (pc' := 63) dX7_turn_62 rfl ?_
      refine zv_top (nI_add _ _) ?_
      refine zv_istore (pc' := 65) dX7_turn_63 rfl (by decide) ?_
      refine zv_aload_n (pc' := 66) dX7_turn_65 rfl rfl ?_
      refine zv_getR (pc' := 69) dX7_turn_66 rfl flX7_13 (by first | rfl | assumption) rfl ?_
      refine zv_iload_n (pc' := 70) dX7_turn_69 rfl rfl ?_
      refine zv_iload_n (pc' := 71) dX7_turn_70 rfl rfl ?_
      refine zv_iastoreN (pc' := 72) dX7_turn_71 rfl (by first | rfl | assumption) (by decide) (by omega) ?_
      refine zv_aload_n (pc' := 73) dX7_turn_72 rfl rfl ?_
      refine zv_getR (pc' := 76) dX7_turn_73 rfl flX7_16 (by first | rfl | assumption) rfl ?_
      refine zv_iload_n (pc' := 77) dX7_turn_76 rfl rfl ?_
      refine zv_iload_n (pc' := 78) dX7_turn_77 rfl rfl ?_
      refine zv_iastoreN (pc' := 79) dX7_turn_78 rfl (by first | rfl | assumption) (by decide) (by omega) ?_
      refine zv_iload (pc' := 81) dX7_turn_79 rfl rfl ?_
      refine zv_iret dX7_turn_81 rfl ?_
      have h1 : zAm (zup M 92 p (nI k)) (setK (sC s) (fu (yK (sC s)) p k)) := zAm_K hA
      have h2 : zAm (zup (zup M 92 p (nI k)) 93 p (nI f)) (turnC (sC s) p k f) := zAm_F h1
      have hs1 : zFr [92, 93] [] M (zup (zup M 92 p (nI k)) 93 p (nI f)) := (zFr.up (by decide) (by decide)).tr (zFr.up (by decide) (by decide))
      exact zdonm (by rw [sp_turn, zans_0 h0', pN_nI (by omega), pN_nI (by omega), pN_nI (by omega)]) (hI.setc h2 hs1 (by simp) (by simp)) (hs1.lt (by simp))
    · intro h
      have h0 := mt (neg_w0 _ hw).mpr h
      refine zv_aload_n (pc' := 41) dX7_turn_40 rfl rfl ?_
      refine zv_iload (pc' := 43) dX7_turn_41 rfl rfl ?_
      refine zv_cV1_fi (pc' := 46) dX7_turn_43 rfl lkX7_89 (by first | rfl | assumption) rfl (Nat.le_of_ble_eq_true rfl) (x7_no hw) ?_
      rintro r M1 ⟨rfl, rfl⟩
      refine zv_iret dX7_turn_46 rfl ?_
      rw [sp_turn, ← hwe]
      exact zrefm hI h0
  refine zex_intro (L := [some (.ref 90), some (.int x), some (.int k), some (.int f), none, none]) (by decide) (Nat.le_of_ble_eq_true rfl) rfl ?_
  refine zv_aload_n (pc' := 1) dX7_turn_0 rfl rfl ?_
  refine zv_iload_n (pc' := 2) dX7_turn_1 rfl rfl ?_
  refine zv_cV1_pi (pc' := 5) dX7_turn_2 rfl lkX7_71 (by first | rfl | assumption) rfl (Nat.le_of_ble_eq_true rfl) (x7_isOne hN) ?_
  refine zv_if_ne (pc' := 8) (tgt := 12) dX7_turn_5 rfl rfl ?_ ?_
  · intro h
    have g1 := nbN_0.mpr (zb_ne.mp h)
    refine zv_iload_n (pc' := 13) dX7_turn_12 rfl rfl ?_
    refine zv_iconst (v := nI 0) (pc' := 14) dX7_turn_13 rfl (by decide) ?_
    refine zv_iconst (v := nI 5) (pc' := 15) dX7_turn_14 rfl (by decide) ?_
    refine zv_cS3_pi (pc' := 18) dX7_turn_15 rfl lkX7_100 (Nat.le_of_ble_eq_true rfl) (x7_isIn) ?_
    refine zv_if_ne (pc' := 21) (tgt := 26) dX7_turn_18 rfl rfl ?_ ?_
    · intro h2
      have g2 := otN_0.mpr (zb_ne.mp h2)
      refine zv_iload_n (pc' := 27) dX7_turn_26 rfl rfl ?_
      refine zv_iconst (v := nI 0) (pc' := 28) dX7_turn_27 rfl (by decide) ?_
      refine zv_bipush (v := nI 9) (pc' := 30) dX7_turn_28 rfl (by decide) ?_
      refine zv_cS3_pi (pc' := 33) dX7_turn_30 rfl lkX7_82 (Nat.le_of_ble_eq_true rfl) (x7_bound) ?_
      exact fin _ bdN_lt (by rw [fiN, if_pos g1, if_pos g2])
    · intro h2
      refine zv_bipush (v := (-2 : Int32)) (pc' := 23) dX7_turn_21 rfl (by decide) ?_
      refine zv_goto (pc' := 33) dX7_turn_23 rfl ?_
      refine zv_top (show (-2 : Int32) = -nI 2 by decide) ?_
      have e : otN k 5 = 2 := by rw [otN, if_neg (by rw [zb_0.mp h2]; decide)]
      exact fin 2 (by decide) (by rw [fiN, if_pos g1, e]; rfl)
  · intro h
    refine zv_iconst (v := (-1 : Int32)) (pc' := 9) dX7_turn_8 rfl (by decide) ?_
    refine zv_goto (pc' := 33) dX7_turn_9 rfl ?_
    refine zv_top (show (-1 : Int32) = -nI 1 by decide) ?_
    exact fin 1 (by decide) (by rw [nbN, if_neg (by rw [zb_0.mp h]; decide)]; rfl)
theorem passB_in {y : Nat} {x : Int32} (h : isInB x (nI 1) (nI 60) = true) : passB y x = decide (¬ nI 999 < nI y + x) := by
  unfold passB
  rw [show (decide (¬ x < nI 1) && decide (¬ nI 60 < x)) = true from h, Bool.true_and]
theorem gm_years (x : Int32) : zGm mdX7_years (d + 4) [.int x] (sp_years x) := by
  intro M s hI hk
  have hn := hk.1.1
  have hA := hI.1
  obtain ⟨hN, hY, hK, hF, hM, hS, hX⟩ := hI.1
  have fin : ∀ w, w < 7 → w = fiN (bdN x (nI 1) (nI 60)) (if passB (yY (sC s)) x = true then 0 else 6) 0 → ZV mdX7_years (d + 4) (fun v M' => ∃ r, v = some (.int r) ∧ (r = (sp_years x s).1 ∧ zIm M' (sp_years x s).2 ∧ ∀ k, k < 90 → M' k = M k)) 27 [some (.ref 90), some (.int x), some (.int (-nI w))] [] M := by
    intro w hw hwe
    refine zv_iload_n (pc' := 28) dX7_years_27 rfl rfl ?_
    refine zv_if_eq (pc' := 31) (tgt := 37) dX7_years_28 rfl rfl ?_ ?_
    · intro h
      have h0 := (neg_w0 _ hw).mp h
      have h0' := h0
      rw [hwe] at h0'
      obtain ⟨g1, g2, -⟩ := fiN_0.mp h0'
      obtain ⟨k, -, hk2, rfl⟩ := isInB_of (by decide) (bdN_0.mp g1) (by decide)
      refine zv_aload_n (pc' := 38) dX7_years_37 rfl rfl ?_
      refine zv_iload_n (pc' := 39) dX7_years_38 rfl rfl ?_
      refine zv_cV1_fv (pc' := 42) dX7_years_39 rfl lkX7_129 (by first | rfl | assumption) rfl (Nat.le_of_ble_eq_true rfl) (x7_goes hA hk.1 hI.2.1 (by omega)) ?_
      rintro M1 ⟨h1, h2⟩
      refine zv_aload_n (pc' := 43) dX7_years_42 rfl rfl ?_
      refine zv_cV0_pi (pc' := 46) dX7_years_43 rfl lkX7_187 (by first | rfl | assumption) rfl (Nat.le_of_ble_eq_true rfl) (x7_wealth h1 (by rw [(zOk_years hk.1).2]; exact hn)) ?_
      refine zv_iret dX7_years_46 rfl ?_
      exact zdonm (by rw [sp_years, zans_0 h0', pN_nI (by omega)]) (hI.setc h1 h2 (by simp) (by simp)) (h2.lt (by simp))
    · intro h
      have h0 := mt (neg_w0 _ hw).mpr h
      refine zv_aload_n (pc' := 32) dX7_years_31 rfl rfl ?_
      refine zv_iload_n (pc' := 33) dX7_years_32 rfl rfl ?_
      refine zv_cV1_fi (pc' := 36) dX7_years_33 rfl lkX7_89 (by first | rfl | assumption) rfl (Nat.le_of_ble_eq_true rfl) (x7_no hw) ?_
      rintro r M1 ⟨rfl, rfl⟩
      refine zv_iret dX7_years_36 rfl ?_
      rw [sp_years, ← hwe]
      exact zrefm hI h0
  refine zex_intro (L := [some (.ref 90), some (.int x), none]) (by decide) (Nat.le_of_ble_eq_true rfl) rfl ?_
  refine zv_iload_n (pc' := 1) dX7_years_0 rfl rfl ?_
  refine zv_iconst (v := nI 1) (pc' := 2) dX7_years_1 rfl (by decide) ?_
  refine zv_bipush (v := nI 60) (pc' := 4) dX7_years_2 rfl (by decide) ?_
  refine zv_cS3_pi (pc' := 7) dX7_years_4 rfl lkX7_82 (Nat.le_of_ble_eq_true rfl) (x7_bound) ?_
  refine zv_istore_n (pc' := 8) dX7_years_7 rfl (by decide) ?_
  refine zv_iload_n (pc' := 9) dX7_years_8 rfl rfl ?_
  refine zv_if_ne (pc' := 12) (tgt := 27) dX7_years_9 rfl rfl ?_ ?_
  · intro h
    have h0 := mt (neg_w0 _ (bdN_lt (x := x) (lo := nI 1) (hi := nI 60))).mpr h
    exact fin _ bdN_lt (by rw [fiN, if_neg h0])
  · intro h
    have h0 := (neg_w0 _ (bdN_lt (x := x) (lo := nI 1) (hi := nI 60))).mp h
    have hp := passB_in (y := yY (sC s)) (bdN_0.mp h0)
    refine zv_aload_n (pc' := 13) dX7_years_12 rfl rfl ?_
    refine zv_getIE (pc' := 16) dX7_years_13 rfl flX7_126 (by first | rfl | assumption) rfl (by first | exact hN | exact hY | exact hM _ (by omega) | exact hS _ (by omega) | exact hX _ (by omega) | exact hK _ (by omega) | exact hF _ (by omega) | rfl) ?_
    refine zv_iload_n (pc' := 17) dX7_years_16 rfl rfl ?_
    refine zv_iadd (pc' := 18) dX7_years_17 rfl ?_
    refine zv_sipush (v := nI 999) (pc' := 21) dX7_years_18 rfl (by decide) ?_
    refine zv_icmp_le (pc' := 24) (tgt := 27) dX7_years_21 rfl rfl ?_ ?_
    · intro h2
      have h2 := Int32.not_lt.mpr h2
      exact fin _ bdN_lt (by rw [fiN, if_pos h0, if_pos (if_pos (by rw [hp]; exact decide_eq_true h2)), h0])
    · intro h2
      have h2 := Int32.not_le.mp h2
      refine zv_bipush (v := (-6 : Int32)) (pc' := 26) dX7_years_24 rfl (by decide) ?_
      refine zv_istore_n (pc' := 27) dX7_years_26 rfl (by decide) ?_
      exact fin 6 (by decide) (by rw [fiN, if_pos h0, show (if passB (yY (sC s)) x = true then 0 else 6) = 6 from if_neg (by rw [hp]; simp [h2])]; rfl)
theorem gm_count (x : Int32) : zGm mdX7_count (d + 4) [.int x] (sp_count x) := by
  intro M s hI hk
  have hn := hk.1.1
  have hA := hI.1
  obtain ⟨hN, hY, hK, hF, hM, hS, hX⟩ := hI.1
  have hL := hI.2.2.2.1.1
  have hR := hI.2.2.2.2.1.1
  have hW := hI.2.2.2.2.2
  have fin : ∀ v : Int32, v = cntV s x → ∃ r, some (Value.int v) = some (Value.int r) ∧ (r = (sp_count x s).1 ∧ zIm M (sp_count x s).2 ∧ ∀ k, k < 90 → M k = M k) := fun v hv => ⟨_, rfl, hv, hI, fun _ _ => rfl⟩
  refine zex_intro (L := [some (.ref 90), some (.int x), none, none]) (by decide) (Nat.le_of_ble_eq_true rfl) rfl ?_
  refine zv_iload_n (pc' := 1) dX7_count_0 rfl rfl ?_
  refine zv_bipush (v := nI 11) (pc' := 3) dX7_count_1 rfl (by decide) ?_
  refine zv_bipush (v := nI 16) (pc' := 5) dX7_count_3 rfl (by decide) ?_
  refine zv_cS3_pi (pc' := 8) dX7_count_5 rfl lkX7_100 (Nat.le_of_ble_eq_true rfl) (x7_isIn) ?_
  refine zv_if_eq (pc' := 11) (tgt := 21) dX7_count_8 rfl rfl ?_ ?_
  · intro h
    have hno : ¬ isInB x (nI 11) (nI 16) = true := by rw [zb_0.mp h]; decide
    refine zv_iconst (v := nI 0) (pc' := 22) dX7_count_21 rfl (by decide) ?_
    refine zv_istore_n (pc' := 23) dX7_count_22 rfl (by decide) ?_
    refine zv_iload_n (pc' := 24) dX7_count_23 rfl rfl ?_
    by_cases h7 : isInB x (nI 0) (nI 7) = true
    · obtain ⟨k, -, hk2, rfl⟩ := isInB_of (by decide) h7 (by decide)
      have ev : cntV s (nI k) = cntK s k := by rw [cntV, if_neg hno, if_pos h7, pN_nI (by omega)]
      rcases (show k = 0 ∨ k = 1 ∨ k = 2 ∨ k = 3 ∨ k = 4 ∨ k = 5 ∨ k = 6 ∨ k = 7 by omega) with rfl | rfl | rfl | rfl | rfl | rfl | rfl | rfl
      · refine zv_tableIn (pc' := 72) (off := 48) dX7_count_24 (by decide) (by decide) (by decide) rfl ?_
        refine zv_aload_n (pc' := 73) dX7_count_72 rfl rfl ?_
        refine zv_getIE (pc' := 76) dX7_count_73 rfl flX7_65 (by first | rfl | assumption) rfl (by first | exact hN | exact hY | exact hL | exact hR | exact hW _ (by omega) | exact hS _ (by omega) | exact hX _ (by omega) | rfl) ?_
        refine zv_iret dX7_count_76 rfl ?_
        exact fin _ ev.symm
      · refine zv_tableIn (pc' := 77) (off := 53) dX7_count_24 (by decide) (by decide) (by decide) rfl ?_
        refine zv_aload_n (pc' := 78) dX7_count_77 rfl rfl ?_
        refine zv_getIE (pc' := 81) dX7_count_78 rfl flX7_126 (by first | rfl | assumption) rfl (by first | exact hN | exact hY | exact hL | exact hR | exact hW _ (by omega) | exact hS _ (by omega) | exact hX _ (by omega) | rfl) ?_
        refine zv_iret dX7_count_81 rfl ?_
        exact fin _ ev.symm
      · refine zv_tableIn (pc' := 82) (off := 58) dX7_count_24 (by decide) (by decide) (by decide) rfl ?_
        refine zv_aload_n (pc' := 83) dX7_count_82 rfl rfl ?_
        refine zv_cV0_pi (pc' := 86) dX7_count_83 rfl lkX7_187 (by first | rfl | assumption) rfl (Nat.le_of_ble_eq_true rfl) (x7_wealth hA hn) ?_
        refine zv_iret dX7_count_86 rfl ?_
        exact fin _ ev.symm
      · refine zv_tableIn (pc' := 87) (off := 63) dX7_count_24 (by decide) (by decide) (by decide) rfl ?_
        have lp : ∀ r k, k + r = yN (sC s) → ZV mdX7_count (d + 4) (fun v M' => ∃ r, v = some (.int r) ∧ (r = (sp_count (nI 3) s).1 ∧ zIm M' (sp_count (nI 3) s).2 ∧ ∀ k, k < 90 → M' k = M k)) 89 [some (.ref 90), some (.int (nI 3)), some (.int (nI (zsum k (fun i => zcn 8 (yS (sC s) i))))), some (.int (nI k))] [] M := by
          intro r
          induction r with
          | zero =>
            intro k e
            have e : k = yN (sC s) := by omega
            subst e
            refine zv_iload_n (pc' := 90) dX7_count_89 rfl rfl ?_
            refine zv_aload_n (pc' := 91) dX7_count_90 rfl rfl ?_
            refine zv_getIE (pc' := 94) dX7_count_91 rfl flX7_65 (by first | rfl | assumption) rfl (by first | exact hN | exact hY | exact hL | exact hR | exact hW _ (by omega) | exact hS _ (by omega) | exact hX _ (by omega) | rfl) ?_
            refine zv_icmp_ge (pc' := 97) (tgt := 115) dX7_count_94 rfl rfl (fun _ => ?_) (fun hcc => absurd (Int32.le_refl _) hcc)
            refine zv_iload_n (pc' := 116) dX7_count_115 rfl rfl ?_
            refine zv_iret dX7_count_116 rfl ?_
            exact fin _ ev.symm
          | succ r ih =>
            intro k e
            refine zv_iload_n (pc' := 90) dX7_count_89 rfl rfl ?_
            refine zv_aload_n (pc' := 91) dX7_count_90 rfl rfl ?_
            refine zv_getIE (pc' := 94) dX7_count_91 rfl flX7_65 (by first | rfl | assumption) rfl (by first | exact hN | exact hY | exact hL | exact hR | exact hW _ (by omega) | exact hS _ (by omega) | exact hX _ (by omega) | rfl) ?_
            refine zv_icmp_ge (pc' := 97) (tgt := 115) dX7_count_94 rfl rfl (fun hcc => absurd hcc (nI_ge (by omega) (by omega))) (fun _ => ?_)
            refine zv_iload_n (pc' := 98) dX7_count_97 rfl rfl ?_
            refine zv_aload_n (pc' := 99) dX7_count_98 rfl rfl ?_
            refine zv_getR (pc' := 102) dX7_count_99 rfl flX7_22 (by first | rfl | assumption) rfl ?_
            refine zv_iload_n (pc' := 103) dX7_count_102 rfl rfl ?_
            refine zv_ialoadE (pc' := 104) dX7_count_103 rfl (by first | rfl | assumption) (by decide) (by omega) (by first | exact hN | exact hY | exact hL | exact hR | exact hW _ (by omega) | exact hS _ (by omega) | exact hX _ (by omega) | rfl) ?_
            refine zv_cS1_pi (pc' := 107) dX7_count_104 rfl lkX7_184 (Nat.le_of_ble_eq_true rfl) (x7_bitsM) ?_
            refine zv_iadd (pc' := 108) dX7_count_107 rfl ?_
            refine zv_top (nI_add _ _) ?_
            refine zv_istore_n (pc' := 109) dX7_count_108 rfl (by decide) ?_
            refine zv_iinc (w := nI 1) (pc' := 112) dX7_count_109 rfl rfl (by decide) (by decide) ?_
            refine zv_goto (pc' := 89) dX7_count_112 rfl ?_
            rw [nI_add]
            exact ih (k + 1) (by omega)
        refine zv_iconst (v := nI 0) (pc' := 88) dX7_count_87 rfl (by decide) ?_
        refine zv_istore_n (pc' := 89) dX7_count_88 rfl (by decide) ?_
        exact lp (yN (sC s)) 0 (by omega)
      · refine zv_tableIn (pc' := 117) (off := 93) dX7_count_24 (by decide) (by decide) (by decide) rfl ?_
        have lp : ∀ r k, k + r = yN (sC s) → ZV mdX7_count (d + 4) (fun v M' => ∃ r, v = some (.int r) ∧ (r = (sp_count (nI 4) s).1 ∧ zIm M' (sp_count (nI 4) s).2 ∧ ∀ k, k < 90 → M' k = M k)) 119 [some (.ref 90), some (.int (nI 4)), some (.int (nI (zsum k (fun i => zcn 8 (yX (sC s) i))))), some (.int (nI k))] [] M := by
          intro r
          induction r with
          | zero =>
            intro k e
            have e : k = yN (sC s) := by omega
            subst e
            refine zv_iload_n (pc' := 120) dX7_count_119 rfl rfl ?_
            refine zv_aload_n (pc' := 121) dX7_count_120 rfl rfl ?_
            refine zv_getIE (pc' := 124) dX7_count_121 rfl flX7_65 (by first | rfl | assumption) rfl (by first | exact hN | exact hY | exact hL | exact hR | exact hW _ (by omega) | exact hS _ (by omega) | exact hX _ (by omega) | rfl) ?_
            refine zv_icmp_ge (pc' := 127) (tgt := 145) dX7_count_124 rfl rfl (fun _ => ?_) (fun hcc => absurd (Int32.le_refl _) hcc)
            refine zv_iload_n (pc' := 146) dX7_count_145 rfl rfl ?_
            refine zv_iconst (v := nI 2) (pc' := 147) dX7_count_146 rfl (by decide) ?_
            refine zv_idiv (pc' := 148) dX7_count_147 rfl (by first | assumption | decide) ?_
            have hz := zsum_cn (n := yN (sC s)) (f := yX (sC s))
            refine zv_top (pk_div (by omega) (by omega) (by omega)) ?_
            refine zv_iret dX7_count_148 rfl ?_
            exact fin _ ev.symm
          | succ r ih =>
            intro k e
            refine zv_iload_n (pc' := 120) dX7_count_119 rfl rfl ?_
            refine zv_aload_n (pc' := 121) dX7_count_120 rfl rfl ?_
            refine zv_getIE (pc' := 124) dX7_count_121 rfl flX7_65 (by first | rfl | assumption) rfl (by first | exact hN | exact hY | exact hL | exact hR | exact hW _ (by omega) | exact hS _ (by omega) | exact hX _ (by omega) | rfl) ?_
            refine zv_icmp_ge (pc' := 127) (tgt := 145) dX7_count_124 rfl rfl (fun hcc => absurd hcc (nI_ge (by omega) (by omega))) (fun _ => ?_)
            refine zv_iload_n (pc' := 128) dX7_count_127 rfl rfl ?_
            refine zv_aload_n (pc' := 129) dX7_count_128 rfl rfl ?_
            refine zv_getR (pc' := 132) dX7_count_129 rfl flX7_25 (by first | rfl | assumption) rfl ?_
            refine zv_iload_n (pc' := 133) dX7_count_132 rfl rfl ?_
            refine zv_ialoadE (pc' := 134) dX7_count_133 rfl (by first | rfl | assumption) (by decide) (by omega) (by first | exact hN | exact hY | exact hL | exact hR | exact hW _ (by omega) | exact hS _ (by omega) | exact hX _ (by omega) | rfl) ?_
            refine zv_cS1_pi (pc' := 137) dX7_count_134 rfl lkX7_184 (Nat.le_of_ble_eq_true rfl) (x7_bitsM) ?_
            refine zv_iadd (pc' := 138) dX7_count_137 rfl ?_
            refine zv_top (nI_add _ _) ?_
            refine zv_istore_n (pc' := 139) dX7_count_138 rfl (by decide) ?_
            refine zv_iinc (w := nI 1) (pc' := 142) dX7_count_139 rfl rfl (by decide) (by decide) ?_
            refine zv_goto (pc' := 119) dX7_count_142 rfl ?_
            rw [nI_add]
            exact ih (k + 1) (by omega)
        refine zv_iconst (v := nI 0) (pc' := 118) dX7_count_117 rfl (by decide) ?_
        refine zv_istore_n (pc' := 119) dX7_count_118 rfl (by decide) ?_
        exact lp (yN (sC s)) 0 (by omega)
      · refine zv_tableIn (pc' := 149) (off := 125) dX7_count_24 (by decide) (by decide) (by decide) rfl ?_
        refine zv_aload_n (pc' := 150) dX7_count_149 rfl rfl ?_
        refine zv_cV0_pi (pc' := 153) dX7_count_150 rfl lkX7_276 (by first | rfl | assumption) rfl (Nat.le_of_ble_eq_true rfl) (x7_twosOfKin hA hk.1) ?_
        refine zv_iret dX7_count_153 rfl ?_
        exact fin _ ev.symm
      · refine zv_tableIn (pc' := 154) (off := 130) dX7_count_24 (by decide) (by decide) (by decide) rfl ?_
        refine zv_aload_n (pc' := 155) dX7_count_154 rfl rfl ?_
        refine zv_getIE (pc' := 158) dX7_count_155 rfl flX7_297 (by first | rfl | assumption) rfl (by first | exact hN | exact hY | exact hL | exact hR | exact hW _ (by omega) | exact hS _ (by omega) | exact hX _ (by omega) | rfl) ?_
        refine zv_iret dX7_count_158 rfl ?_
        exact fin _ ev.symm
      · refine zv_tableIn (pc' := 159) (off := 135) dX7_count_24 (by decide) (by decide) (by decide) rfl ?_
        refine zv_aload_n (pc' := 160) dX7_count_159 rfl rfl ?_
        refine zv_getIE (pc' := 163) dX7_count_160 rfl flX7_86 (by first | rfl | assumption) rfl (by first | exact hN | exact hY | exact hL | exact hR | exact hW _ (by omega) | exact hS _ (by omega) | exact hX _ (by omega) | rfl) ?_
        refine zv_iret dX7_count_163 rfl ?_
        exact fin _ ev.symm
    · have h7 : isInB x (nI 0) (nI 7) = false := by simpa using h7
      refine zv_tableOut (pc' := 164) dX7_count_24 (toInt_out (a := 0) (b := 7) (by decide) (by decide) h7) rfl ?_
      refine zv_bipush (v := (-9 : Int32)) (pc' := 166) dX7_count_164 rfl (by decide) ?_
      refine zv_iret dX7_count_166 rfl ?_
      exact fin _ (by rw [cntV, if_neg hno, if_neg (by rw [h7]; decide)])
  · intro h
    have hin := zb_ne.mp h
    obtain ⟨k, hk1, hk2, rfl⟩ := isInB_of (by decide) hin (by decide)
    refine zv_aload_n (pc' := 12) dX7_count_11 rfl rfl ?_
    refine zv_getR (pc' := 15) dX7_count_12 rfl flX7_7 (by first | rfl | assumption) rfl ?_
    refine zv_iload_n (pc' := 16) dX7_count_15 rfl rfl ?_
    refine zv_bipush (v := nI 10) (pc' := 18) dX7_count_16 rfl (by decide) ?_
    refine zv_isub (pc' := 19) dX7_count_18 rfl ?_
    refine zv_top (pk_sub (by omega)) ?_
    refine zv_ialoadE (pc' := 20) dX7_count_19 rfl (by first | rfl | assumption) (by decide) (by omega) (by first | exact hN | exact hY | exact hL | exact hR | exact hW _ (by omega) | exact hS _ (by omega) | exact hX _ (by omega) | rfl) ?_
    refine zv_iret dX7_count_20 rfl ?_
    exact fin _ (by rw [cntV, if_pos hin, pN_nI (by omega)])
end
