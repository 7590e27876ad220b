/-! rooms: the reference -/
theorem zTe.rm {M M' : ZMem} {c : ZCty} (hA : zAm M c) (h : zFr [104] [] M M') : zTe M M' c := ⟨hA.same h (by simp; omega) (by simp), h.mono (by simp) (by simp), fun i _ => by rw [h.1 101 (by decide) (by decide)]⟩
theorem nI_down (p : Nat) : nI (p + 1) + (-1 : Int32) = nI p := by rw [← nI_pred p, Int32.sub_eq_add_neg]
section
variable {d : Nat} {M : ZMem} {c : ZCty}
theorem x7_leastRoom {p fr m : Nat} {f : Nat → Nat} (hX : ∀ j, j < 8 → M 96 j = nI (zm 8 (yX c j))) (hR : ∀ q, q < p → M 104 q = nI (f q)) (hp : p < 8) (hf : ∀ q, q < p → f q < m) (hm : m ≤ 8) (hfr : fr ≤ m) : ZFi mdX7_leastRoom (d + 1) [.ref 90, .int (nI p), .int (nI fr)] M (fun x M' => (∃ r, x = nI r ∧ fr ≤ r ∧ r ≤ m ∧ rmB (yX c) f p r = true ∧ ∀ i, fr ≤ i → i < r → rmB (yX c) f p i = false) ∧ M' = M) := by
  have stp : ∀ r, fr ≤ r → r ≤ m → (∀ i, fr ≤ i → i < r → rmB (yX c) f p i = false) →
      (r < m → rmB (yX c) f p r = false → ZV mdX7_leastRoom (d + 1) (fun v M' => ∃ x, v = some (.int x) ∧ ((∃ r, x = nI r ∧ fr ≤ r ∧ r ≤ m ∧ rmB (yX c) f p r = true ∧ ∀ i, fr ≤ i → i < r → rmB (yX c) f p i = false) ∧ M' = M)) 5 [some (.ref 90), some (.int (nI p)), some (.int (nI fr)), some (.int (nI (r + 1))), some (.int (nI 0))] [] M) →
      ∀ b q, q + b = p → (∀ j, j < q → yX c p j = true → f j ≠ r) → ZV mdX7_leastRoom (d + 1) (fun v M' => ∃ x, v = some (.int x) ∧ ((∃ r, x = nI r ∧ fr ≤ r ∧ r ≤ m ∧ rmB (yX c) f p r = true ∧ ∀ i, fr ≤ i → i < r → rmB (yX c) f p i = false) ∧ M' = M)) 5 [some (.ref 90), some (.int (nI p)), some (.int (nI fr)), some (.int (nI r)), some (.int (nI q))] [] M := by
    intro r h1 h2 h3 kk b
    induction b with
    | zero =>
      intro q e hq
      have e : q = p := by omega
      subst e
      refine zv_iload (pc' := 7) dX7_leastRoom_5 rfl rfl ?_
      refine zv_iload_n (pc' := 8) dX7_leastRoom_7 rfl rfl ?_
      refine zv_icmp_ge (pc' := 11) (tgt := 51) dX7_leastRoom_8 rfl rfl (fun _ => ?_) (fun hcc => absurd (Int32.le_refl _) hcc)
      refine zv_iload_n (pc' := 52) dX7_leastRoom_51 rfl rfl ?_
      refine zv_iret dX7_leastRoom_52 rfl ?_
      exact ⟨_, rfl, ⟨r, rfl, h1, h2, rmB_iff.mpr hq, h3⟩, rfl⟩
    | succ b ih =>
      intro q e hq
      have hfq := hf q (by omega)
      refine zv_iload (pc' := 7) dX7_leastRoom_5 rfl rfl ?_
      refine zv_iload_n (pc' := 8) dX7_leastRoom_7 rfl rfl ?_
      refine zv_icmp_ge (pc' := 11) (tgt := 51) dX7_leastRoom_8 rfl rfl (fun hcc => absurd hcc (nI_ge (by omega) (by omega))) (fun _ => ?_)
      refine zv_aload_n (pc' := 12) dX7_leastRoom_11 rfl rfl ?_
      refine zv_getR (pc' := 15) dX7_leastRoom_12 rfl flX7_25 (by first | rfl | assumption) rfl ?_
      refine zv_iload_n (pc' := 16) dX7_leastRoom_15 rfl rfl ?_
      refine zv_ialoadE (pc' := 17) dX7_leastRoom_16 rfl (by first | rfl | assumption) (by decide) (by omega) (by first | exact hX _ (by omega) | exact hR _ (by omega) | rfl) ?_
      refine zv_iload (pc' := 19) dX7_leastRoom_17 rfl rfl ?_
      refine zv_cS2_pi (pc' := 22) dX7_leastRoom_19 rfl lkX7_75 (Nat.le_of_ble_eq_true rfl) (x7_hasM (by omega)) ?_
      refine zv_if_eq (pc' := 25) (tgt := 45) dX7_leastRoom_22 rfl rfl ?_ ?_
      · intro h
        have h := zb_0.mp h
        refine zv_iinc (w := nI 1) (pc' := 48) dX7_leastRoom_45 rfl rfl (by decide) (by decide) ?_
        refine zv_goto (pc' := 5) dX7_leastRoom_48 rfl ?_
        rw [nI_add]
        refine ih (q + 1) (by omega) (fun j hj hx => ?_)
        by_cases z : j = q
        · rw [z, h] at hx; cases hx
        · exact hq j (by omega) hx
      · intro h
        have h := zb_ne.mp h
        refine zv_aload_n (pc' := 26) dX7_leastRoom_25 rfl rfl ?_
        refine zv_getR (pc' := 29) dX7_leastRoom_26 rfl flX7_53 (by first | rfl | assumption) rfl ?_
        refine zv_iload (pc' := 31) dX7_leastRoom_29 rfl rfl ?_
        refine zv_ialoadE (pc' := 32) dX7_leastRoom_31 rfl (by first | rfl | assumption) (by decide) (by omega) (by first | exact hX _ (by omega) | exact hR _ (by omega) | rfl) ?_
        refine zv_iload_n (pc' := 33) dX7_leastRoom_32 rfl rfl ?_
        refine zv_icmp_eq (pc' := 36) (tgt := 39) dX7_leastRoom_33 rfl rfl ?_ ?_
        · intro hz
          have hz := (nI_eq (by omega) (by omega)).mp hz
          have kk := kk (by omega) (by
            cases hb : rmB (yX c) f p r
            · rfl
            · exact absurd hz (rmB_iff.mp hb q (by omega) h))
          refine zv_iinc (w := nI 1) (pc' := 42) dX7_leastRoom_39 rfl rfl (by decide) (by decide) ?_
          refine zv_iconst (v := (-1 : Int32)) (pc' := 43) dX7_leastRoom_42 rfl (by decide) ?_
          refine zv_istore (pc' := 45) dX7_leastRoom_43 rfl (by decide) ?_
          refine zv_iinc (w := nI 1) (pc' := 48) dX7_leastRoom_45 rfl rfl (by decide) (by decide) ?_
          refine zv_goto (pc' := 5) dX7_leastRoom_48 rfl ?_
          rw [nI_add, show (-1 : Int32) + nI 1 = nI 0 from by decide]
          exact kk
        · intro hz
          have hz : f q ≠ r := fun e => hz (by rw [e])
          refine zv_goto (pc' := 45) dX7_leastRoom_36 rfl ?_
          refine zv_iinc (w := nI 1) (pc' := 48) dX7_leastRoom_45 rfl rfl (by decide) (by decide) ?_
          refine zv_goto (pc' := 5) dX7_leastRoom_48 rfl ?_
          rw [nI_add]
          refine ih (q + 1) (by omega) (fun j hj hx => ?_)
          by_cases z : j = q
          · rw [z]; exact hz
          · exact hq j (by omega) hx
  have all : ∀ a r, r + a = m → fr ≤ r → (∀ i, fr ≤ i → i < r → rmB (yX c) f p i = false) → ZV mdX7_leastRoom (d + 1) (fun v M' => ∃ x, v = some (.int x) ∧ ((∃ r, x = nI r ∧ fr ≤ r ∧ r ≤ m ∧ rmB (yX c) f p r = true ∧ ∀ i, fr ≤ i → i < r → rmB (yX c) f p i = false) ∧ M' = M)) 5 [some (.ref 90), some (.int (nI p)), some (.int (nI fr)), some (.int (nI r)), some (.int (nI 0))] [] M := by
    intro a
    induction a with
    | zero =>
      intro r e h1 h2
      exact stp r h1 (by omega) h2 (fun z _ => by omega) p 0 (by omega) (fun j hj => by omega)
    | succ a ih =>
      intro r e h1 h2
      refine stp r h1 (by omega) h2 (fun z hb => ?_) p 0 (by omega) (fun j hj => by omega)
      refine ih (r + 1) (by omega) (by omega) (fun i g1 g2 => ?_)
      by_cases z : i = r
      · rw [z]; exact hb
      · exact h2 i g1 (by omega)
  refine zex_intro (L := [some (.ref 90), some (.int (nI p)), some (.int (nI fr)), none, none]) (by decide) (Nat.le_of_ble_eq_true rfl) rfl ?_
  refine zv_iload_n (pc' := 1) dX7_leastRoom_0 rfl rfl ?_
  refine zv_istore_n (pc' := 2) dX7_leastRoom_1 rfl (by decide) ?_
  refine zv_iconst (v := nI 0) (pc' := 3) dX7_leastRoom_2 rfl (by decide) ?_
  refine zv_istore (pc' := 5) dX7_leastRoom_3 rfl (by decide) ?_
  exact all (m - fr) fr (by omega) (Nat.le_refl _) (fun i h1 h2 => by omega)
theorem x7_findRooms {m : Nat} (hA : zAm M c) (hn8 : yN c ≤ 8) (hm : m ≤ 8) : ZFi mdX7_findRooms (d + 2) [.ref 90, .int (nI m)] M (fun x M' => x = zb (rmA (yX c) m (yN c) 0 rmZ).isSome ∧ (∀ g, rmA (yX c) m (yN c) 0 rmZ = some g → ∀ q, q < yN c → M' 104 q = nI (g q)) ∧ zFr [104] [] M M') := by
  have L : ∀ k p, p + (k + 1) = yN c → ∀ f, (∀ q, q < p → f q < m) → ∀ b a fr M1, a ≤ b → fr + a = m → (∀ q, q < p → M1 104 q = nI (f q)) → zFr [104] [] M M1 →
      (∀ g M2, zfo a fr (rmF (yX c) m k p f) = some g → (∀ q, q < yN c → M2 104 q = nI (g q)) → zFr [104] [] M M2 → ZV mdX7_findRooms (d + 2) (fun v M' => ∃ x, v = some (.int x) ∧ (x = zb (rmA (yX c) m (yN c) 0 rmZ).isSome ∧ (∀ g, rmA (yX c) m (yN c) 0 rmZ = some g → ∀ q, q < yN c → M' 104 q = nI (g q)) ∧ zFr [104] [] M M')) 4 [some (.ref 90), some (.int (nI m)), some (.int (nI (yN c))), none, none] [] M2) →
      (∀ M2, zfo a fr (rmF (yX c) m k p f) = none → (∀ q, q < p → M2 104 q = nI (f q)) → zFr [104] [] M M2 → ZV mdX7_findRooms (d + 2) (fun v M' => ∃ x, v = some (.int x) ∧ (x = zb (rmA (yX c) m (yN c) 0 rmZ).isSome ∧ (∀ g, rmA (yX c) m (yN c) 0 rmZ = some g → ∀ q, q < yN c → M' 104 q = nI (g q)) ∧ zFr [104] [] M M')) 46 [some (.ref 90), some (.int (nI m)), some (.int (nI p)), none, none] [] M2) →
      ZV mdX7_findRooms (d + 2) (fun v M' => ∃ x, v = some (.int x) ∧ (x = zb (rmA (yX c) m (yN c) 0 rmZ).isSome ∧ (∀ g, rmA (yX c) m (yN c) 0 rmZ = some g → ∀ q, q < yN c → M' 104 q = nI (g q)) ∧ zFr [104] [] M M')) 4 [some (.ref 90), some (.int (nI m)), some (.int (nI p)), some (.int (nI fr)), none] [] M1 := by
    intro k
    induction k with
    | zero =>
      intro p e f hf b a fr M1 hab ha hR s1 Ks Kf
      have hA1 := hA.same s1 (by simp; omega) (by simp)
      have hN1 := hA1.1
      refine zv_iload_n (pc' := 5) dX7_findRooms_4 rfl rfl ?_
      refine zv_if_lt (pc' := 8) (tgt := 69) dX7_findRooms_5 rfl rfl (fun hcc => absurd hcc (nI_pos (by omega))) (fun _ => ?_)
      refine zv_iload_n (pc' := 9) dX7_findRooms_8 rfl rfl ?_
      refine zv_aload_n (pc' := 10) dX7_findRooms_9 rfl rfl ?_
      refine zv_getIE (pc' := 13) dX7_findRooms_10 rfl flX7_65 (by first | rfl | assumption) rfl (by first | exact hN1 | rfl) ?_
      refine zv_icmp_ge (pc' := 16) (tgt := 69) dX7_findRooms_13 rfl rfl (fun hcc => absurd hcc (nI_ge (by omega) (by omega))) (fun _ => ?_)
      refine zv_aload_n (pc' := 17) dX7_findRooms_16 rfl rfl ?_
      refine zv_iload_n (pc' := 18) dX7_findRooms_17 rfl rfl ?_
      refine zv_iload_n (pc' := 19) dX7_findRooms_18 rfl rfl ?_
      refine zv_cV2_fi (pc' := 22) dX7_findRooms_19 rfl lkX7_239 (by first | rfl | assumption) rfl (Nat.le_of_ble_eq_true rfl) (x7_leastRoom hA1.2.2.2.2.2.2 hR (by omega) hf hm (by omega)) ?_
      rintro x M2 ⟨⟨r, rfl, h1, h2, h3, h4⟩, rfl⟩
      refine zv_istore (pc' := 24) dX7_findRooms_22 rfl (by decide) ?_
      refine zv_iload (pc' := 26) dX7_findRooms_24 rfl rfl ?_
      refine zv_iload_n (pc' := 27) dX7_findRooms_26 rfl rfl ?_
      refine zv_icmp_ge (pc' := 30) (tgt := 46) dX7_findRooms_27 rfl rfl ?_ ?_
      · intro h
        have h := (nI_leI (by omega) (by omega)).mp h
        refine zv_fg [3, 4] ?_
        exact Kf _ (zfo_none.mpr (fun i g1 g2 => by rw [rmF, if_neg (by rw [h4 i g1 (by omega)]; decide)])) hR s1
      · intro h
        have h := mt (nI_leI (a := m) (b := r) (by omega) (by omega)).mpr h
        have hz : zfo a fr (rmF (yX c) m 0 p f) = some (fu f p r) := by
          rw [show a = (r - fr) + ((m - r - 1) + 1) by omega, zfo_skips (fun i g1 g2 => by rw [rmF, if_neg (by rw [h4 i g1 (by omega)]; decide)]), show fr + (r - fr) = r by omega]
          exact zfo_hit (by rw [rmF, if_pos h3]; rfl)
        refine zv_aload_n (pc' := 31) dX7_findRooms_30 rfl rfl ?_
        refine zv_getR (pc' := 34) dX7_findRooms_31 rfl flX7_53 (by first | rfl | assumption) rfl ?_
        refine zv_iload_n (pc' := 35) dX7_findRooms_34 rfl rfl ?_
        refine zv_iload (pc' := 37) dX7_findRooms_35 rfl rfl ?_
        refine zv_iastoreN (pc' := 38) dX7_findRooms_37 rfl (by first | rfl | assumption) (by decide) (by omega) ?_
        refine zv_iinc (w := nI 1) (pc' := 41) dX7_findRooms_38 rfl rfl (by decide) (by decide) ?_
        refine zv_iconst (v := nI 0) (pc' := 42) dX7_findRooms_41 rfl (by decide) ?_
        refine zv_istore_n (pc' := 43) dX7_findRooms_42 rfl (by decide) ?_
        refine zv_goto (pc' := 66) dX7_findRooms_43 rfl ?_
        refine zv_goto (pc' := 4) dX7_findRooms_66 rfl ?_
        rw [nI_add, show p + 1 = yN c by omega]
        refine zv_fg [3, 4] ?_
        refine Ks _ _ hz (fun q hq => ?_) (s1.tr (zFr.up (by decide) (by decide)))
        rw [zup_eq]
        by_cases z : q = p
        · rw [z, upd_s, fu_s]
        · rw [upd_n z, fu_n z]; exact hR q (by omega)
    | succ k ihk =>
      intro p e f hf b
      induction b with
      | zero =>
        intro a fr M1 hab ha hR s1 Ks Kf
        have hA1 := hA.same s1 (by simp; omega) (by simp)
        have hN1 := hA1.1
        refine zv_iload_n (pc' := 5) dX7_findRooms_4 rfl rfl ?_
        refine zv_if_lt (pc' := 8) (tgt := 69) dX7_findRooms_5 rfl rfl (fun hcc => absurd hcc (nI_pos (by omega))) (fun _ => ?_)
        refine zv_iload_n (pc' := 9) dX7_findRooms_8 rfl rfl ?_
        refine zv_aload_n (pc' := 10) dX7_findRooms_9 rfl rfl ?_
        refine zv_getIE (pc' := 13) dX7_findRooms_10 rfl flX7_65 (by first | rfl | assumption) rfl (by first | exact hN1 | rfl) ?_
        refine zv_icmp_ge (pc' := 16) (tgt := 69) dX7_findRooms_13 rfl rfl (fun hcc => absurd hcc (nI_ge (by omega) (by omega))) (fun _ => ?_)
        refine zv_aload_n (pc' := 17) dX7_findRooms_16 rfl rfl ?_
        refine zv_iload_n (pc' := 18) dX7_findRooms_17 rfl rfl ?_
        refine zv_iload_n (pc' := 19) dX7_findRooms_18 rfl rfl ?_
        refine zv_cV2_fi (pc' := 22) dX7_findRooms_19 rfl lkX7_239 (by first | rfl | assumption) rfl (Nat.le_of_ble_eq_true rfl) (x7_leastRoom hA1.2.2.2.2.2.2 hR (by omega) hf hm (by omega)) ?_
        rintro x M2 ⟨⟨r, rfl, h1, h2, h3, h4⟩, rfl⟩
        refine zv_istore (pc' := 24) dX7_findRooms_22 rfl (by decide) ?_
        refine zv_iload (pc' := 26) dX7_findRooms_24 rfl rfl ?_
        refine zv_iload_n (pc' := 27) dX7_findRooms_26 rfl rfl ?_
        refine zv_icmp_ge (pc' := 30) (tgt := 46) dX7_findRooms_27 rfl rfl (fun _ => ?_) (fun hcc => absurd (nI_le (by omega) (by omega)) hcc)
        refine zv_fg [3, 4] ?_
        exact Kf _ (zfo_none.mpr (fun i g1 g2 => by omega)) hR s1
      | succ b ihb =>
        intro a fr M1 hab ha hR s1 Ks Kf
        have hA1 := hA.same s1 (by simp; omega) (by simp)
        have hN1 := hA1.1
        refine zv_iload_n (pc' := 5) dX7_findRooms_4 rfl rfl ?_
        refine zv_if_lt (pc' := 8) (tgt := 69) dX7_findRooms_5 rfl rfl (fun hcc => absurd hcc (nI_pos (by omega))) (fun _ => ?_)
        refine zv_iload_n (pc' := 9) dX7_findRooms_8 rfl rfl ?_
        refine zv_aload_n (pc' := 10) dX7_findRooms_9 rfl rfl ?_
        refine zv_getIE (pc' := 13) dX7_findRooms_10 rfl flX7_65 (by first | rfl | assumption) rfl (by first | exact hN1 | rfl) ?_
        refine zv_icmp_ge (pc' := 16) (tgt := 69) dX7_findRooms_13 rfl rfl (fun hcc => absurd hcc (nI_ge (by omega) (by omega))) (fun _ => ?_)
        refine zv_aload_n (pc' := 17) dX7_findRooms_16 rfl rfl ?_
        refine zv_iload_n (pc' := 18) dX7_findRooms_17 rfl rfl ?_
        refine zv_iload_n (pc' := 19) dX7_findRooms_18 rfl rfl ?_
        refine zv_cV2_fi (pc' := 22) dX7_findRooms_19 rfl lkX7_239 (by first | rfl | assumption) rfl (Nat.le_of_ble_eq_true rfl) (x7_leastRoom hA1.2.2.2.2.2.2 hR (by omega) hf hm (by omega)) ?_
        rintro x M2 ⟨⟨r, rfl, h1, h2, h3, h4⟩, rfl⟩
        refine zv_istore (pc' := 24) dX7_findRooms_22 rfl (by decide) ?_
        refine zv_iload (pc' := 26) dX7_findRooms_24 rfl rfl ?_
        refine zv_iload_n (pc' := 27) dX7_findRooms_26 rfl rfl ?_
        refine zv_icmp_ge (pc' := 30) (tgt := 46) dX7_findRooms_27 rfl rfl ?_ ?_
        · intro h
          have h := (nI_leI (by omega) (by omega)).mp h
          refine zv_fg [3, 4] ?_
          exact Kf _ (zfo_none.mpr (fun i g1 g2 => by rw [rmF, if_neg (by rw [h4 i g1 (by omega)]; decide)])) hR s1
        · intro h
          have h := mt (nI_leI (a := m) (b := r) (by omega) (by omega)).mpr h
          have hz : zfo a fr (rmF (yX c) m (k + 1) p f) = zfo ((m - r - 1) + 1) r (rmF (yX c) m (k + 1) p f) := by
            rw [show a = (r - fr) + ((m - r - 1) + 1) by omega, zfo_skips (fun i g1 g2 => by rw [rmF, if_neg (by rw [h4 i g1 (by omega)]; decide)]), show fr + (r - fr) = r by omega]
          have hF : rmF (yX c) m (k + 1) p f r = zfo m 0 (rmF (yX c) m k (p + 1) (fu f p r)) := by rw [rmF, if_pos h3, rmA_s]
          refine zv_aload_n (pc' := 31) dX7_findRooms_30 rfl rfl ?_
          refine zv_getR (pc' := 34) dX7_findRooms_31 rfl flX7_53 (by first | rfl | assumption) rfl ?_
          refine zv_iload_n (pc' := 35) dX7_findRooms_34 rfl rfl ?_
          refine zv_iload (pc' := 37) dX7_findRooms_35 rfl rfl ?_
          refine zv_iastoreN (pc' := 38) dX7_findRooms_37 rfl (by first | rfl | assumption) (by decide) (by omega) ?_
          refine zv_iinc (w := nI 1) (pc' := 41) dX7_findRooms_38 rfl rfl (by decide) (by decide) ?_
          refine zv_iconst (v := nI 0) (pc' := 42) dX7_findRooms_41 rfl (by decide) ?_
          refine zv_istore_n (pc' := 43) dX7_findRooms_42 rfl (by decide) ?_
          refine zv_goto (pc' := 66) dX7_findRooms_43 rfl ?_
          refine zv_goto (pc' := 4) dX7_findRooms_66 rfl ?_
          rw [nI_add]
          refine zv_fg [4] ?_
          refine ihk (p + 1) (by omega) (fu f p r) (fun q hq => ?_) m m 0 _ (Nat.le_refl _) (by omega) (fun q hq => ?_) (s1.tr (zFr.up (by decide) (by decide))) (fun g M3 g1 g2 g3 => ?_) (fun M3 g1 g2 g3 => ?_)
          · by_cases z : q = p
            · rw [z, fu_s]; omega
            · rw [fu_n z]; exact hf q (by omega)
          · rw [zup_eq]
            by_cases z : q = p
            · rw [z, upd_s, fu_s]
            · rw [upd_n z, fu_n z]; exact hR q (by omega)
          · exact Ks g M3 (by rw [hz]; exact zfo_hit (hF.trans g1)) g2 g3
          · rw [zfo_skip (hF.trans g1)] at hz
            have hrp : M3 104 p = nI r := by rw [g2 p (by omega), fu_s]
            refine zv_iinc (w := (-1 : Int32)) (pc' := 49) dX7_findRooms_46 rfl rfl (by decide) (by decide) ?_
            refine zv_iload_n (pc' := 50) dX7_findRooms_49 rfl rfl ?_
            rw [nI_down]
            refine zv_if_ge (pc' := 53) (tgt := 57) dX7_findRooms_50 rfl rfl (fun _ => ?_) (fun hcc => absurd (nI_pos' (by omega)) hcc)
            refine zv_aload_n (pc' := 58) dX7_findRooms_57 rfl rfl ?_
            refine zv_getR (pc' := 61) dX7_findRooms_58 rfl flX7_53 (by first | rfl | assumption) rfl ?_
            refine zv_iload_n (pc' := 62) dX7_findRooms_61 rfl rfl ?_
            refine zv_ialoadE (pc' := 63) dX7_findRooms_62 rfl (by first | rfl | assumption) (by decide) (by omega) (by first | exact hrp | rfl) ?_
            refine zv_iconst (v := nI 1) (pc' := 64) dX7_findRooms_63 rfl (by decide) ?_
            refine zv_iadd (pc' := 65) dX7_findRooms_64 rfl ?_
            refine zv_top (nI_add _ _) ?_
            refine zv_istore_n (pc' := 66) dX7_findRooms_65 rfl (by decide) ?_
            refine zv_goto (pc' := 4) dX7_findRooms_66 rfl ?_
            refine ihb (m - r - 1) (r + 1) M3 (by omega) (by omega) (fun q hq => by rw [g2 q (by omega), fu_n (by omega)]) g3 (fun g M4 q1 q2 q3 => Ks g M4 (hz.trans q1) q2 q3) (fun M4 q1 q2 q3 => Kf M4 (hz.trans q1) q2 q3)
  have good : ∀ g M2, rmA (yX c) m (yN c) 0 rmZ = some g → (∀ q, q < yN c → M2 104 q = nI (g q)) → zFr [104] [] M M2 → ZV mdX7_findRooms (d + 2) (fun v M' => ∃ x, v = some (.int x) ∧ (x = zb (rmA (yX c) m (yN c) 0 rmZ).isSome ∧ (∀ g, rmA (yX c) m (yN c) 0 rmZ = some g → ∀ q, q < yN c → M' 104 q = nI (g q)) ∧ zFr [104] [] M M')) 4 [some (.ref 90), some (.int (nI m)), some (.int (nI (yN c))), none, none] [] M2 := by
    intro g M2 h1 h2 h3
    have hN1 := (hA.same h3 (by simp; omega) (by simp)).1
    refine zv_iload_n (pc' := 5) dX7_findRooms_4 rfl rfl ?_
    refine zv_if_lt (pc' := 8) (tgt := 69) dX7_findRooms_5 rfl rfl (fun hcc => absurd hcc (nI_pos (by omega))) (fun _ => ?_)
    refine zv_iload_n (pc' := 9) dX7_findRooms_8 rfl rfl ?_
    refine zv_aload_n (pc' := 10) dX7_findRooms_9 rfl rfl ?_
    refine zv_getIE (pc' := 13) dX7_findRooms_10 rfl flX7_65 (by first | rfl | assumption) rfl (by first | exact hN1 | rfl) ?_
    refine zv_icmp_ge (pc' := 16) (tgt := 69) dX7_findRooms_13 rfl rfl (fun _ => ?_) (fun hcc => absurd (Int32.le_refl _) hcc)
    refine zv_iload_n (pc' := 70) dX7_findRooms_69 rfl rfl ?_
    refine zv_if_lt (pc' := 73) (tgt := 77) dX7_findRooms_70 rfl rfl (fun hcc => absurd hcc (nI_pos (by omega))) (fun _ => ?_)
    refine zv_iconst (v := nI 1) (pc' := 74) dX7_findRooms_73 rfl (by decide) ?_
    refine zv_goto (pc' := 78) dX7_findRooms_74 rfl ?_
    refine zv_ireturn dX7_findRooms_78 rfl (by first | rfl | exact zb_nar _) ?_
    rw [h1]
    exact ⟨_, rfl, rfl, fun g' hg => by rw [← Option.some.inj hg]; exact h2, h3⟩
  refine zex_intro (L := [some (.ref 90), some (.int (nI m)), none, none, none]) (by decide) (Nat.le_of_ble_eq_true rfl) rfl ?_
  refine zv_iconst (v := nI 0) (pc' := 1) dX7_findRooms_0 rfl (by decide) ?_
  refine zv_istore_n (pc' := 2) dX7_findRooms_1 rfl (by decide) ?_
  refine zv_iconst (v := nI 0) (pc' := 3) dX7_findRooms_2 rfl (by decide) ?_
  refine zv_istore_n (pc' := 4) dX7_findRooms_3 rfl (by decide) ?_
  rcases Nat.eq_zero_or_pos (yN c) with hN | hN
  · refine zv_fg [3] ?_
    refine zv_eq (L2 := [some (.ref 90), some (.int (nI m)), some (.int (nI (yN c))), none, none]) (by rw [hN]; all_goals rfl) rfl rfl ?_
    refine good rmZ M (by rw [hN]; rfl) (fun q hq => by omega) zFr.rf
  · obtain ⟨k, hN⟩ : ∃ k, yN c = k + 1 := ⟨yN c - 1, by omega⟩
    refine L k 0 (by omega) rmZ (fun q hq => by omega) m m 0 M (Nat.le_refl _) (by omega) (fun q hq => by omega) zFr.rf (fun g M2 h1 h2 h3 => ?_) (fun M2 h1 h2 h3 => ?_)
    · exact good g M2 (by rw [hN, rmA_s]; exact h1) h2 h3
    · refine zv_iinc (w := (-1 : Int32)) (pc' := 49) dX7_findRooms_46 rfl rfl (by decide) (by decide) ?_
      refine zv_iload_n (pc' := 50) dX7_findRooms_49 rfl rfl ?_
      rw [show nI 0 + (-1 : Int32) = -1 from by decide]
      refine zv_if_ge (pc' := 53) (tgt := 57) dX7_findRooms_50 rfl rfl (fun hcc => absurd hcc (by decide)) (fun _ => ?_)
      refine zv_iconst (v := nI 0) (pc' := 54) dX7_findRooms_53 rfl (by decide) ?_
      refine zv_goto (pc' := 65) dX7_findRooms_54 rfl ?_
      refine zv_istore_n (pc' := 66) dX7_findRooms_65 rfl (by decide) ?_
      refine zv_goto (pc' := 4) dX7_findRooms_66 rfl ?_
      refine zv_iload_n (pc' := 5) dX7_findRooms_4 rfl rfl ?_
      refine zv_if_lt (pc' := 8) (tgt := 69) dX7_findRooms_5 rfl rfl (fun _ => ?_) (fun hcc => absurd (by decide) hcc)
      refine zv_iload_n (pc' := 70) dX7_findRooms_69 rfl rfl ?_
      refine zv_if_lt (pc' := 73) (tgt := 77) dX7_findRooms_70 rfl rfl (fun _ => ?_) (fun hcc => absurd (by decide) hcc)
      refine zv_iconst (v := nI 0) (pc' := 78) dX7_findRooms_77 rfl (by decide) ?_
      refine zv_ireturn dX7_findRooms_78 rfl (by first | rfl | exact zb_nar _) ?_
      have e : rmA (yX c) m (yN c) 0 rmZ = none := by rw [hN, rmA_s]; exact h1
      rw [e]
      exact ⟨_, rfl, rfl, fun g hg => (by cases hg), h3⟩
end
section
variable {d : Nat}
theorem gm_rooms (x : Int32) : zGm mdX7_rooms (d + 3) [.int x] (sp_rooms x) := by
  intro M s hI hk
  have hn8 := hk.1.1
  have hN := hI.1.1
  have fin : ∀ m g M1, (x = -1 ∨ hasB (yN (sC s)) x = true) → m ≤ 8 → rmM (yX (sC s)) (yN (sC s)) = m ∧ rmW (yX (sC s)) (yN (sC s)) = g → (∀ q, q < yN (sC s) → M1 104 q = nI (g q)) → zFr [104] [] M M1 → ZV mdX7_rooms (d + 3) (fun v M' => ∃ r, v = some (.int r) ∧ (r = (sp_rooms x s).1 ∧ zIm M' (sp_rooms x s).2 ∧ ∀ k, k < 90 → M' k = M k)) 35 [some (.ref 90), some (.int x), some (.int (nI m))] [] M1 := by
    intro m g M1 hx hm he hg s1
    refine zv_iload_n (pc' := 36) dX7_rooms_35 rfl rfl ?_
    rcases hx with rfl | hx
    · refine zv_if_ge (pc' := 39) (tgt := 43) dX7_rooms_36 rfl rfl (fun hcc => absurd hcc (by decide)) (fun _ => ?_)
      refine zv_iload_n (pc' := 40) dX7_rooms_39 rfl rfl ?_
      refine zv_goto (pc' := 49) dX7_rooms_40 rfl ?_
      refine zv_iret dX7_rooms_49 rfl ?_
      exact zdonme (by rw [sp_rooms, zans_0 (by rw [if_pos rfl]), if_pos rfl, he.1]) hI (zTe.rm hI.1 s1)
    · obtain ⟨p, hp, rfl⟩ := hasB_of hn8 hx
      have hne : ¬ nI p = -1 := (by decide +kernel : ∀ p, p < 8 → ¬ nI p = -1) p (by omega)
      have hgp := hg p hp
      refine zv_if_ge (pc' := 39) (tgt := 43) dX7_rooms_36 rfl rfl (fun _ => ?_) (fun hcc => absurd (nI_pos' (by omega)) hcc)
      refine zv_aload_n (pc' := 44) dX7_rooms_43 rfl rfl ?_
      refine zv_getR (pc' := 47) dX7_rooms_44 rfl flX7_53 (by first | rfl | assumption) rfl ?_
      refine zv_iload_n (pc' := 48) dX7_rooms_47 rfl rfl ?_
      refine zv_ialoadE (pc' := 49) dX7_rooms_48 rfl (by first | rfl | assumption) (by decide) (by omega) (by first | exact hgp | rfl) ?_
      refine zv_iret dX7_rooms_49 rfl ?_
      exact zdonme (by rw [sp_rooms, zans_0 (by rw [if_neg hne]; exact nbN_0.mpr hx), if_neg hne, he.2, pN_nI (by omega)]) hI (zTe.rm hI.1 s1)
  have lp : (x = -1 ∨ hasB (yN (sC s)) x = true) → ∀ j m M1, m + j = yN (sC s) → zFr [104] [] M M1 → (∀ i, i < m → rmA (yX (sC s)) i (yN (sC s)) 0 rmZ = none) → ZV mdX7_rooms (d + 3) (fun v M' => ∃ r, v = some (.int r) ∧ (r = (sp_rooms x s).1 ∧ zIm M' (sp_rooms x s).2 ∧ ∀ k, k < 90 → M' k = M k)) 21 [some (.ref 90), some (.int x), some (.int (nI m))] [] M1 := by
    intro hx j
    induction j with
    | zero =>
      intro m M1 e s1 hno
      have e : m = yN (sC s) := by omega
      subst e
      have hA1 := hI.1.same s1 (by simp; omega) (by simp)
      refine zv_aload_n (pc' := 22) dX7_rooms_21 rfl rfl ?_
      refine zv_iload_n (pc' := 23) dX7_rooms_22 rfl rfl ?_
      refine zv_cV1_fi (pc' := 26) dX7_rooms_23 rfl lkX7_242 (by first | rfl | assumption) rfl (Nat.le_of_ble_eq_true rfl) (x7_findRooms hA1 hn8 hn8) ?_
      rintro r M2 ⟨rfl, hs, s2⟩
      cases q : rmA (yX (sC s)) (yN (sC s)) (yN (sC s)) 0 rmZ with
      | none => exact absurd q rmA_ex
      | some g =>
        refine zv_if_ne (pc' := 29) (tgt := 35) dX7_rooms_26 rfl rfl (fun _ => ?_) (fun hcc => absurd hcc (zb_ne.mpr rfl))
        exact fin _ g M2 hx hn8 (rm_is (Nat.le_refl _) hno q) (hs g q) (s1.tr s2)
    | succ j ih =>
      intro m M1 e s1 hno
      have hA1 := hI.1.same s1 (by simp; omega) (by simp)
      refine zv_aload_n (pc' := 22) dX7_rooms_21 rfl rfl ?_
      refine zv_iload_n (pc' := 23) dX7_rooms_22 rfl rfl ?_
      refine zv_cV1_fi (pc' := 26) dX7_rooms_23 rfl lkX7_242 (by first | rfl | assumption) rfl (Nat.le_of_ble_eq_true rfl) (x7_findRooms hA1 hn8 (by omega)) ?_
      rintro r M2 ⟨rfl, hs, s2⟩
      cases q : rmA (yX (sC s)) m (yN (sC s)) 0 rmZ with
      | none =>
        refine zv_if_ne (pc' := 29) (tgt := 35) dX7_rooms_26 rfl rfl (fun hcc => absurd (rfl) hcc) (fun _ => ?_)
        refine zv_iinc (w := nI 1) (pc' := 32) dX7_rooms_29 rfl rfl (by decide) (by decide) ?_
        refine zv_goto (pc' := 21) dX7_rooms_32 rfl ?_
        rw [nI_add]
        refine ih (m + 1) M2 (by omega) (s1.tr s2) (fun i hi => ?_)
        by_cases z : i = m
        · rw [z]; exact q
        · exact hno i (by omega)
      | some g =>
        refine zv_if_ne (pc' := 29) (tgt := 35) dX7_rooms_26 rfl rfl (fun _ => ?_) (fun hcc => absurd hcc (zb_ne.mpr rfl))
        exact fin _ g M2 hx (by omega) (rm_is (by omega) hno q) (hs g q) (s1.tr s2)
  refine zex_intro (L := [some (.ref 90), some (.int x), none]) (by decide) (Nat.le_of_ble_eq_true rfl) rfl ?_
  refine zv_iload_n (pc' := 1) dX7_rooms_0 rfl rfl ?_
  refine zv_iconst (v := (-1 : Int32)) (pc' := 2) dX7_rooms_1 rfl (by decide) ?_
  refine zv_icmp_eq (pc' := 5) (tgt := 19) dX7_rooms_2 rfl rfl ?_ ?_
  · intro hx
    refine zv_iconst (v := nI 0) (pc' := 20) dX7_rooms_19 rfl (by decide) ?_
    refine zv_istore_n (pc' := 21) dX7_rooms_20 rfl (by decide) ?_
    exact lp (Or.inl hx) (yN (sC s)) 0 M (by omega) zFr.rf (fun i hi => by omega)
  · intro hx
    refine zv_aload_n (pc' := 6) dX7_rooms_5 rfl rfl ?_
    refine zv_iload_n (pc' := 7) dX7_rooms_6 rfl rfl ?_
    refine zv_cV1_pi (pc' := 10) dX7_rooms_7 rfl lkX7_71 (by first | rfl | assumption) rfl (Nat.le_of_ble_eq_true rfl) (x7_isOne hN) ?_
    refine zv_if_ne (pc' := 13) (tgt := 19) dX7_rooms_10 rfl rfl ?_ ?_
    · intro h
      refine zv_iconst (v := nI 0) (pc' := 20) dX7_rooms_19 rfl (by decide) ?_
      refine zv_istore_n (pc' := 21) dX7_rooms_20 rfl (by decide) ?_
      exact lp (Or.inr (zb_ne.mp h)) (yN (sC s)) 0 M (by omega) zFr.rf (fun i hi => by omega)
    · intro h
      have h0 : (if x = -1 then 0 else nbN (yN (sC s)) x) = 1 := by rw [if_neg hx, nbN, if_neg (by rw [zb_0.mp h]; decide)]
      refine zv_aload_n (pc' := 14) dX7_rooms_13 rfl rfl ?_
      refine zv_iconst (v := (-1 : Int32)) (pc' := 15) dX7_rooms_14 rfl (by decide) ?_
      refine zv_top (show (-1 : Int32) = -nI 1 by decide) ?_
      refine zv_cV1_fi (pc' := 18) dX7_rooms_15 rfl lkX7_89 (by first | rfl | assumption) rfl (Nat.le_of_ble_eq_true rfl) (x7_no (by decide)) ?_
      rintro r M1 ⟨rfl, rfl⟩
      refine zv_iret dX7_rooms_18 rfl ?_
      rw [sp_rooms, h0]
      exact zrefm hI (by decide)
end
