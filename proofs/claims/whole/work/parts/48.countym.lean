/-! county: the reference -/
theorem zIm.drop {M : ZMem} {s : ZS} (h : zIm M s) : zIm (zup M 90 13 (nI 0)) (dropS s) := by
  obtain ⟨h1, h2, h3, h4, h5, h6⟩ := h
  have hs : zFr [] [13] M (zup M 90 13 (nI 0)) := zFr.uf (by decide)
  refine ⟨h1.same hs (by simp) (by simp), by rw [hs.2 8 (by decide)]; exact h2, ⟨by rw [hs.2 17 (by decide)]; exact h3.1, fun ci hc => (h3.2 ci hc).same (fun i _ _ => by rw [hs.1 101 (by decide) (by decide)])⟩, ⟨?_, fun j hj => absurd hj (Nat.not_lt_zero j)⟩, by rw [hs.2 26 (by decide), hs.1 107 (by decide) (by decide)]; exact h5, by rw [hs.1 91 (by decide) (by decide)]; exact h6⟩
  rw [zup_eq, upd_s]
  rfl
theorem tdC_le (x : Nat) : tdC x ≤ 3 := by
  unfold tdC
  repeat' split
  all_goals omega
/-- what has been read of the first k statements -/
def stI (l : ZLt) (k : Nat) (M : ZMem) : Prop := ∀ i, i < k → bdA l (psN l i) = none ∧ psN l i < l.1 ∧ i < 48 ∧ M 98 i = nI (l.2 (psN l i)) ∧ M 99 i = nI (psN l i) ∧ ∀ j, j < tdC (l.2 (psN l i)) → M 100 (3 * i + j) = nI (tdN l (psN l i) j)
theorem stI.same {l : ZLt} {k : Nat} {M M' : ZMem} (h : stI l k M) (h1 : M' 98 = M 98) (h2 : M' 99 = M 99) (h3 : M' 100 = M 100) : stI l k M' := by
  unfold stI
  rw [h1, h2, h3]
  exact h
section
variable {d : Nat}
theorem gm_county : zGm mdX7_county (d + 6) [] sp_county := by
  intro M s hI hk
  have hn8 := hk.1.1
  have hl : zLm M (sL s) := ⟨hI.2.2.2.1.1, hI.2.2.2.1.2, hk.2.2.2.1.1, hk.2.2.2.1.2⟩
  have h96 := hl.2.2.1
  have toM : ∀ M1, zFr [98, 99, 100] [14, 15] M M1 → zAm M1 (sC s) ∧ zIm M1 s := by
    intro M1 f1
    have hA1 := hI.1.same f1 (by simp; omega) (by simp)
    exact ⟨hA1, hI.frm hA1 f1 (by simp) (by simp) (fun i _ => by rw [f1.1 101 (by decide) (by decide)])⟩
  have bad : ∀ b M1, formO (sL s) = some b → M1 90 14 = nI b → zFr [98, 99, 100] [14, 15] M M1 → ZV mdX7_county (d + 6) (fun v M' => ∃ r, v = some (.int r) ∧ (r = (sp_county s).1 ∧ zIm M' (sp_county s).2 ∧ ∀ k, k < 90 → M' k = M k)) 12 [some (.ref 90), some (.int (zb false)), none] [] M1 := by
    intro b M1 hf hb f1
    have a1 : zup M1 90 13 (nI 0) 90 14 = nI b := by rw [zup_eq, upd_n (by decide)]; exact hb
    refine zv_iload_n (pc' := 13) dX7_county_12 rfl rfl ?_
    refine zv_if_eq (pc' := 16) (tgt := 60) dX7_county_13 rfl rfl (fun _ => ?_) (fun hcc => absurd (rfl) hcc)
    refine zv_aload_n (pc' := 61) dX7_county_60 rfl rfl ?_
    refine zv_iconst (v := nI 0) (pc' := 62) dX7_county_61 rfl (by decide) ?_
    refine zv_putI (pc' := 65) dX7_county_62 rfl flX7_86 pfX7_13 (by first | rfl | assumption) rfl rfl rfl ?_
    refine zv_iload_n (pc' := 66) dX7_county_65 rfl rfl ?_
    refine zv_if_ne (pc' := 69) (tgt := 78) dX7_county_66 rfl rfl (fun hcc => absurd (rfl) hcc) (fun _ => ?_)
    refine zv_sipush (v := (-1000 : Int32)) (pc' := 72) dX7_county_69 rfl (by decide) ?_
    refine zv_aload_n (pc' := 73) dX7_county_72 rfl rfl ?_
    refine zv_getIE (pc' := 76) dX7_county_73 rfl flX7_93 (by first | rfl | assumption) rfl (by first | exact a1 | rfl) ?_
    refine zv_isub (pc' := 77) dX7_county_76 rfl ?_
    refine zv_iret dX7_county_77 rfl ?_
    refine zdonm (s' := dropS s) ?_ (toM M1 f1).2.drop (fun k hk => ?_)
    · unfold sp_county
      rw [hf]
    · rw [zup_ne (by omega)]
      exact f1.1 k (by simp; omega) (by omega)
  have good : ∀ S M1, S ≤ 97 → formO (sL s) = none → (sL s).1 ≤ psN (sL s) S → M1 90 15 = nI S → stI (sL s) S M1 → zFr [98, 99, 100] [14, 15] M M1 → ZV mdX7_county (d + 6) (fun v M' => ∃ r, v = some (.int r) ∧ (r = (sp_county s).1 ∧ zIm M' (sp_county s).2 ∧ ∀ k, k < 90 → M' k = M k)) 60 [some (.ref 90), some (.int (nI 1)), none] [] M1 := by
    intro S M1 hS hf hn h15 hst f1
    have hf0 : fmO (sL s) 97 0 = none := by
      unfold formO at hf
      split at hf
      · cases hf
      · exact hf
    refine zv_aload_n (pc' := 61) dX7_county_60 rfl rfl ?_
    refine zv_iconst (v := nI 0) (pc' := 62) dX7_county_61 rfl (by decide) ?_
    refine zv_putI (pc' := 65) dX7_county_62 rfl flX7_86 pfX7_13 (by first | rfl | assumption) rfl rfl rfl ?_
    refine zv_iload_n (pc' := 66) dX7_county_65 rfl rfl ?_
    have hI2 := (toM M1 f1).2.drop
    have f2 : zFr [] [13] M1 (zup M1 90 13 (nI 0)) := zFr.uf (by decide)
    generalize zup M1 90 13 (nI 0) = M2 at hI2 f2 ⊢
    have lt2 : ∀ k, k < 90 → M2 k = M k := fun k hk => (f2.1 k (by simp) (by omega)).trans (f1.1 k (by simp; omega) (by omega))
    have n2 : M2 90 15 = nI S := by rw [f2.2 15 (by decide)]; exact h15
    have st2 := hst.same (f2.1 98 (by decide) (by decide)) (f2.1 99 (by decide) (by decide)) (f2.1 100 (by decide) (by decide))
    have lp : ∀ r j c1 M4, j + r = S → zAm M4 c1 → zOk c1 → yY c1 ≤ 999 → zKp M4 42 (sC s) → zFr [92, 93, 94, 95, 96, 101] [6, 7, 18, 19] M2 M4 → (∀ i, i < 42 → M4 101 i = M2 101 i) → tlO (sL s) 97 0 (sC s) = tlO (sL s) (97 - j) j c1 → ZV mdX7_county (d + 6) (fun v M' => ∃ r, v = some (.int r) ∧ (r = (sp_county s).1 ∧ zIm M' (sp_county s).2 ∧ ∀ k, k < 90 → M' k = M k)) 86 [some (.ref 90), some (.int (nI 1)), some (.int (nI j))] [] M4 := by
      intro r
      induction r with
      | zero =>
        intro j c1 M4 e hA4 hk4 hy4 hK4 f4 o4 ht
        have e : j = S := by omega
        subst e
        have ht : tlO (sL s) 97 0 (sC s) = .inr (j, c1) := by
          rw [ht]
          cases hq : 97 - j with
          | zero => rfl
          | succ f => rw [tlO_s, if_pos hn]
        have n4 : M4 90 15 = nI j := by rw [f4.2 15 (by decide)]; exact n2
        refine zv_iload_n (pc' := 87) dX7_county_86 rfl rfl ?_
        refine zv_aload_n (pc' := 88) dX7_county_87 rfl rfl ?_
        refine zv_getIE (pc' := 91) dX7_county_88 rfl flX7_113 (by first | rfl | assumption) rfl (by first | exact n4 | rfl) ?_
        refine zv_icmp_ge (pc' := 94) (tgt := 128) dX7_county_91 rfl rfl (fun _ => ?_) (fun hcc => absurd (Int32.le_refl _) hcc)
        refine zv_aload_n (pc' := 129) dX7_county_128 rfl rfl ?_
        refine zv_getIE (pc' := 132) dX7_county_129 rfl flX7_113 (by first | rfl | assumption) rfl (by first | exact n4 | rfl) ?_
        refine zv_iret dX7_county_132 rfl ?_
        refine zdonm (s' := dropS (c1, s.2)) ?_ (hI2.frm hA4 f4 (by simp) (by simp) o4) (fun k hk => (f4.1 k (by simp; omega) (by omega)).trans (lt2 k hk))
        unfold sp_county
        rw [hf, ht]
      | succ r ih =>
        intro j c1 M4 e hA4 hk4 hy4 hK4 f4 o4 ht
        obtain ⟨g1, g2, g3, g4, g5, g6⟩ := st2 j (by omega)
        have n4 : M4 90 15 = nI S := by rw [f4.2 15 (by decide)]; exact n2
        have D4 : M4 90 8 = absM 100 := by rw [f4.2 8 (by decide)]; exact hI2.2.1
        rw [show 97 - j = (97 - (j + 1)) + 1 by omega, tlO_s (f := 97 - (j + 1)) (k := j) (c := c1), if_neg (by omega)] at ht
        refine zv_iload_n (pc' := 87) dX7_county_86 rfl rfl ?_
        refine zv_aload_n (pc' := 88) dX7_county_87 rfl rfl ?_
        refine zv_getIE (pc' := 91) dX7_county_88 rfl flX7_113 (by first | rfl | assumption) rfl (by first | exact n4 | rfl) ?_
        refine zv_icmp_ge (pc' := 94) (tgt := 128) dX7_county_91 rfl rfl (fun hcc => absurd hcc (nI_ge (by omega) (by omega))) (fun _ => ?_)
        refine zv_aload_n (pc' := 95) dX7_county_94 rfl rfl ?_
        refine zv_iload_n (pc' := 96) dX7_county_95 rfl rfl ?_
        refine zv_cV1_fi (pc' := 99) dX7_county_96 rfl lkX7_151 (by first | rfl | assumption) rfl (Nat.le_of_ble_eq_true rfl) (x7_comes (l := sL s) (st := psN (sL s) j) hA4 hk4 D4 g1 g3 (by rw [f4.1 98 (by decide) (by decide)]; exact g4) (by rw [f4.1 100 (by decide) (by decide)]; exact g6)) ?_
        rintro x M5 ⟨rfl, q5, f5⟩
        have f45 : zFr [92, 93, 94, 95, 96, 101] [6, 7, 18, 19] M2 M5 := f4.tr (f5.mono (by simp) (by simp))
        have e101 : M5 101 = M4 101 := f5.1 101 (by decide) (by decide)
        cases ho : oneC (sL s) (psN (sL s) j) c1 with
        | none =>
          rw [ho] at ht
          have ht : tlO (sL s) 97 0 (sC s) = .inl (psN (sL s) j) := ht
          refine zv_if_eq (pc' := 102) (tgt := 105) dX7_county_99 rfl rfl (fun _ => ?_) (fun hcc => absurd (rfl) hcc)
          refine zv_aload_n (pc' := 106) dX7_county_105 rfl rfl ?_
          refine zv_iconst (v := nI 1) (pc' := 107) dX7_county_106 rfl (by decide) ?_
          refine zv_iconst (v := nI 0) (pc' := 108) dX7_county_107 rfl (by decide) ?_
          refine zv_cV2_fv (pc' := 111) dX7_county_108 rfl lkX7_147 (by first | rfl | assumption) rfl (Nat.le_of_ble_eq_true rfl) (x7_backAll (w := 1) (hK4.same (fun i _ _ => by rw [e101])) (by decide)) ?_
          rintro M6 ⟨h6, f6⟩
          have g9 : M6 99 j = nI (psN (sL s) j) := by rw [f6.1 99 (by decide) (by decide), f45.1 99 (by decide) (by decide)]; exact g5
          refine zv_sipush (v := (-2000 : Int32)) (pc' := 114) dX7_county_111 rfl (by decide) ?_
          refine zv_aload_n (pc' := 115) dX7_county_114 rfl rfl ?_
          refine zv_getR (pc' := 118) dX7_county_115 rfl flX7_38 (by first | rfl | assumption) rfl ?_
          refine zv_iload_n (pc' := 119) dX7_county_118 rfl rfl ?_
          refine zv_ialoadE (pc' := 120) dX7_county_119 rfl (by first | rfl | assumption) (by decide) (by omega) (by first | exact g9 | rfl) ?_
          refine zv_isub (pc' := 121) dX7_county_120 rfl ?_
          refine zv_iret dX7_county_121 rfl ?_
          have f46 : zFr [92, 93, 94, 95, 96, 101] [6, 7, 18, 19] M2 M6 := f45.tr (f6.mono (by simp) (by simp))
          refine zdonm (s' := dropS s) ?_ (hI2.frm h6 f46 (by simp) (by simp) (fun i hi => by rw [f6.1 101 (by decide) (by decide), e101]; exact o4 i hi)) (fun k hk => (f46.1 k (by simp; omega) (by omega)).trans (lt2 k hk))
          unfold sp_county
          rw [hf, ht]
        | some c2 =>
          rw [ho] at ht
          have hc2 := oneC_ok g1 hk4 hy4 ho
          refine zv_if_eq (pc' := 102) (tgt := 105) dX7_county_99 rfl rfl (fun hcc => absurd hcc (zb_ne.mpr rfl)) (fun _ => ?_)
          refine zv_goto (pc' := 122) dX7_county_102 rfl ?_
          refine zv_iinc (w := nI 1) (pc' := 125) dX7_county_122 rfl rfl (by decide) (by decide) ?_
          refine zv_goto (pc' := 86) dX7_county_125 rfl ?_
          rw [nI_add]
          exact ih (j + 1) c2 M5 (by omega) (q5 c2 ho) hc2.1 hc2.2 (hK4.same (fun i _ _ => by rw [e101])) f45 (fun i hi => by rw [e101]; exact o4 i hi) ht
    refine zv_if_ne (pc' := 69) (tgt := 78) dX7_county_66 rfl rfl (fun _ => ?_) (fun hcc => absurd hcc (by decide))
    refine zv_aload_n (pc' := 79) dX7_county_78 rfl rfl ?_
    refine zv_iconst (v := nI 1) (pc' := 80) dX7_county_79 rfl (by decide) ?_
    refine zv_iconst (v := nI 1) (pc' := 81) dX7_county_80 rfl (by decide) ?_
    refine zv_cV2_fv (pc' := 84) dX7_county_81 rfl lkX7_147 (by first | rfl | assumption) rfl (Nat.le_of_ble_eq_true rfl) (x7_keepAll (w := 1) hI2.1 (by decide)) ?_
    rintro M3 ⟨k3, a3, o3, f3⟩
    refine zv_iconst (v := nI 0) (pc' := 85) dX7_county_84 rfl (by decide) ?_
    refine zv_istore_n (pc' := 86) dX7_county_85 rfl (by decide) ?_
    exact lp S 0 (sC s) M3 (by omega) a3 hk.1 hk.2.1 k3 (f3.mono (by simp) (by simp)) (fun i hi => o3 i (by omega)) rfl
  have lp : ∀ f k M1, f + k = 97 → 4 * k ≤ psN (sL s) k → (sL s).1 ≠ 0 → formO (sL s) = fmO (sL s) f k → M1 90 14 = nI (psN (sL s) k) → M1 90 15 = nI k → stI (sL s) k M1 → zFr [98, 99, 100] [14, 15] M M1 → (k = 0 → psN (sL s) k < (sL s).1) → ZV mdX7_county (d + 6) (fun v M' => ∃ r, v = some (.int r) ∧ (r = (sp_county s).1 ∧ zIm M' (sp_county s).2 ∧ ∀ k, k < 90 → M' k = M k)) 12 [some (.ref 90), some (.int (nI 1)), none] [] M1 := by
    intro f
    induction f with
    | zero =>
      intro k M1 e h4 h0 hf h14 h15 hst f1 hk0
      have hp := psN_le (sL s) k
      have hl1 := hl.same f1 (by decide) (by decide)
      have ht := hl1.1
      refine zv_iload_n (pc' := 13) dX7_county_12 rfl rfl ?_
      refine zv_if_eq (pc' := 16) (tgt := 60) dX7_county_13 rfl rfl (fun hcc => absurd hcc (by decide)) (fun _ => ?_)
      refine zv_aload_n (pc' := 17) dX7_county_16 rfl rfl ?_
      refine zv_getIE (pc' := 20) dX7_county_17 rfl flX7_93 (by first | rfl | assumption) rfl (by first | exact h14 | exact h15 | exact ht | rfl) ?_
      refine zv_aload_n (pc' := 21) dX7_county_20 rfl rfl ?_
      refine zv_getIE (pc' := 24) dX7_county_21 rfl flX7_86 (by first | rfl | assumption) rfl (by first | exact h14 | exact h15 | exact ht | rfl) ?_
      refine zv_icmp_lt (pc' := 27) (tgt := 34) dX7_county_24 rfl rfl (fun hcc => absurd hcc (nI_nlt (by omega) (by omega))) (fun _ => ?_)
      refine zv_aload_n (pc' := 28) dX7_county_27 rfl rfl ?_
      refine zv_getIE (pc' := 31) dX7_county_28 rfl flX7_113 (by first | rfl | assumption) rfl (by first | exact h14 | exact h15 | exact ht | rfl) ?_
      refine zv_if_ne (pc' := 34) (tgt := 60) dX7_county_31 rfl rfl (fun _ => ?_) (fun hcc => absurd hcc (nI_ne0 (by omega) (by omega)))
      exact good k M1 (by omega) hf (by omega) h15 hst f1
    | succ f ih =>
      intro k M1 e h4 h0 hf h14 h15 hst f1 hk0
      have hp := psN_le (sL s) k
      have hl1 := hl.same f1 (by decide) (by decide)
      have ht := hl1.1
      rw [fmO] at hf
      by_cases hz : (sL s).1 ≤ psN (sL s) k
      · rw [if_pos hz] at hf
        have hkp : 0 < k := by
          rcases Nat.eq_zero_or_pos k with z | z
          · have := hk0 z; omega
          · exact z
        refine zv_iload_n (pc' := 13) dX7_county_12 rfl rfl ?_
        refine zv_if_eq (pc' := 16) (tgt := 60) dX7_county_13 rfl rfl (fun hcc => absurd hcc (by decide)) (fun _ => ?_)
        refine zv_aload_n (pc' := 17) dX7_county_16 rfl rfl ?_
        refine zv_getIE (pc' := 20) dX7_county_17 rfl flX7_93 (by first | rfl | assumption) rfl (by first | exact h14 | exact h15 | exact ht | rfl) ?_
        refine zv_aload_n (pc' := 21) dX7_county_20 rfl rfl ?_
        refine zv_getIE (pc' := 24) dX7_county_21 rfl flX7_86 (by first | rfl | assumption) rfl (by first | exact h14 | exact h15 | exact ht | rfl) ?_
        refine zv_icmp_lt (pc' := 27) (tgt := 34) dX7_county_24 rfl rfl (fun hcc => absurd hcc (nI_nlt (by omega) (by omega))) (fun _ => ?_)
        refine zv_aload_n (pc' := 28) dX7_county_27 rfl rfl ?_
        refine zv_getIE (pc' := 31) dX7_county_28 rfl flX7_113 (by first | rfl | assumption) rfl (by first | exact h14 | exact h15 | exact ht | rfl) ?_
        refine zv_if_ne (pc' := 34) (tgt := 60) dX7_county_31 rfl rfl (fun _ => ?_) (fun hcc => absurd hcc (nI_ne0 (by omega) (by omega)))
        exact good k M1 (by omega) hf hz h15 hst f1
      · rw [if_neg hz] at hf
        refine zv_iload_n (pc' := 13) dX7_county_12 rfl rfl ?_
        refine zv_if_eq (pc' := 16) (tgt := 60) dX7_county_13 rfl rfl (fun hcc => absurd hcc (by decide)) (fun _ => ?_)
        refine zv_aload_n (pc' := 17) dX7_county_16 rfl rfl ?_
        refine zv_getIE (pc' := 20) dX7_county_17 rfl flX7_93 (by first | rfl | assumption) rfl (by first | exact h14 | exact h15 | exact ht | rfl) ?_
        refine zv_aload_n (pc' := 21) dX7_county_20 rfl rfl ?_
        refine zv_getIE (pc' := 24) dX7_county_21 rfl flX7_86 (by first | rfl | assumption) rfl (by first | exact h14 | exact h15 | exact ht | rfl) ?_
        refine zv_icmp_lt (pc' := 27) (tgt := 34) dX7_county_24 rfl rfl (fun _ => ?_) (fun hcc => absurd (nI_lt (by omega) (by omega)) hcc)
        refine zv_aload_n (pc' := 35) dX7_county_34 rfl rfl ?_
        refine zv_cV0_fi (pc' := 38) dX7_county_35 rfl lkX7_143 (by first | rfl | assumption) rfl (Nat.le_of_ble_eq_true rfl) (x7_statement hl1 h14 h15 (by omega) (by omega)) ?_
        rintro x M2 ⟨h2, o2, t2, f2⟩
        have f12 : zFr [98, 99, 100] [14, 15] M M2 := f1.tr (f2.mono (by simp) (by simp))
        have n2 : M2 90 15 = nI k := by rw [f2.2 15 (by decide)]; exact h15
        rcases h2 with ⟨rfl, b1, b2, b3, b4, b5⟩ | ⟨b, rfl, b1, b2⟩
        · rw [b1] at hf
          have hor := lenN_or (sL s) (psN (sL s) k)
          have hlen : lenN (sL s) (psN (sL s) k) ≠ 0 := by
            intro z
            rw [bdA, if_pos z] at b1
            cases b1
          refine zv_istore_n (pc' := 39) dX7_county_38 rfl (by decide) ?_
          refine zv_aload_n (pc' := 40) dX7_county_39 rfl rfl ?_
          refine zv_dup (pc' := 41) dX7_county_40 rfl rfl ?_
          refine zv_getIE (pc' := 44) dX7_county_41 rfl flX7_113 (by first | rfl | assumption) rfl (by first | exact n2 | rfl) ?_
          refine zv_iload_n (pc' := 45) dX7_county_44 rfl rfl ?_
          refine zv_if_eq (pc' := 48) (tgt := 52) dX7_county_45 rfl rfl (fun hcc => absurd hcc (by decide)) (fun _ => ?_)
          refine zv_iconst (v := nI 1) (pc' := 49) dX7_county_48 rfl (by decide) ?_
          refine zv_goto (pc' := 53) dX7_county_49 rfl ?_
          refine zv_iadd (pc' := 54) dX7_county_53 rfl ?_
          refine zv_top (nI_add _ _) ?_
          refine zv_putI (pc' := 57) dX7_county_54 rfl flX7_113 pfX7_15 (by first | rfl | assumption) rfl rfl rfl ?_
          refine zv_goto (pc' := 12) dX7_county_57 rfl ?_
          refine ih (k + 1) _ (by omega) (by rw [psN]; omega) h0 hf ?_ ?_ (fun i hi => ?_) (f12.tr (zFr.uf (by decide))) (fun z => by omega)
          · rw [zup_eq, upd_n (by decide), b2]
            rfl
          · rw [zup_eq, upd_s]
          · rw [zup_ne (by decide), zup_ne (by decide), zup_ne (by decide)]
            by_cases z : i = k
            · subst z
              exact ⟨b1, by omega, by omega, b3, b4, b5⟩
            · obtain ⟨g1, g2, g3, g4, g5, g6⟩ := hst i (by omega)
              refine ⟨g1, g2, g3, by rw [(o2 i (by omega)).1]; exact g4, by rw [(o2 i (by omega)).2]; exact g5, fun j hj => ?_⟩
              have := tdC_le ((sL s).2 (psN (sL s) i))
              rw [t2 (3 * i + j) (by omega)]
              exact g6 j hj
        · rw [b1] at hf
          refine zv_istore_n (pc' := 39) dX7_county_38 rfl (by decide) ?_
          refine zv_aload_n (pc' := 40) dX7_county_39 rfl rfl ?_
          refine zv_dup (pc' := 41) dX7_county_40 rfl rfl ?_
          refine zv_getIE (pc' := 44) dX7_county_41 rfl flX7_113 (by first | rfl | assumption) rfl (by first | exact n2 | rfl) ?_
          refine zv_iload_n (pc' := 45) dX7_county_44 rfl rfl ?_
          refine zv_if_eq (pc' := 48) (tgt := 52) dX7_county_45 rfl rfl (fun _ => ?_) (fun hcc => absurd (rfl) hcc)
          refine zv_iconst (v := nI 0) (pc' := 53) dX7_county_52 rfl (by decide) ?_
          refine zv_iadd (pc' := 54) dX7_county_53 rfl ?_
          refine zv_top (nI_add _ _) ?_
          refine zv_putI (pc' := 57) dX7_county_54 rfl flX7_113 pfX7_15 (by first | rfl | assumption) rfl rfl rfl ?_
          refine zv_goto (pc' := 12) dX7_county_57 rfl ?_
          exact bad b _ hf (by rw [zup_eq, upd_n (by decide)]; exact b2) (f12.tr (zFr.uf (by decide)))
  refine zex_intro (L := [some (.ref 90), none, none]) (by decide) (Nat.le_of_ble_eq_true rfl) rfl ?_
  refine zv_aload_n (pc' := 1) dX7_county_0 rfl rfl ?_
  refine zv_iconst (v := nI 0) (pc' := 2) dX7_county_1 rfl (by decide) ?_
  refine zv_putI (pc' := 5) dX7_county_2 rfl flX7_93 pfX7_14 (by first | rfl | assumption) rfl rfl rfl ?_
  refine zv_aload_n (pc' := 6) dX7_county_5 rfl rfl ?_
  refine zv_iconst (v := nI 0) (pc' := 7) dX7_county_6 rfl (by decide) ?_
  refine zv_putI (pc' := 10) dX7_county_7 rfl flX7_113 pfX7_15 (by first | rfl | assumption) rfl rfl rfl ?_
  refine zv_iconst (v := nI 1) (pc' := 11) dX7_county_10 rfl (by decide) ?_
  refine zv_istore_n (pc' := 12) dX7_county_11 rfl (by decide) ?_
  have f0 : zFr [98, 99, 100] [14, 15] M (zup (zup M 90 14 (nI 0)) 90 15 (nI 0)) := (zFr.uf (by decide)).tr (zFr.uf (by decide))
  have a0 : zup (zup M 90 14 (nI 0)) 90 15 (nI 0) 90 14 = nI 0 := by rw [zup_eq, upd_n (by decide), zup_eq, upd_s]
  have n0 : zup (zup M 90 14 (nI 0)) 90 15 (nI 0) 90 15 = nI 0 := by rw [zup_eq, upd_s]
  generalize zup (zup M 90 14 (nI 0)) 90 15 (nI 0) = M0 at f0 a0 n0 ⊢
  by_cases h0 : (sL s).1 = 0
  · have hl1 := hl.same f0 (by decide) (by decide)
    have ht := hl1.1
    have hf : formO (sL s) = some 0 := by rw [formO, if_pos h0]
    refine zv_iload_n (pc' := 13) dX7_county_12 rfl rfl ?_
    refine zv_if_eq (pc' := 16) (tgt := 60) dX7_county_13 rfl rfl (fun hcc => absurd hcc (by decide)) (fun _ => ?_)
    refine zv_aload_n (pc' := 17) dX7_county_16 rfl rfl ?_
    refine zv_getIE (pc' := 20) dX7_county_17 rfl flX7_93 (by first | rfl | assumption) rfl (by first | exact a0 | exact n0 | exact ht | rfl) ?_
    refine zv_aload_n (pc' := 21) dX7_county_20 rfl rfl ?_
    refine zv_getIE (pc' := 24) dX7_county_21 rfl flX7_86 (by first | rfl | assumption) rfl (by first | exact a0 | exact n0 | exact ht | rfl) ?_
    refine zv_icmp_lt (pc' := 27) (tgt := 34) dX7_county_24 rfl rfl (fun hcc => absurd hcc ((by rw [h0]; decide))) (fun _ => ?_)
    refine zv_aload_n (pc' := 28) dX7_county_27 rfl rfl ?_
    refine zv_getIE (pc' := 31) dX7_county_28 rfl flX7_113 (by first | rfl | assumption) rfl (by first | exact a0 | exact n0 | exact ht | rfl) ?_
    refine zv_if_ne (pc' := 34) (tgt := 60) dX7_county_31 rfl rfl (fun hcc => absurd (rfl) hcc) (fun _ => ?_)
    refine zv_aload_n (pc' := 35) dX7_county_34 rfl rfl ?_
    refine zv_cV0_fi (pc' := 38) dX7_county_35 rfl lkX7_143 (by first | rfl | assumption) rfl (Nat.le_of_ble_eq_true rfl) (x7_statement hl1 a0 n0 (by omega) (by omega)) ?_
    rintro x M2 ⟨h2, o2, t2, f2⟩
    have n2 : M2 90 15 = nI 0 := by rw [f2.2 15 (by decide)]; exact n0
    have hlen : lenN (sL s) 0 = 0 := if_neg (by omega)
    rcases h2 with ⟨rfl, b1, -⟩ | ⟨b, rfl, b1, b2⟩
    · rw [bdA, if_pos hlen] at b1; cases b1
    · rw [bdA, if_pos hlen] at b1
      have b1 := Option.some.inj b1
      subst b1
      refine zv_istore_n (pc' := 39) dX7_county_38 rfl (by decide) ?_
      refine zv_aload_n (pc' := 40) dX7_county_39 rfl rfl ?_
      refine zv_dup (pc' := 41) dX7_county_40 rfl rfl ?_
      refine zv_getIE (pc' := 44) dX7_county_41 rfl flX7_113 (by first | rfl | assumption) rfl (by first | exact n2 | rfl) ?_
      refine zv_iload_n (pc' := 45) dX7_county_44 rfl rfl ?_
      refine zv_if_eq (pc' := 48) (tgt := 52) dX7_county_45 rfl rfl (fun _ => ?_) (fun hcc => absurd (rfl) hcc)
      refine zv_iconst (v := nI 0) (pc' := 53) dX7_county_52 rfl (by decide) ?_
      refine zv_iadd (pc' := 54) dX7_county_53 rfl ?_
      refine zv_top (nI_add _ _) ?_
      refine zv_putI (pc' := 57) dX7_county_54 rfl flX7_113 pfX7_15 (by first | rfl | assumption) rfl rfl rfl ?_
      refine zv_goto (pc' := 12) dX7_county_57 rfl ?_
      exact bad 0 _ hf (by rw [zup_eq, upd_n (by decide)]; exact b2) (f0.tr ((f2.mono (by simp) (by simp)).tr (zFr.uf (by decide))))
  · exact lp 97 0 M0 (by omega) (by omega) h0 (by rw [formO, if_neg h0]) a0 n0 (fun i hi => by omega) f0 (fun _ => by show 0 < _; omega)
end
