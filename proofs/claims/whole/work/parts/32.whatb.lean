/-! whatIs: the calls -/
section
variable {d : Nat}
theorem gm_whatIs (x y : Int32) : zGm mdX7_whatIs (d + 5) [.int x, .int y] (sp_whatIs x y) := by
  intro M s hI hk
  have hn := hk.1.1
  have hA := hI.1
  have hN := hI.1.1
  have ref : ∀ w, w < 7 → w ≠ 0 → w = fiN (nbN (yN (sC s)) x) (otN y 1) 0 → ZV mdX7_whatIs (d + 5) (fun v M' => ∃ r, v = some (.int r) ∧ (r = (sp_whatIs x y s).1 ∧ zIm M' (sp_whatIs x y s).2 ∧ ∀ k, k < 90 → M' k = M k)) 27 [some (.ref 90), some (.int x), some (.int y), none] [.int (-nI w)] M := by
    intro w hw h0 e
    refine zv_istore_n (pc' := 28) dX7_whatIs_27 rfl (by decide) ?_
    refine zv_iload_n (pc' := 29) dX7_whatIs_28 rfl rfl ?_
    refine zv_if_eq (pc' := 32) (tgt := 38) dX7_whatIs_29 rfl rfl (fun hcc => absurd hcc (mt (neg_w0 _ hw).mp h0)) (fun _ => ?_)
    refine zv_aload_n (pc' := 33) dX7_whatIs_32 rfl rfl ?_
    refine zv_iload_n (pc' := 34) dX7_whatIs_33 rfl rfl ?_
    refine zv_cV1_fi (pc' := 37) dX7_whatIs_34 rfl lkX7_89 (by first | rfl | assumption) rfl (Nat.le_of_ble_eq_true rfl) (x7_no hw) ?_
    rintro r M1 ⟨rfl, rfl⟩
    refine zv_iret dX7_whatIs_37 rfl ?_
    rw [sp_whatIs, ← e]
    exact zrefm hI h0
  refine zex_intro (L := [some (.ref 90), some (.int x), some (.int y), none]) (by decide) (Nat.le_of_ble_eq_true rfl) rfl ?_
  refine zv_aload_n (pc' := 1) dX7_whatIs_0 rfl rfl ?_
  refine zv_iload_n (pc' := 2) dX7_whatIs_1 rfl rfl ?_
  refine zv_cV1_pi (pc' := 5) dX7_whatIs_2 rfl lkX7_71 (by first | rfl | assumption) rfl (Nat.le_of_ble_eq_true rfl) (x7_isOne hN) ?_
  refine zv_if_ne (pc' := 8) (tgt := 12) dX7_whatIs_5 rfl rfl ?_ ?_
  · intro h
    have h := zb_ne.mp h
    have g1 := nbN_0.mpr h
    refine zv_iload_n (pc' := 13) dX7_whatIs_12 rfl rfl ?_
    refine zv_iconst (v := nI 0) (pc' := 14) dX7_whatIs_13 rfl (by decide) ?_
    refine zv_iconst (v := nI 1) (pc' := 15) dX7_whatIs_14 rfl (by decide) ?_
    refine zv_cS3_pi (pc' := 18) dX7_whatIs_15 rfl lkX7_100 (Nat.le_of_ble_eq_true rfl) (x7_isIn) ?_
    refine zv_if_ne (pc' := 21) (tgt := 26) dX7_whatIs_18 rfl rfl ?_ ?_
    · intro h2
      have h2 := zb_ne.mp h2
      have g2 := otN_0.mpr h2
      have h0 : fiN (nbN (yN (sC s)) x) (otN y 1) 0 = 0 := fiN_0.mpr ⟨g1, g2, rfl⟩
      obtain ⟨p, hp, rfl⟩ := hasB_of hn h
      obtain ⟨k, -, hk2, rfl⟩ := isInB_of (by decide) h2 (by decide)
      have ev : sp_whatIs (nI p) (nI k) s = (nI (whM (sC s) p k (sR s)), s) := by rw [sp_whatIs, zans_0 h0, pN_nI (by omega), pN_nI (by omega)]
      have hR := hI.2.2.2.2.1
      have hRk := hk.2.2.2.2
      refine zv_iconst (v := nI 0) (pc' := 27) dX7_whatIs_26 rfl (by decide) ?_
      refine zv_istore_n (pc' := 28) dX7_whatIs_27 rfl (by decide) ?_
      refine zv_iload_n (pc' := 29) dX7_whatIs_28 rfl rfl ?_
      refine zv_if_eq (pc' := 32) (tgt := 38) dX7_whatIs_29 rfl rfl (fun _ => ?_) (fun hcc => absurd (rfl) hcc)
      refine zv_iload_n (pc' := 39) dX7_whatIs_38 rfl rfl ?_
      rcases (show k = 0 ∨ k = 1 by omega) with rfl | rfl
      · refine zv_if_ne (pc' := 42) (tgt := 56) dX7_whatIs_39 rfl rfl (fun hcc => absurd (rfl) hcc) (fun _ => ?_)
        refine zv_aload_n (pc' := 43) dX7_whatIs_42 rfl rfl ?_
        refine zv_aload_n (pc' := 44) dX7_whatIs_43 rfl rfl ?_
        refine zv_getR (pc' := 47) dX7_whatIs_44 rfl flX7_13 (by first | rfl | assumption) rfl ?_
        refine zv_iload_n (pc' := 48) dX7_whatIs_47 rfl rfl ?_
        refine zv_bipush (v := nI 6) (pc' := 50) dX7_whatIs_48 rfl (by decide) ?_
        refine zv_cV3_fi (pc' := 53) dX7_whatIs_50 rfl lkX7_303 (by first | rfl | assumption) rfl (Nat.le_of_ble_eq_true rfl) (x7_bitsFor (w := 0) (by decide) hA hk.1 hI.2.1 hp hR.1 hR.2 hRk.1 hRk.2) ?_
        rintro r M1 ⟨rfl, ht⟩
        refine zv_goto (pc' := 67) dX7_whatIs_53 rfl ?_
        refine zv_iret dX7_whatIs_67 rfl ?_
        exact zdonmq ev hI ht
      · refine zv_if_ne (pc' := 42) (tgt := 56) dX7_whatIs_39 rfl rfl (fun _ => ?_) (fun hcc => absurd hcc (by decide))
        refine zv_aload_n (pc' := 57) dX7_whatIs_56 rfl rfl ?_
        refine zv_aload_n (pc' := 58) dX7_whatIs_57 rfl rfl ?_
        refine zv_getR (pc' := 61) dX7_whatIs_58 rfl flX7_16 (by first | rfl | assumption) rfl ?_
        refine zv_iload_n (pc' := 62) dX7_whatIs_61 rfl rfl ?_
        refine zv_bipush (v := nI 10) (pc' := 64) dX7_whatIs_62 rfl (by decide) ?_
        refine zv_cV3_fi (pc' := 67) dX7_whatIs_64 rfl lkX7_303 (by first | rfl | assumption) rfl (Nat.le_of_ble_eq_true rfl) (x7_bitsFor (w := 1) (by decide) hA hk.1 hI.2.1 hp hR.1 hR.2 hRk.1 hRk.2) ?_
        rintro r M1 ⟨rfl, ht⟩
        refine zv_iret dX7_whatIs_67 rfl ?_
        exact zdonmq ev hI ht
    · intro h2
      have h2 := zb_0.mp h2
      refine zv_bipush (v := (-2 : Int32)) (pc' := 23) dX7_whatIs_21 rfl (by decide) ?_
      refine zv_goto (pc' := 27) dX7_whatIs_23 rfl ?_
      refine zv_top (show (-2 : Int32) = -nI 2 by decide) ?_
      exact ref 2 (by decide) (by decide) (by rw [g1, show otN y 1 = 2 from by rw [otN, if_neg (by rw [h2]; decide)]]; rfl)
  · intro h
    have h := zb_0.mp h
    refine zv_iconst (v := (-1 : Int32)) (pc' := 9) dX7_whatIs_8 rfl (by decide) ?_
    refine zv_goto (pc' := 27) dX7_whatIs_9 rfl ?_
    refine zv_top (show (-1 : Int32) = -nI 1 by decide) ?_
    exact ref 1 (by decide) (by decide) (by rw [nbN, if_neg (by rw [h]; decide)]; rfl)
theorem gx_whatIs (x y : Int32) : zGx mdX6_whatIs (d + 4) [.int x, .int y] (sp_whatIs x y) := by
  intro M s hI hk
  have hn := hk.1.1
  have hA := hI.1
  refine zex_intro (L := [some (.ref 0), some (.int x), some (.int y), none, none, none, none]) (by decide) (Nat.le_of_ble_eq_true rfl) rfl ?_
  refine zv_aload_n (pc' := 1) dX6_whatIs_0 rfl rfl ?_
  refine zv_iload_n (pc' := 2) dX6_whatIs_1 rfl rfl ?_
  refine zv_cV1_pi (pc' := 5) dX6_whatIs_2 rfl lkX6_111 (by first | rfl | assumption) rfl (Nat.le_of_ble_eq_true rfl) (x6_nobody hA) ?_
  refine zv_iload_n (pc' := 6) dX6_whatIs_5 rfl rfl ?_
  refine zv_iconst (v := nI 1) (pc' := 7) dX6_whatIs_6 rfl (by decide) ?_
  refine zv_cS2_pi (pc' := 10) dX6_whatIs_7 rfl lkX6_114 (Nat.le_of_ble_eq_true rfl) (x6_otherThan) ?_
  refine zv_iconst (v := nI 0) (pc' := 11) dX6_whatIs_10 rfl (by decide) ?_
  refine zv_top (show nI 0 = -nI 0 by decide) ?_
  refine zv_cS3_pi (pc' := 14) dX6_whatIs_11 rfl lkX6_81 (Nat.le_of_ble_eq_true rfl) (x6_firstOf nbN_lt otN_lt) ?_
  have hw := fiN_lt (nbN_lt (n := yN (sC s)) (x := x)) (otN_lt (x := y) (n := 1)) (by decide : 0 < 7)
  refine zv_istore_n (pc' := 15) dX6_whatIs_14 rfl (by decide) ?_
  refine zv_iload_n (pc' := 16) dX6_whatIs_15 rfl rfl ?_
  refine zv_if_eq (pc' := 19) (tgt := 25) dX6_whatIs_16 rfl rfl ?_ ?_
  · intro h
    have h0 := (neg_w0 _ hw).mp h
    obtain ⟨g1, g2, -⟩ := fiN_0.mp h0
    obtain ⟨p, hp, rfl⟩ := hasB_of hn (nbN_0.mp g1)
    obtain ⟨w, -, hw2, rfl⟩ := isInB_of (by decide) (otN_0.mp g2) (by decide)
    have ev : sp_whatIs (nI p) (nI w) s = (nI (whM (sC s) p w (sR s)), s) := by rw [sp_whatIs, zans_0 h0, pN_nI (by omega), pN_nI (by omega)]
    have hR := hI.2.2.2.1
    have hRk := hk.2.2.2.2
    have hL := whL_le (w := w)
    have hL1 : 1 ≤ whL w := by unfold whL; split <;> omega
    have lp : ∀ r g M1, g + r = whL w → zScr M M1 → ZV mdX6_whatIs (d + 4) (fun v M' => ∃ r, v = some (.int r) ∧ (r = (sp_whatIs (nI p) (nI w) s).1 ∧ zIx M' (sp_whatIs (nI p) (nI w) s).2 ∧ zSame 0 90 M M')) 43 [some (.ref 0), some (.int (nI p)), some (.int (nI w)), none, some (.int (nI (whL w - 1))), some (.int (nI (zm (whL w) (fun j => decide (j < g) && soB (whC (sC s) p w j) p (sR s) (sR s).1)))), some (.int (nI g))] [] M1 := by
      intro r
      induction r with
      | zero =>
        intro g M1 e hs
        have e : g = whL w := by omega
        subst e
        refine zv_iload (pc' := 45) dX6_whatIs_43 rfl rfl ?_
        refine zv_iload (pc' := 47) dX6_whatIs_45 rfl rfl ?_
        refine zv_icmp_gt (pc' := 50) (tgt := 112) dX6_whatIs_47 rfl rfl (fun _ => ?_) (fun hcc => absurd ((nI_ltI (by omega) (by omega)).mpr (by omega)) hcc)
        refine zv_iload (pc' := 114) dX6_whatIs_112 rfl rfl ?_
        refine zv_iret dX6_whatIs_114 rfl ?_
        exact zdonq (by rw [ev]; exact Prod.ext (congrArg nI (zm_ext (fun j hj => by simp [hj]))) rfl) hI hs
      | succ r ih =>
        intro g M1 e hs
        have hA1 := (hI.scr hs).1
        have ok := wh_ok (p := p) (w := w) (g := g) hk.1 (by omega)
        have C : ∀ M2, zScr M M2 → zAt M2 13 (whC (sC s) p w g) → ZV mdX6_whatIs (d + 4) (fun v M' => ∃ r, v = some (.int r) ∧ (r = (sp_whatIs (nI p) (nI w) s).1 ∧ zIx M' (sp_whatIs (nI p) (nI w) s).2 ∧ zSame 0 90 M M')) 90 [some (.ref 0), some (.int (nI p)), some (.int (nI w)), none, some (.int (nI (whL w - 1))), some (.int (nI (zm (whL w) (fun j => decide (j < g) && soB (whC (sC s) p w j) p (sR s) (sR s).1)))), some (.int (nI g))] [] M2 := by
          intro M2 s2 h2
          have hR2 := (hI.scr s2).2.2.2.1
          refine zv_iload (pc' := 92) dX6_whatIs_90 rfl rfl ?_
          refine zv_aload_n (pc' := 93) dX6_whatIs_92 rfl rfl ?_
          refine zv_iload_n (pc' := 94) dX6_whatIs_93 rfl rfl ?_
          refine zv_cV1_fi (pc' := 97) dX6_whatIs_94 rfl lkX6_263 (by first | rfl | assumption) rfl (Nat.le_of_ble_eq_true rfl) (x6_goesAsTold h2 ok.1 (by rw [ok.2]; exact hp) hR2.1 hR2.2 hRk.1 hRk.2) ?_
          rintro r3 M3 ⟨rfl, s3⟩
          have := ih (g + 1) M3 (by omega) (s2.tr (zScr.same s3 (by omega)))
          refine zv_cS1_pi (pc' := 100) dX6_whatIs_97 rfl lkX6_145 (Nat.le_of_ble_eq_true rfl) (x6_bit) ?_
          cases hb : soB (whC (sC s) p w g) p (sR s) (sR s).1 with
          | false =>
            rw [zm_lo (L := whL w) (f := fun j => soB (whC (sC s) p w j) p (sR s) (sR s).1) hb, show (fun j => (decide (j < g) && soB (whC (sC s) p w j) p (sR s) (sR s).1) || (false && decide (j = g))) = (fun j => decide (j < g) && soB (whC (sC s) p w j) p (sR s) (sR s).1) from by funext j; simp] at this
            refine zv_iload (pc' := 102) dX6_whatIs_100 rfl rfl ?_
            refine zv_ishl (pc' := 103) dX6_whatIs_102 rfl ?_
            refine zv_top ((by decide +kernel : ∀ g, g < 10 → zb false <<< (nI g &&& 31) = 0) g (by omega)) ?_
            refine zv_ior (pc' := 104) dX6_whatIs_103 rfl ?_
            refine zv_top (Int32.or_zero) ?_
            refine zv_istore (pc' := 106) dX6_whatIs_104 rfl (by decide) ?_
            refine zv_iinc (w := nI 1) (pc' := 109) dX6_whatIs_106 rfl rfl (by decide) (by decide) ?_
            refine zv_goto (pc' := 43) dX6_whatIs_109 rfl ?_
            rw [nI_add]
            exact this
          | true =>
            rw [zm_lo (L := whL w) (f := fun j => soB (whC (sC s) p w j) p (sR s) (sR s).1) hb, show (fun j => (decide (j < g) && soB (whC (sC s) p w j) p (sR s) (sR s).1) || (true && decide (j = g))) = (fun j => (decide (j < g) && soB (whC (sC s) p w j) p (sR s) (sR s).1) || decide (j = g)) from by funext j; simp] at this
            refine zv_iload (pc' := 102) dX6_whatIs_100 rfl rfl ?_
            refine zv_ishl (pc' := 103) dX6_whatIs_102 rfl ?_
            refine zv_top (zsh1 g (by omega)) ?_
            refine zv_ior (pc' := 104) dX6_whatIs_103 rfl ?_
            refine zv_top (mk_or1 (by omega)) ?_
            refine zv_istore (pc' := 106) dX6_whatIs_104 rfl (by decide) ?_
            refine zv_iinc (w := nI 1) (pc' := 109) dX6_whatIs_106 rfl rfl (by decide) (by decide) ?_
            refine zv_goto (pc' := 43) dX6_whatIs_109 rfl ?_
            rw [nI_add]
            exact this
        refine zv_iload (pc' := 45) dX6_whatIs_43 rfl rfl ?_
        refine zv_iload (pc' := 47) dX6_whatIs_45 rfl rfl ?_
        refine zv_icmp_gt (pc' := 50) (tgt := 112) dX6_whatIs_47 rfl rfl (fun hcc => absurd hcc (nI_nlt (by omega) (by omega))) (fun _ => ?_)
        refine zv_aload_n (pc' := 51) dX6_whatIs_50 rfl rfl ?_
        refine zv_getR (pc' := 54) dX6_whatIs_51 rfl flX6_19 (by first | rfl | assumption) rfl ?_
        refine zv_aload_n (pc' := 55) dX6_whatIs_54 rfl rfl ?_
        refine zv_getR (pc' := 58) dX6_whatIs_55 rfl flX6_10 (by first | rfl | assumption) rfl ?_
        refine zv_cV1_fv (pc' := 61) dX6_whatIs_58 rfl lkX6_100 (by first | rfl | assumption) rfl (Nat.le_of_ble_eq_true rfl) (x0_become zCy13 zCy1 hA1 (by omega)) ?_
        rintro M2 ⟨h2, s2⟩
        refine zv_iload_n (pc' := 62) dX6_whatIs_61 rfl rfl ?_
        rcases (show w = 0 ∨ w = 1 by omega) with rfl | rfl
        · refine zv_if_ne (pc' := 65) (tgt := 79) dX6_whatIs_62 rfl rfl (fun hcc => absurd (rfl) hcc) (fun _ => ?_)
          refine zv_aload_n (pc' := 66) dX6_whatIs_65 rfl rfl ?_
          refine zv_getR (pc' := 69) dX6_whatIs_66 rfl flX6_19 (by first | rfl | assumption) rfl ?_
          refine zv_getR (pc' := 72) dX6_whatIs_69 rfl flX6_118 (by first | rfl | assumption) rfl ?_
          refine zv_iload_n (pc' := 73) dX6_whatIs_72 rfl rfl ?_
          refine zv_iload (pc' := 75) dX6_whatIs_73 rfl rfl ?_
          refine zv_iastoreN (pc' := 76) dX6_whatIs_75 rfl (by first | rfl | assumption) (by decide) (by omega) ?_
          refine zv_goto (pc' := 90) dX6_whatIs_76 rfl ?_
          exact C _ (hs.tr ((zScr.same s2 (by omega)).tr (zScr.up (by omega)))) (zAt_K (o := 13) h2)
        · refine zv_if_ne (pc' := 65) (tgt := 79) dX6_whatIs_62 rfl rfl (fun _ => ?_) (fun hcc => absurd hcc (by decide))
          refine zv_aload_n (pc' := 80) dX6_whatIs_79 rfl rfl ?_
          refine zv_getR (pc' := 83) dX6_whatIs_80 rfl flX6_19 (by first | rfl | assumption) rfl ?_
          refine zv_getR (pc' := 86) dX6_whatIs_83 rfl flX6_121 (by first | rfl | assumption) rfl ?_
          refine zv_iload_n (pc' := 87) dX6_whatIs_86 rfl rfl ?_
          refine zv_iload (pc' := 89) dX6_whatIs_87 rfl rfl ?_
          refine zv_iastoreN (pc' := 90) dX6_whatIs_89 rfl (by first | rfl | assumption) (by decide) (by omega) ?_
          exact C _ (hs.tr ((zScr.same s2 (by omega)).tr (zScr.up (by omega)))) (zAt_F (o := 13) h2)
    have st := lp (whL w) 0 M (by omega) zScr.rf
    rw [show (fun j => decide (j < 0) && soB (whC (sC s) p w j) p (sR s) (sR s).1) = (fun _ => false) from by funext j; simp, zm_f] at st
    refine zv_iload_n (pc' := 26) dX6_whatIs_25 rfl rfl ?_
    rcases (show w = 0 ∨ w = 1 by omega) with rfl | rfl
    · refine zv_if_ne (pc' := 29) (tgt := 33) dX6_whatIs_26 rfl rfl (fun hcc => absurd (rfl) hcc) (fun _ => ?_)
      refine zv_iconst (v := nI 5) (pc' := 30) dX6_whatIs_29 rfl (by decide) ?_
      refine zv_goto (pc' := 35) dX6_whatIs_30 rfl ?_
      refine zv_istore (pc' := 37) dX6_whatIs_35 rfl (by decide) ?_
      refine zv_iconst (v := nI 0) (pc' := 38) dX6_whatIs_37 rfl (by decide) ?_
      refine zv_istore (pc' := 40) dX6_whatIs_38 rfl (by decide) ?_
      refine zv_iconst (v := nI 0) (pc' := 41) dX6_whatIs_40 rfl (by decide) ?_
      refine zv_istore (pc' := 43) dX6_whatIs_41 rfl (by decide) ?_
      refine zv_fg [3] ?_
      exact st
    · refine zv_if_ne (pc' := 29) (tgt := 33) dX6_whatIs_26 rfl rfl (fun _ => ?_) (fun hcc => absurd hcc (by decide))
      refine zv_bipush (v := nI 9) (pc' := 35) dX6_whatIs_33 rfl (by decide) ?_
      refine zv_istore (pc' := 37) dX6_whatIs_35 rfl (by decide) ?_
      refine zv_iconst (v := nI 0) (pc' := 38) dX6_whatIs_37 rfl (by decide) ?_
      refine zv_istore (pc' := 40) dX6_whatIs_38 rfl (by decide) ?_
      refine zv_iconst (v := nI 0) (pc' := 41) dX6_whatIs_40 rfl (by decide) ?_
      refine zv_istore (pc' := 43) dX6_whatIs_41 rfl (by decide) ?_
      refine zv_fg [3] ?_
      exact st
  · intro h
    have h0 := mt (neg_w0 _ hw).mpr h
    refine zv_aload_n (pc' := 20) dX6_whatIs_19 rfl rfl ?_
    refine zv_iload_n (pc' := 21) dX6_whatIs_20 rfl rfl ?_
    refine zv_cV1_fi (pc' := 24) dX6_whatIs_21 rfl lkX6_84 (by first | rfl | assumption) rfl (Nat.le_of_ble_eq_true rfl) (x6_refuse hw h0) ?_
    rintro r M1 ⟨rfl, rfl⟩
    refine zv_iret dX6_whatIs_24 rfl ?_
    exact zrefx hI h0
end
