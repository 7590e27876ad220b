/-! bestSign, bestCut, buys, feudCosts: the class -/
def mayB (c : ZCty) (t p q : Nat) : Bool := match t with
  | 0 => yS c q p && !yS c p q && !yX c p q
  | 1 => kinB c p q
  | _ => decide (p ≠ q)
def chC (c : ZCty) (t p q : Nat) : ZCty := match t with
  | 0 => signC c p q true
  | 1 => signC c p q false
  | _ => swC c p q
def bcS (c : ZCty) (t p n : Nat) : Nat → Option Nat × Nat
  | 0 => (none, yM (yearsC n c) p)
  | k + 1 => if mayB c t p k = true ∧ (bcS c t p n k).2 < yM (yearsC n (chC c t p k)) p then (some k, yM (yearsC n (chC c t p k)) p) else bcS c t p n k
def sp_best (t : Nat) (x n : Int32) (s : ZS) : Int32 × ZS := zans (fiN (nbN (yN (sC s)) x) (bdN n (nI 0) (nI 20)) 0) s (optI (bcS (sC s) t (pN x) (pN n) (yN (sC s))).1) s
def fcV (c : ZCty) (p q n : Nat) : Int32 := nI (wealthN (yearsC n (feudC c p q false))) - nI (wealthN (yearsC n (feudC c p q true)))
def zanl (w : Nat) (s : ZS) (v : Int32) : Int32 × ZS := if w = 0 then (v, s) else (1000000000 - -nI w, refS s w)
def sp_feudCosts (x y n : Int32) (s : ZS) : Int32 × ZS := zanl (fiN (twN (yN (sC s)) x y) (bdN n (nI 0) (nI 60)) 0) s (fcV (sC s) (pN x) (pN y) (pN n))
theorem mayB_ne {c : ZCty} {t p q : Nat} (hk : zOk c) (h : mayB c t p q = true) : p ≠ q := by
  intro e
  subst e
  match t, h with
  | 0, h =>
    simp only [mayB, Bool.and_eq_true] at h
    exact (hk.2.2.2.2.1 p p h.1.1).2.2 rfl
  | 1, h => simp only [mayB, kin_irr hk] at h; cases h
  | t + 2, h => simp [mayB] at h
theorem zOk_ch {c : ZCty} {t p q : Nat} (hk : zOk c) (hp : p < yN c) (hq : q < yN c) (hpq : p ≠ q) : zOk (chC c t p q) ∧ yN (chC c t p q) = yN c := by
  match t with
  | 0 => exact ⟨zOk_sign hk hp hq hpq, rfl⟩
  | 1 => exact ⟨zOk_sign hk hp hq hpq, rfl⟩
  | t + 2 => exact ⟨zOk_sw hk hp hq, rfl⟩
theorem bcS_le {c : ZCty} {t p n : Nat} (hk : zOk c) (hp : p < yN c) : ∀ {k : Nat}, k ≤ yN c → (bcS c t p n k).2 ≤ 99
  | 0, _ => (zOk_years hk).1.2.2.2.1 p
  | k + 1, h => by
    rw [bcS]
    split
    · rename_i hh
      exact (zOk_years (zOk_ch hk hp (by omega) (mayB_ne hk hh.1)).1).1.2.2.2.1 p
    · exact bcS_le hk hp (by omega)
section
variable {o : Nat} {M : ZMem} {c : ZCty} {d : Nat}
theorem x0_isKin0 {x y : Int32} (hC : zCy o) (hA : zAt M o c) (h : twoB (yN c) x y = false) : ZPi mdX0_isKin (d + 2) [.ref o, .int x, .int y] M (zb false) := by
  have hC' := hC
  obtain ⟨c0, c1, c2, c3, c4, c5⟩ := hC
  refine zex_intro (L := [some (.ref o), some (.int x), some (.int y)]) (by decide) (Nat.le_of_ble_eq_true rfl) rfl ?_
  refine zv_aload_n (pc' := 1) dX0_isKin_0 rfl rfl ?_
  refine zv_iload_n (pc' := 2) dX0_isKin_1 rfl rfl ?_
  refine zv_iload_n (pc' := 3) dX0_isKin_2 rfl rfl ?_
  refine zv_cV2_pi (pc' := 6) dX0_isKin_3 rfl lkX0_44 (by first | rfl | assumption) rfl (Nat.le_of_ble_eq_true rfl) (x0_hasTwo hC' hA) ?_
  rw [h]
  refine zv_if_eq (pc' := 9) (tgt := 25) dX0_isKin_6 rfl rfl (fun _ => ?_) (fun hcc => absurd (rfl) hcc)
  refine zv_iconst (v := nI 0) (pc' := 26) dX0_isKin_25 rfl (by decide) ?_
  refine zv_ireturn dX0_isKin_26 rfl (by first | rfl | exact zb_nar _) ?_
  exact zpi_f rfl
theorem twoB_self {n : Nat} {x : Int32} : twoB n x x = false := by simp [twoB]
theorem x6_mayChange {t p q : Nat} (hA : zAt M 1 c) (hk : zOk c) (ht : t < 3) (hp : p < yN c) (hq : q < yN c) : ZPi mdX6_mayChange (d + 3) [.ref 0, .int (nI t), .int (nI p), .int (nI q)] M (zb (mayB c t p q)) := by
  have hn := hk.1
  refine zex_intro (L := [some (.ref 0), some (.int (nI t)), some (.int (nI p)), some (.int (nI q))]) (by decide) (Nat.le_of_ble_eq_true rfl) rfl ?_
  refine zv_iload_n (pc' := 1) dX6_mayChange_0 rfl rfl ?_
  rcases (show t = 0 ∨ t = 1 ∨ t = 2 by omega) with rfl | rfl | rfl
  · refine zv_lookup (pc' := 28) (off := 27) dX6_mayChange_1 (by decide) (by decide) rfl ?_
    refine zv_aload_n (pc' := 29) dX6_mayChange_28 rfl rfl ?_
    refine zv_getR (pc' := 32) dX6_mayChange_29 rfl flX6_10 (by first | rfl | assumption) rfl ?_
    refine zv_iload_n (pc' := 33) dX6_mayChange_32 rfl rfl ?_
    refine zv_iload_n (pc' := 34) dX6_mayChange_33 rfl rfl ?_
    by_cases hpq : p = q
    · subst hpq
      refine zv_cV2_pi (pc' := 37) dX6_mayChange_34 rfl lkX6_141 (by first | rfl | assumption) rfl (Nat.le_of_ble_eq_true rfl) (x0_hasSigned0 zCy1 hA twoB_self) ?_
      refine zv_if_eq (pc' := 40) (tgt := 68) dX6_mayChange_37 rfl rfl (fun _ => ?_) (fun hcc => absurd (rfl) hcc)
      refine zv_iconst (v := nI 0) (pc' := 69) dX6_mayChange_68 rfl (by decide) ?_
      refine zv_ireturn dX6_mayChange_69 rfl (by first | rfl | exact zb_nar _) ?_
      refine zpi_f ?_
      cases hb : mayB c 0 p p
      · rfl
      · exact absurd rfl (mayB_ne hk hb)
    · refine zv_cV2_pi (pc' := 37) dX6_mayChange_34 rfl lkX6_141 (by first | rfl | assumption) rfl (Nat.le_of_ble_eq_true rfl) (x0_hasSigned zCy1 hA hn hq hp (Ne.symm hpq)) ?_
      refine zv_if_eq (pc' := 40) (tgt := 68) dX6_mayChange_37 rfl rfl ?_ ?_
      · intro h
        refine zv_iconst (v := nI 0) (pc' := 69) dX6_mayChange_68 rfl (by decide) ?_
        refine zv_ireturn dX6_mayChange_69 rfl (by first | rfl | exact zb_nar _) ?_
        exact zpi_f (by simp [mayB, zb_0.mp h])
      · intro h
        refine zv_aload_n (pc' := 41) dX6_mayChange_40 rfl rfl ?_
        refine zv_getR (pc' := 44) dX6_mayChange_41 rfl flX6_10 (by first | rfl | assumption) rfl ?_
        refine zv_iload_n (pc' := 45) dX6_mayChange_44 rfl rfl ?_
        refine zv_iload_n (pc' := 46) dX6_mayChange_45 rfl rfl ?_
        refine zv_cV2_pi (pc' := 49) dX6_mayChange_46 rfl lkX6_141 (by first | rfl | assumption) rfl (Nat.le_of_ble_eq_true rfl) (x0_hasSigned zCy1 hA hn hp hq hpq) ?_
        refine zv_if_ne (pc' := 52) (tgt := 68) dX6_mayChange_49 rfl rfl ?_ ?_
        · intro h2
          refine zv_iconst (v := nI 0) (pc' := 69) dX6_mayChange_68 rfl (by decide) ?_
          refine zv_ireturn dX6_mayChange_69 rfl (by first | rfl | exact zb_nar _) ?_
          exact zpi_f (by simp [mayB, zb_ne.mp h2])
        · intro h2
          refine zv_aload_n (pc' := 53) dX6_mayChange_52 rfl rfl ?_
          refine zv_getR (pc' := 56) dX6_mayChange_53 rfl flX6_10 (by first | rfl | assumption) rfl ?_
          refine zv_iload_n (pc' := 57) dX6_mayChange_56 rfl rfl ?_
          refine zv_iload_n (pc' := 58) dX6_mayChange_57 rfl rfl ?_
          refine zv_cV2_pi (pc' := 61) dX6_mayChange_58 rfl lkX6_149 (by first | rfl | assumption) rfl (Nat.le_of_ble_eq_true rfl) (x0_atFeud zCy1 hA hn hp hq hpq) ?_
          refine zv_if_ne (pc' := 64) (tgt := 68) dX6_mayChange_61 rfl rfl ?_ ?_
          · intro h3
            refine zv_iconst (v := nI 0) (pc' := 69) dX6_mayChange_68 rfl (by decide) ?_
            refine zv_ireturn dX6_mayChange_69 rfl (by first | rfl | exact zb_nar _) ?_
            exact zpi_f (by simp [mayB, zb_ne.mp h3])
          · intro h3
            refine zv_iconst (v := nI 1) (pc' := 65) dX6_mayChange_64 rfl (by decide) ?_
            refine zv_goto (pc' := 69) dX6_mayChange_65 rfl ?_
            refine zv_ireturn dX6_mayChange_69 rfl (by first | rfl | exact zb_nar _) ?_
            exact zpi_t (by simp [mayB, zb_ne.mp h, zb_0.mp h2, zb_0.mp h3])
  · refine zv_lookup (pc' := 70) (off := 69) dX6_mayChange_1 (by decide) (by decide) rfl ?_
    refine zv_aload_n (pc' := 71) dX6_mayChange_70 rfl rfl ?_
    refine zv_getR (pc' := 74) dX6_mayChange_71 rfl flX6_10 (by first | rfl | assumption) rfl ?_
    refine zv_iload_n (pc' := 75) dX6_mayChange_74 rfl rfl ?_
    refine zv_iload_n (pc' := 76) dX6_mayChange_75 rfl rfl ?_
    by_cases hpq : p = q
    · subst hpq
      refine zv_cV2_pi (pc' := 79) dX6_mayChange_76 rfl lkX6_152 (by first | rfl | assumption) rfl (Nat.le_of_ble_eq_true rfl) (x0_isKin0 zCy1 hA twoB_self) ?_
      refine zv_ireturn dX6_mayChange_79 rfl (by first | rfl | exact zb_nar _) ?_
      refine zpi_ret ?_
      rw [show mayB c 1 p p = false from kin_irr hk]
    · refine zv_cV2_pi (pc' := 79) dX6_mayChange_76 rfl lkX6_152 (by first | rfl | assumption) rfl (Nat.le_of_ble_eq_true rfl) (x0_isKin zCy1 hA hk hp hq hpq) ?_
      refine zv_ireturn dX6_mayChange_79 rfl (by first | rfl | exact zb_nar _) ?_
      exact zpi_ret rfl
  · refine zv_lookup (pc' := 80) (off := 79) dX6_mayChange_1 (by decide) (by decide) rfl ?_
    refine zv_iload_n (pc' := 81) dX6_mayChange_80 rfl rfl ?_
    refine zv_iload_n (pc' := 82) dX6_mayChange_81 rfl rfl ?_
    refine zv_icmp_eq (pc' := 85) (tgt := 89) dX6_mayChange_82 rfl rfl ?_ ?_
    · intro h
      have h := (nI_eq (by omega) (by omega)).mp h
      refine zv_iconst (v := nI 0) (pc' := 90) dX6_mayChange_89 rfl (by decide) ?_
      refine zv_ireturn dX6_mayChange_90 rfl (by first | rfl | exact zb_nar _) ?_
      exact zpi_f (by simp [mayB, h])
    · intro h
      have h := mt (nI_eq (a := p) (b := q) (by omega) (by omega)).mpr h
      refine zv_iconst (v := nI 1) (pc' := 86) dX6_mayChange_85 rfl (by decide) ?_
      refine zv_goto (pc' := 90) dX6_mayChange_86 rfl ?_
      refine zv_ireturn dX6_mayChange_90 rfl (by first | rfl | exact zb_nar _) ?_
      exact zpi_t (by simp [mayB, h])
theorem x6_makeChange {t p q : Nat} (hA : zAt M 13 c) (hk : zOk c) (ht : t < 3) (hp : p < yN c) (hq : q < yN c) (hpq : p ≠ q) : ZFv mdX6_makeChange (d + 3) [.ref 0, .int (nI t), .int (nI p), .int (nI q)] M (fun M' => zAt M' 13 (chC c t p q) ∧ zSame 13 19 M M') := by
  have hn := hk.1
  refine zex_intro (L := [some (.ref 0), some (.int (nI t)), some (.int (nI p)), some (.int (nI q))]) (by decide) (Nat.le_of_ble_eq_true rfl) rfl ?_
  refine zv_iload_n (pc' := 1) dX6_makeChange_0 rfl rfl ?_
  refine zv_iconst (v := nI 2) (pc' := 2) dX6_makeChange_1 rfl (by decide) ?_
  rcases (show t = 0 ∨ t = 1 ∨ t = 2 by omega) with rfl | rfl | rfl
  · refine zv_icmp_ne (pc' := 5) (tgt := 17) dX6_makeChange_2 rfl rfl (fun _ => ?_) (fun hcc => absurd hcc (by decide))
    refine zv_aload_n (pc' := 18) dX6_makeChange_17 rfl rfl ?_
    refine zv_getR (pc' := 21) dX6_makeChange_18 rfl flX6_19 (by first | rfl | assumption) rfl ?_
    refine zv_iload_n (pc' := 22) dX6_makeChange_21 rfl rfl ?_
    refine zv_iload_n (pc' := 23) dX6_makeChange_22 rfl rfl ?_
    refine zv_iload_n (pc' := 24) dX6_makeChange_23 rfl rfl ?_
    refine zv_if_ne (pc' := 27) (tgt := 31) dX6_makeChange_24 rfl rfl (fun hcc => absurd (rfl) hcc) (fun _ => ?_)
    refine zv_iconst (v := nI 1) (pc' := 28) dX6_makeChange_27 rfl (by decide) ?_
    refine zv_goto (pc' := 32) dX6_makeChange_28 rfl ?_
    refine zv_cV3_fi (pc' := 35) dX6_makeChange_32 rfl lkX6_259 (by first | rfl | assumption) rfl (Nat.le_of_ble_eq_true rfl) (x0_setSigning (b := true) zCy13 hA hn hp hq hpq) ?_
    rintro r M1 ⟨rfl, h1, h2⟩
    refine zv_pop (pc' := 36) dX6_makeChange_35 rfl rfl ?_
    refine zv_vret dX6_makeChange_36 rfl ?_
    exact ⟨rfl, h1, h2⟩
  · refine zv_icmp_ne (pc' := 5) (tgt := 17) dX6_makeChange_2 rfl rfl (fun _ => ?_) (fun hcc => absurd hcc (by decide))
    refine zv_aload_n (pc' := 18) dX6_makeChange_17 rfl rfl ?_
    refine zv_getR (pc' := 21) dX6_makeChange_18 rfl flX6_19 (by first | rfl | assumption) rfl ?_
    refine zv_iload_n (pc' := 22) dX6_makeChange_21 rfl rfl ?_
    refine zv_iload_n (pc' := 23) dX6_makeChange_22 rfl rfl ?_
    refine zv_iload_n (pc' := 24) dX6_makeChange_23 rfl rfl ?_
    refine zv_if_ne (pc' := 27) (tgt := 31) dX6_makeChange_24 rfl rfl (fun _ => ?_) (fun hcc => absurd hcc (by decide))
    refine zv_iconst (v := nI 0) (pc' := 32) dX6_makeChange_31 rfl (by decide) ?_
    refine zv_cV3_fi (pc' := 35) dX6_makeChange_32 rfl lkX6_259 (by first | rfl | assumption) rfl (Nat.le_of_ble_eq_true rfl) (x0_setSigning (b := false) zCy13 hA hn hp hq hpq) ?_
    rintro r M1 ⟨rfl, h1, h2⟩
    refine zv_pop (pc' := 36) dX6_makeChange_35 rfl rfl ?_
    refine zv_vret dX6_makeChange_36 rfl ?_
    exact ⟨rfl, h1, h2⟩
  · refine zv_icmp_ne (pc' := 5) (tgt := 17) dX6_makeChange_2 rfl rfl (fun hcc => absurd (rfl) hcc) (fun _ => ?_)
    refine zv_aload_n (pc' := 6) dX6_makeChange_5 rfl rfl ?_
    refine zv_getR (pc' := 9) dX6_makeChange_6 rfl flX6_19 (by first | rfl | assumption) rfl ?_
    refine zv_iload_n (pc' := 10) dX6_makeChange_9 rfl rfl ?_
    refine zv_iload_n (pc' := 11) dX6_makeChange_10 rfl rfl ?_
    refine zv_cV2_fv (pc' := 14) dX6_makeChange_11 rfl lkX6_303 (by first | rfl | assumption) rfl (Nat.le_of_ble_eq_true rfl) (x0_changePlaces zCy13 hA hk hp hq hpq) ?_
    rintro M1 ⟨h1, h2⟩
    refine zv_goto (pc' := 36) dX6_makeChange_14 rfl ?_
    refine zv_vret dX6_makeChange_36 rfl ?_
    exact ⟨rfl, h1, h2⟩
theorem x6_bestChange {t : Nat} (x n : Int32) (ht : t < 3) (s : ZS) (hI : zIx M s) (hk : zSk s) : ZFi mdX6_bestChange (d + 5) [.ref 0, .int (nI t), .int x, .int n] M (fun r M' => r = (sp_best t x n s).1 ∧ zIx M' (sp_best t x n s).2 ∧ zSame 0 90 M M') := by
  have hn := hk.1.1
  have hA := hI.1
  refine zex_intro (L := [some (.ref 0), some (.int (nI t)), some (.int x), some (.int n), none, none, none, none]) (by decide) (Nat.le_of_ble_eq_true rfl) rfl ?_
  refine zv_aload_n (pc' := 1) dX6_bestChange_0 rfl rfl ?_
  refine zv_iload_n (pc' := 2) dX6_bestChange_1 rfl rfl ?_
  refine zv_cV1_pi (pc' := 5) dX6_bestChange_2 rfl lkX6_111 (by first | rfl | assumption) rfl (Nat.le_of_ble_eq_true rfl) (x6_nobody hA) ?_
  refine zv_iload_n (pc' := 6) dX6_bestChange_5 rfl rfl ?_
  refine zv_iconst (v := nI 0) (pc' := 7) dX6_bestChange_6 rfl (by decide) ?_
  refine zv_bipush (v := nI 20) (pc' := 9) dX6_bestChange_7 rfl (by decide) ?_
  refine zv_cS3_pi (pc' := 12) dX6_bestChange_9 rfl lkX6_73 (Nat.le_of_ble_eq_true rfl) (x6_outside) ?_
  refine zv_iconst (v := nI 0) (pc' := 13) dX6_bestChange_12 rfl (by decide) ?_
  refine zv_top (show nI 0 = -nI 0 by decide) ?_
  refine zv_cS3_pi (pc' := 16) dX6_bestChange_13 rfl lkX6_81 (Nat.le_of_ble_eq_true rfl) (x6_firstOf nbN_lt bdN_lt) ?_
  have hw := fiN_lt (nbN_lt (n := yN (sC s)) (x := x)) (bdN_lt (x := n) (lo := nI 0) (hi := nI 20)) (by decide : 0 < 7)
  refine zv_istore (pc' := 18) dX6_bestChange_16 rfl (by decide) ?_
  refine zv_iload (pc' := 20) dX6_bestChange_18 rfl rfl ?_
  refine zv_if_eq (pc' := 23) (tgt := 30) dX6_bestChange_20 rfl rfl ?_ ?_
  · intro h
    have h0 := (neg_w0 _ hw).mp h
    obtain ⟨g1, g2, -⟩ := fiN_0.mp h0
    obtain ⟨p, hp, rfl⟩ := hasB_of hn (nbN_0.mp g1)
    obtain ⟨n, -, hn2, rfl⟩ := isInB_of (by decide) (bdN_0.mp g2) (by decide)
    refine zv_aload_n (pc' := 31) dX6_bestChange_30 rfl rfl ?_
    refine zv_iload_n (pc' := 32) dX6_bestChange_31 rfl rfl ?_
    refine zv_cV1_fv (pc' := 35) dX6_bestChange_32 rfl lkX6_174 (by first | rfl | assumption) rfl (Nat.le_of_ble_eq_true rfl) (x6_thinkAhead hA hk.1 (by omega)) ?_
    rintro M1 ⟨h1, h2⟩
    have hM := h1.2.2.2.2.1
    have lp : ∀ r k M1, k + r = yN (sC s) → zSame 13 19 M M1 → ZV mdX6_bestChange (d + 5) (fun v M' => ∃ r, v = some (.int r) ∧ (r = (sp_best t (nI p) (nI n) s).1 ∧ zIx M' (sp_best t (nI p) (nI n) s).2 ∧ zSame 0 90 M M')) 53 [some (.ref 0), some (.int (nI t)), some (.int (nI p)), some (.int (nI n)), none, some (.int (nI (bcS (sC s) t p n k).2)), some (.int (optI (bcS (sC s) t p n k).1)), some (.int (nI k))] [] M1 := by
      intro r
      induction r with
      | zero =>
        intro k M1 e hs1
        have e : k = yN (sC s) := by omega
        subst e
        have hA1 := hA.same hs1 (by omega)
        have hN := hA1.1
        refine zv_iload (pc' := 55) dX6_bestChange_53 rfl rfl ?_
        refine zv_aload_n (pc' := 56) dX6_bestChange_55 rfl rfl ?_
        refine zv_getR (pc' := 59) dX6_bestChange_56 rfl flX6_10 (by first | rfl | assumption) rfl ?_
        refine zv_getIE (pc' := 62) dX6_bestChange_59 rfl flX6_186 (by first | rfl | assumption) rfl (by first | exact hN | rfl) ?_
        refine zv_icmp_ge (pc' := 65) (tgt := 139) dX6_bestChange_62 rfl rfl (fun _ => ?_) (fun hcc => absurd (Int32.le_refl _) hcc)
        refine zv_iload (pc' := 141) dX6_bestChange_139 rfl rfl ?_
        refine zv_iret dX6_bestChange_141 rfl ?_
        exact zdonq (by rw [sp_best, zans_0 h0, pN_nI (by omega), pN_nI (by omega)]) hI (zScr.same hs1 (by omega))
      | succ r ih =>
        intro k M1 e hs1
        have hA1 := hA.same hs1 (by omega)
        have hN := hA1.1
        have hle := bcS_le (t := t) (n := n) (k := k) hk.1 hp (by omega)
        have stay : ∀ M2, zSame 13 19 M M2 → bcS (sC s) t p n (k + 1) = bcS (sC s) t p n k → ZV mdX6_bestChange (d + 5) (fun v M' => ∃ r, v = some (.int r) ∧ (r = (sp_best t (nI p) (nI n) s).1 ∧ zIx M' (sp_best t (nI p) (nI n) s).2 ∧ zSame 0 90 M M')) 133 [some (.ref 0), some (.int (nI t)), some (.int (nI p)), some (.int (nI n)), none, some (.int (nI (bcS (sC s) t p n k).2)), some (.int (optI (bcS (sC s) t p n k).1)), some (.int (nI k))] [] M2 := by
          intro M2 hs2 eb
          refine zv_iinc (w := nI 1) (pc' := 136) dX6_bestChange_133 rfl rfl (by decide) (by decide) ?_
          refine zv_goto (pc' := 53) dX6_bestChange_136 rfl ?_
          have := ih (k + 1) M2 (by omega) hs2
          rw [eb] at this
          rw [nI_add]
          exact this
        refine zv_iload (pc' := 55) dX6_bestChange_53 rfl rfl ?_
        refine zv_aload_n (pc' := 56) dX6_bestChange_55 rfl rfl ?_
        refine zv_getR (pc' := 59) dX6_bestChange_56 rfl flX6_10 (by first | rfl | assumption) rfl ?_
        refine zv_getIE (pc' := 62) dX6_bestChange_59 rfl flX6_186 (by first | rfl | assumption) rfl (by first | exact hN | rfl) ?_
        refine zv_icmp_ge (pc' := 65) (tgt := 139) dX6_bestChange_62 rfl rfl (fun hcc => absurd hcc (nI_ge (by omega) (by omega))) (fun _ => ?_)
        refine zv_aload_n (pc' := 66) dX6_bestChange_65 rfl rfl ?_
        refine zv_iload_n (pc' := 67) dX6_bestChange_66 rfl rfl ?_
        refine zv_iload_n (pc' := 68) dX6_bestChange_67 rfl rfl ?_
        refine zv_iload (pc' := 70) dX6_bestChange_68 rfl rfl ?_
        refine zv_cV3_pi (pc' := 73) dX6_bestChange_70 rfl lkX6_295 (by first | rfl | assumption) rfl (Nat.le_of_ble_eq_true rfl) (x6_mayChange hA1 hk.1 ht hp (by omega)) ?_
        refine zv_if_eq (pc' := 76) (tgt := 133) dX6_bestChange_73 rfl rfl ?_ ?_
        · intro h
          exact stay M1 hs1 (by rw [bcS, if_neg (by rw [zb_0.mp h]; simp)])
        · intro h
          have hmay := zb_ne.mp h
          have hne := mayB_ne hk.1 hmay
          have hch := zOk_ch (t := t) hk.1 hp (show k < yN (sC s) by omega) hne
          refine zv_aload_n (pc' := 77) dX6_bestChange_76 rfl rfl ?_
          refine zv_getR (pc' := 80) dX6_bestChange_77 rfl flX6_19 (by first | rfl | assumption) rfl ?_
          refine zv_aload_n (pc' := 81) dX6_bestChange_80 rfl rfl ?_
          refine zv_getR (pc' := 84) dX6_bestChange_81 rfl flX6_10 (by first | rfl | assumption) rfl ?_
          refine zv_cV1_fv (pc' := 87) dX6_bestChange_84 rfl lkX6_100 (by first | rfl | assumption) rfl (Nat.le_of_ble_eq_true rfl) (x0_become zCy13 zCy1 hA1 (by omega)) ?_
          rintro M2 ⟨h1, h2⟩
          refine zv_aload_n (pc' := 88) dX6_bestChange_87 rfl rfl ?_
          refine zv_iload_n (pc' := 89) dX6_bestChange_88 rfl rfl ?_
          refine zv_iload_n (pc' := 90) dX6_bestChange_89 rfl rfl ?_
          refine zv_iload (pc' := 92) dX6_bestChange_90 rfl rfl ?_
          refine zv_cV3_fv (pc' := 95) dX6_bestChange_92 rfl lkX6_299 (by first | rfl | assumption) rfl (Nat.le_of_ble_eq_true rfl) (x6_makeChange h1 hk.1 ht hp (by omega) hne) ?_
          rintro M3 ⟨h3, h4⟩
          refine zv_aload_n (pc' := 96) dX6_bestChange_95 rfl rfl ?_
          refine zv_getR (pc' := 99) dX6_bestChange_96 rfl flX6_19 (by first | rfl | assumption) rfl ?_
          refine zv_iload_n (pc' := 100) dX6_bestChange_99 rfl rfl ?_
          refine zv_cV1_fi (pc' := 103) dX6_bestChange_100 rfl lkX6_168 (by first | rfl | assumption) rfl (Nat.le_of_ble_eq_true rfl) (x0_passYears zCy13 h3 hch.1 (by omega)) ?_
          rintro r' M4 ⟨rfl, h5, h6⟩
          have hs4 : zSame 13 19 M M4 := ((hs1.tr h2).tr h4).tr h6
          have hM := h5.2.2.2.2.1
          have hb := (zOk_years (k := n) hch.1).1.2.2.2.1 p
          refine zv_pop (pc' := 104) dX6_bestChange_103 rfl rfl ?_
          refine zv_aload_n (pc' := 105) dX6_bestChange_104 rfl rfl ?_
          refine zv_getR (pc' := 108) dX6_bestChange_105 rfl flX6_19 (by first | rfl | assumption) rfl ?_
          refine zv_getR (pc' := 111) dX6_bestChange_108 rfl flX6_124 (by first | rfl | assumption) rfl ?_
          refine zv_iload_n (pc' := 112) dX6_bestChange_111 rfl rfl ?_
          refine zv_ialoadE (pc' := 113) dX6_bestChange_112 rfl (by first | rfl | assumption) (by decide) (by omega) (by first | exact hM _ (by omega) | rfl) ?_
          refine zv_iload (pc' := 115) dX6_bestChange_113 rfl rfl ?_
          refine zv_icmp_le (pc' := 118) (tgt := 133) dX6_bestChange_115 rfl rfl ?_ ?_
          · intro hz
            have hz := (nI_leI (by omega) (by omega)).mp hz
            exact stay M4 hs4 (by rw [bcS, if_neg (by omega)])
          · intro hz
            have hz := mt (nI_leI (a := yM (yearsC n (chC (sC s) t p k)) p) (b := (bcS (sC s) t p n k).2) (by omega) (by omega)).mpr hz
            have eb : bcS (sC s) t p n (k + 1) = (some k, yM (yearsC n (chC (sC s) t p k)) p) := by rw [bcS, if_pos ⟨hmay, by omega⟩]
            have := ih (k + 1) M4 (by omega) hs4
            rw [eb] at this
            refine zv_aload_n (pc' := 119) dX6_bestChange_118 rfl rfl ?_
            refine zv_getR (pc' := 122) dX6_bestChange_119 rfl flX6_19 (by first | rfl | assumption) rfl ?_
            refine zv_getR (pc' := 125) dX6_bestChange_122 rfl flX6_124 (by first | rfl | assumption) rfl ?_
            refine zv_iload_n (pc' := 126) dX6_bestChange_125 rfl rfl ?_
            refine zv_ialoadE (pc' := 127) dX6_bestChange_126 rfl (by first | rfl | assumption) (by decide) (by omega) (by first | exact hM _ (by omega) | rfl) ?_
            refine zv_istore (pc' := 129) dX6_bestChange_127 rfl (by decide) ?_
            refine zv_iload (pc' := 131) dX6_bestChange_129 rfl rfl ?_
            refine zv_istore (pc' := 133) dX6_bestChange_131 rfl (by decide) ?_
            refine zv_iinc (w := nI 1) (pc' := 136) dX6_bestChange_133 rfl rfl (by decide) (by decide) ?_
            refine zv_goto (pc' := 53) dX6_bestChange_136 rfl ?_
            rw [nI_add]
            exact this
    refine zv_aload_n (pc' := 36) dX6_bestChange_35 rfl rfl ?_
    refine zv_getR (pc' := 39) dX6_bestChange_36 rfl flX6_19 (by first | rfl | assumption) rfl ?_
    refine zv_getR (pc' := 42) dX6_bestChange_39 rfl flX6_124 (by first | rfl | assumption) rfl ?_
    refine zv_iload_n (pc' := 43) dX6_bestChange_42 rfl rfl ?_
    refine zv_ialoadE (pc' := 44) dX6_bestChange_43 rfl (by first | rfl | assumption) (by decide) (by omega) (by first | exact hM _ (by omega) | rfl) ?_
    refine zv_istore (pc' := 46) dX6_bestChange_44 rfl (by decide) ?_
    refine zv_bipush (v := (-9 : Int32)) (pc' := 48) dX6_bestChange_46 rfl (by decide) ?_
    refine zv_istore (pc' := 50) dX6_bestChange_48 rfl (by decide) ?_
    refine zv_iconst (v := nI 0) (pc' := 51) dX6_bestChange_50 rfl (by decide) ?_
    refine zv_istore (pc' := 53) dX6_bestChange_51 rfl (by decide) ?_
    refine zv_fg [4] ?_
    exact lp (yN (sC s)) 0 M1 (by omega) h2
  · intro h
    have h0 := mt (neg_w0 _ hw).mpr h
    refine zv_aload_n (pc' := 24) dX6_bestChange_23 rfl rfl ?_
    refine zv_iload (pc' := 26) dX6_bestChange_24 rfl rfl ?_
    refine zv_cV1_fi (pc' := 29) dX6_bestChange_26 rfl lkX6_84 (by first | rfl | assumption) rfl (Nat.le_of_ble_eq_true rfl) (x6_refuse hw h0) ?_
    rintro r M1 ⟨rfl, rfl⟩
    refine zv_iret dX6_bestChange_29 rfl ?_
    exact zrefx hI h0
end
section
variable {d : Nat}
theorem gx_bestSign (x n : Int32) : zGx mdX6_bestSign (d + 6) [.int x, .int n] (sp_best 0 x n) := by
  intro M s hI hk
  refine zex_intro (L := [some (.ref 0), some (.int x), some (.int n)]) (by decide) (Nat.le_of_ble_eq_true rfl) rfl ?_
  refine zv_aload_n (pc' := 1) dX6_bestSign_0 rfl rfl ?_
  refine zv_iconst (v := nI 0) (pc' := 2) dX6_bestSign_1 rfl (by decide) ?_
  refine zv_iload_n (pc' := 3) dX6_bestSign_2 rfl rfl ?_
  refine zv_iload_n (pc' := 4) dX6_bestSign_3 rfl rfl ?_
  refine zv_cV3_fi (pc' := 7) dX6_bestSign_4 rfl lkX6_210 (by first | rfl | assumption) rfl (Nat.le_of_ble_eq_true rfl) (x6_bestChange x n (by decide) s hI hk) ?_
  rintro r M1 h
  refine zv_iret dX6_bestSign_7 rfl ?_
  exact ⟨r, rfl, h⟩
theorem gx_bestCut (x n : Int32) : zGx mdX6_bestCut (d + 6) [.int x, .int n] (sp_best 1 x n) := by
  intro M s hI hk
  refine zex_intro (L := [some (.ref 0), some (.int x), some (.int n)]) (by decide) (Nat.le_of_ble_eq_true rfl) rfl ?_
  refine zv_aload_n (pc' := 1) dX6_bestCut_0 rfl rfl ?_
  refine zv_iconst (v := nI 1) (pc' := 2) dX6_bestCut_1 rfl (by decide) ?_
  refine zv_iload_n (pc' := 3) dX6_bestCut_2 rfl rfl ?_
  refine zv_iload_n (pc' := 4) dX6_bestCut_3 rfl rfl ?_
  refine zv_cV3_fi (pc' := 7) dX6_bestCut_4 rfl lkX6_210 (by first | rfl | assumption) rfl (Nat.le_of_ble_eq_true rfl) (x6_bestChange x n (by decide) s hI hk) ?_
  rintro r M1 h
  refine zv_iret dX6_bestCut_7 rfl ?_
  exact ⟨r, rfl, h⟩
theorem gx_buys (x n : Int32) : zGx mdX6_buys (d + 6) [.int x, .int n] (sp_best 2 x n) := by
  intro M s hI hk
  refine zex_intro (L := [some (.ref 0), some (.int x), some (.int n)]) (by decide) (Nat.le_of_ble_eq_true rfl) rfl ?_
  refine zv_aload_n (pc' := 1) dX6_buys_0 rfl rfl ?_
  refine zv_iconst (v := nI 2) (pc' := 2) dX6_buys_1 rfl (by decide) ?_
  refine zv_iload_n (pc' := 3) dX6_buys_2 rfl rfl ?_
  refine zv_iload_n (pc' := 4) dX6_buys_3 rfl rfl ?_
  refine zv_cV3_fi (pc' := 7) dX6_buys_4 rfl lkX6_210 (by first | rfl | assumption) rfl (Nat.le_of_ble_eq_true rfl) (x6_bestChange x n (by decide) s hI hk) ?_
  rintro r M1 h
  refine zv_iret dX6_buys_7 rfl ?_
  exact ⟨r, rfl, h⟩
theorem x6_wealthWithFeud {M : ZMem} {c : ZCty} {p q n : Nat} {b : Bool} (hA : zAt M 1 c) (hk : zOk c) (hp : p < yN c) (hq : q < yN c) (hpq : p ≠ q) (hn : n < 2 ^ 31) : ZFi mdX6_wealthWithFeud (d + 4) [.ref 0, .int (nI p), .int (nI q), .int (zb b), .int (nI n)] M (fun r M' => r = nI (wealthN (yearsC n (feudC c p q b))) ∧ zSame 13 19 M M') := by
  have hn8 := hk.1
  have hf := zOk_feud (b := b) hk hp hq hpq
  refine zex_intro (L := [some (.ref 0), some (.int (nI p)), some (.int (nI q)), some (.int (zb b)), some (.int (nI n))]) (by decide) (Nat.le_of_ble_eq_true rfl) rfl ?_
  refine zv_aload_n (pc' := 1) dX6_wealthWithFeud_0 rfl rfl ?_
  refine zv_getR (pc' := 4) dX6_wealthWithFeud_1 rfl flX6_19 (by first | rfl | assumption) rfl ?_
  refine zv_aload_n (pc' := 5) dX6_wealthWithFeud_4 rfl rfl ?_
  refine zv_getR (pc' := 8) dX6_wealthWithFeud_5 rfl flX6_10 (by first | rfl | assumption) rfl ?_
  refine zv_cV1_fv (pc' := 11) dX6_wealthWithFeud_8 rfl lkX6_100 (by first | rfl | assumption) rfl (Nat.le_of_ble_eq_true rfl) (x0_become zCy13 zCy1 hA (by omega)) ?_
  rintro M1 ⟨h1, h2⟩
  refine zv_aload_n (pc' := 12) dX6_wealthWithFeud_11 rfl rfl ?_
  refine zv_getR (pc' := 15) dX6_wealthWithFeud_12 rfl flX6_19 (by first | rfl | assumption) rfl ?_
  refine zv_iload_n (pc' := 16) dX6_wealthWithFeud_15 rfl rfl ?_
  refine zv_iload_n (pc' := 17) dX6_wealthWithFeud_16 rfl rfl ?_
  refine zv_iload_n (pc' := 18) dX6_wealthWithFeud_17 rfl rfl ?_
  refine zv_cV3_fi (pc' := 21) dX6_wealthWithFeud_18 rfl lkX6_307 (by first | rfl | assumption) rfl (Nat.le_of_ble_eq_true rfl) (x0_setFeud zCy13 h1 hn8 hp hq hpq) ?_
  rintro r M2 ⟨rfl, h3, h4⟩
  refine zv_pop (pc' := 22) dX6_wealthWithFeud_21 rfl rfl ?_
  refine zv_aload_n (pc' := 23) dX6_wealthWithFeud_22 rfl rfl ?_
  refine zv_getR (pc' := 26) dX6_wealthWithFeud_23 rfl flX6_19 (by first | rfl | assumption) rfl ?_
  refine zv_iload (pc' := 28) dX6_wealthWithFeud_26 rfl rfl ?_
  refine zv_cV1_fi (pc' := 31) dX6_wealthWithFeud_28 rfl lkX6_168 (by first | rfl | assumption) rfl (Nat.le_of_ble_eq_true rfl) (x0_passYears zCy13 h3 hf hn) ?_
  rintro r M3 ⟨rfl, h5, h6⟩
  refine zv_pop (pc' := 32) dX6_wealthWithFeud_31 rfl rfl ?_
  refine zv_aload_n (pc' := 33) dX6_wealthWithFeud_32 rfl rfl ?_
  refine zv_getR (pc' := 36) dX6_wealthWithFeud_33 rfl flX6_19 (by first | rfl | assumption) rfl ?_
  have hwn : yN (yearsC n (feudC c p q b)) ≤ 8 := by rw [(zOk_years hf).2]; exact hn8
  refine zv_cV0_pi (pc' := 39) dX6_wealthWithFeud_36 rfl lkX6_171 (by first | rfl | assumption) rfl (Nat.le_of_ble_eq_true rfl) (x0_wealth zCy13 h5 hwn) ?_
  refine zv_iret dX6_wealthWithFeud_39 rfl ?_
  exact ⟨_, rfl, rfl, (h2.tr h4).tr h6⟩
theorem zreflx {M : ZMem} {s : ZS} {v : Int32} {w : Nat} (hI : zIx M s) (hw : w ≠ 0) : ∃ r, some (Value.int (1000000000 - -nI w)) = some (Value.int r) ∧ (r = (zanl w s v).1 ∧ zIx (zup M 28 w (M 28 w + 1)) (zanl w s v).2 ∧ zSame 0 90 M (zup M 28 w (M 28 w + 1))) := by
  obtain ⟨r, -, h2⟩ := zrefx (s' := s) (v := v) hI hw
  rw [zans, if_neg hw] at h2
  rw [zanl, if_neg hw]
  exact ⟨_, rfl, rfl, h2.2⟩
theorem zreflm {M : ZMem} {s : ZS} {v : Int32} {w : Nat} (hI : zIm M s) (hw : w ≠ 0) : ∃ r, some (Value.int (1000000000 - -nI w)) = some (Value.int r) ∧ (r = (zanl w s v).1 ∧ zIm (zup M 91 w (M 91 w + 1)) (zanl w s v).2 ∧ ∀ k, k < 90 → zup M 91 w (M 91 w + 1) k = M k) := by
  obtain ⟨r, -, h2⟩ := zrefm (s' := s) (v := v) hI hw
  rw [zans, if_neg hw] at h2
  rw [zanl, if_neg hw]
  exact ⟨_, rfl, rfl, h2.2⟩
theorem gx_feudCosts (x y n : Int32) : zGx mdX6_feudCosts (d + 5) [.int x, .int y, .int n] (sp_feudCosts x y n) := by
  intro M s hI hk
  have hn := hk.1.1
  have hA := hI.1
  refine zex_intro (L := [some (.ref 0), some (.int x), some (.int y), some (.int n), none]) (by decide) (Nat.le_of_ble_eq_true rfl) rfl ?_
  refine zv_aload_n (pc' := 1) dX6_feudCosts_0 rfl rfl ?_
  refine zv_iload_n (pc' := 2) dX6_feudCosts_1 rfl rfl ?_
  refine zv_iload_n (pc' := 3) dX6_feudCosts_2 rfl rfl ?_
  refine zv_cV2_pi (pc' := 6) dX6_feudCosts_3 rfl lkX6_138 (by first | rfl | assumption) rfl (Nat.le_of_ble_eq_true rfl) (x6_notTwo hA) ?_
  refine zv_iload_n (pc' := 7) dX6_feudCosts_6 rfl rfl ?_
  refine zv_iconst (v := nI 0) (pc' := 8) dX6_feudCosts_7 rfl (by decide) ?_
  refine zv_bipush (v := nI 60) (pc' := 10) dX6_feudCosts_8 rfl (by decide) ?_
  refine zv_cS3_pi (pc' := 13) dX6_feudCosts_10 rfl lkX6_73 (Nat.le_of_ble_eq_true rfl) (x6_outside) ?_
  refine zv_iconst (v := nI 0) (pc' := 14) dX6_feudCosts_13 rfl (by decide) ?_
  refine zv_top (show nI 0 = -nI 0 by decide) ?_
  refine zv_cS3_pi (pc' := 17) dX6_feudCosts_14 rfl lkX6_81 (Nat.le_of_ble_eq_true rfl) (x6_firstOf twN_lt bdN_lt) ?_
  have hw := fiN_lt (twN_lt (n := yN (sC s)) (x := x) (y := y)) (bdN_lt (x := n) (lo := nI 0) (hi := nI 60)) (by decide : 0 < 7)
  refine zv_istore (pc' := 19) dX6_feudCosts_17 rfl (by decide) ?_
  refine zv_iload (pc' := 21) dX6_feudCosts_19 rfl rfl ?_
  refine zv_if_eq (pc' := 24) (tgt := 34) dX6_feudCosts_21 rfl rfl ?_ ?_
  · intro h
    have h0 := (neg_w0 _ hw).mp h
    obtain ⟨g1, g2, -⟩ := fiN_0.mp h0
    obtain ⟨p, q, hp, hq, hpq, rfl, rfl⟩ := twoB_of hn (twN_0.mp g1)
    obtain ⟨n, -, hn2, rfl⟩ := isInB_of (by decide) (bdN_0.mp g2) (by decide)
    refine zv_aload_n (pc' := 35) dX6_feudCosts_34 rfl rfl ?_
    refine zv_iload_n (pc' := 36) dX6_feudCosts_35 rfl rfl ?_
    refine zv_iload_n (pc' := 37) dX6_feudCosts_36 rfl rfl ?_
    refine zv_iconst (v := nI 0) (pc' := 38) dX6_feudCosts_37 rfl (by decide) ?_
    refine zv_iload_n (pc' := 39) dX6_feudCosts_38 rfl rfl ?_
    refine zv_cV4_fi (pc' := 42) dX6_feudCosts_39 rfl lkX6_214 (by first | rfl | assumption) rfl (Nat.le_of_ble_eq_true rfl) (x6_wealthWithFeud (b := false) hA hk.1 hp hq hpq (by omega)) ?_
    rintro r M1 ⟨rfl, h1⟩
    refine zv_aload_n (pc' := 43) dX6_feudCosts_42 rfl rfl ?_
    refine zv_iload_n (pc' := 44) dX6_feudCosts_43 rfl rfl ?_
    refine zv_iload_n (pc' := 45) dX6_feudCosts_44 rfl rfl ?_
    refine zv_iconst (v := nI 1) (pc' := 46) dX6_feudCosts_45 rfl (by decide) ?_
    refine zv_iload_n (pc' := 47) dX6_feudCosts_46 rfl rfl ?_
    refine zv_cV4_fi (pc' := 50) dX6_feudCosts_47 rfl lkX6_214 (by first | rfl | assumption) rfl (Nat.le_of_ble_eq_true rfl) (x6_wealthWithFeud (b := true) (hA.same h1 (by omega)) hk.1 hp hq hpq (by omega)) ?_
    rintro r M2 ⟨rfl, h2⟩
    refine zv_isub (pc' := 51) dX6_feudCosts_50 rfl ?_
    refine zv_iret dX6_feudCosts_51 rfl ?_
    exact zdonq (by rw [sp_feudCosts, zanl, if_pos h0, pN_nI (by omega), pN_nI (by omega), pN_nI (by omega)]; rfl) hI (zScr.same (h1.tr h2) (by omega))
  · intro h
    have h0 := mt (neg_w0 _ hw).mpr h
    refine zv_ldc (pc' := 26) dX6_feudCosts_24 rfl csX6_213 ?_
    refine zv_aload_n (pc' := 27) dX6_feudCosts_26 rfl rfl ?_
    refine zv_iload (pc' := 29) dX6_feudCosts_27 rfl rfl ?_
    refine zv_cV1_fi (pc' := 32) dX6_feudCosts_29 rfl lkX6_84 (by first | rfl | assumption) rfl (Nat.le_of_ble_eq_true rfl) (x6_refuse hw h0) ?_
    rintro r M1 ⟨rfl, rfl⟩
    refine zv_isub (pc' := 33) dX6_feudCosts_32 rfl ?_
    refine zv_iret dX6_feudCosts_33 rfl ?_
    exact zreflx hI h0
end
