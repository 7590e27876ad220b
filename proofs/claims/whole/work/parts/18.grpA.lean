/-! letter, row, judge, clear, image, on, person, tie, signs, feuds, gets, turn, years, count: the class -/
abbrev pN (x : Int32) : Nat := x.toNatClampNeg
theorem pN_nI {k : Nat} (h : k < 2 ^ 31) : pN (nI k) = k := nI_clamp h
def sp_letter (x : Int32) (s : ZS) : Int32 × ZS := zans (fiN (bdN x (nI 0) (nI 255)) (if 96 ≤ (sL s).1 then 6 else 0) 0) s (nI ((sL s).1 + 1)) (sC s, sI s, ((sL s).1 + 1, fu (sL s).2 (sL s).1 (pN x)), sR s, sW s)
def sp_row (x : Int32) (s : ZS) : Int32 × ZS := zans (fiN (bdN x (nI 0) (nI 99)) (if 16 ≤ (sR s).1 then 6 else 0) 0) s (nI ((sR s).1 + 1)) (sC s, sI s, sL s, ((sR s).1 + 1, fu (sR s).2 (sR s).1 (pN x)), sW s)
def sp_clear (s : ZS) : Int32 × ZS := (nI (sR s).1, (sC s, sI s, sL s, (0, (sR s).2), sW s))
def zfst : Nat → Nat → (Nat → Bool) → Option Nat
  | 0, _, _ => none
  | r + 1, k, P => if P k = true then some k else zfst r (k + 1) P
def optI : Option Nat → Int32
  | none => -9
  | some k => nI k
def sp_judge (s : ZS) : Int32 × ZS := (optI (zfst (sR s).1 0 (fun k => !(decide (k < yN (sC s)) && decide (yM (sC s) k = (sR s).2 k)))), (sC s, sI s, sL s, (0, (sR s).2), sW s))
def sp_image (s : ZS) : Int32 × ZS := (nI (yY (sC s)), (sC s, some (sC s), sL s, sR s, sW s))
def sp_on (s : ZS) : Int32 × ZS := match sI s with
  | none => (-nI 3, refS s 3)
  | some ci => (nI (yY ci), (ci, s.2))
def cntK (s : ZS) : Nat → Int32
  | 0 => nI (yN (sC s))
  | 1 => nI (yY (sC s))
  | 2 => nI (wealthN (sC s))
  | 3 => nI (signN (sC s))
  | 4 => nI (feudN (sC s))
  | 5 => nI (kinN (sC s))
  | 6 => nI (sR s).1
  | _ => nI (sL s).1
def cntV (s : ZS) (x : Int32) : Int32 := if isInB x (nI 11) (nI 16) = true then sW s (pN x - 10) else if isInB x (nI 0) (nI 7) = true then cntK s (pN x) else -9
def sp_count (x : Int32) (s : ZS) : Int32 × ZS := (cntV s x, s)
def perV (c : ZCty) (p : Nat) : Nat → Int32
  | 0 => nI (yK c p)
  | 1 => nI (yF c p)
  | 2 => nI (yM c p)
  | 3 => nI (zcn 8 (kinB c p))
  | _ => nI (zcn 8 (yS c p))
def sp_person (x y : Int32) (s : ZS) : Int32 × ZS := zans (fiN (nbN (yN (sC s)) x) (otN y 4) 0) s (perV (sC s) (pN x) (pN y)) s
def tieV (c : ZCty) (p q : Nat) : Nat → Int32
  | 0 => zb (yS c p q)
  | 1 => zb (yX c p q)
  | 2 => zb (kinB c p q)
  | _ => nI (duesN c p q)
def sp_tie (x y z : Int32) (s : ZS) : Int32 × ZS := zans (fiN (twN (yN (sC s)) x y) (otN z 3) 0) s (tieV (sC s) (pN x) (pN y) (pN z)) s
def sp_signs (x y : Int32) (s : ZS) : Int32 × ZS := zans (twN (yN (sC s)) x y) s (zb (!yS (sC s) (pN x) (pN y))) (signC (sC s) (pN x) (pN y) (!yS (sC s) (pN x) (pN y)), s.2)
def sp_feuds (x y : Int32) (s : ZS) : Int32 × ZS := zans (twN (yN (sC s)) x y) s (zb (!yX (sC s) (pN x) (pN y))) (feudC (sC s) (pN x) (pN y) (!yX (sC s) (pN x) (pN y)), s.2)
def sp_gets (x v : Int32) (s : ZS) : Int32 × ZS := zans (fiN (nbN (yN (sC s)) x) (bdN v (nI 0) (nI 99)) 0) s (nI (yM (sC s) (pN x))) (setM (sC s) (fu (yM (sC s)) (pN x) (pN v)), s.2)
def turnC (c : ZCty) (p k f : Nat) : ZCty := setF (setK c (fu (yK c) p k)) (fu (yF c) p f)
def sp_turn (x k f : Int32) (s : ZS) : Int32 × ZS := zans (fiN (nbN (yN (sC s)) x) (otN k 5) (bdN f (nI 0) (nI 9))) s (nI (10 * yK (sC s) (pN x) + yF (sC s) (pN x))) (turnC (sC s) (pN x) (pN k) (pN f), s.2)
def sp_years (x : Int32) (s : ZS) : Int32 × ZS := zans (fiN (bdN x (nI 1) (nI 60)) (if passB (yY (sC s)) x = true then 0 else 6) 0) s (nI (wealthN (yearsC (pN x) (sC s)))) (yearsC (pN x) (sC s), s.2)
theorem zIx.setc {M M' : ZMem} {s : ZS} {c : ZCty} (h : zIx M s) (hA : zAt M' 1 c) (hs : zSame 1 7 M M') : zIx M' (c, s.2) := by
  obtain ⟨h1, h2, h3, h4, h5⟩ := h
  exact ⟨hA, ⟨by rw [hs _ (by omega)]; exact h2.1, fun ci hc => (h2.2 ci hc).same hs (by omega)⟩, by rw [hs 25 (by omega), hs 26 (by omega)]; exact h3, by rw [hs 0 (by omega), hs 27 (by omega)]; exact h4, by rw [hs 28 (by omega)]; exact h5⟩
theorem zans_0 {w : Nat} {s s' : ZS} {v : Int32} (h : w = 0) : zans w s v s' = (v, s') := by rw [zans, if_pos h]
theorem zdone {v : Int32} {s' : ZS} {sp : Int32 × ZS} {M M' : ZMem} (e : sp = (v, s')) (hI : zIx M' s') (hs : zSame 0 90 M M') : ∃ r, some (Value.int v) = some (Value.int r) ∧ (r = sp.1 ∧ zIx M' sp.2 ∧ zSame 0 90 M M') := ⟨v, rfl, by rw [e], by rw [e]; exact hI, hs⟩
theorem zSame.wide {lo hi lo' hi' : Nat} {M M' : ZMem} (h : zSame lo hi M M') (h1 : lo' ≤ lo) (h2 : hi ≤ hi') : zSame lo' hi' M M' := fun k hk => h k (by omega)
section
variable {d : Nat}
theorem gx_letter (x : Int32) : zGx mdX6_letter (d + 2) [.int x] (sp_letter x) := by
  intro M s hI hk
  have hl96 := hk.2.2.2.1.1
  have hL := hI.2.2.1.1
  refine zex_intro (L := [some (.ref 0), some (.int x), none]) (by decide) (Nat.le_of_ble_eq_true rfl) rfl ?_
  refine zv_iload_n (pc' := 1) dX6_letter_0 rfl rfl ?_
  refine zv_iconst (v := nI 0) (pc' := 2) dX6_letter_1 rfl (by decide) ?_
  refine zv_sipush (v := nI 255) (pc' := 5) dX6_letter_2 rfl (by decide) ?_
  refine zv_cS3_pi (pc' := 8) dX6_letter_5 rfl lkX6_73 (Nat.le_of_ble_eq_true rfl) (x6_outside) ?_
  refine zv_aload_n (pc' := 9) dX6_letter_8 rfl rfl ?_
  refine zv_getR (pc' := 12) dX6_letter_9 rfl flX6_28 (by first | rfl | assumption) rfl ?_
  refine zv_cV0_pi (pc' := 15) dX6_letter_12 rfl lkX6_77 (by first | rfl | assumption) rfl (Nat.le_of_ble_eq_true rfl) (x1_isFull hl96 hL) ?_
  have fin : ∀ w2, w2 = (if 96 ≤ (sL s).1 then 6 else 0) → ZV mdX6_letter (d + 2) (fun v M' => ∃ r, v = some (.int r) ∧ (r = (sp_letter x s).1 ∧ zIx M' (sp_letter x s).2 ∧ zSame 0 90 M M')) 24 [some (.ref 0), some (.int x), none] [.int (-nI w2), .int (-nI (bdN x (nI 0) (nI 255)))] M := by
    intro w2 hw2
    have hw2' : w2 < 7 := by rw [hw2]; split <;> omega
    refine zv_iconst (v := nI 0) (pc' := 25) dX6_letter_24 rfl (by decide) ?_
    refine zv_top (show nI 0 = -nI 0 by decide) ?_
    refine zv_cS3_pi (pc' := 28) dX6_letter_25 rfl lkX6_81 (Nat.le_of_ble_eq_true rfl) (x6_firstOf bdN_lt hw2') ?_
    have hw := fiN_lt (bdN_lt (x := x) (lo := nI 0) (hi := nI 255)) hw2' (by decide : 0 < 7)
    refine zv_istore_n (pc' := 29) dX6_letter_28 rfl (by decide) ?_
    refine zv_iload_n (pc' := 30) dX6_letter_29 rfl rfl ?_
    refine zv_if_eq (pc' := 33) (tgt := 39) dX6_letter_30 rfl rfl ?_ ?_
    · intro h
      have h0 := (neg_w0 _ hw).mp h
      obtain ⟨g1, g2, -⟩ := fiN_0.mp h0
      have hlt : (sL s).1 < 96 := by rw [hw2] at g2; split at g2 <;> omega
      obtain ⟨k, -, hk2, rfl⟩ := isInB_of (by decide) (bdN_0.mp g1) (by decide)
      refine zv_aload_n (pc' := 40) dX6_letter_39 rfl rfl ?_
      refine zv_getR (pc' := 43) dX6_letter_40 rfl flX6_28 (by first | rfl | assumption) rfl ?_
      refine zv_iload_n (pc' := 44) dX6_letter_43 rfl rfl ?_
      refine zv_cV1_fv (pc' := 47) dX6_letter_44 rfl lkX6_88 (by first | rfl | assumption) rfl (Nat.le_of_ble_eq_true rfl) (x1_add hlt hL) ?_
      rintro M1 rfl
      have hL1 : zup (zup M 26 (sL s).1 (nI k)) 25 1 (nI ((sL s).1 + 1)) 25 1 = nI ((sL s).1 + 1) := by rw [zup_eq, upd_s]
      refine zv_aload_n (pc' := 48) dX6_letter_47 rfl rfl ?_
      refine zv_getR (pc' := 51) dX6_letter_48 rfl flX6_28 (by first | rfl | assumption) rfl ?_
      refine zv_getIE (pc' := 54) dX6_letter_51 rfl flX6_92 (by first | rfl | assumption) rfl (by first | exact hL1 | rfl) ?_
      refine zv_iret dX6_letter_54 rfl ?_
      refine zdone (s' := (sC s, sI s, ((sL s).1 + 1, fu (sL s).2 (sL s).1 k), sR s, sW s)) (by rw [sp_letter, ← hw2, zans_0 h0, pN_nI (by omega)]) ?_ ((zSame.up (by omega) (by omega)).tr (zSame.up (by omega) (by omega)))
      obtain ⟨h1, h2, h3, h4, h5⟩ := hI
      have hs : ∀ q, q ≠ 25 → q ≠ 26 → zup (zup M 26 (sL s).1 (nI k)) 25 1 (nI ((sL s).1 + 1)) q = M q := fun q a b => by rw [zup_ne a, zup_ne b]
      have hz : ∀ o, o + 6 ≤ 13 → ∀ c, zAt M o c → zAt (zup (zup M 26 (sL s).1 (nI k)) 25 1 (nI ((sL s).1 + 1))) o c := fun o ho c hA => (hA.same (lo := 25) (hi := 27) (fun q hq => hs q (by omega) (by omega)) (by omega))
      refine ⟨hz 1 (by omega) _ h1, ⟨by rw [hs _ (by omega) (by omega)]; exact h2.1, fun ci hc => hz 7 (by omega) _ (h2.2 ci hc)⟩, ⟨hL1, fun j hj => ?_⟩, by rw [hs 0 (by omega) (by omega), hs 27 (by omega) (by omega)]; exact h4, by rw [hs 28 (by omega) (by omega)]; exact h5⟩
      have hj : j < (sL s).1 + 1 := hj
      show _ = nI (fu (sL s).2 (sL s).1 k j)
      rw [zup_ne (by omega), zup_eq]
      by_cases e : j = (sL s).1
      · rw [e, upd_s, fu_s]
      · rw [upd_n e, fu_n e]; exact h3.2 j (by omega)
    · intro h
      have h0 := mt (neg_w0 _ hw).mpr h
      refine zv_aload_n (pc' := 34) dX6_letter_33 rfl rfl ?_
      refine zv_iload_n (pc' := 35) dX6_letter_34 rfl rfl ?_
      refine zv_cV1_fi (pc' := 38) dX6_letter_35 rfl lkX6_84 (by first | rfl | assumption) rfl (Nat.le_of_ble_eq_true rfl) (x6_refuse hw h0) ?_
      rintro r M1 ⟨rfl, rfl⟩
      refine zv_iret dX6_letter_38 rfl ?_
      rw [sp_letter, ← hw2]
      exact zrefx hI h0
  refine zv_if_eq (pc' := 18) (tgt := 23) dX6_letter_15 rfl rfl ?_ ?_
  · intro h
    have h := of_decide_eq_false (zb_0.mp h)
    refine zv_iconst (v := nI 0) (pc' := 24) dX6_letter_23 rfl (by decide) ?_
    exact fin 0 (by rw [if_neg h])
  · intro h
    have h := of_decide_eq_true (zb_ne.mp h)
    refine zv_bipush (v := (-6 : Int32)) (pc' := 20) dX6_letter_18 rfl (by decide) ?_
    refine zv_goto (pc' := 24) dX6_letter_20 rfl ?_
    exact fin 6 (by rw [if_pos h])
theorem gx_row (x : Int32) : zGx mdX6_row (d + 2) [.int x] (sp_row x) := by
  intro M s hI hk
  have hl16 := hk.2.2.2.2.1
  have hL := hI.2.2.2.1.1
  refine zex_intro (L := [some (.ref 0), some (.int x), none]) (by decide) (Nat.le_of_ble_eq_true rfl) rfl ?_
  refine zv_iload_n (pc' := 1) dX6_row_0 rfl rfl ?_
  refine zv_iconst (v := nI 0) (pc' := 2) dX6_row_1 rfl (by decide) ?_
  refine zv_bipush (v := nI 99) (pc' := 4) dX6_row_2 rfl (by decide) ?_
  refine zv_cS3_pi (pc' := 7) dX6_row_4 rfl lkX6_73 (Nat.le_of_ble_eq_true rfl) (x6_outside) ?_
  refine zv_aload_n (pc' := 8) dX6_row_7 rfl rfl ?_
  refine zv_getIE (pc' := 11) dX6_row_8 rfl flX6_266 (by first | rfl | assumption) rfl (by first | exact hL | rfl) ?_
  refine zv_bipush (v := nI 16) (pc' := 13) dX6_row_11 rfl (by decide) ?_
  have fin : ∀ w2, w2 = (if 16 ≤ (sR s).1 then 6 else 0) → ZV mdX6_row (d + 2) (fun v M' => ∃ r, v = some (.int r) ∧ (r = (sp_row x s).1 ∧ zIx M' (sp_row x s).2 ∧ zSame 0 90 M M')) 22 [some (.ref 0), some (.int x), none] [.int (-nI w2), .int (-nI (bdN x (nI 0) (nI 99)))] M := by
    intro w2 hw2
    have hw2' : w2 < 7 := by rw [hw2]; split <;> omega
    refine zv_iconst (v := nI 0) (pc' := 23) dX6_row_22 rfl (by decide) ?_
    refine zv_top (show nI 0 = -nI 0 by decide) ?_
    refine zv_cS3_pi (pc' := 26) dX6_row_23 rfl lkX6_81 (Nat.le_of_ble_eq_true rfl) (x6_firstOf bdN_lt hw2') ?_
    have hw := fiN_lt (bdN_lt (x := x) (lo := nI 0) (hi := nI 99)) hw2' (by decide : 0 < 7)
    refine zv_istore_n (pc' := 27) dX6_row_26 rfl (by decide) ?_
    refine zv_iload_n (pc' := 28) dX6_row_27 rfl rfl ?_
    refine zv_if_eq (pc' := 31) (tgt := 37) dX6_row_28 rfl rfl ?_ ?_
    · intro h
      have h0 := (neg_w0 _ hw).mp h
      obtain ⟨g1, g2, -⟩ := fiN_0.mp h0
      have hlt : (sR s).1 < 16 := by rw [hw2] at g2; split at g2 <;> omega
      obtain ⟨k, -, hk2, rfl⟩ := isInB_of (by decide) (bdN_0.mp g1) (by decide)
      refine zv_aload_n (pc' := 38) dX6_row_37 rfl rfl ?_
      refine zv_getR (pc' := 41) dX6_row_38 rfl flX6_32 (by first | rfl | assumption) rfl ?_
      refine zv_aload_n (pc' := 42) dX6_row_41 rfl rfl ?_
      refine zv_getIE (pc' := 45) dX6_row_42 rfl flX6_266 (by first | rfl | assumption) rfl (by first | exact hL | rfl) ?_
      refine zv_iload_n (pc' := 46) dX6_row_45 rfl rfl ?_
      refine zv_iastoreN (pc' := 47) dX6_row_46 rfl (by first | rfl | assumption) (by decide) (by omega) ?_
      have hL1 : zup M 27 (sR s).1 (nI k) 0 7 = nI (sR s).1 := by rw [zup_ne (by decide)]; exact hL
      refine zv_aload_n (pc' := 48) dX6_row_47 rfl rfl ?_
      refine zv_dup (pc' := 49) dX6_row_48 rfl rfl ?_
      refine zv_getIE (pc' := 52) dX6_row_49 rfl flX6_266 (by first | rfl | assumption) rfl (by first | exact hL1 | rfl) ?_
      refine zv_iconst (v := nI 1) (pc' := 53) dX6_row_52 rfl (by decide) ?_
      refine zv_iadd (pc' := 54) dX6_row_53 rfl ?_
      refine zv_top (nI_add _ _) ?_
      refine zv_putI (pc' := 57) dX6_row_54 rfl flX6_266 pfX6_7 (by first | rfl | assumption) rfl rfl rfl ?_
      have hL2 : zup (zup M 27 (sR s).1 (nI k)) 0 7 (nI ((sR s).1 + 1)) 0 7 = nI ((sR s).1 + 1) := by rw [zup_eq, upd_s]
      refine zv_aload_n (pc' := 58) dX6_row_57 rfl rfl ?_
      refine zv_getIE (pc' := 61) dX6_row_58 rfl flX6_266 (by first | rfl | assumption) rfl (by first | exact hL2 | rfl) ?_
      refine zv_iret dX6_row_61 rfl ?_
      refine zdone (s' := (sC s, sI s, sL s, ((sR s).1 + 1, fu (sR s).2 (sR s).1 k), sW s)) (by rw [sp_row, ← hw2, zans_0 h0, pN_nI (by omega)]) ?_ ((zSame.up (by omega) (by omega)).tr (zSame.up (by omega) (by omega)))
      obtain ⟨h1, h2, h3, h4, h5⟩ := hI
      have hs : ∀ q, q ≠ 0 → q ≠ 27 → zup (zup M 27 (sR s).1 (nI k)) 0 7 (nI ((sR s).1 + 1)) q = M q := fun q a b => by rw [zup_ne a, zup_ne b]
      have hz : ∀ o, 1 ≤ o → o + 6 ≤ 13 → ∀ c, zAt M o c → zAt (zup (zup M 27 (sR s).1 (nI k)) 0 7 (nI ((sR s).1 + 1))) o c := fun o h1 ho c hA => by
        obtain ⟨a1, a2, a3, a4, a5, a6, a7⟩ := hA
        exact ⟨by rw [hs _ (by omega) (by omega)]; exact a1, by rw [hs _ (by omega) (by omega)]; exact a2, by rw [hs _ (by omega) (by omega)]; exact a3, by rw [hs _ (by omega) (by omega)]; exact a4, by rw [hs _ (by omega) (by omega)]; exact a5, by rw [hs _ (by omega) (by omega)]; exact a6, by rw [hs _ (by omega) (by omega)]; exact a7⟩
      refine ⟨hz 1 (by omega) (by omega) _ h1, ⟨by rw [zup_eq, upd_n (by decide), zup_ne (by decide)]; exact h2.1, fun ci hc => hz 7 (by omega) (by omega) _ (h2.2 ci hc)⟩, by rw [hs 25 (by omega) (by omega), hs 26 (by omega) (by omega)]; exact h3, ⟨hL2, fun j hj => ?_⟩, by rw [hs 28 (by omega) (by omega)]; exact h5⟩
      have hj : j < (sR s).1 + 1 := hj
      show _ = nI (fu (sR s).2 (sR s).1 k j)
      rw [zup_ne (by omega), zup_eq]
      by_cases e : j = (sR s).1
      · rw [e, upd_s, fu_s]
      · rw [upd_n e, fu_n e]; exact h4.2 j (by omega)
    · intro h
      have h0 := mt (neg_w0 _ hw).mpr h
      refine zv_aload_n (pc' := 32) dX6_row_31 rfl rfl ?_
      refine zv_iload_n (pc' := 33) dX6_row_32 rfl rfl ?_
      refine zv_cV1_fi (pc' := 36) dX6_row_33 rfl lkX6_84 (by first | rfl | assumption) rfl (Nat.le_of_ble_eq_true rfl) (x6_refuse hw h0) ?_
      rintro r M1 ⟨rfl, rfl⟩
      refine zv_iret dX6_row_36 rfl ?_
      rw [sp_row, ← hw2]
      exact zrefx hI h0
  refine zv_icmp_lt (pc' := 16) (tgt := 21) dX6_row_13 rfl rfl ?_ ?_
  · intro h
    have h := (nI_ltI (by omega) (by omega)).mp h
    refine zv_iconst (v := nI 0) (pc' := 22) dX6_row_21 rfl (by decide) ?_
    exact fin 0 (by rw [if_neg (by omega)])
  · intro h
    have h := mt (nI_ltI (a := (sR s).1) (b := 16) (by omega) (by omega)).mpr h
    refine zv_bipush (v := (-6 : Int32)) (pc' := 18) dX6_row_16 rfl (by decide) ?_
    refine zv_goto (pc' := 22) dX6_row_18 rfl ?_
    exact fin 6 (by rw [if_pos (by omega)])
theorem zIx.clr {M : ZMem} {s : ZS} (h : zIx M s) : zIx (zup M 0 7 (nI 0)) (sC s, sI s, sL s, (0, (sR s).2), sW s) := by
  obtain ⟨h1, h2, h3, h4, h5⟩ := h
  have hs : ∀ q, q ≠ 0 → zup M 0 7 (nI 0) q = M q := fun q a => zup_ne a
  have hz : ∀ o, 1 ≤ o → o + 6 ≤ 13 → ∀ c, zAt M o c → zAt (zup M 0 7 (nI 0)) o c := fun o h1 ho c hA => by
    obtain ⟨a1, a2, a3, a4, a5, a6, a7⟩ := hA
    exact ⟨by rw [hs _ (by omega)]; exact a1, by rw [hs _ (by omega)]; exact a2, by rw [hs _ (by omega)]; exact a3, by rw [hs _ (by omega)]; exact a4, by rw [hs _ (by omega)]; exact a5, by rw [hs _ (by omega)]; exact a6, by rw [hs _ (by omega)]; exact a7⟩
  exact ⟨hz 1 (by omega) (by omega) _ h1, ⟨by rw [zup_eq, upd_n (by decide)]; exact h2.1, fun ci hc => hz 7 (by omega) (by omega) _ (h2.2 ci hc)⟩, by rw [hs 25 (by omega), hs 26 (by omega)]; exact h3, ⟨by rw [zup_eq, upd_s], fun j hj => absurd hj (Nat.not_lt_zero j)⟩, by rw [hs 28 (by omega)]; exact h5⟩
theorem gx_clear : zGx mdX6_clear d [] sp_clear := by
  intro M s hI hk
  have hL := hI.2.2.2.1.1
  refine zex_intro (L := [some (.ref 0), none]) (by decide) (Nat.le_of_ble_eq_true rfl) rfl ?_
  refine zv_aload_n (pc' := 1) dX6_clear_0 rfl rfl ?_
  refine zv_getIE (pc' := 4) dX6_clear_1 rfl flX6_266 (by first | rfl | assumption) rfl (by first | exact hL | rfl) ?_
  refine zv_istore_n (pc' := 5) dX6_clear_4 rfl (by decide) ?_
  refine zv_aload_n (pc' := 6) dX6_clear_5 rfl rfl ?_
  refine zv_iconst (v := nI 0) (pc' := 7) dX6_clear_6 rfl (by decide) ?_
  refine zv_putI (pc' := 10) dX6_clear_7 rfl flX6_266 pfX6_7 (by first | rfl | assumption) rfl rfl rfl ?_
  refine zv_iload_n (pc' := 11) dX6_clear_10 rfl rfl ?_
  refine zv_iret dX6_clear_11 rfl ?_
  exact zdone rfl hI.clr (zSame.up (by omega) (by omega))
theorem gx_judge : zGx mdX6_judge (d + 1) [] sp_judge := by
  intro M s hI hk
  have hL := hI.2.2.2.1.1
  have hRv := hI.2.2.2.1.2
  have hr16 := hk.2.2.2.2.1
  have hr99 := hk.2.2.2.2.2
  have hn := hk.1.1
  have hM9 := hk.1.2.2.2.1
  have hA := hI.1
  have hM := hI.1.2.2.2.2.1
  have fin : ∀ x : Int32, x = (sp_judge s).1 → ∀ L3, ZV mdX6_judge (d + 1) (fun v M' => ∃ r, v = some (.int r) ∧ (r = (sp_judge s).1 ∧ zIx M' (sp_judge s).2 ∧ zSame 0 90 M M')) 56 [some (.ref 0), some (.int x), L3] [] M := by
    intro x hx L3
    refine zv_aload_n (pc' := 57) dX6_judge_56 rfl rfl ?_
    refine zv_iconst (v := nI 0) (pc' := 58) dX6_judge_57 rfl (by decide) ?_
    refine zv_putI (pc' := 61) dX6_judge_58 rfl flX6_266 pfX6_7 (by first | rfl | assumption) rfl rfl rfl ?_
    refine zv_iload_n (pc' := 62) dX6_judge_61 rfl rfl ?_
    refine zv_iret dX6_judge_62 rfl ?_
    exact ⟨_, rfl, hx, hI.clr, zSame.up (by omega) (by omega)⟩
  have lp : ∀ r k, k + r = (sR s).1 → zfst r k (fun k => !(decide (k < yN (sC s)) && decide (yM (sC s) k = (sR s).2 k))) = zfst (sR s).1 0 (fun k => !(decide (k < yN (sC s)) && decide (yM (sC s) k = (sR s).2 k))) → ZV mdX6_judge (d + 1) (fun v M' => ∃ r, v = some (.int r) ∧ (r = (sp_judge s).1 ∧ zIx M' (sp_judge s).2 ∧ zSame 0 90 M M')) 5 [some (.ref 0), some (.int (-9)), some (.int (nI k))] [] M := by
    intro r
    induction r with
    | zero =>
      intro k e hz
      have e : k = (sR s).1 := by omega
      subst e
      refine zv_iload_n (pc' := 6) dX6_judge_5 rfl rfl ?_
      refine zv_aload_n (pc' := 7) dX6_judge_6 rfl rfl ?_
      refine zv_getIE (pc' := 10) dX6_judge_7 rfl flX6_266 (by first | rfl | assumption) rfl (by first | exact hL | exact hM _ (by omega) | exact hRv _ (by omega) | rfl) ?_
      refine zv_icmp_ge (pc' := 13) (tgt := 56) dX6_judge_10 rfl rfl (fun _ => ?_) (fun hcc => absurd (Int32.le_refl _) hcc)
      exact fin _ (by rw [sp_judge, ← hz]; rfl) _
    | succ r ih =>
      intro k e hz
      have bad : (!(decide (k < yN (sC s)) && decide (yM (sC s) k = (sR s).2 k))) = true → ZV mdX6_judge (d + 1) (fun v M' => ∃ r, v = some (.int r) ∧ (r = (sp_judge s).1 ∧ zIx M' (sp_judge s).2 ∧ zSame 0 90 M M')) 48 [some (.ref 0), some (.int (-9)), some (.int (nI k))] [] M := by
        intro hb
        refine zv_iload_n (pc' := 49) dX6_judge_48 rfl rfl ?_
        refine zv_istore_n (pc' := 50) dX6_judge_49 rfl (by decide) ?_
        refine zv_iinc (w := nI 1) (pc' := 53) dX6_judge_50 rfl rfl (by decide) (by decide) ?_
        refine zv_goto (pc' := 5) dX6_judge_53 rfl ?_
        rw [nI_add]
        have key : ∀ x : Int32, x = (sp_judge s).1 → ¬ x = -9 → ZV mdX6_judge (d + 1) (fun v M' => ∃ r, v = some (.int r) ∧ (r = (sp_judge s).1 ∧ zIx M' (sp_judge s).2 ∧ zSame 0 90 M M')) 5 [some (.ref 0), some (.int x), some (.int (nI (k + 1)))] [] M := by
          intro x hx hx9
          refine zv_iload_n (pc' := 6) dX6_judge_5 rfl rfl ?_
          refine zv_aload_n (pc' := 7) dX6_judge_6 rfl rfl ?_
          refine zv_getIE (pc' := 10) dX6_judge_7 rfl flX6_266 (by first | rfl | assumption) rfl (by first | exact hL | exact hM _ (by omega) | exact hRv _ (by omega) | rfl) ?_
          refine zv_icmp_ge (pc' := 13) (tgt := 56) dX6_judge_10 rfl rfl ?_ ?_
          · intro _
            exact fin x hx _
          · intro _
            refine zv_iload_n (pc' := 14) dX6_judge_13 rfl rfl ?_
            refine zv_bipush (v := (-9 : Int32)) (pc' := 16) dX6_judge_14 rfl (by decide) ?_
            refine zv_icmp_ne (pc' := 19) (tgt := 56) dX6_judge_16 rfl rfl (fun _ => ?_) (fun hcc => absurd hcc (hx9))
            exact fin x hx _
        refine key (nI k) ?_ ?_
        · rw [sp_judge, ← hz, zfst, if_pos hb]; rfl
        · exact (by decide : ∀ k, k < 16 → ¬ nI k = -9) k (by omega)
      refine zv_iload_n (pc' := 6) dX6_judge_5 rfl rfl ?_
      refine zv_aload_n (pc' := 7) dX6_judge_6 rfl rfl ?_
      refine zv_getIE (pc' := 10) dX6_judge_7 rfl flX6_266 (by first | rfl | assumption) rfl (by first | exact hL | exact hM _ (by omega) | exact hRv _ (by omega) | rfl) ?_
      refine zv_icmp_ge (pc' := 13) (tgt := 56) dX6_judge_10 rfl rfl (fun hcc => absurd hcc (nI_ge (by omega) (by omega))) (fun _ => ?_)
      refine zv_iload_n (pc' := 14) dX6_judge_13 rfl rfl ?_
      refine zv_bipush (v := (-9 : Int32)) (pc' := 16) dX6_judge_14 rfl (by decide) ?_
      refine zv_icmp_ne (pc' := 19) (tgt := 56) dX6_judge_16 rfl rfl (fun hcc => absurd (rfl) hcc) (fun _ => ?_)
      refine zv_aload_n (pc' := 20) dX6_judge_19 rfl rfl ?_
      refine zv_getR (pc' := 23) dX6_judge_20 rfl flX6_10 (by first | rfl | assumption) rfl ?_
      refine zv_iload_n (pc' := 24) dX6_judge_23 rfl rfl ?_
      refine zv_cV1_pi (pc' := 27) dX6_judge_24 rfl lkX6_269 (by first | rfl | assumption) rfl (Nat.le_of_ble_eq_true rfl) (x0_has zCy1 hA) ?_
      refine zv_if_eq (pc' := 30) (tgt := 48) dX6_judge_27 rfl rfl ?_ ?_
      · intro h
        have h := zb_0.mp h
        rw [hasB_nI hn (by omega)] at h
        exact bad (by simp [h])
      · intro h
        have h := zb_ne.mp h
        rw [hasB_nI hn (by omega)] at h
        have h := of_decide_eq_true h
        refine zv_aload_n (pc' := 31) dX6_judge_30 rfl rfl ?_
        refine zv_getR (pc' := 34) dX6_judge_31 rfl flX6_10 (by first | rfl | assumption) rfl ?_
        refine zv_getR (pc' := 37) dX6_judge_34 rfl flX6_124 (by first | rfl | assumption) rfl ?_
        refine zv_iload_n (pc' := 38) dX6_judge_37 rfl rfl ?_
        refine zv_ialoadE (pc' := 39) dX6_judge_38 rfl (by first | rfl | assumption) (by decide) (by omega) (by first | exact hL | exact hM _ (by omega) | exact hRv _ (by omega) | rfl) ?_
        refine zv_aload_n (pc' := 40) dX6_judge_39 rfl rfl ?_
        refine zv_getR (pc' := 43) dX6_judge_40 rfl flX6_32 (by first | rfl | assumption) rfl ?_
        refine zv_iload_n (pc' := 44) dX6_judge_43 rfl rfl ?_
        refine zv_ialoadE (pc' := 45) dX6_judge_44 rfl (by first | rfl | assumption) (by decide) (by omega) (by first | exact hL | exact hM _ (by omega) | exact hRv _ (by omega) | rfl) ?_
        have q1 := hM9 k
        have q2 := hr99 k
        refine zv_icmp_eq (pc' := 48) (tgt := 50) dX6_judge_45 rfl rfl ?_ ?_
        · intro h2
          have h2 := (nI_eq (by omega) (by omega)).mp h2
          refine zv_iinc (w := nI 1) (pc' := 53) dX6_judge_50 rfl rfl (by decide) (by decide) ?_
          refine zv_goto (pc' := 5) dX6_judge_53 rfl ?_
          rw [nI_add]
          refine ih (k + 1) (by omega) ?_
          rw [← hz, zfst, if_neg (by simp [h, h2])]
        · intro h2
          have h2 := mt (nI_eq (a := yM (sC s) k) (b := (sR s).2 k) (by omega) (by omega)).mpr h2
          exact bad (by simp [h2])
  refine zex_intro (L := [some (.ref 0), none, none]) (by decide) (Nat.le_of_ble_eq_true rfl) rfl ?_
  refine zv_bipush (v := (-9 : Int32)) (pc' := 2) dX6_judge_0 rfl (by decide) ?_
  refine zv_istore_n (pc' := 3) dX6_judge_2 rfl (by decide) ?_
  refine zv_iconst (v := nI 0) (pc' := 4) dX6_judge_3 rfl (by decide) ?_
  refine zv_istore_n (pc' := 5) dX6_judge_4 rfl (by decide) ?_
  exact lp (sR s).1 0 (by omega) rfl
theorem gx_image : zGx mdX6_image (d + 2) [] sp_image := by
  intro M s hI hk
  refine zex_intro (L := [some (.ref 0)]) (by decide) (Nat.le_of_ble_eq_true rfl) rfl ?_
  refine zv_aload_n (pc' := 1) dX6_image_0 rfl rfl ?_
  refine zv_getR (pc' := 4) dX6_image_1 rfl flX6_16 (by first | rfl | assumption) rfl ?_
  refine zv_aload_n (pc' := 5) dX6_image_4 rfl rfl ?_
  refine zv_getR (pc' := 8) dX6_image_5 rfl flX6_10 (by first | rfl | assumption) rfl ?_
  refine zv_cV1_fv (pc' := 11) dX6_image_8 rfl lkX6_100 (by first | rfl | assumption) rfl (Nat.le_of_ble_eq_true rfl) (x0_become zCy7 zCy1 hI.1 (by omega)) ?_
  rintro M1 ⟨h1, h2⟩
  refine zv_aload_n (pc' := 12) dX6_image_11 rfl rfl ?_
  refine zv_iconst (v := nI 1) (pc' := 13) dX6_image_12 rfl (by decide) ?_
  refine zv_putI (pc' := 16) dX6_image_13 rfl flX6_275 pfX6_4 (by first | rfl | assumption) rfl (by first | rfl | exact zb_nar _) (by first | rfl | exact zb_fit _) ?_
  have hA1 : zAt (zup M1 0 4 (nI 1)) 1 (sC s) := (hI.1.same h2 (by omega)).same (lo := 0) (hi := 1) (zSame.up (by omega) (by omega)) (by omega)
  have hY := hA1.2.1
  refine zv_aload_n (pc' := 17) dX6_image_16 rfl rfl ?_
  refine zv_getR (pc' := 20) dX6_image_17 rfl flX6_10 (by first | rfl | assumption) rfl ?_
  refine zv_getIE (pc' := 23) dX6_image_20 rfl flX6_279 (by first | rfl | assumption) rfl (by first | exact hY | rfl) ?_
  refine zv_iret dX6_image_23 rfl ?_
  refine zdone rfl ?_ ((h2.wide (by omega) (by omega)).tr (zSame.up (by omega) (by omega)))
  obtain ⟨g1, g2, g3, g4, g5⟩ := hI
  have hs : ∀ k, k ≠ 0 → (k < 7 ∨ 13 ≤ k) → zup M1 0 4 (nI 1) k = M k := fun k a b => by rw [zup_ne a]; exact h2 k b
  refine ⟨hA1, ⟨by rw [zup_eq, upd_s]; rfl, fun ci hc => ?_⟩, by rw [hs 25 (by omega) (by omega), hs 26 (by omega) (by omega)]; exact g3, ⟨by rw [zup_eq, upd_n (by decide), h2 0 (by omega)]; exact g4.1, by rw [hs 27 (by omega) (by omega)]; exact g4.2⟩, by rw [hs 28 (by omega) (by omega)]; exact g5⟩
  have hc : some (sC s) = some ci := hc
  rw [← Option.some.inj hc]
  exact h1.same (lo := 0) (hi := 1) (zSame.up (by omega) (by omega)) (by omega)
theorem gx_on : zGx mdX6_on (d + 2) [] sp_on := by
  intro M s hI hk
  have hX := hI.2.1.1
  refine zex_intro (L := [some (.ref 0)]) (by decide) (Nat.le_of_ble_eq_true rfl) rfl ?_
  refine zv_aload_n (pc' := 1) dX6_on_0 rfl rfl ?_
  refine zv_getIE (pc' := 4) dX6_on_1 rfl flX6_275 (by first | rfl | assumption) rfl (by first | exact hX | rfl) ?_
  cases hs : sI s with
  | none =>
    refine zv_if_ne (pc' := 7) (tgt := 14) dX6_on_4 rfl rfl (fun hcc => absurd (rfl) hcc) (fun _ => ?_)
    refine zv_aload_n (pc' := 8) dX6_on_7 rfl rfl ?_
    refine zv_bipush (v := (-3 : Int32)) (pc' := 10) dX6_on_8 rfl (by decide) ?_
    refine zv_top (show (-3 : Int32) = -nI 3 by decide) ?_
    refine zv_cV1_fi (pc' := 13) dX6_on_10 rfl lkX6_84 (by first | rfl | assumption) rfl (Nat.le_of_ble_eq_true rfl) (x6_refuse (by decide) (by decide)) ?_
    rintro r M1 ⟨rfl, rfl⟩
    refine zv_iret dX6_on_13 rfl ?_
    have h := zrefx (w := 3) (s' := s) (v := 0) hI (by decide)
    have e : sp_on s = zans 3 s 0 s := by
      have : sp_on s = (match sI s with | none => (-nI 3, refS s 3) | some ci => (nI (yY ci), (ci, s.2))) := rfl
      rw [this, hs]; rfl
    rw [e]
    exact h
  | some ci =>
    refine zv_if_ne (pc' := 7) (tgt := 14) dX6_on_4 rfl rfl (fun _ => ?_) (fun hcc => absurd hcc (show ¬ zb true = 0 from by decide))
    refine zv_aload_n (pc' := 15) dX6_on_14 rfl rfl ?_
    refine zv_getR (pc' := 18) dX6_on_15 rfl flX6_10 (by first | rfl | assumption) rfl ?_
    refine zv_aload_n (pc' := 19) dX6_on_18 rfl rfl ?_
    refine zv_getR (pc' := 22) dX6_on_19 rfl flX6_16 (by first | rfl | assumption) rfl ?_
    have hA7 := hI.2.1.2 ci hs
    refine zv_cV1_fv (pc' := 25) dX6_on_22 rfl lkX6_100 (by first | rfl | assumption) rfl (Nat.le_of_ble_eq_true rfl) (x0_become zCy1 zCy7 hA7 (by omega)) ?_
    rintro M1 ⟨h1, h2⟩
    have hY := h1.2.1
    refine zv_aload_n (pc' := 26) dX6_on_25 rfl rfl ?_
    refine zv_getR (pc' := 29) dX6_on_26 rfl flX6_10 (by first | rfl | assumption) rfl ?_
    refine zv_getIE (pc' := 32) dX6_on_29 rfl flX6_279 (by first | rfl | assumption) rfl (by first | exact hY | rfl) ?_
    refine zv_iret dX6_on_32 rfl ?_
    have e : sp_on s = (nI (yY ci), (ci, s.2)) := by
      have : sp_on s = (match sI s with | none => (-nI 3, refS s 3) | some ci => (nI (yY ci), (ci, s.2))) := rfl
      rw [this, hs]
    exact zdone e (hI.setc h1 h2) (h2.wide (by omega) (by omega))
theorem gx_person (x y : Int32) : zGx mdX6_person (d + 3) [.int x, .int y] (sp_person x y) := by
  intro M s hI hk
  have hn := hk.1.1
  have hA := hI.1
  obtain ⟨hN, hY, hK, hF, hM, hS, hX⟩ := hI.1
  refine zex_intro (L := [some (.ref 0), some (.int x), some (.int y), none]) (by decide) (Nat.le_of_ble_eq_true rfl) rfl ?_
  refine zv_aload_n (pc' := 1) dX6_person_0 rfl rfl ?_
  refine zv_iload_n (pc' := 2) dX6_person_1 rfl rfl ?_
  refine zv_cV1_pi (pc' := 5) dX6_person_2 rfl lkX6_111 (by first | rfl | assumption) rfl (Nat.le_of_ble_eq_true rfl) (x6_nobody hA) ?_
  refine zv_iload_n (pc' := 6) dX6_person_5 rfl rfl ?_
  refine zv_iconst (v := nI 4) (pc' := 7) dX6_person_6 rfl (by decide) ?_
  refine zv_cS2_pi (pc' := 10) dX6_person_7 rfl lkX6_114 (Nat.le_of_ble_eq_true rfl) (x6_otherThan) ?_
  refine zv_iconst (v := nI 0) (pc' := 11) dX6_person_10 rfl (by decide) ?_
  refine zv_top (show nI 0 = -nI 0 by decide) ?_
  refine zv_cS3_pi (pc' := 14) dX6_person_11 rfl lkX6_81 (Nat.le_of_ble_eq_true rfl) (x6_firstOf nbN_lt otN_lt) ?_
  have hw := fiN_lt (nbN_lt (n := yN (sC s)) (x := x)) (otN_lt (x := y) (n := 4)) (by decide : 0 < 7)
  refine zv_istore_n (pc' := 15) dX6_person_14 rfl (by decide) ?_
  refine zv_iload_n (pc' := 16) dX6_person_15 rfl rfl ?_
  refine zv_if_eq (pc' := 19) (tgt := 25) dX6_person_16 rfl rfl ?_ ?_
  · intro h
    have h0 := (neg_w0 _ hw).mp h
    obtain ⟨g1, g2, -⟩ := fiN_0.mp h0
    obtain ⟨p, hp, rfl⟩ := hasB_of hn (nbN_0.mp g1)
    obtain ⟨k, -, hk2, rfl⟩ := isInB_of (by decide) (otN_0.mp g2) (by decide)
    have fin : ∀ v : Int32, v = perV (sC s) p k → ∃ r, some (Value.int v) = some (Value.int r) ∧ (r = (sp_person (nI p) (nI k) s).1 ∧ zIx M (sp_person (nI p) (nI k) s).2 ∧ zSame 0 90 M M) := fun v hv => zdone (by rw [sp_person, zans_0 h0, pN_nI (by omega), pN_nI (by omega), hv]) hI zSame.rf
    refine zv_iload_n (pc' := 26) dX6_person_25 rfl rfl ?_
    rcases (show k = 0 ∨ k = 1 ∨ k = 2 ∨ k = 3 ∨ k = 4 by omega) with rfl | rfl | rfl | rfl | rfl
    · refine zv_tableIn (pc' := 56) (off := 30) dX6_person_26 (by decide) (by decide) (by decide) rfl ?_
      refine zv_aload_n (pc' := 57) dX6_person_56 rfl rfl ?_
      refine zv_getR (pc' := 60) dX6_person_57 rfl flX6_10 (by first | rfl | assumption) rfl ?_
      refine zv_getR (pc' := 63) dX6_person_60 rfl flX6_118 (by first | rfl | assumption) rfl ?_
      refine zv_iload_n (pc' := 64) dX6_person_63 rfl rfl ?_
      refine zv_ialoadE (pc' := 65) dX6_person_64 rfl (by first | rfl | assumption) (by decide) (by omega) (by first | exact hN | exact hY | exact hM _ (by omega) | exact hS _ (by omega) | exact hX _ (by omega) | exact hK _ (by omega) | exact hF _ (by omega) | rfl) ?_
      refine zv_iret dX6_person_65 rfl ?_
      exact fin _ rfl
    · refine zv_tableIn (pc' := 66) (off := 40) dX6_person_26 (by decide) (by decide) (by decide) rfl ?_
      refine zv_aload_n (pc' := 67) dX6_person_66 rfl rfl ?_
      refine zv_getR (pc' := 70) dX6_person_67 rfl flX6_10 (by first | rfl | assumption) rfl ?_
      refine zv_getR (pc' := 73) dX6_person_70 rfl flX6_121 (by first | rfl | assumption) rfl ?_
      refine zv_iload_n (pc' := 74) dX6_person_73 rfl rfl ?_
      refine zv_ialoadE (pc' := 75) dX6_person_74 rfl (by first | rfl | assumption) (by decide) (by omega) (by first | exact hN | exact hY | exact hM _ (by omega) | exact hS _ (by omega) | exact hX _ (by omega) | exact hK _ (by omega) | exact hF _ (by omega) | rfl) ?_
      refine zv_iret dX6_person_75 rfl ?_
      exact fin _ rfl
    · refine zv_tableIn (pc' := 76) (off := 50) dX6_person_26 (by decide) (by decide) (by decide) rfl ?_
      refine zv_aload_n (pc' := 77) dX6_person_76 rfl rfl ?_
      refine zv_getR (pc' := 80) dX6_person_77 rfl flX6_10 (by first | rfl | assumption) rfl ?_
      refine zv_getR (pc' := 83) dX6_person_80 rfl flX6_124 (by first | rfl | assumption) rfl ?_
      refine zv_iload_n (pc' := 84) dX6_person_83 rfl rfl ?_
      refine zv_ialoadE (pc' := 85) dX6_person_84 rfl (by first | rfl | assumption) (by decide) (by omega) (by first | exact hN | exact hY | exact hM _ (by omega) | exact hS _ (by omega) | exact hX _ (by omega) | exact hK _ (by omega) | exact hF _ (by omega) | rfl) ?_
      refine zv_iret dX6_person_85 rfl ?_
      exact fin _ rfl
    · refine zv_tableIn (pc' := 86) (off := 60) dX6_person_26 (by decide) (by decide) (by decide) rfl ?_
      refine zv_aload_n (pc' := 87) dX6_person_86 rfl rfl ?_
      refine zv_getR (pc' := 90) dX6_person_87 rfl flX6_10 (by first | rfl | assumption) rfl ?_
      refine zv_iload_n (pc' := 91) dX6_person_90 rfl rfl ?_
      refine zv_cV1_pi (pc' := 94) dX6_person_91 rfl lkX6_127 (by first | rfl | assumption) rfl (Nat.le_of_ble_eq_true rfl) (x0_kinOf zCy1 hA hk.1 hp) ?_
      refine zv_cS1_pi (pc' := 97) dX6_person_94 rfl lkX6_130 (Nat.le_of_ble_eq_true rfl) (j6_bitM) ?_
      refine zv_iret dX6_person_97 rfl ?_
      exact fin _ rfl
    · refine zv_tableOut (pc' := 98) dX6_person_26 (by decide) rfl ?_
      refine zv_aload_n (pc' := 99) dX6_person_98 rfl rfl ?_
      refine zv_getR (pc' := 102) dX6_person_99 rfl flX6_10 (by first | rfl | assumption) rfl ?_
      refine zv_getR (pc' := 105) dX6_person_102 rfl flX6_135 (by first | rfl | assumption) rfl ?_
      refine zv_iload_n (pc' := 106) dX6_person_105 rfl rfl ?_
      refine zv_ialoadE (pc' := 107) dX6_person_106 rfl (by first | rfl | assumption) (by decide) (by omega) (by first | exact hN | exact hY | exact hM _ (by omega) | exact hS _ (by omega) | exact hX _ (by omega) | exact hK _ (by omega) | exact hF _ (by omega) | rfl) ?_
      refine zv_cS1_pi (pc' := 110) dX6_person_107 rfl lkX6_130 (Nat.le_of_ble_eq_true rfl) (j6_bitM) ?_
      refine zv_iret dX6_person_110 rfl ?_
      exact fin _ rfl
  · intro h
    have h0 := mt (neg_w0 _ hw).mpr h
    refine zv_aload_n (pc' := 20) dX6_person_19 rfl rfl ?_
    refine zv_iload_n (pc' := 21) dX6_person_20 rfl rfl ?_
    refine zv_cV1_fi (pc' := 24) dX6_person_21 rfl lkX6_84 (by first | rfl | assumption) rfl (Nat.le_of_ble_eq_true rfl) (x6_refuse hw h0) ?_
    rintro r M1 ⟨rfl, rfl⟩
    refine zv_iret dX6_person_24 rfl ?_
    exact zrefx hI h0
theorem gx_tie (x y z : Int32) : zGx mdX6_tie (d + 3) [.int x, .int y, .int z] (sp_tie x y z) := by
  intro M s hI hk
  have hn := hk.1.1
  have hA := hI.1
  refine zex_intro (L := [some (.ref 0), some (.int x), some (.int y), some (.int z), none]) (by decide) (Nat.le_of_ble_eq_true rfl) rfl ?_
  refine zv_aload_n (pc' := 1) dX6_tie_0 rfl rfl ?_
  refine zv_iload_n (pc' := 2) dX6_tie_1 rfl rfl ?_
  refine zv_iload_n (pc' := 3) dX6_tie_2 rfl rfl ?_
  refine zv_cV2_pi (pc' := 6) dX6_tie_3 rfl lkX6_138 (by first | rfl | assumption) rfl (Nat.le_of_ble_eq_true rfl) (x6_notTwo hA) ?_
  refine zv_iload_n (pc' := 7) dX6_tie_6 rfl rfl ?_
  refine zv_iconst (v := nI 3) (pc' := 8) dX6_tie_7 rfl (by decide) ?_
  refine zv_cS2_pi (pc' := 11) dX6_tie_8 rfl lkX6_114 (Nat.le_of_ble_eq_true rfl) (x6_otherThan) ?_
  refine zv_iconst (v := nI 0) (pc' := 12) dX6_tie_11 rfl (by decide) ?_
  refine zv_top (show nI 0 = -nI 0 by decide) ?_
  refine zv_cS3_pi (pc' := 15) dX6_tie_12 rfl lkX6_81 (Nat.le_of_ble_eq_true rfl) (x6_firstOf twN_lt otN_lt) ?_
  have hw := fiN_lt (twN_lt (n := yN (sC s)) (x := x) (y := y)) (otN_lt (x := z) (n := 3)) (by decide : 0 < 7)
  refine zv_istore (pc' := 17) dX6_tie_15 rfl (by decide) ?_
  refine zv_iload (pc' := 19) dX6_tie_17 rfl rfl ?_
  refine zv_if_eq (pc' := 22) (tgt := 29) dX6_tie_19 rfl rfl ?_ ?_
  · intro h
    have h0 := (neg_w0 _ hw).mp h
    obtain ⟨g1, g2, -⟩ := fiN_0.mp h0
    obtain ⟨p, q, hp, hq, hpq, rfl, rfl⟩ := twoB_of hn (twN_0.mp g1)
    obtain ⟨k, -, hk2, rfl⟩ := isInB_of (by decide) (otN_0.mp g2) (by decide)
    have fin : ∀ v : Int32, v = tieV (sC s) p q k → ∃ r, some (Value.int v) = some (Value.int r) ∧ (r = (sp_tie (nI p) (nI q) (nI k) s).1 ∧ zIx M (sp_tie (nI p) (nI q) (nI k) s).2 ∧ zSame 0 90 M M) := fun v hv => zdone (by rw [sp_tie, zans_0 h0, pN_nI (by omega), pN_nI (by omega), pN_nI (by omega), hv]) hI zSame.rf
    refine zv_iload_n (pc' := 30) dX6_tie_29 rfl rfl ?_
    rcases (show k = 0 ∨ k = 1 ∨ k = 2 ∨ k = 3 by omega) with rfl | rfl | rfl | rfl
    · refine zv_tableIn (pc' := 56) (off := 26) dX6_tie_30 (by decide) (by decide) (by decide) rfl ?_
      refine zv_aload_n (pc' := 57) dX6_tie_56 rfl rfl ?_
      refine zv_getR (pc' := 60) dX6_tie_57 rfl flX6_10 (by first | rfl | assumption) rfl ?_
      refine zv_iload_n (pc' := 61) dX6_tie_60 rfl rfl ?_
      refine zv_iload_n (pc' := 62) dX6_tie_61 rfl rfl ?_
      refine zv_cV2_pi (pc' := 65) dX6_tie_62 rfl lkX6_141 (by first | rfl | assumption) rfl (Nat.le_of_ble_eq_true rfl) (x0_hasSigned zCy1 hA hn hp hq hpq) ?_
      refine zv_cS1_pi (pc' := 68) dX6_tie_65 rfl lkX6_145 (Nat.le_of_ble_eq_true rfl) (x6_bit) ?_
      refine zv_iret dX6_tie_68 rfl ?_
      exact fin _ rfl
    · refine zv_tableIn (pc' := 69) (off := 39) dX6_tie_30 (by decide) (by decide) (by decide) rfl ?_
      refine zv_aload_n (pc' := 70) dX6_tie_69 rfl rfl ?_
      refine zv_getR (pc' := 73) dX6_tie_70 rfl flX6_10 (by first | rfl | assumption) rfl ?_
      refine zv_iload_n (pc' := 74) dX6_tie_73 rfl rfl ?_
      refine zv_iload_n (pc' := 75) dX6_tie_74 rfl rfl ?_
      refine zv_cV2_pi (pc' := 78) dX6_tie_75 rfl lkX6_149 (by first | rfl | assumption) rfl (Nat.le_of_ble_eq_true rfl) (x0_atFeud zCy1 hA hn hp hq hpq) ?_
      refine zv_cS1_pi (pc' := 81) dX6_tie_78 rfl lkX6_145 (Nat.le_of_ble_eq_true rfl) (x6_bit) ?_
      refine zv_iret dX6_tie_81 rfl ?_
      exact fin _ rfl
    · refine zv_tableIn (pc' := 82) (off := 52) dX6_tie_30 (by decide) (by decide) (by decide) rfl ?_
      refine zv_aload_n (pc' := 83) dX6_tie_82 rfl rfl ?_
      refine zv_getR (pc' := 86) dX6_tie_83 rfl flX6_10 (by first | rfl | assumption) rfl ?_
      refine zv_iload_n (pc' := 87) dX6_tie_86 rfl rfl ?_
      refine zv_iload_n (pc' := 88) dX6_tie_87 rfl rfl ?_
      refine zv_cV2_pi (pc' := 91) dX6_tie_88 rfl lkX6_152 (by first | rfl | assumption) rfl (Nat.le_of_ble_eq_true rfl) (x0_isKin zCy1 hA hk.1 hp hq hpq) ?_
      refine zv_cS1_pi (pc' := 94) dX6_tie_91 rfl lkX6_145 (Nat.le_of_ble_eq_true rfl) (x6_bit) ?_
      refine zv_iret dX6_tie_94 rfl ?_
      exact fin _ rfl
    · refine zv_tableOut (pc' := 95) dX6_tie_30 (by decide) rfl ?_
      refine zv_aload_n (pc' := 96) dX6_tie_95 rfl rfl ?_
      refine zv_getR (pc' := 99) dX6_tie_96 rfl flX6_10 (by first | rfl | assumption) rfl ?_
      refine zv_iload_n (pc' := 100) dX6_tie_99 rfl rfl ?_
      refine zv_iload_n (pc' := 101) dX6_tie_100 rfl rfl ?_
      refine zv_cV2_pi (pc' := 104) dX6_tie_101 rfl lkX6_155 (by first | rfl | assumption) rfl (Nat.le_of_ble_eq_true rfl) (x0_dues zCy1 hA hk.1 hp hq) ?_
      refine zv_iret dX6_tie_104 rfl ?_
      exact fin _ rfl
  · intro h
    have h0 := mt (neg_w0 _ hw).mpr h
    refine zv_aload_n (pc' := 23) dX6_tie_22 rfl rfl ?_
    refine zv_iload (pc' := 25) dX6_tie_23 rfl rfl ?_
    refine zv_cV1_fi (pc' := 28) dX6_tie_25 rfl lkX6_84 (by first | rfl | assumption) rfl (Nat.le_of_ble_eq_true rfl) (x6_refuse hw h0) ?_
    rintro r M1 ⟨rfl, rfl⟩
    refine zv_iret dX6_tie_28 rfl ?_
    exact zrefx hI h0
theorem gx_signs (x y : Int32) : zGx mdX6_signs (d + 4) [.int x, .int y] (sp_signs x y) := by
  intro M s hI hk
  have hn := hk.1.1
  have hA := hI.1
  refine zex_intro (L := [some (.ref 0), some (.int x), some (.int y), none]) (by decide) (Nat.le_of_ble_eq_true rfl) rfl ?_
  refine zv_aload_n (pc' := 1) dX6_signs_0 rfl rfl ?_
  refine zv_iload_n (pc' := 2) dX6_signs_1 rfl rfl ?_
  refine zv_iload_n (pc' := 3) dX6_signs_2 rfl rfl ?_
  refine zv_cV2_pi (pc' := 6) dX6_signs_3 rfl lkX6_138 (by first | rfl | assumption) rfl (Nat.le_of_ble_eq_true rfl) (x6_notTwo hA) ?_
  have hw := twN_lt (n := yN (sC s)) (x := x) (y := y)
  refine zv_istore_n (pc' := 7) dX6_signs_6 rfl (by decide) ?_
  refine zv_iload_n (pc' := 8) dX6_signs_7 rfl rfl ?_
  refine zv_if_eq (pc' := 11) (tgt := 17) dX6_signs_8 rfl rfl ?_ ?_
  · intro h
    have h0 := (neg_w0 _ hw).mp h
    obtain ⟨p, q, hp, hq, hpq, rfl, rfl⟩ := twoB_of hn (twN_0.mp h0)
    refine zv_aload_n (pc' := 18) dX6_signs_17 rfl rfl ?_
    refine zv_getR (pc' := 21) dX6_signs_18 rfl flX6_10 (by first | rfl | assumption) rfl ?_
    refine zv_iload_n (pc' := 22) dX6_signs_21 rfl rfl ?_
    refine zv_iload_n (pc' := 23) dX6_signs_22 rfl rfl ?_
    refine zv_cV2_fi (pc' := 26) dX6_signs_23 rfl lkX6_158 (by first | rfl | assumption) rfl (Nat.le_of_ble_eq_true rfl) (x0_turnSigning zCy1 hA hn hp hq hpq) ?_
    rintro r M1 ⟨rfl, h1, h2⟩
    refine zv_pop (pc' := 27) dX6_signs_26 rfl rfl ?_
    refine zv_aload_n (pc' := 28) dX6_signs_27 rfl rfl ?_
    refine zv_getR (pc' := 31) dX6_signs_28 rfl flX6_10 (by first | rfl | assumption) rfl ?_
    refine zv_iload_n (pc' := 32) dX6_signs_31 rfl rfl ?_
    refine zv_iload_n (pc' := 33) dX6_signs_32 rfl rfl ?_
    refine zv_cV2_pi (pc' := 36) dX6_signs_33 rfl lkX6_141 (by first | rfl | assumption) rfl (Nat.le_of_ble_eq_true rfl) (x0_hasSigned zCy1 h1 hn hp hq hpq) ?_
    refine zv_cS1_pi (pc' := 39) dX6_signs_36 rfl lkX6_145 (Nat.le_of_ble_eq_true rfl) (x6_bit) ?_
    refine zv_iret dX6_signs_39 rfl ?_
    refine zdone (s' := (signC (sC s) p q (!yS (sC s) p q), s.2)) ?_ (hI.setc h1 h2) (h2.wide (by omega) (by omega))
    rw [sp_signs, zans_0 h0, pN_nI (by omega), pN_nI (by omega)]
    congr 2
    show _ = fu2 (yS (sC s)) p q (!yS (sC s) p q) p q
    rw [fu2_at, if_pos ⟨rfl, rfl⟩]
  · intro h
    have h0 := mt (neg_w0 _ hw).mpr h
    refine zv_aload_n (pc' := 12) dX6_signs_11 rfl rfl ?_
    refine zv_iload_n (pc' := 13) dX6_signs_12 rfl rfl ?_
    refine zv_cV1_fi (pc' := 16) dX6_signs_13 rfl lkX6_84 (by first | rfl | assumption) rfl (Nat.le_of_ble_eq_true rfl) (x6_refuse hw h0) ?_
    rintro r M1 ⟨rfl, rfl⟩
    refine zv_iret dX6_signs_16 rfl ?_
    exact zrefx hI h0
theorem gx_feuds (x y : Int32) : zGx mdX6_feuds (d + 4) [.int x, .int y] (sp_feuds x y) := by
  intro M s hI hk
  have hn := hk.1.1
  have hA := hI.1
  refine zex_intro (L := [some (.ref 0), some (.int x), some (.int y), none]) (by decide) (Nat.le_of_ble_eq_true rfl) rfl ?_
  refine zv_aload_n (pc' := 1) dX6_feuds_0 rfl rfl ?_
  refine zv_iload_n (pc' := 2) dX6_feuds_1 rfl rfl ?_
  refine zv_iload_n (pc' := 3) dX6_feuds_2 rfl rfl ?_
  refine zv_cV2_pi (pc' := 6) dX6_feuds_3 rfl lkX6_138 (by first | rfl | assumption) rfl (Nat.le_of_ble_eq_true rfl) (x6_notTwo hA) ?_
  have hw := twN_lt (n := yN (sC s)) (x := x) (y := y)
  refine zv_istore_n (pc' := 7) dX6_feuds_6 rfl (by decide) ?_
  refine zv_iload_n (pc' := 8) dX6_feuds_7 rfl rfl ?_
  refine zv_if_eq (pc' := 11) (tgt := 17) dX6_feuds_8 rfl rfl ?_ ?_
  · intro h
    have h0 := (neg_w0 _ hw).mp h
    obtain ⟨p, q, hp, hq, hpq, rfl, rfl⟩ := twoB_of hn (twN_0.mp h0)
    refine zv_aload_n (pc' := 18) dX6_feuds_17 rfl rfl ?_
    refine zv_getR (pc' := 21) dX6_feuds_18 rfl flX6_10 (by first | rfl | assumption) rfl ?_
    refine zv_iload_n (pc' := 22) dX6_feuds_21 rfl rfl ?_
    refine zv_iload_n (pc' := 23) dX6_feuds_22 rfl rfl ?_
    refine zv_cV2_fi (pc' := 26) dX6_feuds_23 rfl lkX6_161 (by first | rfl | assumption) rfl (Nat.le_of_ble_eq_true rfl) (x0_turnFeud zCy1 hA hn hp hq hpq) ?_
    rintro r M1 ⟨rfl, h1, h2⟩
    refine zv_pop (pc' := 27) dX6_feuds_26 rfl rfl ?_
    refine zv_aload_n (pc' := 28) dX6_feuds_27 rfl rfl ?_
    refine zv_getR (pc' := 31) dX6_feuds_28 rfl flX6_10 (by first | rfl | assumption) rfl ?_
    refine zv_iload_n (pc' := 32) dX6_feuds_31 rfl rfl ?_
    refine zv_iload_n (pc' := 33) dX6_feuds_32 rfl rfl ?_
    refine zv_cV2_pi (pc' := 36) dX6_feuds_33 rfl lkX6_149 (by first | rfl | assumption) rfl (Nat.le_of_ble_eq_true rfl) (x0_atFeud zCy1 h1 hn hp hq hpq) ?_
    refine zv_cS1_pi (pc' := 39) dX6_feuds_36 rfl lkX6_145 (Nat.le_of_ble_eq_true rfl) (x6_bit) ?_
    refine zv_iret dX6_feuds_39 rfl ?_
    refine zdone (s' := (feudC (sC s) p q (!yX (sC s) p q), s.2)) ?_ (hI.setc h1 h2) (h2.wide (by omega) (by omega))
    rw [sp_feuds, zans_0 h0, pN_nI (by omega), pN_nI (by omega)]
    congr 2
    show _ = fu2 (fu2 (yX (sC s)) p q (!yX (sC s) p q)) q p (!yX (sC s) p q) p q
    rw [fu2_at, if_neg (by omega), fu2_at, if_pos ⟨rfl, rfl⟩]
  · intro h
    have h0 := mt (neg_w0 _ hw).mpr h
    refine zv_aload_n (pc' := 12) dX6_feuds_11 rfl rfl ?_
    refine zv_iload_n (pc' := 13) dX6_feuds_12 rfl rfl ?_
    refine zv_cV1_fi (pc' := 16) dX6_feuds_13 rfl lkX6_84 (by first | rfl | assumption) rfl (Nat.le_of_ble_eq_true rfl) (x6_refuse hw h0) ?_
    rintro r M1 ⟨rfl, rfl⟩
    refine zv_iret dX6_feuds_16 rfl ?_
    exact zrefx hI h0
theorem gx_gets (x v : Int32) : zGx mdX6_gets (d + 2) [.int x, .int v] (sp_gets x v) := by
  intro M s hI hk
  have hn := hk.1.1
  have hA := hI.1
  have hM := hI.1.2.2.2.2.1
  refine zex_intro (L := [some (.ref 0), some (.int x), some (.int v), none, none]) (by decide) (Nat.le_of_ble_eq_true rfl) rfl ?_
  refine zv_aload_n (pc' := 1) dX6_gets_0 rfl rfl ?_
  refine zv_iload_n (pc' := 2) dX6_gets_1 rfl rfl ?_
  refine zv_cV1_pi (pc' := 5) dX6_gets_2 rfl lkX6_111 (by first | rfl | assumption) rfl (Nat.le_of_ble_eq_true rfl) (x6_nobody hA) ?_
  refine zv_iload_n (pc' := 6) dX6_gets_5 rfl rfl ?_
  refine zv_iconst (v := nI 0) (pc' := 7) dX6_gets_6 rfl (by decide) ?_
  refine zv_bipush (v := nI 99) (pc' := 9) dX6_gets_7 rfl (by decide) ?_
  refine zv_cS3_pi (pc' := 12) dX6_gets_9 rfl lkX6_73 (Nat.le_of_ble_eq_true rfl) (x6_outside) ?_
  refine zv_iconst (v := nI 0) (pc' := 13) dX6_gets_12 rfl (by decide) ?_
  refine zv_top (show nI 0 = -nI 0 by decide) ?_
  refine zv_cS3_pi (pc' := 16) dX6_gets_13 rfl lkX6_81 (Nat.le_of_ble_eq_true rfl) (x6_firstOf nbN_lt bdN_lt) ?_
  have hw := fiN_lt (nbN_lt (n := yN (sC s)) (x := x)) (bdN_lt (x := v) (lo := nI 0) (hi := nI 99)) (by decide : 0 < 7)
  refine zv_istore_n (pc' := 17) dX6_gets_16 rfl (by decide) ?_
  refine zv_iload_n (pc' := 18) dX6_gets_17 rfl rfl ?_
  refine zv_if_eq (pc' := 21) (tgt := 27) dX6_gets_18 rfl rfl ?_ ?_
  · intro h
    have h0 := (neg_w0 _ hw).mp h
    obtain ⟨g1, g2, -⟩ := fiN_0.mp h0
    obtain ⟨p, hp, rfl⟩ := hasB_of hn (nbN_0.mp g1)
    obtain ⟨k, -, hk2, rfl⟩ := isInB_of (by decide) (bdN_0.mp g2) (by decide)
    refine zv_aload_n (pc' := 28) dX6_gets_27 rfl rfl ?_
    refine zv_getR (pc' := 31) dX6_gets_28 rfl flX6_10 (by first | rfl | assumption) rfl ?_
    refine zv_getR (pc' := 34) dX6_gets_31 rfl flX6_124 (by first | rfl | assumption) rfl ?_
    refine zv_iload_n (pc' := 35) dX6_gets_34 rfl rfl ?_
    refine zv_ialoadE (pc' := 36) dX6_gets_35 rfl (by first | rfl | assumption) (by decide) (by omega) (by first | exact hM _ (by omega) | rfl) ?_
    refine zv_istore (pc' := 38) dX6_gets_36 rfl (by decide) ?_
    refine zv_aload_n (pc' := 39) dX6_gets_38 rfl rfl ?_
    refine zv_getR (pc' := 42) dX6_gets_39 rfl flX6_10 (by first | rfl | assumption) rfl ?_
    refine zv_getR (pc' := 45) dX6_gets_42 rfl flX6_124 (by first | rfl | assumption) rfl ?_
    refine zv_iload_n (pc' := 46) dX6_gets_45 rfl rfl ?_
    refine zv_iload_n (pc' := 47) dX6_gets_46 rfl rfl ?_
    refine zv_iastoreN (pc' := 48) dX6_gets_47 rfl (by first | rfl | assumption) (by decide) (by omega) ?_
    refine zv_iload (pc' := 50) dX6_gets_48 rfl rfl ?_
    refine zv_iret dX6_gets_50 rfl ?_
    have h1 : zAt (zup M 4 p (nI k)) 1 (setM (sC s) (fu (yM (sC s)) p k)) := zAt_M hA
    exact zdone (by rw [sp_gets, zans_0 h0, pN_nI (by omega), pN_nI (by omega)]) (hI.setc h1 (zSame.up (by omega) (by omega))) (zSame.up (by omega) (by omega))
  · intro h
    have h0 := mt (neg_w0 _ hw).mpr h
    refine zv_aload_n (pc' := 22) dX6_gets_21 rfl rfl ?_
    refine zv_iload_n (pc' := 23) dX6_gets_22 rfl rfl ?_
    refine zv_cV1_fi (pc' := 26) dX6_gets_23 rfl lkX6_84 (by first | rfl | assumption) rfl (Nat.le_of_ble_eq_true rfl) (x6_refuse hw h0) ?_
    rintro r M1 ⟨rfl, rfl⟩
    refine zv_iret dX6_gets_26 rfl ?_
    exact zrefx hI h0
theorem gx_turn (x k f : Int32) : zGx mdX6_turn (d + 2) [.int x, .int k, .int f] (sp_turn x k f) := by
  intro M s hI hk
  have hn := hk.1.1
  have hA := hI.1
  have hK := hI.1.2.2.1
  have hF := hI.1.2.2.2.1
  refine zex_intro (L := [some (.ref 0), some (.int x), some (.int k), some (.int f), none, none]) (by decide) (Nat.le_of_ble_eq_true rfl) rfl ?_
  refine zv_aload_n (pc' := 1) dX6_turn_0 rfl rfl ?_
  refine zv_iload_n (pc' := 2) dX6_turn_1 rfl rfl ?_
  refine zv_cV1_pi (pc' := 5) dX6_turn_2 rfl lkX6_111 (by first | rfl | assumption) rfl (Nat.le_of_ble_eq_true rfl) (x6_nobody hA) ?_
  refine zv_iload_n (pc' := 6) dX6_turn_5 rfl rfl ?_
  refine zv_iconst (v := nI 5) (pc' := 7) dX6_turn_6 rfl (by decide) ?_
  refine zv_cS2_pi (pc' := 10) dX6_turn_7 rfl lkX6_114 (Nat.le_of_ble_eq_true rfl) (x6_otherThan) ?_
  refine zv_iload_n (pc' := 11) dX6_turn_10 rfl rfl ?_
  refine zv_iconst (v := nI 0) (pc' := 12) dX6_turn_11 rfl (by decide) ?_
  refine zv_bipush (v := nI 9) (pc' := 14) dX6_turn_12 rfl (by decide) ?_
  refine zv_cS3_pi (pc' := 17) dX6_turn_14 rfl lkX6_73 (Nat.le_of_ble_eq_true rfl) (x6_outside) ?_
  refine zv_cS3_pi (pc' := 20) dX6_turn_17 rfl lkX6_81 (Nat.le_of_ble_eq_true rfl) (x6_firstOf nbN_lt otN_lt) ?_
  have hw := fiN_lt (nbN_lt (n := yN (sC s)) (x := x)) (otN_lt (x := k) (n := 5)) (bdN_lt (x := f) (lo := nI 0) (hi := nI 9))
  refine zv_istore (pc' := 22) dX6_turn_20 rfl (by decide) ?_
  refine zv_iload (pc' := 24) dX6_turn_22 rfl rfl ?_
  refine zv_if_eq (pc' := 27) (tgt := 34) dX6_turn_24 rfl rfl ?_ ?_
  · intro h
    have h0 := (neg_w0 _ hw).mp h
    obtain ⟨g1, g2, g3⟩ := fiN_0.mp h0
    obtain ⟨p, hp, rfl⟩ := hasB_of hn (nbN_0.mp g1)
    obtain ⟨k, -, hk2, rfl⟩ := isInB_of (by decide) (otN_0.mp g2) (by decide)
    obtain ⟨f, -, hf2, rfl⟩ := isInB_of (by decide) (bdN_0.mp g3) (by decide)
    refine zv_bipush (v := nI 10) (pc' := 36) dX6_turn_34 rfl (by decide) ?_
    refine zv_aload_n (pc' := 37) dX6_turn_36 rfl rfl ?_
    refine zv_getR (pc' := 40) dX6_turn_37 rfl flX6_10 (by first | rfl | assumption) rfl ?_
    refine zv_getR (pc' := 43) dX6_turn_40 rfl flX6_118 (by first | rfl | assumption) rfl ?_
    refine zv_iload_n (pc' := 44) dX6_turn_43 rfl rfl ?_
    refine zv_ialoadE (pc' := 45) dX6_turn_44 rfl (by first | rfl | assumption) (by decide) (by omega) (by first | exact hK _ (by omega) | exact hF _ (by omega) | rfl) ?_
    refine zv_imul (pc' := 46) dX6_turn_45 rfl ?_
    refine zv_top (pk_mul _ _) ?_
    refine zv_aload_n (pc' := 47) dX6_turn_46 rfl rfl ?_
    refine zv_getR (pc' := 50) dX6_turn_47 rfl flX6_10 (by first | rfl | assumption) rfl ?_
    refine zv_getR (pc' := 53) dX6_turn_50 rfl flX6_121 (by first | rfl | assumption) rfl ?_
    refine zv_iload_n (pc' := 54) dX6_turn_53 rfl rfl ?_
    refine zv_ialoadE (pc' := 55) dX6_turn_54 rfl (by first | rfl | assumption) (by decide) (by omega) (by first | exact hK _ (by omega) | exact hF _ (by omega) | rfl) ?_
    refine zv_iadd (pc' := 56) dX6_turn_55 rfl ?_
    refine zv_top (nI_add _ _) ?_
    refine zv_istore (pc' := 58) dX6_turn_56 rfl (by decide) ?_
    refine zv_aload_n (pc' := 59) dX6_turn_58 rfl rfl ?_
    refine zv_getR (pc' := 62) dX6_turn_59 rfl flX6_10 (by first | rfl | assumption) rfl ?_
    refine zv_getR (pc' := 65) dX6_turn_62 rfl flX6_118 (by first | rfl | assumption) rfl ?_
    refine zv_iload_n (pc' := 66) dX6_turn_65 rfl rfl ?_
    refine zv_iload_n (pc' := 67) dX6_turn_66 rfl rfl ?_
    refine zv_iastoreN (pc' := 68) dX6_turn_67 rfl (by first | rfl | assumption) (by decide) (by omega) ?_
    refine zv_aload_n (pc' := 69) dX6_turn_68 rfl rfl ?_
    refine zv_getR (pc' := 72) dX6_turn_69 rfl flX6_10 (by first | rfl | assumption) rfl ?_
    refine zv_getR (pc' := 75) dX6_turn_72 rfl flX6_121 (by first | rfl | assumption) rfl ?_
    refine zv_iload_n (pc' := 76) dX6_turn_75 rfl rfl ?_
    refine zv_iload_n (pc' := 77) dX6_turn_76 rfl rfl ?_
    refine zv_iastoreN (pc' := 78) dX6_turn_77 rfl (by first | rfl | assumption) (by decide) (by omega) ?_
    refine zv_iload (pc' := 80) dX6_turn_78 rfl rfl ?_
    refine zv_iret dX6_turn_80 rfl ?_
    have h1 : zAt (zup M 2 p (nI k)) 1 (setK (sC s) (fu (yK (sC s)) p k)) := zAt_K hA
    have h2 : zAt (zup (zup M 2 p (nI k)) 3 p (nI f)) 1 (turnC (sC s) p k f) := zAt_F h1
    exact zdone (by rw [sp_turn, zans_0 h0, pN_nI (by omega), pN_nI (by omega), pN_nI (by omega)]) (hI.setc h2 ((zSame.up (by omega) (by omega)).tr (zSame.up (by omega) (by omega)))) ((zSame.up (by omega) (by omega)).tr (zSame.up (by omega) (by omega)))
  · intro h
    have h0 := mt (neg_w0 _ hw).mpr h
    refine zv_aload_n (pc' := 28) dX6_turn_27 rfl rfl ?_
    refine zv_iload (pc' := 30) dX6_turn_28 rfl rfl ?_
    refine zv_cV1_fi (pc' := 33) dX6_turn_30 rfl lkX6_84 (by first | rfl | assumption) rfl (Nat.le_of_ble_eq_true rfl) (x6_refuse hw h0) ?_
    rintro r M1 ⟨rfl, rfl⟩
    refine zv_iret dX6_turn_33 rfl ?_
    exact zrefx hI h0
theorem gx_years (x : Int32) : zGx mdX6_years (d + 4) [.int x] (sp_years x) := by
  intro M s hI hk
  have hn := hk.1.1
  have hA := hI.1
  refine zex_intro (L := [some (.ref 0), some (.int x), none]) (by decide) (Nat.le_of_ble_eq_true rfl) rfl ?_
  refine zv_iload_n (pc' := 1) dX6_years_0 rfl rfl ?_
  refine zv_iconst (v := nI 1) (pc' := 2) dX6_years_1 rfl (by decide) ?_
  refine zv_bipush (v := nI 60) (pc' := 4) dX6_years_2 rfl (by decide) ?_
  refine zv_cS3_pi (pc' := 7) dX6_years_4 rfl lkX6_73 (Nat.le_of_ble_eq_true rfl) (x6_outside) ?_
  refine zv_aload_n (pc' := 8) dX6_years_7 rfl rfl ?_
  refine zv_getR (pc' := 11) dX6_years_8 rfl flX6_10 (by first | rfl | assumption) rfl ?_
  refine zv_iload_n (pc' := 12) dX6_years_11 rfl rfl ?_
  refine zv_cV1_pi (pc' := 15) dX6_years_12 rfl lkX6_164 (by first | rfl | assumption) rfl (Nat.le_of_ble_eq_true rfl) (x0_mayPass zCy1 hA) ?_
  have fin : ∀ w2, w2 = (if passB (yY (sC s)) x = true then 0 else 6) → ZV mdX6_years (d + 4) (fun v M' => ∃ r, v = some (.int r) ∧ (r = (sp_years x s).1 ∧ zIx M' (sp_years x s).2 ∧ zSame 0 90 M M')) 24 [some (.ref 0), some (.int x), none] [.int (-nI w2), .int (-nI (bdN x (nI 1) (nI 60)))] M := by
    intro w2 hw2
    have hw2' : w2 < 7 := by rw [hw2]; split <;> omega
    refine zv_iconst (v := nI 0) (pc' := 25) dX6_years_24 rfl (by decide) ?_
    refine zv_top (show nI 0 = -nI 0 by decide) ?_
    refine zv_cS3_pi (pc' := 28) dX6_years_25 rfl lkX6_81 (Nat.le_of_ble_eq_true rfl) (x6_firstOf bdN_lt hw2') ?_
    have hw := fiN_lt (bdN_lt (x := x) (lo := nI 1) (hi := nI 60)) hw2' (by decide : 0 < 7)
    refine zv_istore_n (pc' := 29) dX6_years_28 rfl (by decide) ?_
    refine zv_iload_n (pc' := 30) dX6_years_29 rfl rfl ?_
    refine zv_if_eq (pc' := 33) (tgt := 39) dX6_years_30 rfl rfl ?_ ?_
    · intro h
      have h0 := (neg_w0 _ hw).mp h
      obtain ⟨g1, g2, -⟩ := fiN_0.mp h0
      obtain ⟨k, -, hk2, rfl⟩ := isInB_of (by decide) (bdN_0.mp g1) (by decide)
      refine zv_aload_n (pc' := 40) dX6_years_39 rfl rfl ?_
      refine zv_getR (pc' := 43) dX6_years_40 rfl flX6_10 (by first | rfl | assumption) rfl ?_
      refine zv_iload_n (pc' := 44) dX6_years_43 rfl rfl ?_
      refine zv_cV1_fi (pc' := 47) dX6_years_44 rfl lkX6_168 (by first | rfl | assumption) rfl (Nat.le_of_ble_eq_true rfl) (x0_passYears zCy1 hA hk.1 (by omega)) ?_
      rintro r M1 ⟨rfl, h1, h2⟩
      refine zv_pop (pc' := 48) dX6_years_47 rfl rfl ?_
      refine zv_aload_n (pc' := 49) dX6_years_48 rfl rfl ?_
      refine zv_getR (pc' := 52) dX6_years_49 rfl flX6_10 (by first | rfl | assumption) rfl ?_
      refine zv_cV0_pi (pc' := 55) dX6_years_52 rfl lkX6_171 (by first | rfl | assumption) rfl (Nat.le_of_ble_eq_true rfl) (x0_wealth zCy1 h1 (by rw [(zOk_years hk.1).2]; exact hn)) ?_
      refine zv_iret dX6_years_55 rfl ?_
      exact zdone (by rw [sp_years, ← hw2, zans_0 h0, pN_nI (by omega)]) (hI.setc h1 h2) (h2.wide (by omega) (by omega))
    · intro h
      have h0 := mt (neg_w0 _ hw).mpr h
      refine zv_aload_n (pc' := 34) dX6_years_33 rfl rfl ?_
      refine zv_iload_n (pc' := 35) dX6_years_34 rfl rfl ?_
      refine zv_cV1_fi (pc' := 38) dX6_years_35 rfl lkX6_84 (by first | rfl | assumption) rfl (Nat.le_of_ble_eq_true rfl) (x6_refuse hw h0) ?_
      rintro r M1 ⟨rfl, rfl⟩
      refine zv_iret dX6_years_38 rfl ?_
      rw [sp_years, ← hw2]
      exact zrefx hI h0
  refine zv_if_eq (pc' := 18) (tgt := 22) dX6_years_15 rfl rfl ?_ ?_
  · intro h
    refine zv_bipush (v := (-6 : Int32)) (pc' := 24) dX6_years_22 rfl (by decide) ?_
    exact fin 6 (by rw [if_neg (by rw [zb_0.mp h]; decide)])
  · intro h
    refine zv_iconst (v := nI 0) (pc' := 19) dX6_years_18 rfl (by decide) ?_
    refine zv_goto (pc' := 24) dX6_years_19 rfl ?_
    exact fin 0 (by rw [if_pos (zb_ne.mp h)])
theorem toInt_out {x : Int32} {a b : Nat} (hb : b < 2 ^ 31) (hab : a ≤ b) (h : isInB x (nI a) (nI b) = false) : x.toInt < (a : Int) ∨ (b : Int) < x.toInt := by
  unfold isInB at h
  by_cases h1 : x < nI a
  · left
    have := Int32.lt_iff_toInt_lt.mp h1
    rwa [nI_toInt (by omega)] at this
  · by_cases h2 : nI b < x
    · right
      have := Int32.lt_iff_toInt_lt.mp h2
      rwa [nI_toInt (by omega)] at this
    · simp [h1, h2] at h
theorem gx_count (x : Int32) : zGx mdX6_count (d + 3) [.int x] (sp_count x) := by
  intro M s hI hk
  have hn := hk.1.1
  have hA := hI.1
  have hN := hI.1.1
  have hY := hI.1.2.1
  have hL := hI.2.2.1.1
  have hR := hI.2.2.2.1.1
  have hW := hI.2.2.2.2
  have fin : ∀ v : Int32, v = cntV s x → ∃ r, some (Value.int v) = some (Value.int r) ∧ (r = (sp_count x s).1 ∧ zIx M (sp_count x s).2 ∧ zSame 0 90 M M) := fun v hv => ⟨_, rfl, hv, hI, zSame.rf⟩
  refine zex_intro (L := [some (.ref 0), some (.int x)]) (by decide) (Nat.le_of_ble_eq_true rfl) rfl ?_
  refine zv_iload_n (pc' := 1) dX6_count_0 rfl rfl ?_
  by_cases h7 : isInB x (nI 0) (nI 7) = true
  · obtain ⟨k, -, hk2, rfl⟩ := isInB_of (by decide) h7 (by decide)
    have hno : ¬ isInB (nI k) (nI 11) (nI 16) = true := by
      intro z
      obtain ⟨j, hj, hj2, e⟩ := isInB_of (by decide) z (by decide)
      have := (nI_eq (by omega) (by omega)).mp e
      omega
    have ev : cntV s (nI k) = cntK s k := by rw [cntV, if_neg hno, if_pos h7, pN_nI (by omega)]
    rcases (show k = 0 ∨ k = 1 ∨ k = 2 ∨ k = 3 ∨ k = 4 ∨ k = 5 ∨ k = 6 ∨ k = 7 by omega) with rfl | rfl | rfl | rfl | rfl | rfl | rfl | rfl
    · refine zv_tableIn (pc' := 48) (off := 47) dX6_count_1 (by decide) (by decide) (by decide) rfl ?_
      refine zv_aload_n (pc' := 49) dX6_count_48 rfl rfl ?_
      refine zv_getR (pc' := 52) dX6_count_49 rfl flX6_10 (by first | rfl | assumption) rfl ?_
      refine zv_getIE (pc' := 55) dX6_count_52 rfl flX6_186 (by first | rfl | assumption) rfl (by first | exact hN | exact hY | exact hL | exact hR | exact hW _ (by omega) | rfl) ?_
      refine zv_iret dX6_count_55 rfl ?_
      exact fin _ ev.symm
    · refine zv_tableIn (pc' := 56) (off := 55) dX6_count_1 (by decide) (by decide) (by decide) rfl ?_
      refine zv_aload_n (pc' := 57) dX6_count_56 rfl rfl ?_
      refine zv_getR (pc' := 60) dX6_count_57 rfl flX6_10 (by first | rfl | assumption) rfl ?_
      refine zv_getIE (pc' := 63) dX6_count_60 rfl flX6_279 (by first | rfl | assumption) rfl (by first | exact hN | exact hY | exact hL | exact hR | exact hW _ (by omega) | rfl) ?_
      refine zv_iret dX6_count_63 rfl ?_
      exact fin _ ev.symm
    · refine zv_tableIn (pc' := 64) (off := 63) dX6_count_1 (by decide) (by decide) (by decide) rfl ?_
      refine zv_aload_n (pc' := 65) dX6_count_64 rfl rfl ?_
      refine zv_getR (pc' := 68) dX6_count_65 rfl flX6_10 (by first | rfl | assumption) rfl ?_
      refine zv_cV0_pi (pc' := 71) dX6_count_68 rfl lkX6_171 (by first | rfl | assumption) rfl (Nat.le_of_ble_eq_true rfl) (x0_wealth zCy1 hA hn) ?_
      refine zv_iret dX6_count_71 rfl ?_
      exact fin _ ev.symm
    · refine zv_tableIn (pc' := 72) (off := 71) dX6_count_1 (by decide) (by decide) (by decide) rfl ?_
      refine zv_aload_n (pc' := 73) dX6_count_72 rfl rfl ?_
      refine zv_getR (pc' := 76) dX6_count_73 rfl flX6_10 (by first | rfl | assumption) rfl ?_
      refine zv_cV0_pi (pc' := 79) dX6_count_76 rfl lkX6_282 (by first | rfl | assumption) rfl (Nat.le_of_ble_eq_true rfl) (x0_signings zCy1 hA hn) ?_
      refine zv_iret dX6_count_79 rfl ?_
      exact fin _ ev.symm
    · refine zv_tableIn (pc' := 80) (off := 79) dX6_count_1 (by decide) (by decide) (by decide) rfl ?_
      refine zv_aload_n (pc' := 81) dX6_count_80 rfl rfl ?_
      refine zv_getR (pc' := 84) dX6_count_81 rfl flX6_10 (by first | rfl | assumption) rfl ?_
      refine zv_cV0_pi (pc' := 87) dX6_count_84 rfl lkX6_285 (by first | rfl | assumption) rfl (Nat.le_of_ble_eq_true rfl) (x0_feudTwos zCy1 hA hn) ?_
      refine zv_iret dX6_count_87 rfl ?_
      exact fin _ ev.symm
    · refine zv_tableIn (pc' := 88) (off := 87) dX6_count_1 (by decide) (by decide) (by decide) rfl ?_
      refine zv_aload_n (pc' := 89) dX6_count_88 rfl rfl ?_
      refine zv_getR (pc' := 92) dX6_count_89 rfl flX6_10 (by first | rfl | assumption) rfl ?_
      refine zv_cV0_pi (pc' := 95) dX6_count_92 rfl lkX6_234 (by first | rfl | assumption) rfl (Nat.le_of_ble_eq_true rfl) (x0_kinTwos zCy1 hA hk.1) ?_
      refine zv_iret dX6_count_95 rfl ?_
      exact fin _ ev.symm
    · refine zv_tableIn (pc' := 96) (off := 95) dX6_count_1 (by decide) (by decide) (by decide) rfl ?_
      refine zv_aload_n (pc' := 97) dX6_count_96 rfl rfl ?_
      refine zv_getIE (pc' := 100) dX6_count_97 rfl flX6_266 (by first | rfl | assumption) rfl (by first | exact hN | exact hY | exact hL | exact hR | exact hW _ (by omega) | rfl) ?_
      refine zv_iret dX6_count_100 rfl ?_
      exact fin _ ev.symm
    · refine zv_tableIn (pc' := 101) (off := 100) dX6_count_1 (by decide) (by decide) (by decide) rfl ?_
      refine zv_aload_n (pc' := 102) dX6_count_101 rfl rfl ?_
      refine zv_getR (pc' := 105) dX6_count_102 rfl flX6_28 (by first | rfl | assumption) rfl ?_
      refine zv_getIE (pc' := 108) dX6_count_105 rfl flX6_92 (by first | rfl | assumption) rfl (by first | exact hN | exact hY | exact hL | exact hR | exact hW _ (by omega) | rfl) ?_
      refine zv_iret dX6_count_108 rfl ?_
      exact fin _ ev.symm
  · have h7 : isInB x (nI 0) (nI 7) = false := by simpa using h7
    refine zv_tableOut (pc' := 109) dX6_count_1 (toInt_out (a := 0) (b := 7) (by decide) (by decide) h7) rfl ?_
    refine zv_iload_n (pc' := 110) dX6_count_109 rfl rfl ?_
    refine zv_bipush (v := nI 10) (pc' := 112) dX6_count_110 rfl (by decide) ?_
    refine zv_icmp_le (pc' := 115) (tgt := 133) dX6_count_112 rfl rfl ?_ ?_
    · intro h
      refine zv_bipush (v := (-9 : Int32)) (pc' := 135) dX6_count_133 rfl (by decide) ?_
      refine zv_iret dX6_count_135 rfl ?_
      refine fin _ ?_
      rw [cntV, if_neg, if_neg (by rw [h7]; decide)]
      intro z
      obtain ⟨j, hj, hj2, rfl⟩ := isInB_of (by decide) z (by decide)
      have := (nI_leI (by omega) (by omega)).mp h
      omega
    · intro h
      refine zv_iload_n (pc' := 116) dX6_count_115 rfl rfl ?_
      refine zv_bipush (v := nI 16) (pc' := 118) dX6_count_116 rfl (by decide) ?_
      refine zv_icmp_gt (pc' := 121) (tgt := 133) dX6_count_118 rfl rfl ?_ ?_
      · intro h2
        refine zv_bipush (v := (-9 : Int32)) (pc' := 135) dX6_count_133 rfl (by decide) ?_
        refine zv_iret dX6_count_135 rfl ?_
        refine fin _ ?_
        rw [cntV, if_neg, if_neg (by rw [h7]; decide)]
        intro z
        obtain ⟨j, hj, hj2, rfl⟩ := isInB_of (by decide) z (by decide)
        have := (nI_ltI (by omega) (by omega)).mp h2
        omega
      · intro h2
        have hin : isInB x (nI 11) (nI 16) = true := by
          simp only [isInB, Bool.and_eq_true, decide_eq_true_eq]
          refine ⟨fun z => h ?_, h2⟩
          have z1 := Int32.lt_iff_toInt_lt.mp z
          rw [nI_toInt (by decide)] at z1
          refine Int32.le_iff_toInt_le.mpr ?_
          rw [nI_toInt (by decide)]
          omega
        obtain ⟨k, hk1, hk2, rfl⟩ := isInB_of (by decide) hin (by decide)
        refine zv_aload_n (pc' := 122) dX6_count_121 rfl rfl ?_
        refine zv_getR (pc' := 125) dX6_count_122 rfl flX6_36 (by first | rfl | assumption) rfl ?_
        refine zv_iload_n (pc' := 126) dX6_count_125 rfl rfl ?_
        refine zv_bipush (v := nI 10) (pc' := 128) dX6_count_126 rfl (by decide) ?_
        refine zv_isub (pc' := 129) dX6_count_128 rfl ?_
        refine zv_top (pk_sub (by omega)) ?_
        refine zv_ialoadE (pc' := 130) dX6_count_129 rfl (by first | rfl | assumption) (by decide) (by omega) (by first | exact hN | exact hY | exact hL | exact hR | exact hW _ (by omega) | rfl) ?_
        refine zv_goto (pc' := 135) dX6_count_130 rfl ?_
        refine zv_iret dX6_count_135 rfl ?_
        refine fin _ ?_
        rw [cntV, if_pos hin, pN_nI (by omega)]
end
