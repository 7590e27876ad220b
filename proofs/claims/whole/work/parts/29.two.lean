/-! two -/
def t2C (c : ZCty) (a b n k : Nat) : ZCty := yearsC n (signC (signC c a b (decide (2 ≤ k))) b a (decide (k % 2 = 1)))
def tw2 (k : Nat) : Nat := if k < 2 then k + 2 else k - 2
def tw1 (k : Nat) : Nat := if k % 2 = 0 then k + 1 else k - 1
def twB (c : ZCty) (a b n k : Nat) : Bool := decide (yM (t2C c a b n (tw2 k)) a ≤ yM (t2C c a b n k) a) && decide (yM (t2C c a b n (tw1 k)) b ≤ yM (t2C c a b n k) b)
def twV : Option Nat → Int32
  | none => -9
  | some k => nI (10 * (k / 2) + k % 2)
def sp_two (x y n : Int32) (s : ZS) : Int32 × ZS := zans (fiN (twN (yN (sC s)) x y) (bdN n (nI 0) (nI 20)) 0) s (twV (zfst 4 0 (twB (sC s) (pN x) (pN y) (pN n)))) s
theorem tw2_x : ∀ k, k < 4 → nI k ^^^ nI 2 = nI (tw2 k) ∧ tw2 k < 4 := by decide +kernel
theorem tw1_x : ∀ k, k < 4 → nI k ^^^ nI 1 = nI (tw1 k) ∧ tw1 k < 4 := by decide +kernel
theorem tw_d : ∀ k, k < 4 → nI (k / 2) = zb (decide (2 ≤ k)) := by decide +kernel
theorem tw_m : ∀ k, k < 4 → nI (k % 2) = zb (decide (k % 2 = 1)) := by decide +kernel
theorem t2_ok {c : ZCty} (hk : zOk c) {a b n k : Nat} (ha : a < yN c) (hb : b < yN c) (hab : a ≠ b) : zOk (signC (signC c a b (decide (2 ≤ k))) b a (decide (k % 2 = 1))) := zOk_sign (c := signC c a b (decide (2 ≤ k))) (zOk_sign hk ha hb hab) hb ha (Ne.symm hab)
theorem t2_n {c : ZCty} (hk : zOk c) {a b n k : Nat} (ha : a < yN c) (hb : b < yN c) (hab : a ≠ b) : zOk (t2C c a b n k) ∧ yN (t2C c a b n k) = yN c := ⟨(zOk_years (t2_ok (n := n) hk ha hb hab)).1, (zOk_years (t2_ok (n := n) hk ha hb hab)).2⟩
theorem fu_or {f : Nat → Bool} {q : Nat} {b : Bool} : (fun j => (f j && !decide (j = q)) || (b && decide (j = q))) = fu f q b := by
  funext j
  unfold fu
  by_cases e : j = q
  · simp [e]
  · simp [e]
section
variable {d : Nat} {M : ZMem} {c : ZCty}
theorem x7_with {f : Nat → Bool} {q : Nat} {b : Bool} (hq : q < 8) : ZPi mdX7_with d [.int (nI (zm 8 f)), .int (nI q), .int (zb b)] M (nI (zm 8 (fu f q b))) := by
  refine zex_intro (L := [some (.int (nI (zm 8 f))), some (.int (nI q)), some (.int (zb b))]) (by decide) (Nat.le_of_ble_eq_true rfl) rfl ?_
  refine zv_iload_n (pc' := 1) dX7_with_0 rfl rfl ?_
  refine zv_iconst (v := nI 1) (pc' := 2) dX7_with_1 rfl (by decide) ?_
  refine zv_iload_n (pc' := 3) dX7_with_2 rfl rfl ?_
  refine zv_ishl (pc' := 4) dX7_with_3 rfl ?_
  refine zv_top (zsh1 q (by omega)) ?_
  refine zv_iconst (v := (-1 : Int32)) (pc' := 5) dX7_with_4 rfl (by decide) ?_
  refine zv_ixor (pc' := 6) dX7_with_5 rfl ?_
  refine zv_iand (pc' := 7) dX7_with_6 rfl ?_
  refine zv_top mk_cl1 ?_
  refine zv_iload_n (pc' := 8) dX7_with_7 rfl rfl ?_
  refine zv_iload_n (pc' := 9) dX7_with_8 rfl rfl ?_
  refine zv_ishl (pc' := 10) dX7_with_9 rfl ?_
  refine zv_ior (pc' := 11) dX7_with_10 rfl ?_
  refine zv_top ?_ (y := nI (zm 8 (fu f q b))) ?_
  · rw [← fu_or]
    cases b
    · rw [(by decide +kernel : ∀ q, q < 8 → zb false <<< (nI q &&& 31) = 0) q hq, Int32.or_zero]
      refine congrArg nI (zm_ext (fun j _ => ?_))
      simp
    · rw [show zb true = nI 1 from rfl, zsh1 q (by omega), mk_or1 hq]
      refine congrArg nI (zm_ext (fun j _ => ?_))
      simp
  refine zv_iret dX7_with_11 rfl ?_
  exact zpi_ret rfl
theorem x7_findTwo {a b n : Nat} (hA : zAm M c) (hk : zOk c) (hD : M 90 8 = absM 100) (ha : a < yN c) (hb : b < yN c) (hab : a ≠ b) (hn : n < 2 ^ 31) : ZFv mdX7_findTwo (d + 4) [.ref 90, .int (nI a), .int (nI b), .int (nI n)] M (fun M' => (∀ k, k < 4 → M' 106 (2 * k) = nI (yM (t2C c a b n k) a) ∧ M' 106 (2 * k + 1) = nI (yM (t2C c a b n k) b)) ∧ zTe M M' c) := by
  have hn8 := hk.1
  have lp : ∀ r k M1, k + r = 4 → zTe M M1 c → (∀ j, j < k → M1 106 (2 * j) = nI (yM (t2C c a b n j) a) ∧ M1 106 (2 * j + 1) = nI (yM (t2C c a b n j) b)) → ZV mdX7_findTwo (d + 4) (fun v M' => v = none ∧ ((∀ k, k < 4 → M' 106 (2 * k) = nI (yM (t2C c a b n k) a) ∧ M' 106 (2 * k + 1) = nI (yM (t2C c a b n k) b)) ∧ zTe M M' c)) 3 [some (.ref 90), some (.int (nI a)), some (.int (nI b)), some (.int (nI n)), some (.int (nI k))] [] M1 := by
    intro r
    induction r with
    | zero =>
      intro k M1 e ht hw
      have e : k = 4 := by omega
      subst e
      refine zv_iload (pc' := 5) dX7_findTwo_3 rfl rfl ?_
      refine zv_iconst (v := nI 4) (pc' := 6) dX7_findTwo_5 rfl (by decide) ?_
      refine zv_icmp_ge (pc' := 9) (tgt := 100) dX7_findTwo_6 rfl rfl (fun _ => ?_) (fun hcc => absurd (Int32.le_refl _) hcc)
      refine zv_vret dX7_findTwo_100 rfl ?_
      exact ⟨rfl, hw, ht⟩
    | succ r ih =>
      intro k M1 e ht hw
      have hk4 : k < 4 := by omega
      refine zv_iload (pc' := 5) dX7_findTwo_3 rfl rfl ?_
      refine zv_iconst (v := nI 4) (pc' := 6) dX7_findTwo_5 rfl (by decide) ?_
      refine zv_icmp_ge (pc' := 9) (tgt := 100) dX7_findTwo_6 rfl rfl (fun hcc => absurd hcc (nI_ge (by omega) (by omega))) (fun _ => ?_)
      refine zv_aload_n (pc' := 10) dX7_findTwo_9 rfl rfl ?_
      refine zv_cV0_fv (pc' := 13) dX7_findTwo_10 rfl lkX7_190 (by first | rfl | assumption) rfl (Nat.le_of_ble_eq_true rfl) (x7_thinks ht.1) ?_
      rintro M2 h2
      have t2 := zTh.be h2
      have hS := t2.2.1.2.2.2.2.2.1
      refine zv_aload_n (pc' := 14) dX7_findTwo_13 rfl rfl ?_
      refine zv_getR (pc' := 17) dX7_findTwo_14 rfl flX7_22 (by first | rfl | assumption) rfl ?_
      refine zv_iload_n (pc' := 18) dX7_findTwo_17 rfl rfl ?_
      refine zv_aload_n (pc' := 19) dX7_findTwo_18 rfl rfl ?_
      refine zv_getR (pc' := 22) dX7_findTwo_19 rfl flX7_22 (by first | rfl | assumption) rfl ?_
      refine zv_iload_n (pc' := 23) dX7_findTwo_22 rfl rfl ?_
      refine zv_ialoadE (pc' := 24) dX7_findTwo_23 rfl (by first | rfl | assumption) (by decide) (by omega) (by first | exact hS _ (by omega) | rfl) ?_
      refine zv_iload_n (pc' := 25) dX7_findTwo_24 rfl rfl ?_
      refine zv_iload (pc' := 27) dX7_findTwo_25 rfl rfl ?_
      refine zv_iconst (v := nI 2) (pc' := 28) dX7_findTwo_27 rfl (by decide) ?_
      refine zv_idiv (pc' := 29) dX7_findTwo_28 rfl (by first | assumption | decide) ?_
      refine zv_top ((pk_div (a := k) (d := 2) (by omega) (by omega) (by omega)).trans (tw_d k hk4)) ?_
      refine zv_cS3_pi (pc' := 32) dX7_findTwo_29 rfl lkX7_291 (Nat.le_of_ble_eq_true rfl) (x7_with (by omega)) ?_
      refine zv_iastoreN (pc' := 33) dX7_findTwo_32 rfl (by first | rfl | assumption) (by decide) (by omega) ?_
      have h3 : zAm (zup M2 95 a (nI (zm 8 (fu (yS c a) b (decide (2 ≤ k)))))) (signC c a b (decide (2 ≤ k))) := zAm_S t2.2.1
      have t3 := t2.go h3 (zFr.up (ps := [95]) (fs := []) (by decide) (by decide)) (by simp) (by simp)
      have hS3 := h3.2.2.2.2.2.1
      generalize zup M2 95 a (nI (zm 8 (fu (yS c a) b (decide (2 ≤ k))))) = M3 at h3 t3 hS3 ⊢
      refine zv_aload_n (pc' := 34) dX7_findTwo_33 rfl rfl ?_
      refine zv_getR (pc' := 37) dX7_findTwo_34 rfl flX7_22 (by first | rfl | assumption) rfl ?_
      refine zv_iload_n (pc' := 38) dX7_findTwo_37 rfl rfl ?_
      refine zv_aload_n (pc' := 39) dX7_findTwo_38 rfl rfl ?_
      refine zv_getR (pc' := 42) dX7_findTwo_39 rfl flX7_22 (by first | rfl | assumption) rfl ?_
      refine zv_iload_n (pc' := 43) dX7_findTwo_42 rfl rfl ?_
      refine zv_ialoadE (pc' := 44) dX7_findTwo_43 rfl (by first | rfl | assumption) (by decide) (by omega) (by first | exact hS3 _ (by omega) | rfl) ?_
      refine zv_iload_n (pc' := 45) dX7_findTwo_44 rfl rfl ?_
      refine zv_iload (pc' := 47) dX7_findTwo_45 rfl rfl ?_
      refine zv_iconst (v := nI 2) (pc' := 48) dX7_findTwo_47 rfl (by decide) ?_
      refine zv_irem (pc' := 49) dX7_findTwo_48 rfl (by first | assumption | decide) ?_
      refine zv_top ((pk_rem (a := k) (d := 2) (by omega) (by omega) (by omega)).trans (tw_m k hk4)) ?_
      refine zv_cS3_pi (pc' := 52) dX7_findTwo_49 rfl lkX7_291 (Nat.le_of_ble_eq_true rfl) (x7_with (by omega)) ?_
      refine zv_iastoreN (pc' := 53) dX7_findTwo_52 rfl (by first | rfl | assumption) (by decide) (by omega) ?_
      have h4 : zAm (zup M3 95 b (nI (zm 8 (fu (yS (signC c a b (decide (2 ≤ k))) b) a (decide (k % 2 = 1)))))) (signC (signC c a b (decide (2 ≤ k))) b a (decide (k % 2 = 1))) := zAm_S h3
      have t4 := t3.go h4 (zFr.up (ps := [95]) (fs := []) (by decide) (by decide)) (by simp) (by simp)
      generalize zup M3 95 b (nI (zm 8 (fu (yS (signC c a b (decide (2 ≤ k))) b) a (decide (k % 2 = 1))))) = M4 at h4 t4 ⊢
      refine zv_aload_n (pc' := 54) dX7_findTwo_53 rfl rfl ?_
      refine zv_iload_n (pc' := 55) dX7_findTwo_54 rfl rfl ?_
      refine zv_cV1_fv (pc' := 58) dX7_findTwo_55 rfl lkX7_129 (by first | rfl | assumption) rfl (Nat.le_of_ble_eq_true rfl) (x7_goes h4 (t2_ok (n := n) hk ha hb hab) (by rw [t4.dead, ht.dead]; exact hD) hn) ?_
      rintro M5 ⟨h5, h6⟩
      have t5 := t4.go h5 h6 (by simp) (by simp)
      have hM := h5.2.2.2.2.1
      refine zv_aload_n (pc' := 59) dX7_findTwo_58 rfl rfl ?_
      refine zv_getR (pc' := 62) dX7_findTwo_59 rfl flX7_59 (by first | rfl | assumption) rfl ?_
      refine zv_iconst (v := nI 2) (pc' := 63) dX7_findTwo_62 rfl (by decide) ?_
      refine zv_iload (pc' := 65) dX7_findTwo_63 rfl rfl ?_
      refine zv_imul (pc' := 66) dX7_findTwo_65 rfl ?_
      refine zv_top (pk_mul 2 k) ?_
      refine zv_aload_n (pc' := 67) dX7_findTwo_66 rfl rfl ?_
      refine zv_getR (pc' := 70) dX7_findTwo_67 rfl flX7_19 (by first | rfl | assumption) rfl ?_
      refine zv_iload_n (pc' := 71) dX7_findTwo_70 rfl rfl ?_
      refine zv_ialoadE (pc' := 72) dX7_findTwo_71 rfl (by first | rfl | assumption) (by decide) (by omega) (by first | exact hM _ (by omega) | rfl) ?_
      refine zv_iastoreN (pc' := 73) dX7_findTwo_72 rfl (by first | rfl | assumption) (by decide) (by omega) ?_
      have hM6 : ∀ j, j < 8 → zup M5 106 (2 * k) (nI (yM (yearsC n (signC (signC c a b (decide (2 ≤ k))) b a (decide (k % 2 = 1)))) a)) 94 j = nI (yM (yearsC n (signC (signC c a b (decide (2 ≤ k))) b a (decide (k % 2 = 1)))) j) := by rw [zup_ne (by decide)]; exact hM
      refine zv_aload_n (pc' := 74) dX7_findTwo_73 rfl rfl ?_
      refine zv_getR (pc' := 77) dX7_findTwo_74 rfl flX7_59 (by first | rfl | assumption) rfl ?_
      refine zv_iconst (v := nI 2) (pc' := 78) dX7_findTwo_77 rfl (by decide) ?_
      refine zv_iload (pc' := 80) dX7_findTwo_78 rfl rfl ?_
      refine zv_imul (pc' := 81) dX7_findTwo_80 rfl ?_
      refine zv_top (pk_mul 2 k) ?_
      refine zv_iconst (v := nI 1) (pc' := 82) dX7_findTwo_81 rfl (by decide) ?_
      refine zv_iadd (pc' := 83) dX7_findTwo_82 rfl ?_
      refine zv_top (nI_add _ _) ?_
      refine zv_aload_n (pc' := 84) dX7_findTwo_83 rfl rfl ?_
      refine zv_getR (pc' := 87) dX7_findTwo_84 rfl flX7_19 (by first | rfl | assumption) rfl ?_
      refine zv_iload_n (pc' := 88) dX7_findTwo_87 rfl rfl ?_
      refine zv_ialoadE (pc' := 89) dX7_findTwo_88 rfl (by first | rfl | assumption) (by decide) (by omega) (by first | exact hM6 _ (by omega) | rfl) ?_
      refine zv_iastoreN (pc' := 90) dX7_findTwo_89 rfl (by first | rfl | assumption) (by decide) (by omega) ?_
      have k6 : zKp (zup (zup M5 106 (2 * k) (nI (yM (t2C c a b n k) a))) 106 (2 * k + 1) (nI (yM (t2C c a b n k) b))) 84 c := t5.1.same (fun i _ _ => by rw [zup_ne (by decide), zup_ne (by decide)])
      have f6 : zFr [106] [] M5 (zup (zup M5 106 (2 * k) (nI (yM (t2C c a b n k) a))) 106 (2 * k + 1) (nI (yM (t2C c a b n k) b))) := (zFr.up (by decide) (by decide)).tr (zFr.up (by decide) (by decide))
      have w6 : ∀ j, j < k + 1 → (zup (zup M5 106 (2 * k) (nI (yM (t2C c a b n k) a))) 106 (2 * k + 1) (nI (yM (t2C c a b n k) b))) 106 (2 * j) = nI (yM (t2C c a b n j) a) ∧ (zup (zup M5 106 (2 * k) (nI (yM (t2C c a b n k) a))) 106 (2 * k + 1) (nI (yM (t2C c a b n k) b))) 106 (2 * j + 1) = nI (yM (t2C c a b n j) b) := by
        intro j hj
        rw [zup_eq, zup_eq]
        by_cases ej : j = k
        · subst ej
          rw [upd_n (by omega), upd_s, upd_s]
          exact ⟨rfl, rfl⟩
        · rw [upd_n (by omega), upd_n (by omega), upd_n (by omega), upd_n (by omega)]
          have e5 : M5 106 = M1 106 := t5.2.2.2.1 106 (by decide) (by decide)
          rw [e5]
          exact hw j (by omega)
      have k6' := k6
      refine zv_aload_n (pc' := 91) dX7_findTwo_90 rfl rfl ?_
      refine zv_cV0_fv (pc' := 94) dX7_findTwo_91 rfl lkX7_193 (by first | rfl | assumption) rfl (Nat.le_of_ble_eq_true rfl) (x7_forgets k6) ?_
      rintro M7 ⟨h7, h8⟩
      have e101 : M7 101 = M5 101 := (h8.1 101 (by decide) (by decide)).trans (f6.1 101 (by decide) (by decide))
      have t7 : zTe M1 M7 c := ⟨h7, (t5.2.2.2.mono (by simp) (by simp)).tr ((f6.mono (by simp) (by simp)).tr (h8.mono (by simp) (by simp))), fun i hi => by rw [e101]; exact t5.2.2.1 i (by omega)⟩
      have e7 : M7 106 = _ := h8.1 106 (by decide) (by decide)
      refine zv_iinc (w := nI 1) (pc' := 97) dX7_findTwo_94 rfl rfl (by decide) (by decide) ?_
      refine zv_goto (pc' := 3) dX7_findTwo_97 rfl ?_
      rw [nI_add]
      exact ih (k + 1) M7 (by omega) (ht.tr t7) (fun j hj => by rw [e7]; exact w6 j hj)
  refine zex_intro (L := [some (.ref 90), some (.int (nI a)), some (.int (nI b)), some (.int (nI n)), none]) (by decide) (Nat.le_of_ble_eq_true rfl) rfl ?_
  refine zv_iconst (v := nI 0) (pc' := 1) dX7_findTwo_0 rfl (by decide) ?_
  refine zv_istore (pc' := 3) dX7_findTwo_1 rfl (by decide) ?_
  exact lp 4 0 M (by omega) (zTe.rf hA) (fun j hj => by omega)
end
section
variable {d : Nat}
theorem gm_two (x y n : Int32) : zGm mdX7_two (d + 5) [.int x, .int y, .int n] (sp_two x y n) := by
  intro M s hI hk
  have hn8 := hk.1.1
  have hN := hI.1.1
  have fin : ∀ v, v < 7 → v = fiN (twN (yN (sC s)) x y) (bdN n (nI 0) (nI 20)) 0 → ZV mdX7_two (d + 5) (fun v M' => ∃ r, v = some (.int r) ∧ (r = (sp_two x y n s).1 ∧ zIm M' (sp_two x y n s).2 ∧ ∀ k, k < 90 → M' k = M k)) 17 [some (.ref 90), some (.int x), some (.int y), some (.int n), none, none] [.int (-nI v)] M := by
    intro v hv hve
    refine zv_istore (pc' := 19) dX7_two_17 rfl (by decide) ?_
    refine zv_iload (pc' := 21) dX7_two_19 rfl rfl ?_
    refine zv_if_eq (pc' := 24) (tgt := 31) dX7_two_21 rfl rfl ?_ ?_
    · intro h
      have h0 := (neg_w0 _ hv).mp h
      rw [h0] at hve
      obtain ⟨g1, g2, -⟩ := fiN_0.mp hve.symm
      obtain ⟨a, b, ha, hb, hab, rfl, rfl⟩ := twoB_of hn8 (twN_0.mp g1)
      obtain ⟨n, -, hn2, rfl⟩ := isInB_of (by decide) (bdN_0.mp g2) (by decide)
      have ev : sp_two (nI a) (nI b) (nI n) s = (twV (zfst 4 0 (twB (sC s) a b n)), s) := by rw [sp_two, zans_0 hve.symm, pN_nI (by omega), pN_nI (by omega), pN_nI (by omega)]
      refine zv_aload_n (pc' := 32) dX7_two_31 rfl rfl ?_
      refine zv_iload_n (pc' := 33) dX7_two_32 rfl rfl ?_
      refine zv_iload_n (pc' := 34) dX7_two_33 rfl rfl ?_
      refine zv_iload_n (pc' := 35) dX7_two_34 rfl rfl ?_
      refine zv_cV3_fv (pc' := 38) dX7_two_35 rfl lkX7_294 (by first | rfl | assumption) rfl (Nat.le_of_ble_eq_true rfl) (x7_findTwo hI.1 hk.1 hI.2.1 ha hb hab (by omega)) ?_
      rintro M1 ⟨hw, ht⟩
      have hb9 : ∀ j q, yM (t2C (sC s) a b n j) q ≤ 99 := fun j q => (t2_n (n := n) (k := j) hk.1 ha hb hab).1.2.2.2.1 q
      have lp : ∀ r k, k + r = 4 → zfst r k (twB (sC s) a b n) = zfst 4 0 (twB (sC s) a b n) → ZV mdX7_two (d + 5) (fun v M' => ∃ r, v = some (.int r) ∧ (r = (sp_two (nI a) (nI b) (nI n) s).1 ∧ zIm M' (sp_two (nI a) (nI b) (nI n) s).2 ∧ ∀ k, k < 90 → M' k = M k)) 41 [some (.ref 90), some (.int (nI a)), some (.int (nI b)), some (.int (nI n)), none, some (.int (nI k))] [] M1 := by
        intro r
        induction r with
        | zero =>
          intro k e hz
          have e : k = 4 := by omega
          subst e
          refine zv_iload (pc' := 43) dX7_two_41 rfl rfl ?_
          refine zv_iconst (v := nI 4) (pc' := 44) dX7_two_43 rfl (by decide) ?_
          refine zv_icmp_ge (pc' := 47) (tgt := 116) dX7_two_44 rfl rfl (fun _ => ?_) (fun hcc => absurd (Int32.le_refl _) hcc)
          refine zv_bipush (v := (-9 : Int32)) (pc' := 118) dX7_two_116 rfl (by decide) ?_
          refine zv_iret dX7_two_118 rfl ?_
          exact zdonme (by rw [ev, ← hz]; rfl) hI ht
        | succ r ih =>
          intro k e hz
          have hk4 : k < 4 := by omega
          obtain ⟨x2, l2⟩ := tw2_x k hk4
          obtain ⟨x1, l1⟩ := tw1_x k hk4
          have w1 := (hw k hk4).1
          have w2 := (hw k hk4).2
          have w3 := (hw (tw2 k) l2).1
          have w4 := (hw (tw1 k) l1).2
          have b1 := hb9 k a
          have b2 := hb9 k b
          have b3 := hb9 (tw2 k) a
          have b4 := hb9 (tw1 k) b
          have nx : twB (sC s) a b n k = false → ZV mdX7_two (d + 5) (fun v M' => ∃ r, v = some (.int r) ∧ (r = (sp_two (nI a) (nI b) (nI n) s).1 ∧ zIm M' (sp_two (nI a) (nI b) (nI n) s).2 ∧ ∀ k, k < 90 → M' k = M k)) 110 [some (.ref 90), some (.int (nI a)), some (.int (nI b)), some (.int (nI n)), none, some (.int (nI k))] [] M1 := by
            intro hb
            rw [zfst, if_neg (by rw [hb]; decide)] at hz
            refine zv_iinc (w := nI 1) (pc' := 113) dX7_two_110 rfl rfl (by decide) (by decide) ?_
            refine zv_goto (pc' := 41) dX7_two_113 rfl ?_
            rw [nI_add]
            exact ih (k + 1) (by omega) hz
          refine zv_iload (pc' := 43) dX7_two_41 rfl rfl ?_
          refine zv_iconst (v := nI 4) (pc' := 44) dX7_two_43 rfl (by decide) ?_
          refine zv_icmp_ge (pc' := 47) (tgt := 116) dX7_two_44 rfl rfl (fun hcc => absurd hcc (nI_ge (by omega) (by omega))) (fun _ => ?_)
          refine zv_aload_n (pc' := 48) dX7_two_47 rfl rfl ?_
          refine zv_getR (pc' := 51) dX7_two_48 rfl flX7_59 (by first | rfl | assumption) rfl ?_
          refine zv_iconst (v := nI 2) (pc' := 52) dX7_two_51 rfl (by decide) ?_
          refine zv_iload (pc' := 54) dX7_two_52 rfl rfl ?_
          refine zv_iconst (v := nI 2) (pc' := 55) dX7_two_54 rfl (by decide) ?_
          refine zv_ixor (pc' := 56) dX7_two_55 rfl ?_
          refine zv_top x2 ?_
          refine zv_imul (pc' := 57) dX7_two_56 rfl ?_
          refine zv_top (pk_mul 2 (tw2 k)) ?_
          refine zv_ialoadE (pc' := 58) dX7_two_57 rfl (by first | rfl | assumption) (by decide) (by omega) (by first | exact w1 | exact w2 | exact w3 | exact w4 | rfl) ?_
          refine zv_aload_n (pc' := 59) dX7_two_58 rfl rfl ?_
          refine zv_getR (pc' := 62) dX7_two_59 rfl flX7_59 (by first | rfl | assumption) rfl ?_
          refine zv_iconst (v := nI 2) (pc' := 63) dX7_two_62 rfl (by decide) ?_
          refine zv_iload (pc' := 65) dX7_two_63 rfl rfl ?_
          refine zv_imul (pc' := 66) dX7_two_65 rfl ?_
          refine zv_top (pk_mul 2 k) ?_
          refine zv_ialoadE (pc' := 67) dX7_two_66 rfl (by first | rfl | assumption) (by decide) (by omega) (by first | exact w1 | exact w2 | exact w3 | exact w4 | rfl) ?_
          refine zv_icmp_gt (pc' := 70) (tgt := 110) dX7_two_67 rfl rfl ?_ ?_
          · intro h
            have h := (nI_ltI (by omega) (by omega)).mp h
            exact nx (by simp [twB]; omega)
          · intro h
            have h := mt (nI_ltI (a := yM (t2C (sC s) a b n k) a) (b := yM (t2C (sC s) a b n (tw2 k)) a) (by omega) (by omega)).mpr h
            refine zv_aload_n (pc' := 71) dX7_two_70 rfl rfl ?_
            refine zv_getR (pc' := 74) dX7_two_71 rfl flX7_59 (by first | rfl | assumption) rfl ?_
            refine zv_iconst (v := nI 2) (pc' := 75) dX7_two_74 rfl (by decide) ?_
            refine zv_iload (pc' := 77) dX7_two_75 rfl rfl ?_
            refine zv_iconst (v := nI 1) (pc' := 78) dX7_two_77 rfl (by decide) ?_
            refine zv_ixor (pc' := 79) dX7_two_78 rfl ?_
            refine zv_top x1 ?_
            refine zv_imul (pc' := 80) dX7_two_79 rfl ?_
            refine zv_top (pk_mul 2 (tw1 k)) ?_
            refine zv_iconst (v := nI 1) (pc' := 81) dX7_two_80 rfl (by decide) ?_
            refine zv_iadd (pc' := 82) dX7_two_81 rfl ?_
            refine zv_top (nI_add _ _) ?_
            refine zv_ialoadE (pc' := 83) dX7_two_82 rfl (by first | rfl | assumption) (by decide) (by omega) (by first | exact w1 | exact w2 | exact w3 | exact w4 | rfl) ?_
            refine zv_aload_n (pc' := 84) dX7_two_83 rfl rfl ?_
            refine zv_getR (pc' := 87) dX7_two_84 rfl flX7_59 (by first | rfl | assumption) rfl ?_
            refine zv_iconst (v := nI 2) (pc' := 88) dX7_two_87 rfl (by decide) ?_
            refine zv_iload (pc' := 90) dX7_two_88 rfl rfl ?_
            refine zv_imul (pc' := 91) dX7_two_90 rfl ?_
            refine zv_top (pk_mul 2 k) ?_
            refine zv_iconst (v := nI 1) (pc' := 92) dX7_two_91 rfl (by decide) ?_
            refine zv_iadd (pc' := 93) dX7_two_92 rfl ?_
            refine zv_top (nI_add _ _) ?_
            refine zv_ialoadE (pc' := 94) dX7_two_93 rfl (by first | rfl | assumption) (by decide) (by omega) (by first | exact w1 | exact w2 | exact w3 | exact w4 | rfl) ?_
            refine zv_icmp_gt (pc' := 97) (tgt := 110) dX7_two_94 rfl rfl ?_ ?_
            · intro h2
              have h2 := (nI_ltI (by omega) (by omega)).mp h2
              exact nx (by simp [twB]; omega)
            · intro h2
              have h2 := mt (nI_ltI (a := yM (t2C (sC s) a b n k) b) (b := yM (t2C (sC s) a b n (tw1 k)) b) (by omega) (by omega)).mpr h2
              have hb : twB (sC s) a b n k = true := by
                simp only [twB, Bool.and_eq_true, decide_eq_true_eq]; omega
              rw [zfst, if_pos hb] at hz
              refine zv_bipush (v := nI 10) (pc' := 99) dX7_two_97 rfl (by decide) ?_
              refine zv_iload (pc' := 101) dX7_two_99 rfl rfl ?_
              refine zv_iconst (v := nI 2) (pc' := 102) dX7_two_101 rfl (by decide) ?_
              refine zv_idiv (pc' := 103) dX7_two_102 rfl (by first | assumption | decide) ?_
              refine zv_top (pk_div (a := k) (d := 2) (by omega) (by omega) (by omega)) ?_
              refine zv_imul (pc' := 104) dX7_two_103 rfl ?_
              refine zv_top (pk_mul 10 (k / 2)) ?_
              refine zv_iload (pc' := 106) dX7_two_104 rfl rfl ?_
              refine zv_iconst (v := nI 2) (pc' := 107) dX7_two_106 rfl (by decide) ?_
              refine zv_irem (pc' := 108) dX7_two_107 rfl (by first | assumption | decide) ?_
              refine zv_top (pk_rem (a := k) (d := 2) (by omega) (by omega) (by omega)) ?_
              refine zv_iadd (pc' := 109) dX7_two_108 rfl ?_
              refine zv_top (nI_add _ _) ?_
              refine zv_iret dX7_two_109 rfl ?_
              exact zdonme (by rw [ev, ← hz]; rfl) hI ht
      refine zv_iconst (v := nI 0) (pc' := 39) dX7_two_38 rfl (by decide) ?_
      refine zv_istore (pc' := 41) dX7_two_39 rfl (by decide) ?_
      refine zv_fg [4] ?_
      exact lp 4 0 (by omega) rfl
    · intro h
      have h0 := mt (neg_w0 _ hv).mpr h
      refine zv_aload_n (pc' := 25) dX7_two_24 rfl rfl ?_
      refine zv_iload (pc' := 27) dX7_two_25 rfl rfl ?_
      refine zv_cV1_fi (pc' := 30) dX7_two_27 rfl lkX7_89 (by first | rfl | assumption) rfl (Nat.le_of_ble_eq_true rfl) (x7_no hv) ?_
      rintro r M1 ⟨rfl, rfl⟩
      refine zv_iret dX7_two_30 rfl ?_
      rw [sp_two, ← hve]
      exact zrefm hI h0
  refine zex_intro (L := [some (.ref 90), some (.int x), some (.int y), some (.int n), none, none]) (by decide) (Nat.le_of_ble_eq_true rfl) rfl ?_
  refine zv_aload_n (pc' := 1) dX7_two_0 rfl rfl ?_
  refine zv_iload_n (pc' := 2) dX7_two_1 rfl rfl ?_
  refine zv_iload_n (pc' := 3) dX7_two_2 rfl rfl ?_
  refine zv_cV2_pi (pc' := 6) dX7_two_3 rfl lkX7_119 (by first | rfl | assumption) rfl (Nat.le_of_ble_eq_true rfl) (x7_areTwo hN) ?_
  refine zv_if_ne (pc' := 9) (tgt := 13) dX7_two_6 rfl rfl ?_ ?_
  · intro h
    have g1 := twN_0.mpr (zb_ne.mp h)
    refine zv_iload_n (pc' := 14) dX7_two_13 rfl rfl ?_
    refine zv_cS1_pi (pc' := 17) dX7_two_14 rfl lkX7_229 (Nat.le_of_ble_eq_true rfl) (x7_notShort) ?_
    refine fin _ bdN_lt ?_
    rw [fiN, if_pos g1]
    split
    · assumption
    · rfl
  · intro h
    refine zv_iconst (v := (-1 : Int32)) (pc' := 10) dX7_two_9 rfl (by decide) ?_
    refine zv_goto (pc' := 17) dX7_two_10 rfl ?_
    refine zv_top (show (-1 : Int32) = -nI 1 by decide) ?_
    exact fin 1 (by decide) (by rw [twN, if_neg (by rw [zb_0.mp h]; decide)]; rfl)
theorem gx_two (x y n : Int32) : zGx mdX6_two (d + 4) [.int x, .int y, .int n] (sp_two x y n) := by
  intro M s hI hk
  have hn8 := hk.1.1
  have hA := hI.1
  refine zex_intro (L := [some (.ref 0), some (.int x), some (.int y), some (.int n), none, none]) (by decide) (Nat.le_of_ble_eq_true rfl) rfl ?_
  refine zv_aload_n (pc' := 1) dX6_two_0 rfl rfl ?_
  refine zv_iload_n (pc' := 2) dX6_two_1 rfl rfl ?_
  refine zv_iload_n (pc' := 3) dX6_two_2 rfl rfl ?_
  refine zv_cV2_pi (pc' := 6) dX6_two_3 rfl lkX6_138 (by first | rfl | assumption) rfl (Nat.le_of_ble_eq_true rfl) (x6_notTwo hA) ?_
  refine zv_iload_n (pc' := 7) dX6_two_6 rfl rfl ?_
  refine zv_iconst (v := nI 0) (pc' := 8) dX6_two_7 rfl (by decide) ?_
  refine zv_bipush (v := nI 20) (pc' := 10) dX6_two_8 rfl (by decide) ?_
  refine zv_cS3_pi (pc' := 13) dX6_two_10 rfl lkX6_73 (Nat.le_of_ble_eq_true rfl) (x6_outside) ?_
  refine zv_iconst (v := nI 0) (pc' := 14) dX6_two_13 rfl (by decide) ?_
  refine zv_top (show nI 0 = -nI 0 by decide) ?_
  refine zv_cS3_pi (pc' := 17) dX6_two_14 rfl lkX6_81 (Nat.le_of_ble_eq_true rfl) (x6_firstOf twN_lt bdN_lt) ?_
  have hw := fiN_lt (twN_lt (n := yN (sC s)) (x := x) (y := y)) (bdN_lt (x := n) (lo := nI 0) (hi := nI 20)) (by decide : 0 < 7)
  refine zv_istore (pc' := 19) dX6_two_17 rfl (by decide) ?_
  refine zv_iload (pc' := 21) dX6_two_19 rfl rfl ?_
  refine zv_if_eq (pc' := 24) (tgt := 31) dX6_two_21 rfl rfl ?_ ?_
  · intro h
    have h0 := (neg_w0 _ hw).mp h
    obtain ⟨g1, g2, -⟩ := fiN_0.mp h0
    obtain ⟨a, b, ha, hb, hab, rfl, rfl⟩ := twoB_of hn8 (twN_0.mp g1)
    obtain ⟨n, -, hn2, rfl⟩ := isInB_of (by decide) (bdN_0.mp g2) (by decide)
    have ev : sp_two (nI a) (nI b) (nI n) s = (twV (zfst 4 0 (twB (sC s) a b n)), s) := by rw [sp_two, zans_0 h0, pN_nI (by omega), pN_nI (by omega), pN_nI (by omega)]
    have hb9 : ∀ j q, yM (t2C (sC s) a b n j) q ≤ 99 := fun j q => (t2_n (n := n) (k := j) hk.1 ha hb hab).1.2.2.2.1 q
    have l2 : ∀ M1, zScr M M1 → (∀ j, j < 4 → M1 88 j = nI (yM (t2C (sC s) a b n j) a) ∧ M1 89 j = nI (yM (t2C (sC s) a b n j) b)) → ∀ r k, k + r = 4 → zfst r k (twB (sC s) a b n) = zfst 4 0 (twB (sC s) a b n) → ZV mdX6_two (d + 4) (fun v M' => ∃ r, v = some (.int r) ∧ (r = (sp_two (nI a) (nI b) (nI n) s).1 ∧ zIx M' (sp_two (nI a) (nI b) (nI n) s).2 ∧ zSame 0 90 M M')) 145 [some (.ref 0), some (.int (nI a)), some (.int (nI b)), some (.int (nI n)), none, some (.int (nI k))] [] M1 := by
      intro M1 ht hw r
      induction r with
      | zero =>
        intro k e hz
        have e : k = 4 := by omega
        subst e
        refine zv_iload (pc' := 147) dX6_two_145 rfl rfl ?_
        refine zv_iconst (v := nI 4) (pc' := 148) dX6_two_147 rfl (by decide) ?_
        refine zv_icmp_ge (pc' := 151) (tgt := 208) dX6_two_148 rfl rfl (fun _ => ?_) (fun hcc => absurd (Int32.le_refl _) hcc)
        refine zv_bipush (v := (-9 : Int32)) (pc' := 210) dX6_two_208 rfl (by decide) ?_
        refine zv_iret dX6_two_210 rfl ?_
        exact zdonq (by rw [ev, ← hz]; rfl) hI ht
      | succ r ih =>
        intro k e hz
        have hk4 : k < 4 := by omega
        obtain ⟨x2, l2⟩ := tw2_x k hk4
        obtain ⟨x1, l1⟩ := tw1_x k hk4
        have w1 := (hw k hk4).1
        have w2 := (hw k hk4).2
        have w3 := (hw (tw2 k) l2).1
        have w4 := (hw (tw1 k) l1).2
        have b1 := hb9 k a
        have b2 := hb9 k b
        have b3 := hb9 (tw2 k) a
        have b4 := hb9 (tw1 k) b
        have nx : twB (sC s) a b n k = false → ZV mdX6_two (d + 4) (fun v M' => ∃ r, v = some (.int r) ∧ (r = (sp_two (nI a) (nI b) (nI n) s).1 ∧ zIx M' (sp_two (nI a) (nI b) (nI n) s).2 ∧ zSame 0 90 M M')) 202 [some (.ref 0), some (.int (nI a)), some (.int (nI b)), some (.int (nI n)), none, some (.int (nI k))] [] M1 := by
          intro hb
          rw [zfst, if_neg (by rw [hb]; decide)] at hz
          refine zv_iinc (w := nI 1) (pc' := 205) dX6_two_202 rfl rfl (by decide) (by decide) ?_
          refine zv_goto (pc' := 145) dX6_two_205 rfl ?_
          rw [nI_add]
          exact ih (k + 1) (by omega) hz
        refine zv_iload (pc' := 147) dX6_two_145 rfl rfl ?_
        refine zv_iconst (v := nI 4) (pc' := 148) dX6_two_147 rfl (by decide) ?_
        refine zv_icmp_ge (pc' := 151) (tgt := 208) dX6_two_148 rfl rfl (fun hcc => absurd hcc (nI_ge (by omega) (by omega))) (fun _ => ?_)
        refine zv_aload_n (pc' := 152) dX6_two_151 rfl rfl ?_
        refine zv_getR (pc' := 155) dX6_two_152 rfl flX6_67 (by first | rfl | assumption) rfl ?_
        refine zv_iload (pc' := 157) dX6_two_155 rfl rfl ?_
        refine zv_ialoadE (pc' := 158) dX6_two_157 rfl (by first | rfl | assumption) (by decide) (by omega) (by first | exact w1 | exact w2 | exact w3 | exact w4 | rfl) ?_
        refine zv_aload_n (pc' := 159) dX6_two_158 rfl rfl ?_
        refine zv_getR (pc' := 162) dX6_two_159 rfl flX6_67 (by first | rfl | assumption) rfl ?_
        refine zv_iload (pc' := 164) dX6_two_162 rfl rfl ?_
        refine zv_iconst (v := nI 2) (pc' := 165) dX6_two_164 rfl (by decide) ?_
        refine zv_ixor (pc' := 166) dX6_two_165 rfl ?_
        refine zv_top x2 ?_
        refine zv_ialoadE (pc' := 167) dX6_two_166 rfl (by first | rfl | assumption) (by decide) (by omega) (by first | exact w1 | exact w2 | exact w3 | exact w4 | rfl) ?_
        refine zv_icmp_lt (pc' := 170) (tgt := 202) dX6_two_167 rfl rfl ?_ ?_
        · intro h
          have h := (nI_ltI (by omega) (by omega)).mp h
          exact nx (by simp [twB]; omega)
        · intro h
          have h := mt (nI_ltI (a := yM (t2C (sC s) a b n k) a) (b := yM (t2C (sC s) a b n (tw2 k)) a) (by omega) (by omega)).mpr h
          refine zv_aload_n (pc' := 171) dX6_two_170 rfl rfl ?_
          refine zv_getR (pc' := 174) dX6_two_171 rfl flX6_70 (by first | rfl | assumption) rfl ?_
          refine zv_iload (pc' := 176) dX6_two_174 rfl rfl ?_
          refine zv_ialoadE (pc' := 177) dX6_two_176 rfl (by first | rfl | assumption) (by decide) (by omega) (by first | exact w1 | exact w2 | exact w3 | exact w4 | rfl) ?_
          refine zv_aload_n (pc' := 178) dX6_two_177 rfl rfl ?_
          refine zv_getR (pc' := 181) dX6_two_178 rfl flX6_70 (by first | rfl | assumption) rfl ?_
          refine zv_iload (pc' := 183) dX6_two_181 rfl rfl ?_
          refine zv_iconst (v := nI 1) (pc' := 184) dX6_two_183 rfl (by decide) ?_
          refine zv_ixor (pc' := 185) dX6_two_184 rfl ?_
          refine zv_top x1 ?_
          refine zv_ialoadE (pc' := 186) dX6_two_185 rfl (by first | rfl | assumption) (by decide) (by omega) (by first | exact w1 | exact w2 | exact w3 | exact w4 | rfl) ?_
          refine zv_icmp_lt (pc' := 189) (tgt := 202) dX6_two_186 rfl rfl ?_ ?_
          · intro h2
            have h2 := (nI_ltI (by omega) (by omega)).mp h2
            exact nx (by simp [twB]; omega)
          · intro h2
            have h2 := mt (nI_ltI (a := yM (t2C (sC s) a b n k) b) (b := yM (t2C (sC s) a b n (tw1 k)) b) (by omega) (by omega)).mpr h2
            have hb : twB (sC s) a b n k = true := by
              simp only [twB, Bool.and_eq_true, decide_eq_true_eq]; omega
            rw [zfst, if_pos hb] at hz
            refine zv_bipush (v := nI 10) (pc' := 191) dX6_two_189 rfl (by decide) ?_
            refine zv_iload (pc' := 193) dX6_two_191 rfl rfl ?_
            refine zv_iconst (v := nI 2) (pc' := 194) dX6_two_193 rfl (by decide) ?_
            refine zv_idiv (pc' := 195) dX6_two_194 rfl (by first | assumption | decide) ?_
            refine zv_top (pk_div (a := k) (d := 2) (by omega) (by omega) (by omega)) ?_
            refine zv_imul (pc' := 196) dX6_two_195 rfl ?_
            refine zv_top (pk_mul 10 (k / 2)) ?_
            refine zv_iload (pc' := 198) dX6_two_196 rfl rfl ?_
            refine zv_iconst (v := nI 2) (pc' := 199) dX6_two_198 rfl (by decide) ?_
            refine zv_irem (pc' := 200) dX6_two_199 rfl (by first | assumption | decide) ?_
            refine zv_top (pk_rem (a := k) (d := 2) (by omega) (by omega) (by omega)) ?_
            refine zv_iadd (pc' := 201) dX6_two_200 rfl ?_
            refine zv_top (nI_add _ _) ?_
            refine zv_iret dX6_two_201 rfl ?_
            exact zdonq (by rw [ev, ← hz]; rfl) hI ht
    have l1 : ∀ r k M1, k + r = 4 → zScr M M1 → (∀ j, j < k → M1 88 j = nI (yM (t2C (sC s) a b n j) a) ∧ M1 89 j = nI (yM (t2C (sC s) a b n j) b)) → ZV mdX6_two (d + 4) (fun v M' => ∃ r, v = some (.int r) ∧ (r = (sp_two (nI a) (nI b) (nI n) s).1 ∧ zIx M' (sp_two (nI a) (nI b) (nI n) s).2 ∧ zSame 0 90 M M')) 34 [some (.ref 0), some (.int (nI a)), some (.int (nI b)), some (.int (nI n)), none, some (.int (nI k))] [] M1 := by
      intro r
      induction r with
      | zero =>
        intro k M1 e ht hw
        have e : k = 4 := by omega
        subst e
        refine zv_iload (pc' := 36) dX6_two_34 rfl rfl ?_
        refine zv_iconst (v := nI 4) (pc' := 37) dX6_two_36 rfl (by decide) ?_
        refine zv_icmp_ge (pc' := 40) (tgt := 142) dX6_two_37 rfl rfl (fun _ => ?_) (fun hcc => absurd (Int32.le_refl _) hcc)
        refine zv_iconst (v := nI 0) (pc' := 143) dX6_two_142 rfl (by decide) ?_
        refine zv_istore (pc' := 145) dX6_two_143 rfl (by decide) ?_
        exact l2 M1 ht hw 4 0 (by omega) rfl
      | succ r ih =>
        intro k M1 e ht hw
        have hk4 : k < 4 := by omega
        have hA1 := (hI.scr ht).1
        refine zv_iload (pc' := 36) dX6_two_34 rfl rfl ?_
        refine zv_iconst (v := nI 4) (pc' := 37) dX6_two_36 rfl (by decide) ?_
        refine zv_icmp_ge (pc' := 40) (tgt := 142) dX6_two_37 rfl rfl (fun hcc => absurd hcc (nI_ge (by omega) (by omega))) (fun _ => ?_)
        refine zv_aload_n (pc' := 41) dX6_two_40 rfl rfl ?_
        refine zv_getR (pc' := 44) dX6_two_41 rfl flX6_19 (by first | rfl | assumption) rfl ?_
        refine zv_aload_n (pc' := 45) dX6_two_44 rfl rfl ?_
        refine zv_getR (pc' := 48) dX6_two_45 rfl flX6_10 (by first | rfl | assumption) rfl ?_
        refine zv_cV1_fv (pc' := 51) dX6_two_48 rfl lkX6_100 (by first | rfl | assumption) rfl (Nat.le_of_ble_eq_true rfl) (x0_become zCy13 zCy1 hA1 (by omega)) ?_
        rintro M2 ⟨h2, s2⟩
        have B : ∀ M3, zSame 13 19 M1 M3 → zAt M3 13 (signC (sC s) a b (decide (2 ≤ k))) → ∀ v, v = zb (decide (k % 2 = 1)) → ZV mdX6_two (d + 4) (fun v M' => ∃ r, v = some (.int r) ∧ (r = (sp_two (nI a) (nI b) (nI n) s).1 ∧ zIx M' (sp_two (nI a) (nI b) (nI n) s).2 ∧ zSame 0 90 M M')) 91 [some (.ref 0), some (.int (nI a)), some (.int (nI b)), some (.int (nI n)), none, some (.int (nI k))] [.int v, .int (nI a), .int (nI b), .ref 13] M3 := by
          intro M3 s3 h3 v hv
          subst hv
          refine zv_cV3_fi (pc' := 94) dX6_two_91 rfl lkX6_259 (by first | rfl | assumption) rfl (Nat.le_of_ble_eq_true rfl) (x0_setSigning (c := signC (sC s) a b (decide (2 ≤ k))) zCy13 h3 hn8 hb ha (Ne.symm hab)) ?_
          rintro r4 M4 ⟨-, h4, s4⟩
          refine zv_pop (pc' := 95) dX6_two_94 rfl rfl ?_
          refine zv_aload_n (pc' := 96) dX6_two_95 rfl rfl ?_
          refine zv_getR (pc' := 99) dX6_two_96 rfl flX6_19 (by first | rfl | assumption) rfl ?_
          refine zv_iload_n (pc' := 100) dX6_two_99 rfl rfl ?_
          refine zv_cV1_fi (pc' := 103) dX6_two_100 rfl lkX6_168 (by first | rfl | assumption) rfl (Nat.le_of_ble_eq_true rfl) (x0_passYears zCy13 h4 (t2_ok (n := n) hk.1 ha hb hab) (by omega)) ?_
          rintro r5 M5 ⟨-, h5, s5⟩
          have s15 : zSame 13 19 M1 M5 := s3.tr (s4.tr s5)
          have hM := h5.2.2.2.2.1
          refine zv_pop (pc' := 104) dX6_two_103 rfl rfl ?_
          refine zv_aload_n (pc' := 105) dX6_two_104 rfl rfl ?_
          refine zv_getR (pc' := 108) dX6_two_105 rfl flX6_67 (by first | rfl | assumption) rfl ?_
          refine zv_iload (pc' := 110) dX6_two_108 rfl rfl ?_
          refine zv_aload_n (pc' := 111) dX6_two_110 rfl rfl ?_
          refine zv_getR (pc' := 114) dX6_two_111 rfl flX6_19 (by first | rfl | assumption) rfl ?_
          refine zv_getR (pc' := 117) dX6_two_114 rfl flX6_124 (by first | rfl | assumption) rfl ?_
          refine zv_iload_n (pc' := 118) dX6_two_117 rfl rfl ?_
          refine zv_ialoadE (pc' := 119) dX6_two_118 rfl (by first | rfl | assumption) (by decide) (by omega) (by first | exact hM _ (by omega) | rfl) ?_
          refine zv_iastoreN (pc' := 120) dX6_two_119 rfl (by first | rfl | assumption) (by decide) (by omega) ?_
          have hM6 : ∀ j, j < 8 → zup M5 88 k (nI (yM (yearsC n (signC (signC (sC s) a b (decide (2 ≤ k))) b a (decide (k % 2 = 1)))) a)) 16 j = nI (yM (yearsC n (signC (signC (sC s) a b (decide (2 ≤ k))) b a (decide (k % 2 = 1)))) j) := by rw [zup_ne (by decide)]; exact hM
          refine zv_aload_n (pc' := 121) dX6_two_120 rfl rfl ?_
          refine zv_getR (pc' := 124) dX6_two_121 rfl flX6_70 (by first | rfl | assumption) rfl ?_
          refine zv_iload (pc' := 126) dX6_two_124 rfl rfl ?_
          refine zv_aload_n (pc' := 127) dX6_two_126 rfl rfl ?_
          refine zv_getR (pc' := 130) dX6_two_127 rfl flX6_19 (by first | rfl | assumption) rfl ?_
          refine zv_getR (pc' := 133) dX6_two_130 rfl flX6_124 (by first | rfl | assumption) rfl ?_
          refine zv_iload_n (pc' := 134) dX6_two_133 rfl rfl ?_
          refine zv_ialoadE (pc' := 135) dX6_two_134 rfl (by first | rfl | assumption) (by decide) (by omega) (by first | exact hM6 _ (by omega) | rfl) ?_
          refine zv_iastoreN (pc' := 136) dX6_two_135 rfl (by first | rfl | assumption) (by decide) (by omega) ?_
          refine zv_iinc (w := nI 1) (pc' := 139) dX6_two_136 rfl rfl (by decide) (by decide) ?_
          refine zv_goto (pc' := 34) dX6_two_139 rfl ?_
          rw [nI_add]
          refine ih (k + 1) _ (by omega) (ht.tr ((zScr.same s15 (by omega)).tr ((zScr.up (by omega)).tr (zScr.up (by omega))))) (fun j hj => ?_)
          by_cases ej : j = k
          · subst ej
            rw [zup_ne (by decide), zup_eq, upd_s, zup_eq, upd_s]
            exact ⟨rfl, rfl⟩
          · rw [zup_ne (by decide), zup_eq, upd_n ej, zup_eq, upd_n ej, zup_ne (by decide), s15 88 (by omega), s15 89 (by omega)]
            exact hw j (by omega)
        have A : ∀ v, v = zb (decide (2 ≤ k)) → ZV mdX6_two (d + 4) (fun v M' => ∃ r, v = some (.int r) ∧ (r = (sp_two (nI a) (nI b) (nI n) s).1 ∧ zIx M' (sp_two (nI a) (nI b) (nI n) s).2 ∧ zSame 0 90 M M')) 68 [some (.ref 0), some (.int (nI a)), some (.int (nI b)), some (.int (nI n)), none, some (.int (nI k))] [.int v, .int (nI b), .int (nI a), .ref 13] M2 := by
          intro v hv
          subst hv
          refine zv_cV3_fi (pc' := 71) dX6_two_68 rfl lkX6_259 (by first | rfl | assumption) rfl (Nat.le_of_ble_eq_true rfl) (x0_setSigning zCy13 h2 hn8 ha hb hab) ?_
          rintro r3 M3 ⟨-, h3, s3⟩
          refine zv_pop (pc' := 72) dX6_two_71 rfl rfl ?_
          refine zv_aload_n (pc' := 73) dX6_two_72 rfl rfl ?_
          refine zv_getR (pc' := 76) dX6_two_73 rfl flX6_19 (by first | rfl | assumption) rfl ?_
          refine zv_iload_n (pc' := 77) dX6_two_76 rfl rfl ?_
          refine zv_iload_n (pc' := 78) dX6_two_77 rfl rfl ?_
          refine zv_iload (pc' := 80) dX6_two_78 rfl rfl ?_
          refine zv_iconst (v := nI 2) (pc' := 81) dX6_two_80 rfl (by decide) ?_
          refine zv_irem (pc' := 82) dX6_two_81 rfl (by first | assumption | decide) ?_
          refine zv_top (pk_rem (a := k) (d := 2) (by omega) (by omega) (by omega)) ?_
          refine zv_iconst (v := nI 1) (pc' := 83) dX6_two_82 rfl (by decide) ?_
          refine zv_icmp_ne (pc' := 86) (tgt := 90) dX6_two_83 rfl rfl ?_ ?_
          · intro h
            have h := mt (fun z => (nI_eq (a := k % 2) (b := 1) (by omega) (by decide)).mpr z) h
            refine zv_iconst (v := nI 0) (pc' := 91) dX6_two_90 rfl (by decide) ?_
            exact B M3 (s2.tr s3) h3 _ (by rw [show decide (k % 2 = 1) = false from by simpa using h]; rfl)
          · intro h
            have h := (nI_eq (a := k % 2) (b := 1) (by omega) (by decide)).mp h
            refine zv_iconst (v := nI 1) (pc' := 87) dX6_two_86 rfl (by decide) ?_
            refine zv_goto (pc' := 91) dX6_two_87 rfl ?_
            exact B M3 (s2.tr s3) h3 _ (by rw [show decide (k % 2 = 1) = true from by simpa using h]; rfl)
        refine zv_aload_n (pc' := 52) dX6_two_51 rfl rfl ?_
        refine zv_getR (pc' := 55) dX6_two_52 rfl flX6_19 (by first | rfl | assumption) rfl ?_
        refine zv_iload_n (pc' := 56) dX6_two_55 rfl rfl ?_
        refine zv_iload_n (pc' := 57) dX6_two_56 rfl rfl ?_
        refine zv_iload (pc' := 59) dX6_two_57 rfl rfl ?_
        refine zv_iconst (v := nI 2) (pc' := 60) dX6_two_59 rfl (by decide) ?_
        refine zv_icmp_lt (pc' := 63) (tgt := 67) dX6_two_60 rfl rfl ?_ ?_
        · intro h
          have h := (nI_ltI (by omega) (by omega)).mp h
          refine zv_iconst (v := nI 0) (pc' := 68) dX6_two_67 rfl (by decide) ?_
          exact A _ (by rw [show decide (2 ≤ k) = false from by simp; omega]; rfl)
        · intro h
          have h := mt (nI_ltI (a := k) (b := 2) (by omega) (by omega)).mpr h
          refine zv_iconst (v := nI 1) (pc' := 64) dX6_two_63 rfl (by decide) ?_
          refine zv_goto (pc' := 68) dX6_two_64 rfl ?_
          exact A _ (by rw [show decide (2 ≤ k) = true from by simp; omega]; rfl)
    refine zv_iconst (v := nI 0) (pc' := 32) dX6_two_31 rfl (by decide) ?_
    refine zv_istore (pc' := 34) dX6_two_32 rfl (by decide) ?_
    refine zv_fg [4] ?_
    exact l1 4 0 M (by omega) zScr.rf (fun j hj => by omega)
  · intro h
    have h0 := mt (neg_w0 _ hw).mpr h
    refine zv_aload_n (pc' := 25) dX6_two_24 rfl rfl ?_
    refine zv_iload (pc' := 27) dX6_two_25 rfl rfl ?_
    refine zv_cV1_fi (pc' := 30) dX6_two_27 rfl lkX6_84 (by first | rfl | assumption) rfl (Nat.le_of_ble_eq_true rfl) (x6_refuse hw h0) ?_
    rintro r M1 ⟨rfl, rfl⟩
    refine zv_iret dX6_two_30 rfl ?_
    exact zrefx hI h0
end
