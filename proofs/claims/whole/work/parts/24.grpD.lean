/-! peace, will, matters, clan -/
def pcB (c : ZCty) (a b : Nat) : Bool := decide (a < b) && decide (b < yN c) && (yX c a b && yS c a b && yS c b a)
def sp_peace (s : ZS) : Int32 × ZS := (optI (zfst 80 0 (fun k => pcB (sC s) (k / 10) (k % 10))), s)
def wlV (c : ZCty) (p q : Nat) : Int32 := if kinB c p q = true then nI (yM c p / zcn 8 (kinB c p) + (if zcn 8 (fun j => kinB c p j && decide (j < q)) < yM c p % zcn 8 (kinB c p) then 1 else 0)) else -9
def sp_will (x y : Int32) (s : ZS) : Int32 × ZS := zans (twN (yN (sC s)) x y) s (wlV (sC s) (pN x) (pN y)) s
def mtV (c : ZCty) (p : Nat) : Int32 := nI (kinN c) - nI (zcn 8 (kinB c p))
def mtS (c : ZCty) : Nat → Option Nat × Int32
  | 0 => (none, -9)
  | k + 1 => if (mtS c k).1 = none ∨ mtV c k < (mtS c k).2 then (some k, mtV c k) else mtS c k
def mtW (q : Option Nat × Int32) : Nat → Int32
  | 0 => optI q.1
  | _ => q.2
def sp_matters (x : Int32) (s : ZS) : Int32 × ZS := zans (otN x 1) s (mtW (mtS (sC s) (yN (sC s))) (pN x)) s
def pop8 (v : Nat) : Nat := zcn 8 (fun j => v.testBit j)
def clanB (c : ZCty) (v : Nat) : Bool := zall (yN c) (fun p => !v.testBit p || zall 8 (fun j => !v.testBit j || decide (j = p) || kinB c p j))
def clS (c : ZCty) : Nat → Nat
  | 0 => 0
  | k + 1 => if pop8 (clS c k) < pop8 k ∧ clanB c k = true then k else clS c k
def clW (v : Nat) : Nat → Int32
  | 0 => nI v
  | _ => nI (pop8 v)
def sp_clan (x : Int32) (s : ZS) : Int32 × ZS := zans (otN x 1) s (clW (clS (sC s) (2 ^ yN (sC s))) (pN x)) s
theorem clS_lt {c : ZCty} : ∀ {k : Nat}, k ≤ 256 → clS c k < 256
  | 0, _ => by simp [clS]
  | k + 1, h => by
    rw [clS]
    split
    · omega
    · exact clS_lt (by omega)
theorem zm_bits {v : Nat} (hv : v < 256) : zm 8 (fun j => v.testBit j) = v := by
  apply Nat.eq_of_testBit_eq
  intro j
  rw [zm_tb]
  by_cases hj : j < 8
  · simp [hj]
  · have : v.testBit j = false := Nat.testBit_lt_two_pow (Nat.lt_of_lt_of_le hv (show 2 ^ 8 ≤ 2 ^ j from Nat.pow_le_pow_right (by decide) (by omega)))
    simp [hj, this]
theorem zm_inj {f g : Nat → Bool} {k : Nat} (h : zm k f = zm k g) : ∀ j, j < k → f j = g j := by
  intro j hj
  have h1 := zm_tb f j k
  have h2 := zm_tb g j k
  rw [h, h2] at h1
  simp [hj] at h1
  exact h1.symm
theorem low_mask : ∀ q, q < 8 → nI (2 ^ q) - nI 1 = nI (zm 8 (fun j => decide (j < q))) := by decide +kernel
theorem zcn_pos {f : Nat → Bool} {q : Nat} (hf : f q = true) : ∀ {k : Nat}, q < k → 0 < zcn k f
  | 0, h => by omega
  | k + 1, h => by
    rw [zcn]
    by_cases e : q = k
    · rw [← e, if_pos hf]; omega
    · have := zcn_pos hf (k := k) (by omega); omega
theorem not_and' {a b c : Bool} : (a && b && c) = false ↔ a = false ∨ b = false ∨ c = false := by cases a <;> cases b <;> cases c <;> simp
section
variable {d : Nat}
theorem gx_peace : zGx mdX6_peace (d + 3) [] sp_peace := by
  intro M s hI hk
  have hn := hk.1.1
  have hA := hI.1
  have hN := hI.1.1
  have ev : ∀ k, k < 80 → pcB (sC s) (k / 10) (k % 10) = true → (∀ j, j < k → pcB (sC s) (j / 10) (j % 10) = false) → sp_peace s = (nI k, s) := by
    intro k h1 h2 h3
    rw [sp_peace, zfst_some.mpr ⟨Nat.zero_le k, by omega, h2, fun j _ hj => h3 j hj⟩]
    rfl
  have lp : ∀ r a, a + r = yN (sC s) → (∀ j, j < 10 * a → pcB (sC s) (j / 10) (j % 10) = false) → ZV mdX6_peace (d + 3) (fun v M' => ∃ r, v = some (.int r) ∧ (r = (sp_peace s).1 ∧ zIx M' (sp_peace s).2 ∧ zSame 0 90 M M')) 2 [some (.ref 0), some (.int (nI a)), none] [] M := by
    intro r
    induction r with
    | zero =>
      intro a e hno
      have e : a = yN (sC s) := by omega
      subst e
      refine zv_iload_n (pc' := 3) dX6_peace_2 rfl rfl ?_
      refine zv_aload_n (pc' := 4) dX6_peace_3 rfl rfl ?_
      refine zv_getR (pc' := 7) dX6_peace_4 rfl flX6_10 (by first | rfl | assumption) rfl ?_
      refine zv_getIE (pc' := 10) dX6_peace_7 rfl flX6_186 (by first | rfl | assumption) rfl (by first | exact hN | rfl) ?_
      refine zv_icmp_ge (pc' := 13) (tgt := 83) dX6_peace_10 rfl rfl (fun _ => ?_) (fun hcc => absurd (Int32.le_refl _) hcc)
      refine zv_bipush (v := (-9 : Int32)) (pc' := 85) dX6_peace_83 rfl (by decide) ?_
      refine zv_iret dX6_peace_85 rfl ?_
      refine zdonq ?_ hI zScr.rf
      rw [sp_peace, zfst_none.mpr (fun j _ hj => ?_)]
      · rfl
      · rcases Nat.lt_or_ge j (10 * yN (sC s)) with h | h
        · exact hno j h
        · unfold pcB
          have : ¬ (j / 10 < j % 10 ∧ j % 10 < yN (sC s)) := by omega
          rw [show (decide (j / 10 < j % 10) && decide (j % 10 < yN (sC s))) = false from by simpa using this]
          rfl
    | succ r ih =>
      intro a e hno
      have inner : ∀ r2 b, b + r2 = yN (sC s) → a < b → (∀ j, j < 10 * a + b → pcB (sC s) (j / 10) (j % 10) = false) → ZV mdX6_peace (d + 3) (fun v M' => ∃ r, v = some (.int r) ∧ (r = (sp_peace s).1 ∧ zIx M' (sp_peace s).2 ∧ zSame 0 90 M M')) 17 [some (.ref 0), some (.int (nI a)), some (.int (nI b))] [] M := by
        intro r2
        induction r2 with
        | zero =>
          intro b eb hab hno2
          have eb : b = yN (sC s) := by omega
          subst eb
          refine zv_iload_n (pc' := 18) dX6_peace_17 rfl rfl ?_
          refine zv_aload_n (pc' := 19) dX6_peace_18 rfl rfl ?_
          refine zv_getR (pc' := 22) dX6_peace_19 rfl flX6_10 (by first | rfl | assumption) rfl ?_
          refine zv_getIE (pc' := 25) dX6_peace_22 rfl flX6_186 (by first | rfl | assumption) rfl (by first | exact hN | rfl) ?_
          refine zv_icmp_ge (pc' := 28) (tgt := 77) dX6_peace_25 rfl rfl (fun _ => ?_) (fun hcc => absurd (Int32.le_refl _) hcc)
          refine zv_iinc (w := nI 1) (pc' := 80) dX6_peace_77 rfl rfl (by decide) (by decide) ?_
          refine zv_goto (pc' := 2) dX6_peace_80 rfl ?_
          refine zv_fg [2] ?_
          rw [nI_add]
          refine ih (a + 1) (by omega) (fun j hj => ?_)
          rcases Nat.lt_or_ge j (10 * a + yN (sC s)) with h | h
          · exact hno2 j h
          · unfold pcB
            have : ¬ (j / 10 < j % 10 ∧ j % 10 < yN (sC s)) := by omega
            rw [show (decide (j / 10 < j % 10) && decide (j % 10 < yN (sC s))) = false from by simpa using this]
            rfl
        | succ r2 ih2 =>
          intro b eb hab hno2
          have hdiv : (10 * a + b) / 10 = a ∧ (10 * a + b) % 10 = b := by omega
          have next : pcB (sC s) a b = false → ZV mdX6_peace (d + 3) (fun v M' => ∃ r, v = some (.int r) ∧ (r = (sp_peace s).1 ∧ zIx M' (sp_peace s).2 ∧ zSame 0 90 M M')) 71 [some (.ref 0), some (.int (nI a)), some (.int (nI b))] [] M := by
            intro hb
            refine zv_iinc (w := nI 1) (pc' := 74) dX6_peace_71 rfl rfl (by decide) (by decide) ?_
            refine zv_goto (pc' := 17) dX6_peace_74 rfl ?_
            rw [nI_add]
            refine ih2 (b + 1) (by omega) (by omega) (fun j hj => ?_)
            by_cases ej : j = 10 * a + b
            · rw [ej, hdiv.1, hdiv.2]; exact hb
            · exact hno2 j (by omega)
          refine zv_iload_n (pc' := 18) dX6_peace_17 rfl rfl ?_
          refine zv_aload_n (pc' := 19) dX6_peace_18 rfl rfl ?_
          refine zv_getR (pc' := 22) dX6_peace_19 rfl flX6_10 (by first | rfl | assumption) rfl ?_
          refine zv_getIE (pc' := 25) dX6_peace_22 rfl flX6_186 (by first | rfl | assumption) rfl (by first | exact hN | rfl) ?_
          refine zv_icmp_ge (pc' := 28) (tgt := 77) dX6_peace_25 rfl rfl (fun hcc => absurd hcc (nI_ge (by omega) (by omega))) (fun _ => ?_)
          refine zv_aload_n (pc' := 29) dX6_peace_28 rfl rfl ?_
          refine zv_getR (pc' := 32) dX6_peace_29 rfl flX6_10 (by first | rfl | assumption) rfl ?_
          refine zv_iload_n (pc' := 33) dX6_peace_32 rfl rfl ?_
          refine zv_iload_n (pc' := 34) dX6_peace_33 rfl rfl ?_
          refine zv_cV2_pi (pc' := 37) dX6_peace_34 rfl lkX6_149 (by first | rfl | assumption) rfl (Nat.le_of_ble_eq_true rfl) (x0_atFeud zCy1 hA hn (by omega) (by omega) (by omega)) ?_
          refine zv_if_eq (pc' := 40) (tgt := 71) dX6_peace_37 rfl rfl ?_ ?_
          · intro h
            exact next (by simp [pcB, zb_0.mp h])
          · intro h
            refine zv_aload_n (pc' := 41) dX6_peace_40 rfl rfl ?_
            refine zv_getR (pc' := 44) dX6_peace_41 rfl flX6_10 (by first | rfl | assumption) rfl ?_
            refine zv_iload_n (pc' := 45) dX6_peace_44 rfl rfl ?_
            refine zv_iload_n (pc' := 46) dX6_peace_45 rfl rfl ?_
            refine zv_cV2_pi (pc' := 49) dX6_peace_46 rfl lkX6_141 (by first | rfl | assumption) rfl (Nat.le_of_ble_eq_true rfl) (x0_hasSigned zCy1 hA hn (by omega) (by omega) (by omega)) ?_
            refine zv_if_eq (pc' := 52) (tgt := 71) dX6_peace_49 rfl rfl ?_ ?_
            · intro h2
              exact next (by simp [pcB, zb_0.mp h2])
            · intro h2
              refine zv_aload_n (pc' := 53) dX6_peace_52 rfl rfl ?_
              refine zv_getR (pc' := 56) dX6_peace_53 rfl flX6_10 (by first | rfl | assumption) rfl ?_
              refine zv_iload_n (pc' := 57) dX6_peace_56 rfl rfl ?_
              refine zv_iload_n (pc' := 58) dX6_peace_57 rfl rfl ?_
              refine zv_cV2_pi (pc' := 61) dX6_peace_58 rfl lkX6_141 (by first | rfl | assumption) rfl (Nat.le_of_ble_eq_true rfl) (x0_hasSigned zCy1 hA hn (by omega) (by omega) (by omega)) ?_
              refine zv_if_eq (pc' := 64) (tgt := 71) dX6_peace_61 rfl rfl ?_ ?_
              · intro h3
                exact next (by simp [pcB, zb_0.mp h3])
              · intro h3
                have hb : pcB (sC s) a b = true := by simp [pcB, zb_ne.mp h, zb_ne.mp h2, zb_ne.mp h3, hab]; omega
                refine zv_bipush (v := nI 10) (pc' := 66) dX6_peace_64 rfl (by decide) ?_
                refine zv_iload_n (pc' := 67) dX6_peace_66 rfl rfl ?_
                refine zv_imul (pc' := 68) dX6_peace_67 rfl ?_
                refine zv_top (pk_mul _ _) ?_
                refine zv_iload_n (pc' := 69) dX6_peace_68 rfl rfl ?_
                refine zv_iadd (pc' := 70) dX6_peace_69 rfl ?_
                refine zv_top (nI_add _ _) ?_
                refine zv_iret dX6_peace_70 rfl ?_
                exact zdonq (ev (10 * a + b) (by omega) (by rw [hdiv.1, hdiv.2]; exact hb) hno2) hI zScr.rf
      refine zv_iload_n (pc' := 3) dX6_peace_2 rfl rfl ?_
      refine zv_aload_n (pc' := 4) dX6_peace_3 rfl rfl ?_
      refine zv_getR (pc' := 7) dX6_peace_4 rfl flX6_10 (by first | rfl | assumption) rfl ?_
      refine zv_getIE (pc' := 10) dX6_peace_7 rfl flX6_186 (by first | rfl | assumption) rfl (by first | exact hN | rfl) ?_
      refine zv_icmp_ge (pc' := 13) (tgt := 83) dX6_peace_10 rfl rfl (fun hcc => absurd hcc (nI_ge (by omega) (by omega))) (fun _ => ?_)
      refine zv_iload_n (pc' := 14) dX6_peace_13 rfl rfl ?_
      refine zv_iconst (v := nI 1) (pc' := 15) dX6_peace_14 rfl (by decide) ?_
      refine zv_iadd (pc' := 16) dX6_peace_15 rfl ?_
      refine zv_istore_n (pc' := 17) dX6_peace_16 rfl (by decide) ?_
      rw [nI_add]
      refine inner (r) (a + 1) (by omega) (by omega) (fun j hj => ?_)
      rcases Nat.lt_or_ge j (10 * a) with h | h
      · exact hno j h
      · unfold pcB
        have : ¬ (j / 10 < j % 10 ∧ j % 10 < yN (sC s)) := by omega
        rw [show (decide (j / 10 < j % 10) && decide (j % 10 < yN (sC s))) = false from by simpa using this]
        rfl
  refine zex_intro (L := [some (.ref 0), none, none]) (by decide) (Nat.le_of_ble_eq_true rfl) rfl ?_
  refine zv_iconst (v := nI 0) (pc' := 1) dX6_peace_0 rfl (by decide) ?_
  refine zv_istore_n (pc' := 2) dX6_peace_1 rfl (by decide) ?_
  exact lp (yN (sC s)) 0 (by omega) (fun j hj => by omega)
theorem gm_peace : zGm mdX7_peace (d + 1) [] sp_peace := by
  intro M s hI hk
  have hn := hk.1.1
  obtain ⟨hN, hY, hK, hF, hM, hS, hX⟩ := hI.1
  have hidx : ∀ k, k < 80 → nI k / nI 10 = nI (k / 10) := fun k hk => pk_div (by omega) (by omega) (by omega)
  have lp : ∀ r k, k + r = 80 → zfst r k (fun k => pcB (sC s) (k / 10) (k % 10)) = zfst 80 0 (fun k => pcB (sC s) (k / 10) (k % 10)) → ZV mdX7_peace (d + 1) (fun v M' => ∃ r, v = some (.int r) ∧ (r = (sp_peace s).1 ∧ zIm M' (sp_peace s).2 ∧ ∀ k, k < 90 → M' k = M k)) 2 [some (.ref 90), some (.int (nI k)), none, none] [] M := by
    intro r
    induction r with
    | zero =>
      intro k e hz
      have e : k = 80 := by omega
      subst e
      refine zv_iload_n (pc' := 3) dX7_peace_2 rfl rfl ?_
      refine zv_bipush (v := nI 80) (pc' := 5) dX7_peace_3 rfl (by decide) ?_
      refine zv_icmp_ge (pc' := 8) (tgt := 78) dX7_peace_5 rfl rfl (fun _ => ?_) (fun hcc => absurd (Int32.le_refl _) hcc)
      refine zv_bipush (v := (-9 : Int32)) (pc' := 80) dX7_peace_78 rfl (by decide) ?_
      refine zv_iret dX7_peace_80 rfl ?_
      exact zdonm (s' := s) (by rw [sp_peace, ← hz]; rfl) hI (fun _ _ => rfl)
    | succ r ih =>
      intro k e hz
      have next : pcB (sC s) (k / 10) (k % 10) = false → ∀ L2 L3, ZV mdX7_peace (d + 1) (fun v M' => ∃ r, v = some (.int r) ∧ (r = (sp_peace s).1 ∧ zIm M' (sp_peace s).2 ∧ ∀ k, k < 90 → M' k = M k)) 72 [some (.ref 90), some (.int (nI k)), L2, L3] [] M := by
        intro hb L2 L3
        refine zv_iinc (w := nI 1) (pc' := 75) dX7_peace_72 rfl rfl (by decide) (by decide) ?_
        refine zv_goto (pc' := 2) dX7_peace_75 rfl ?_
        refine zv_fg [2, 3] ?_
        rw [nI_add]
        rw [zfst, if_neg (by rw [hb]; decide)] at hz
        exact ih (k + 1) (by omega) hz
      have g1 : k / 10 < 8 := by omega
      have g2 : k % 10 < 10 := by omega
      refine zv_iload_n (pc' := 3) dX7_peace_2 rfl rfl ?_
      refine zv_bipush (v := nI 80) (pc' := 5) dX7_peace_3 rfl (by decide) ?_
      refine zv_icmp_ge (pc' := 8) (tgt := 78) dX7_peace_5 rfl rfl (fun hcc => absurd hcc (nI_ge (by omega) (by omega))) (fun _ => ?_)
      refine zv_iload_n (pc' := 9) dX7_peace_8 rfl rfl ?_
      refine zv_bipush (v := nI 10) (pc' := 11) dX7_peace_9 rfl (by decide) ?_
      refine zv_idiv (pc' := 12) dX7_peace_11 rfl (by first | assumption | decide) ?_
      refine zv_top (hidx k (by omega)) ?_
      refine zv_istore_n (pc' := 13) dX7_peace_12 rfl (by decide) ?_
      refine zv_iload_n (pc' := 14) dX7_peace_13 rfl rfl ?_
      refine zv_bipush (v := nI 10) (pc' := 16) dX7_peace_14 rfl (by decide) ?_
      refine zv_irem (pc' := 17) dX7_peace_16 rfl (by first | assumption | decide) ?_
      refine zv_top (pk_rem (a := k) (d := 10) (by omega) (by omega) (by omega)) ?_
      refine zv_istore_n (pc' := 18) dX7_peace_17 rfl (by decide) ?_
      refine zv_iload_n (pc' := 19) dX7_peace_18 rfl rfl ?_
      refine zv_iload_n (pc' := 20) dX7_peace_19 rfl rfl ?_
      refine zv_icmp_ge (pc' := 23) (tgt := 72) dX7_peace_20 rfl rfl ?_ ?_
      · intro h
        have h := (nI_leI (by omega) (by omega)).mp h
        exact next (by simp [pcB]; omega) _ _
      · intro h
        have h := mt (nI_leI (a := k % 10) (b := k / 10) (by omega) (by omega)).mpr h
        refine zv_iload_n (pc' := 24) dX7_peace_23 rfl rfl ?_
        refine zv_aload_n (pc' := 25) dX7_peace_24 rfl rfl ?_
        refine zv_getIE (pc' := 28) dX7_peace_25 rfl flX7_65 (by first | rfl | assumption) rfl (by first | exact hN | exact hS _ (by omega) | exact hX _ (by omega) | rfl) ?_
        refine zv_icmp_ge (pc' := 31) (tgt := 72) dX7_peace_28 rfl rfl ?_ ?_
        · intro h2
          have h2 := (nI_leI (by omega) (by omega)).mp h2
          exact next (by simp [pcB]; omega) _ _
        · intro h2
          have h2 := mt (nI_leI (a := yN (sC s)) (b := k % 10) (by omega) (by omega)).mpr h2
          refine zv_aload_n (pc' := 32) dX7_peace_31 rfl rfl ?_
          refine zv_getR (pc' := 35) dX7_peace_32 rfl flX7_25 (by first | rfl | assumption) rfl ?_
          refine zv_iload_n (pc' := 36) dX7_peace_35 rfl rfl ?_
          refine zv_ialoadE (pc' := 37) dX7_peace_36 rfl (by first | rfl | assumption) (by decide) (by omega) (by first | exact hN | exact hS _ (by omega) | exact hX _ (by omega) | rfl) ?_
          refine zv_iload_n (pc' := 38) dX7_peace_37 rfl rfl ?_
          refine zv_cS2_pi (pc' := 41) dX7_peace_38 rfl lkX7_75 (Nat.le_of_ble_eq_true rfl) (x7_hasM (by omega)) ?_
          refine zv_if_eq (pc' := 44) (tgt := 72) dX7_peace_41 rfl rfl ?_ ?_
          · intro h3
            exact next (by simp [pcB, zb_0.mp h3]) _ _
          · intro h3
            refine zv_aload_n (pc' := 45) dX7_peace_44 rfl rfl ?_
            refine zv_getR (pc' := 48) dX7_peace_45 rfl flX7_22 (by first | rfl | assumption) rfl ?_
            refine zv_iload_n (pc' := 49) dX7_peace_48 rfl rfl ?_
            refine zv_ialoadE (pc' := 50) dX7_peace_49 rfl (by first | rfl | assumption) (by decide) (by omega) (by first | exact hN | exact hS _ (by omega) | exact hX _ (by omega) | rfl) ?_
            refine zv_iload_n (pc' := 51) dX7_peace_50 rfl rfl ?_
            refine zv_cS2_pi (pc' := 54) dX7_peace_51 rfl lkX7_75 (Nat.le_of_ble_eq_true rfl) (x7_hasM (by omega)) ?_
            refine zv_if_eq (pc' := 57) (tgt := 72) dX7_peace_54 rfl rfl ?_ ?_
            · intro h4
              exact next (by simp [pcB, zb_0.mp h4]) _ _
            · intro h4
              refine zv_aload_n (pc' := 58) dX7_peace_57 rfl rfl ?_
              refine zv_getR (pc' := 61) dX7_peace_58 rfl flX7_22 (by first | rfl | assumption) rfl ?_
              refine zv_iload_n (pc' := 62) dX7_peace_61 rfl rfl ?_
              refine zv_ialoadE (pc' := 63) dX7_peace_62 rfl (by first | rfl | assumption) (by decide) (by omega) (by first | exact hN | exact hS _ (by omega) | exact hX _ (by omega) | rfl) ?_
              refine zv_iload_n (pc' := 64) dX7_peace_63 rfl rfl ?_
              refine zv_cS2_pi (pc' := 67) dX7_peace_64 rfl lkX7_75 (Nat.le_of_ble_eq_true rfl) (x7_hasM (by omega)) ?_
              refine zv_if_eq (pc' := 70) (tgt := 72) dX7_peace_67 rfl rfl ?_ ?_
              · intro h5
                exact next (by simp [pcB, zb_0.mp h5]) _ _
              · intro h5
                have hb : pcB (sC s) (k / 10) (k % 10) = true := by
                  have q1 : k / 10 < k % 10 := by omega
                  have q2 : k % 10 < yN (sC s) := by omega
                  simp [pcB, zb_ne.mp h3, zb_ne.mp h4, zb_ne.mp h5, q1, q2]
                rw [zfst, if_pos hb] at hz
                refine zv_iload_n (pc' := 71) dX7_peace_70 rfl rfl ?_
                refine zv_iret dX7_peace_71 rfl ?_
                exact zdonm (s' := s) (by rw [sp_peace, ← hz]; rfl) hI (fun _ _ => rfl)
  refine zex_intro (L := [some (.ref 90), none, none, none]) (by decide) (Nat.le_of_ble_eq_true rfl) rfl ?_
  refine zv_iconst (v := nI 0) (pc' := 1) dX7_peace_0 rfl (by decide) ?_
  refine zv_istore_n (pc' := 2) dX7_peace_1 rfl (by decide) ?_
  exact lp 80 0 (by omega) rfl
theorem gx_will (x y : Int32) : zGx mdX6_will (d + 3) [.int x, .int y] (sp_will x y) := by
  intro M s hI hk
  have hn := hk.1.1
  have hA := hI.1
  have hM := hI.1.2.2.2.2.1
  refine zex_intro (L := [some (.ref 0), some (.int x), some (.int y), none, none, none, none]) (by decide) (Nat.le_of_ble_eq_true rfl) rfl ?_
  refine zv_aload_n (pc' := 1) dX6_will_0 rfl rfl ?_
  refine zv_iload_n (pc' := 2) dX6_will_1 rfl rfl ?_
  refine zv_iload_n (pc' := 3) dX6_will_2 rfl rfl ?_
  refine zv_cV2_pi (pc' := 6) dX6_will_3 rfl lkX6_138 (by first | rfl | assumption) rfl (Nat.le_of_ble_eq_true rfl) (x6_notTwo hA) ?_
  have hw := twN_lt (n := yN (sC s)) (x := x) (y := y)
  refine zv_istore_n (pc' := 7) dX6_will_6 rfl (by decide) ?_
  refine zv_iload_n (pc' := 8) dX6_will_7 rfl rfl ?_
  refine zv_if_eq (pc' := 11) (tgt := 17) dX6_will_8 rfl rfl ?_ ?_
  · intro h
    have h0 := (neg_w0 _ hw).mp h
    obtain ⟨p, q, hp, hq, hpq, rfl, rfl⟩ := twoB_of hn (twN_0.mp h0)
    have ev : sp_will (nI p) (nI q) s = (wlV (sC s) p q, s) := by rw [sp_will, zans_0 h0, pN_nI (by omega), pN_nI (by omega)]
    have hM9 := hk.1.2.2.2.1 p
    have hc8 := zcn_le (kinB (sC s) p) 8
    have hc8' := zcn_le (fun j => kinB (sC s) p j && decide (j < q)) 8
    refine zv_aload_n (pc' := 18) dX6_will_17 rfl rfl ?_
    refine zv_getR (pc' := 21) dX6_will_18 rfl flX6_10 (by first | rfl | assumption) rfl ?_
    refine zv_iload_n (pc' := 22) dX6_will_21 rfl rfl ?_
    refine zv_cV1_pi (pc' := 25) dX6_will_22 rfl lkX6_127 (by first | rfl | assumption) rfl (Nat.le_of_ble_eq_true rfl) (x0_kinOf zCy1 hA hk.1 hp) ?_
    refine zv_istore (pc' := 27) dX6_will_25 rfl (by decide) ?_
    refine zv_iload (pc' := 29) dX6_will_27 rfl rfl ?_
    refine zv_cS1_pi (pc' := 32) dX6_will_29 rfl lkX6_130 (Nat.le_of_ble_eq_true rfl) (j6_bitM) ?_
    refine zv_istore (pc' := 34) dX6_will_32 rfl (by decide) ?_
    refine zv_iload (pc' := 36) dX6_will_34 rfl rfl ?_
    have no : kinB (sC s) p q = false → ∀ L6, ZV mdX6_will (d + 3) (fun v M' => ∃ r, v = some (.int r) ∧ (r = (sp_will (nI p) (nI q) s).1 ∧ zIx M' (sp_will (nI p) (nI q) s).2 ∧ zSame 0 90 M M')) 48 [some (.ref 0), some (.int (nI p)), some (.int (nI q)), some (.int (-nI (twN (yN (sC s)) (nI p) (nI q)))), some (.int (nI (zm 8 (kinB (sC s) p)))), some (.int (nI (zcn 8 (kinB (sC s) p)))), L6] [] M := by
      intro hb L6
      refine zv_bipush (v := (-9 : Int32)) (pc' := 50) dX6_will_48 rfl (by decide) ?_
      refine zv_iret dX6_will_50 rfl ?_
      exact zdonq (by rw [ev, wlV, hb]; rfl) hI zScr.rf
    refine zv_if_eq (pc' := 39) (tgt := 48) dX6_will_36 rfl rfl ?_ ?_
    · intro hz
      have hz := (nI_eq (b := 0) (by omega) (by decide)).mp hz
      refine no ?_ _
      cases hb : kinB (sC s) p q
      · rfl
      · have := zcn_pos hb (k := 8) (by omega); omega
    · intro hz
      have hm0 : ¬ nI (zcn 8 (kinB (sC s) p)) = 0 := hz
      have hz := mt (fun z => (nI_eq (a := zcn 8 (kinB (sC s) p)) (b := 0) (by omega) (by decide)).mpr z) hz
      refine zv_iload (pc' := 41) dX6_will_39 rfl rfl ?_
      refine zv_iload_n (pc' := 42) dX6_will_41 rfl rfl ?_
      refine zv_cS2_pi (pc' := 45) dX6_will_42 rfl lkX6_218 (Nat.le_of_ble_eq_true rfl) (x6_isInM (by omega)) ?_
      refine zv_if_ne (pc' := 48) (tgt := 51) dX6_will_45 rfl rfl ?_ ?_
      · intro hb
        have hb := zb_ne.mp hb
        refine zv_iload (pc' := 53) dX6_will_51 rfl rfl ?_
        refine zv_iconst (v := nI 1) (pc' := 54) dX6_will_53 rfl (by decide) ?_
        refine zv_iload_n (pc' := 55) dX6_will_54 rfl rfl ?_
        refine zv_ishl (pc' := 56) dX6_will_55 rfl ?_
        refine zv_top (zsh1 q (by omega)) ?_
        refine zv_iconst (v := nI 1) (pc' := 57) dX6_will_56 rfl (by decide) ?_
        refine zv_isub (pc' := 58) dX6_will_57 rfl ?_
        refine zv_top (low_mask q (by omega)) ?_
        refine zv_iand (pc' := 59) dX6_will_58 rfl ?_
        refine zv_top mk_and ?_
        refine zv_cS1_pi (pc' := 62) dX6_will_59 rfl lkX6_130 (Nat.le_of_ble_eq_true rfl) (j6_bitM) ?_
        refine zv_istore (pc' := 64) dX6_will_62 rfl (by decide) ?_
        refine zv_aload_n (pc' := 65) dX6_will_64 rfl rfl ?_
        refine zv_getR (pc' := 68) dX6_will_65 rfl flX6_10 (by first | rfl | assumption) rfl ?_
        refine zv_getR (pc' := 71) dX6_will_68 rfl flX6_124 (by first | rfl | assumption) rfl ?_
        refine zv_iload_n (pc' := 72) dX6_will_71 rfl rfl ?_
        refine zv_ialoadE (pc' := 73) dX6_will_72 rfl (by first | rfl | assumption) (by decide) (by omega) (by first | exact hM _ (by omega) | rfl) ?_
        refine zv_iload (pc' := 75) dX6_will_73 rfl rfl ?_
        refine zv_idiv (pc' := 76) dX6_will_75 rfl (by first | assumption | decide) ?_
        refine zv_top (pk_div (by omega) (by omega) (by omega)) ?_
        refine zv_iload (pc' := 78) dX6_will_76 rfl rfl ?_
        refine zv_aload_n (pc' := 79) dX6_will_78 rfl rfl ?_
        refine zv_getR (pc' := 82) dX6_will_79 rfl flX6_10 (by first | rfl | assumption) rfl ?_
        refine zv_getR (pc' := 85) dX6_will_82 rfl flX6_124 (by first | rfl | assumption) rfl ?_
        refine zv_iload_n (pc' := 86) dX6_will_85 rfl rfl ?_
        refine zv_ialoadE (pc' := 87) dX6_will_86 rfl (by first | rfl | assumption) (by decide) (by omega) (by first | exact hM _ (by omega) | rfl) ?_
        refine zv_iload (pc' := 89) dX6_will_87 rfl rfl ?_
        refine zv_irem (pc' := 90) dX6_will_89 rfl (by first | assumption | decide) ?_
        refine zv_top (pk_rem (by omega) (by omega) (by omega)) ?_
        have hmod : yM (sC s) p % zcn 8 (kinB (sC s) p) < zcn 8 (kinB (sC s) p) := Nat.mod_lt _ (by omega)
        have hdv : yM (sC s) p / zcn 8 (kinB (sC s) p) ≤ yM (sC s) p := Nat.div_le_self _ _
        refine zv_icmp_ge (pc' := 93) (tgt := 97) dX6_will_90 rfl rfl ?_ ?_
        · intro h2
          have h2 := (nI_leI (by omega) (by omega)).mp h2
          refine zv_iconst (v := nI 0) (pc' := 98) dX6_will_97 rfl (by decide) ?_
          refine zv_top (show nI 0 = zb false from rfl) ?_
          refine zv_cS1_pi (pc' := 101) dX6_will_98 rfl lkX6_145 (Nat.le_of_ble_eq_true rfl) (x6_bit) ?_
          refine zv_iadd (pc' := 102) dX6_will_101 rfl ?_
          refine zv_iret dX6_will_102 rfl ?_
          exact zdonq (by rw [ev, wlV, if_pos hb, if_neg (by omega), show zb false = nI 0 from rfl, nI_add]) hI zScr.rf
        · intro h2
          have h2 := mt (nI_leI (a := yM (sC s) p % zcn 8 (kinB (sC s) p)) (b := zcn 8 (fun j => kinB (sC s) p j && decide (j < q))) (by omega) (by omega)).mpr h2
          refine zv_iconst (v := nI 1) (pc' := 94) dX6_will_93 rfl (by decide) ?_
          refine zv_goto (pc' := 98) dX6_will_94 rfl ?_
          refine zv_top (show nI 1 = zb true from rfl) ?_
          refine zv_cS1_pi (pc' := 101) dX6_will_98 rfl lkX6_145 (Nat.le_of_ble_eq_true rfl) (x6_bit) ?_
          refine zv_iadd (pc' := 102) dX6_will_101 rfl ?_
          refine zv_iret dX6_will_102 rfl ?_
          exact zdonq (by rw [ev, wlV, if_pos hb, if_pos (by omega), show zb true = nI 1 from rfl, nI_add]) hI zScr.rf
      · intro hb
        exact no (zb_0.mp hb) _
  · intro h
    have h0 := mt (neg_w0 _ hw).mpr h
    refine zv_aload_n (pc' := 12) dX6_will_11 rfl rfl ?_
    refine zv_iload_n (pc' := 13) dX6_will_12 rfl rfl ?_
    refine zv_cV1_fi (pc' := 16) dX6_will_13 rfl lkX6_84 (by first | rfl | assumption) rfl (Nat.le_of_ble_eq_true rfl) (x6_refuse hw h0) ?_
    rintro r M1 ⟨rfl, rfl⟩
    refine zv_iret dX6_will_16 rfl ?_
    exact zrefx hI h0
theorem gm_will (x y : Int32) : zGm mdX7_will (d + 3) [.int x, .int y] (sp_will x y) := by
  intro M s hI hk
  have hn := hk.1.1
  have hN := hI.1.1
  have hM := hI.1.2.2.2.2.1
  refine zex_intro (L := [some (.ref 90), some (.int x), some (.int y), none, none]) (by decide) (Nat.le_of_ble_eq_true rfl) rfl ?_
  refine zv_aload_n (pc' := 1) dX7_will_0 rfl rfl ?_
  refine zv_iload_n (pc' := 2) dX7_will_1 rfl rfl ?_
  refine zv_iload_n (pc' := 3) dX7_will_2 rfl rfl ?_
  refine zv_cV2_pi (pc' := 6) dX7_will_3 rfl lkX7_119 (by first | rfl | assumption) rfl (Nat.le_of_ble_eq_true rfl) (x7_areTwo hN) ?_
  refine zv_if_ne (pc' := 9) (tgt := 15) dX7_will_6 rfl rfl ?_ ?_
  · intro h
    have h1 := zb_ne.mp h
    have h0 := twN_0.mpr h1
    obtain ⟨p, q, hp, hq, hpq, rfl, rfl⟩ := twoB_of hn h1
    have ev : sp_will (nI p) (nI q) s = (wlV (sC s) p q, s) := by rw [sp_will, zans_0 h0, pN_nI (by omega), pN_nI (by omega)]
    have hM9 := hk.1.2.2.2.1 p
    have hc8 := zcn_le (kinB (sC s) p) 8
    have hc8' := zcn_le (fun j => kinB (sC s) p j && decide (j < q)) 8
    refine zv_aload_n (pc' := 16) dX7_will_15 rfl rfl ?_
    refine zv_iload_n (pc' := 17) dX7_will_16 rfl rfl ?_
    refine zv_iload_n (pc' := 18) dX7_will_17 rfl rfl ?_
    refine zv_cV2_pi (pc' := 21) dX7_will_18 rfl lkX7_79 (by first | rfl | assumption) rfl (Nat.le_of_ble_eq_true rfl) (x7_isKin hI.1 hk.1 hp hq) ?_
    refine zv_if_ne (pc' := 24) (tgt := 27) dX7_will_21 rfl rfl ?_ ?_
    · intro hb
      have hb := zb_ne.mp hb
      have hpos := zcn_pos hb (k := 8) (by omega)
      have hm0 : ¬ nI (zcn 8 (kinB (sC s) p)) = 0 := nI_ne0 hpos (by omega)
      refine zv_aload_n (pc' := 28) dX7_will_27 rfl rfl ?_
      refine zv_iload_n (pc' := 29) dX7_will_28 rfl rfl ?_
      refine zv_cV1_pi (pc' := 32) dX7_will_29 rfl lkX7_181 (by first | rfl | assumption) rfl (Nat.le_of_ble_eq_true rfl) (x7_kinOf hI.1 hk.1 hp) ?_
      refine zv_istore_n (pc' := 33) dX7_will_32 rfl (by decide) ?_
      refine zv_iload_n (pc' := 34) dX7_will_33 rfl rfl ?_
      refine zv_iconst (v := nI 1) (pc' := 35) dX7_will_34 rfl (by decide) ?_
      refine zv_iload_n (pc' := 36) dX7_will_35 rfl rfl ?_
      refine zv_ishl (pc' := 37) dX7_will_36 rfl ?_
      refine zv_top (zsh1 q (by omega)) ?_
      refine zv_iconst (v := nI 1) (pc' := 38) dX7_will_37 rfl (by decide) ?_
      refine zv_isub (pc' := 39) dX7_will_38 rfl ?_
      refine zv_top (low_mask q (by omega)) ?_
      refine zv_iand (pc' := 40) dX7_will_39 rfl ?_
      refine zv_top mk_and ?_
      refine zv_cS1_pi (pc' := 43) dX7_will_40 rfl lkX7_184 (Nat.le_of_ble_eq_true rfl) (x7_bitsM) ?_
      refine zv_istore (pc' := 45) dX7_will_43 rfl (by decide) ?_
      refine zv_aload_n (pc' := 46) dX7_will_45 rfl rfl ?_
      refine zv_getR (pc' := 49) dX7_will_46 rfl flX7_19 (by first | rfl | assumption) rfl ?_
      refine zv_iload_n (pc' := 50) dX7_will_49 rfl rfl ?_
      refine zv_ialoadE (pc' := 51) dX7_will_50 rfl (by first | rfl | assumption) (by decide) (by omega) (by first | exact hN | exact hM _ (by omega) | rfl) ?_
      refine zv_iload_n (pc' := 52) dX7_will_51 rfl rfl ?_
      refine zv_cS1_pi (pc' := 55) dX7_will_52 rfl lkX7_184 (Nat.le_of_ble_eq_true rfl) (x7_bitsM) ?_
      refine zv_idiv (pc' := 56) dX7_will_55 rfl (by first | assumption | decide) ?_
      refine zv_top (pk_div (by omega) (by omega) (by omega)) ?_
      refine zv_iload (pc' := 58) dX7_will_56 rfl rfl ?_
      refine zv_aload_n (pc' := 59) dX7_will_58 rfl rfl ?_
      refine zv_getR (pc' := 62) dX7_will_59 rfl flX7_19 (by first | rfl | assumption) rfl ?_
      refine zv_iload_n (pc' := 63) dX7_will_62 rfl rfl ?_
      refine zv_ialoadE (pc' := 64) dX7_will_63 rfl (by first | rfl | assumption) (by decide) (by omega) (by first | exact hN | exact hM _ (by omega) | rfl) ?_
      refine zv_iload_n (pc' := 65) dX7_will_64 rfl rfl ?_
      refine zv_cS1_pi (pc' := 68) dX7_will_65 rfl lkX7_184 (Nat.le_of_ble_eq_true rfl) (x7_bitsM) ?_
      refine zv_irem (pc' := 69) dX7_will_68 rfl (by first | assumption | decide) ?_
      refine zv_top (pk_rem (by omega) (by omega) (by omega)) ?_
      have hmod : yM (sC s) p % zcn 8 (kinB (sC s) p) < zcn 8 (kinB (sC s) p) := Nat.mod_lt _ (by omega)
      refine zv_icmp_ge (pc' := 72) (tgt := 76) dX7_will_69 rfl rfl ?_ ?_
      · intro h2
        have h2 := (nI_leI (by omega) (by omega)).mp h2
        refine zv_iconst (v := nI 0) (pc' := 77) dX7_will_76 rfl (by decide) ?_
        refine zv_iadd (pc' := 78) dX7_will_77 rfl ?_
        refine zv_iret dX7_will_78 rfl ?_
        exact zdonm (s' := s) (by rw [ev, wlV, if_pos hb, if_neg (by omega), nI_add]) hI (fun _ _ => rfl)
      · intro h2
        have h2 := mt (nI_leI (a := yM (sC s) p % zcn 8 (kinB (sC s) p)) (b := zcn 8 (fun j => kinB (sC s) p j && decide (j < q))) (by omega) (by omega)).mpr h2
        refine zv_iconst (v := nI 1) (pc' := 73) dX7_will_72 rfl (by decide) ?_
        refine zv_goto (pc' := 77) dX7_will_73 rfl ?_
        refine zv_iadd (pc' := 78) dX7_will_77 rfl ?_
        refine zv_iret dX7_will_78 rfl ?_
        exact zdonm (s' := s) (by rw [ev, wlV, if_pos hb, if_pos (by omega), nI_add]) hI (fun _ _ => rfl)
    · intro hb
      have hb := zb_0.mp hb
      refine zv_bipush (v := (-9 : Int32)) (pc' := 26) dX7_will_24 rfl (by decide) ?_
      refine zv_iret dX7_will_26 rfl ?_
      exact zdonm (s' := s) (by rw [ev, wlV, hb]; rfl) hI (fun _ _ => rfl)
  · intro h
    have h := zb_0.mp h
    refine zv_aload_n (pc' := 10) dX7_will_9 rfl rfl ?_
    refine zv_iconst (v := (-1 : Int32)) (pc' := 11) dX7_will_10 rfl (by decide) ?_
    refine zv_top (show (-1 : Int32) = -nI 1 by decide) ?_
    refine zv_cV1_fi (pc' := 14) dX7_will_11 rfl lkX7_89 (by first | rfl | assumption) rfl (Nat.le_of_ble_eq_true rfl) (x7_no (by decide)) ?_
    rintro r M1 ⟨rfl, rfl⟩
    refine zv_iret dX7_will_14 rfl ?_
    rw [sp_will, show twN (yN (sC s)) x y = 1 from by rw [twN, if_neg (by rw [h]; decide)]]
    exact zrefm hI (by decide)
theorem gx_matters (x : Int32) : zGx mdX6_matters (d + 3) [.int x] (sp_matters x) := by
  intro M s hI hk
  have hn := hk.1.1
  have hA := hI.1
  have hN := hI.1.1
  refine zex_intro (L := [some (.ref 0), some (.int x), none, none, none, none, none, none]) (by decide) (Nat.le_of_ble_eq_true rfl) rfl ?_
  refine zv_iload_n (pc' := 1) dX6_matters_0 rfl rfl ?_
  refine zv_iconst (v := nI 1) (pc' := 2) dX6_matters_1 rfl (by decide) ?_
  refine zv_cS2_pi (pc' := 5) dX6_matters_2 rfl lkX6_114 (Nat.le_of_ble_eq_true rfl) (x6_otherThan) ?_
  have hw := otN_lt (x := x) (n := 1)
  refine zv_istore_n (pc' := 6) dX6_matters_5 rfl (by decide) ?_
  refine zv_iload_n (pc' := 7) dX6_matters_6 rfl rfl ?_
  refine zv_if_eq (pc' := 10) (tgt := 16) dX6_matters_7 rfl rfl ?_ ?_
  · intro h
    have h0 := (neg_w0 _ hw).mp h
    obtain ⟨w, -, hw2, rfl⟩ := isInB_of (by decide) (otN_0.mp h0) (by decide)
    have ev : sp_matters (nI w) s = (mtW (mtS (sC s) (yN (sC s))) w, s) := by rw [sp_matters, zans_0 h0, pN_nI (by omega)]
    have lp : ∀ r k, k + r = yN (sC s) → (∀ b, (mtS (sC s) k).1 = some b → b < 8) → ZV mdX6_matters (d + 3) (fun v M' => ∃ r, v = some (.int r) ∧ (r = (sp_matters (nI w) s).1 ∧ zIx M' (sp_matters (nI w) s).2 ∧ zSame 0 90 M M')) 35 [some (.ref 0), some (.int (nI w)), none, some (.int (nI (kinN (sC s)))), some (.int (optI (mtS (sC s) k).1)), some (.int (mtS (sC s) k).2), some (.int (nI k)), none] [] M := by
      intro r
      induction r with
      | zero =>
        intro k e hb8
        have e : k = yN (sC s) := by omega
        subst e
        refine zv_iload (pc' := 37) dX6_matters_35 rfl rfl ?_
        refine zv_aload_n (pc' := 38) dX6_matters_37 rfl rfl ?_
        refine zv_getR (pc' := 41) dX6_matters_38 rfl flX6_10 (by first | rfl | assumption) rfl ?_
        refine zv_getIE (pc' := 44) dX6_matters_41 rfl flX6_186 (by first | rfl | assumption) rfl (by first | exact hN | rfl) ?_
        refine zv_icmp_ge (pc' := 47) (tgt := 91) dX6_matters_44 rfl rfl (fun _ => ?_) (fun hcc => absurd (Int32.le_refl _) hcc)
        refine zv_iload_n (pc' := 92) dX6_matters_91 rfl rfl ?_
        rcases (show w = 0 ∨ w = 1 by omega) with rfl | rfl
        · refine zv_if_ne (pc' := 95) (tgt := 100) dX6_matters_92 rfl rfl (fun hcc => absurd (rfl) hcc) (fun _ => ?_)
          refine zv_iload (pc' := 97) dX6_matters_95 rfl rfl ?_
          refine zv_goto (pc' := 102) dX6_matters_97 rfl ?_
          refine zv_iret dX6_matters_102 rfl ?_
          exact zdonq ev hI zScr.rf
        · refine zv_if_ne (pc' := 95) (tgt := 100) dX6_matters_92 rfl rfl (fun _ => ?_) (fun hcc => absurd hcc (by decide))
          refine zv_iload (pc' := 102) dX6_matters_100 rfl rfl ?_
          refine zv_iret dX6_matters_102 rfl ?_
          exact zdonq ev hI zScr.rf
      | succ r ih =>
        intro k e hb8
        have tk : (mtS (sC s) k).1 = none ∨ mtV (sC s) k < (mtS (sC s) k).2 → ZV mdX6_matters (d + 3) (fun v M' => ∃ r, v = some (.int r) ∧ (r = (sp_matters (nI w) s).1 ∧ zIx M' (sp_matters (nI w) s).2 ∧ zSame 0 90 M M')) 77 [some (.ref 0), some (.int (nI w)), none, some (.int (nI (kinN (sC s)))), some (.int (optI (mtS (sC s) k).1)), some (.int (mtS (sC s) k).2), some (.int (nI k)), some (.int (mtV (sC s) k))] [] M := by
          intro hc
          have eb : mtS (sC s) (k + 1) = (some k, mtV (sC s) k) := by rw [mtS, if_pos hc]
          have := ih (k + 1) (by omega) (by rw [eb]; intro b hb; cases hb; omega)
          rw [eb] at this
          refine zv_iload (pc' := 79) dX6_matters_77 rfl rfl ?_
          refine zv_istore (pc' := 81) dX6_matters_79 rfl (by decide) ?_
          refine zv_iload (pc' := 83) dX6_matters_81 rfl rfl ?_
          refine zv_istore (pc' := 85) dX6_matters_83 rfl (by decide) ?_
          refine zv_iinc (w := nI 1) (pc' := 88) dX6_matters_85 rfl rfl (by decide) (by decide) ?_
          refine zv_goto (pc' := 35) dX6_matters_88 rfl ?_
          refine zv_fg [7] ?_
          rw [nI_add]
          exact this
        refine zv_iload (pc' := 37) dX6_matters_35 rfl rfl ?_
        refine zv_aload_n (pc' := 38) dX6_matters_37 rfl rfl ?_
        refine zv_getR (pc' := 41) dX6_matters_38 rfl flX6_10 (by first | rfl | assumption) rfl ?_
        refine zv_getIE (pc' := 44) dX6_matters_41 rfl flX6_186 (by first | rfl | assumption) rfl (by first | exact hN | rfl) ?_
        refine zv_icmp_ge (pc' := 47) (tgt := 91) dX6_matters_44 rfl rfl (fun hcc => absurd hcc (nI_ge (by omega) (by omega))) (fun _ => ?_)
        refine zv_iload_n (pc' := 48) dX6_matters_47 rfl rfl ?_
        refine zv_aload_n (pc' := 49) dX6_matters_48 rfl rfl ?_
        refine zv_getR (pc' := 52) dX6_matters_49 rfl flX6_10 (by first | rfl | assumption) rfl ?_
        refine zv_iload (pc' := 54) dX6_matters_52 rfl rfl ?_
        refine zv_cV1_pi (pc' := 57) dX6_matters_54 rfl lkX6_127 (by first | rfl | assumption) rfl (Nat.le_of_ble_eq_true rfl) (x0_kinOf zCy1 hA hk.1 (by omega)) ?_
        refine zv_cS1_pi (pc' := 60) dX6_matters_57 rfl lkX6_130 (Nat.le_of_ble_eq_true rfl) (j6_bitM) ?_
        refine zv_isub (pc' := 61) dX6_matters_60 rfl ?_
        refine zv_istore (pc' := 63) dX6_matters_61 rfl (by decide) ?_
        refine zv_iload (pc' := 65) dX6_matters_63 rfl rfl ?_
        refine zv_bipush (v := (-9 : Int32)) (pc' := 67) dX6_matters_65 rfl (by decide) ?_
        cases hx : (mtS (sC s) k).1 with
        | none =>
          refine zv_icmp_eq (pc' := 70) (tgt := 77) dX6_matters_67 rfl rfl (fun _ => ?_) (fun hcc => absurd (rfl) hcc)
          have := tk (Or.inl hx)
          rw [hx] at this
          exact this
        | some b =>
          have hb := hb8 b hx
          refine zv_icmp_eq (pc' := 70) (tgt := 77) dX6_matters_67 rfl rfl (fun hcc => absurd hcc ((by decide +kernel : ∀ b, b < 8 → ¬ nI b = (-9 : Int32)) b hb)) (fun _ => ?_)
          refine zv_iload (pc' := 72) dX6_matters_70 rfl rfl ?_
          refine zv_iload (pc' := 74) dX6_matters_72 rfl rfl ?_
          refine zv_icmp_ge (pc' := 77) (tgt := 85) dX6_matters_74 rfl rfl ?_ ?_
          · intro hz
            have eb : mtS (sC s) (k + 1) = mtS (sC s) k := by
              rw [mtS, if_neg]
              rintro (h | h)
              · rw [hx] at h; cases h
              · exact absurd hz (Int32.not_le.mpr h)
            have := ih (k + 1) (by omega) (by rw [eb]; exact hb8)
            rw [eb, hx] at this
            refine zv_iinc (w := nI 1) (pc' := 88) dX6_matters_85 rfl rfl (by decide) (by decide) ?_
            refine zv_goto (pc' := 35) dX6_matters_88 rfl ?_
            refine zv_fg [7] ?_
            rw [nI_add]
            exact this
          · intro hz
            have := tk (Or.inr (Int32.not_le.mp hz))
            rw [hx] at this
            exact this
    refine zv_aload_n (pc' := 17) dX6_matters_16 rfl rfl ?_
    refine zv_getR (pc' := 20) dX6_matters_17 rfl flX6_10 (by first | rfl | assumption) rfl ?_
    refine zv_cV0_pi (pc' := 23) dX6_matters_20 rfl lkX6_234 (by first | rfl | assumption) rfl (Nat.le_of_ble_eq_true rfl) (x0_kinTwos zCy1 hA hk.1) ?_
    refine zv_istore_n (pc' := 24) dX6_matters_23 rfl (by decide) ?_
    refine zv_bipush (v := (-9 : Int32)) (pc' := 26) dX6_matters_24 rfl (by decide) ?_
    refine zv_istore (pc' := 28) dX6_matters_26 rfl (by decide) ?_
    refine zv_bipush (v := (-9 : Int32)) (pc' := 30) dX6_matters_28 rfl (by decide) ?_
    refine zv_istore (pc' := 32) dX6_matters_30 rfl (by decide) ?_
    refine zv_iconst (v := nI 0) (pc' := 33) dX6_matters_32 rfl (by decide) ?_
    refine zv_istore (pc' := 35) dX6_matters_33 rfl (by decide) ?_
    refine zv_fg [2] ?_
    exact lp (yN (sC s)) 0 (by omega) (fun b hb => by cases hb)
  · intro h
    have h0 := mt (neg_w0 _ hw).mpr h
    refine zv_aload_n (pc' := 11) dX6_matters_10 rfl rfl ?_
    refine zv_iload_n (pc' := 12) dX6_matters_11 rfl rfl ?_
    refine zv_cV1_fi (pc' := 15) dX6_matters_12 rfl lkX6_84 (by first | rfl | assumption) rfl (Nat.le_of_ble_eq_true rfl) (x6_refuse hw h0) ?_
    rintro r M1 ⟨rfl, rfl⟩
    refine zv_iret dX6_matters_15 rfl ?_
    exact zrefx hI h0
theorem gm_matters (x : Int32) : zGm mdX7_matters (d + 4) [.int x] (sp_matters x) := by
  intro M s hI hk
  have hn := hk.1.1
  have hN := hI.1.1
  refine zex_intro (L := [some (.ref 90), some (.int x), none, none, none, none]) (by decide) (Nat.le_of_ble_eq_true rfl) rfl ?_
  refine zv_iload_n (pc' := 1) dX7_matters_0 rfl rfl ?_
  refine zv_iconst (v := nI 0) (pc' := 2) dX7_matters_1 rfl (by decide) ?_
  refine zv_iconst (v := nI 1) (pc' := 3) dX7_matters_2 rfl (by decide) ?_
  refine zv_cS3_pi (pc' := 6) dX7_matters_3 rfl lkX7_100 (Nat.le_of_ble_eq_true rfl) (x7_isIn) ?_
  refine zv_if_ne (pc' := 9) (tgt := 16) dX7_matters_6 rfl rfl ?_ ?_
  · intro h
    have h1 := zb_ne.mp h
    have h0 := otN_0.mpr h1
    obtain ⟨w, -, hw2, rfl⟩ := isInB_of (by decide) h1 (by decide)
    have ev : sp_matters (nI w) s = (mtW (mtS (sC s) (yN (sC s))) w, s) := by rw [sp_matters, zans_0 h0, pN_nI (by omega)]
    have lp : ∀ r k, k + r = yN (sC s) → (∀ b, (mtS (sC s) k).1 = some b → b < 8) → ZV mdX7_matters (d + 4) (fun v M' => ∃ r, v = some (.int r) ∧ (r = (sp_matters (nI w) s).1 ∧ zIm M' (sp_matters (nI w) s).2 ∧ ∀ k, k < 90 → M' k = M k)) 25 [some (.ref 90), some (.int (nI w)), some (.int (optI (mtS (sC s) k).1)), some (.int (mtS (sC s) k).2), some (.int (nI k)), none] [] M := by
      intro r
      induction r with
      | zero =>
        intro k e hb8
        have e : k = yN (sC s) := by omega
        subst e
        refine zv_iload (pc' := 27) dX7_matters_25 rfl rfl ?_
        refine zv_aload_n (pc' := 28) dX7_matters_27 rfl rfl ?_
        refine zv_getIE (pc' := 31) dX7_matters_28 rfl flX7_65 (by first | rfl | assumption) rfl (by first | exact hN | rfl) ?_
        refine zv_icmp_ge (pc' := 34) (tgt := 75) dX7_matters_31 rfl rfl (fun _ => ?_) (fun hcc => absurd (Int32.le_refl _) hcc)
        refine zv_iload_n (pc' := 76) dX7_matters_75 rfl rfl ?_
        rcases (show w = 0 ∨ w = 1 by omega) with rfl | rfl
        · refine zv_if_ne (pc' := 79) (tgt := 83) dX7_matters_76 rfl rfl (fun hcc => absurd (rfl) hcc) (fun _ => ?_)
          refine zv_iload_n (pc' := 80) dX7_matters_79 rfl rfl ?_
          refine zv_goto (pc' := 84) dX7_matters_80 rfl ?_
          refine zv_iret dX7_matters_84 rfl ?_
          exact zdonm (s' := s) ev hI (fun _ _ => rfl)
        · refine zv_if_ne (pc' := 79) (tgt := 83) dX7_matters_76 rfl rfl (fun _ => ?_) (fun hcc => absurd hcc (by decide))
          refine zv_iload_n (pc' := 84) dX7_matters_83 rfl rfl ?_
          refine zv_iret dX7_matters_84 rfl ?_
          exact zdonm (s' := s) ev hI (fun _ _ => rfl)
      | succ r ih =>
        intro k e hb8
        have tk : (mtS (sC s) k).1 = none ∨ mtV (sC s) k < (mtS (sC s) k).2 → ZV mdX7_matters (d + 4) (fun v M' => ∃ r, v = some (.int r) ∧ (r = (sp_matters (nI w) s).1 ∧ zIm M' (sp_matters (nI w) s).2 ∧ ∀ k, k < 90 → M' k = M k)) 63 [some (.ref 90), some (.int (nI w)), some (.int (optI (mtS (sC s) k).1)), some (.int (mtS (sC s) k).2), some (.int (nI k)), some (.int (mtV (sC s) k))] [] M := by
          intro hc
          have eb : mtS (sC s) (k + 1) = (some k, mtV (sC s) k) := by rw [mtS, if_pos hc]
          have := ih (k + 1) (by omega) (by rw [eb]; intro b hb; cases hb; omega)
          rw [eb] at this
          refine zv_iload (pc' := 65) dX7_matters_63 rfl rfl ?_
          refine zv_istore_n (pc' := 66) dX7_matters_65 rfl (by decide) ?_
          refine zv_iload (pc' := 68) dX7_matters_66 rfl rfl ?_
          refine zv_istore_n (pc' := 69) dX7_matters_68 rfl (by decide) ?_
          refine zv_iinc (w := nI 1) (pc' := 72) dX7_matters_69 rfl rfl (by decide) (by decide) ?_
          refine zv_goto (pc' := 25) dX7_matters_72 rfl ?_
          refine zv_fg [5] ?_
          rw [nI_add]
          exact this
        refine zv_iload (pc' := 27) dX7_matters_25 rfl rfl ?_
        refine zv_aload_n (pc' := 28) dX7_matters_27 rfl rfl ?_
        refine zv_getIE (pc' := 31) dX7_matters_28 rfl flX7_65 (by first | rfl | assumption) rfl (by first | exact hN | rfl) ?_
        refine zv_icmp_ge (pc' := 34) (tgt := 75) dX7_matters_31 rfl rfl (fun hcc => absurd hcc (nI_ge (by omega) (by omega))) (fun _ => ?_)
        refine zv_aload_n (pc' := 35) dX7_matters_34 rfl rfl ?_
        refine zv_cV0_pi (pc' := 38) dX7_matters_35 rfl lkX7_276 (by first | rfl | assumption) rfl (Nat.le_of_ble_eq_true rfl) (x7_twosOfKin hI.1 hk.1) ?_
        refine zv_aload_n (pc' := 39) dX7_matters_38 rfl rfl ?_
        refine zv_iload (pc' := 41) dX7_matters_39 rfl rfl ?_
        refine zv_cV1_pi (pc' := 44) dX7_matters_41 rfl lkX7_181 (by first | rfl | assumption) rfl (Nat.le_of_ble_eq_true rfl) (x7_kinOf hI.1 hk.1 (by omega)) ?_
        refine zv_cS1_pi (pc' := 47) dX7_matters_44 rfl lkX7_184 (Nat.le_of_ble_eq_true rfl) (x7_bitsM) ?_
        refine zv_isub (pc' := 48) dX7_matters_47 rfl ?_
        refine zv_istore (pc' := 50) dX7_matters_48 rfl (by decide) ?_
        refine zv_iload_n (pc' := 51) dX7_matters_50 rfl rfl ?_
        cases hx : (mtS (sC s) k).1 with
        | none =>
          refine zv_if_lt (pc' := 54) (tgt := 63) dX7_matters_51 rfl rfl (fun _ => ?_) (fun hcc => absurd (by decide) hcc)
          have := tk (Or.inl hx)
          rw [hx] at this
          exact this
        | some b =>
          have hb := hb8 b hx
          refine zv_if_lt (pc' := 54) (tgt := 63) dX7_matters_51 rfl rfl (fun hcc => absurd hcc (nI_pos (n := b) (by omega))) (fun _ => ?_)
          refine zv_iload (pc' := 56) dX7_matters_54 rfl rfl ?_
          refine zv_iload_n (pc' := 57) dX7_matters_56 rfl rfl ?_
          refine zv_icmp_lt (pc' := 60) (tgt := 63) dX7_matters_57 rfl rfl ?_ ?_
          · intro hz
            have := tk (Or.inr hz)
            rw [hx] at this
            exact this
          · intro hz
            have eb : mtS (sC s) (k + 1) = mtS (sC s) k := by
              rw [mtS, if_neg]
              rintro (h | h)
              · rw [hx] at h; cases h
              · exact hz h
            have := ih (k + 1) (by omega) (by rw [eb]; exact hb8)
            rw [eb, hx] at this
            refine zv_goto (pc' := 69) dX7_matters_60 rfl ?_
            refine zv_iinc (w := nI 1) (pc' := 72) dX7_matters_69 rfl rfl (by decide) (by decide) ?_
            refine zv_goto (pc' := 25) dX7_matters_72 rfl ?_
            refine zv_fg [5] ?_
            rw [nI_add]
            exact this
    refine zv_bipush (v := (-9 : Int32)) (pc' := 18) dX7_matters_16 rfl (by decide) ?_
    refine zv_istore_n (pc' := 19) dX7_matters_18 rfl (by decide) ?_
    refine zv_bipush (v := (-9 : Int32)) (pc' := 21) dX7_matters_19 rfl (by decide) ?_
    refine zv_istore_n (pc' := 22) dX7_matters_21 rfl (by decide) ?_
    refine zv_iconst (v := nI 0) (pc' := 23) dX7_matters_22 rfl (by decide) ?_
    refine zv_istore (pc' := 25) dX7_matters_23 rfl (by decide) ?_
    exact lp (yN (sC s)) 0 (by omega) (fun b hb => by cases hb)
  · intro h
    refine zv_aload_n (pc' := 10) dX7_matters_9 rfl rfl ?_
    refine zv_bipush (v := (-2 : Int32)) (pc' := 12) dX7_matters_10 rfl (by decide) ?_
    refine zv_top (show (-2 : Int32) = -nI 2 by decide) ?_
    refine zv_cV1_fi (pc' := 15) dX7_matters_12 rfl lkX7_89 (by first | rfl | assumption) rfl (Nat.le_of_ble_eq_true rfl) (x7_no (by decide)) ?_
    rintro r M1 ⟨rfl, rfl⟩
    refine zv_iret dX7_matters_15 rfl ?_
    rw [sp_matters, show otN x 1 = 2 by rw [otN, if_neg (by rw [zb_0.mp h]; decide)]]
    exact zrefm hI (by decide)
end
