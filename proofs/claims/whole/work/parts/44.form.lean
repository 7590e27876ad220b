/-! county: the letters' form, in the class -/
abbrev ZLt : Type := Nat × (Nat → Nat)
def ltI (l : ZLt) (j : Nat) : Int32 := if j < l.1 then nI (l.2 j) else -1
def lnC (x : Nat) : Nat := if x = 112 then 6 else if x = 109 then 5 else if x = 115 ∨ x = 98 ∨ x = 102 ∨ x = 121 then 4 else 0
def lenN (l : ZLt) (a : Nat) : Nat := if a < l.1 then lnC (l.2 a) else 0
def dgB (l : ZLt) (j : Nat) : Bool := decide (j < l.1) && (decide (48 ≤ l.2 j) && decide (l.2 j ≤ 57))
def kdO (l : ZLt) (j : Nat) : Option Nat := if j < l.1 then kd (l.2 j) else none
def okB (l : ZLt) (a j : Nat) : Bool := if j + 1 = a + lenN l a then decide (j < l.1) && decide (l.2 j = 59) else if j = a + 1 ∧ l.2 a = 112 then (kdO l j).isSome else dgB l j
def bdA (l : ZLt) (a : Nat) : Option Nat := if lenN l a = 0 then some a else zfst (lenN l a - 1) (a + 1) (fun j => !okB l a j)
def psN (l : ZLt) : Nat → Nat
  | 0 => 0
  | k + 1 => psN l k + lenN l (psN l k)
def fmO (l : ZLt) : Nat → Nat → Option Nat
  | 0, _ => none
  | f + 1, k => if l.1 ≤ psN l k then none else match bdA l (psN l k) with
    | some b => some b
    | none => fmO l f (k + 1)
def formO (l : ZLt) : Option Nat := if l.1 = 0 then some 0 else fmO l 97 0
theorem lnC_or (x : Nat) : lnC x = 6 ∨ lnC x = 5 ∨ lnC x = 4 ∨ lnC x = 0 := by
  unfold lnC
  repeat' split
  all_goals simp
theorem lenN_or (l : ZLt) (a : Nat) : lenN l a = 6 ∨ lenN l a = 5 ∨ lenN l a = 4 ∨ lenN l a = 0 := by
  unfold lenN
  split
  · exact lnC_or _
  · simp
theorem psN_le (l : ZLt) : ∀ k, psN l k ≤ 6 * k
  | 0 => Nat.le_refl _
  | k + 1 => by
    have h1 := psN_le l k
    have h2 := lenN_or l (psN l k)
    rw [psN]
    omega
def zLt (M : ZMem) (l : ZLt) : Prop := M 25 1 = nI l.1 ∧ (∀ j, j < l.1 → M 26 j = nI (l.2 j)) ∧ l.1 ≤ 96 ∧ ∀ j, l.2 j ≤ 255
theorem lsw1 : ∀ x, x < 256 → Op.lookupswitch.offset [(98, 64), (102, 64), (109, 62), (112, 59), (115, 64), (121, 64)] 66 (nI x).toInt = (if lnC x = 6 then 59 else if lnC x = 5 then 62 else if lnC x = 4 then 64 else 66) := by decide +kernel
theorem dg_is {l : ZLt} {j : Nat} (h : l.2 j ≤ 255) : isInB (ltI l j) (nI 48) (nI 57) = dgB l j := by
  unfold ltI dgB
  by_cases hj : j < l.1
  · rw [if_pos hj]
    have e1 : decide (¬ nI (l.2 j) < nI 48) = decide (48 ≤ l.2 j) := by
      rw [decide_eq_decide, nI_ltI (by omega) (by omega)]; omega
    have e2 : decide (¬ nI 57 < nI (l.2 j)) = decide (l.2 j ≤ 57) := by
      rw [decide_eq_decide, nI_ltI (by omega) (by omega)]; omega
    simp only [isInB, e1, e2, hj, decide_true, Bool.true_and]
  · rw [if_neg hj]
    simp only [hj, decide_false, Bool.false_and]
    decide
theorem lt_is {l : ZLt} {j x : Nat} (h : l.2 j ≤ 255) (hx : x < 256) : ltI l j = nI x ↔ j < l.1 ∧ l.2 j = x := by
  unfold ltI
  by_cases hj : j < l.1
  · rw [if_pos hj, nI_eq (by omega) (by omega)]
    simp [hj]
  · rw [if_neg hj]
    constructor
    · intro z
      exact absurd z ((by decide +kernel : ∀ x, x < 256 → ¬ (-1 : Int32) = nI x) x hx)
    · intro z; exact absurd z.1 hj
section
variable {d : Nat} {M : ZMem} {l : ZLt}
theorem x1_at {j : Nat} (h : zLt M l) (hj : j < 2 ^ 31) : ZPi mdX1_at d [.ref 25, .int (nI j)] M (ltI l j) := by
  obtain ⟨hN, hL, h96, h255⟩ := h
  refine zex_intro (L := [some (.ref 25), some (.int (nI j))]) (by decide) (Nat.le_of_ble_eq_true rfl) rfl ?_
  refine zv_iload_n (pc' := 1) dX1_at_0 rfl rfl ?_
  refine zv_if_lt (pc' := 4) (tgt := 21) dX1_at_1 rfl rfl (fun hcc => absurd hcc (nI_pos (by omega))) (fun _ => ?_)
  refine zv_iload_n (pc' := 5) dX1_at_4 rfl rfl ?_
  refine zv_aload_n (pc' := 6) dX1_at_5 rfl rfl ?_
  refine zv_getIE (pc' := 9) dX1_at_6 rfl flX1_15 (by first | rfl | assumption) rfl (by first | exact hN | exact hL _ (by omega) | rfl) ?_
  refine zv_icmp_ge (pc' := 12) (tgt := 21) dX1_at_9 rfl rfl ?_ ?_
  · intro z
    have z := (nI_leI (by omega) (by omega)).mp z
    refine zv_iconst (v := (-1 : Int32)) (pc' := 22) dX1_at_21 rfl (by decide) ?_
    refine zv_iret dX1_at_22 rfl ?_
    exact zpi_ret (by rw [ltI, if_neg (by omega)])
  · intro z
    have z := mt (nI_leI (a := l.1) (b := j) (by omega) (by omega)).mpr z
    refine zv_aload_n (pc' := 13) dX1_at_12 rfl rfl ?_
    refine zv_getR (pc' := 16) dX1_at_13 rfl flX1_9 (by first | rfl | assumption) rfl ?_
    refine zv_iload_n (pc' := 17) dX1_at_16 rfl rfl ?_
    refine zv_ialoadE (pc' := 18) dX1_at_17 rfl (by first | rfl | assumption) (by decide) (by omega) (by first | exact hN | exact hL _ (by omega) | rfl) ?_
    refine zv_goto (pc' := 22) dX1_at_18 rfl ?_
    refine zv_iret dX1_at_22 rfl ?_
    exact zpi_ret (by rw [ltI, if_pos (by omega)])
theorem x1_lengthFrom {a : Nat} (h : zLt M l) (ha : a < 2 ^ 31) : ZPi mdX1_lengthFrom (d + 1) [.ref 25, .int (nI a)] M (nI (lenN l a)) := by
  have h255 := h.2.2.2 a
  refine zex_intro (L := [some (.ref 25), some (.int (nI a))]) (by decide) (Nat.le_of_ble_eq_true rfl) rfl ?_
  refine zv_aload_n (pc' := 1) dX1_lengthFrom_0 rfl rfl ?_
  refine zv_iload_n (pc' := 2) dX1_lengthFrom_1 rfl rfl ?_
  refine zv_cV1_pi (pc' := 5) dX1_lengthFrom_2 rfl lkX1_31 (by first | rfl | assumption) rfl (Nat.le_of_ble_eq_true rfl) (x1_at h ha) ?_
  by_cases hj : a < l.1
  · rw [show ltI l a = nI (l.2 a) from if_pos hj, show lenN l a = lnC (l.2 a) from if_pos hj]
    have hs := lsw1 (l.2 a) (by omega)
    rcases lnC_or (l.2 a) with e | e | e | e
    · rw [e]
      rw [if_pos e] at hs
      refine zv_lookup (pc' := 64) (off := 59) dX1_lengthFrom_5 (by decide) hs (by decide) ?_
      refine zv_bipush (v := nI 6) (pc' := 66) dX1_lengthFrom_64 rfl (by decide) ?_
      refine zv_iret dX1_lengthFrom_66 rfl ?_
      exact ⟨rfl, rfl⟩
    · rw [e]
      rw [if_neg (by omega), if_pos e] at hs
      refine zv_lookup (pc' := 67) (off := 62) dX1_lengthFrom_5 (by decide) hs (by decide) ?_
      refine zv_iconst (v := nI 5) (pc' := 68) dX1_lengthFrom_67 rfl (by decide) ?_
      refine zv_iret dX1_lengthFrom_68 rfl ?_
      exact ⟨rfl, rfl⟩
    · rw [e]
      rw [if_neg (by omega), if_neg (by omega), if_pos e] at hs
      refine zv_lookup (pc' := 69) (off := 64) dX1_lengthFrom_5 (by decide) hs (by decide) ?_
      refine zv_iconst (v := nI 4) (pc' := 70) dX1_lengthFrom_69 rfl (by decide) ?_
      refine zv_iret dX1_lengthFrom_70 rfl ?_
      exact ⟨rfl, rfl⟩
    · rw [e]
      rw [if_neg (by omega), if_neg (by omega), if_neg (by omega)] at hs
      refine zv_lookup (pc' := 71) (off := 66) dX1_lengthFrom_5 (by decide) hs (by decide) ?_
      refine zv_iconst (v := nI 0) (pc' := 72) dX1_lengthFrom_71 rfl (by decide) ?_
      refine zv_iret dX1_lengthFrom_72 rfl ?_
      exact ⟨rfl, rfl⟩
  · rw [show ltI l a = -1 from if_neg hj, show lenN l a = 0 from if_neg hj]
    refine zv_lookup (pc' := 71) (off := 66) dX1_lengthFrom_5 (by decide) (by decide) (by decide) ?_
    refine zv_iconst (v := nI 0) (pc' := 72) dX1_lengthFrom_71 rfl (by decide) ?_
    refine zv_iret dX1_lengthFrom_72 rfl ?_
    exact ⟨rfl, rfl⟩
theorem x1_kindAt {j : Nat} (h : zLt M l) (hj : j < 2 ^ 31) : ZPi mdX1_kindAt (d + 4) [.ref 25, .int (nI j)] M (opt1 (kdO l j)) := by
  have h255 := h.2.2.2 j
  refine zex_intro (L := [some (.ref 25), some (.int (nI j)), none]) (by decide) (Nat.le_of_ble_eq_true rfl) rfl ?_
  refine zv_aload_n (pc' := 1) dX1_kindAt_0 rfl rfl ?_
  refine zv_iload_n (pc' := 2) dX1_kindAt_1 rfl rfl ?_
  refine zv_cV1_pi (pc' := 5) dX1_kindAt_2 rfl lkX1_31 (by first | rfl | assumption) rfl (Nat.le_of_ble_eq_true rfl) (x1_at h hj) ?_
  by_cases hl : j < l.1
  · rw [show ltI l j = nI (l.2 j) from if_pos hl, show kdO l j = kd (l.2 j) from if_pos hl]
    refine zv_istore_n (pc' := 6) dX1_kindAt_5 rfl (by decide) ?_
    refine zv_iload_n (pc' := 7) dX1_kindAt_6 rfl rfl ?_
    refine zv_if_ge (pc' := 10) (tgt := 14) dX1_kindAt_7 rfl rfl (fun _ => ?_) (fun hcc => absurd (nI_pos' (by omega)) hcc)
    refine zv_ldcK (pc' := 16) dX1_kindAt_14 rfl rfl ?_
    refine zv_iload_n (pc' := 17) dX1_kindAt_16 rfl rfl ?_
    refine zv_i2c (pc' := 18) dX1_kindAt_17 rfl ?_
    refine zv_top (i2c_in _ (by omega)) ?_
    refine zv_cK1 (pc' := 21) dX1_kindAt_18 rfl lkX1_43 rfl (Nat.le_of_ble_eq_true rfl) (j0_indexOf (by omega)) ?_
    refine zv_iret dX1_kindAt_21 rfl ?_
    exact ⟨rfl, rfl⟩
  · rw [show ltI l j = -1 from if_neg hl, show kdO l j = none from if_neg hl]
    refine zv_istore_n (pc' := 6) dX1_kindAt_5 rfl (by decide) ?_
    refine zv_iload_n (pc' := 7) dX1_kindAt_6 rfl rfl ?_
    refine zv_if_ge (pc' := 10) (tgt := 14) dX1_kindAt_7 rfl rfl (fun hcc => absurd hcc (by decide)) (fun _ => ?_)
    refine zv_iconst (v := (-1 : Int32)) (pc' := 11) dX1_kindAt_10 rfl (by decide) ?_
    refine zv_goto (pc' := 21) dX1_kindAt_11 rfl ?_
    refine zv_iret dX1_kindAt_21 rfl ?_
    exact ⟨rfl, rfl⟩
theorem x1_isDigit {x : Int32} : ZPi mdX1_isDigit d [.int x] M (zb (isInB x (nI 48) (nI 57))) := by
  refine zex_intro (L := [some (.int x)]) (by decide) (Nat.le_of_ble_eq_true rfl) rfl ?_
  refine zv_iload_n (pc' := 1) dX1_isDigit_0 rfl rfl ?_
  refine zv_bipush (v := nI 48) (pc' := 3) dX1_isDigit_1 rfl (by decide) ?_
  refine zv_icmp_lt (pc' := 6) (tgt := 16) dX1_isDigit_3 rfl rfl ?_ ?_
  · intro h
    refine zv_iconst (v := nI 0) (pc' := 17) dX1_isDigit_16 rfl (by decide) ?_
    refine zv_ireturn dX1_isDigit_17 rfl (by first | rfl | exact zb_nar _) ?_
    exact zpi_f (by simp [isInB, h])
  · intro h
    refine zv_iload_n (pc' := 7) dX1_isDigit_6 rfl rfl ?_
    refine zv_bipush (v := nI 57) (pc' := 9) dX1_isDigit_7 rfl (by decide) ?_
    refine zv_icmp_gt (pc' := 12) (tgt := 16) dX1_isDigit_9 rfl rfl ?_ ?_
    · intro h2
      refine zv_iconst (v := nI 0) (pc' := 17) dX1_isDigit_16 rfl (by decide) ?_
      refine zv_ireturn dX1_isDigit_17 rfl (by first | rfl | exact zb_nar _) ?_
      exact zpi_f (by simp [isInB, h2])
    · intro h2
      refine zv_iconst (v := nI 1) (pc' := 13) dX1_isDigit_12 rfl (by decide) ?_
      refine zv_goto (pc' := 17) dX1_isDigit_13 rfl ?_
      refine zv_ireturn dX1_isDigit_17 rfl (by first | rfl | exact zb_nar _) ?_
      exact zpi_t (by simp only [isInB, h, h2]; rfl)
theorem x1_badWithin {a : Nat} (h : zLt M l) (ha : a < l.1) (hz : lenN l a ≠ 0) : ZPi mdX1_badWithin (d + 5) [.ref 25, .int (nI a), .int (nI (lenN l a))] M (opt1 (zfst (lenN l a - 1) (a + 1) (fun j => !okB l a j))) := by
  have hor := lenN_or l a
  have h96 := h.2.2.1
  have h255 := h.2.2.2
  have hok : ∀ j, okB l a j = if j + 1 = a + lenN l a then decide (j < l.1) && decide (l.2 j = 59) else if j = a + 1 ∧ l.2 a = 112 then (kdO l j).isSome else dgB l j := fun j => rfl
  generalize hn : lenN l a = n at hor hz hok ⊢
  have lp : ∀ j q, q + j = a + n - 1 → a < q → zfst (n - 1) (a + 1) (fun j => !okB l a j) = zfst (j + 1) q (fun j => !okB l a j) → ZV mdX1_badWithin (d + 5) (fun v M' => v = some (.int (opt1 (zfst (n - 1) (a + 1) (fun j => !okB l a j)))) ∧ M' = M) 11 [some (.ref 25), some (.int (nI a)), some (.int (nI n)), some (.int (nI (a + n - 1))), some (.int (nI q)), none] [] M := by
    intro j
    induction j with
    | zero =>
      intro q e hq hzf
      have e : q = a + n - 1 := by omega
      rw [zfst] at hzf
      have hokq := hok q
      rw [if_pos (by omega)] at hokq
      rw [← e]
      refine zv_iload (pc' := 13) dX1_badWithin_11 rfl rfl ?_
      refine zv_iload_n (pc' := 14) dX1_badWithin_13 rfl rfl ?_
      refine zv_icmp_ge (pc' := 17) (tgt := 80) dX1_badWithin_14 rfl rfl (fun _ => ?_) (fun hcc => absurd (Int32.le_refl _) hcc)
      refine zv_aload_n (pc' := 81) dX1_badWithin_80 rfl rfl ?_
      refine zv_iload_n (pc' := 82) dX1_badWithin_81 rfl rfl ?_
      refine zv_cV1_pi (pc' := 85) dX1_badWithin_82 rfl lkX1_31 (by first | rfl | assumption) rfl (Nat.le_of_ble_eq_true rfl) (x1_at h (by omega)) ?_
      refine zv_bipush (v := nI 59) (pc' := 87) dX1_badWithin_85 rfl (by decide) ?_
      refine zv_icmp_ne (pc' := 90) (tgt := 94) dX1_badWithin_87 rfl rfl ?_ ?_
      · intro hne
        have hne := mt (lt_is (h255 q) (by omega)).mpr hne
        have hb : okB l a q = false := by
          rw [hokq]
          by_cases z1 : q < l.1
          · have : ¬ l.2 q = 59 := fun z2 => hne ⟨z1, z2⟩
            simp [this]
          · simp [z1]
        rw [hb, if_pos (by decide)] at hzf
        rw [hzf]
        refine zv_iload_n (pc' := 95) dX1_badWithin_94 rfl rfl ?_
        refine zv_iret dX1_badWithin_95 rfl ?_
        exact ⟨rfl, rfl⟩
      · intro heq
        have heq := (lt_is (h255 q) (by omega)).mp heq
        have hb : okB l a q = true := by rw [hokq]; simp [heq.1, heq.2]
        rw [hb, if_neg (by decide)] at hzf
        rw [hzf]
        refine zv_iconst (v := (-1 : Int32)) (pc' := 91) dX1_badWithin_90 rfl (by decide) ?_
        refine zv_goto (pc' := 95) dX1_badWithin_91 rfl ?_
        refine zv_iret dX1_badWithin_95 rfl ?_
        exact ⟨rfl, rfl⟩
    | succ j ih =>
      intro q e hq hzf
      rw [zfst] at hzf
      have bad : okB l a q = false → ZV mdX1_badWithin (d + 5) (fun v M' => v = some (.int (opt1 (zfst (n - 1) (a + 1) (fun j => !okB l a j)))) ∧ M' = M) 71 [some (.ref 25), some (.int (nI a)), some (.int (nI n)), some (.int (nI (a + n - 1))), some (.int (nI q)), none] [] M := by
        intro hb
        rw [hb, if_pos (by decide)] at hzf
        rw [hzf]
        refine zv_iload (pc' := 73) dX1_badWithin_71 rfl rfl ?_
        refine zv_iret dX1_badWithin_73 rfl ?_
        exact ⟨rfl, rfl⟩
      have good : okB l a q = true → ZV mdX1_badWithin (d + 5) (fun v M' => v = some (.int (opt1 (zfst (n - 1) (a + 1) (fun j => !okB l a j)))) ∧ M' = M) 74 [some (.ref 25), some (.int (nI a)), some (.int (nI n)), some (.int (nI (a + n - 1))), some (.int (nI q)), none] [] M := by
        intro hb
        rw [hb, if_neg (by decide)] at hzf
        refine zv_iinc (w := nI 1) (pc' := 77) dX1_badWithin_74 rfl rfl (by decide) (by decide) ?_
        refine zv_goto (pc' := 11) dX1_badWithin_77 rfl ?_
        rw [nI_add]
        exact ih (q + 1) (by omega) (by omega) hzf
      have kindq : ∀ b : Bool, b = decide (q = a + 1 ∧ l.2 a = 112) → ZV mdX1_badWithin (d + 5) (fun v M' => v = some (.int (opt1 (zfst (n - 1) (a + 1) (fun j => !okB l a j)))) ∧ M' = M) 40 [some (.ref 25), some (.int (nI a)), some (.int (nI n)), some (.int (nI (a + n - 1))), some (.int (nI q)), none] [.int (zb b)] M := by
        intro b hb
        have hokq := hok q
        rw [if_neg (by omega)] at hokq
        refine zv_istore (pc' := 42) dX1_badWithin_40 rfl (by decide) ?_
        refine zv_iload (pc' := 44) dX1_badWithin_42 rfl rfl ?_
        cases b
        · have hb : ¬ (q = a + 1 ∧ l.2 a = 112) := of_decide_eq_false hb.symm
          rw [if_neg hb] at hokq
          refine zv_if_eq (pc' := 47) (tgt := 59) dX1_badWithin_44 rfl rfl (fun _ => ?_) (fun hcc => absurd (rfl) hcc)
          refine zv_aload_n (pc' := 60) dX1_badWithin_59 rfl rfl ?_
          refine zv_iload (pc' := 62) dX1_badWithin_60 rfl rfl ?_
          refine zv_cV1_pi (pc' := 65) dX1_badWithin_62 rfl lkX1_31 (by first | rfl | assumption) rfl (Nat.le_of_ble_eq_true rfl) (x1_at h (by omega)) ?_
          refine zv_cS1_pi (pc' := 68) dX1_badWithin_65 rfl lkX1_37 (Nat.le_of_ble_eq_true rfl) (x1_isDigit) ?_
          rw [dg_is (h255 q), ← hokq]
          refine zv_if_ne (pc' := 71) (tgt := 74) dX1_badWithin_68 rfl rfl ?_ ?_
          · intro z
            refine zv_fg [5] ?_
            exact good (zb_ne.mp z)
          · intro z
            refine zv_fg [5] ?_
            exact bad (zb_0.mp z)
        · have hb : q = a + 1 ∧ l.2 a = 112 := of_decide_eq_true hb.symm
          rw [if_pos hb] at hokq
          refine zv_if_eq (pc' := 47) (tgt := 59) dX1_badWithin_44 rfl rfl (fun hcc => absurd hcc (by decide)) (fun _ => ?_)
          refine zv_aload_n (pc' := 48) dX1_badWithin_47 rfl rfl ?_
          refine zv_iload (pc' := 50) dX1_badWithin_48 rfl rfl ?_
          refine zv_cV1_pi (pc' := 53) dX1_badWithin_50 rfl lkX1_34 (by first | rfl | assumption) rfl (Nat.le_of_ble_eq_true rfl) (x1_kindAt h (by omega)) ?_
          cases hk : kdO l q with
          | none =>
            rw [hk] at hokq
            refine zv_if_ge (pc' := 56) (tgt := 74) dX1_badWithin_53 rfl rfl (fun hcc => absurd hcc ((show ¬ (0 : Int32) ≤ -1 by decide))) (fun _ => ?_)
            refine zv_goto (pc' := 71) dX1_badWithin_56 rfl ?_
            refine zv_fg [5] ?_
            exact bad hokq
          | some k =>
            rw [hk] at hokq
            have : k ≤ 5 := by
              unfold kdO at hk
              split at hk
              · exact kd_le hk
              · cases hk
            refine zv_if_ge (pc' := 56) (tgt := 74) dX1_badWithin_53 rfl rfl (fun _ => ?_) (fun hcc => absurd ((show (0 : Int32) ≤ nI k from nI_pos' (by omega))) hcc)
            refine zv_fg [5] ?_
            exact good hokq
      refine zv_iload (pc' := 13) dX1_badWithin_11 rfl rfl ?_
      refine zv_iload_n (pc' := 14) dX1_badWithin_13 rfl rfl ?_
      refine zv_icmp_ge (pc' := 17) (tgt := 80) dX1_badWithin_14 rfl rfl (fun hcc => absurd hcc (nI_ge (by omega) (by omega))) (fun _ => ?_)
      refine zv_iload (pc' := 19) dX1_badWithin_17 rfl rfl ?_
      refine zv_iload_n (pc' := 20) dX1_badWithin_19 rfl rfl ?_
      refine zv_iconst (v := nI 1) (pc' := 21) dX1_badWithin_20 rfl (by decide) ?_
      refine zv_iadd (pc' := 22) dX1_badWithin_21 rfl ?_
      refine zv_top (nI_add _ _) ?_
      refine zv_icmp_ne (pc' := 25) (tgt := 39) dX1_badWithin_22 rfl rfl ?_ ?_
      · intro hne
        have hne : ¬ q = a + 1 := fun z => hne (by rw [z])
        refine zv_iconst (v := nI 0) (pc' := 40) dX1_badWithin_39 rfl (by decide) ?_
        exact kindq false (by simp [hne])
      · intro heq
        have heq := (nI_eq (by omega) (by omega)).mp heq
        refine zv_aload_n (pc' := 26) dX1_badWithin_25 rfl rfl ?_
        refine zv_iload_n (pc' := 27) dX1_badWithin_26 rfl rfl ?_
        refine zv_cV1_pi (pc' := 30) dX1_badWithin_27 rfl lkX1_31 (by first | rfl | assumption) rfl (Nat.le_of_ble_eq_true rfl) (x1_at h (by omega)) ?_
        refine zv_bipush (v := nI 112) (pc' := 32) dX1_badWithin_30 rfl (by decide) ?_
        refine zv_icmp_ne (pc' := 35) (tgt := 39) dX1_badWithin_32 rfl rfl ?_ ?_
        · intro hne
          have hne : ¬ l.2 a = 112 := fun z => hne ((lt_is (h255 a) (by omega)).mpr ⟨ha, z⟩)
          refine zv_iconst (v := nI 0) (pc' := 40) dX1_badWithin_39 rfl (by decide) ?_
          exact kindq false (by simp [hne])
        · intro he
          have he := (lt_is (h255 a) (by omega)).mp he
          refine zv_iconst (v := nI 1) (pc' := 36) dX1_badWithin_35 rfl (by decide) ?_
          refine zv_goto (pc' := 40) dX1_badWithin_36 rfl ?_
          exact kindq true (by simp [heq, he.2])
  refine zex_intro (L := [some (.ref 25), some (.int (nI a)), some (.int (nI n)), none, none, none]) (by decide) (Nat.le_of_ble_eq_true rfl) rfl ?_
  refine zv_iload_n (pc' := 1) dX1_badWithin_0 rfl rfl ?_
  refine zv_iload_n (pc' := 2) dX1_badWithin_1 rfl rfl ?_
  refine zv_iadd (pc' := 3) dX1_badWithin_2 rfl ?_
  refine zv_top (nI_add _ _) ?_
  refine zv_iconst (v := nI 1) (pc' := 4) dX1_badWithin_3 rfl (by decide) ?_
  refine zv_isub (pc' := 5) dX1_badWithin_4 rfl ?_
  refine zv_top (pk_sub (by omega)) ?_
  refine zv_istore_n (pc' := 6) dX1_badWithin_5 rfl (by decide) ?_
  refine zv_iload_n (pc' := 7) dX1_badWithin_6 rfl rfl ?_
  refine zv_iconst (v := nI 1) (pc' := 8) dX1_badWithin_7 rfl (by decide) ?_
  refine zv_iadd (pc' := 9) dX1_badWithin_8 rfl ?_
  refine zv_top (nI_add _ _) ?_
  refine zv_istore (pc' := 11) dX1_badWithin_9 rfl (by decide) ?_
  exact lp (n - 2) (a + 1) (by omega) (by omega) (by rw [show n - 2 + 1 = n - 1 by omega])
theorem x1_badForm (h : zLt M l) : ZPi mdX1_badForm (d + 6) [.ref 25] M (opt1 (formO l)) := by
  have hN := h.1
  have h96 := h.2.2.1
  have lp : ∀ f k, f + k = 97 → 4 * k ≤ psN l k → formO l = fmO l f k → ZV mdX1_badForm (d + 6) (fun v M' => v = some (.int (opt1 (formO l))) ∧ M' = M) 11 [some (.ref 25), some (.int (nI (psN l k))), none, none] [] M := by
    intro f
    induction f with
    | zero =>
      intro k e h4 hf
      have hp := psN_le l k
      have hf : formO l = none := hf
      rw [hf]
      refine zv_iload_n (pc' := 12) dX1_badForm_11 rfl rfl ?_
      refine zv_aload_n (pc' := 13) dX1_badForm_12 rfl rfl ?_
      refine zv_getIE (pc' := 16) dX1_badForm_13 rfl flX1_15 (by first | rfl | assumption) rfl (by first | exact hN | rfl) ?_
      refine zv_icmp_ge (pc' := 19) (tgt := 51) dX1_badForm_16 rfl rfl (fun _ => ?_) (fun hcc => absurd (nI_le (by omega) (by omega)) hcc)
      refine zv_iconst (v := (-1 : Int32)) (pc' := 52) dX1_badForm_51 rfl (by decide) ?_
      refine zv_iret dX1_badForm_52 rfl ?_
      exact ⟨rfl, rfl⟩
    | succ f ih =>
      intro k e h4 hf
      have hp := psN_le l k
      have hor := lenN_or l (psN l k)
      rw [fmO] at hf
      by_cases hz : l.1 ≤ psN l k
      · rw [if_pos hz] at hf
        rw [hf]
        refine zv_iload_n (pc' := 12) dX1_badForm_11 rfl rfl ?_
        refine zv_aload_n (pc' := 13) dX1_badForm_12 rfl rfl ?_
        refine zv_getIE (pc' := 16) dX1_badForm_13 rfl flX1_15 (by first | rfl | assumption) rfl (by first | exact hN | rfl) ?_
        refine zv_icmp_ge (pc' := 19) (tgt := 51) dX1_badForm_16 rfl rfl (fun _ => ?_) (fun hcc => absurd (nI_le (by omega) (by omega)) hcc)
        refine zv_iconst (v := (-1 : Int32)) (pc' := 52) dX1_badForm_51 rfl (by decide) ?_
        refine zv_iret dX1_badForm_52 rfl ?_
        exact ⟨rfl, rfl⟩
      · rw [if_neg hz, bdA] at hf
        refine zv_iload_n (pc' := 12) dX1_badForm_11 rfl rfl ?_
        refine zv_aload_n (pc' := 13) dX1_badForm_12 rfl rfl ?_
        refine zv_getIE (pc' := 16) dX1_badForm_13 rfl flX1_15 (by first | rfl | assumption) rfl (by first | exact hN | rfl) ?_
        refine zv_icmp_ge (pc' := 19) (tgt := 51) dX1_badForm_16 rfl rfl (fun hcc => absurd hcc (nI_ge (by omega) (by omega))) (fun _ => ?_)
        refine zv_aload_n (pc' := 20) dX1_badForm_19 rfl rfl ?_
        refine zv_iload_n (pc' := 21) dX1_badForm_20 rfl rfl ?_
        refine zv_cV1_pi (pc' := 24) dX1_badForm_21 rfl lkX1_23 (by first | rfl | assumption) rfl (Nat.le_of_ble_eq_true rfl) (x1_lengthFrom h (by omega)) ?_
        by_cases h0 : lenN l (psN l k) = 0
        · rw [if_pos h0] at hf
          rw [h0, hf]
          refine zv_istore_n (pc' := 25) dX1_badForm_24 rfl (by decide) ?_
          refine zv_iload_n (pc' := 26) dX1_badForm_25 rfl rfl ?_
          refine zv_if_gt (pc' := 29) (tgt := 31) dX1_badForm_26 rfl rfl (fun hcc => absurd hcc (by decide)) (fun _ => ?_)
          refine zv_iload_n (pc' := 30) dX1_badForm_29 rfl rfl ?_
          refine zv_iret dX1_badForm_30 rfl ?_
          exact ⟨rfl, rfl⟩
        · rw [if_neg h0] at hf
          refine zv_istore_n (pc' := 25) dX1_badForm_24 rfl (by decide) ?_
          refine zv_iload_n (pc' := 26) dX1_badForm_25 rfl rfl ?_
          refine zv_if_gt (pc' := 29) (tgt := 31) dX1_badForm_26 rfl rfl (fun _ => ?_) (fun hcc => absurd ((nI_lt (a := 0) (by omega) (by omega))) hcc)
          refine zv_aload_n (pc' := 32) dX1_badForm_31 rfl rfl ?_
          refine zv_iload_n (pc' := 33) dX1_badForm_32 rfl rfl ?_
          refine zv_iload_n (pc' := 34) dX1_badForm_33 rfl rfl ?_
          refine zv_cV2_pi (pc' := 37) dX1_badForm_34 rfl lkX1_27 (by first | rfl | assumption) rfl (Nat.le_of_ble_eq_true rfl) (x1_badWithin h (by omega) h0) ?_
          refine zv_istore_n (pc' := 38) dX1_badForm_37 rfl (by decide) ?_
          refine zv_iload_n (pc' := 39) dX1_badForm_38 rfl rfl ?_
          cases hb : zfst (lenN l (psN l k) - 1) (psN l k + 1) (fun j => !okB l (psN l k) j) with
          | none =>
            rw [hb] at hf
            refine zv_if_lt (pc' := 42) (tgt := 44) dX1_badForm_39 rfl rfl (fun _ => ?_) (fun hcc => absurd ((show (-1 : Int32) < 0 by decide)) hcc)
            refine zv_iload_n (pc' := 45) dX1_badForm_44 rfl rfl ?_
            refine zv_iload_n (pc' := 46) dX1_badForm_45 rfl rfl ?_
            refine zv_iadd (pc' := 47) dX1_badForm_46 rfl ?_
            refine zv_top (nI_add _ _) ?_
            refine zv_istore_n (pc' := 48) dX1_badForm_47 rfl (by decide) ?_
            refine zv_goto (pc' := 11) dX1_badForm_48 rfl ?_
            refine zv_fg [2, 3] ?_
            exact ih (k + 1) (by omega) (by rw [psN]; omega) hf
          | some j =>
            have hj := (zfst_some.mp hb).2.1
            rw [hb] at hf
            rw [hf]
            refine zv_if_lt (pc' := 42) (tgt := 44) dX1_badForm_39 rfl rfl (fun hcc => absurd hcc ((show ¬ nI j < 0 from nI_pos (by omega)))) (fun _ => ?_)
            refine zv_iload_n (pc' := 43) dX1_badForm_42 rfl rfl ?_
            refine zv_iret dX1_badForm_43 rfl ?_
            exact ⟨rfl, rfl⟩
  refine zex_intro (L := [some (.ref 25), none, none, none]) (by decide) (Nat.le_of_ble_eq_true rfl) rfl ?_
  refine zv_aload_n (pc' := 1) dX1_badForm_0 rfl rfl ?_
  refine zv_getIE (pc' := 4) dX1_badForm_1 rfl flX1_15 (by first | rfl | assumption) rfl (by first | exact hN | rfl) ?_
  by_cases h0 : l.1 = 0
  · rw [h0]
    refine zv_if_ne (pc' := 7) (tgt := 9) dX1_badForm_4 rfl rfl (fun hcc => absurd (rfl) hcc) (fun _ => ?_)
    refine zv_iconst (v := nI 0) (pc' := 8) dX1_badForm_7 rfl (by decide) ?_
    refine zv_iret dX1_badForm_8 rfl ?_
    exact ⟨by rw [formO, if_pos h0]; rfl, rfl⟩
  · refine zv_if_ne (pc' := 7) (tgt := 9) dX1_badForm_4 rfl rfl (fun _ => ?_) (fun hcc => absurd hcc (nI_ne0 (by omega) (by omega)))
    refine zv_iconst (v := nI 0) (pc' := 10) dX1_badForm_9 rfl (by decide) ?_
    refine zv_istore_n (pc' := 11) dX1_badForm_10 rfl (by decide) ?_
    exact lp 97 0 (by omega) (by omega) (by rw [formO, if_neg h0])
end
