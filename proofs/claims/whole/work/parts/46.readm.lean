/-! county: the reference reads -/
def zLm (M : ZMem) (l : ZLt) : Prop := M 90 13 = nI l.1 ∧ (∀ j, j < l.1 → M 97 j = nI (l.2 j)) ∧ l.1 ≤ 96 ∧ ∀ j, l.2 j ≤ 255
theorem zLm.same {M M' : ZMem} {l : ZLt} {ps fs : List Nat} (h : zLm M l) (hs : zFr ps fs M M') (h1 : 97 ∉ ps) (h2 : 13 ∉ fs) : zLm M' l := by
  unfold zLm
  rw [hs.2 13 h2, hs.1 97 h1 (by decide)]
  exact h
def rdN (l : ZLt) (a : Nat) : Nat → Nat
  | 0 => 0
  | i + 1 => 10 * rdN l a i + dg l (a + i)
def kdI (x : Int32) : Int32 := if x = nI 112 then nI 0 else if x = nI 108 then nI 1 else if x = nI 116 then nI 2 else if x = nI 119 then nI 3 else if x = nI 100 then nI 4 else if x = nI 97 then nI 5 else -1
theorem kdI_is {l : ZLt} {j : Nat} (h : l.2 j ≤ 255) : kdI (ltI l j) = opt1 (kdO l j) := by
  unfold kdI kdO
  by_cases hj : j < l.1
  · simp only [lt_is h (show 112 < 256 by decide), lt_is h (show 108 < 256 by decide), lt_is h (show 116 < 256 by decide), lt_is h (show 119 < 256 by decide), lt_is h (show 100 < 256 by decide), lt_is h (show 97 < 256 by decide), hj, true_and, if_true]
    unfold kd
    repeat' split
    all_goals rfl
  · simp only [lt_is h (show 112 < 256 by decide), lt_is h (show 108 < 256 by decide), lt_is h (show 116 < 256 by decide), lt_is h (show 119 < 256 by decide), lt_is h (show 100 < 256 by decide), lt_is h (show 97 < 256 by decide), hj, false_and, if_false]
    rfl
section
variable {d : Nat} {M : ZMem} {l : ZLt}
theorem x7_next {a : Nat} (h : zLm M l) (ha : M 90 14 = nI a) (ha2 : a < 2 ^ 31) : ZPi mdX7_next d [.ref 90] M (ltI l a) := by
  obtain ⟨hN, hL, h96, h255⟩ := h
  refine zex_intro (L := [some (.ref 90)]) (by decide) (Nat.le_of_ble_eq_true rfl) rfl ?_
  refine zv_aload_n (pc' := 1) dX7_next_0 rfl rfl ?_
  refine zv_getIE (pc' := 4) dX7_next_1 rfl flX7_93 (by first | rfl | assumption) rfl (by first | exact hN | exact ha | exact hL _ (by omega) | rfl) ?_
  refine zv_aload_n (pc' := 5) dX7_next_4 rfl rfl ?_
  refine zv_getIE (pc' := 8) dX7_next_5 rfl flX7_86 (by first | rfl | assumption) rfl (by first | exact hN | exact ha | exact hL _ (by omega) | rfl) ?_
  refine zv_icmp_ge (pc' := 11) (tgt := 23) dX7_next_8 rfl rfl ?_ ?_
  · intro z
    have z := (nI_leI (by omega) (by omega)).mp z
    refine zv_iconst (v := (-1 : Int32)) (pc' := 24) dX7_next_23 rfl (by decide) ?_
    refine zv_iret dX7_next_24 rfl ?_
    exact zpi_ret (by rw [ltI, if_neg (by omega)])
  · intro z
    have z := mt (nI_leI (a := l.1) (b := a) (by omega) (by omega)).mpr z
    refine zv_aload_n (pc' := 12) dX7_next_11 rfl rfl ?_
    refine zv_getR (pc' := 15) dX7_next_12 rfl flX7_32 (by first | rfl | assumption) rfl ?_
    refine zv_aload_n (pc' := 16) dX7_next_15 rfl rfl ?_
    refine zv_getIE (pc' := 19) dX7_next_16 rfl flX7_93 (by first | rfl | assumption) rfl (by first | exact hN | exact ha | exact hL _ (by omega) | rfl) ?_
    refine zv_ialoadE (pc' := 20) dX7_next_19 rfl (by first | rfl | assumption) (by decide) (by omega) (by first | exact hN | exact ha | exact hL _ (by omega) | rfl) ?_
    refine zv_goto (pc' := 24) dX7_next_20 rfl ?_
    refine zv_iret dX7_next_24 rfl ?_
    exact zpi_ret (by rw [ltI, if_pos (by omega)])
theorem x7_readsDigits {a p n : Nat} (h : zLm M l) (ha : M 90 14 = nI a) (ha2 : a < 1000) (hp : p < 144) (hn : n < 3) : ZFi mdX7_readsDigits (d + 1) [.ref 90, .int (nI p), .int (nI n)] M (fun x M' => ((zfst n a (fun j => !dgB l j) = none ∧ x = zb true ∧ M' 90 14 = nI (a + n) ∧ M' 100 p = nI (rdN l a n)) ∨ ∃ b, zfst n a (fun j => !dgB l j) = some b ∧ x = zb false ∧ M' 90 14 = nI b) ∧ (∀ i, i ≠ p → M' 100 i = M 100 i) ∧ zFr [100] [14] M M') := by
  have lp : ∀ r i M1, i + r = n → (∀ j, a ≤ j → j < a + i → dgB l j = true) → M1 90 14 = nI (a + i) → zFr [] [14] M M1 → ZV mdX7_readsDigits (d + 1) (fun v M' => ∃ x, v = some (.int x) ∧ (((zfst n a (fun j => !dgB l j) = none ∧ x = zb true ∧ M' 90 14 = nI (a + n) ∧ M' 100 p = nI (rdN l a n)) ∨ ∃ b, zfst n a (fun j => !dgB l j) = some b ∧ x = zb false ∧ M' 90 14 = nI b) ∧ (∀ i, i ≠ p → M' 100 i = M 100 i) ∧ zFr [100] [14] M M')) 5 [some (.ref 90), some (.int (nI p)), some (.int (nI n)), some (.int (nI (rdN l a i))), some (.int (nI i))] [] M1 := by
    intro r
    induction r with
    | zero =>
      intro i M1 e hg h1 s1
      have e : i = n := by omega
      subst e
      refine zv_iload (pc' := 7) dX7_readsDigits_5 rfl rfl ?_
      refine zv_iload_n (pc' := 8) dX7_readsDigits_7 rfl rfl ?_
      refine zv_icmp_ge (pc' := 11) (tgt := 56) dX7_readsDigits_8 rfl rfl (fun _ => ?_) (fun hcc => absurd (Int32.le_refl _) hcc)
      refine zv_aload_n (pc' := 57) dX7_readsDigits_56 rfl rfl ?_
      refine zv_getR (pc' := 60) dX7_readsDigits_57 rfl flX7_41 (by first | rfl | assumption) rfl ?_
      refine zv_iload_n (pc' := 61) dX7_readsDigits_60 rfl rfl ?_
      refine zv_iload_n (pc' := 62) dX7_readsDigits_61 rfl rfl ?_
      refine zv_iastoreN (pc' := 63) dX7_readsDigits_62 rfl (by first | rfl | assumption) (by decide) (by omega) ?_
      refine zv_iconst (v := nI 1) (pc' := 64) dX7_readsDigits_63 rfl (by decide) ?_
      refine zv_ireturn dX7_readsDigits_64 rfl (by first | rfl | exact zb_nar _) ?_
      refine ⟨_, rfl, Or.inl ⟨zfst_none.mpr (fun j g1 g2 => by rw [hg j g1 g2]; rfl), rfl, by rw [zup_ne (by decide)]; exact h1, by rw [zup_eq, upd_s]⟩, fun j hj => ?_, (s1.mono (by simp) (by simp)).tr (zFr.up (by decide) (by decide))⟩
      rw [zup_eq, upd_n hj, s1.1 100 (by simp) (by decide)]
    | succ r ih =>
      intro i M1 e hg h1 s1
      have hL1 := h.same s1 (by simp) (by simp)
      have h255 := h.2.2.2 (a + i)
      refine zv_iload (pc' := 7) dX7_readsDigits_5 rfl rfl ?_
      refine zv_iload_n (pc' := 8) dX7_readsDigits_7 rfl rfl ?_
      refine zv_icmp_ge (pc' := 11) (tgt := 56) dX7_readsDigits_8 rfl rfl (fun hcc => absurd hcc (nI_ge (by omega) (by omega))) (fun _ => ?_)
      refine zv_aload_n (pc' := 12) dX7_readsDigits_11 rfl rfl ?_
      refine zv_cV0_pi (pc' := 15) dX7_readsDigits_12 rfl lkX7_96 (by first | rfl | assumption) rfl (Nat.le_of_ble_eq_true rfl) (x7_next hL1 h1 (by omega)) ?_
      refine zv_bipush (v := nI 48) (pc' := 17) dX7_readsDigits_15 rfl (by decide) ?_
      refine zv_bipush (v := nI 57) (pc' := 19) dX7_readsDigits_17 rfl (by decide) ?_
      refine zv_cS3_pi (pc' := 22) dX7_readsDigits_19 rfl lkX7_100 (Nat.le_of_ble_eq_true rfl) (x7_isIn) ?_
      rw [dg_is h255]
      refine zv_if_ne (pc' := 25) (tgt := 27) dX7_readsDigits_22 rfl rfl ?_ ?_
      · intro z
        have z := zb_ne.mp z
        obtain ⟨q1, q2, q3, q4⟩ := dgB_of z
        refine zv_bipush (v := nI 10) (pc' := 29) dX7_readsDigits_27 rfl (by decide) ?_
        refine zv_iload_n (pc' := 30) dX7_readsDigits_29 rfl rfl ?_
        refine zv_imul (pc' := 31) dX7_readsDigits_30 rfl ?_
        refine zv_top (pk_mul 10 _) ?_
        refine zv_aload_n (pc' := 32) dX7_readsDigits_31 rfl rfl ?_
        refine zv_cV0_pi (pc' := 35) dX7_readsDigits_32 rfl lkX7_96 (by first | rfl | assumption) rfl (Nat.le_of_ble_eq_true rfl) (x7_next hL1 h1 (by omega)) ?_
        rw [show ltI l (a + i) = nI (l.2 (a + i)) from if_pos q1]
        refine zv_iadd (pc' := 36) dX7_readsDigits_35 rfl ?_
        refine zv_top (nI_add _ _) ?_
        refine zv_bipush (v := nI 48) (pc' := 38) dX7_readsDigits_36 rfl (by decide) ?_
        refine zv_isub (pc' := 39) dX7_readsDigits_38 rfl ?_
        refine zv_top (pk_sub (by omega)) ?_
        refine zv_istore_n (pc' := 40) dX7_readsDigits_39 rfl (by decide) ?_
        refine zv_aload_n (pc' := 41) dX7_readsDigits_40 rfl rfl ?_
        refine zv_dup (pc' := 42) dX7_readsDigits_41 rfl rfl ?_
        refine zv_getIE (pc' := 45) dX7_readsDigits_42 rfl flX7_93 (by first | rfl | assumption) rfl (by first | exact h1 | rfl) ?_
        refine zv_iconst (v := nI 1) (pc' := 46) dX7_readsDigits_45 rfl (by decide) ?_
        refine zv_iadd (pc' := 47) dX7_readsDigits_46 rfl ?_
        refine zv_top (nI_add _ _) ?_
        refine zv_putI (pc' := 50) dX7_readsDigits_47 rfl flX7_93 pfX7_14 (by first | rfl | assumption) rfl rfl rfl ?_
        refine zv_iinc (w := nI 1) (pc' := 53) dX7_readsDigits_50 rfl rfl (by decide) (by decide) ?_
        refine zv_goto (pc' := 5) dX7_readsDigits_53 rfl ?_
        rw [nI_add, show 10 * rdN l a i + l.2 (a + i) - 48 = rdN l a (i + 1) by rw [rdN, dg]; omega]
        refine ih (i + 1) _ (by omega) (fun j g1 g2 => ?_) (by rw [zup_eq, upd_s]; congr 1) (s1.tr (zFr.uf (by decide)))
        by_cases w : j = a + i
        · rw [w]; exact z
        · exact hg j g1 (by omega)
      · intro z
        have z := zb_0.mp z
        refine zv_iconst (v := nI 0) (pc' := 26) dX7_readsDigits_25 rfl (by decide) ?_
        refine zv_ireturn dX7_readsDigits_26 rfl (by first | rfl | exact zb_nar _) ?_
        refine ⟨_, rfl, Or.inr ⟨a + i, zfst_some.mpr ⟨by omega, by omega, by rw [z]; rfl, fun j g1 g2 => by rw [hg j g1 g2]; rfl⟩, rfl, h1⟩, fun j hj => by rw [s1.1 100 (by simp) (by decide)], s1.mono (by simp) (by simp)⟩
  refine zex_intro (L := [some (.ref 90), some (.int (nI p)), some (.int (nI n)), none, none]) (by decide) (Nat.le_of_ble_eq_true rfl) rfl ?_
  refine zv_iconst (v := nI 0) (pc' := 1) dX7_readsDigits_0 rfl (by decide) ?_
  refine zv_istore_n (pc' := 2) dX7_readsDigits_1 rfl (by decide) ?_
  refine zv_iconst (v := nI 0) (pc' := 3) dX7_readsDigits_2 rfl (by decide) ?_
  refine zv_istore (pc' := 5) dX7_readsDigits_3 rfl (by decide) ?_
  exact lp n 0 M (by omega) (fun j g1 g2 => by omega) ha zFr.rf
theorem x7_kindOf {x : Int32} : ZPi mdX7_kindOf d [.int x] M (kdI x) := by
  have out : ∀ y, y = kdI x → ZV mdX7_kindOf d (fun v M' => v = some (.int (kdI x)) ∧ M' = M) 61 [some (.int x)] [.int y] M := by
    intro y hy
    refine zv_iret dX7_kindOf_61 rfl ?_
    exact ⟨by rw [hy], rfl⟩
  refine zex_intro (L := [some (.int x)]) (by decide) (Nat.le_of_ble_eq_true rfl) rfl ?_
  refine zv_iload_n (pc' := 1) dX7_kindOf_0 rfl rfl ?_
  refine zv_bipush (v := nI 112) (pc' := 3) dX7_kindOf_1 rfl (by decide) ?_
  refine zv_icmp_ne (pc' := 6) (tgt := 10) dX7_kindOf_3 rfl rfl ?_ ?_
  · intro h1
    refine zv_iload_n (pc' := 11) dX7_kindOf_10 rfl rfl ?_
    refine zv_bipush (v := nI 108) (pc' := 13) dX7_kindOf_11 rfl (by decide) ?_
    refine zv_icmp_ne (pc' := 16) (tgt := 20) dX7_kindOf_13 rfl rfl ?_ ?_
    · intro h2
      refine zv_iload_n (pc' := 21) dX7_kindOf_20 rfl rfl ?_
      refine zv_bipush (v := nI 116) (pc' := 23) dX7_kindOf_21 rfl (by decide) ?_
      refine zv_icmp_ne (pc' := 26) (tgt := 30) dX7_kindOf_23 rfl rfl ?_ ?_
      · intro h3
        refine zv_iload_n (pc' := 31) dX7_kindOf_30 rfl rfl ?_
        refine zv_bipush (v := nI 119) (pc' := 33) dX7_kindOf_31 rfl (by decide) ?_
        refine zv_icmp_ne (pc' := 36) (tgt := 40) dX7_kindOf_33 rfl rfl ?_ ?_
        · intro h4
          refine zv_iload_n (pc' := 41) dX7_kindOf_40 rfl rfl ?_
          refine zv_bipush (v := nI 100) (pc' := 43) dX7_kindOf_41 rfl (by decide) ?_
          refine zv_icmp_ne (pc' := 46) (tgt := 50) dX7_kindOf_43 rfl rfl ?_ ?_
          · intro h5
            refine zv_iload_n (pc' := 51) dX7_kindOf_50 rfl rfl ?_
            refine zv_bipush (v := nI 97) (pc' := 53) dX7_kindOf_51 rfl (by decide) ?_
            refine zv_icmp_ne (pc' := 56) (tgt := 60) dX7_kindOf_53 rfl rfl ?_ ?_
            · intro h6
              refine zv_iconst (v := (-1 : Int32)) (pc' := 61) dX7_kindOf_60 rfl (by decide) ?_
              exact out _ (by rw [kdI, if_neg h1, if_neg h2, if_neg h3, if_neg h4, if_neg h5, if_neg h6])
            · intro h6
              refine zv_iconst (v := nI 5) (pc' := 57) dX7_kindOf_56 rfl (by decide) ?_
              refine zv_goto (pc' := 61) dX7_kindOf_57 rfl ?_
              exact out _ (by rw [kdI, if_neg h1, if_neg h2, if_neg h3, if_neg h4, if_neg h5, if_pos h6])
          · intro h5
            refine zv_iconst (v := nI 4) (pc' := 47) dX7_kindOf_46 rfl (by decide) ?_
            refine zv_goto (pc' := 61) dX7_kindOf_47 rfl ?_
            exact out _ (by rw [kdI, if_neg h1, if_neg h2, if_neg h3, if_neg h4, if_pos h5])
        · intro h4
          refine zv_iconst (v := nI 3) (pc' := 37) dX7_kindOf_36 rfl (by decide) ?_
          refine zv_goto (pc' := 61) dX7_kindOf_37 rfl ?_
          exact out _ (by rw [kdI, if_neg h1, if_neg h2, if_neg h3, if_pos h4])
      · intro h3
        refine zv_iconst (v := nI 2) (pc' := 27) dX7_kindOf_26 rfl (by decide) ?_
        refine zv_goto (pc' := 61) dX7_kindOf_27 rfl ?_
        exact out _ (by rw [kdI, if_neg h1, if_neg h2, if_pos h3])
    · intro h2
      refine zv_iconst (v := nI 1) (pc' := 17) dX7_kindOf_16 rfl (by decide) ?_
      refine zv_goto (pc' := 61) dX7_kindOf_17 rfl ?_
      exact out _ (by rw [kdI, if_neg h1, if_pos h2])
  · intro h1
    refine zv_iconst (v := nI 0) (pc' := 7) dX7_kindOf_6 rfl (by decide) ?_
    refine zv_goto (pc' := 61) dX7_kindOf_7 rfl ?_
    exact out _ (by rw [kdI, if_pos h1])
end
/-- the first bad place from j on -/
def fbO (l : ZLt) (st j : Nat) : Option Nat := zfst (st + lenN l st - j) j (fun j => !okB l st j)
theorem fbO_ok {l : ZLt} {st j : Nat} (hj : j < st + lenN l st) (h : okB l st j = true) : fbO l st j = fbO l st (j + 1) := by
  unfold fbO
  rw [show st + lenN l st - j = (st + lenN l st - (j + 1)) + 1 by omega, zfst, h, if_neg (by decide)]
theorem fbO_bad {l : ZLt} {st j : Nat} (hj : j < st + lenN l st) (h : okB l st j = false) : fbO l st j = some j := by
  unfold fbO
  rw [show st + lenN l st - j = (st + lenN l st - (j + 1)) + 1 by omega, zfst, h, if_pos (by decide)]
theorem fbO_dig {l : ZLt} {st j n : Nat} (hj : j + n < st + lenN l st) (hd : ∀ i, j ≤ i → i < j + n → okB l st i = dgB l i) : (zfst n j (fun j => !dgB l j) = none → fbO l st j = fbO l st (j + n)) ∧ ∀ b, zfst n j (fun j => !dgB l j) = some b → fbO l st j = some b := by
  induction n generalizing j with
  | zero => exact ⟨fun _ => rfl, fun b z => (by cases z)⟩
  | succ n ih =>
    have ih := ih (j := j + 1) (by omega) (fun i g1 g2 => hd i (by omega) (by omega))
    have h0 := hd j (by omega) (by omega)
    rw [zfst]
    cases hb : dgB l j with
    | true =>
      rw [hb] at h0
      rw [if_neg (by decide), fbO_ok (by omega) h0]
      rw [show j + 1 + n = j + (n + 1) by omega] at ih
      exact ih
    | false =>
      rw [hb] at h0
      rw [if_pos (by decide), fbO_bad (by omega) h0]
      exact ⟨fun z => (by cases z), fun b z => z⟩
def tdC (x : Nat) : Nat := if x = 112 then 3 else if x = 109 then 2 else if x = 121 then 1 else 2
def tdN (l : ZLt) (st i : Nat) : Nat := if l.2 st = 112 then (if i = 0 then (kdO l (st + 1)).getD 0 else if i = 1 then dg l (st + 2) else nm l (st + 3)) else if l.2 st = 109 then (if i = 0 then dg l (st + 1) else nm l (st + 2)) else if l.2 st = 121 then nm l (st + 1) else dg l (st + 1 + i)
theorem rdN_1 {l : ZLt} {a : Nat} : rdN l a 1 = dg l a := by
  show 10 * 0 + dg l (a + 0) = dg l a
  rw [Nat.add_zero]; omega
theorem rdN_2 {l : ZLt} {a : Nat} : rdN l a 2 = nm l a := by
  show 10 * (10 * 0 + dg l (a + 0)) + dg l (a + 1) = nm l a
  unfold nm
  rw [Nat.add_zero]; omega
section
variable {d : Nat} {M : ZMem} {l : ZLt}
/-- what reading all of a statement's tokens leaves -/
def rdQ (l : ZLt) (st p : Nat) (M : ZMem) (x : Int32) (M' : ZMem) : Prop := ((x = zb true ∧ fbO l st (st + 1) = fbO l st (st + lenN l st - 1) ∧ M' 90 14 = nI (st + lenN l st - 1) ∧ ∀ i, i < tdC (l.2 st) → M' 100 (p + i) = nI (tdN l st i)) ∨ ∃ b, x = zb false ∧ fbO l st (st + 1) = some b ∧ M' 90 14 = nI b) ∧ (∀ i, (i < p ∨ p + 3 ≤ i) → M' 100 i = M 100 i) ∧ zFr [100] [14] M M'
theorem okB_dig {l : ZLt} {st i : Nat} (h1 : i + 1 < st + lenN l st) (h2 : ¬ (i = st + 1 ∧ l.2 st = 112)) : okB l st i = dgB l i := by
  rw [okB, if_neg (by omega), if_neg h2]
theorem x7_readsOne {st p : Nat} (h : zLm M l) (hst : st < l.1) (hx : l.2 st = 112) (ha : M 90 14 = nI (st + 1)) (hp : p + 3 ≤ 144) : ZFi mdX7_readsOne (d + 2) [.ref 90, .int (nI p)] M (rdQ l st p M) := by
  have h96 := h.2.2.1
  have hlen : lenN l st = 6 := by rw [lenN, if_pos hst, lnC, if_pos hx]
  have htc : tdC (l.2 st) = 3 := by rw [tdC, if_pos hx]
  have hok1 : okB l st (st + 1) = (kdO l (st + 1)).isSome := by rw [okB, if_neg (by omega), if_pos ⟨rfl, hx⟩]
  refine zex_intro (L := [some (.ref 90), some (.int (nI p))]) (by decide) (Nat.le_of_ble_eq_true rfl) rfl ?_
  refine zv_aload_n (pc' := 1) dX7_readsOne_0 rfl rfl ?_
  refine zv_getR (pc' := 4) dX7_readsOne_1 rfl flX7_41 (by first | rfl | assumption) rfl ?_
  refine zv_iload_n (pc' := 5) dX7_readsOne_4 rfl rfl ?_
  refine zv_aload_n (pc' := 6) dX7_readsOne_5 rfl rfl ?_
  refine zv_cV0_pi (pc' := 9) dX7_readsOne_6 rfl lkX7_96 (by first | rfl | assumption) rfl (Nat.le_of_ble_eq_true rfl) (x7_next h ha (by omega)) ?_
  refine zv_cS1_pi (pc' := 12) dX7_readsOne_9 rfl lkX7_104 (Nat.le_of_ble_eq_true rfl) (x7_kindOf) ?_
  rw [kdI_is (h.2.2.2 _)]
  refine zv_iastoreN (pc' := 13) dX7_readsOne_12 rfl (by first | rfl | assumption) (by decide) (by omega) ?_
  have r1 : zup M 100 p (opt1 (kdO l (st + 1))) 100 p = opt1 (kdO l (st + 1)) := by rw [zup_eq, upd_s]
  have f1 : zFr [100] [14] M (zup M 100 p (opt1 (kdO l (st + 1)))) := zFr.up (by decide) (by decide)
  have o1 : ∀ i, i ≠ p → zup M 100 p (opt1 (kdO l (st + 1))) 100 i = M 100 i := fun i hi => by rw [zup_eq, upd_n hi]
  have a1 : zup M 100 p (opt1 (kdO l (st + 1))) 90 14 = nI (st + 1) := by rw [zup_ne (by decide)]; exact ha
  have l1 : zLm (zup M 100 p (opt1 (kdO l (st + 1)))) l := h.same (zFr.up (ps := [100]) (fs := []) (by decide) (by decide)) (by decide) (by decide)
  generalize zup M 100 p (opt1 (kdO l (st + 1))) = M1 at r1 f1 o1 a1 l1 ⊢
  cases hk : kdO l (st + 1) with
  | none =>
    rw [hk] at r1 hok1
    refine zv_aload_n (pc' := 14) dX7_readsOne_13 rfl rfl ?_
    refine zv_getR (pc' := 17) dX7_readsOne_14 rfl flX7_41 (by first | rfl | assumption) rfl ?_
    refine zv_iload_n (pc' := 18) dX7_readsOne_17 rfl rfl ?_
    refine zv_ialoadE (pc' := 19) dX7_readsOne_18 rfl (by first | rfl | assumption) (by decide) (by omega) (by first | exact r1 | rfl) ?_
    refine zv_if_ge (pc' := 22) (tgt := 24) dX7_readsOne_19 rfl rfl (fun hcc => absurd hcc ((show ¬ (0 : Int32) ≤ -1 by decide))) (fun _ => ?_)
    refine zv_iconst (v := nI 0) (pc' := 23) dX7_readsOne_22 rfl (by decide) ?_
    refine zv_ireturn dX7_readsOne_23 rfl (by first | rfl | exact zb_nar _) ?_
    exact ⟨_, rfl, Or.inr ⟨st + 1, rfl, fbO_bad (by omega) hok1, a1⟩, fun i hi => o1 i (by omega), f1⟩
  | some k =>
    have hk5 := (kdO_of hk).2.2
    rw [hk] at r1 hok1
    have r1 : M1 100 p = nI k := r1
    refine zv_aload_n (pc' := 14) dX7_readsOne_13 rfl rfl ?_
    refine zv_getR (pc' := 17) dX7_readsOne_14 rfl flX7_41 (by first | rfl | assumption) rfl ?_
    refine zv_iload_n (pc' := 18) dX7_readsOne_17 rfl rfl ?_
    refine zv_ialoadE (pc' := 19) dX7_readsOne_18 rfl (by first | rfl | assumption) (by decide) (by omega) (by first | exact r1 | exact a1 | rfl) ?_
    refine zv_if_ge (pc' := 22) (tgt := 24) dX7_readsOne_19 rfl rfl (fun _ => ?_) (fun hcc => absurd (nI_pos' (by omega)) hcc)
    refine zv_aload_n (pc' := 25) dX7_readsOne_24 rfl rfl ?_
    refine zv_dup (pc' := 26) dX7_readsOne_25 rfl rfl ?_
    refine zv_getIE (pc' := 29) dX7_readsOne_26 rfl flX7_93 (by first | rfl | assumption) rfl (by first | exact r1 | exact a1 | rfl) ?_
    refine zv_iconst (v := nI 1) (pc' := 30) dX7_readsOne_29 rfl (by decide) ?_
    refine zv_iadd (pc' := 31) dX7_readsOne_30 rfl ?_
    refine zv_top (nI_add _ _) ?_
    refine zv_putI (pc' := 34) dX7_readsOne_31 rfl flX7_93 pfX7_14 (by first | rfl | assumption) rfl rfl rfl ?_
    have f2 : zFr [] [14] M1 (zup M1 90 14 (nI (st + 1 + 1))) := zFr.uf (by decide)
    have a2 : zup M1 90 14 (nI (st + 1 + 1)) 90 14 = nI (st + 2) := by rw [zup_eq, upd_s]
    generalize zup M1 90 14 (nI (st + 1 + 1)) = M2 at f2 a2 ⊢
    have l2 := l1.same f2 (by decide) (by decide)
    have e2 : M2 100 = M1 100 := f2.1 100 (by decide) (by decide)
    refine zv_aload_n (pc' := 35) dX7_readsOne_34 rfl rfl ?_
    refine zv_iload_n (pc' := 36) dX7_readsOne_35 rfl rfl ?_
    refine zv_iconst (v := nI 1) (pc' := 37) dX7_readsOne_36 rfl (by decide) ?_
    refine zv_iadd (pc' := 38) dX7_readsOne_37 rfl ?_
    refine zv_top (nI_add _ _) ?_
    refine zv_iconst (v := nI 1) (pc' := 39) dX7_readsOne_38 rfl (by decide) ?_
    refine zv_cV2_fi (pc' := 42) dX7_readsOne_39 rfl lkX7_107 (by first | rfl | assumption) rfl (Nat.le_of_ble_eq_true rfl) (x7_readsDigits l2 a2 (by omega) (by omega) (by omega)) ?_
    rintro x M3 ⟨h3, o3, f3⟩
    have g3 := fbO_dig (l := l) (st := st) (j := st + 2) (n := 1) (by omega) (fun i q1 q2 => okB_dig (by omega) (by omega))
    have f13 : zFr [100] [14] M M3 := f1.tr ((f2.mono (by simp) (by simp)).tr f3)
    rcases h3 with ⟨z1, rfl, z3, z4⟩ | ⟨b, z1, rfl, z3⟩
    · have l3 := l2.same f3 (by decide) (by decide)
      refine zv_if_eq (pc' := 45) (tgt := 60) dX7_readsOne_42 rfl rfl (fun hcc => absurd hcc (by decide)) (fun _ => ?_)
      refine zv_aload_n (pc' := 46) dX7_readsOne_45 rfl rfl ?_
      refine zv_iload_n (pc' := 47) dX7_readsOne_46 rfl rfl ?_
      refine zv_iconst (v := nI 2) (pc' := 48) dX7_readsOne_47 rfl (by decide) ?_
      refine zv_iadd (pc' := 49) dX7_readsOne_48 rfl ?_
      refine zv_top (nI_add _ _) ?_
      refine zv_iconst (v := nI 2) (pc' := 50) dX7_readsOne_49 rfl (by decide) ?_
      refine zv_cV2_fi (pc' := 53) dX7_readsOne_50 rfl lkX7_107 (by first | rfl | assumption) rfl (Nat.le_of_ble_eq_true rfl) (x7_readsDigits l3 z3 (by omega) (by omega) (by omega)) ?_
      rintro x M4 ⟨h4, o4, f4⟩
      have g4 := fbO_dig (l := l) (st := st) (j := st + 3) (n := 2) (by omega) (fun i q1 q2 => okB_dig (by omega) (by omega))
      have oo : ∀ i, (i < p ∨ p + 3 ≤ i) → M4 100 i = M 100 i := fun i hi => by rw [o4 i (by omega), o3 i (by omega), e2, o1 i (by omega)]
      rcases h4 with ⟨y1, rfl, y3, y4⟩ | ⟨b, y1, rfl, y3⟩
      · refine zv_if_eq (pc' := 56) (tgt := 60) dX7_readsOne_53 rfl rfl (fun hcc => absurd hcc (by decide)) (fun _ => ?_)
        refine zv_iconst (v := nI 1) (pc' := 57) dX7_readsOne_56 rfl (by decide) ?_
        refine zv_goto (pc' := 61) dX7_readsOne_57 rfl ?_
        refine zv_ireturn dX7_readsOne_61 rfl (by first | rfl | exact zb_nar _) ?_
        refine ⟨_, rfl, Or.inl ⟨rfl, ?_, ?_, fun i hi => ?_⟩, oo, f13.tr f4⟩
        · rw [fbO_ok (by omega) hok1, g3.1 z1, g4.1 y1]
          congr 1
          omega
        · rw [y3, hlen]; congr 1
        · rw [htc] at hi
          rw [tdN, if_pos hx]
          rcases (show i = 0 ∨ i = 1 ∨ i = 2 by omega) with rfl | rfl | rfl
          · rw [if_pos rfl, hk, Nat.add_zero, o4 p (by omega), o3 p (by omega), e2, r1]
            rfl
          · rw [if_neg (by decide), if_pos rfl, o4 (p + 1) (by omega), z4, rdN_1]
          · rw [if_neg (by decide), if_neg (by decide), y4, rdN_2]
      · refine zv_if_eq (pc' := 56) (tgt := 60) dX7_readsOne_53 rfl rfl (fun _ => ?_) (fun hcc => absurd (rfl) hcc)
        refine zv_iconst (v := nI 0) (pc' := 61) dX7_readsOne_60 rfl (by decide) ?_
        refine zv_ireturn dX7_readsOne_61 rfl (by first | rfl | exact zb_nar _) ?_
        exact ⟨_, rfl, Or.inr ⟨b, rfl, by rw [fbO_ok (by omega) hok1, g3.1 z1, g4.2 b y1], y3⟩, oo, f13.tr f4⟩
    · refine zv_if_eq (pc' := 45) (tgt := 60) dX7_readsOne_42 rfl rfl (fun _ => ?_) (fun hcc => absurd (rfl) hcc)
      refine zv_iconst (v := nI 0) (pc' := 61) dX7_readsOne_60 rfl (by decide) ?_
      refine zv_ireturn dX7_readsOne_61 rfl (by first | rfl | exact zb_nar _) ?_
      exact ⟨_, rfl, Or.inr ⟨b, rfl, by rw [fbO_ok (by omega) hok1, g3.2 b z1], z3⟩, fun i hi => by rw [o3 i (by omega), e2, o1 i (by omega)], f13⟩
theorem x7_readsAll {st p : Nat} (h : zLm M l) (hst : st < l.1) (hx : l.2 st = 112 ∨ l.2 st = 109 ∨ l.2 st = 115 ∨ l.2 st = 98 ∨ l.2 st = 102 ∨ l.2 st = 121) (ha : M 90 14 = nI (st + 1)) (hp : p + 3 ≤ 144) : ZFi mdX7_readsAll (d + 3) [.ref 90, .int (nI (l.2 st)), .int (nI p)] M (rdQ l st p M) := by
  have h96 := h.2.2.1
  have he : lenN l st = lnC (l.2 st) := if_pos hst
  refine zex_intro (L := [some (.ref 90), some (.int (nI (l.2 st))), some (.int (nI p))]) (by decide) (Nat.le_of_ble_eq_true rfl) rfl ?_
  refine zv_iload_n (pc' := 1) dX7_readsAll_0 rfl rfl ?_
  by_cases x1 : l.2 st = 112
  · rw [x1]
    refine zv_lookup (pc' := 36) (off := 35) dX7_readsAll_1 (by decide) (by decide) (by decide) ?_
    refine zv_aload_n (pc' := 37) dX7_readsAll_36 rfl rfl ?_
    refine zv_iload_n (pc' := 38) dX7_readsAll_37 rfl rfl ?_
    refine zv_cV1_fi (pc' := 41) dX7_readsAll_38 rfl lkX7_110 (by first | rfl | assumption) rfl (Nat.le_of_ble_eq_true rfl) (x7_readsOne h hst x1 ha hp) ?_
    rintro x M1 hq
    have hxb : x = zb true ∨ x = zb false := by
      rcases hq.1 with z | ⟨b, z, -⟩
      · exact Or.inl z.1
      · exact Or.inr z
    rcases hxb with rfl | rfl
    · refine zv_ireturn dX7_readsAll_41 rfl (by first | rfl | exact zb_nar _) ?_
      exact ⟨_, rfl, hq⟩
    · refine zv_ireturn dX7_readsAll_41 rfl (by first | rfl | exact zb_nar _) ?_
      exact ⟨_, rfl, hq⟩
  · by_cases x2 : l.2 st = 109
    · have hlen : lenN l st = 5 := by rw [he, lnC, if_neg x1, if_pos x2]
      have htc : tdC (l.2 st) = 2 := by rw [tdC, if_neg x1, if_pos x2]
      rw [x2]
      refine zv_lookup (pc' := 42) (off := 41) dX7_readsAll_1 (by decide) (by decide) (by decide) ?_
      refine zv_aload_n (pc' := 43) dX7_readsAll_42 rfl rfl ?_
      refine zv_iload_n (pc' := 44) dX7_readsAll_43 rfl rfl ?_
      refine zv_iconst (v := nI 1) (pc' := 45) dX7_readsAll_44 rfl (by decide) ?_
      refine zv_cV2_fi (pc' := 48) dX7_readsAll_45 rfl lkX7_107 (by first | rfl | assumption) rfl (Nat.le_of_ble_eq_true rfl) (x7_readsDigits h ha (by omega) (by omega) (by omega)) ?_
      rintro x M3 ⟨h3, o3, f3⟩
      have g3 := fbO_dig (l := l) (st := st) (j := st + 1) (n := 1) (by omega) (fun i q1 q2 => okB_dig (by omega) (by omega))
      rcases h3 with ⟨z1, rfl, z3, z4⟩ | ⟨b, z1, rfl, z3⟩
      · have l3 := h.same f3 (by decide) (by decide)
        refine zv_if_eq (pc' := 51) (tgt := 66) dX7_readsAll_48 rfl rfl (fun hcc => absurd hcc (by decide)) (fun _ => ?_)
        refine zv_aload_n (pc' := 52) dX7_readsAll_51 rfl rfl ?_
        refine zv_iload_n (pc' := 53) dX7_readsAll_52 rfl rfl ?_
        refine zv_iconst (v := nI 1) (pc' := 54) dX7_readsAll_53 rfl (by decide) ?_
        refine zv_iadd (pc' := 55) dX7_readsAll_54 rfl ?_
        refine zv_top (nI_add _ _) ?_
        refine zv_iconst (v := nI 2) (pc' := 56) dX7_readsAll_55 rfl (by decide) ?_
        refine zv_cV2_fi (pc' := 59) dX7_readsAll_56 rfl lkX7_107 (by first | rfl | assumption) rfl (Nat.le_of_ble_eq_true rfl) (x7_readsDigits l3 z3 (by omega) (by omega) (by omega)) ?_
        rintro x M4 ⟨h4, o4, f4⟩
        have g4 := fbO_dig (l := l) (st := st) (j := st + 2) (n := 2) (by omega) (fun i q1 q2 => okB_dig (by omega) (by omega))
        have oo : ∀ i, (i < p ∨ p + 3 ≤ i) → M4 100 i = M 100 i := fun i hi => by rw [o4 i (by omega), o3 i (by omega)]
        rcases h4 with ⟨y1, rfl, y3, y4⟩ | ⟨b, y1, rfl, y3⟩
        · refine zv_if_eq (pc' := 62) (tgt := 66) dX7_readsAll_59 rfl rfl (fun hcc => absurd hcc (by decide)) (fun _ => ?_)
          refine zv_iconst (v := nI 1) (pc' := 63) dX7_readsAll_62 rfl (by decide) ?_
          refine zv_goto (pc' := 67) dX7_readsAll_63 rfl ?_
          refine zv_ireturn dX7_readsAll_67 rfl (by first | rfl | exact zb_nar _) ?_
          refine ⟨_, rfl, Or.inl ⟨rfl, ?_, ?_, fun i hi => ?_⟩, oo, f3.tr f4⟩
          · rw [g3.1 z1, g4.1 y1]
            congr 1
            omega
          · rw [y3, hlen]; congr 1
          · rw [htc] at hi
            rw [tdN, if_neg x1, if_pos x2]
            rcases (show i = 0 ∨ i = 1 by omega) with rfl | rfl
            · rw [if_pos rfl, Nat.add_zero, o4 p (by omega), z4, rdN_1]
            · rw [if_neg (by decide), y4, rdN_2]
        · refine zv_if_eq (pc' := 62) (tgt := 66) dX7_readsAll_59 rfl rfl (fun _ => ?_) (fun hcc => absurd (rfl) hcc)
          refine zv_iconst (v := nI 0) (pc' := 67) dX7_readsAll_66 rfl (by decide) ?_
          refine zv_ireturn dX7_readsAll_67 rfl (by first | rfl | exact zb_nar _) ?_
          exact ⟨_, rfl, Or.inr ⟨b, rfl, by rw [g3.1 z1, g4.2 b y1], y3⟩, oo, f3.tr f4⟩
      · refine zv_if_eq (pc' := 51) (tgt := 66) dX7_readsAll_48 rfl rfl (fun _ => ?_) (fun hcc => absurd (rfl) hcc)
        refine zv_iconst (v := nI 0) (pc' := 67) dX7_readsAll_66 rfl (by decide) ?_
        refine zv_ireturn dX7_readsAll_67 rfl (by first | rfl | exact zb_nar _) ?_
        exact ⟨_, rfl, Or.inr ⟨b, rfl, g3.2 b z1, z3⟩, fun i hi => o3 i (by omega), f3⟩
    · have hlen : lenN l st = 4 := by rw [he, lnC, if_neg x1, if_neg x2, if_pos (by omega)]
      by_cases x3 : l.2 st = 121
      · have htc : tdC (l.2 st) = 1 := by rw [tdC, if_neg x1, if_neg x2, if_pos x3]
        rw [x3]
        refine zv_lookup (pc' := 68) (off := 67) dX7_readsAll_1 (by decide) (by decide) (by decide) ?_
        refine zv_aload_n (pc' := 69) dX7_readsAll_68 rfl rfl ?_
        refine zv_iload_n (pc' := 70) dX7_readsAll_69 rfl rfl ?_
        refine zv_iconst (v := nI 2) (pc' := 71) dX7_readsAll_70 rfl (by decide) ?_
        refine zv_cV2_fi (pc' := 74) dX7_readsAll_71 rfl lkX7_107 (by first | rfl | assumption) rfl (Nat.le_of_ble_eq_true rfl) (x7_readsDigits h ha (by omega) (by omega) (by omega)) ?_
        rintro x M3 ⟨h3, o3, f3⟩
        have g3 := fbO_dig (l := l) (st := st) (j := st + 1) (n := 2) (by omega) (fun i q1 q2 => okB_dig (by omega) (by omega))
        rcases h3 with ⟨z1, rfl, z3, z4⟩ | ⟨b, z1, rfl, z3⟩
        · refine zv_ireturn dX7_readsAll_74 rfl (by first | rfl | exact zb_nar _) ?_
          refine ⟨_, rfl, Or.inl ⟨rfl, ?_, ?_, fun i hi => ?_⟩, fun i hi => o3 i (by omega), f3⟩
          · rw [g3.1 z1]
            congr 1
            omega
          · rw [z3, hlen]; congr 1
          · rw [htc] at hi
            have : i = 0 := by omega
            subst this
            rw [tdN, if_neg x1, if_neg x2, if_pos x3, Nat.add_zero, z4, rdN_2]
        · refine zv_ireturn dX7_readsAll_74 rfl (by first | rfl | exact zb_nar _) ?_
          exact ⟨_, rfl, Or.inr ⟨b, rfl, g3.2 b z1, z3⟩, fun i hi => o3 i (by omega), f3⟩
      · have htc : tdC (l.2 st) = 2 := by rw [tdC, if_neg x1, if_neg x2, if_neg x3]
        have hlk : Op.lookupswitch.offset [(109, 41), (112, 35), (121, 67)] 74 (nI (l.2 st)).toInt = 74 := by
          rcases (show l.2 st = 115 ∨ l.2 st = 98 ∨ l.2 st = 102 by omega) with e | e | e <;> rw [e] <;> decide
        refine zv_lookup (pc' := 75) (off := 74) dX7_readsAll_1 (by decide) hlk (by decide) ?_
        refine zv_aload_n (pc' := 76) dX7_readsAll_75 rfl rfl ?_
        refine zv_iload_n (pc' := 77) dX7_readsAll_76 rfl rfl ?_
        refine zv_iconst (v := nI 1) (pc' := 78) dX7_readsAll_77 rfl (by decide) ?_
        refine zv_cV2_fi (pc' := 81) dX7_readsAll_78 rfl lkX7_107 (by first | rfl | assumption) rfl (Nat.le_of_ble_eq_true rfl) (x7_readsDigits h ha (by omega) (by omega) (by omega)) ?_
        rintro x M3 ⟨h3, o3, f3⟩
        have g3 := fbO_dig (l := l) (st := st) (j := st + 1) (n := 1) (by omega) (fun i q1 q2 => okB_dig (by omega) (by omega))
        rcases h3 with ⟨z1, rfl, z3, z4⟩ | ⟨b, z1, rfl, z3⟩
        · have l3 := h.same f3 (by decide) (by decide)
          refine zv_if_eq (pc' := 84) (tgt := 99) dX7_readsAll_81 rfl rfl (fun hcc => absurd hcc (by decide)) (fun _ => ?_)
          refine zv_aload_n (pc' := 85) dX7_readsAll_84 rfl rfl ?_
          refine zv_iload_n (pc' := 86) dX7_readsAll_85 rfl rfl ?_
          refine zv_iconst (v := nI 1) (pc' := 87) dX7_readsAll_86 rfl (by decide) ?_
          refine zv_iadd (pc' := 88) dX7_readsAll_87 rfl ?_
          refine zv_top (nI_add _ _) ?_
          refine zv_iconst (v := nI 1) (pc' := 89) dX7_readsAll_88 rfl (by decide) ?_
          refine zv_cV2_fi (pc' := 92) dX7_readsAll_89 rfl lkX7_107 (by first | rfl | assumption) rfl (Nat.le_of_ble_eq_true rfl) (x7_readsDigits l3 z3 (by omega) (by omega) (by omega)) ?_
          rintro x M4 ⟨h4, o4, f4⟩
          have g4 := fbO_dig (l := l) (st := st) (j := st + 2) (n := 1) (by omega) (fun i q1 q2 => okB_dig (by omega) (by omega))
          have oo : ∀ i, (i < p ∨ p + 3 ≤ i) → M4 100 i = M 100 i := fun i hi => by rw [o4 i (by omega), o3 i (by omega)]
          rcases h4 with ⟨y1, rfl, y3, y4⟩ | ⟨b, y1, rfl, y3⟩
          · refine zv_if_eq (pc' := 95) (tgt := 99) dX7_readsAll_92 rfl rfl (fun hcc => absurd hcc (by decide)) (fun _ => ?_)
            refine zv_iconst (v := nI 1) (pc' := 96) dX7_readsAll_95 rfl (by decide) ?_
            refine zv_goto (pc' := 100) dX7_readsAll_96 rfl ?_
            refine zv_ireturn dX7_readsAll_100 rfl (by first | rfl | exact zb_nar _) ?_
            refine ⟨_, rfl, Or.inl ⟨rfl, ?_, ?_, fun i hi => ?_⟩, oo, f3.tr f4⟩
            · rw [g3.1 z1, g4.1 y1]
              congr 1
              omega
            · rw [y3, hlen]; congr 1
            · rw [htc] at hi
              rw [tdN, if_neg x1, if_neg x2, if_neg x3]
              rcases (show i = 0 ∨ i = 1 by omega) with rfl | rfl
              · rw [Nat.add_zero, o4 p (by omega), z4, rdN_1]
              · rw [y4, rdN_1]
          · refine zv_if_eq (pc' := 95) (tgt := 99) dX7_readsAll_92 rfl rfl (fun _ => ?_) (fun hcc => absurd (rfl) hcc)
            refine zv_iconst (v := nI 0) (pc' := 100) dX7_readsAll_99 rfl (by decide) ?_
            refine zv_ireturn dX7_readsAll_100 rfl (by first | rfl | exact zb_nar _) ?_
            exact ⟨_, rfl, Or.inr ⟨b, rfl, by rw [g3.1 z1, g4.2 b y1], y3⟩, oo, f3.tr f4⟩
        · refine zv_if_eq (pc' := 84) (tgt := 99) dX7_readsAll_81 rfl rfl (fun _ => ?_) (fun hcc => absurd (rfl) hcc)
          refine zv_iconst (v := nI 0) (pc' := 100) dX7_readsAll_99 rfl (by decide) ?_
          refine zv_ireturn dX7_readsAll_100 rfl (by first | rfl | exact zb_nar _) ?_
          exact ⟨_, rfl, Or.inr ⟨b, rfl, g3.2 b z1, z3⟩, fun i hi => o3 i (by omega), f3⟩
end
