/-! whatIs -/
def whC (c : ZCty) (p w g : Nat) : ZCty := if w = 0 then setK c (fu (yK c) p g) else setF c (fu (yF c) p g)
def whO (c : ZCty) (p w : Nat) : Nat := if w = 0 then yK c p else yF c p
def whL (w : Nat) : Nat := if w = 0 then 6 else 10
def soB (c : ZCty) (p : Nat) (R : Nat × (Nat → Nat)) (m : Nat) : Bool := zall m (fun k => decide (yM (yearsC k c) p = R.2 k))
def whM (c : ZCty) (p w : Nat) (R : Nat × (Nat → Nat)) : Nat := zm (whL w) (fun g => soB (whC c p w g) p R R.1)
def sp_whatIs (x y : Int32) (s : ZS) : Int32 × ZS := zans (fiN (nbN (yN (sC s)) x) (otN y 1) 0) s (nI (whM (sC s) (pN x) (pN y) (sR s))) s
theorem fu_fu {α : Type} {f : Nat → α} {i : Nat} {u v : α} : fu (fu f i u) i v = fu f i v := by
  funext j
  unfold fu
  split <;> rfl
theorem fu_id {α : Type} {f : Nat → α} {i : Nat} : fu f i (f i) = f := by
  funext j
  unfold fu
  split
  · rename_i h; rw [h]
  · rfl
theorem wh_wh {c : ZCty} {p w g g' : Nat} : whC (whC c p w g) p w g' = whC c p w g' := by
  unfold whC
  by_cases h : w = 0
  · rw [if_pos h, if_pos h, if_pos h]
    show setK c (fu (fu (yK c) p g) p g') = _
    rw [fu_fu]
  · rw [if_neg h, if_neg h, if_neg h]
    show setF c (fu (fu (yF c) p g) p g') = _
    rw [fu_fu]
theorem wh_id {c : ZCty} {p w : Nat} : whC c p w (whO c p w) = c := by
  unfold whC whO
  by_cases h : w = 0
  · rw [if_pos h, if_pos h, fu_id]; rfl
  · rw [if_neg h, if_neg h, fu_id]; rfl
theorem wh_ok {c : ZCty} {p w g : Nat} (hk : zOk c) (hg : g < whL w) : zOk (whC c p w g) ∧ yN (whC c p w g) = yN c := by
  obtain ⟨g1, g2, g3, g4, g5, g6, g7⟩ := hk
  unfold whC
  unfold whL at hg
  by_cases h : w = 0
  · rw [if_pos h] at hg ⊢
    refine ⟨⟨g1, fun i => ?_, g3, g4, g5, g6, g7⟩, rfl⟩
    show fu (yK c) p g i ≤ 5
    unfold fu; split
    · omega
    · exact g2 i
  · rw [if_neg h] at hg ⊢
    refine ⟨⟨g1, g2, fun i => ?_, g4, g5, g6, g7⟩, rfl⟩
    show fu (yF c) p g i ≤ 9
    unfold fu; split
    · omega
    · exact g3 i
theorem whO_lt {c : ZCty} {p w : Nat} (hk : zOk c) : whO c p w < whL w := by
  unfold whO whL
  by_cases h : w = 0
  · rw [if_pos h, if_pos h]; have := hk.2.1 p; omega
  · rw [if_neg h, if_neg h]; have := hk.2.2.1 p; omega
theorem whL_le {w : Nat} : whL w ≤ 10 := by unfold whL; split <;> omega
theorem zall_le {f : Nat → Bool} {k m : Nat} (h : zall m f = true) (hk : k ≤ m) : zall k f = true := zall_iff.mpr (fun j hj => zall_iff.mp h j (by omega))
theorem zAm_wh {M : ZMem} {c : ZCty} {p w g : Nat} (hw : w < 2) (h : zAm M c) : zAm (zup M (92 + w) p (nI g)) (whC c p w g) := by
  rcases (show w = 0 ∨ w = 1 by omega) with rfl | rfl
  · exact zAm_K h
  · exact zAm_F h
theorem zm_lo {L g : Nat} {f : Nat → Bool} {b : Bool} (hb : f g = b) : (fun j => decide (j < g + 1) && f j) = (fun j => (decide (j < g) && f j) || (b && decide (j = g))) := by
  funext j
  by_cases e : j = g
  · subst e; simp [hb]
  · rw [show decide (j < g + 1) = decide (j < g) from by simp; omega]; simp [e]
section
variable {d : Nat} {M : ZMem} {c : ZCty}
theorem x6_goesAsTold {p : Nat} {R : Nat × (Nat → Nat)} (hA : zAt M 13 c) (hk : zOk c) (hp : p < yN c) (hR : M 0 7 = nI R.1) (hT : ∀ j, j < R.1 → M 27 j = nI (R.2 j)) (h16 : R.1 ≤ 16) (h99 : ∀ j, R.2 j ≤ 99) : ZFi mdX6_goesAsTold (d + 3) [.ref 0, .int (nI p)] M (fun r M' => r = zb (soB c p R R.1) ∧ zSame 13 19 M M') := by
  have hn8 := hk.1
  have lp : ∀ r k M1, k + r = R.1 → soB c p R k = true → zAt M1 13 (yearsC (k - 1) c) → zSame 13 19 M M1 → ZV mdX6_goesAsTold (d + 3) (fun v M' => ∃ r, v = some (.int r) ∧ (r = zb (soB c p R R.1) ∧ zSame 13 19 M M')) 2 [some (.ref 0), some (.int (nI p)), some (.int (nI k))] [] M1 := by
    intro r
    induction r with
    | zero =>
      intro k M1 e hso h1 hs
      have e : k = R.1 := by omega
      subst e
      have hR1 : M1 0 7 = nI R.1 := by rw [hs 0 (by omega)]; exact hR
      refine zv_iload_n (pc' := 3) dX6_goesAsTold_2 rfl rfl ?_
      refine zv_aload_n (pc' := 4) dX6_goesAsTold_3 rfl rfl ?_
      refine zv_getIE (pc' := 7) dX6_goesAsTold_4 rfl flX6_266 (by first | rfl | assumption) rfl (by first | exact hR1 | rfl) ?_
      refine zv_icmp_ge (pc' := 10) (tgt := 48) dX6_goesAsTold_7 rfl rfl (fun _ => ?_) (fun hcc => absurd (Int32.le_refl _) hcc)
      refine zv_iconst (v := nI 1) (pc' := 49) dX6_goesAsTold_48 rfl (by decide) ?_
      refine zv_ireturn dX6_goesAsTold_49 rfl (by first | rfl | exact zb_nar _) ?_
      exact ⟨_, rfl, by rw [hso]; rfl, hs⟩
    | succ r ih =>
      intro k M1 e hso h1 hs
      have hR1 : M1 0 7 = nI R.1 := by rw [hs 0 (by omega)]; exact hR
      have B : ∀ M2, zAt M2 13 (yearsC k c) → zSame 13 19 M M2 → ZV mdX6_goesAsTold (d + 3) (fun v M' => ∃ r, v = some (.int r) ∧ (r = zb (soB c p R R.1) ∧ zSame 13 19 M M')) 22 [some (.ref 0), some (.int (nI p)), some (.int (nI k))] [] M2 := by
        intro M2 h2 s2
        have hM := h2.2.2.2.2.1
        have hT2 : M2 27 k = nI (R.2 k) := by rw [s2 27 (by omega)]; exact hT k (by omega)
        have b1 := (zOk_years (k := k) hk).1.2.2.2.1 p
        have b2 := h99 k
        refine zv_aload_n (pc' := 23) dX6_goesAsTold_22 rfl rfl ?_
        refine zv_getR (pc' := 26) dX6_goesAsTold_23 rfl flX6_19 (by first | rfl | assumption) rfl ?_
        refine zv_getR (pc' := 29) dX6_goesAsTold_26 rfl flX6_124 (by first | rfl | assumption) rfl ?_
        refine zv_iload_n (pc' := 30) dX6_goesAsTold_29 rfl rfl ?_
        refine zv_ialoadE (pc' := 31) dX6_goesAsTold_30 rfl (by first | rfl | assumption) (by decide) (by omega) (by first | exact hT2 | exact hM _ (by omega) | rfl) ?_
        refine zv_aload_n (pc' := 32) dX6_goesAsTold_31 rfl rfl ?_
        refine zv_getR (pc' := 35) dX6_goesAsTold_32 rfl flX6_32 (by first | rfl | assumption) rfl ?_
        refine zv_iload_n (pc' := 36) dX6_goesAsTold_35 rfl rfl ?_
        refine zv_ialoadE (pc' := 37) dX6_goesAsTold_36 rfl (by first | rfl | assumption) (by decide) (by omega) (by first | exact hT2 | exact hM _ (by omega) | rfl) ?_
        refine zv_icmp_eq (pc' := 40) (tgt := 42) dX6_goesAsTold_37 rfl rfl ?_ ?_
        · intro h
          have h := (nI_eq (by omega) (by omega)).mp h
          refine zv_iinc (w := nI 1) (pc' := 45) dX6_goesAsTold_42 rfl rfl (by decide) (by decide) ?_
          refine zv_goto (pc' := 2) dX6_goesAsTold_45 rfl ?_
          rw [nI_add]
          exact ih (k + 1) M2 (by omega) (by show zall (k + 1) _ = true; rw [zall, show zall k _ = true from hso]; simpa using h) h2 s2
        · intro h
          have h := mt (fun z => (nI_eq (a := yM (yearsC k c) p) (b := R.2 k) (by omega) (by omega)).mpr z) h
          refine zv_iconst (v := nI 0) (pc' := 41) dX6_goesAsTold_40 rfl (by decide) ?_
          refine zv_ireturn dX6_goesAsTold_41 rfl (by first | rfl | exact zb_nar _) ?_
          refine ⟨_, rfl, ?_, s2⟩
          rw [show soB c p R R.1 = false from zall_f (q := k) (by omega) (by simpa using h)]
          rfl
      refine zv_iload_n (pc' := 3) dX6_goesAsTold_2 rfl rfl ?_
      refine zv_aload_n (pc' := 4) dX6_goesAsTold_3 rfl rfl ?_
      refine zv_getIE (pc' := 7) dX6_goesAsTold_4 rfl flX6_266 (by first | rfl | assumption) rfl (by first | exact hR1 | rfl) ?_
      refine zv_icmp_ge (pc' := 10) (tgt := 48) dX6_goesAsTold_7 rfl rfl (fun hcc => absurd hcc (nI_ge (by omega) (by omega))) (fun _ => ?_)
      refine zv_iload_n (pc' := 11) dX6_goesAsTold_10 rfl rfl ?_
      cases k with
      | zero =>
        refine zv_if_le (pc' := 14) (tgt := 22) dX6_goesAsTold_11 rfl rfl (fun _ => ?_) (fun hcc => absurd (Int32.le_refl _) hcc)
        exact B M1 h1 hs
      | succ k =>
        refine zv_if_le (pc' := 14) (tgt := 22) dX6_goesAsTold_11 rfl rfl (fun hcc => absurd hcc (nI_ge (a := 0) (b := k + 1) (by omega) (by omega))) (fun _ => ?_)
        refine zv_aload_n (pc' := 15) dX6_goesAsTold_14 rfl rfl ?_
        refine zv_getR (pc' := 18) dX6_goesAsTold_15 rfl flX6_19 (by first | rfl | assumption) rfl ?_
        refine zv_iconst (v := (-1 : Int32)) (pc' := 19) dX6_goesAsTold_18 rfl (by decide) ?_
        refine zv_top (show (-1 : Int32) = absI 100 by decide) ?_
        refine zv_cV1_fv (pc' := 22) dX6_goesAsTold_19 rfl lkX6_177 (by first | rfl | assumption) rfl (Nat.le_of_ble_eq_true rfl) (x0_passYear zCy13 h1 (zOk_years hk).1 (Or.inr rfl)) ?_
        rintro M2 ⟨h2, s2⟩
        refine B M2 ?_ (hs.tr s2)
        rw [yearsC_succ]
        exact h2
  refine zex_intro (L := [some (.ref 0), some (.int (nI p)), none]) (by decide) (Nat.le_of_ble_eq_true rfl) rfl ?_
  refine zv_iconst (v := nI 0) (pc' := 1) dX6_goesAsTold_0 rfl (by decide) ?_
  refine zv_istore_n (pc' := 2) dX6_goesAsTold_1 rfl (by decide) ?_
  exact lp R.1 0 M (by omega) rfl hA zSame.rf
theorem x7_isSo {p : Nat} {R : Nat × (Nat → Nat)} (hA : zAm M c) (hk : zOk c) (hD : M 90 8 = absM 100) (hp : p < yN c) (hR : M 90 26 = nI R.1) (hT : ∀ j, j < R.1 → M 107 j = nI (R.2 j)) (h16 : R.1 ≤ 16) (h99 : ∀ j, R.2 j ≤ 99) : ZFi mdX7_isSo (d + 3) [.ref 90, .int (nI p)] M (fun r M' => r = zb (soB c p R R.1) ∧ zTd M M' c) := by
  have hn8 := hk.1
  have fin : ∀ k b M1, zTh M M1 c (yearsC k c) → b = soB c p R R.1 → ZV mdX7_isSo (d + 3) (fun v M' => ∃ r, v = some (.int r) ∧ (r = zb (soB c p R R.1) ∧ zTd M M' c)) 51 [some (.ref 90), some (.int (nI p)), some (.int (zb b)), some (.int (nI k))] [] M1 := by
    intro k b M1 t1 hb
    refine zv_aload_n (pc' := 52) dX7_isSo_51 rfl rfl ?_
    refine zv_cV0_fv (pc' := 55) dX7_isSo_52 rfl lkX7_193 (by first | rfl | assumption) rfl (Nat.le_of_ble_eq_true rfl) (x7_forgets t1.1) ?_
    rintro M2 h2
    refine zv_iload_n (pc' := 56) dX7_isSo_55 rfl rfl ?_
    refine zv_ireturn dX7_isSo_56 rfl (by first | rfl | exact zb_nar _) ?_
    exact ⟨_, rfl, by rw [hb], t1.fin h2⟩
  have lp : ∀ r k b M1, k + r = R.1 → b = soB c p R k → zTh M M1 c (yearsC k c) → ZV mdX7_isSo (d + 3) (fun v M' => ∃ r, v = some (.int r) ∧ (r = zb (soB c p R R.1) ∧ zTd M M' c)) 8 [some (.ref 90), some (.int (nI p)), some (.int (zb b)), some (.int (nI k))] [] M1 := by
    intro r
    induction r with
    | zero =>
      intro k b M1 e hb t1
      have e : k = R.1 := by omega
      have hR1 : M1 90 26 = nI R.1 := by rw [t1.2.2.2.2 26 (by decide)]; exact hR
      refine zv_iload_n (pc' := 9) dX7_isSo_8 rfl rfl ?_
      refine zv_aload_n (pc' := 10) dX7_isSo_9 rfl rfl ?_
      refine zv_getIE (pc' := 13) dX7_isSo_10 rfl flX7_297 (by first | rfl | assumption) rfl (by first | exact hR1 | rfl) ?_
      refine zv_icmp_ge (pc' := 16) (tgt := 51) dX7_isSo_13 rfl rfl (fun _ => ?_) (fun hcc => absurd ((by rw [e]; exact Int32.le_refl _)) hcc)
      exact fin k b M1 t1 (by rw [hb, e])
    | succ r ih =>
      intro k b M1 e hb t1
      have hR1 : M1 90 26 = nI R.1 := by rw [t1.2.2.2.2 26 (by decide)]; exact hR
      have hT1 : M1 107 k = nI (R.2 k) := by rw [t1.2.2.2.1 107 (by decide) (by decide)]; exact hT k (by omega)
      have hM := t1.2.1.2.2.2.2.1
      have b1 := (zOk_years (k := k) hk).1.2.2.2.1 p
      have b2 := h99 k
      refine zv_iload_n (pc' := 9) dX7_isSo_8 rfl rfl ?_
      refine zv_aload_n (pc' := 10) dX7_isSo_9 rfl rfl ?_
      refine zv_getIE (pc' := 13) dX7_isSo_10 rfl flX7_297 (by first | rfl | assumption) rfl (by first | exact hR1 | rfl) ?_
      refine zv_icmp_ge (pc' := 16) (tgt := 51) dX7_isSo_13 rfl rfl (fun hcc => absurd hcc (nI_ge (by omega) (by omega))) (fun _ => ?_)
      refine zv_iload_n (pc' := 17) dX7_isSo_16 rfl rfl ?_
      refine zv_if_eq (pc' := 20) (tgt := 51) dX7_isSo_17 rfl rfl ?_ ?_
      · intro h
        have h := zb_0.mp h
        refine fin k b M1 t1 ?_
        rw [h]
        cases hz : soB c p R R.1
        · rfl
        · rw [hb, show soB c p R k = true from zall_le hz (by omega)] at h; cases h
      · intro h
        have h := zb_ne.mp h
        have C : ∀ b', b' = soB c p R (k + 1) → ZV mdX7_isSo (d + 3) (fun v M' => ∃ r, v = some (.int r) ∧ (r = zb (soB c p R R.1) ∧ zTd M M' c)) 40 [some (.ref 90), some (.int (nI p)), some (.int (zb b)), some (.int (nI k))] [.int (zb b')] M1 := by
          intro b' hb'
          refine zv_istore_n (pc' := 41) dX7_isSo_40 rfl (by decide) ?_
          refine zv_aload_n (pc' := 42) dX7_isSo_41 rfl rfl ?_
          refine zv_cV0_fv (pc' := 45) dX7_isSo_42 rfl lkX7_178 (by first | rfl | assumption) rfl (Nat.le_of_ble_eq_true rfl) (x7_goesYear t1.2.1 (zOk_years hk).1 (by rw [t1.dead]; exact hD)) ?_
          rintro M2 ⟨h2, f2⟩
          rw [← yearsC_succ] at h2
          refine zv_iinc (w := nI 1) (pc' := 48) dX7_isSo_45 rfl rfl (by decide) (by decide) ?_
          refine zv_goto (pc' := 8) dX7_isSo_48 rfl ?_
          rw [nI_add]
          exact ih (k + 1) b' M2 (by omega) hb' (t1.go h2 f2 (by simp) (by simp))
        have ez : soB c p R (k + 1) = decide (yM (yearsC k c) p = R.2 k) := by
          show zall (k + 1) _ = _
          rw [zall, show zall k _ = true from (hb.symm.trans h)]
          rfl
        refine zv_aload_n (pc' := 21) dX7_isSo_20 rfl rfl ?_
        refine zv_getR (pc' := 24) dX7_isSo_21 rfl flX7_19 (by first | rfl | assumption) rfl ?_
        refine zv_iload_n (pc' := 25) dX7_isSo_24 rfl rfl ?_
        refine zv_ialoadE (pc' := 26) dX7_isSo_25 rfl (by first | rfl | assumption) (by decide) (by omega) (by first | exact hT1 | exact hM _ (by omega) | rfl) ?_
        refine zv_aload_n (pc' := 27) dX7_isSo_26 rfl rfl ?_
        refine zv_getR (pc' := 30) dX7_isSo_27 rfl flX7_62 (by first | rfl | assumption) rfl ?_
        refine zv_iload_n (pc' := 31) dX7_isSo_30 rfl rfl ?_
        refine zv_ialoadE (pc' := 32) dX7_isSo_31 rfl (by first | rfl | assumption) (by decide) (by omega) (by first | exact hT1 | exact hM _ (by omega) | rfl) ?_
        refine zv_icmp_ne (pc' := 35) (tgt := 39) dX7_isSo_32 rfl rfl ?_ ?_
        · intro h2
          have h2 := mt (fun z => (nI_eq (a := yM (yearsC k c) p) (b := R.2 k) (by omega) (by omega)).mpr z) h2
          refine zv_iconst (v := nI 0) (pc' := 40) dX7_isSo_39 rfl (by decide) ?_
          exact C false (by rw [ez]; simp [h2])
        · intro h2
          have h2 := (nI_eq (by omega) (by omega)).mp h2
          refine zv_iconst (v := nI 1) (pc' := 36) dX7_isSo_35 rfl (by decide) ?_
          refine zv_goto (pc' := 40) dX7_isSo_36 rfl ?_
          exact C true (by rw [ez]; simp [h2])
  refine zex_intro (L := [some (.ref 90), some (.int (nI p)), none, none]) (by decide) (Nat.le_of_ble_eq_true rfl) rfl ?_
  refine zv_aload_n (pc' := 1) dX7_isSo_0 rfl rfl ?_
  refine zv_cV0_fv (pc' := 4) dX7_isSo_1 rfl lkX7_190 (by first | rfl | assumption) rfl (Nat.le_of_ble_eq_true rfl) (x7_thinks hA) ?_
  rintro M1 h1
  refine zv_iconst (v := nI 1) (pc' := 5) dX7_isSo_4 rfl (by decide) ?_
  refine zv_istore_n (pc' := 6) dX7_isSo_5 rfl (by decide) ?_
  refine zv_iconst (v := nI 0) (pc' := 7) dX7_isSo_6 rfl (by decide) ?_
  refine zv_istore_n (pc' := 8) dX7_isSo_7 rfl (by decide) ?_
  exact lp R.1 0 true M1 (by omega) rfl (zTh.be h1)
theorem x7_bitsFor {p w : Nat} {R : Nat × (Nat → Nat)} (hw : w < 2) (hA : zAm M c) (hk : zOk c) (hD : M 90 8 = absM 100) (hp : p < yN c) (hR : M 90 26 = nI R.1) (hT : ∀ j, j < R.1 → M 107 j = nI (R.2 j)) (h16 : R.1 ≤ 16) (h99 : ∀ j, R.2 j ≤ 99) : ZFi mdX7_bitsFor (d + 4) [.ref 90, .ref (92 + w), .int (nI p), .int (nI (whL w))] M (fun r M' => r = nI (whM c p w R) ∧ zTd M M' c) := by
  have hn8 := hk.1
  have hL := whL_le (w := w)
  have hO := whO_lt (p := p) (w := w) hk
  have hZ : zshL[92 + w]? = some (.inl 8) := by rcases (show w = 0 ∨ w = 1 by omega) with rfl | rfl <;> rfl
  have hold : M (92 + w) p = nI (whO c p w) := by
    rcases (show w = 0 ∨ w = 1 by omega) with rfl | rfl
    · exact hA.2.2.1 p (by omega)
    · exact hA.2.2.2.1 p (by omega)
  have hps : (92 + w) ∈ psT := by rcases (show w = 0 ∨ w = 1 by omega) with rfl | rfl <;> decide
  have wr : ∀ {M1 : ZMem} {g g' : Nat}, zTd M M1 (whC c p w g) → zTd M (zup M1 (92 + w) p (nI g')) (whC c p w g') := by
    intro M1 g g' h
    have := zAm_wh (p := p) (g := g') hw h.1
    rw [wh_wh] at this
    exact ⟨this, h.2.1.tr (zFr.up hps (by omega)), fun i hi => by rw [zup_ne (by omega)]; exact h.2.2 i hi⟩
  have lp : ∀ r g M1, g + r = whL w → (∃ g0, zTd M M1 (whC c p w g0)) → ZV mdX7_bitsFor (d + 4) (fun v M' => ∃ r, v = some (.int r) ∧ (r = nI (whM c p w R) ∧ zTd M M' c)) 11 [some (.ref 90), some (.ref (92 + w)), some (.int (nI p)), some (.int (nI (whL w))), some (.int (nI (whO c p w))), some (.int (nI (zm (whL w) (fun j => decide (j < g) && soB (whC c p w j) p R R.1)))), some (.int (nI g))] [] M1 := by
    intro r
    induction r with
    | zero =>
      intro g M1 e ⟨g0, t1⟩
      have e : g = whL w := by omega
      subst e
      refine zv_iload (pc' := 13) dX7_bitsFor_11 rfl rfl ?_
      refine zv_iload_n (pc' := 14) dX7_bitsFor_13 rfl rfl ?_
      refine zv_icmp_ge (pc' := 17) (tgt := 49) dX7_bitsFor_14 rfl rfl (fun _ => ?_) (fun hcc => absurd (Int32.le_refl _) hcc)
      refine zv_aload_n (pc' := 50) dX7_bitsFor_49 rfl rfl ?_
      refine zv_iload_n (pc' := 51) dX7_bitsFor_50 rfl rfl ?_
      refine zv_iload (pc' := 53) dX7_bitsFor_51 rfl rfl ?_
      refine zv_iastoreN (pc' := 54) dX7_bitsFor_53 rfl (by first | rfl | assumption) (by decide) (by omega) ?_
      refine zv_iload (pc' := 56) dX7_bitsFor_54 rfl rfl ?_
      refine zv_iret dX7_bitsFor_56 rfl ?_
      refine ⟨_, rfl, congrArg nI (zm_ext (fun j hj => by simp [hj])), ?_⟩
      have := wr (g' := whO c p w) t1
      rw [wh_id] at this
      exact this
    | succ r ih =>
      intro g M1 e ⟨g0, t1⟩
      have ok := wh_ok (p := p) (w := w) (g := g) hk (by omega)
      have t2 := wr (g' := g) t1
      refine zv_iload (pc' := 13) dX7_bitsFor_11 rfl rfl ?_
      refine zv_iload_n (pc' := 14) dX7_bitsFor_13 rfl rfl ?_
      refine zv_icmp_ge (pc' := 17) (tgt := 49) dX7_bitsFor_14 rfl rfl (fun hcc => absurd hcc (nI_ge (by omega) (by omega))) (fun _ => ?_)
      refine zv_aload_n (pc' := 18) dX7_bitsFor_17 rfl rfl ?_
      refine zv_iload_n (pc' := 19) dX7_bitsFor_18 rfl rfl ?_
      refine zv_iload (pc' := 21) dX7_bitsFor_19 rfl rfl ?_
      refine zv_iastoreN (pc' := 22) dX7_bitsFor_21 rfl (by first | rfl | assumption) (by decide) (by omega) ?_
      generalize zup M1 (92 + w) p (nI g) = M2 at t2 ⊢
      refine zv_iload (pc' := 24) dX7_bitsFor_22 rfl rfl ?_
      refine zv_aload_n (pc' := 25) dX7_bitsFor_24 rfl rfl ?_
      refine zv_iload_n (pc' := 26) dX7_bitsFor_25 rfl rfl ?_
      refine zv_cV1_fi (pc' := 29) dX7_bitsFor_26 rfl lkX7_300 (by first | rfl | assumption) rfl (Nat.le_of_ble_eq_true rfl) (x7_isSo t2.1 ok.1 (by rw [t2.dead]; exact hD) (by rw [ok.2]; exact hp) (by rw [t2.2.1.2 26 (by decide)]; exact hR) (by rw [t2.2.1.1 107 (by decide) (by decide)]; exact hT) h16 h99) ?_
      rintro r3 M3 ⟨rfl, t3⟩
      have := ih (g + 1) M3 (by omega) ⟨g, t2.tr t3⟩
      refine zv_if_eq (pc' := 32) (tgt := 39) dX7_bitsFor_29 rfl rfl ?_ ?_
      · intro h
        rw [zm_lo (L := whL w) (f := fun j => soB (whC c p w j) p R R.1) (zb_0.mp h), show (fun j => (decide (j < g) && soB (whC c p w j) p R R.1) || (false && decide (j = g))) = (fun j => decide (j < g) && soB (whC c p w j) p R R.1) from by funext j; simp] at this
        refine zv_iconst (v := nI 0) (pc' := 40) dX7_bitsFor_39 rfl (by decide) ?_
        refine zv_ior (pc' := 41) dX7_bitsFor_40 rfl ?_
        refine zv_top (show nI (zm (whL w) (fun j => decide (j < g) && soB (whC c p w j) p R R.1)) ||| nI 0 = nI (zm (whL w) (fun j => decide (j < g) && soB (whC c p w j) p R R.1)) from Int32.or_zero) ?_
        refine zv_istore (pc' := 43) dX7_bitsFor_41 rfl (by decide) ?_
        refine zv_iinc (w := nI 1) (pc' := 46) dX7_bitsFor_43 rfl rfl (by decide) (by decide) ?_
        refine zv_goto (pc' := 11) dX7_bitsFor_46 rfl ?_
        rw [nI_add]
        exact this
      · intro h
        rw [zm_lo (L := whL w) (f := fun j => soB (whC c p w j) p R R.1) (zb_ne.mp h), show (fun j => (decide (j < g) && soB (whC c p w j) p R R.1) || (true && decide (j = g))) = (fun j => (decide (j < g) && soB (whC c p w j) p R R.1) || decide (j = g)) from by funext j; simp] at this
        refine zv_iconst (v := nI 1) (pc' := 33) dX7_bitsFor_32 rfl (by decide) ?_
        refine zv_iload (pc' := 35) dX7_bitsFor_33 rfl rfl ?_
        refine zv_ishl (pc' := 36) dX7_bitsFor_35 rfl ?_
        refine zv_top (zsh1 g (by omega)) ?_
        refine zv_goto (pc' := 40) dX7_bitsFor_36 rfl ?_
        refine zv_ior (pc' := 41) dX7_bitsFor_40 rfl ?_
        refine zv_top (mk_or1 (by omega)) ?_
        refine zv_istore (pc' := 43) dX7_bitsFor_41 rfl (by decide) ?_
        refine zv_iinc (w := nI 1) (pc' := 46) dX7_bitsFor_43 rfl rfl (by decide) (by decide) ?_
        refine zv_goto (pc' := 11) dX7_bitsFor_46 rfl ?_
        rw [nI_add]
        exact this
  refine zex_intro (L := [some (.ref 90), some (.ref (92 + w)), some (.int (nI p)), some (.int (nI (whL w))), none, none, none]) (by decide) (Nat.le_of_ble_eq_true rfl) rfl ?_
  refine zv_aload_n (pc' := 1) dX7_bitsFor_0 rfl rfl ?_
  refine zv_iload_n (pc' := 2) dX7_bitsFor_1 rfl rfl ?_
  refine zv_ialoadE (pc' := 3) dX7_bitsFor_2 rfl (by first | rfl | assumption) (by decide) (by omega) (by first | exact hold | rfl) ?_
  refine zv_istore (pc' := 5) dX7_bitsFor_3 rfl (by decide) ?_
  refine zv_iconst (v := nI 0) (pc' := 6) dX7_bitsFor_5 rfl (by decide) ?_
  refine zv_istore (pc' := 8) dX7_bitsFor_6 rfl (by decide) ?_
  refine zv_iconst (v := nI 0) (pc' := 9) dX7_bitsFor_8 rfl (by decide) ?_
  refine zv_istore (pc' := 11) dX7_bitsFor_9 rfl (by decide) ?_
  have := lp (whL w) 0 M (by omega) ⟨whO c p w, by rw [wh_id]; exact zTd.rf hA⟩
  rw [show (fun j => decide (j < 0) && soB (whC c p w j) p R R.1) = (fun _ => false) from by funext j; simp, zm_f] at this
  exact this
end
