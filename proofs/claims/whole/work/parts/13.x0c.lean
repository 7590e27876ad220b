/-! County: years -/
def zfg (is : List Nat) (L : ZLc) : ZLc := is.foldl (fun L i => L.set i none) L
theorem zfg_some : ∀ (is : List Nat) (L : ZLc) (i : Nat) (v : Value), (zfg is L)[i]? = some (some v) → L[i]? = some (some v)
  | [], _, _, _, h => h
  | k :: is, L, i, v, h => (zset_some (zfg_some is (L.set k none) i v h)).1
theorem zv_fg {m : ZMD} {d : Nat} {Q : Option Value → ZMem → Prop} {pc : Nat} {L : ZLc} {st : List Value} {M : ZMem} (is : List Nat) (k : ZV m d Q pc (zfg is L) st M) : ZV m d Q pc L st M := by
  intro G cI cQ ad A p l e s mi args below meth c H locs ls S hr hlk hK hW hS hL
  refine k G cI cQ ad A p l e s mi args below meth c H locs ls S hr hlk hK hW hS ⟨hL.1, hL.2.1, fun i v h => ?_⟩
  simp only [zmL, List.getElem?_map] at h
  cases hx : (zfg is L)[i]? with
  | none => rw [hx] at h; simp at h
  | some w => cases w with
    | none => rw [hx] at h; simp at h
    | some w =>
      rw [hx] at h
      have e : zc ad w = v := Option.some.inj (Option.some.inj h)
      rw [← e]
      exact hL.2.2 i _ (zmL_at (zfg_some is L i w hx))
def signC (c : ZCty) (p q : Nat) (b : Bool) : ZCty := setS c (fu2 (yS c) p q b)
def feudC (c : ZCty) (p q : Nat) (b : Bool) : ZCty := setX c (fu2 (fu2 (yX c) p q b) q p b)
theorem fu2_at {f : Nat → Nat → Bool} {p q i j : Nat} {b : Bool} : fu2 f p q b i j = if i = p ∧ j = q then b else f i j := by
  unfold fu2 fu
  by_cases h1 : i = p
  · subst h1; by_cases h2 : j = q <;> simp [h2]
  · simp [h1]
theorem zOk_sign {c : ZCty} {p q : Nat} {b : Bool} (hk : zOk c) (hp : p < yN c) (hq : q < yN c) (hpq : p ≠ q) : zOk (signC c p q b) := by
  obtain ⟨h1, h2, h3, h4, h5, h6, h7⟩ := hk
  refine ⟨h1, h2, h3, h4, fun i j h => ?_, h6, h7⟩
  have h : fu2 (yS c) p q b i j = true := h
  rw [fu2_at] at h
  split at h
  · rename_i e; obtain ⟨rfl, rfl⟩ := e; exact ⟨hp, hq, hpq⟩
  · exact h5 i j h
theorem zOk_feud {c : ZCty} {p q : Nat} {b : Bool} (hk : zOk c) (hp : p < yN c) (hq : q < yN c) (hpq : p ≠ q) : zOk (feudC c p q b) := by
  obtain ⟨h1, h2, h3, h4, h5, h6, h7⟩ := hk
  refine ⟨h1, h2, h3, h4, h5, fun i j h => ?_, fun i j => ?_⟩
  · have h : fu2 (fu2 (yX c) p q b) q p b i j = true := h
    rw [fu2_at, fu2_at] at h
    split at h
    · rename_i e; obtain ⟨rfl, rfl⟩ := e; exact ⟨hq, hp, fun e => hpq e.symm⟩
    · split at h
      · rename_i e; obtain ⟨rfl, rfl⟩ := e; exact ⟨hp, hq, hpq⟩
      · exact h6 i j h
  · show fu2 (fu2 (yX c) p q b) q p b i j = fu2 (fu2 (yX c) p q b) q p b j i
    rw [fu2_at, fu2_at, fu2_at, fu2_at, h7 i j]
    by_cases a : i = q <;> by_cases a2 : j = p <;> by_cases a3 : i = p <;> by_cases a4 : j = q <;> simp [a, a2, a3, a4] <;> omega
theorem zOk_M {c : ZCty} {i w : Nat} (hk : zOk c) (hw : w ≤ 99) : zOk (setM c (fu (yM c) i w)) := by
  obtain ⟨h1, h2, h3, h4, h5, h6, h7⟩ := hk
  refine ⟨h1, h2, h3, fun j => ?_, h5, h6, h7⟩
  show fu (yM c) i w j ≤ 99
  unfold fu
  split
  · exact hw
  · exact h4 j
theorem zOk_pay {c : ZCty} {p q : Nat} (hk : zOk c) : zOk (payC c p q) ∧ yN (payC c p q) = yN c := by
  obtain ⟨h1, h2, h3, h4, h5, h6, h7⟩ := hk
  unfold payC
  split
  · refine ⟨⟨h1, h2, h3, h4, fun i j h => ?_, h6, h7⟩, rfl⟩
    have h : fu2 (yS c) p q false i j = true := h
    rw [fu2_at] at h
    split at h
    · cases h
    · exact h5 i j h
  · refine ⟨⟨h1, h2, h3, fun i => ?_, h5, h6, h7⟩, rfl⟩
    show fu (fu (yM c) q _) p _ i ≤ 99
    unfold fu
    split
    · have := h4 p; omega
    · split
      · omega
      · exact h4 i
theorem zOk_step {c : ZCty} {dd p q : Nat} (hk : zOk c) : zOk (stepC dd c p q) ∧ yN (stepC dd c p q) = yN c := by
  unfold stepC
  split
  · exact zOk_pay hk
  · exact ⟨hk, rfl⟩
theorem zOk_row {c : ZCty} {dd p : Nat} (hk : zOk c) : zOk (rowC dd c p) ∧ yN (rowC dd c p) = yN c :=
  zlf_inv (fun x => zOk x ∧ yN x = yN c) (yN c) 0 c ⟨hk, rfl⟩ (fun q x _ _ h => ⟨(zOk_step h.1).1, (zOk_step h.1).2.trans h.2⟩)
theorem zOk_year {c : ZCty} {dd : Nat} (hk : zOk c) : zOk (yearC dd c) ∧ yN (yearC dd c) = yN c :=
  zlf_inv (fun x => zOk x ∧ yN x = yN c) (yN c) 0 _ ⟨hk, rfl⟩ (fun p x _ _ h => ⟨(zOk_row h.1).1, (zOk_row h.1).2.trans h.2⟩)
theorem zOk_years {c : ZCty} {k : Nat} (hk : zOk c) : zOk (yearsC k c) ∧ yN (yearsC k c) = yN c :=
  zlf_inv (fun x => zOk x ∧ yN x = yN c) k 0 _ ⟨hk, rfl⟩ (fun p x _ _ h => ⟨(zOk_year h.1).1, (zOk_year h.1).2.trans h.2⟩)
section
variable {o : Nat} {M : ZMem} {c : ZCty} {d : Nat}
theorem x0_turnSigning {p q : Nat} (hC : zCy o) (hA : zAt M o c) (hn : yN c ≤ 8) (hp : p < yN c) (hq : q < yN c) (hpq : p ≠ q) : ZFi mdX0_turnSigning (d + 3) [.ref o, .int (nI p), .int (nI q)] M (fun r M' => r = 1 ∧ zAt M' o (signC c p q (!yS c p q)) ∧ zSame o (o + 6) M M') := by
  have hC' := hC
  obtain ⟨c0, c1, c2, c3, c4, c5⟩ := hC
  refine zex_intro (L := [some (.ref o), some (.int (nI p)), some (.int (nI q))]) (by decide) (Nat.le_of_ble_eq_true rfl) rfl ?_
  refine zv_aload_n (pc' := 1) dX0_turnSigning_0 rfl rfl ?_
  refine zv_iload_n (pc' := 2) dX0_turnSigning_1 rfl rfl ?_
  refine zv_iload_n (pc' := 3) dX0_turnSigning_2 rfl rfl ?_
  refine zv_aload_n (pc' := 4) dX0_turnSigning_3 rfl rfl ?_
  refine zv_iload_n (pc' := 5) dX0_turnSigning_4 rfl rfl ?_
  refine zv_iload_n (pc' := 6) dX0_turnSigning_5 rfl rfl ?_
  refine zv_cV2_pi (pc' := 9) dX0_turnSigning_6 rfl lkX0_55 (by first | rfl | assumption) rfl (Nat.le_of_ble_eq_true rfl) (x0_hasSigned hC' hA hn hp hq hpq) ?_
  refine zv_if_ne (pc' := 12) (tgt := 16) dX0_turnSigning_9 rfl rfl ?_ ?_
  · intro h
    refine zv_iconst (v := nI 0) (pc' := 17) dX0_turnSigning_16 rfl (by decide) ?_
    refine zv_top (show nI 0 = zb (!yS c p q) by rw [zb_ne.mp h]; rfl) ?_
    refine zv_cV3_fi (pc' := 20) dX0_turnSigning_17 rfl lkX0_58 (by first | rfl | assumption) rfl (Nat.le_of_ble_eq_true rfl) (x0_setSigning hC' hA hn hp hq hpq) ?_
    rintro r M' ⟨rfl, h1, h2⟩
    refine zv_ireturn dX0_turnSigning_20 rfl (by first | rfl | exact zb_nar _) ?_
    exact ⟨_, rfl, rfl, h1, h2⟩
  · intro h
    refine zv_iconst (v := nI 1) (pc' := 13) dX0_turnSigning_12 rfl (by decide) ?_
    refine zv_goto (pc' := 17) dX0_turnSigning_13 rfl ?_
    refine zv_top (show nI 1 = zb (!yS c p q) by rw [zb_0.mp h]; rfl) ?_
    refine zv_cV3_fi (pc' := 20) dX0_turnSigning_17 rfl lkX0_58 (by first | rfl | assumption) rfl (Nat.le_of_ble_eq_true rfl) (x0_setSigning hC' hA hn hp hq hpq) ?_
    rintro r M' ⟨rfl, h1, h2⟩
    refine zv_ireturn dX0_turnSigning_20 rfl (by first | rfl | exact zb_nar _) ?_
    exact ⟨_, rfl, rfl, h1, h2⟩
theorem x0_turnSigning0 {x y : Int32} (hC : zCy o) (hA : zAt M o c) (hx : twoB (yN c) x y = false) : ZPi mdX0_turnSigning (d + 3) [.ref o, .int x, .int y] M (zb false) := by
  have hC' := hC
  obtain ⟨c0, c1, c2, c3, c4, c5⟩ := hC
  refine zex_intro (L := [some (.ref o), some (.int x), some (.int y)]) (by decide) (Nat.le_of_ble_eq_true rfl) rfl ?_
  refine zv_aload_n (pc' := 1) dX0_turnSigning_0 rfl rfl ?_
  refine zv_iload_n (pc' := 2) dX0_turnSigning_1 rfl rfl ?_
  refine zv_iload_n (pc' := 3) dX0_turnSigning_2 rfl rfl ?_
  refine zv_aload_n (pc' := 4) dX0_turnSigning_3 rfl rfl ?_
  refine zv_iload_n (pc' := 5) dX0_turnSigning_4 rfl rfl ?_
  refine zv_iload_n (pc' := 6) dX0_turnSigning_5 rfl rfl ?_
  refine zv_cV2_pi (pc' := 9) dX0_turnSigning_6 rfl lkX0_55 (by first | rfl | assumption) rfl (Nat.le_of_ble_eq_true rfl) (x0_hasSigned0 hC' hA hx) ?_
  refine zv_if_ne (pc' := 12) (tgt := 16) dX0_turnSigning_9 rfl rfl (fun hcc => absurd (rfl) hcc) (fun _ => ?_)
  refine zv_iconst (v := nI 1) (pc' := 13) dX0_turnSigning_12 rfl (by decide) ?_
  refine zv_goto (pc' := 17) dX0_turnSigning_13 rfl ?_
  refine zv_cV3_pi (pc' := 20) dX0_turnSigning_17 rfl lkX0_58 (by first | rfl | assumption) rfl (Nat.le_of_ble_eq_true rfl) (x0_setSigning0 hC' hA hx) ?_
  refine zv_ireturn dX0_turnSigning_20 rfl (by first | rfl | exact zb_nar _) ?_
  exact zpi_ret rfl
theorem x0_turnFeud {p q : Nat} (hC : zCy o) (hA : zAt M o c) (hn : yN c ≤ 8) (hp : p < yN c) (hq : q < yN c) (hpq : p ≠ q) : ZFi mdX0_turnFeud (d + 3) [.ref o, .int (nI p), .int (nI q)] M (fun r M' => r = 1 ∧ zAt M' o (feudC c p q (!yX c p q)) ∧ zSame o (o + 6) M M') := by
  have hC' := hC
  obtain ⟨c0, c1, c2, c3, c4, c5⟩ := hC
  refine zex_intro (L := [some (.ref o), some (.int (nI p)), some (.int (nI q))]) (by decide) (Nat.le_of_ble_eq_true rfl) rfl ?_
  refine zv_aload_n (pc' := 1) dX0_turnFeud_0 rfl rfl ?_
  refine zv_iload_n (pc' := 2) dX0_turnFeud_1 rfl rfl ?_
  refine zv_iload_n (pc' := 3) dX0_turnFeud_2 rfl rfl ?_
  refine zv_aload_n (pc' := 4) dX0_turnFeud_3 rfl rfl ?_
  refine zv_iload_n (pc' := 5) dX0_turnFeud_4 rfl rfl ?_
  refine zv_iload_n (pc' := 6) dX0_turnFeud_5 rfl rfl ?_
  refine zv_cV2_pi (pc' := 9) dX0_turnFeud_6 rfl lkX0_66 (by first | rfl | assumption) rfl (Nat.le_of_ble_eq_true rfl) (x0_atFeud hC' hA hn hp hq hpq) ?_
  refine zv_if_ne (pc' := 12) (tgt := 16) dX0_turnFeud_9 rfl rfl ?_ ?_
  · intro h
    refine zv_iconst (v := nI 0) (pc' := 17) dX0_turnFeud_16 rfl (by decide) ?_
    refine zv_top (show nI 0 = zb (!yX c p q) by rw [zb_ne.mp h]; rfl) ?_
    refine zv_cV3_fi (pc' := 20) dX0_turnFeud_17 rfl lkX0_69 (by first | rfl | assumption) rfl (Nat.le_of_ble_eq_true rfl) (x0_setFeud hC' hA hn hp hq hpq) ?_
    rintro r M' ⟨rfl, h1, h2⟩
    refine zv_ireturn dX0_turnFeud_20 rfl (by first | rfl | exact zb_nar _) ?_
    exact ⟨_, rfl, rfl, h1, h2⟩
  · intro h
    refine zv_iconst (v := nI 1) (pc' := 13) dX0_turnFeud_12 rfl (by decide) ?_
    refine zv_goto (pc' := 17) dX0_turnFeud_13 rfl ?_
    refine zv_top (show nI 1 = zb (!yX c p q) by rw [zb_0.mp h]; rfl) ?_
    refine zv_cV3_fi (pc' := 20) dX0_turnFeud_17 rfl lkX0_69 (by first | rfl | assumption) rfl (Nat.le_of_ble_eq_true rfl) (x0_setFeud hC' hA hn hp hq hpq) ?_
    rintro r M' ⟨rfl, h1, h2⟩
    refine zv_ireturn dX0_turnFeud_20 rfl (by first | rfl | exact zb_nar _) ?_
    exact ⟨_, rfl, rfl, h1, h2⟩
theorem x0_turnFeud0 {x y : Int32} (hC : zCy o) (hA : zAt M o c) (hx : twoB (yN c) x y = false) : ZPi mdX0_turnFeud (d + 3) [.ref o, .int x, .int y] M (zb false) := by
  have hC' := hC
  obtain ⟨c0, c1, c2, c3, c4, c5⟩ := hC
  refine zex_intro (L := [some (.ref o), some (.int x), some (.int y)]) (by decide) (Nat.le_of_ble_eq_true rfl) rfl ?_
  refine zv_aload_n (pc' := 1) dX0_turnFeud_0 rfl rfl ?_
  refine zv_iload_n (pc' := 2) dX0_turnFeud_1 rfl rfl ?_
  refine zv_iload_n (pc' := 3) dX0_turnFeud_2 rfl rfl ?_
  refine zv_aload_n (pc' := 4) dX0_turnFeud_3 rfl rfl ?_
  refine zv_iload_n (pc' := 5) dX0_turnFeud_4 rfl rfl ?_
  refine zv_iload_n (pc' := 6) dX0_turnFeud_5 rfl rfl ?_
  refine zv_cV2_pi (pc' := 9) dX0_turnFeud_6 rfl lkX0_66 (by first | rfl | assumption) rfl (Nat.le_of_ble_eq_true rfl) (x0_atFeud0 hC' hA hx) ?_
  refine zv_if_ne (pc' := 12) (tgt := 16) dX0_turnFeud_9 rfl rfl (fun hcc => absurd (rfl) hcc) (fun _ => ?_)
  refine zv_iconst (v := nI 1) (pc' := 13) dX0_turnFeud_12 rfl (by decide) ?_
  refine zv_goto (pc' := 17) dX0_turnFeud_13 rfl ?_
  refine zv_cV3_pi (pc' := 20) dX0_turnFeud_17 rfl lkX0_69 (by first | rfl | assumption) rfl (Nat.le_of_ble_eq_true rfl) (x0_setFeud0 hC' hA hx) ?_
  refine zv_ireturn dX0_turnFeud_20 rfl (by first | rfl | exact zb_nar _) ?_
  exact zpi_ret rfl
theorem x0_signBoth {p q : Nat} (hC : zCy o) (hA : zAt M o c) (hn : yN c ≤ 8) (hp : p < yN c) (hq : q < yN c) (hpq : p ≠ q) : ZFi mdX0_signBoth (d + 3) [.ref o, .int (nI p), .int (nI q)] M (fun r M' => r = 1 ∧ zAt M' o (signC (signC c p q true) q p true) ∧ zSame o (o + 6) M M') := by
  have hC' := hC
  obtain ⟨c0, c1, c2, c3, c4, c5⟩ := hC
  refine zex_intro (L := [some (.ref o), some (.int (nI p)), some (.int (nI q))]) (by decide) (Nat.le_of_ble_eq_true rfl) rfl ?_
  refine zv_aload_n (pc' := 1) dX0_signBoth_0 rfl rfl ?_
  refine zv_iload_n (pc' := 2) dX0_signBoth_1 rfl rfl ?_
  refine zv_iload_n (pc' := 3) dX0_signBoth_2 rfl rfl ?_
  refine zv_iconst (v := nI 1) (pc' := 4) dX0_signBoth_3 rfl (by decide) ?_
  refine zv_cV3_fi (pc' := 7) dX0_signBoth_4 rfl lkX0_58 (by first | rfl | assumption) rfl (Nat.le_of_ble_eq_true rfl) (x0_setSigning (b := true) hC' hA hn hp hq hpq) ?_
  rintro r M1 ⟨rfl, h1, h2⟩
  refine zv_if_eq (pc' := 10) (tgt := 24) dX0_signBoth_7 rfl rfl (fun hcc => absurd hcc (by decide)) (fun _ => ?_)
  refine zv_aload_n (pc' := 11) dX0_signBoth_10 rfl rfl ?_
  refine zv_iload_n (pc' := 12) dX0_signBoth_11 rfl rfl ?_
  refine zv_iload_n (pc' := 13) dX0_signBoth_12 rfl rfl ?_
  refine zv_iconst (v := nI 1) (pc' := 14) dX0_signBoth_13 rfl (by decide) ?_
  refine zv_cV3_fi (pc' := 17) dX0_signBoth_14 rfl lkX0_58 (by first | rfl | assumption) rfl (Nat.le_of_ble_eq_true rfl) (x0_setSigning (b := true) hC' h1 hn hq hp (Ne.symm hpq)) ?_
  rintro r M2 ⟨rfl, h3, h4⟩
  refine zv_if_eq (pc' := 20) (tgt := 24) dX0_signBoth_17 rfl rfl (fun hcc => absurd hcc (by decide)) (fun _ => ?_)
  refine zv_iconst (v := nI 1) (pc' := 21) dX0_signBoth_20 rfl (by decide) ?_
  refine zv_goto (pc' := 25) dX0_signBoth_21 rfl ?_
  refine zv_ireturn dX0_signBoth_25 rfl (by first | rfl | exact zb_nar _) ?_
  exact ⟨_, rfl, rfl, h3, h2.tr h4⟩
theorem twoB_sym {n : Nat} {x y : Int32} : twoB n x y = twoB n y x := by
  unfold twoB
  rw [show (decide (¬ x = y)) = decide (¬ y = x) from by by_cases h : x = y <;> simp [h, eq_comm]]
  cases hasB n x <;> cases hasB n y <;> rfl
theorem x0_signBoth0 {x y : Int32} (hC : zCy o) (hA : zAt M o c) (hx : twoB (yN c) x y = false) : ZPi mdX0_signBoth (d + 3) [.ref o, .int x, .int y] M (zb false) := by
  have hC' := hC
  obtain ⟨c0, c1, c2, c3, c4, c5⟩ := hC
  refine zex_intro (L := [some (.ref o), some (.int x), some (.int y)]) (by decide) (Nat.le_of_ble_eq_true rfl) rfl ?_
  refine zv_aload_n (pc' := 1) dX0_signBoth_0 rfl rfl ?_
  refine zv_iload_n (pc' := 2) dX0_signBoth_1 rfl rfl ?_
  refine zv_iload_n (pc' := 3) dX0_signBoth_2 rfl rfl ?_
  refine zv_iconst (v := nI 1) (pc' := 4) dX0_signBoth_3 rfl (by decide) ?_
  refine zv_cV3_pi (pc' := 7) dX0_signBoth_4 rfl lkX0_58 (by first | rfl | assumption) rfl (Nat.le_of_ble_eq_true rfl) (x0_setSigning0 hC' hA hx) ?_
  refine zv_if_eq (pc' := 10) (tgt := 24) dX0_signBoth_7 rfl rfl (fun _ => ?_) (fun hcc => absurd (rfl) hcc)
  refine zv_iconst (v := nI 0) (pc' := 25) dX0_signBoth_24 rfl (by decide) ?_
  refine zv_ireturn dX0_signBoth_25 rfl (by first | rfl | exact zb_nar _) ?_
  exact zpi_f rfl
theorem x0_dues {p q : Nat} (hC : zCy o) (hA : zAt M o c) (hk : zOk c) (hp : p < yN c) (hq : q < yN c) : ZPi mdX0_dues d [.ref o, .int (nI p), .int (nI q)] M (nI (duesN c p q)) := by
  have hn := hk.1
  have hF9 := hk.2.2.1 p
  have hM9 := hk.2.2.2.1
  obtain ⟨c0, c1, c2, c3, c4, c5⟩ := hC
  obtain ⟨hN, hY, hK, hF, hM, hS, hX⟩ := hA
  have fin : ∀ w : Nat, w = (if yM c q < yM c p then 1 else 0) → ZV mdX0_dues d (fun v M' => v = some (.int (nI (duesN c p q))) ∧ M' = M) 33 [some (.ref o), some (.int (nI p)), some (.int (nI q)), some (.int (nI (1 + yF c p / 3))), some (.int (nI w))] [] M := by
    intro w hw
    refine zv_aload_n (pc' := 34) dX0_dues_33 rfl rfl ?_
    refine zv_getR (pc' := 37) dX0_dues_34 rfl flX0_9 (by first | rfl | assumption) rfl ?_
    refine zv_iload_n (pc' := 38) dX0_dues_37 rfl rfl ?_
    refine zv_ialoadE (pc' := 39) dX0_dues_38 rfl (by first | rfl | assumption) (by decide) (by omega) (by first | exact hN | exact hY | exact hM _ (by omega) | exact hS _ (by omega) | exact hX _ (by omega) | exact hK _ (by omega) | exact hF _ (by omega) | rfl) ?_
    have hk5 := hk.2.1 p
    rcases (show yK c p = 0 ∨ yK c p = 1 ∨ yK c p = 2 ∨ yK c p = 3 ∨ yK c p = 4 ∨ yK c p = 5 by omega) with e | e | e | e | e | e
    · rw [show nI (yK c p) = nI 0 by rw [e]]
      refine zv_tableOut (pc' := 88) dX0_dues_39 (by decide) rfl ?_
      refine zv_iconst (v := nI 1) (pc' := 89) dX0_dues_88 rfl (by decide) ?_
      refine zv_iret dX0_dues_89 rfl ?_
      exact zpi_ret (by simp [duesN, e])
    · rw [show nI (yK c p) = nI 1 by rw [e]]
      refine zv_tableIn (pc' := 72) (off := 33) dX0_dues_39 (by decide) (by decide) (by decide) rfl ?_
      refine zv_iload_n (pc' := 73) dX0_dues_72 rfl rfl ?_
      refine zv_iret dX0_dues_73 rfl ?_
      exact zpi_ret (by simp [duesN, e])
    · rw [show nI (yK c p) = nI 2 by rw [e]]
      refine zv_tableIn (pc' := 74) (off := 35) dX0_dues_39 (by decide) (by decide) (by decide) rfl ?_
      refine zv_iconst (v := nI 0) (pc' := 75) dX0_dues_74 rfl (by decide) ?_
      refine zv_iret dX0_dues_75 rfl ?_
      exact zpi_ret (by simp [duesN, e])
    · rw [show nI (yK c p) = nI 3 by rw [e]]
      refine zv_tableIn (pc' := 76) (off := 37) dX0_dues_39 (by decide) (by decide) (by decide) rfl ?_
      refine zv_iload (pc' := 78) dX0_dues_76 rfl rfl ?_
      refine zv_iret dX0_dues_78 rfl ?_
      exact zpi_ret (by simp [duesN, e, hw])
    · rw [show nI (yK c p) = nI 4 by rw [e]]
      refine zv_tableIn (pc' := 79) (off := 40) dX0_dues_39 (by decide) (by decide) (by decide) rfl ?_
      refine zv_iconst (v := nI 2) (pc' := 80) dX0_dues_79 rfl (by decide) ?_
      refine zv_iload_n (pc' := 81) dX0_dues_80 rfl rfl ?_
      refine zv_imul (pc' := 82) dX0_dues_81 rfl ?_
      refine zv_top (pk_mul _ _) ?_
      refine zv_iret dX0_dues_82 rfl ?_
      exact zpi_ret (by simp [duesN, e])
    · rw [show nI (yK c p) = nI 5 by rw [e]]
      refine zv_tableIn (pc' := 83) (off := 44) dX0_dues_39 (by decide) (by decide) (by decide) rfl ?_
      refine zv_iload (pc' := 85) dX0_dues_83 rfl rfl ?_
      refine zv_iconst (v := nI 1) (pc' := 86) dX0_dues_85 rfl (by decide) ?_
      refine zv_iadd (pc' := 87) dX0_dues_86 rfl ?_
      refine zv_top (nI_add _ _) ?_
      refine zv_iret dX0_dues_87 rfl ?_
      exact zpi_ret (by simp [duesN, e, hw])
  refine zex_intro (L := [some (.ref o), some (.int (nI p)), some (.int (nI q)), none, none]) (by decide) (Nat.le_of_ble_eq_true rfl) rfl ?_
  refine zv_iconst (v := nI 1) (pc' := 1) dX0_dues_0 rfl (by decide) ?_
  refine zv_aload_n (pc' := 2) dX0_dues_1 rfl rfl ?_
  refine zv_getR (pc' := 5) dX0_dues_2 rfl flX0_15 (by first | rfl | assumption) rfl ?_
  refine zv_iload_n (pc' := 6) dX0_dues_5 rfl rfl ?_
  refine zv_ialoadE (pc' := 7) dX0_dues_6 rfl (by first | rfl | assumption) (by decide) (by omega) (by first | exact hN | exact hY | exact hM _ (by omega) | exact hS _ (by omega) | exact hX _ (by omega) | exact hK _ (by omega) | exact hF _ (by omega) | rfl) ?_
  refine zv_iconst (v := nI 3) (pc' := 8) dX0_dues_7 rfl (by decide) ?_
  refine zv_idiv (pc' := 9) dX0_dues_8 rfl (by first | assumption | decide) ?_
  refine zv_top (pk_div (by omega) (by omega) (by omega)) ?_
  refine zv_iadd (pc' := 10) dX0_dues_9 rfl ?_
  refine zv_top (nI_add _ _) ?_
  refine zv_istore_n (pc' := 11) dX0_dues_10 rfl (by decide) ?_
  refine zv_aload_n (pc' := 12) dX0_dues_11 rfl rfl ?_
  refine zv_getR (pc' := 15) dX0_dues_12 rfl flX0_18 (by first | rfl | assumption) rfl ?_
  refine zv_iload_n (pc' := 16) dX0_dues_15 rfl rfl ?_
  refine zv_ialoadE (pc' := 17) dX0_dues_16 rfl (by first | rfl | assumption) (by decide) (by omega) (by first | exact hN | exact hY | exact hM _ (by omega) | exact hS _ (by omega) | exact hX _ (by omega) | exact hK _ (by omega) | exact hF _ (by omega) | rfl) ?_
  refine zv_aload_n (pc' := 18) dX0_dues_17 rfl rfl ?_
  refine zv_getR (pc' := 21) dX0_dues_18 rfl flX0_18 (by first | rfl | assumption) rfl ?_
  refine zv_iload_n (pc' := 22) dX0_dues_21 rfl rfl ?_
  refine zv_ialoadE (pc' := 23) dX0_dues_22 rfl (by first | rfl | assumption) (by decide) (by omega) (by first | exact hN | exact hY | exact hM _ (by omega) | exact hS _ (by omega) | exact hX _ (by omega) | exact hK _ (by omega) | exact hF _ (by omega) | rfl) ?_
  have hMp := hM9 p
  have hMq := hM9 q
  refine zv_icmp_ge (pc' := 26) (tgt := 30) dX0_dues_23 rfl rfl ?_ ?_
  · intro h
    refine zv_iconst (v := nI 0) (pc' := 31) dX0_dues_30 rfl (by decide) ?_
    refine zv_istore (pc' := 33) dX0_dues_31 rfl (by decide) ?_
    exact fin 0 (by rw [if_neg]; have := (nI_leI (by omega) (by omega)).mp h; omega)
  · intro h
    refine zv_iconst (v := nI 1) (pc' := 27) dX0_dues_26 rfl (by decide) ?_
    refine zv_goto (pc' := 31) dX0_dues_27 rfl ?_
    refine zv_istore (pc' := 33) dX0_dues_31 rfl (by decide) ?_
    exact fin 1 (by rw [if_pos]; have := mt (nI_leI (a := yM c p) (b := yM c q) (by omega) (by omega)).mpr h; omega)
theorem x0_pay {p q : Nat} (hC : zCy o) (hA : zAt M o c) (hk : zOk c) (hp : p < yN c) (hq : q < yN c) (hpq : p ≠ q) : ZFv mdX0_pay (d + 1) [.ref o, .int (nI p), .int (nI q)] M (fun M' => zAt M' o (payC c p q) ∧ zSame o (o + 6) M M') := by
  have hC' := hC
  have hA' := hA
  have hn := hk.1
  have hM9 := hk.2.2.2.1
  have hMp := hM9 p
  have hMq := hM9 q
  have hdue : duesN c p q ≤ 8 := by
    have := hk.2.2.1 p
    unfold duesN
    split <;> (try split) <;> omega
  obtain ⟨c0, c1, c2, c3, c4, c5⟩ := hC
  obtain ⟨hN, hY, hK, hF, hM, hS, hX⟩ := hA
  refine zex_intro (L := [some (.ref o), some (.int (nI p)), some (.int (nI q)), none]) (by decide) (Nat.le_of_ble_eq_true rfl) rfl ?_
  refine zv_aload_n (pc' := 1) dX0_pay_0 rfl rfl ?_
  refine zv_iload_n (pc' := 2) dX0_pay_1 rfl rfl ?_
  refine zv_iload_n (pc' := 3) dX0_pay_2 rfl rfl ?_
  refine zv_cV2_pi (pc' := 6) dX0_pay_3 rfl lkX0_84 (by first | rfl | assumption) rfl (Nat.le_of_ble_eq_true rfl) (x0_dues hC' hA' hk hp hq) ?_
  refine zv_istore_n (pc' := 7) dX0_pay_6 rfl (by decide) ?_
  refine zv_aload_n (pc' := 8) dX0_pay_7 rfl rfl ?_
  refine zv_getR (pc' := 11) dX0_pay_8 rfl flX0_18 (by first | rfl | assumption) rfl ?_
  refine zv_iload_n (pc' := 12) dX0_pay_11 rfl rfl ?_
  refine zv_ialoadE (pc' := 13) dX0_pay_12 rfl (by first | rfl | assumption) (by decide) (by omega) (by first | exact hN | exact hY | exact hM _ (by omega) | exact hS _ (by omega) | exact hX _ (by omega) | exact hK _ (by omega) | exact hF _ (by omega) | rfl) ?_
  refine zv_iload_n (pc' := 14) dX0_pay_13 rfl rfl ?_
  refine zv_icmp_ge (pc' := 17) (tgt := 32) dX0_pay_14 rfl rfl ?_ ?_
  · intro h
    have h := (nI_leI (by omega) (by omega)).mp h
    refine zv_aload_n (pc' := 33) dX0_pay_32 rfl rfl ?_
    refine zv_getR (pc' := 36) dX0_pay_33 rfl flX0_18 (by first | rfl | assumption) rfl ?_
    refine zv_iload_n (pc' := 37) dX0_pay_36 rfl rfl ?_
    refine zv_bipush (v := nI 99) (pc' := 39) dX0_pay_37 rfl (by decide) ?_
    refine zv_aload_n (pc' := 40) dX0_pay_39 rfl rfl ?_
    refine zv_getR (pc' := 43) dX0_pay_40 rfl flX0_18 (by first | rfl | assumption) rfl ?_
    refine zv_iload_n (pc' := 44) dX0_pay_43 rfl rfl ?_
    refine zv_ialoadE (pc' := 45) dX0_pay_44 rfl (by first | rfl | assumption) (by decide) (by omega) (by first | exact hN | exact hY | exact hM _ (by omega) | exact hS _ (by omega) | exact hX _ (by omega) | exact hK _ (by omega) | exact hF _ (by omega) | rfl) ?_
    refine zv_iload_n (pc' := 46) dX0_pay_45 rfl rfl ?_
    refine zv_iadd (pc' := 47) dX0_pay_46 rfl ?_
    refine zv_top (nI_add _ _) ?_
    refine zv_mmin (pc' := 50) dX0_pay_47 rfl lmX0_88 (Nat.le_of_ble_eq_true rfl) ?_
    refine zv_top (show _ = nI (min 99 (yM c q + duesN c p q)) from ?_) ?_
    · by_cases h2 : yM c q + duesN c p q < 99
      · rw [if_pos (nI_lt h2 (by omega)), Nat.min_eq_right (by omega)]
      · rw [if_neg (nI_nlt (by omega) (by omega)), Nat.min_eq_left (by omega)]
    refine zv_iastoreN (pc' := 51) dX0_pay_50 rfl (by first | rfl | assumption) (by decide) (by omega) ?_
    have hA1 := zAt_M (i := q) (w := min 99 (yM c q + duesN c p q)) hA'
    have hs1 : zSame o (o + 6) M (zup M (o + 3) q (nI (min 99 (yM c q + duesN c p q)))) := zSame.up (by omega) (by omega)
    generalize zup M (o + 3) q (nI (min 99 (yM c q + duesN c p q))) = M1 at hA1 hs1 ⊢
    have hM1 := hA1.2.2.2.2.1 p (by omega)
    rw [show yM (setM c (fu (yM c) q (min 99 (yM c q + duesN c p q)))) p = yM c p from fu_n hpq] at hM1
    refine zv_aload_n (pc' := 52) dX0_pay_51 rfl rfl ?_
    refine zv_getR (pc' := 55) dX0_pay_52 rfl flX0_18 (by first | rfl | assumption) rfl ?_
    refine zv_iload_n (pc' := 56) dX0_pay_55 rfl rfl ?_
    refine zv_dup2 (pc' := 57) dX0_pay_56 rfl rfl rfl ?_
    refine zv_ialoadE (pc' := 58) dX0_pay_57 rfl (by first | rfl | assumption) (by decide) (by omega) (by first | exact hM1 | rfl) ?_
    refine zv_iload_n (pc' := 59) dX0_pay_58 rfl rfl ?_
    refine zv_isub (pc' := 60) dX0_pay_59 rfl ?_
    refine zv_top (pk_sub h) ?_
    refine zv_iastoreN (pc' := 61) dX0_pay_60 rfl (by first | rfl | assumption) (by decide) (by omega) ?_
    refine zv_vret dX0_pay_61 rfl ?_
    refine ⟨rfl, ?_, hs1.tr (zSame.up (by omega) (by omega))⟩
    have hA2 := zAt_M (i := p) (w := yM c p - duesN c p q) hA1
    unfold payC
    rw [if_neg (by omega)]
    exact hA2
  · intro h
    have h := mt (nI_leI (a := duesN c p q) (b := yM c p) (by omega) (by omega)).mpr h
    refine zv_aload_n (pc' := 18) dX0_pay_17 rfl rfl ?_
    refine zv_getR (pc' := 21) dX0_pay_18 rfl flX0_21 (by first | rfl | assumption) rfl ?_
    refine zv_iload_n (pc' := 22) dX0_pay_21 rfl rfl ?_
    refine zv_dup2 (pc' := 23) dX0_pay_22 rfl rfl rfl ?_
    refine zv_ialoadE (pc' := 24) dX0_pay_23 rfl (by first | rfl | assumption) (by decide) (by omega) (by first | exact hN | exact hY | exact hM _ (by omega) | exact hS _ (by omega) | exact hX _ (by omega) | exact hK _ (by omega) | exact hF _ (by omega) | rfl) ?_
    refine zv_iconst (v := nI 1) (pc' := 25) dX0_pay_24 rfl (by decide) ?_
    refine zv_iload_n (pc' := 26) dX0_pay_25 rfl rfl ?_
    refine zv_ishl (pc' := 27) dX0_pay_26 rfl ?_
    refine zv_top (zsh1 q (by omega)) ?_
    refine zv_iconst (v := (-1 : Int32)) (pc' := 28) dX0_pay_27 rfl (by decide) ?_
    refine zv_ixor (pc' := 29) dX0_pay_28 rfl ?_
    refine zv_iand (pc' := 30) dX0_pay_29 rfl ?_
    refine zv_top mk_cl1 ?_
    refine zv_iastoreN (pc' := 31) dX0_pay_30 rfl (by first | rfl | assumption) (by decide) (by omega) ?_
    refine zv_vret dX0_pay_31 rfl ?_
    refine ⟨rfl, ?_, zSame.up (by omega) (by omega)⟩
    have hA2 := zAt_S (i := p) (r := fun j => yS c p j && !decide (j = q)) hA'
    unfold payC
    rw [if_pos (by omega)]
    have e : fu2 (yS c) p q false = fu (yS c) p (fun j => yS c p j && !decide (j = q)) := by
      unfold fu2
      congr 1
      funext j
      by_cases e : j = q <;> simp [fu, e]
    rw [e]
    exact hA2
/-- the one who is absent: the class's number for him -/
def absI (dd : Nat) : Int32 := if dd < 8 then nI dd else (-1)
theorem absI_eq {p dd : Nat} (hp : p < 8) : nI p = absI dd ↔ p = dd := by
  unfold absI
  split
  · exact nI_eq (by omega) (by omega)
  · constructor
    · intro h
      have : ∀ p, p < 8 → ¬ nI p = (-1 : Int32) := by decide
      exact absurd h (this p hp)
    · intro h; omega
theorem kin_pay {c : ZCty} {p q j : Nat} (hpq : p ≠ q) (hj : j ≠ q) (hjp : j ≠ p) : kinB (payC c p q) p j = kinB c p j := by
  unfold payC
  split
  · unfold kinB
    show (fu2 (yS c) p q false p j && fu2 (yS c) p q false j p && !yX c p j) = _
    rw [fu2_at, fu2_at, if_neg (by omega), if_neg (by omega)]
  · rfl
theorem kin_irr {c : ZCty} (hk : zOk c) {p : Nat} : kinB c p p = false := by
  unfold kinB
  cases h : yS c p p
  · rfl
  · exact absurd rfl (hk.2.2.2.2.1 p p h).2.2
theorem x0_row_loop {dd p n : Nat} {t : Nat → Bool} (hC : zCy o) (hn : n ≤ 8) (hp : p < n) (hd8 : dd < 8 ∨ dd = 100) {Q : ZMem → Prop} {M0 : ZMem} : ∀ (r q : Nat) (c : ZCty) (M : ZMem), q + r = n → zAt M o c → zOk c → yN c = n → (∀ j, q ≤ j → j < n → t j = (decide (p ≠ dd) && kinB c p j)) → (∀ j, n ≤ j → t j = false) → zSame o (o + 6) M0 M →
    (∀ M', zAt M' o (zlf r q (fun q c => stepC dd c p q) c) → zSame o (o + 6) M0 M' → ZV mdX0_passYear (d + 2) (fun v M' => v = none ∧ Q M') 79 [some (.ref o), some (.int (absI dd)), some (.int (nI p)), none, none] [] M') →
    ZV mdX0_passYear (d + 2) (fun v M' => v = none ∧ Q M') 38 [some (.ref o), some (.int (absI dd)), some (.int (nI p)), some (.int (nI (zm 8 t))), some (.int (nI q))] [] M := by
  have hC' := hC
  obtain ⟨c0, c1, c2, c3, c4, c5⟩ := hC
  intro r
  induction r with
  | zero =>
    intro q c M hqr hA hk hnc ht htn hs hK
    have e : q = n := by omega
    subst e
    have hN : M o 5 = nI q := by rw [← hnc]; exact hA.1
    refine zv_iload (pc' := 40) dX0_passYear_38 rfl rfl ?_
    refine zv_aload_n (pc' := 41) dX0_passYear_40 rfl rfl ?_
    refine zv_getIE (pc' := 44) dX0_passYear_41 rfl flX0_33 (by first | rfl | assumption) rfl (by first | exact hN | exact hY | exact hM _ (by omega) | exact hS _ (by omega) | exact hX _ (by omega) | exact hK _ (by omega) | exact hF _ (by omega) | rfl) ?_
    refine zv_icmp_ge (pc' := 47) (tgt := 79) dX0_passYear_44 rfl rfl (fun _ => ?_) (fun hcc => absurd (Int32.le_refl _) hcc)
    refine zv_fg [3, 4] ?_
    exact hK M hA hs
  | succ r ih =>
    intro q c M hqr hA hk hnc ht htn hs hK
    have hN : M o 5 = nI n := by rw [← hnc]; exact hA.1
    refine zv_iload (pc' := 40) dX0_passYear_38 rfl rfl ?_
    refine zv_aload_n (pc' := 41) dX0_passYear_40 rfl rfl ?_
    refine zv_getIE (pc' := 44) dX0_passYear_41 rfl flX0_33 (by first | rfl | assumption) rfl (by first | exact hN | exact hY | exact hM _ (by omega) | exact hS _ (by omega) | exact hX _ (by omega) | exact hK _ (by omega) | exact hF _ (by omega) | rfl) ?_
    refine zv_icmp_ge (pc' := 47) (tgt := 79) dX0_passYear_44 rfl rfl (fun hcc => absurd hcc (nI_ge (by omega) (by omega))) (fun _ => ?_)
    refine zv_iload_n (pc' := 48) dX0_passYear_47 rfl rfl ?_
    refine zv_if_eq (pc' := 51) (tgt := 79) dX0_passYear_48 rfl rfl ?_ ?_
    · intro h
      have h0 : ∀ j, j < 8 → t j = false := zm_0.mp ((nI_eq (b := 0) (Nat.lt_trans (zm8_lt t) (by decide)) (by decide)).mp h)
      refine zv_fg [3, 4] ?_
      refine hK M ?_ hs
      have e : zlf (r + 1) q (fun q c => stepC dd c p q) c = c := by
        have key : ∀ (r q : Nat), (∀ j, q ≤ j → j < q + r → t j = false) → (∀ j, q ≤ j → j < q + r → t j = (decide (p ≠ dd) && kinB c p j)) → zlf r q (fun q c => stepC dd c p q) c = c := by
          intro r
          induction r with
          | zero => intro q _ _; rfl
          | succ r ih2 =>
            intro q h1 h2
            have e1 : stepC dd c p q = c := by
              unfold stepC
              rw [if_neg]
              rintro ⟨g1, g2, g3⟩
              have := h2 q (by omega) (by omega)
              rw [h1 q (by omega) (by omega)] at this
              simp [g1, g3] at this
            rw [zlf, e1]
            exact ih2 (q + 1) (fun j a b => h1 j (by omega) (by omega)) (fun j a b => h2 j (by omega) (by omega))
        exact key (r + 1) q (fun j a b => h0 j (by omega)) (fun j a b => ht j a (by omega))
      rw [e]
      exact hA
    · intro h
      refine zv_iload_n (pc' := 52) dX0_passYear_51 rfl rfl ?_
      refine zv_iload (pc' := 54) dX0_passYear_52 rfl rfl ?_
      refine zv_cS2_pi (pc' := 57) dX0_passYear_54 rfl lkX0_48 (Nat.le_of_ble_eq_true rfl) (x6_isInM (by omega)) ?_
      have ht0 := ht q (by omega) (by omega)
      have next : ∀ M1, zAt M1 o (stepC dd c p q) → zSame o (o + 6) M0 M1 → (∀ j, q + 1 ≤ j → j < n → t j = (decide (p ≠ dd) && kinB (stepC dd c p q) p j)) → ZV mdX0_passYear (d + 2) (fun v M' => v = none ∧ Q M') 73 [some (.ref o), some (.int (absI dd)), some (.int (nI p)), some (.int (nI (zm 8 t))), some (.int (nI q))] [] M1 := by
        intro M1 hA1 hs1 ht1
        refine zv_iinc (w := nI 1) (pc' := 76) dX0_passYear_73 rfl rfl (by decide) (by decide) ?_
        refine zv_goto (pc' := 38) dX0_passYear_76 rfl ?_
        rw [nI_add]
        exact ih (q + 1) (stepC dd c p q) M1 (by omega) hA1 (zOk_step hk).1 ((zOk_step hk).2.trans hnc) ht1 htn hs1 hK
      refine zv_if_eq (pc' := 60) (tgt := 73) dX0_passYear_57 rfl rfl ?_ ?_
      · intro h2
        have e1 : stepC dd c p q = c := by
          unfold stepC
          rw [if_neg]
          rintro ⟨g1, g2, g3⟩
          rw [zb_0.mp h2] at ht0
          simp [g1, g3] at ht0
        refine next M (by rw [e1]; exact hA) hs (fun j a b => ?_)
        rw [e1]
        exact ht j (by omega) b
      · intro h2
        have ht1 := zb_ne.mp h2
        rw [ht1] at ht0
        have hpd : p ≠ dd := by intro e; simp [e] at ht0
        have hkin : kinB c p q = true := by simpa [hpd] using ht0.symm
        have hpq : p ≠ q := by
          intro e
          rw [← e, kin_irr hk] at hkin
          cases hkin
        refine zv_iload (pc' := 62) dX0_passYear_60 rfl rfl ?_
        refine zv_iload_n (pc' := 63) dX0_passYear_62 rfl rfl ?_
        refine zv_icmp_eq (pc' := 66) (tgt := 73) dX0_passYear_63 rfl rfl ?_ ?_
        · intro h3
          have e := (absI_eq (by omega)).mp h3
          have e1 : stepC dd c p q = c := by
            unfold stepC
            rw [if_neg]
            rintro ⟨g1, g2, g3⟩
            exact g2 e
          refine next M (by rw [e1]; exact hA) hs (fun j a b => ?_)
          rw [e1]
          exact ht j (by omega) b
        · intro h3
          have e : q ≠ dd := fun e => h3 ((absI_eq (by omega)).mpr e)
          refine zv_aload_n (pc' := 67) dX0_passYear_66 rfl rfl ?_
          refine zv_iload_n (pc' := 68) dX0_passYear_67 rfl rfl ?_
          refine zv_iload (pc' := 70) dX0_passYear_68 rfl rfl ?_
          refine zv_cV2_fv (pc' := 73) dX0_passYear_70 rfl lkX0_80 (by first | rfl | assumption) rfl (Nat.le_of_ble_eq_true rfl) (x0_pay hC' hA hk (by omega) (by omega) hpq) ?_
          rintro M1 ⟨hA1, hs1⟩
          have e1 : stepC dd c p q = payC c p q := by
            unfold stepC
            rw [if_pos ⟨hpd, e, hkin⟩]
          refine next M1 (by rw [e1]; exact hA1) (hs.tr hs1) (fun j a b => ?_)
          rw [e1]
          by_cases hjp : j = p
          · subst hjp
            rw [ht j (by omega) b, kin_irr hk, kin_irr (zOk_pay hk).1]
          · rw [kin_pay hpq (by omega) hjp]
            exact ht j (by omega) b
theorem x0_year_loop {dd n : Nat} (hC : zCy o) (hn : n ≤ 8) (hd8 : dd < 8 ∨ dd = 100) {M0 : ZMem} {cF : ZCty} : ∀ (r p : Nat) (c : ZCty) (M : ZMem), p + r = n → zAt M o c → zOk c → yN c = n → zSame o (o + 6) M0 M → zlf r p (fun p c => rowC dd c p) c = cF →
    ZV mdX0_passYear (d + 2) (fun v M' => v = none ∧ (zAt M' o cF ∧ zSame o (o + 6) M0 M')) 12 [some (.ref o), some (.int (absI dd)), some (.int (nI p)), none, none] [] M := by
  have hC' := hC
  obtain ⟨c0, c1, c2, c3, c4, c5⟩ := hC
  intro r
  induction r with
  | zero =>
    intro p c M hpr hA hk hnc hs hF
    have e : p = n := by omega
    subst e
    have hN : M o 5 = nI p := by rw [← hnc]; exact hA.1
    refine zv_iload_n (pc' := 13) dX0_passYear_12 rfl rfl ?_
    refine zv_aload_n (pc' := 14) dX0_passYear_13 rfl rfl ?_
    refine zv_getIE (pc' := 17) dX0_passYear_14 rfl flX0_33 (by first | rfl | assumption) rfl (by first | exact hN | exact hY | exact hM _ (by omega) | exact hS _ (by omega) | exact hX _ (by omega) | exact hK _ (by omega) | exact hF _ (by omega) | rfl) ?_
    refine zv_icmp_ge (pc' := 20) (tgt := 85) dX0_passYear_17 rfl rfl (fun _ => ?_) (fun hcc => absurd (Int32.le_refl _) hcc)
    refine zv_vret dX0_passYear_85 rfl ?_
    subst hF
    exact ⟨rfl, hA, hs⟩
  | succ r ih =>
    intro p c M hpr hA hk hnc hs hF
    have hN : M o 5 = nI n := by rw [← hnc]; exact hA.1
    have fin : ∀ M', zAt M' o (zlf n 0 (fun q c => stepC dd c p q) c) → zSame o (o + 6) M0 M' → ZV mdX0_passYear (d + 2) (fun v M' => v = none ∧ (zAt M' o cF ∧ zSame o (o + 6) M0 M')) 79 [some (.ref o), some (.int (absI dd)), some (.int (nI p)), none, none] [] M' := by
      intro M' hA1 hs1
      refine zv_iinc (w := nI 1) (pc' := 82) dX0_passYear_79 rfl rfl (by decide) (by decide) ?_
      refine zv_goto (pc' := 12) dX0_passYear_82 rfl ?_
      rw [nI_add]
      have e1 : zlf n 0 (fun q c => stepC dd c p q) c = rowC dd c p := by rw [rowC, hnc]
      rw [e1] at hA1
      exact ih (p + 1) (rowC dd c p) M' (by omega) hA1 (zOk_row hk).1 ((zOk_row hk).2.trans hnc) hs1 hF
    refine zv_iload_n (pc' := 13) dX0_passYear_12 rfl rfl ?_
    refine zv_aload_n (pc' := 14) dX0_passYear_13 rfl rfl ?_
    refine zv_getIE (pc' := 17) dX0_passYear_14 rfl flX0_33 (by first | rfl | assumption) rfl (by first | exact hN | exact hY | exact hM _ (by omega) | exact hS _ (by omega) | exact hX _ (by omega) | exact hK _ (by omega) | exact hF _ (by omega) | rfl) ?_
    refine zv_icmp_ge (pc' := 20) (tgt := 85) dX0_passYear_17 rfl rfl (fun hcc => absurd hcc (nI_ge (by omega) (by omega))) (fun _ => ?_)
    refine zv_iload_n (pc' := 21) dX0_passYear_20 rfl rfl ?_
    refine zv_iload_n (pc' := 22) dX0_passYear_21 rfl rfl ?_
    refine zv_icmp_ne (pc' := 25) (tgt := 29) dX0_passYear_22 rfl rfl ?_ ?_
    · intro h
      have hpd : p ≠ dd := fun e => h ((absI_eq (by omega)).mpr e)
      refine zv_aload_n (pc' := 30) dX0_passYear_29 rfl rfl ?_
      refine zv_iload_n (pc' := 31) dX0_passYear_30 rfl rfl ?_
      refine zv_cV1_pi (pc' := 34) dX0_passYear_31 rfl lkX0_51 (by first | rfl | assumption) rfl (Nat.le_of_ble_eq_true rfl) (x0_kinOf hC' hA hk (by omega)) ?_
      refine zv_istore_n (pc' := 35) dX0_passYear_34 rfl (by decide) ?_
      refine zv_iconst (v := nI 0) (pc' := 36) dX0_passYear_35 rfl (by decide) ?_
      refine zv_istore (pc' := 38) dX0_passYear_36 rfl (by decide) ?_
      exact x0_row_loop hC' hn (by omega) hd8 n 0 c M (by omega) hA hk hnc (fun j _ _ => by simp [hpd]) (fun j hj => by
        unfold kinB
        cases h : yS c p j
        · rfl
        · have := (hk.2.2.2.2.1 p j h).2.1; omega) hs fin
    · intro h
      have hpd := (absI_eq (by omega)).mp h
      refine zv_iconst (v := nI 0) (pc' := 26) dX0_passYear_25 rfl (by decide) ?_
      refine zv_goto (pc' := 34) dX0_passYear_26 rfl ?_
      refine zv_top (show nI 0 = nI (zm 8 (fun _ => false)) by rw [zm_f]) ?_
      refine zv_istore_n (pc' := 35) dX0_passYear_34 rfl (by decide) ?_
      refine zv_iconst (v := nI 0) (pc' := 36) dX0_passYear_35 rfl (by decide) ?_
      refine zv_istore (pc' := 38) dX0_passYear_36 rfl (by decide) ?_
      exact x0_row_loop hC' hn (by omega) hd8 n 0 c M (by omega) hA hk hnc (fun j _ _ => by simp [hpd]) (fun j hj => rfl) hs fin
theorem x0_passYear {dd : Nat} (hC : zCy o) (hA : zAt M o c) (hk : zOk c) (hd8 : dd < 8 ∨ dd = 100) : ZFv mdX0_passYear (d + 2) [.ref o, .int (absI dd)] M (fun M' => zAt M' o (yearC dd c) ∧ zSame o (o + 6) M M') := by
  have hC' := hC
  have hA' := hA
  obtain ⟨c0, c1, c2, c3, c4, c5⟩ := hC
  obtain ⟨hN, hY, hK, hF, hM, hS, hX⟩ := hA
  refine zex_intro (L := [some (.ref o), some (.int (absI dd)), none, none, none]) (by decide) (Nat.le_of_ble_eq_true rfl) rfl ?_
  refine zv_aload_n (pc' := 1) dX0_passYear_0 rfl rfl ?_
  refine zv_dup (pc' := 2) dX0_passYear_1 rfl rfl ?_
  refine zv_getIE (pc' := 5) dX0_passYear_2 rfl flX0_37 (by first | rfl | assumption) rfl (by first | exact hN | exact hY | exact hM _ (by omega) | exact hS _ (by omega) | exact hX _ (by omega) | exact hK _ (by omega) | exact hF _ (by omega) | rfl) ?_
  refine zv_iconst (v := nI 1) (pc' := 6) dX0_passYear_5 rfl (by decide) ?_
  refine zv_iadd (pc' := 7) dX0_passYear_6 rfl ?_
  refine zv_top (nI_add _ _) ?_
  refine zv_putI (pc' := 10) dX0_passYear_7 rfl flX0_37 pfX0_6 (by first | rfl | assumption) rfl rfl rfl ?_
  refine zv_iconst (v := nI 0) (pc' := 11) dX0_passYear_10 rfl (by decide) ?_
  refine zv_istore_n (pc' := 12) dX0_passYear_11 rfl (by decide) ?_
  have h1 : zAt (zup M o 6 (nI (yY c + 1))) o (setY c (yY c + 1)) := zAt_Y hA'
  exact x0_year_loop hC' hk.1 hd8 (yN c) 0 _ _ (by omega) h1 hk rfl (zSame.up (by omega) (by omega)) rfl
theorem x0_years_loop {n : Nat} (hC : zCy o) (hn : n < 2 ^ 31) {M0 : ZMem} {cF : ZCty} : ∀ (r k : Nat) (c : ZCty) (M : ZMem), k + r = n → zAt M o c → zOk c → zSame o (o + 6) M0 M → zlf r k (fun _ c => yearC 100 c) c = cF →
    ZV mdX0_passYears (d + 3) (fun v M' => ∃ r, v = some (.int r) ∧ (r = 1 ∧ zAt M' o cF ∧ zSame o (o + 6) M0 M')) 2 [some (.ref o), some (.int (nI n)), some (.int (nI k))] [] M := by
  have hC' := hC
  obtain ⟨c0, c1, c2, c3, c4, c5⟩ := hC
  intro r
  induction r with
  | zero =>
    intro k c M hkr hA hk hs hF
    have e : k = n := by omega
    subst e
    refine zv_iload_n (pc' := 3) dX0_passYears_2 rfl rfl ?_
    refine zv_iload_n (pc' := 4) dX0_passYears_3 rfl rfl ?_
    refine zv_icmp_ge (pc' := 7) (tgt := 18) dX0_passYears_4 rfl rfl (fun _ => ?_) (fun hcc => absurd (Int32.le_refl _) hcc)
    refine zv_iconst (v := nI 1) (pc' := 19) dX0_passYears_18 rfl (by decide) ?_
    refine zv_ireturn dX0_passYears_19 rfl (by first | rfl | exact zb_nar _) ?_
    subst hF
    exact ⟨_, rfl, rfl, hA, hs⟩
  | succ r ih =>
    intro k c M hkr hA hk hs hF
    refine zv_iload_n (pc' := 3) dX0_passYears_2 rfl rfl ?_
    refine zv_iload_n (pc' := 4) dX0_passYears_3 rfl rfl ?_
    refine zv_icmp_ge (pc' := 7) (tgt := 18) dX0_passYears_4 rfl rfl (fun hcc => absurd hcc (nI_ge (by omega) (by omega))) (fun _ => ?_)
    refine zv_aload_n (pc' := 8) dX0_passYears_7 rfl rfl ?_
    refine zv_iconst (v := (-1 : Int32)) (pc' := 9) dX0_passYears_8 rfl (by decide) ?_
    refine zv_cV1_fv (pc' := 12) dX0_passYears_9 rfl lkX0_76 (by first | rfl | assumption) rfl (Nat.le_of_ble_eq_true rfl) (x0_passYear (dd := 100) hC' hA hk (Or.inr rfl)) ?_
    rintro M1 ⟨hA1, hs1⟩
    refine zv_iinc (w := nI 1) (pc' := 15) dX0_passYears_12 rfl rfl (by decide) (by decide) ?_
    refine zv_goto (pc' := 2) dX0_passYears_15 rfl ?_
    rw [nI_add]
    exact ih (k + 1) _ M1 (by omega) hA1 (zOk_year hk).1 (hs.tr hs1) hF
theorem x0_passYears {n : Nat} (hC : zCy o) (hA : zAt M o c) (hk : zOk c) (hn : n < 2 ^ 31) : ZFi mdX0_passYears (d + 3) [.ref o, .int (nI n)] M (fun r M' => r = 1 ∧ zAt M' o (yearsC n c) ∧ zSame o (o + 6) M M') := by
  refine zex_intro (L := [some (.ref o), some (.int (nI n)), none]) (by decide) (Nat.le_of_ble_eq_true rfl) rfl ?_
  refine zv_iconst (v := nI 0) (pc' := 1) dX0_passYears_0 rfl (by decide) ?_
  refine zv_istore_n (pc' := 2) dX0_passYears_1 rfl (by decide) ?_
  exact x0_years_loop hC hn n 0 c M (by omega) hA hk zSame.rf rfl
end
