/-! county: what the letters tell -/
def dg (l : ZLt) (j : Nat) : Nat := l.2 j - 48
def nm (l : ZLt) (j : Nat) : Nat := 10 * dg l j + dg l (j + 1)
def tieC (c : ZCty) (x p q : Nat) : ZCty := if x = 115 then signC c p q (!yS c p q) else if x = 102 then feudC c p q (!yX c p q) else signC (signC c p q true) q p true
def oneC (l : ZLt) (a : Nat) (c : ZCty) : Option ZCty :=
  if l.2 a = 112 then (if yN c = 8 then none else some (addC c ((kdO l (a + 1)).getD 0) (dg l (a + 2)) (nm l (a + 3))))
  else if l.2 a = 109 then (if hasB (yN c) (nI (dg l (a + 1))) = true then some (setM c (fu (yM c) (dg l (a + 1)) (nm l (a + 2)))) else none)
  else if l.2 a = 121 then (if passB (yY c) (nI (nm l (a + 1))) = true then some (yearsC (nm l (a + 1)) c) else none)
  else (if twoB (yN c) (nI (dg l (a + 1))) (nI (dg l (a + 2))) = true then some (tieC c (l.2 a) (dg l (a + 1)) (dg l (a + 2))) else none)
def tlO (l : ZLt) : Nat → Nat → ZCty → Nat ⊕ (Nat × ZCty)
  | 0, k, c => .inr (k, c)
  | f + 1, k, c => if l.1 ≤ psN l k then .inr (k, c) else match oneC l (psN l k) c with
    | none => .inl (psN l k)
    | some c' => tlO l f (k + 1) c'
theorem tlO_s {l : ZLt} {f k : Nat} {c : ZCty} : tlO l (f + 1) k c = if l.1 ≤ psN l k then .inr (k, c) else match oneC l (psN l k) c with
    | none => .inl (psN l k)
    | some c' => tlO l f (k + 1) c' := rfl
def tlV : Nat ⊕ (Nat × ZCty) → Int32
  | .inl a => -2000 - nI a
  | .inr q => nI q.1
def dropS (s : ZS) : ZS := (sC s, sI s, (0, (sL s).2), sR s, sW s)
def sp_county (s : ZS) : Int32 × ZS := match formO (sL s) with
  | some b => (-1000 - nI b, dropS s)
  | none => match tlO (sL s) 97 0 (sC s) with
    | .inl a => (-2000 - nI a, dropS s)
    | .inr q => (nI q.1, dropS (q.2, s.2))
theorem twoB_nat {n p q : Nat} (hn : n ≤ 8) (hp : p < 2 ^ 31) (hq : q < 2 ^ 31) (h : twoB n (nI p) (nI q) = true) : p < n ∧ q < n ∧ p ≠ q := by
  obtain ⟨p', q', h1, h2, h3, h4, h5⟩ := twoB_of hn h
  have e1 := (nI_eq hp (by omega)).mp h4
  have e2 := (nI_eq hq (by omega)).mp h5
  omega
theorem hasB_nat {n p : Nat} (hn : n ≤ 8) (hp : p < 2 ^ 31) (h : hasB n (nI p) = true) : p < n := by
  obtain ⟨p', h1, h4⟩ := hasB_of hn h
  have e1 := (nI_eq hp (by omega)).mp h4
  omega
theorem dgB_of {l : ZLt} {j : Nat} (h : dgB l j = true) : j < l.1 ∧ 48 ≤ l.2 j ∧ l.2 j ≤ 57 ∧ dg l j ≤ 9 := by
  simp only [dgB, Bool.and_eq_true, decide_eq_true_eq] at h
  refine ⟨h.1, h.2.1, h.2.2, ?_⟩
  unfold dg
  omega
theorem nm_le {l : ZLt} {j : Nat} (h1 : dgB l j = true) (h2 : dgB l (j + 1) = true) : nm l j ≤ 99 := by
  have a := (dgB_of h1).2.2.2
  have b := (dgB_of h2).2.2.2
  unfold nm
  omega
theorem kdO_of {l : ZLt} {j k : Nat} (h : kdO l j = some k) : j < l.1 ∧ 97 ≤ l.2 j ∧ k ≤ 5 := by
  unfold kdO at h
  split at h
  · refine ⟨by assumption, ?_, kd_le h⟩
    unfold kd at h
    repeat' split at h
    all_goals first | omega | cases h
  · cases h
/-- what a good statement at a is -/
theorem bdA_of {l : ZLt} {a : Nat} (h : bdA l a = none) : a < l.1 ∧ a + lenN l a ≤ l.1 ∧ l.2 (a + lenN l a - 1) = 59 ∧ ((l.2 a = 112 ∧ lenN l a = 6 ∧ (∃ k, kdO l (a + 1) = some k) ∧ dgB l (a + 2) = true ∧ dgB l (a + 3) = true ∧ dgB l (a + 4) = true) ∨ (l.2 a = 109 ∧ lenN l a = 5 ∧ dgB l (a + 1) = true ∧ dgB l (a + 2) = true ∧ dgB l (a + 3) = true) ∨ ((l.2 a = 115 ∨ l.2 a = 98 ∨ l.2 a = 102 ∨ l.2 a = 121) ∧ lenN l a = 4 ∧ dgB l (a + 1) = true ∧ dgB l (a + 2) = true)) := by
  have hor := lenN_or l a
  unfold bdA at h
  by_cases h0 : lenN l a = 0
  · rw [if_pos h0] at h; cases h
  rw [if_neg h0] at h
  have hok : ∀ j, a + 1 ≤ j → j < a + lenN l a → okB l a j = true := by
    intro j h1 h2
    have := zfst_none.mp h j h1 (by omega)
    simpa using this
  have ha : a < l.1 := by
    rcases Nat.lt_or_ge a l.1 with z | z
    · exact z
    · exact absurd (show lenN l a = 0 from if_neg (by omega)) h0
  have he : lenN l a = lnC (l.2 a) := if_pos ha
  have hlast : a + lenN l a - 1 < l.1 ∧ l.2 (a + lenN l a - 1) = 59 := by
    have := hok (a + lenN l a - 1) (by omega) (by omega)
    rw [okB, if_pos (by omega)] at this
    simpa using this
  have hdig : ∀ j, a + 1 ≤ j → j + 1 < a + lenN l a → ¬ (j = a + 1 ∧ l.2 a = 112) → dgB l j = true := by
    intro j h1 h2 h3
    have := hok j h1 (by omega)
    rw [okB, if_neg (by omega), if_neg h3] at this
    exact this
  refine ⟨ha, by omega, hlast.2, ?_⟩
  unfold lnC at he
  by_cases x1 : l.2 a = 112
  · rw [if_pos x1] at he
    refine Or.inl ⟨x1, he, ?_, hdig _ (by omega) (by omega) (by omega), hdig _ (by omega) (by omega) (by omega), hdig _ (by omega) (by omega) (by omega)⟩
    have := hok (a + 1) (by omega) (by omega)
    rw [okB, if_neg (by omega), if_pos ⟨rfl, x1⟩] at this
    exact Option.isSome_iff_exists.mp this
  · rw [if_neg x1] at he
    by_cases x2 : l.2 a = 109
    · rw [if_pos x2] at he
      exact Or.inr (Or.inl ⟨x2, he, hdig _ (by omega) (by omega) (by omega), hdig _ (by omega) (by omega) (by omega), hdig _ (by omega) (by omega) (by omega)⟩)
    · rw [if_neg x2] at he
      by_cases x3 : l.2 a = 115 ∨ l.2 a = 98 ∨ l.2 a = 102 ∨ l.2 a = 121
      · rw [if_pos x3] at he
        exact Or.inr (Or.inr ⟨x3, he, hdig _ (by omega) (by omega) (by omega), hdig _ (by omega) (by omega) (by omega)⟩)
      · rw [if_neg x3] at he
        exact absurd he h0
theorem yY_pay {c : ZCty} {p q : Nat} : yY (payC c p q) = yY c := by
  unfold payC
  split <;> rfl
theorem yY_row {c : ZCty} {dd p : Nat} : yY (rowC dd c p) = yY c := zlf_inv (fun x => yY x = yY c) _ _ _ rfl (fun k x _ _ h => by
  show yY (stepC dd x p k) = yY c
  unfold stepC
  split
  · rw [yY_pay]; exact h
  · exact h)
theorem yY_year {c : ZCty} {dd : Nat} : yY (yearC dd c) = yY c + 1 := zlf_inv (fun x => yY x = yY c + 1) _ _ _ rfl (fun k x _ _ h => by
  show yY (rowC dd x k) = yY c + 1
  rw [yY_row]; exact h)
theorem yY_years {c : ZCty} : ∀ k, yY (yearsC k c) = yY c + k
  | 0 => rfl
  | k + 1 => by rw [yearsC_succ, yY_year, yY_years k]; omega
theorem passB_of {y k : Nat} (hy : y ≤ 999) (hk : k ≤ 99) (h : passB y (nI k) = true) : 1 ≤ k ∧ k ≤ 60 ∧ y + k ≤ 999 := by
  simp only [passB, Bool.and_eq_true, decide_eq_true_eq] at h
  rw [nI_add, nI_ltI (by omega) (by omega), nI_ltI (by omega) (by omega), nI_ltI (by omega) (by omega)] at h
  omega
theorem zOk_tie {c : ZCty} {x p q : Nat} (hk : zOk c) (hp : p < yN c) (hq : q < yN c) (hpq : p ≠ q) : zOk (tieC c x p q) ∧ yY (tieC c x p q) = yY c := by
  unfold tieC
  split
  · exact ⟨zOk_sign hk hp hq hpq, rfl⟩
  · split
    · exact ⟨zOk_feud hk hp hq hpq, rfl⟩
    · exact ⟨zOk_sign (c := signC c p q true) (zOk_sign hk hp hq hpq) hq hp (Ne.symm hpq), rfl⟩
theorem oneC_ok {l : ZLt} {a : Nat} {c c' : ZCty} (hg : bdA l a = none) (hk : zOk c) (hy : yY c ≤ 999) (h : oneC l a c = some c') : zOk c' ∧ yY c' ≤ 999 := by
  have hn8 := hk.1
  obtain ⟨-, -, -, hc⟩ := bdA_of hg
  unfold oneC at h
  rcases hc with ⟨x1, -, ⟨k, hkd⟩, d2, d3, d4⟩ | ⟨x1, -, d1, d2, d3⟩ | ⟨x1, -, d1, d2⟩
  · rw [if_pos x1] at h
    split at h
    · cases h
    · cases h
      rw [hkd]
      exact ⟨zOk_add hk (by omega) (kdO_of hkd).2.2 (dgB_of d2).2.2.2 (nm_le d3 d4), hy⟩
  · rw [if_neg (by omega), if_pos x1] at h
    split at h
    · cases h
      exact ⟨zOk_M hk (nm_le d2 d3), hy⟩
    · cases h
  · have e1 := (dgB_of d1).2.2.2
    have e2 := (dgB_of d2).2.2.2
    rw [if_neg (by omega), if_neg (by omega)] at h
    split at h
    · split at h
      · rename_i hp
        have := passB_of hy (nm_le d1 d2) hp
        cases h
        exact ⟨(zOk_years hk).1, by rw [yY_years]; omega⟩
      · cases h
    · split at h
      · rename_i ht
        obtain ⟨p1, p2, p3⟩ := twoB_nat hn8 (by omega) (by omega) ht
        cases h
        have := zOk_tie (x := l.2 a) hk p1 p2 p3
        exact ⟨this.1, by rw [this.2]; exact hy⟩
      · cases h
theorem tlO_ok {l : ZLt} : ∀ (f k : Nat) (c : ZCty), fmO l f k = none → zOk c → yY c ≤ 999 → (∀ a, tlO l f k c = .inl a → a < l.1) ∧ ∀ q, tlO l f k c = .inr q → q.1 ≤ k + f ∧ zOk q.2 ∧ yY q.2 ≤ 999
  | 0, k, c, _, hk, hy => ⟨fun a h => (by cases h), fun q h => (by cases h; exact ⟨Nat.le_refl _, hk, hy⟩)⟩
  | f + 1, k, c, hf, hk, hy => by
    rw [tlO]
    rw [fmO] at hf
    by_cases hz : l.1 ≤ psN l k
    · rw [if_pos hz]
      exact ⟨fun a h => (by cases h), fun q h => (by cases h; exact ⟨Nat.le_add_right _ _, hk, hy⟩)⟩
    · rw [if_neg hz]
      rw [if_neg hz] at hf
      cases hb : bdA l (psN l k) with
      | some b => rw [hb] at hf; cases hf
      | none =>
        rw [hb] at hf
        cases ho : oneC l (psN l k) c with
        | none => exact ⟨fun a h => (by cases h; omega), fun q h => (by cases h)⟩
        | some c' =>
          have hc' := oneC_ok hb hk hy ho
          have ih := tlO_ok f (k + 1) c' hf hc'.1 hc'.2
          exact ⟨ih.1, fun q h => ⟨by have := (ih.2 q h).1; omega, (ih.2 q h).2⟩⟩
theorem zLt.same {M M' : ZMem} {l : ZLt} (h : zLt M l) (h1 : M' 25 = M 25) (h2 : M' 26 = M 26) : zLt M' l := by
  unfold zLt
  rw [h1, h2]
  exact h
section
variable {d : Nat} {M : ZMem} {l : ZLt} {c : ZCty}
theorem x1_digitAt {j : Nat} (h : zLt M l) (hj : j < l.1) (h48 : 48 ≤ l.2 j) : ZPi mdX1_digitAt (d + 1) [.ref 25, .int (nI j)] M (nI (dg l j)) := by
  have h96 := h.2.2.1
  refine zex_intro (L := [some (.ref 25), some (.int (nI j))]) (by decide) (Nat.le_of_ble_eq_true rfl) rfl ?_
  refine zv_aload_n (pc' := 1) dX1_digitAt_0 rfl rfl ?_
  refine zv_iload_n (pc' := 2) dX1_digitAt_1 rfl rfl ?_
  refine zv_cV1_pi (pc' := 5) dX1_digitAt_2 rfl lkX1_31 (by first | rfl | assumption) rfl (Nat.le_of_ble_eq_true rfl) (x1_at h (by omega)) ?_
  rw [show ltI l j = nI (l.2 j) from if_pos hj]
  refine zv_bipush (v := nI 48) (pc' := 7) dX1_digitAt_5 rfl (by decide) ?_
  refine zv_isub (pc' := 8) dX1_digitAt_7 rfl ?_
  refine zv_top (pk_sub h48) ?_
  refine zv_iret dX1_digitAt_8 rfl ?_
  exact ⟨rfl, rfl⟩
theorem x1_numberAt {j : Nat} (h : zLt M l) (h1 : dgB l j = true) (h2 : dgB l (j + 1) = true) : ZPi mdX1_numberAt (d + 2) [.ref 25, .int (nI j)] M (nI (nm l j)) := by
  obtain ⟨a1, a2, a3, a4⟩ := dgB_of h1
  obtain ⟨b1, b2, b3, b4⟩ := dgB_of h2
  refine zex_intro (L := [some (.ref 25), some (.int (nI j))]) (by decide) (Nat.le_of_ble_eq_true rfl) rfl ?_
  refine zv_bipush (v := nI 10) (pc' := 2) dX1_numberAt_0 rfl (by decide) ?_
  refine zv_aload_n (pc' := 3) dX1_numberAt_2 rfl rfl ?_
  refine zv_iload_n (pc' := 4) dX1_numberAt_3 rfl rfl ?_
  refine zv_cV1_pi (pc' := 7) dX1_numberAt_4 rfl lkX1_48 (by first | rfl | assumption) rfl (Nat.le_of_ble_eq_true rfl) (x1_digitAt h a1 a2) ?_
  refine zv_imul (pc' := 8) dX1_numberAt_7 rfl ?_
  refine zv_top (pk_mul 10 _) ?_
  refine zv_aload_n (pc' := 9) dX1_numberAt_8 rfl rfl ?_
  refine zv_iload_n (pc' := 10) dX1_numberAt_9 rfl rfl ?_
  refine zv_iconst (v := nI 1) (pc' := 11) dX1_numberAt_10 rfl (by decide) ?_
  refine zv_iadd (pc' := 12) dX1_numberAt_11 rfl ?_
  refine zv_top (nI_add _ _) ?_
  refine zv_cV1_pi (pc' := 15) dX1_numberAt_12 rfl lkX1_48 (by first | rfl | assumption) rfl (Nat.le_of_ble_eq_true rfl) (x1_digitAt h b1 b2) ?_
  refine zv_iadd (pc' := 16) dX1_numberAt_15 rfl ?_
  refine zv_top (nI_add _ _) ?_
  refine zv_iret dX1_numberAt_16 rfl ?_
  exact ⟨rfl, rfl⟩
theorem x1_tellOne {a : Nat} (h : zLt M l) (hA : zAt M 13 c) (hk : zOk c) (hg : bdA l a = none) : ZFi mdX1_tellOne (d + 5) [.ref 25, .ref 13, .int (nI a)] M (fun x M' => x = zb (oneC l a c).isSome ∧ (∀ c', oneC l a c = some c' → zAt M' 13 c') ∧ zSame 13 19 M M') := by
  have hn8 := hk.1
  have h96 := h.2.2.1
  obtain ⟨ha, hlen, -, hc⟩ := bdA_of hg
  have g1 : a + 1 < l.1 ∧ 48 ≤ l.2 (a + 1) := by
    rcases hc with ⟨-, -, ⟨k, hkd⟩, -⟩ | ⟨-, -, d1, -⟩ | ⟨-, -, d1, -⟩
    · have := kdO_of hkd; omega
    · have := dgB_of d1; omega
    · have := dgB_of d1; omega
  have g2 : a + 2 < l.1 ∧ 48 ≤ l.2 (a + 2) := by
    rcases hc with ⟨-, -, -, d2, -⟩ | ⟨-, -, -, d2, -⟩ | ⟨-, -, -, d2⟩ <;> (have := dgB_of d2; omega)
  refine zex_intro (L := [some (.ref 25), some (.ref 13), some (.int (nI a)), none, none]) (by decide) (Nat.le_of_ble_eq_true rfl) rfl ?_
  refine zv_aload_n (pc' := 1) dX1_tellOne_0 rfl rfl ?_
  refine zv_iload_n (pc' := 2) dX1_tellOne_1 rfl rfl ?_
  refine zv_iconst (v := nI 1) (pc' := 3) dX1_tellOne_2 rfl (by decide) ?_
  refine zv_iadd (pc' := 4) dX1_tellOne_3 rfl ?_
  refine zv_top (nI_add _ _) ?_
  refine zv_cV1_pi (pc' := 7) dX1_tellOne_4 rfl lkX1_48 (by first | rfl | assumption) rfl (Nat.le_of_ble_eq_true rfl) (x1_digitAt h g1.1 g1.2) ?_
  refine zv_istore_n (pc' := 8) dX1_tellOne_7 rfl (by decide) ?_
  refine zv_aload_n (pc' := 9) dX1_tellOne_8 rfl rfl ?_
  refine zv_iload_n (pc' := 10) dX1_tellOne_9 rfl rfl ?_
  refine zv_iconst (v := nI 2) (pc' := 11) dX1_tellOne_10 rfl (by decide) ?_
  refine zv_iadd (pc' := 12) dX1_tellOne_11 rfl ?_
  refine zv_top (nI_add _ _) ?_
  refine zv_cV1_pi (pc' := 15) dX1_tellOne_12 rfl lkX1_48 (by first | rfl | assumption) rfl (Nat.le_of_ble_eq_true rfl) (x1_digitAt h g2.1 g2.2) ?_
  refine zv_istore (pc' := 17) dX1_tellOne_15 rfl (by decide) ?_
  refine zv_aload_n (pc' := 18) dX1_tellOne_17 rfl rfl ?_
  refine zv_iload_n (pc' := 19) dX1_tellOne_18 rfl rfl ?_
  refine zv_cV1_pi (pc' := 22) dX1_tellOne_19 rfl lkX1_31 (by first | rfl | assumption) rfl (Nat.le_of_ble_eq_true rfl) (x1_at h (by omega)) ?_
  rw [show ltI l a = nI (l.2 a) from if_pos ha]
  rcases hc with ⟨x1, -, ⟨k, hkd⟩, d2, d3, d4⟩ | ⟨x1, -, d1, d2, d3⟩ | ⟨x1, -, d1, d2⟩
  · have eo : oneC l a c = if yN c = 8 then none else some (addC c k (dg l (a + 2)) (nm l (a + 3))) := by rw [oneC, if_pos x1, hkd]; rfl
    rw [eo, x1]
    refine zv_lookup (pc' := 72) (off := 50) dX1_tellOne_22 (by decide) (by decide) (by decide) ?_
    refine zv_aload_n (pc' := 73) dX1_tellOne_72 rfl rfl ?_
    refine zv_aload_n (pc' := 74) dX1_tellOne_73 rfl rfl ?_
    refine zv_iload_n (pc' := 75) dX1_tellOne_74 rfl rfl ?_
    refine zv_iconst (v := nI 1) (pc' := 76) dX1_tellOne_75 rfl (by decide) ?_
    refine zv_iadd (pc' := 77) dX1_tellOne_76 rfl ?_
    refine zv_top (nI_add _ _) ?_
    refine zv_cV1_pi (pc' := 80) dX1_tellOne_77 rfl lkX1_34 (by first | rfl | assumption) rfl (Nat.le_of_ble_eq_true rfl) (x1_kindAt h (by omega)) ?_
    rw [hkd]
    refine zv_top (show opt1 (some k) = nI k from rfl) ?_
    refine zv_iload (pc' := 82) dX1_tellOne_80 rfl rfl ?_
    refine zv_aload_n (pc' := 83) dX1_tellOne_82 rfl rfl ?_
    refine zv_iload_n (pc' := 84) dX1_tellOne_83 rfl rfl ?_
    refine zv_iconst (v := nI 3) (pc' := 85) dX1_tellOne_84 rfl (by decide) ?_
    refine zv_iadd (pc' := 86) dX1_tellOne_85 rfl ?_
    refine zv_top (nI_add _ _) ?_
    refine zv_cV1_pi (pc' := 89) dX1_tellOne_86 rfl lkX1_55 (by first | rfl | assumption) rfl (Nat.le_of_ble_eq_true rfl) (x1_numberAt h d3 d4) ?_
    by_cases h8 : yN c = 8
    · rw [if_pos h8]
      refine zv_cV3_pi (pc' := 92) dX1_tellOne_89 rfl lkX1_58 (by first | rfl | assumption) rfl (Nat.le_of_ble_eq_true rfl) (x0_welcome0 zCy13 hA h8) ?_
      refine zv_ireturn dX1_tellOne_92 rfl (by first | rfl | exact zb_nar _) ?_
      exact ⟨_, rfl, rfl, fun c' z => (by cases z), zSame.rf⟩
    · rw [if_neg h8]
      refine zv_cV3_fi (pc' := 92) dX1_tellOne_89 rfl lkX1_58 (by first | rfl | assumption) rfl (Nat.le_of_ble_eq_true rfl) (x0_welcome zCy13 hA (by omega)) ?_
      rintro r M1 ⟨rfl, q1, s1⟩
      refine zv_ireturn dX1_tellOne_92 rfl (by first | rfl | exact zb_nar _) ?_
      exact ⟨_, rfl, rfl, fun c' z => (by rw [← Option.some.inj z]; exact q1), s1⟩
  · have e1 := (dgB_of d1).2.2.2
    have eo : oneC l a c = if hasB (yN c) (nI (dg l (a + 1))) = true then some (setM c (fu (yM c) (dg l (a + 1)) (nm l (a + 2)))) else none := by rw [oneC, if_neg (by omega), if_pos x1]
    rw [eo, x1]
    refine zv_lookup (pc' := 117) (off := 95) dX1_tellOne_22 (by decide) (by decide) (by decide) ?_
    refine zv_aload_n (pc' := 118) dX1_tellOne_117 rfl rfl ?_
    refine zv_iload_n (pc' := 119) dX1_tellOne_118 rfl rfl ?_
    refine zv_aload_n (pc' := 120) dX1_tellOne_119 rfl rfl ?_
    refine zv_iload_n (pc' := 121) dX1_tellOne_120 rfl rfl ?_
    refine zv_iconst (v := nI 2) (pc' := 122) dX1_tellOne_121 rfl (by decide) ?_
    refine zv_iadd (pc' := 123) dX1_tellOne_122 rfl ?_
    refine zv_top (nI_add _ _) ?_
    refine zv_cV1_pi (pc' := 126) dX1_tellOne_123 rfl lkX1_55 (by first | rfl | assumption) rfl (Nat.le_of_ble_eq_true rfl) (x1_numberAt h d2 d3) ?_
    by_cases hh : hasB (yN c) (nI (dg l (a + 1))) = true
    · rw [if_pos hh]
      refine zv_cV2_fi (pc' := 129) dX1_tellOne_126 rfl lkX1_74 (by first | rfl | assumption) rfl (Nat.le_of_ble_eq_true rfl) (x0_enrich zCy13 hA hn8 (hasB_nat hn8 (by omega) hh)) ?_
      rintro r M1 ⟨rfl, q1, s1⟩
      refine zv_ireturn dX1_tellOne_129 rfl (by first | rfl | exact zb_nar _) ?_
      exact ⟨_, rfl, rfl, fun c' z => (by rw [← Option.some.inj z]; exact q1), s1⟩
    · rw [if_neg hh]
      refine zv_cV2_pi (pc' := 129) dX1_tellOne_126 rfl lkX1_74 (by first | rfl | assumption) rfl (Nat.le_of_ble_eq_true rfl) (x0_enrich0 zCy13 hA (by simpa using hh)) ?_
      refine zv_ireturn dX1_tellOne_129 rfl (by first | rfl | exact zb_nar _) ?_
      exact ⟨_, rfl, rfl, fun c' z => (by cases z), zSame.rf⟩
  · have e1 := (dgB_of d1).2.2.2
    have e2 := (dgB_of d2).2.2.2
    by_cases x4 : l.2 a = 121
    · have eo : oneC l a c = if passB (yY c) (nI (nm l (a + 1))) = true then some (yearsC (nm l (a + 1)) c) else none := by rw [oneC, if_neg (by omega), if_neg (by omega), if_pos x4]
      have hnm := nm_le d1 d2
      rw [eo, x4]
      refine zv_lookup (pc' := 130) (off := 108) dX1_tellOne_22 (by decide) (by decide) (by decide) ?_
      refine zv_aload_n (pc' := 131) dX1_tellOne_130 rfl rfl ?_
      refine zv_aload_n (pc' := 132) dX1_tellOne_131 rfl rfl ?_
      refine zv_iload_n (pc' := 133) dX1_tellOne_132 rfl rfl ?_
      refine zv_iconst (v := nI 1) (pc' := 134) dX1_tellOne_133 rfl (by decide) ?_
      refine zv_iadd (pc' := 135) dX1_tellOne_134 rfl ?_
      refine zv_top (nI_add _ _) ?_
      refine zv_cV1_pi (pc' := 138) dX1_tellOne_135 rfl lkX1_55 (by first | rfl | assumption) rfl (Nat.le_of_ble_eq_true rfl) (x1_numberAt h d1 d2) ?_
      refine zv_cV1_pi (pc' := 141) dX1_tellOne_138 rfl lkX1_77 (by first | rfl | assumption) rfl (Nat.le_of_ble_eq_true rfl) (x0_mayPass zCy13 hA) ?_
      by_cases hh : passB (yY c) (nI (nm l (a + 1))) = true
      · rw [if_pos hh, hh]
        refine zv_if_eq (pc' := 144) (tgt := 162) dX1_tellOne_141 rfl rfl (fun hcc => absurd hcc (by decide)) (fun _ => ?_)
        refine zv_aload_n (pc' := 145) dX1_tellOne_144 rfl rfl ?_
        refine zv_aload_n (pc' := 146) dX1_tellOne_145 rfl rfl ?_
        refine zv_iload_n (pc' := 147) dX1_tellOne_146 rfl rfl ?_
        refine zv_iconst (v := nI 1) (pc' := 148) dX1_tellOne_147 rfl (by decide) ?_
        refine zv_iadd (pc' := 149) dX1_tellOne_148 rfl ?_
        refine zv_top (nI_add _ _) ?_
        refine zv_cV1_pi (pc' := 152) dX1_tellOne_149 rfl lkX1_55 (by first | rfl | assumption) rfl (Nat.le_of_ble_eq_true rfl) (x1_numberAt h d1 d2) ?_
        refine zv_cV1_fi (pc' := 155) dX1_tellOne_152 rfl lkX1_80 (by first | rfl | assumption) rfl (Nat.le_of_ble_eq_true rfl) (x0_passYears zCy13 hA hk (by omega)) ?_
        rintro r M1 ⟨rfl, q1, s1⟩
        refine zv_if_eq (pc' := 158) (tgt := 162) dX1_tellOne_155 rfl rfl (fun hcc => absurd hcc (by decide)) (fun _ => ?_)
        refine zv_iconst (v := nI 1) (pc' := 159) dX1_tellOne_158 rfl (by decide) ?_
        refine zv_goto (pc' := 163) dX1_tellOne_159 rfl ?_
        refine zv_ireturn dX1_tellOne_163 rfl (by first | rfl | exact zb_nar _) ?_
        exact ⟨_, rfl, rfl, fun c' z => (by rw [← Option.some.inj z]; exact q1), s1⟩
      · rw [if_neg hh, show passB (yY c) (nI (nm l (a + 1))) = false by simpa using hh]
        refine zv_if_eq (pc' := 144) (tgt := 162) dX1_tellOne_141 rfl rfl (fun _ => ?_) (fun hcc => absurd (rfl) hcc)
        refine zv_iconst (v := nI 0) (pc' := 163) dX1_tellOne_162 rfl (by decide) ?_
        refine zv_ireturn dX1_tellOne_163 rfl (by first | rfl | exact zb_nar _) ?_
        exact ⟨_, rfl, rfl, fun c' z => (by cases z), zSame.rf⟩
    · have eo : oneC l a c = if twoB (yN c) (nI (dg l (a + 1))) (nI (dg l (a + 2))) = true then some (tieC c (l.2 a) (dg l (a + 1)) (dg l (a + 2))) else none := by rw [oneC, if_neg (by omega), if_neg (by omega), if_neg x4]
      rw [eo]
      rcases (show l.2 a = 115 ∨ l.2 a = 98 ∨ l.2 a = 102 by omega) with x5 | x5 | x5
      · rw [x5]
        have et : tieC c 115 (dg l (a + 1)) (dg l (a + 2)) = signC c (dg l (a + 1)) (dg l (a + 2)) (!yS c (dg l (a + 1)) (dg l (a + 2))) := by rw [tieC, if_pos rfl]
        refine zv_lookup (pc' := 93) (off := 71) dX1_tellOne_22 (by decide) (by decide) (by decide) ?_
        refine zv_aload_n (pc' := 94) dX1_tellOne_93 rfl rfl ?_
        refine zv_iload_n (pc' := 95) dX1_tellOne_94 rfl rfl ?_
        refine zv_iload (pc' := 97) dX1_tellOne_95 rfl rfl ?_
        by_cases hh : twoB (yN c) (nI (dg l (a + 1))) (nI (dg l (a + 2))) = true
        · obtain ⟨p1, p2, p3⟩ := twoB_nat hn8 (by omega) (by omega) hh
          rw [if_pos hh, et]
          refine zv_cV2_fi (pc' := 100) dX1_tellOne_97 rfl lkX1_64 (by first | rfl | assumption) rfl (Nat.le_of_ble_eq_true rfl) (x0_turnSigning zCy13 hA hn8 p1 p2 p3) ?_
          rintro r M1 ⟨rfl, q1, s1⟩
          refine zv_ireturn dX1_tellOne_100 rfl (by first | rfl | exact zb_nar _) ?_
          exact ⟨_, rfl, rfl, fun c' z => (by rw [← Option.some.inj z]; exact q1), s1⟩
        · rw [if_neg hh]
          refine zv_cV2_pi (pc' := 100) dX1_tellOne_97 rfl lkX1_64 (by first | rfl | assumption) rfl (Nat.le_of_ble_eq_true rfl) (x0_turnSigning0 zCy13 hA (by simpa using hh)) ?_
          refine zv_ireturn dX1_tellOne_100 rfl (by first | rfl | exact zb_nar _) ?_
          exact ⟨_, rfl, rfl, fun c' z => (by cases z), zSame.rf⟩
      · rw [x5]
        have et : tieC c 98 (dg l (a + 1)) (dg l (a + 2)) = signC (signC c (dg l (a + 1)) (dg l (a + 2)) true) (dg l (a + 2)) (dg l (a + 1)) true := by rw [tieC, if_neg (by decide), if_neg (by decide)]
        refine zv_lookup (pc' := 101) (off := 79) dX1_tellOne_22 (by decide) (by decide) (by decide) ?_
        refine zv_aload_n (pc' := 102) dX1_tellOne_101 rfl rfl ?_
        refine zv_iload_n (pc' := 103) dX1_tellOne_102 rfl rfl ?_
        refine zv_iload (pc' := 105) dX1_tellOne_103 rfl rfl ?_
        by_cases hh : twoB (yN c) (nI (dg l (a + 1))) (nI (dg l (a + 2))) = true
        · obtain ⟨p1, p2, p3⟩ := twoB_nat hn8 (by omega) (by omega) hh
          rw [if_pos hh, et]
          refine zv_cV2_fi (pc' := 108) dX1_tellOne_105 rfl lkX1_68 (by first | rfl | assumption) rfl (Nat.le_of_ble_eq_true rfl) (x0_signBoth zCy13 hA hn8 p1 p2 p3) ?_
          rintro r M1 ⟨rfl, q1, s1⟩
          refine zv_ireturn dX1_tellOne_108 rfl (by first | rfl | exact zb_nar _) ?_
          exact ⟨_, rfl, rfl, fun c' z => (by rw [← Option.some.inj z]; exact q1), s1⟩
        · rw [if_neg hh]
          refine zv_cV2_pi (pc' := 108) dX1_tellOne_105 rfl lkX1_68 (by first | rfl | assumption) rfl (Nat.le_of_ble_eq_true rfl) (x0_signBoth0 zCy13 hA (by simpa using hh)) ?_
          refine zv_ireturn dX1_tellOne_108 rfl (by first | rfl | exact zb_nar _) ?_
          exact ⟨_, rfl, rfl, fun c' z => (by cases z), zSame.rf⟩
      · rw [x5]
        have et : tieC c 102 (dg l (a + 1)) (dg l (a + 2)) = feudC c (dg l (a + 1)) (dg l (a + 2)) (!yX c (dg l (a + 1)) (dg l (a + 2))) := by rw [tieC, if_neg (by decide), if_pos rfl]
        refine zv_lookup (pc' := 109) (off := 87) dX1_tellOne_22 (by decide) (by decide) (by decide) ?_
        refine zv_aload_n (pc' := 110) dX1_tellOne_109 rfl rfl ?_
        refine zv_iload_n (pc' := 111) dX1_tellOne_110 rfl rfl ?_
        refine zv_iload (pc' := 113) dX1_tellOne_111 rfl rfl ?_
        by_cases hh : twoB (yN c) (nI (dg l (a + 1))) (nI (dg l (a + 2))) = true
        · obtain ⟨p1, p2, p3⟩ := twoB_nat hn8 (by omega) (by omega) hh
          rw [if_pos hh, et]
          refine zv_cV2_fi (pc' := 116) dX1_tellOne_113 rfl lkX1_71 (by first | rfl | assumption) rfl (Nat.le_of_ble_eq_true rfl) (x0_turnFeud zCy13 hA hn8 p1 p2 p3) ?_
          rintro r M1 ⟨rfl, q1, s1⟩
          refine zv_ireturn dX1_tellOne_116 rfl (by first | rfl | exact zb_nar _) ?_
          exact ⟨_, rfl, rfl, fun c' z => (by rw [← Option.some.inj z]; exact q1), s1⟩
        · rw [if_neg hh]
          refine zv_cV2_pi (pc' := 116) dX1_tellOne_113 rfl lkX1_71 (by first | rfl | assumption) rfl (Nat.le_of_ble_eq_true rfl) (x0_turnFeud0 zCy13 hA (by simpa using hh)) ?_
          refine zv_ireturn dX1_tellOne_116 rfl (by first | rfl | exact zb_nar _) ?_
          exact ⟨_, rfl, rfl, fun c' z => (by cases z), zSame.rf⟩
theorem x1_tellAll (h : zLt M l) (hA : zAt M 13 c) (hk : zOk c) (hy : yY c ≤ 999) (hf : fmO l 97 0 = none) : ZFi mdX1_tellAll (d + 6) [.ref 25, .ref 13] M (fun x M' => x = tlV (tlO l 97 0 c) ∧ (∀ q, tlO l 97 0 c = .inr q → zAt M' 13 q.2) ∧ zSame 13 19 M M') := by
  have h96 := h.2.2.1
  have lp : ∀ f k c1 M1, f + k = 97 → 4 * k ≤ psN l k → fmO l f k = none → zAt M1 13 c1 → zOk c1 → yY c1 ≤ 999 → zSame 13 19 M M1 → tlO l 97 0 c = tlO l f k c1 → ZV mdX1_tellAll (d + 6) (fun v M' => ∃ x, v = some (.int x) ∧ (x = tlV (tlO l 97 0 c) ∧ (∀ q, tlO l 97 0 c = .inr q → zAt M' 13 q.2) ∧ zSame 13 19 M M')) 4 [some (.ref 25), some (.ref 13), some (.int (nI k)), some (.int (nI (psN l k))), none] [] M1 := by
    intro f
    induction f with
    | zero =>
      intro k c1 M1 e h4 hf1 hA1 hk1 hy1 s1 ht
      have hp := psN_le l k
      have h1 := h.same (s1 25 (by omega)) (s1 26 (by omega))
      have hN := h1.1
      have ht : tlO l 97 0 c = .inr (k, c1) := ht
      rw [ht]
      refine zv_iload_n (pc' := 5) dX1_tellAll_4 rfl rfl ?_
      refine zv_aload_n (pc' := 6) dX1_tellAll_5 rfl rfl ?_
      refine zv_getIE (pc' := 9) dX1_tellAll_6 rfl flX1_15 (by first | rfl | assumption) rfl (by first | exact hN | rfl) ?_
      refine zv_icmp_ge (pc' := 12) (tgt := 50) dX1_tellAll_9 rfl rfl (fun _ => ?_) (fun hcc => absurd (nI_le (by omega) (by omega)) hcc)
      refine zv_iload_n (pc' := 51) dX1_tellAll_50 rfl rfl ?_
      refine zv_iret dX1_tellAll_51 rfl ?_
      exact ⟨_, rfl, rfl, fun q z => (by cases z; exact hA1), s1⟩
    | succ f ih =>
      intro k c1 M1 e h4 hf1 hA1 hk1 hy1 s1 ht
      have hp := psN_le l k
      have hor := lenN_or l (psN l k)
      have h1 := h.same (s1 25 (by omega)) (s1 26 (by omega))
      have hN := h1.1
      rw [fmO] at hf1
      rw [tlO_s (f := f) (k := k) (c := c1)] at ht
      by_cases hz : l.1 ≤ psN l k
      · rw [if_pos hz] at ht
        rw [ht]
        refine zv_iload_n (pc' := 5) dX1_tellAll_4 rfl rfl ?_
        refine zv_aload_n (pc' := 6) dX1_tellAll_5 rfl rfl ?_
        refine zv_getIE (pc' := 9) dX1_tellAll_6 rfl flX1_15 (by first | rfl | assumption) rfl (by first | exact hN | rfl) ?_
        refine zv_icmp_ge (pc' := 12) (tgt := 50) dX1_tellAll_9 rfl rfl (fun _ => ?_) (fun hcc => absurd (nI_le (by omega) (by omega)) hcc)
        refine zv_iload_n (pc' := 51) dX1_tellAll_50 rfl rfl ?_
        refine zv_iret dX1_tellAll_51 rfl ?_
        exact ⟨_, rfl, rfl, fun q z => (by cases z; exact hA1), s1⟩
      · rw [if_neg hz] at hf1 ht
        cases hb : bdA l (psN l k) with
        | some b => rw [hb] at hf1; cases hf1
        | none =>
          rw [hb] at hf1
          have hlen : lenN l (psN l k) ≠ 0 := by
            intro z
            rw [bdA, if_pos z] at hb
            cases hb
          refine zv_iload_n (pc' := 5) dX1_tellAll_4 rfl rfl ?_
          refine zv_aload_n (pc' := 6) dX1_tellAll_5 rfl rfl ?_
          refine zv_getIE (pc' := 9) dX1_tellAll_6 rfl flX1_15 (by first | rfl | assumption) rfl (by first | exact hN | rfl) ?_
          refine zv_icmp_ge (pc' := 12) (tgt := 50) dX1_tellAll_9 rfl rfl (fun hcc => absurd hcc (nI_ge (by omega) (by omega))) (fun _ => ?_)
          refine zv_aload_n (pc' := 13) dX1_tellAll_12 rfl rfl ?_
          refine zv_iload_n (pc' := 14) dX1_tellAll_13 rfl rfl ?_
          refine zv_cV1_pi (pc' := 17) dX1_tellAll_14 rfl lkX1_23 (by first | rfl | assumption) rfl (Nat.le_of_ble_eq_true rfl) (x1_lengthFrom h1 (by omega)) ?_
          refine zv_istore (pc' := 19) dX1_tellAll_17 rfl (by decide) ?_
          refine zv_iload (pc' := 21) dX1_tellAll_19 rfl rfl ?_
          refine zv_if_le (pc' := 24) (tgt := 33) dX1_tellAll_21 rfl rfl (fun hcc => absurd hcc ((by rw [← nI_0]; exact nI_ge (by omega) (by omega)))) (fun _ => ?_)
          refine zv_aload_n (pc' := 25) dX1_tellAll_24 rfl rfl ?_
          refine zv_aload_n (pc' := 26) dX1_tellAll_25 rfl rfl ?_
          refine zv_iload_n (pc' := 27) dX1_tellAll_26 rfl rfl ?_
          refine zv_cV2_fi (pc' := 30) dX1_tellAll_27 rfl lkX1_51 (by first | rfl | assumption) rfl (Nat.le_of_ble_eq_true rfl) (x1_tellOne h1 hA1 hk1 hb) ?_
          rintro x M2 ⟨rfl, q2, s2⟩
          cases ho : oneC l (psN l k) c1 with
          | none =>
            rw [ho] at ht
            rw [ht]
            refine zv_if_ne (pc' := 33) (tgt := 39) dX1_tellAll_30 rfl rfl (fun hcc => absurd (rfl) hcc) (fun _ => ?_)
            refine zv_sipush (v := (-2000 : Int32)) (pc' := 36) dX1_tellAll_33 rfl (by decide) ?_
            refine zv_iload_n (pc' := 37) dX1_tellAll_36 rfl rfl ?_
            refine zv_isub (pc' := 38) dX1_tellAll_37 rfl ?_
            refine zv_iret dX1_tellAll_38 rfl ?_
            exact ⟨_, rfl, rfl, fun q z => (by cases z), s1.tr s2⟩
          | some c2 =>
            rw [ho] at ht
            have hc2 := oneC_ok hb hk1 hy1 ho
            refine zv_if_ne (pc' := 33) (tgt := 39) dX1_tellAll_30 rfl rfl (fun _ => ?_) (fun hcc => absurd hcc (zb_ne.mpr rfl))
            refine zv_iinc (w := nI 1) (pc' := 42) dX1_tellAll_39 rfl rfl (by decide) (by decide) ?_
            refine zv_iload_n (pc' := 43) dX1_tellAll_42 rfl rfl ?_
            refine zv_iload (pc' := 45) dX1_tellAll_43 rfl rfl ?_
            refine zv_iadd (pc' := 46) dX1_tellAll_45 rfl ?_
            refine zv_top (nI_add _ _) ?_
            refine zv_istore_n (pc' := 47) dX1_tellAll_46 rfl (by decide) ?_
            refine zv_goto (pc' := 4) dX1_tellAll_47 rfl ?_
            rw [nI_add]
            refine zv_fg [4] ?_
            exact ih (k + 1) c2 M2 (by omega) (by rw [psN]; omega) hf1 (q2 c2 ho) hc2.1 hc2.2 (s1.tr s2) ht
  refine zex_intro (L := [some (.ref 25), some (.ref 13), none, none, none]) (by decide) (Nat.le_of_ble_eq_true rfl) rfl ?_
  refine zv_iconst (v := nI 0) (pc' := 1) dX1_tellAll_0 rfl (by decide) ?_
  refine zv_istore_n (pc' := 2) dX1_tellAll_1 rfl (by decide) ?_
  refine zv_iconst (v := nI 0) (pc' := 3) dX1_tellAll_2 rfl (by decide) ?_
  refine zv_istore_n (pc' := 4) dX1_tellAll_3 rfl (by decide) ?_
  exact lp 97 0 c M (by omega) (by omega) hf hA hk hy zSame.rf rfl
end
theorem zIx.drop {M : ZMem} {s : ZS} (h : zIx M s) : zIx (zup M 25 1 (nI 0)) (dropS s) := by
  obtain ⟨h1, h2, h3, h4, h5⟩ := h
  have hs : ∀ k, k ≠ 25 → zup M 25 1 (nI 0) k = M k := fun k hk => zup_ne hk
  have hz : ∀ o, o + 6 ≤ 13 → ∀ c, zAt M o c → zAt (zup M 25 1 (nI 0)) o c := by
    intro o ho c hA
    exact hA.same (zSame.up (lo := 25) (hi := 26) (by omega) (by omega)) (by omega)
  refine ⟨hz 1 (by omega) _ h1, ⟨by rw [hs 0 (by omega)]; exact h2.1, fun ci hc => hz 7 (by omega) _ (h2.2 ci hc)⟩, ⟨?_, fun j hj => absurd hj (Nat.not_lt_zero j)⟩, by rw [hs 0 (by omega), hs 27 (by omega)]; exact h4, by rw [hs 28 (by omega)]; exact h5⟩
  rw [zup_eq, upd_s]
  rfl
section
variable {d : Nat}
theorem gx_county : zGx mdX6_county (d + 7) [] sp_county := by
  intro M s hI hk
  have hn8 := hk.1.1
  have hA := hI.1
  have hl : zLt M (sL s) := ⟨hI.2.2.1.1, hI.2.2.1.2, hk.2.2.2.1.1, hk.2.2.2.1.2⟩
  have fin : ∀ x y s' M1, sp_county s = (y, dropS s') → zIx M1 s' → zSame 0 90 M M1 → ZV mdX6_county (d + 7) (fun v M' => ∃ r, v = some (.int r) ∧ (r = (sp_county s).1 ∧ zIx M' (sp_county s).2 ∧ zSame 0 90 M M')) 56 [some (.ref 0), some (.int x), some (.int y)] [] M1 := by
    intro x y s' M1 he hI1 s1
    refine zv_aload_n (pc' := 57) dX6_county_56 rfl rfl ?_
    refine zv_getR (pc' := 60) dX6_county_57 rfl flX6_28 (by first | rfl | assumption) rfl ?_
    refine zv_cV0_fv (pc' := 63) dX6_county_60 rfl lkX6_108 (by first | rfl | assumption) rfl (Nat.le_of_ble_eq_true rfl) (x1_drop) ?_
    rintro M2 rfl
    refine zv_iload_n (pc' := 64) dX6_county_63 rfl rfl ?_
    refine zv_iret dX6_county_64 rfl ?_
    exact zdone he hI1.drop (s1.tr (zSame.up (by omega) (by omega)))
  refine zex_intro (L := [some (.ref 0), none, none]) (by decide) (Nat.le_of_ble_eq_true rfl) rfl ?_
  refine zv_aload_n (pc' := 1) dX6_county_0 rfl rfl ?_
  refine zv_getR (pc' := 4) dX6_county_1 rfl flX6_28 (by first | rfl | assumption) rfl ?_
  refine zv_cV0_pi (pc' := 7) dX6_county_4 rfl lkX6_96 (by first | rfl | assumption) rfl (Nat.le_of_ble_eq_true rfl) (x1_badForm hl) ?_
  cases hf : formO (sL s) with
  | some b =>
    have hb : b < 2 ^ 31 := by
      have h96 := hk.2.2.2.1.1
      have : ∀ f k, fmO (sL s) f k = some b → b < 10000 := by
        intro f
        induction f with
        | zero => intro k z; cases z
        | succ f ih =>
          intro k z
          rw [fmO] at z
          by_cases hz : (sL s).1 ≤ psN (sL s) k
          · rw [if_pos hz] at z; cases z
          · rw [if_neg hz] at z
            cases hq : bdA (sL s) (psN (sL s) k) with
            | none => rw [hq] at z; exact ih _ z
            | some b' =>
              rw [hq] at z
              have z := Option.some.inj z
              subst z
              unfold bdA at hq
              have hor := lenN_or (sL s) (psN (sL s) k)
              split at hq
              · have := Option.some.inj hq; omega
              · have := (zfst_some.mp hq).2.1; omega
      unfold formO at hf
      split at hf
      · have := Option.some.inj hf; omega
      · have := this _ _ hf; omega
    refine zv_istore_n (pc' := 8) dX6_county_7 rfl (by decide) ?_
    refine zv_sipush (v := (-1000 : Int32)) (pc' := 11) dX6_county_8 rfl (by decide) ?_
    refine zv_iload_n (pc' := 12) dX6_county_11 rfl rfl ?_
    refine zv_isub (pc' := 13) dX6_county_12 rfl ?_
    refine zv_istore_n (pc' := 14) dX6_county_13 rfl (by decide) ?_
    refine zv_iload_n (pc' := 15) dX6_county_14 rfl rfl ?_
    refine zv_if_ge (pc' := 18) (tgt := 56) dX6_county_15 rfl rfl (fun _ => ?_) (fun hcc => absurd ((show (0 : Int32) ≤ nI b from nI_pos' hb)) hcc)
    refine fin _ _ s M ?_ hI zSame.rf
    unfold sp_county
    rw [hf]
    rfl
  | none =>
    have hf0 : fmO (sL s) 97 0 = none := by
      unfold formO at hf
      split at hf
      · cases hf
      · exact hf
    have hok := tlO_ok 97 0 (sC s) hf0 hk.1 hk.2.1
    refine zv_istore_n (pc' := 8) dX6_county_7 rfl (by decide) ?_
    refine zv_sipush (v := (-1000 : Int32)) (pc' := 11) dX6_county_8 rfl (by decide) ?_
    refine zv_iload_n (pc' := 12) dX6_county_11 rfl rfl ?_
    refine zv_isub (pc' := 13) dX6_county_12 rfl ?_
    refine zv_istore_n (pc' := 14) dX6_county_13 rfl (by decide) ?_
    refine zv_iload_n (pc' := 15) dX6_county_14 rfl rfl ?_
    refine zv_if_ge (pc' := 18) (tgt := 56) dX6_county_15 rfl rfl (fun hcc => absurd hcc ((show ¬ (0 : Int32) ≤ -1 by decide))) (fun _ => ?_)
    refine zv_aload_n (pc' := 19) dX6_county_18 rfl rfl ?_
    refine zv_getR (pc' := 22) dX6_county_19 rfl flX6_19 (by first | rfl | assumption) rfl ?_
    refine zv_aload_n (pc' := 23) dX6_county_22 rfl rfl ?_
    refine zv_getR (pc' := 26) dX6_county_23 rfl flX6_10 (by first | rfl | assumption) rfl ?_
    refine zv_cV1_fv (pc' := 29) dX6_county_26 rfl lkX6_100 (by first | rfl | assumption) rfl (Nat.le_of_ble_eq_true rfl) (x0_become zCy13 zCy1 hA (by omega)) ?_
    rintro M1 ⟨h1, s1⟩
    refine zv_aload_n (pc' := 30) dX6_county_29 rfl rfl ?_
    refine zv_getR (pc' := 33) dX6_county_30 rfl flX6_28 (by first | rfl | assumption) rfl ?_
    refine zv_aload_n (pc' := 34) dX6_county_33 rfl rfl ?_
    refine zv_getR (pc' := 37) dX6_county_34 rfl flX6_19 (by first | rfl | assumption) rfl ?_
    refine zv_cV1_fi (pc' := 40) dX6_county_37 rfl lkX6_104 (by first | rfl | assumption) rfl (Nat.le_of_ble_eq_true rfl) (x1_tellAll (hl.same (s1 25 (by omega)) (s1 26 (by omega))) h1 hk.1 hk.2.1 hf0) ?_
    rintro x M2 ⟨rfl, q2, s2⟩
    have s12 := s1.tr s2
    have hI2 := hI.scr (zScr.same s12 (by omega))
    refine zv_istore_n (pc' := 41) dX6_county_40 rfl (by decide) ?_
    refine zv_iload_n (pc' := 42) dX6_county_41 rfl rfl ?_
    cases ht : tlO (sL s) 97 0 (sC s) with
    | inl a =>
      have ha := hok.1 a ht
      have h96 := hk.2.2.2.1.1
      refine zv_if_lt (pc' := 45) (tgt := 56) dX6_county_42 rfl rfl (fun _ => ?_) (fun hcc => absurd ((show (-2000 : Int32) - nI a < 0 from (by decide +kernel : ∀ a, a < 96 → (-2000 : Int32) - nI a < 0) a (by omega))) hcc)
      refine fin _ _ s M2 ?_ hI2 (s12.wide (by omega) (by omega))
      unfold sp_county
      rw [hf, ht]
      rfl
    | inr q =>
      have hq := hok.2 q ht
      refine zv_if_lt (pc' := 45) (tgt := 56) dX6_county_42 rfl rfl (fun hcc => absurd hcc ((show ¬ nI q.1 < 0 from nI_pos (by omega)))) (fun _ => ?_)
      refine zv_aload_n (pc' := 46) dX6_county_45 rfl rfl ?_
      refine zv_getR (pc' := 49) dX6_county_46 rfl flX6_10 (by first | rfl | assumption) rfl ?_
      refine zv_aload_n (pc' := 50) dX6_county_49 rfl rfl ?_
      refine zv_getR (pc' := 53) dX6_county_50 rfl flX6_19 (by first | rfl | assumption) rfl ?_
      refine zv_cV1_fv (pc' := 56) dX6_county_53 rfl lkX6_100 (by first | rfl | assumption) rfl (Nat.le_of_ble_eq_true rfl) (x0_become zCy1 zCy13 (q2 q ht) (by omega)) ?_
      rintro M3 ⟨h3, s3⟩
      refine fin _ _ (q.2, s.2) M3 ?_ (hI2.setc h3 s3) ((s12.wide (by omega) (by omega)).tr (s3.wide (by omega) (by omega)))
      unfold sp_county
      rw [hf, ht]
      rfl
end
