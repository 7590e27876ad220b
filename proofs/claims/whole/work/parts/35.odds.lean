/-! deaths and mean: the class -/
def zansl (w : Nat) (s : ZS) (v : Int64) : Int64 × ZS := if w = 0 then (v, s) else (4000000000000000000 - (-nI w).toInt64, refS s w)
def zGxl (m : ZMD) (d : Nat) (as : List Value) (sp : ZS → Int64 × ZS) : Prop := ∀ (M : ZMem) (s : ZS), zIx M s → zSk s → ZFl m d (.ref 0 :: as) M (fun r M' => r = (sp s).1 ∧ zIx M' (sp s).2 ∧ zSame 0 90 M M')
def zGml (m : ZMD) (d : Nat) (as : List Value) (sp : ZS → Int64 × ZS) : Prop := ∀ (M : ZMem) (s : ZS), zIm M s → zSk s → ZFl m d (.ref 90 :: as) M (fun r M' => r = (sp s).1 ∧ zIm M' (sp s).2 ∧ ∀ k, k < 90 → M' k = M k)
theorem zrefxl {M : ZMem} {s : ZS} {v : Int64} {w : Nat} (hI : zIx M s) (hw : w ≠ 0) : ∃ r, some (Value.long (4000000000000000000 - (-nI w).toInt64)) = some (Value.long r) ∧ (r = (zansl w s v).1 ∧ zIx (zup M 28 w (M 28 w + 1)) (zansl w s v).2 ∧ zSame 0 90 M (zup M 28 w (M 28 w + 1))) := by
  obtain ⟨r, -, h2⟩ := zrefx (s' := s) (v := 0) hI hw
  rw [zans, if_neg hw] at h2
  rw [zansl, if_neg hw]
  exact ⟨_, rfl, rfl, h2.2⟩
theorem zrefml {M : ZMem} {s : ZS} {v : Int64} {w : Nat} (hI : zIm M s) (hw : w ≠ 0) : ∃ r, some (Value.long (4000000000000000000 - (-nI w).toInt64)) = some (Value.long r) ∧ (r = (zansl w s v).1 ∧ zIm (zup M 91 w (M 91 w + 1)) (zansl w s v).2 ∧ ∀ k, k < 90 → zup M 91 w (M 91 w + 1) k = M k) := by
  obtain ⟨r, -, h2⟩ := zrefm (s' := s) (v := 0) hI hw
  rw [zans, if_neg hw] at h2
  rw [zansl, if_neg hw]
  exact ⟨_, rfl, rfl, h2.2⟩
theorem zdonql {v : Int64} {s : ZS} {sp : Int64 × ZS} {M M' : ZMem} (e : sp = (v, s)) (hI : zIx M s) (hs : zScr M M') : ∃ r, some (Value.long v) = some (Value.long r) ∧ (r = sp.1 ∧ zIx M' sp.2 ∧ zSame 0 90 M M') := ⟨v, rfl, by rw [e], by rw [e]; exact hI.scr hs, hs.s90⟩
theorem zdonml {v : Int64} {s : ZS} {sp : Int64 × ZS} {M M' : ZMem} (e : sp = (v, s)) (hI : zIm M s) (ht : zTd M M' (sC s)) : ∃ r, some (Value.long v) = some (Value.long r) ∧ (r = sp.1 ∧ zIm M' sp.2 ∧ ∀ k, k < 90 → M' k = M k) := ⟨v, rfl, by rw [e], by rw [e]; exact hI.td ht, ht.lt⟩
def wayN (dd p v a : Nat) : Nat → ZCty → Nat
  | 0, c => if v ≤ yM c p then 1 else 0
  | k + 1, c => wayN dd p v a k (yearC dd c) + a * wayN dd p v a k (yearC 100 c)
theorem wayN_le {dd p v a : Nat} : ∀ (k : Nat) (c : ZCty), wayN dd p v a k c ≤ (a + 1) ^ k
  | 0, c => by
    rw [wayN]
    split <;> simp
  | k + 1, c => by
    have h1 := wayN_le (dd := dd) (p := p) (v := v) (a := a) k (yearC dd c)
    have h2 := wayN_le (dd := dd) (p := p) (v := v) (a := a) k (yearC 100 c)
    have h3 := Nat.mul_le_mul_left a h2
    have e : (a + 1) ^ (k + 1) = a * (a + 1) ^ k + (a + 1) ^ k := by rw [Nat.pow_succ, Nat.mul_comm, Nat.add_mul, Nat.one_mul]
    rw [wayN, e]
    omega
theorem pw_lt {t k : Nat} (ht : t ≤ 20) (hk : k ≤ 7) : t ^ k < 2 ^ 31 := Nat.lt_of_le_of_lt (Nat.le_trans (Nat.pow_le_pow_left ht k) (Nat.pow_le_pow_right (by decide) hk)) (Nat.le_of_ble_eq_true rfl)
theorem wayN_lt {dd p v t k : Nat} {c : ZCty} (ht1 : 2 ≤ t) (ht : t ≤ 20) (hk : k ≤ 7) : wayN dd p v (t - 1) k c < 2 ^ 31 := by
  have h := wayN_le (dd := dd) (p := p) (v := v) (a := t - 1) k c
  rw [show t - 1 + 1 = t by omega] at h
  exact Nat.lt_of_le_of_lt h (pw_lt ht hk)
def odN (n t v : Int32) : Nat := if n < 0 ∨ v < 0 ∨ t < nI 2 then 4 else if nI 7 < n ∨ nI 20 < t ∨ nI 99 < v then 6 else 0
theorem odN_lt {n t v : Int32} : odN n t v < 7 := by unfold odN; split <;> (try split) <;> omega
theorem odN_of {n t v : Int32} (h : odN n t v = 0) : ∃ a b e : Nat, a ≤ 7 ∧ 2 ≤ b ∧ b ≤ 20 ∧ e ≤ 99 ∧ n = nI a ∧ t = nI b ∧ v = nI e := by
  unfold odN at h
  split at h
  · omega
  · rename_i h1
    split at h
    · omega
    · rename_i h2
      have ht0 : ¬ t < 0 := fun z => h1 (Or.inr (Or.inr (Int32.lt_of_lt_of_le z (nI_pos' (by omega)))))
      obtain ⟨a, ha, rfl⟩ := nI_of (fun z => h1 (Or.inl z))
      obtain ⟨e, he, rfl⟩ := nI_of (fun z => h1 (Or.inr (Or.inl z)))
      obtain ⟨b, hb, rfl⟩ := nI_of ht0
      have k1 := mt (nI_ltI (a := b) (b := 2) hb (by omega)).mpr (fun z => h1 (Or.inr (Or.inr z)))
      have k2 := mt (nI_ltI (a := 7) (b := a) (by omega) ha).mpr (fun z => h2 (Or.inl z))
      have k3 := mt (nI_ltI (a := 20) (b := b) (by omega) hb).mpr (fun z => h2 (Or.inr (Or.inl z)))
      have k4 := mt (nI_ltI (a := 99) (b := e) (by omega) he).mpr (fun z => h2 (Or.inr (Or.inr z)))
      exact ⟨a, b, e, by omega, by omega, by omega, by omega, rfl, rfl, rfl⟩
def sp_deaths (x y n t v w : Int32) (s : ZS) : Int64 × ZS := zansl (fiN (twN (yN (sC s)) x y) (odN n t v) (otN w 1)) s (lN (ptN (wayN (pN x) (pN y) (pN v) (pN t - 1) (pN n) (sC s)) (pN t ^ pN n) (pN w)))
def sp_mean (w : Int32) (s : ZS) : Int64 × ZS := zansl (otN w 1) s (lN (ptN (wealthN (sC s)) (max 1 (yN (sC s))) (pN w)))
theorem wealth_lt {c : ZCty} (hk : zOk c) : wealthN c < 800 := by
  have h : wealthN c ≤ yN c * 99 := zsum_le (fun j _ => hk.2.2.2.1 j)
  have := hk.1
  omega
theorem zCyD {k : Nat} (h : k < 8) : zCy (40 + 6 * k) := by
  rcases (show k = 0 ∨ k = 1 ∨ k = 2 ∨ k = 3 ∨ k = 4 ∨ k = 5 ∨ k = 6 ∨ k = 7 by omega) with rfl | rfl | rfl | rfl | rfl | rfl | rfl | rfl <;> exact ⟨rfl, rfl, rfl, rfl, rfl, rfl⟩
def zOd (M : ZMem) (dd p n a v : Nat) : Prop := M 38 1 = absI dd ∧ M 38 2 = nI p ∧ M 38 3 = nI n ∧ M 38 4 = nI a ∧ M 38 5 = nI v
theorem zOd.same {M M' : ZMem} {dd p n a v lo hi : Nat} (h : zOd M dd p n a v) (hs : zSame lo hi M M') (hl : 39 ≤ lo) : zOd M' dd p n a v := by
  unfold zOd
  rw [hs 38 (by omega)]
  exact h
section
variable {d : Nat} {M : ZMem} {c : ZCty}
theorem x6_notOdds {n t v : Int32} : ZPi mdX6_notOdds d [.int n, .int t, .int v] M (-nI (odN n t v)) := by
  have lo : (n < 0 ∨ v < 0 ∨ t < nI 2) → ZV mdX6_notOdds d (fun x M' => x = some (.int (-nI (odN n t v))) ∧ M' = M) 13 [some (.int n), some (.int t), some (.int v)] [] M := by
    intro h
    refine zv_bipush (v := (-4 : Int32)) (pc' := 15) dX6_notOdds_13 rfl (by decide) ?_
    refine zv_iret dX6_notOdds_15 rfl ?_
    exact zpi_ret (by rw [odN, if_pos h]; decide)
  have up : ¬ (n < 0 ∨ v < 0 ∨ t < nI 2) → (nI 7 < n ∨ nI 20 < t ∨ nI 99 < v) → ZV mdX6_notOdds d (fun x M' => x = some (.int (-nI (odN n t v))) ∧ M' = M) 34 [some (.int n), some (.int t), some (.int v)] [] M := by
    intro h1 h2
    refine zv_bipush (v := (-6 : Int32)) (pc' := 36) dX6_notOdds_34 rfl (by decide) ?_
    refine zv_goto (pc' := 40) dX6_notOdds_36 rfl ?_
    refine zv_iret dX6_notOdds_40 rfl ?_
    exact zpi_ret (by rw [odN, if_neg h1, if_pos h2]; decide)
  refine zex_intro (L := [some (.int n), some (.int t), some (.int v)]) (by decide) (Nat.le_of_ble_eq_true rfl) rfl ?_
  refine zv_iload_n (pc' := 1) dX6_notOdds_0 rfl rfl ?_
  refine zv_if_lt (pc' := 4) (tgt := 13) dX6_notOdds_1 rfl rfl ?_ ?_
  · intro h
    exact lo (Or.inl h)
  · intro h1
    refine zv_iload_n (pc' := 5) dX6_notOdds_4 rfl rfl ?_
    refine zv_if_lt (pc' := 8) (tgt := 13) dX6_notOdds_5 rfl rfl ?_ ?_
    · intro h
      exact lo (Or.inr (Or.inl h))
    · intro h2
      refine zv_iload_n (pc' := 9) dX6_notOdds_8 rfl rfl ?_
      refine zv_iconst (v := nI 2) (pc' := 10) dX6_notOdds_9 rfl (by decide) ?_
      refine zv_icmp_ge (pc' := 13) (tgt := 16) dX6_notOdds_10 rfl rfl ?_ ?_
      · intro h3
        have h3 := Int32.not_lt.mpr h3
        have hl : ¬ (n < 0 ∨ v < 0 ∨ t < nI 2) := fun z => z.elim h1 (fun z => z.elim h2 h3)
        refine zv_iload_n (pc' := 17) dX6_notOdds_16 rfl rfl ?_
        refine zv_bipush (v := nI 7) (pc' := 19) dX6_notOdds_17 rfl (by decide) ?_
        refine zv_icmp_gt (pc' := 22) (tgt := 34) dX6_notOdds_19 rfl rfl ?_ ?_
        · intro h
          exact up hl (Or.inl h)
        · intro g1
          refine zv_iload_n (pc' := 23) dX6_notOdds_22 rfl rfl ?_
          refine zv_bipush (v := nI 20) (pc' := 25) dX6_notOdds_23 rfl (by decide) ?_
          refine zv_icmp_gt (pc' := 28) (tgt := 34) dX6_notOdds_25 rfl rfl ?_ ?_
          · intro h
            exact up hl (Or.inr (Or.inl h))
          · intro g2
            refine zv_iload_n (pc' := 29) dX6_notOdds_28 rfl rfl ?_
            refine zv_bipush (v := nI 99) (pc' := 31) dX6_notOdds_29 rfl (by decide) ?_
            refine zv_icmp_le (pc' := 34) (tgt := 39) dX6_notOdds_31 rfl rfl ?_ ?_
            · intro g3
              have g3 := Int32.not_lt.mpr g3
              refine zv_iconst (v := nI 0) (pc' := 40) dX6_notOdds_39 rfl (by decide) ?_
              refine zv_iret dX6_notOdds_40 rfl ?_
              exact zpi_ret (by rw [odN, if_neg hl, if_neg (fun z => z.elim g1 (fun z => z.elim g2 g3))]; decide)
            · intro h
              exact up hl (Or.inr (Or.inr (Int32.not_le.mp h)))
      · intro h
        exact lo (Or.inr (Or.inr (Int32.not_le.mp h)))
theorem x2_waysFrom {dd p n a v : Nat} (hn : n ≤ 7) (ha : a ≤ 19) (hv : v ≤ 99) (hdd : dd < 8) : ∀ (r k : Nat) (c : ZCty) (M : ZMem), k + r = n → zOd M dd p n a v → zAt M (40 + 6 * k) c → zOk c → p < yN c → ∀ D, r + 3 ≤ D → ZFl mdX2_waysFrom D [.ref 38, .int (nI k)] M (fun x M' => x = lN (wayN dd p v a r c) ∧ zSame (46 + 6 * k) 88 M M') := by
  intro r
  induction r with
  | zero =>
    intro k c M e hO hA hk hp D hD
    obtain ⟨d, rfl⟩ : ∃ d, D = d + 3 := ⟨D - 3, by omega⟩
    have hC := zCyD (k := k) (by omega)
    have hC' := hC
    have hn8 := hk.1
    obtain ⟨c0, c1, c2, c3, c4, c5⟩ := hC
    obtain ⟨o1, o2, o3, o4, o5⟩ := hO
    have hM := hA.2.2.2.2.1
    have hm99 := hk.2.2.2.1 p
    have e : k = n := by omega
    subst e
    refine zex_intro (L := [some (.ref 38), some (.int (nI k)), none, none, none, none]) (by decide) (Nat.le_of_ble_eq_true rfl) rfl ?_
    refine zv_iload_n (pc' := 1) dX2_waysFrom_0 rfl rfl ?_
    refine zv_if_lt (pc' := 4) (tgt := 10) dX2_waysFrom_1 rfl rfl (fun hcc => absurd hcc (nI_pos (by omega))) (fun _ => ?_)
    refine zv_iload_n (pc' := 5) dX2_waysFrom_4 rfl rfl ?_
    refine zv_bipush (v := nI 7) (pc' := 7) dX2_waysFrom_5 rfl (by decide) ?_
    refine zv_icmp_le (pc' := 10) (tgt := 12) dX2_waysFrom_7 rfl rfl (fun _ => ?_) (fun hcc => absurd (nI_le (by omega) (by omega)) hcc)
    refine zv_aload_n (pc' := 13) dX2_waysFrom_12 rfl rfl ?_
    refine zv_getR (pc' := 16) dX2_waysFrom_13 rfl flX2_11 (by first | rfl | assumption) rfl ?_
    refine zv_iload_n (pc' := 17) dX2_waysFrom_16 rfl rfl ?_
    refine zv_aaloadN (n := 8) (f := fun j => some (40 + 6 * j)) (pc' := 18) dX2_waysFrom_17 rfl rfl (by decide) (by omega) rfl ?_
    refine zv_astore_n (pc' := 19) dX2_waysFrom_18 rfl (by decide) ?_
    refine zv_iload_n (pc' := 20) dX2_waysFrom_19 rfl rfl ?_
    refine zv_aload_n (pc' := 21) dX2_waysFrom_20 rfl rfl ?_
    refine zv_getIE (pc' := 24) dX2_waysFrom_21 rfl flX2_25 (by first | rfl | assumption) rfl (by first | exact o1 | exact o2 | exact o3 | exact o4 | exact o5 | exact hM _ (by omega) | rfl) ?_
    refine zv_icmp_ge (pc' := 27) (tgt := 33) dX2_waysFrom_24 rfl rfl (fun _ => ?_) (fun hcc => absurd (Int32.le_refl _) hcc)
    refine zv_aload_n (pc' := 34) dX2_waysFrom_33 rfl rfl ?_
    refine zv_aload_n (pc' := 35) dX2_waysFrom_34 rfl rfl ?_
    refine zv_getIE (pc' := 38) dX2_waysFrom_35 rfl flX2_22 (by first | rfl | assumption) rfl (by first | exact o1 | exact o2 | exact o3 | exact o4 | exact o5 | exact hM _ (by omega) | rfl) ?_
    refine zv_cV1_pi (pc' := 41) dX2_waysFrom_38 rfl lkX2_42 (by first | rfl | assumption) rfl (Nat.le_of_ble_eq_true rfl) (x0_has hC' hA) ?_
    refine zv_if_eq (pc' := 44) (tgt := 64) dX2_waysFrom_41 rfl rfl (fun hcc => absurd hcc (zb_ne.mpr (hasB_in hp hn8))) (fun _ => ?_)
    refine zv_aload_n (pc' := 45) dX2_waysFrom_44 rfl rfl ?_
    refine zv_getR (pc' := 48) dX2_waysFrom_45 rfl flX2_46 (by first | rfl | assumption) rfl ?_
    refine zv_aload_n (pc' := 49) dX2_waysFrom_48 rfl rfl ?_
    refine zv_getIE (pc' := 52) dX2_waysFrom_49 rfl flX2_22 (by first | rfl | assumption) rfl (by first | exact o1 | exact o2 | exact o3 | exact o4 | exact o5 | exact hM _ (by omega) | rfl) ?_
    refine zv_ialoadE (pc' := 53) dX2_waysFrom_52 rfl (by first | rfl | assumption) (by decide) (by omega) (by first | exact o1 | exact o2 | exact o3 | exact o4 | exact o5 | exact hM _ (by omega) | rfl) ?_
    refine zv_aload_n (pc' := 54) dX2_waysFrom_53 rfl rfl ?_
    refine zv_getIE (pc' := 57) dX2_waysFrom_54 rfl flX2_31 (by first | rfl | assumption) rfl (by first | exact o1 | exact o2 | exact o3 | exact o4 | exact o5 | exact hM _ (by omega) | rfl) ?_
    refine zv_icmp_lt (pc' := 60) (tgt := 64) dX2_waysFrom_57 rfl rfl ?_ ?_
    · intro h
      have h := (nI_ltI (by omega) (by omega)).mp h
      refine zv_lconst (v := 0) (pc' := 65) dX2_waysFrom_64 rfl (by decide) ?_
      refine zv_lret dX2_waysFrom_65 rfl ?_
      exact ⟨_, rfl, by rw [wayN, if_neg (by omega)]; rfl, zSame.rf⟩
    · intro h
      have h := mt (nI_ltI (a := yM c p) (b := v) (by omega) (by omega)).mpr h
      refine zv_lconst (v := 1) (pc' := 61) dX2_waysFrom_60 rfl (by decide) ?_
      refine zv_goto (pc' := 65) dX2_waysFrom_61 rfl ?_
      refine zv_lret dX2_waysFrom_65 rfl ?_
      exact ⟨_, rfl, by rw [wayN, if_pos (by omega)]; rfl, zSame.rf⟩
  | succ r ih =>
    intro k c M e hO hA hk hp D hD
    obtain ⟨d, rfl⟩ : ∃ d, D = d + 4 := ⟨D - 4, by omega⟩
    have hC := zCyD (k := k) (by omega)
    have hC' := hC
    have hCn := zCyD (k := k + 1) (by omega)
    have hCn' := hCn
    have hn8 := hk.1
    obtain ⟨c0, c1, c2, c3, c4, c5⟩ := hC
    obtain ⟨e0, e1, e2, e3, e4, e5⟩ := hCn
    have o3 := hO.2.2.1
    refine zex_intro (L := [some (.ref 38), some (.int (nI k)), none, none, none, none]) (by decide) (Nat.le_of_ble_eq_true rfl) rfl ?_
    refine zv_iload_n (pc' := 1) dX2_waysFrom_0 rfl rfl ?_
    refine zv_if_lt (pc' := 4) (tgt := 10) dX2_waysFrom_1 rfl rfl (fun hcc => absurd hcc (nI_pos (by omega))) (fun _ => ?_)
    refine zv_iload_n (pc' := 5) dX2_waysFrom_4 rfl rfl ?_
    refine zv_bipush (v := nI 7) (pc' := 7) dX2_waysFrom_5 rfl (by decide) ?_
    refine zv_icmp_le (pc' := 10) (tgt := 12) dX2_waysFrom_7 rfl rfl (fun _ => ?_) (fun hcc => absurd (nI_le (by omega) (by omega)) hcc)
    refine zv_aload_n (pc' := 13) dX2_waysFrom_12 rfl rfl ?_
    refine zv_getR (pc' := 16) dX2_waysFrom_13 rfl flX2_11 (by first | rfl | assumption) rfl ?_
    refine zv_iload_n (pc' := 17) dX2_waysFrom_16 rfl rfl ?_
    refine zv_aaloadN (n := 8) (f := fun j => some (40 + 6 * j)) (pc' := 18) dX2_waysFrom_17 rfl rfl (by decide) (by omega) rfl ?_
    refine zv_astore_n (pc' := 19) dX2_waysFrom_18 rfl (by decide) ?_
    refine zv_iload_n (pc' := 20) dX2_waysFrom_19 rfl rfl ?_
    refine zv_aload_n (pc' := 21) dX2_waysFrom_20 rfl rfl ?_
    refine zv_getIE (pc' := 24) dX2_waysFrom_21 rfl flX2_25 (by first | rfl | assumption) rfl (by first | exact o3 | rfl) ?_
    refine zv_icmp_ge (pc' := 27) (tgt := 33) dX2_waysFrom_24 rfl rfl (fun hcc => absurd hcc (nI_ge (by omega) (by omega))) (fun _ => ?_)
    refine zv_iload_n (pc' := 28) dX2_waysFrom_27 rfl rfl ?_
    refine zv_bipush (v := nI 7) (pc' := 30) dX2_waysFrom_28 rfl (by decide) ?_
    refine zv_icmp_lt (pc' := 33) (tgt := 66) dX2_waysFrom_30 rfl rfl (fun _ => ?_) (fun hcc => absurd (nI_lt (by omega) (by omega)) hcc)
    refine zv_aload_n (pc' := 67) dX2_waysFrom_66 rfl rfl ?_
    refine zv_getR (pc' := 70) dX2_waysFrom_67 rfl flX2_11 (by first | rfl | assumption) rfl ?_
    refine zv_iload_n (pc' := 71) dX2_waysFrom_70 rfl rfl ?_
    refine zv_iconst (v := nI 1) (pc' := 72) dX2_waysFrom_71 rfl (by decide) ?_
    refine zv_iadd (pc' := 73) dX2_waysFrom_72 rfl ?_
    refine zv_top (nI_add _ _) ?_
    refine zv_aaloadN (n := 8) (f := fun j => some (40 + 6 * j)) (pc' := 74) dX2_waysFrom_73 rfl rfl (by decide) (by omega) rfl ?_
    refine zv_astore_n (pc' := 75) dX2_waysFrom_74 rfl (by decide) ?_
    refine zv_aload_n (pc' := 76) dX2_waysFrom_75 rfl rfl ?_
    refine zv_aload_n (pc' := 77) dX2_waysFrom_76 rfl rfl ?_
    refine zv_cV1_fv (pc' := 80) dX2_waysFrom_77 rfl lkX2_34 (by first | rfl | assumption) rfl (Nat.le_of_ble_eq_true rfl) (x0_become hCn' hC' hA (by omega)) ?_
    rintro M1 ⟨h1, s1⟩
    have q1 := (hO.same s1 (by omega)).1
    refine zv_aload_n (pc' := 81) dX2_waysFrom_80 rfl rfl ?_
    refine zv_aload_n (pc' := 82) dX2_waysFrom_81 rfl rfl ?_
    refine zv_getIE (pc' := 85) dX2_waysFrom_82 rfl flX2_18 (by first | rfl | assumption) rfl (by first | exact q1 | rfl) ?_
    refine zv_cV1_fv (pc' := 88) dX2_waysFrom_85 rfl lkX2_50 (by first | rfl | assumption) rfl (Nat.le_of_ble_eq_true rfl) (x0_passYear hCn' h1 hk (Or.inl hdd)) ?_
    rintro M2 ⟨h2, s2⟩
    have s2 := s1.tr s2
    refine zv_aload_n (pc' := 89) dX2_waysFrom_88 rfl rfl ?_
    refine zv_iload_n (pc' := 90) dX2_waysFrom_89 rfl rfl ?_
    refine zv_iconst (v := nI 1) (pc' := 91) dX2_waysFrom_90 rfl (by decide) ?_
    refine zv_iadd (pc' := 92) dX2_waysFrom_91 rfl ?_
    refine zv_top (nI_add _ _) ?_
    refine zv_cV1_fl (pc' := 95) dX2_waysFrom_92 rfl lkX2_38 (by first | rfl | assumption) rfl (Nat.le_of_ble_eq_true rfl) (ih (k + 1) _ M2 (by omega) (hO.same s2 (by omega)) h2 (zOk_year hk).1 (by rw [(zOk_year hk).2]; exact hp) _ (by omega)) ?_
    rintro x M3 ⟨rfl, s3⟩
    have s3 : zSame (46 + 6 * k) 88 M M3 := (s2.wide (by omega) (by omega)).tr (s3.wide (by omega) (by omega))
    refine zv_lstore (pc' := 97) dX2_waysFrom_95 rfl (by decide) ?_
    refine zv_aload_n (pc' := 98) dX2_waysFrom_97 rfl rfl ?_
    refine zv_aload_n (pc' := 99) dX2_waysFrom_98 rfl rfl ?_
    refine zv_cV1_fv (pc' := 102) dX2_waysFrom_99 rfl lkX2_34 (by first | rfl | assumption) rfl (Nat.le_of_ble_eq_true rfl) (x0_become hCn' hC' (hA.same s3 (by omega)) (by omega)) ?_
    rintro M4 ⟨h4, s4⟩
    have s4 := s3.tr (s4.wide (by omega) (by omega))
    refine zv_aload_n (pc' := 103) dX2_waysFrom_102 rfl rfl ?_
    refine zv_iconst (v := (-1 : Int32)) (pc' := 104) dX2_waysFrom_103 rfl (by decide) ?_
    refine zv_cV1_fv (pc' := 107) dX2_waysFrom_104 rfl lkX2_50 (by first | rfl | assumption) rfl (Nat.le_of_ble_eq_true rfl) (x0_passYear (dd := 100) hCn' h4 hk (Or.inr rfl)) ?_
    rintro M5 ⟨h5, s5⟩
    have s5 := s4.tr (s5.wide (by omega) (by omega))
    have q5 := (hO.same s5 (by omega)).2.2.2.1
    refine zv_lload (pc' := 109) dX2_waysFrom_107 rfl rfl ?_
    refine zv_aload_n (pc' := 110) dX2_waysFrom_109 rfl rfl ?_
    refine zv_getIE (pc' := 113) dX2_waysFrom_110 rfl flX2_28 (by first | rfl | assumption) rfl (by first | exact q5 | rfl) ?_
    refine zv_i2l (pc' := 114) dX2_waysFrom_113 rfl ?_
    refine zv_ltop (nI_l (by omega)) ?_
    refine zv_aload_n (pc' := 115) dX2_waysFrom_114 rfl rfl ?_
    refine zv_iload_n (pc' := 116) dX2_waysFrom_115 rfl rfl ?_
    refine zv_iconst (v := nI 1) (pc' := 117) dX2_waysFrom_116 rfl (by decide) ?_
    refine zv_iadd (pc' := 118) dX2_waysFrom_117 rfl ?_
    refine zv_top (nI_add _ _) ?_
    refine zv_cV1_fl (pc' := 121) dX2_waysFrom_118 rfl lkX2_38 (by first | rfl | assumption) rfl (Nat.le_of_ble_eq_true rfl) (ih (k + 1) _ M5 (by omega) (hO.same s5 (by omega)) h5 (zOk_year hk).1 (by rw [(zOk_year hk).2]; exact hp) _ (by omega)) ?_
    rintro x M6 ⟨rfl, s6⟩
    refine zv_lmul (pc' := 122) dX2_waysFrom_121 rfl ?_
    refine zv_ltop (lN_mul _ _) ?_
    refine zv_ladd (pc' := 123) dX2_waysFrom_122 rfl ?_
    refine zv_ltop (lN_add _ _) ?_
    refine zv_lret dX2_waysFrom_123 rfl ?_
    exact ⟨_, rfl, rfl, s5.tr (s6.wide (by omega) (by omega))⟩
theorem x2_goodWays {dd p n t v : Nat} (hn : n ≤ 7) (ht1 : 2 ≤ t) (ht2 : t ≤ 20) (hv : v ≤ 99) (hk : zOk c) (hdd : dd < yN c) (hp : p < yN c) (hA : zAt M 1 c) : ∀ D, n + 4 ≤ D → ZFl mdX2_goodWays D [.ref 38, .ref 1, .int (nI dd), .int (nI p), .int (nI n), .int (nI t), .int (nI v)] M (fun x M' => x = lN (wayN dd p v (t - 1) n c) ∧ zSame 38 88 M M') := by
  intro D hD
  obtain ⟨d, rfl⟩ : ∃ d, D = d + 4 := ⟨D - 4, by omega⟩
  have hn8 := hk.1
  refine zex_intro (L := [some (.ref 38), some (.ref 1), some (.int (nI dd)), some (.int (nI p)), some (.int (nI n)), some (.int (nI t)), some (.int (nI v))]) (by decide) (Nat.le_of_ble_eq_true rfl) rfl ?_
  refine zv_aload_n (pc' := 1) dX2_goodWays_0 rfl rfl ?_
  refine zv_iload_n (pc' := 2) dX2_goodWays_1 rfl rfl ?_
  refine zv_putI (pc' := 5) dX2_goodWays_2 rfl flX2_18 pfX2_1 (by first | rfl | assumption) rfl rfl rfl ?_
  refine zv_aload_n (pc' := 6) dX2_goodWays_5 rfl rfl ?_
  refine zv_iload_n (pc' := 7) dX2_goodWays_6 rfl rfl ?_
  refine zv_putI (pc' := 10) dX2_goodWays_7 rfl flX2_22 pfX2_2 (by first | rfl | assumption) rfl rfl rfl ?_
  refine zv_aload_n (pc' := 11) dX2_goodWays_10 rfl rfl ?_
  refine zv_iload (pc' := 13) dX2_goodWays_11 rfl rfl ?_
  refine zv_putI (pc' := 16) dX2_goodWays_13 rfl flX2_25 pfX2_3 (by first | rfl | assumption) rfl rfl rfl ?_
  refine zv_aload_n (pc' := 17) dX2_goodWays_16 rfl rfl ?_
  refine zv_iload (pc' := 19) dX2_goodWays_17 rfl rfl ?_
  refine zv_iconst (v := nI 1) (pc' := 20) dX2_goodWays_19 rfl (by decide) ?_
  refine zv_isub (pc' := 21) dX2_goodWays_20 rfl ?_
  refine zv_top (pk_sub (by omega)) ?_
  refine zv_putI (pc' := 24) dX2_goodWays_21 rfl flX2_28 pfX2_4 (by first | rfl | assumption) rfl rfl rfl ?_
  refine zv_aload_n (pc' := 25) dX2_goodWays_24 rfl rfl ?_
  refine zv_iload (pc' := 27) dX2_goodWays_25 rfl rfl ?_
  refine zv_putI (pc' := 30) dX2_goodWays_27 rfl flX2_31 pfX2_5 (by first | rfl | assumption) rfl rfl rfl ?_
  have o5 : zOd (zup (zup (zup (zup (zup M 38 1 (nI dd)) 38 2 (nI p)) 38 3 (nI n)) 38 4 (nI (t - 1))) 38 5 (nI v)) dd p n (t - 1) v := by
    unfold zOd absI
    rw [if_pos (show dd < 8 by omega)]
    refine ⟨?_, ?_, ?_, ?_, ?_⟩ <;> simp [zup, zupf, upd]
  have s5 : zSame 38 88 M (zup (zup (zup (zup (zup M 38 1 (nI dd)) 38 2 (nI p)) 38 3 (nI n)) 38 4 (nI (t - 1))) 38 5 (nI v)) := (zSame.up (by omega) (by omega)).tr ((zSame.up (by omega) (by omega)).tr ((zSame.up (by omega) (by omega)).tr ((zSame.up (by omega) (by omega)).tr (zSame.up (by omega) (by omega)))))
  generalize zup (zup (zup (zup (zup M 38 1 (nI dd)) 38 2 (nI p)) 38 3 (nI n)) 38 4 (nI (t - 1))) 38 5 (nI v) = M5 at o5 s5 ⊢
  refine zv_aload_n (pc' := 31) dX2_goodWays_30 rfl rfl ?_
  refine zv_getR (pc' := 34) dX2_goodWays_31 rfl flX2_11 (by first | rfl | assumption) rfl ?_
  refine zv_iconst (v := nI 0) (pc' := 35) dX2_goodWays_34 rfl (by decide) ?_
  refine zv_aaloadN (n := 8) (f := fun j => some (40 + 6 * j)) (pc' := 36) dX2_goodWays_35 rfl rfl (by decide) (by omega) rfl ?_
  refine zv_aload_n (pc' := 37) dX2_goodWays_36 rfl rfl ?_
  refine zv_cV1_fv (pc' := 40) dX2_goodWays_37 rfl lkX2_34 (by first | rfl | assumption) rfl (Nat.le_of_ble_eq_true rfl) (x0_become (zCyD (k := 0) (by decide)) zCy1 (hA.same s5 (by omega)) (by omega)) ?_
  rintro M6 ⟨h6, s6⟩
  refine zv_aload_n (pc' := 41) dX2_goodWays_40 rfl rfl ?_
  refine zv_iconst (v := nI 0) (pc' := 42) dX2_goodWays_41 rfl (by decide) ?_
  refine zv_cV1_fl (pc' := 45) dX2_goodWays_42 rfl lkX2_38 (by first | rfl | assumption) rfl (Nat.le_of_ble_eq_true rfl) (x2_waysFrom hn (by omega) hv (by omega) n 0 c M6 (by omega) (o5.same s6 (by omega)) h6 hk hp _ (by omega)) ?_
  rintro x M7 ⟨rfl, s7⟩
  refine zv_lret dX2_goodWays_45 rfl ?_
  exact ⟨_, rfl, rfl, s5.tr ((s6.wide (by omega) (by omega)).tr (s7.wide (by omega) (by omega)))⟩
end
section
variable {d : Nat}
theorem gx_deaths (x y n t v w : Int32) : zGxl mdX6_deaths (d + 12) [.int x, .int y, .int n, .int t, .int v, .int w] (sp_deaths x y n t v w) := by
  intro M s hI hk
  have hn8 := hk.1.1
  have hA := hI.1
  refine zex_intro (L := [some (.ref 0), some (.int x), some (.int y), some (.int n), some (.int t), some (.int v), some (.int w), none, none, none]) (by decide) (Nat.le_of_ble_eq_true rfl) rfl ?_
  refine zv_aload_n (pc' := 1) dX6_deaths_0 rfl rfl ?_
  refine zv_iload_n (pc' := 2) dX6_deaths_1 rfl rfl ?_
  refine zv_iload_n (pc' := 3) dX6_deaths_2 rfl rfl ?_
  refine zv_cV2_pi (pc' := 6) dX6_deaths_3 rfl lkX6_138 (by first | rfl | assumption) rfl (Nat.le_of_ble_eq_true rfl) (x6_notTwo hA) ?_
  refine zv_iload_n (pc' := 7) dX6_deaths_6 rfl rfl ?_
  refine zv_iload (pc' := 9) dX6_deaths_7 rfl rfl ?_
  refine zv_iload (pc' := 11) dX6_deaths_9 rfl rfl ?_
  refine zv_cS3_pi (pc' := 14) dX6_deaths_11 rfl lkX6_237 (Nat.le_of_ble_eq_true rfl) (x6_notOdds) ?_
  refine zv_iload (pc' := 16) dX6_deaths_14 rfl rfl ?_
  refine zv_iconst (v := nI 1) (pc' := 17) dX6_deaths_16 rfl (by decide) ?_
  refine zv_cS2_pi (pc' := 20) dX6_deaths_17 rfl lkX6_114 (Nat.le_of_ble_eq_true rfl) (x6_otherThan) ?_
  refine zv_cS3_pi (pc' := 23) dX6_deaths_20 rfl lkX6_81 (Nat.le_of_ble_eq_true rfl) (x6_firstOf twN_lt odN_lt) ?_
  have hw := fiN_lt (twN_lt (n := yN (sC s)) (x := x) (y := y)) (odN_lt (n := n) (t := t) (v := v)) (otN_lt (x := w) (n := 1))
  refine zv_istore (pc' := 25) dX6_deaths_23 rfl (by decide) ?_
  refine zv_iload (pc' := 27) dX6_deaths_25 rfl rfl ?_
  refine zv_if_eq (pc' := 30) (tgt := 42) dX6_deaths_27 rfl rfl ?_ ?_
  · intro h
    have h0 := (neg_w0 _ hw).mp h
    obtain ⟨g1, g2, g3⟩ := fiN_0.mp h0
    obtain ⟨p, q, hp, hq, hpq, rfl, rfl⟩ := twoB_of hn8 (twN_0.mp g1)
    obtain ⟨n, t, v, hn, ht1, ht2, hv, rfl, rfl, rfl⟩ := odN_of g2
    obtain ⟨w, -, hw2, rfl⟩ := isInB_of (by decide) (otN_0.mp g3) (by decide)
    refine zv_aload_n (pc' := 43) dX6_deaths_42 rfl rfl ?_
    refine zv_getR (pc' := 46) dX6_deaths_43 rfl flX6_63 (by first | rfl | assumption) rfl ?_
    refine zv_aload_n (pc' := 47) dX6_deaths_46 rfl rfl ?_
    refine zv_getR (pc' := 50) dX6_deaths_47 rfl flX6_10 (by first | rfl | assumption) rfl ?_
    refine zv_iload_n (pc' := 51) dX6_deaths_50 rfl rfl ?_
    refine zv_iload_n (pc' := 52) dX6_deaths_51 rfl rfl ?_
    refine zv_iload_n (pc' := 53) dX6_deaths_52 rfl rfl ?_
    refine zv_iload (pc' := 55) dX6_deaths_53 rfl rfl ?_
    refine zv_iload (pc' := 57) dX6_deaths_55 rfl rfl ?_
    refine zv_cV6_fl (pc' := 60) dX6_deaths_57 rfl lkX6_242 (by first | rfl | assumption) rfl (Nat.le_of_ble_eq_true rfl) (x2_goodWays hn ht1 ht2 hv hk.1 hp hq hA _ (by omega)) ?_
    rintro r M1 ⟨rfl, h1⟩
    refine zv_lstore (pc' := 62) dX6_deaths_60 rfl (by decide) ?_
    refine zv_lload (pc' := 64) dX6_deaths_62 rfl rfl ?_
    refine zv_iload_n (pc' := 65) dX6_deaths_64 rfl rfl ?_
    refine zv_iload (pc' := 67) dX6_deaths_65 rfl rfl ?_
    refine zv_cS2_pl (pc' := 70) dX6_deaths_67 rfl lkX6_246 (Nat.le_of_ble_eq_true rfl) (x2_allWays hn ht2) ?_
    refine zv_iload (pc' := 72) dX6_deaths_70 rfl rfl ?_
    refine zv_cS3_pl (pc' := 75) dX6_deaths_72 rfl lkX6_250 (Nat.le_of_ble_eq_true rfl) (x6_partOf (wayN_lt ht1 ht2 hn) (pw_lt ht2 hn) (Nat.pow_pos (by omega)) (by omega)) ?_
    refine zv_lret dX6_deaths_75 rfl ?_
    exact zdonql (by rw [sp_deaths, zansl, if_pos h0, pN_nI (by omega), pN_nI (by omega), pN_nI (by omega), pN_nI (by omega), pN_nI (by omega), pN_nI (by omega)]) hI (zScr.same h1 (by omega))
  · intro h
    have h0 := mt (neg_w0 _ hw).mpr h
    refine zv_ldc2 (pc' := 33) dX6_deaths_30 rfl csX6_240 ?_
    refine zv_aload_n (pc' := 34) dX6_deaths_33 rfl rfl ?_
    refine zv_iload (pc' := 36) dX6_deaths_34 rfl rfl ?_
    refine zv_cV1_fi (pc' := 39) dX6_deaths_36 rfl lkX6_84 (by first | rfl | assumption) rfl (Nat.le_of_ble_eq_true rfl) (x6_refuse hw h0) ?_
    rintro r M1 ⟨rfl, rfl⟩
    refine zv_i2l (pc' := 40) dX6_deaths_39 rfl ?_
    refine zv_lsub (pc' := 41) dX6_deaths_40 rfl ?_
    refine zv_lret dX6_deaths_41 rfl ?_
    exact zrefxl hI h0
theorem gx_mean (w : Int32) : zGxl mdX6_mean (d + 4) [.int w] (sp_mean w) := by
  intro M s hI hk
  have hn8 := hk.1.1
  have hA := hI.1
  have hN := hA.1
  refine zex_intro (L := [some (.ref 0), some (.int w), none]) (by decide) (Nat.le_of_ble_eq_true rfl) rfl ?_
  refine zv_iload_n (pc' := 1) dX6_mean_0 rfl rfl ?_
  refine zv_iconst (v := nI 1) (pc' := 2) dX6_mean_1 rfl (by decide) ?_
  refine zv_cS2_pi (pc' := 5) dX6_mean_2 rfl lkX6_114 (Nat.le_of_ble_eq_true rfl) (x6_otherThan) ?_
  refine zv_istore_n (pc' := 6) dX6_mean_5 rfl (by decide) ?_
  refine zv_iload_n (pc' := 7) dX6_mean_6 rfl rfl ?_
  refine zv_if_eq (pc' := 10) (tgt := 21) dX6_mean_7 rfl rfl ?_ ?_
  · intro h
    have h0 := (neg_w0 _ otN_lt).mp h
    obtain ⟨w, -, hw2, rfl⟩ := isInB_of (by decide) (otN_0.mp h0) (by decide)
    have hwe := wealth_lt hk.1
    have em : (if nI 1 < nI (yN (sC s)) then nI (yN (sC s)) else nI 1) = nI (max 1 (yN (sC s))) := by
      by_cases h1 : 1 < yN (sC s)
      · rw [if_pos (nI_lt h1 (by omega)), Nat.max_eq_right (by omega)]
      · rw [if_neg (nI_nlt (by omega) (by omega)), Nat.max_eq_left (by omega)]
    refine zv_aload_n (pc' := 22) dX6_mean_21 rfl rfl ?_
    refine zv_getR (pc' := 25) dX6_mean_22 rfl flX6_10 (by first | rfl | assumption) rfl ?_
    refine zv_cV0_pi (pc' := 28) dX6_mean_25 rfl lkX6_171 (by first | rfl | assumption) rfl (Nat.le_of_ble_eq_true rfl) (x0_wealth zCy1 hA hn8) ?_
    refine zv_i2l (pc' := 29) dX6_mean_28 rfl ?_
    refine zv_ltop (nI_l (by omega)) ?_
    refine zv_iconst (v := nI 1) (pc' := 30) dX6_mean_29 rfl (by decide) ?_
    refine zv_aload_n (pc' := 31) dX6_mean_30 rfl rfl ?_
    refine zv_getR (pc' := 34) dX6_mean_31 rfl flX6_10 (by first | rfl | assumption) rfl ?_
    refine zv_getIE (pc' := 37) dX6_mean_34 rfl flX6_186 (by first | rfl | assumption) rfl (by first | exact hN | rfl) ?_
    refine zv_mmax (pc' := 40) dX6_mean_37 rfl lmX6_254 (Nat.le_of_ble_eq_true rfl) ?_
    refine zv_top em ?_
    refine zv_i2l (pc' := 41) dX6_mean_40 rfl ?_
    refine zv_ltop (nI_l (by omega)) ?_
    refine zv_iload_n (pc' := 42) dX6_mean_41 rfl rfl ?_
    refine zv_cS3_pl (pc' := 45) dX6_mean_42 rfl lkX6_250 (Nat.le_of_ble_eq_true rfl) (x6_partOf (by omega) (by omega) (by omega) (by omega)) ?_
    refine zv_lret dX6_mean_45 rfl ?_
    exact zdonql (by rw [sp_mean, zansl, if_pos h0, pN_nI (by omega)]) hI zScr.rf
  · intro h
    have h0 := mt (neg_w0 _ otN_lt).mpr h
    refine zv_ldc2 (pc' := 13) dX6_mean_10 rfl csX6_240 ?_
    refine zv_aload_n (pc' := 14) dX6_mean_13 rfl rfl ?_
    refine zv_iload_n (pc' := 15) dX6_mean_14 rfl rfl ?_
    refine zv_cV1_fi (pc' := 18) dX6_mean_15 rfl lkX6_84 (by first | rfl | assumption) rfl (Nat.le_of_ble_eq_true rfl) (x6_refuse otN_lt h0) ?_
    rintro r M1 ⟨rfl, rfl⟩
    refine zv_i2l (pc' := 19) dX6_mean_18 rfl ?_
    refine zv_lsub (pc' := 20) dX6_mean_19 rfl ?_
    refine zv_lret dX6_mean_20 rfl ?_
    exact zrefxl hI h0
end
