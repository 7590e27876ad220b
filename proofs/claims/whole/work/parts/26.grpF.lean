/-! reach: it is settled after n - 1 steps; both ways; onwards -/
theorem sprd_iff {c : ZCty} {f : Nat → Bool} {j : Nat} : sprd c f j = true ↔ f j = true ∨ ∃ i, i < yN c ∧ f i = true ∧ kinB c i j = true := by
  unfold sprd
  rw [Bool.or_eq_true, zany_iff]
  simp only [Bool.and_eq_true]
theorem rch_mono1 {c : ZCty} {k p j : Nat} (h : rch c k p j = true) : rch c (k + 1) p j = true := sprd_iff.mpr (Or.inl h)
theorem rch_mono {c : ZCty} {k p j : Nat} (h : rch c k p j = true) : ∀ m, rch c (k + m) p j = true
  | 0 => h
  | m + 1 => rch_mono1 (rch_mono h m)
theorem rch_le {c : ZCty} {k m p j : Nat} (h : rch c k p j = true) (hm : k ≤ m) : rch c m p j = true := by
  rw [show m = k + (m - k) by omega]; exact rch_mono h _
theorem rch_lt {c : ZCty} (hk : zOk c) {p : Nat} (hp : p < yN c) : ∀ {k j : Nat}, rch c k p j = true → j < yN c
  | 0, j, h => by simp only [rch, decide_eq_true_eq] at h; omega
  | k + 1, j, h => by
    rcases sprd_iff.mp h with h | ⟨i, _, _, h3⟩
    · exact rch_lt hk hp h
    · exact (kin_lt hk h3).2
theorem rch_step {c : ZCty} (hk : zOk c) {k p i j : Nat} (h : rch c k p i = true) (hij : kinB c i j = true) : rch c (k + 1) p j = true := sprd_iff.mpr (Or.inr ⟨i, (kin_lt hk hij).1, h, hij⟩)
theorem rch_tr {c : ZCty} (hk : zOk c) {k p i : Nat} (h : rch c k p i = true) : ∀ {m j : Nat}, rch c m i j = true → rch c (k + m) p j = true
  | 0, j, h2 => by
    simp only [rch, decide_eq_true_eq] at h2
    rw [h2]; exact h
  | m + 1, j, h2 => by
    rcases sprd_iff.mp h2 with h2 | ⟨x, _, h3, h4⟩
    · exact rch_mono1 (rch_tr hk h h2)
    · exact rch_step hk (rch_tr hk h h3) h4
theorem rch_sym {c : ZCty} (hk : zOk c) {p : Nat} : ∀ {k j : Nat}, rch c k p j = true → rch c k j p = true
  | 0, j, h => by simp only [rch, decide_eq_true_eq] at h ⊢; exact h.symm
  | k + 1, j, h => by
    rcases sprd_iff.mp h with h | ⟨i, _, h2, h3⟩
    · exact rch_mono1 (rch_sym hk h)
    · have a : rch c 1 j i = true := rch_step hk (k := 0) (i := j) (by simp [rch]) (by rw [kin_sym hk]; exact h3)
      have := rch_tr hk a (rch_sym hk h2)
      rw [show k + 1 = 1 + k by omega]
      exact this
theorem zcn_full {f : Nat → Bool} : ∀ {n : Nat}, n ≤ zcn n f → ∀ j, j < n → f j = true
  | 0, _, j, hj => by omega
  | n + 1, h, j, hj => by
    have := zcn_le f n
    rw [zcn] at h
    by_cases hf : f n = true
    · rw [if_pos hf] at h
      by_cases e : j = n
      · rw [e]; exact hf
      · exact zcn_full (n := n) (f := f) (by omega) j (by omega)
    · rw [if_neg hf] at h; omega
theorem zcn_up {f g : Nat → Bool} (h : ∀ j, f j = true → g j = true) : ∀ n, zcn n f ≤ zcn n g
  | 0 => Nat.le_refl _
  | n + 1 => by
    have := zcn_up h n
    rw [zcn, zcn]
    by_cases hf : f n = true
    · rw [if_pos hf, if_pos (h n hf)]; omega
    · rw [if_neg hf]; split <;> omega
theorem zcn_upS {f g : Nat → Bool} (h : ∀ j, f j = true → g j = true) : ∀ n, (∃ j, j < n ∧ f j = false ∧ g j = true) → zcn n f < zcn n g
  | 0, ⟨j, hj, _⟩ => by omega
  | n + 1, ⟨j, hj, h1, h2⟩ => by
    have h3 := zcn_up h n
    rw [zcn, zcn]
    by_cases e : j = n
    · subst e; rw [h1, h2]; simp; omega
    · have := zcn_upS h n ⟨j, by omega, h1, h2⟩
      by_cases hf : f n = true
      · rw [if_pos hf, if_pos (h n hf)]; omega
      · rw [if_neg hf]; split <;> omega
theorem rch_grow {c : ZCty} (hk : zOk c) {p : Nat} (hp : p < yN c) : ∀ k, k + 1 ≤ zcn (yN c) (rch c k p) ∨ rch c (k + 1) p = rch c k p
  | 0 => Or.inl (zcn_pos (q := p) (by simp [rch]) hp)
  | k + 1 => by
    rcases rch_grow hk hp k with h | h
    · by_cases e : ∃ j, j < yN c ∧ rch c k p j = false ∧ rch c (k + 1) p j = true
      · have := zcn_upS (f := rch c k p) (g := rch c (k + 1) p) (fun j hj => rch_mono1 hj) (yN c) e
        exact Or.inl (by omega)
      · have e2 : rch c (k + 1) p = rch c k p := by
          funext j
          cases h1 : rch c k p j
          · cases h2 : rch c (k + 1) p j
            · rfl
            · exact absurd ⟨j, rch_lt hk hp h2, h1, h2⟩ e
          · exact rch_mono1 h1
        exact Or.inr (congrArg (sprd c) e2)
    · exact Or.inr (congrArg (sprd c) h)
theorem rch_stop {c : ZCty} (hk : zOk c) {p : Nat} (hp : p < yN c) : rch c (yN c - 1 + 1) p = rch c (yN c - 1) p := by
  rcases rch_grow hk hp (yN c - 1) with h | h
  · funext j
    cases h1 : rch c (yN c - 1) p j
    · cases h2 : rch c (yN c - 1 + 1) p j
      · rfl
      · rw [zcn_full (f := rch c (yN c - 1) p) (n := yN c) (by omega) j (rch_lt hk hp h2)] at h1; cases h1
    · exact rch_mono1 h1
  · exact h
theorem rch_end {c : ZCty} (hk : zOk c) {p : Nat} (hp : p < yN c) : ∀ m, rch c (yN c - 1 + m) p = rch c (yN c - 1) p
  | 0 => rfl
  | m + 1 => (congrArg (sprd c) (rch_end hk hp m)).trans (rch_stop hk hp)
theorem rch_all {c : ZCty} (hk : zOk c) {p k : Nat} (hp : p < yN c) (hm : yN c - 1 ≤ k) : rch c k p = rch c (yN c - 1) p := by
  rw [show k = yN c - 1 + (k - (yN c - 1)) by omega]; exact rch_end hk hp _
abbrev rrB (c : ZCty) (p j : Nat) : Bool := rch c (yN c - 1) p j
theorem rr_sym {c : ZCty} (hk : zOk c) {p j : Nat} : rrB c p j = rrB c j p := by
  cases h : rrB c p j
  · cases h2 : rrB c j p
    · rfl
    · rw [show rrB c p j = true from rch_sym hk h2] at h; cases h
  · exact (rch_sym hk h).symm
theorem rr_tr {c : ZCty} (hk : zOk c) {p i j : Nat} (hp : p < yN c) (h1 : rrB c p i = true) (h2 : rrB c i j = true) : rrB c p j = true := by
  have := rch_tr hk h1 h2
  rw [rch_all hk hp (by omega)] at this
  exact this
/-- the first step that reaches -/
def dst (c : ZCty) (s p q : Nat) : Option Nat := zfst (s + 1) 0 (fun k => rch c k p q)
theorem dst_le {c : ZCty} {s p q v : Nat} (h : dst c s p q = some v) : v ≤ s ∧ rch c v p q = true := by
  have := zfst_some.mp h
  exact ⟨by omega, this.2.2.1⟩
theorem dst_none {c : ZCty} {s p q : Nat} : dst c s p q = none ↔ rch c s p q = false := by
  unfold dst
  rw [zfst_none]
  constructor
  · intro h; exact h s (by omega) (by omega)
  · intro h j _ hj
    cases e : rch c j p q
    · rfl
    · rw [rch_le e (by omega : j ≤ s)] at h; cases h
theorem dst_up {c : ZCty} {s p q v : Nat} (h : dst c s p q = some v) : dst c (s + 1) p q = some v := by
  have := zfst_some.mp h
  exact zfst_some.mpr ⟨by omega, by omega, this.2.2.1, this.2.2.2⟩
theorem dst_new {c : ZCty} {s p q : Nat} (h : dst c s p q = none) (h2 : rch c (s + 1) p q = true) : dst c (s + 1) p q = some (s + 1) := by
  have := zfst_none.mp h
  exact zfst_some.mpr ⟨by omega, by omega, h2, fun j h1 h3 => this j h1 (by omega)⟩
theorem dst_next {c : ZCty} (hk : zOk c) {s p q : Nat} (h : dst c s p q = none) : rch c (s + 1) p q = zany (yN c) (fun i => decide (dst c s p i = some s) && kinB c i q) := by
  have h0 := dst_none.mp h
  cases e : zany (yN c) (fun i => decide (dst c s p i = some s) && kinB c i q)
  · cases h1 : rch c (s + 1) p q
    · rfl
    · rcases sprd_iff.mp h1 with h2 | ⟨i, hi, h2, h3⟩
      · rw [h0] at h2; cases h2
      · have : zany (yN c) (fun i => decide (dst c s p i = some s) && kinB c i q) = true := by
          refine zany_iff.mpr ⟨i, hi, ?_⟩
          cases hd : dst c s p i with
          | none => rw [dst_none.mp hd] at h2; cases h2
          | some v =>
            have hv := dst_le hd
            by_cases ev : v = s
            · subst ev; simp [h3]
            · have := rch_le (rch_step hk hv.2 h3) (show v + 1 ≤ s by omega)
              rw [h0] at this; cases this
        rw [e] at this; cases this
  · obtain ⟨i, hi, h2⟩ := zany_iff.mp e
    simp only [Bool.and_eq_true, decide_eq_true_eq] at h2
    exact rch_step hk (dst_le h2.1).2 h2.2
/-- the reference's steps, at level s, those below a looked at -/
def stF (c : ZCty) (p s a q : Nat) : Int32 := match dst c s p q with
  | some v => nI v
  | none => if zany a (fun i => decide (dst c s p i = some s) && kinB c i q) = true then nI (s + 1) else -9
theorem stF_0 {c : ZCty} {p s q : Nat} : stF c p s 0 q = optI (dst c s p q) := by
  unfold stF
  cases dst c s p q <;> rfl
theorem stF_n {c : ZCty} (hk : zOk c) {p s q : Nat} : stF c p s (yN c) q = optI (dst c (s + 1) p q) := by
  unfold stF
  cases h : dst c s p q with
  | some v => rw [dst_up h]; rfl
  | none =>
    show (if _ then _ else _) = _
    rw [← dst_next hk h]
    cases e : rch c (s + 1) p q
    · rw [dst_none.mpr e]; rfl
    · rw [dst_new h e]; rfl
theorem m9_lt : ((-9 : Int32) < 0) := by decide
theorem m9_ne {k : Nat} (hk : k < 2 ^ 31) : ¬ (-9 : Int32) = nI k := fun h => absurd (h ▸ m9_lt : nI k < 0) (nI_pos hk)
theorem optI_lt {o : Option Nat} (ho : ∀ v, o = some v → v < 2 ^ 31) : optI o < 0 ↔ o = none := by
  cases o with
  | none => exact ⟨fun _ => rfl, fun _ => m9_lt⟩
  | some v => exact ⟨fun h => absurd h (nI_pos (ho v rfl)), fun h => by cases h⟩
theorem stF_eq {c : ZCty} {p s a q : Nat} (hs : s ≤ 8) : stF c p s a q = nI s ↔ dst c s p q = some s := by
  unfold stF
  cases h : dst c s p q with
  | some v =>
    have := (dst_le h).1
    show nI v = nI s ↔ _
    rw [nI_eq (by omega) (by omega)]
    simp
  | none =>
    show (if _ then _ else _) = _ ↔ _
    split
    · rw [nI_eq (by omega) (by omega)]
      simp
    · exact ⟨fun h => absurd h (m9_ne (by omega)), fun h => by cases h⟩
/-- with those below b looked at from a -/
def stG (c : ZCty) (p s a b q : Nat) : Int32 := if q < b then stF c p s (a + 1) q else stF c p s a q
theorem stF_lt {c : ZCty} {p s a q : Nat} (hs : s ≤ 8) : stF c p s a q < 0 ↔ dst c s p q = none ∧ zany a (fun i => decide (dst c s p i = some s) && kinB c i q) = false := by
  unfold stF
  cases h : dst c s p q with
  | some v =>
    have := (dst_le h).1
    exact ⟨fun h => absurd h (nI_pos (n := v) (by omega)), fun h => by cases h.1⟩
  | none =>
    show (if _ then _ else _) < _ ↔ _
    split
    · rename_i e
      exact ⟨fun h => absurd h (nI_pos (n := s + 1) (by omega)), fun h => by rw [e] at h; cases h.2⟩
    · rename_i e
      exact ⟨fun _ => ⟨rfl, by simpa using e⟩, fun _ => m9_lt⟩
theorem stF_nx {c : ZCty} {p s a q : Nat} (h : dst c s p a ≠ some s) : stF c p s (a + 1) q = stF c p s a q := by
  unfold stF
  rw [zany]
  simp [h]
theorem stF_nk {c : ZCty} {p s a q : Nat} (h : kinB c a q = false) : stF c p s (a + 1) q = stF c p s a q := by
  unfold stF
  rw [zany]
  simp [h]
theorem stF_ge {c : ZCty} {p s a q : Nat} (hs : s ≤ 8) (h : ¬ stF c p s a q < 0) : stF c p s (a + 1) q = stF c p s a q := by
  rw [stF_lt hs] at h
  unfold stF
  cases e : dst c s p q with
  | some v => rfl
  | none =>
    have : zany a (fun i => decide (dst c s p i = some s) && kinB c i q) = true := by
      cases z : zany a (fun i => decide (dst c s p i = some s) && kinB c i q)
      · exact absurd ⟨e, z⟩ h
      · rfl
    rw [zany, this]
    rfl
theorem stF_set {c : ZCty} {p s a q : Nat} (hs : s ≤ 8) (h : stF c p s a q < 0) (ha : dst c s p a = some s) (hq : kinB c a q = true) : stF c p s (a + 1) q = nI (s + 1) := by
  have h := (stF_lt hs).mp h
  unfold stF
  rw [h.1, zany]
  simp [ha, hq]
section
variable {M : ZMem} {c : ZCty} {d : Nat}
theorem x7_findSteps {p : Nat} (hA : zAm M c) (hk : zOk c) (hp : p < yN c) : ZFv mdX7_findSteps (d + 2) [.ref 90, .int (nI p)] M (fun M' => (∀ q, q < 8 → M' 103 q = optI (dst c 8 p q)) ∧ zFr [103] [] M M') := by
  have hn := hk.1
  have up : ∀ {M1 : ZMem} {k : Nat} {v : Int32}, zFr [103] [] M M1 → zFr [103] [] M (zup M1 103 k v) := fun h => h.tr (zFr.up (by decide) (by decide))
  have hA1 : ∀ {M1 : ZMem}, zFr [103] [] M M1 → zAm M1 c := fun h => hA.same h (by simp; omega) (by simp)
  have inner : ∀ s, s < 8 → ∀ a, a < yN c → dst c s p a = some s → ∀ r b M1, b + r = yN c → zFr [103] [] M M1 → (∀ q, q < 8 → M1 103 q = stG c p s a b q) →
      (∀ M2, zFr [103] [] M M2 → (∀ q, q < 8 → M2 103 q = stF c p s (a + 1) q) → ZV mdX7_findSteps (d + 2) (fun v M' => v = none ∧ ((∀ q, q < 8 → M' 103 q = optI (dst c 8 p q)) ∧ zFr [103] [] M M')) 118 [some (.ref 90), some (.int (nI p)), some (.int (nI s)), some (.int (nI a)), none] [] M2) →
      ZV mdX7_findSteps (d + 2) (fun v M' => v = none ∧ ((∀ q, q < 8 → M' 103 q = optI (dst c 8 p q)) ∧ zFr [103] [] M M')) 63 [some (.ref 90), some (.int (nI p)), some (.int (nI s)), some (.int (nI a)), some (.int (nI b))] [] M1 := by
    intro s hs a ha hda r
    induction r with
    | zero =>
      intro b M1 e hf h1 kk
      have e : b = yN c := by omega
      subst e
      have hN := (hA1 hf).1
      refine zv_iload (pc' := 65) dX7_findSteps_63 rfl rfl ?_
      refine zv_aload_n (pc' := 66) dX7_findSteps_65 rfl rfl ?_
      refine zv_getIE (pc' := 69) dX7_findSteps_66 rfl flX7_65 (by first | rfl | assumption) rfl (by first | exact hN | rfl) ?_
      refine zv_icmp_ge (pc' := 72) (tgt := 118) dX7_findSteps_69 rfl rfl (fun _ => ?_) (fun hcc => absurd (Int32.le_refl _) hcc)
      refine zv_fg [4] ?_
      refine kk M1 hf (fun q hq => ?_)
      rw [h1 q hq, stG]
      split
      · rfl
      · rename_i hlt
        refine (stF_nk ?_).symm
        cases e : kinB c a q
        · rfl
        · exact absurd (kin_lt hk e).2 hlt
    | succ r ih =>
      intro b M1 e hf h1 kk
      have hN := (hA1 hf).1
      have hb : M1 103 b = stF c p s a b := by rw [h1 b (by omega), stG, if_neg (by omega)]
      have nx : ∀ v, v = stF c p s (a + 1) b → ZV mdX7_findSteps (d + 2) (fun v M' => v = none ∧ ((∀ q, q < 8 → M' 103 q = optI (dst c 8 p q)) ∧ zFr [103] [] M M')) 111 [some (.ref 90), some (.int (nI p)), some (.int (nI s)), some (.int (nI a)), some (.int (nI b))] [.int v, .int (nI b), .ref 103] M1 := by
        intro v ev
        refine zv_iastoreN (pc' := 112) dX7_findSteps_111 rfl (by first | rfl | assumption) (by decide) (by omega) ?_
        refine zv_iinc (w := nI 1) (pc' := 115) dX7_findSteps_112 rfl rfl (by decide) (by decide) ?_
        refine zv_goto (pc' := 63) dX7_findSteps_115 rfl ?_
        rw [nI_add]
        refine ih (b + 1) _ (by omega) (up hf) (fun q hq => ?_) kk
        rw [zup_eq, ev]
        by_cases eq : q = b
        · rw [eq, upd_s, stG, if_pos (by omega)]
        · rw [upd_n eq, h1 q hq, stG, stG]
          by_cases hqb : q < b
          · rw [if_pos hqb, if_pos (by omega)]
          · rw [if_neg hqb, if_neg (by omega)]
      refine zv_iload (pc' := 65) dX7_findSteps_63 rfl rfl ?_
      refine zv_aload_n (pc' := 66) dX7_findSteps_65 rfl rfl ?_
      refine zv_getIE (pc' := 69) dX7_findSteps_66 rfl flX7_65 (by first | rfl | assumption) rfl (by first | exact hN | exact hb | rfl) ?_
      refine zv_icmp_ge (pc' := 72) (tgt := 118) dX7_findSteps_69 rfl rfl (fun hcc => absurd hcc (nI_ge (by omega) (by omega))) (fun _ => ?_)
      refine zv_aload_n (pc' := 73) dX7_findSteps_72 rfl rfl ?_
      refine zv_getR (pc' := 76) dX7_findSteps_73 rfl flX7_50 (by first | rfl | assumption) rfl ?_
      refine zv_iload (pc' := 78) dX7_findSteps_76 rfl rfl ?_
      refine zv_aload_n (pc' := 79) dX7_findSteps_78 rfl rfl ?_
      refine zv_getR (pc' := 82) dX7_findSteps_79 rfl flX7_50 (by first | rfl | assumption) rfl ?_
      refine zv_iload (pc' := 84) dX7_findSteps_82 rfl rfl ?_
      refine zv_ialoadE (pc' := 85) dX7_findSteps_84 rfl (by first | rfl | assumption) (by decide) (by omega) (by first | exact hN | exact hb | rfl) ?_
      have keep : stF c p s (a + 1) b = stF c p s a b → ZV mdX7_findSteps (d + 2) (fun v M' => v = none ∧ ((∀ q, q < 8 → M' 103 q = optI (dst c 8 p q)) ∧ zFr [103] [] M M')) 104 [some (.ref 90), some (.int (nI p)), some (.int (nI s)), some (.int (nI a)), some (.int (nI b))] [.int (nI b), .ref 103] M1 := by
        intro ev
        refine zv_aload_n (pc' := 105) dX7_findSteps_104 rfl rfl ?_
        refine zv_getR (pc' := 108) dX7_findSteps_105 rfl flX7_50 (by first | rfl | assumption) rfl ?_
        refine zv_iload (pc' := 110) dX7_findSteps_108 rfl rfl ?_
        refine zv_ialoadE (pc' := 111) dX7_findSteps_110 rfl (by first | rfl | assumption) (by decide) (by omega) (by first | exact hN | exact hb | rfl) ?_
        exact nx _ ev.symm
      refine zv_if_ge (pc' := 88) (tgt := 104) dX7_findSteps_85 rfl rfl ?_ ?_
      · intro h
        exact keep (stF_ge (by omega) (Int32.not_lt.mpr h))
      · intro h
        have h := Int32.not_le.mp h
        refine zv_aload_n (pc' := 89) dX7_findSteps_88 rfl rfl ?_
        refine zv_iload_n (pc' := 90) dX7_findSteps_89 rfl rfl ?_
        refine zv_iload (pc' := 92) dX7_findSteps_90 rfl rfl ?_
        refine zv_cV2_pi (pc' := 95) dX7_findSteps_92 rfl lkX7_79 (by first | rfl | assumption) rfl (Nat.le_of_ble_eq_true rfl) (x7_isKin (hA1 hf) hk ha (by omega)) ?_
        refine zv_if_eq (pc' := 98) (tgt := 104) dX7_findSteps_95 rfl rfl ?_ ?_
        · intro h2
          exact keep (stF_nk (zb_0.mp h2))
        · intro h2
          refine zv_iload_n (pc' := 99) dX7_findSteps_98 rfl rfl ?_
          refine zv_iconst (v := nI 1) (pc' := 100) dX7_findSteps_99 rfl (by decide) ?_
          refine zv_iadd (pc' := 101) dX7_findSteps_100 rfl ?_
          refine zv_top (nI_add _ _) ?_
          refine zv_goto (pc' := 111) dX7_findSteps_101 rfl ?_
          exact nx _ (stF_set (by omega) h hda (zb_ne.mp h2)).symm
  have mid : ∀ s, s < 8 → ∀ r a M1, a + r = yN c → zFr [103] [] M M1 → (∀ q, q < 8 → M1 103 q = stF c p s a q) →
      (∀ M2, zFr [103] [] M M2 → (∀ q, q < 8 → M2 103 q = optI (dst c (s + 1) p q)) → ZV mdX7_findSteps (d + 2) (fun v M' => v = none ∧ ((∀ q, q < 8 → M' 103 q = optI (dst c 8 p q)) ∧ zFr [103] [] M M')) 124 [some (.ref 90), some (.int (nI p)), some (.int (nI s)), none, none] [] M2) →
      ZV mdX7_findSteps (d + 2) (fun v M' => v = none ∧ ((∀ q, q < 8 → M' 103 q = optI (dst c 8 p q)) ∧ zFr [103] [] M M')) 39 [some (.ref 90), some (.int (nI p)), some (.int (nI s)), some (.int (nI a)), none] [] M1 := by
    intro s hs r
    induction r with
    | zero =>
      intro a M1 e hf h1 kk
      have e : a = yN c := by omega
      subst e
      have hN := (hA1 hf).1
      refine zv_iload_n (pc' := 40) dX7_findSteps_39 rfl rfl ?_
      refine zv_aload_n (pc' := 41) dX7_findSteps_40 rfl rfl ?_
      refine zv_getIE (pc' := 44) dX7_findSteps_41 rfl flX7_65 (by first | rfl | assumption) rfl (by first | exact hN | rfl) ?_
      refine zv_icmp_ge (pc' := 47) (tgt := 124) dX7_findSteps_44 rfl rfl (fun _ => ?_) (fun hcc => absurd (Int32.le_refl _) hcc)
      refine zv_fg [3] ?_
      exact kk M1 hf (fun q hq => by rw [h1 q hq, stF_n hk])
    | succ r ih =>
      intro a M1 e hf h1 kk
      have hN := (hA1 hf).1
      have nx : ∀ M2, zFr [103] [] M M2 → (∀ q, q < 8 → M2 103 q = stF c p s (a + 1) q) → ZV mdX7_findSteps (d + 2) (fun v M' => v = none ∧ ((∀ q, q < 8 → M' 103 q = optI (dst c 8 p q)) ∧ zFr [103] [] M M')) 118 [some (.ref 90), some (.int (nI p)), some (.int (nI s)), some (.int (nI a)), none] [] M2 := by
        intro M2 hf2 h2
        refine zv_iinc (w := nI 1) (pc' := 121) dX7_findSteps_118 rfl rfl (by decide) (by decide) ?_
        refine zv_goto (pc' := 39) dX7_findSteps_121 rfl ?_
        rw [nI_add]
        exact ih (a + 1) M2 (by omega) hf2 h2 kk
      refine zv_iload_n (pc' := 40) dX7_findSteps_39 rfl rfl ?_
      refine zv_aload_n (pc' := 41) dX7_findSteps_40 rfl rfl ?_
      refine zv_getIE (pc' := 44) dX7_findSteps_41 rfl flX7_65 (by first | rfl | assumption) rfl (by first | exact hN | exact h1 _ (by omega) | rfl) ?_
      refine zv_icmp_ge (pc' := 47) (tgt := 124) dX7_findSteps_44 rfl rfl (fun hcc => absurd hcc (nI_ge (by omega) (by omega))) (fun _ => ?_)
      refine zv_aload_n (pc' := 48) dX7_findSteps_47 rfl rfl ?_
      refine zv_getR (pc' := 51) dX7_findSteps_48 rfl flX7_50 (by first | rfl | assumption) rfl ?_
      refine zv_iload_n (pc' := 52) dX7_findSteps_51 rfl rfl ?_
      refine zv_ialoadE (pc' := 53) dX7_findSteps_52 rfl (by first | rfl | assumption) (by decide) (by omega) (by first | exact hN | exact h1 _ (by omega) | rfl) ?_
      refine zv_iload_n (pc' := 54) dX7_findSteps_53 rfl rfl ?_
      refine zv_icmp_eq (pc' := 57) (tgt := 60) dX7_findSteps_54 rfl rfl ?_ ?_
      · intro h
        have h := (stF_eq (by omega)).mp h
        refine zv_iconst (v := nI 0) (pc' := 61) dX7_findSteps_60 rfl (by decide) ?_
        refine zv_istore (pc' := 63) dX7_findSteps_61 rfl (by decide) ?_
        refine inner s hs a (by omega) h (yN c) 0 M1 (by omega) hf (fun q hq => ?_) nx
        rw [h1 q hq, stG, if_neg (by omega)]
      · intro h
        have h := mt (stF_eq (c := c) (p := p) (a := a) (q := a) (s := s) (by omega)).mpr h
        refine zv_goto (pc' := 118) dX7_findSteps_57 rfl ?_
        exact nx M1 hf (fun q hq => by rw [h1 q hq, stF_nx h])
  have outer : ∀ r s M1, s + r = 8 → zFr [103] [] M M1 → (∀ q, q < 8 → M1 103 q = optI (dst c s p q)) → ZV mdX7_findSteps (d + 2) (fun v M' => v = none ∧ ((∀ q, q < 8 → M' 103 q = optI (dst c 8 p q)) ∧ zFr [103] [] M M')) 31 [some (.ref 90), some (.int (nI p)), some (.int (nI s)), none, none] [] M1 := by
    intro r
    induction r with
    | zero =>
      intro s M1 e hf h1
      have e : s = 8 := by omega
      subst e
      refine zv_iload_n (pc' := 32) dX7_findSteps_31 rfl rfl ?_
      refine zv_bipush (v := nI 8) (pc' := 34) dX7_findSteps_32 rfl (by decide) ?_
      refine zv_icmp_ge (pc' := 37) (tgt := 130) dX7_findSteps_34 rfl rfl (fun _ => ?_) (fun hcc => absurd (Int32.le_refl _) hcc)
      refine zv_vret dX7_findSteps_130 rfl ?_
      exact ⟨rfl, h1, hf⟩
    | succ r ih =>
      intro s M1 e hf h1
      refine zv_iload_n (pc' := 32) dX7_findSteps_31 rfl rfl ?_
      refine zv_bipush (v := nI 8) (pc' := 34) dX7_findSteps_32 rfl (by decide) ?_
      refine zv_icmp_ge (pc' := 37) (tgt := 130) dX7_findSteps_34 rfl rfl (fun hcc => absurd hcc (nI_ge (by omega) (by omega))) (fun _ => ?_)
      refine zv_iconst (v := nI 0) (pc' := 38) dX7_findSteps_37 rfl (by decide) ?_
      refine zv_istore_n (pc' := 39) dX7_findSteps_38 rfl (by decide) ?_
      refine mid s (by omega) (yN c) 0 M1 (by omega) hf (fun q hq => by rw [h1 q hq, stF_0]) (fun M2 hf2 h2 => ?_)
      refine zv_iinc (w := nI 1) (pc' := 127) dX7_findSteps_124 rfl rfl (by decide) (by decide) ?_
      refine zv_goto (pc' := 31) dX7_findSteps_127 rfl ?_
      rw [nI_add]
      exact ih (s + 1) M2 (by omega) hf2 h2
  have init : ∀ r k M1, k + r = 8 → zFr [103] [] M M1 → (∀ q, q < k → M1 103 q = -9) → ZV mdX7_findSteps (d + 2) (fun v M' => v = none ∧ ((∀ q, q < 8 → M' 103 q = optI (dst c 8 p q)) ∧ zFr [103] [] M M')) 2 [some (.ref 90), some (.int (nI p)), some (.int (nI k)), none, none] [] M1 := by
    intro r
    induction r with
    | zero =>
      intro k M1 e hf h1
      have e : k = 8 := by omega
      subst e
      refine zv_iload_n (pc' := 3) dX7_findSteps_2 rfl rfl ?_
      refine zv_bipush (v := nI 8) (pc' := 5) dX7_findSteps_3 rfl (by decide) ?_
      refine zv_icmp_ge (pc' := 8) (tgt := 22) dX7_findSteps_5 rfl rfl (fun _ => ?_) (fun hcc => absurd (Int32.le_refl _) hcc)
      refine zv_aload_n (pc' := 23) dX7_findSteps_22 rfl rfl ?_
      refine zv_getR (pc' := 26) dX7_findSteps_23 rfl flX7_50 (by first | rfl | assumption) rfl ?_
      refine zv_iload_n (pc' := 27) dX7_findSteps_26 rfl rfl ?_
      refine zv_iconst (v := nI 0) (pc' := 28) dX7_findSteps_27 rfl (by decide) ?_
      refine zv_iastoreN (pc' := 29) dX7_findSteps_28 rfl (by first | rfl | assumption) (by decide) (by omega) ?_
      refine zv_iconst (v := nI 0) (pc' := 30) dX7_findSteps_29 rfl (by decide) ?_
      refine zv_istore_n (pc' := 31) dX7_findSteps_30 rfl (by decide) ?_
      refine outer 8 0 _ (by omega) (up hf) (fun q hq => ?_)
      rw [zup_eq]
      by_cases eq : q = p
      · rw [eq, upd_s, show dst c 0 p p = some 0 from by simp [dst, zfst, rch]]; rfl
      · rw [upd_n eq, h1 q hq, show dst c 0 p q = none from by simp [dst, zfst, rch, eq]]; rfl
    | succ r ih =>
      intro k M1 e hf h1
      refine zv_iload_n (pc' := 3) dX7_findSteps_2 rfl rfl ?_
      refine zv_bipush (v := nI 8) (pc' := 5) dX7_findSteps_3 rfl (by decide) ?_
      refine zv_icmp_ge (pc' := 8) (tgt := 22) dX7_findSteps_5 rfl rfl (fun hcc => absurd hcc (nI_ge (by omega) (by omega))) (fun _ => ?_)
      refine zv_aload_n (pc' := 9) dX7_findSteps_8 rfl rfl ?_
      refine zv_getR (pc' := 12) dX7_findSteps_9 rfl flX7_50 (by first | rfl | assumption) rfl ?_
      refine zv_iload_n (pc' := 13) dX7_findSteps_12 rfl rfl ?_
      refine zv_bipush (v := (-9 : Int32)) (pc' := 15) dX7_findSteps_13 rfl (by decide) ?_
      refine zv_iastoreN (pc' := 16) dX7_findSteps_15 rfl (by first | rfl | assumption) (by decide) (by omega) ?_
      refine zv_iinc (w := nI 1) (pc' := 19) dX7_findSteps_16 rfl rfl (by decide) (by decide) ?_
      refine zv_goto (pc' := 2) dX7_findSteps_19 rfl ?_
      rw [nI_add]
      refine ih (k + 1) _ (by omega) (up hf) (fun q hq => ?_)
      rw [zup_eq]
      by_cases eq : q = k
      · rw [eq, upd_s]
      · rw [upd_n eq]; exact h1 q (by omega)
  refine zex_intro (L := [some (.ref 90), some (.int (nI p)), none, none, none]) (by decide) (Nat.le_of_ble_eq_true rfl) rfl ?_
  refine zv_iconst (v := nI 0) (pc' := 1) dX7_findSteps_0 rfl (by decide) ?_
  refine zv_istore_n (pc' := 2) dX7_findSteps_1 rfl (by decide) ?_
  exact init 8 0 M (by omega) zFr.rf (fun q hq => by omega)
end
