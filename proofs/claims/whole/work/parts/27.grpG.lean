/-! kin, removed, farthest, groups -/
def kiV (c : ZCty) (p : Nat) : Nat → Int32
  | 0 => nI (zm 8 (kinB c p))
  | _ => nI (zm 8 (rrB c p))
def sp_kin (x y : Int32) (s : ZS) : Int32 × ZS := zans (fiN (nbN (yN (sC s)) x) (otN y 1) 0) s (kiV (sC s) (pN x) (pN y)) s
def rmO (c : ZCty) (p q : Nat) : Option Nat := zfst (yN c - 1) 1 (fun k => rch c k p q)
def sp_removed (x y : Int32) (s : ZS) : Int32 × ZS := zans (twN (yN (sC s)) x y) s (optI (rmO (sC s) (pN x) (pN y))) s
def frP (c : ZCty) (a b : Nat) (t : Int32 × Int32) : Int32 × Int32 := if t.1 < optI (rmO c a b) then (optI (rmO c a b), nI (10 * a + b)) else t
def frI (c : ZCty) (a : Nat) (t : Int32 × Int32) : Int32 × Int32 := zlf (yN c - (a + 1)) (a + 1) (frP c a) t
def frS (c : ZCty) : Int32 × Int32 := zlf (yN c) 0 (frI c) (-9, -9)
def frW (t : Int32 × Int32) : Nat → Int32
  | 0 => t.2
  | _ => t.1
def sp_farthest (x : Int32) (s : ZS) : Int32 × ZS := zans (otN x 1) s (frW (frS (sC s)) (pN x)) s
def gpN (c : ZCty) (k : Nat) : Nat := zcn k (fun a => !zany a (fun i => rrB c i a))
def mxN (c : ZCty) : Nat → Nat
  | 0 => 0
  | k + 1 => if mxN c k < zcn 8 (rrB c k) then zcn 8 (rrB c k) else mxN c k
def t3 (c : ZCty) (a b e : Nat) : Nat := if (kinB c a b && kinB c b e && kinB c a e) = true then 1 else 0
def i3 (c : ZCty) (a b e : Nat) : Nat := if a < b ∧ b < e then t3 c a b e else 0
def thN (c : ZCty) : Nat := zsum (yN c) (fun a => zsum (yN c) (fun b => zsum (yN c) (fun e => i3 c a b e)))
def coP (c : ZCty) (a b : Nat) : Nat := if kinB c a b = true then zcn 8 (fun e => kinB c a e && kinB c b e) else 0
def coN (c : ZCty) : Nat := zsum (yN c) (fun a => zsum (yN c) (fun b => coP c a b))
def grW (c : ZCty) : Nat → Int32
  | 0 => nI (gpN c (yN c))
  | 1 => nI (mxN c (yN c))
  | _ => nI (thN c)
def sp_groups (x : Int32) (s : ZS) : Int32 × ZS := zans (otN x 2) s (grW (sC s) (pN x)) s
theorem mxN_le {c : ZCty} : ∀ k, mxN c k ≤ 8
  | 0 => by simp [mxN]
  | k + 1 => by
    have := mxN_le (c := c) k
    have := zcn_le (rrB c k) 8
    rw [mxN]; split <;> omega
theorem dst_rem {c : ZCty} (hk : zOk c) {p q : Nat} (hp : p < yN c) (hpq : p ≠ q) : dst c 8 p q = rmO c p q := by
  have hn := hk.1
  cases h : dst c 8 p q with
  | none =>
    have h0 := dst_none.mp h
    refine (zfst_none.mpr (fun j h1 h2 => ?_)).symm
    cases e : rch c j p q
    · rfl
    · rw [rch_le e (show j ≤ 8 by omega)] at h0; cases h0
  | some v =>
    have hv := zfst_some.mp h
    have h0 : v ≠ 0 := by
      intro e
      have := hv.2.2.1
      rw [e] at this
      simp only [rch, decide_eq_true_eq] at this
      exact hpq this.symm
    have h1 : v < yN c := by
      rcases Nat.lt_or_ge v (yN c) with e | e
      · exact e
      · have h2 := hv.2.2.1
        have h3 := hv.2.2.2 (yN c - 1) (by omega) (by omega)
        simp only [rch_all hk hp (show yN c - 1 ≤ v by omega)] at h2
        rw [h2] at h3; cases h3
    have h2 : rmO c p q = some v := zfst_some.mpr ⟨by omega, by omega, hv.2.2.1, fun j g1 g2 => hv.2.2.2 j (by omega) g2⟩
    exact h2.symm
theorem rmO_lt {c : ZCty} (hk : zOk c) {p q v : Nat} (h : rmO c p q = some v) : v < 8 := by
  have := zfst_some.mp h
  have := hk.1
  omega
theorem optI_m9 {o : Option Nat} (ho : ∀ v, o = some v → v < 8) : ¬ optI o < -9 := by
  cases o with
  | none => exact (by decide : ¬ (-9 : Int32) < -9)
  | some v => exact (by decide +kernel : ∀ v, v < 8 → ¬ nI v < (-9 : Int32)) v (ho v rfl)
theorem frP_ge {c : ZCty} (hk : zOk c) {a b : Nat} {t : Int32 × Int32} (h : ¬ t.1 < -9) : ¬ (frP c a b t).1 < -9 := by
  unfold frP
  split
  · exact optI_m9 (fun v hv => rmO_lt hk hv)
  · exact h
/-! sums -/
theorem zsum_z {f : Nat → Nat} : ∀ {k : Nat}, (∀ j, j < k → f j = 0) → zsum k f = 0
  | 0, _ => rfl
  | k + 1, h => by rw [zsum, zsum_z (fun j hj => h j (by omega)), h k (by omega)]
theorem zsum_add {f g : Nat → Nat} : ∀ k, zsum k (fun j => f j + g j) = zsum k f + zsum k g
  | 0 => rfl
  | k + 1 => by rw [zsum, zsum, zsum, zsum_add k]; omega
theorem zsum_swap {f : Nat → Nat → Nat} {m : Nat} : ∀ n, zsum n (fun a => zsum m (fun b => f a b)) = zsum m (fun b => zsum n (fun a => f a b))
  | 0 => by
    show 0 = zsum m (fun _ => 0)
    rw [zsum_z (fun _ _ => rfl)]
  | n + 1 => by
    show zsum n _ + _ = zsum m (fun b => zsum n (fun a => f a b) + f n b)
    rw [zsum_swap n, zsum_add]
theorem zsum_cut {f : Nat → Nat} {n : Nat} : ∀ {m : Nat}, n ≤ m → (∀ j, n ≤ j → f j = 0) → zsum m f = zsum n f
  | 0, h, _ => by rw [show n = 0 by omega]
  | m + 1, h, hz => by
    by_cases e : n = m + 1
    · rw [e]
    · rw [zsum, zsum_cut (m := m) (by omega) hz, hz m (by omega)]; rfl
theorem zcn_sum {f : Nat → Bool} : ∀ k, zcn k f = zsum k (fun j => if f j = true then 1 else 0)
  | 0 => rfl
  | k + 1 => by rw [zcn, zsum, zcn_sum k]
def s3 (n : Nat) (f : Nat → Nat → Nat → Nat) : Nat := zsum n (fun a => zsum n (fun b => zsum n (fun e => f a b e)))
theorem s3_add {n : Nat} {f g : Nat → Nat → Nat → Nat} : s3 n (fun a b e => f a b e + g a b e) = s3 n f + s3 n g := by
  unfold s3
  rw [← zsum_add]
  refine zsum_ext (fun a _ => ?_)
  rw [← zsum_add]
  exact zsum_ext (fun b _ => zsum_add n)
theorem s3_ext {n : Nat} {f g : Nat → Nat → Nat → Nat} (h : ∀ a b e, f a b e = g a b e) : s3 n f = s3 n g := by
  rw [show f = g from funext (fun a => funext (fun b => funext (fun e => h a b e)))]
theorem s3_12 {n : Nat} (f : Nat → Nat → Nat → Nat) : s3 n (fun a b e => f b a e) = s3 n f := by
  unfold s3
  exact zsum_swap (f := fun a b => zsum n (fun e => f b a e)) n
theorem s3_23 {n : Nat} (f : Nat → Nat → Nat → Nat) : s3 n (fun a b e => f a e b) = s3 n f := by
  unfold s3
  exact zsum_ext (fun a _ => zsum_swap (f := fun b e => f a e b) n)
theorem t3_s12 {c : ZCty} (hk : zOk c) {a b e : Nat} : t3 c b a e = t3 c a b e := by
  unfold t3
  rw [kin_sym hk (p := b) (q := a)]
  cases kinB c a b <;> cases kinB c a e <;> cases kinB c b e <;> rfl
theorem t3_s23 {c : ZCty} (hk : zOk c) {a b e : Nat} : t3 c a e b = t3 c a b e := by
  unfold t3
  rw [kin_sym hk (p := e) (q := b)]
  cases kinB c a b <;> cases kinB c a e <;> cases kinB c b e <;> rfl
theorem t3_six {c : ZCty} (hk : zOk c) (a b e : Nat) : t3 c a b e = i3 c a b e + i3 c a e b + (i3 c b a e + i3 c b e a) + (i3 c e a b + i3 c e b a) := by
  have q1 : t3 c a e b = t3 c a b e := t3_s23 hk
  have q2 : t3 c b a e = t3 c a b e := t3_s12 hk
  have q3 : t3 c b e a = t3 c a b e := (t3_s23 hk).trans q2
  have q4 : t3 c e a b = t3 c a b e := (t3_s12 hk).trans q1
  have q5 : t3 c e b a = t3 c a b e := (t3_s23 hk).trans q4
  have z : (a = b ∨ b = e ∨ a = e) → t3 c a b e = 0 := by
    rintro (rfl | rfl | rfl) <;> simp [t3, kin_irr hk]
  unfold i3
  rw [q1, q2, q3, q4, q5]
  by_cases h : a = b ∨ b = e ∨ a = e
  · rw [z h]; simp
  · generalize t3 c a b e = t
    rcases (show (a < b ∧ b < e) ∨ (a < e ∧ e < b) ∨ (b < a ∧ a < e) ∨ (b < e ∧ e < a) ∨ (e < a ∧ a < b) ∨ (e < b ∧ b < a) by omega) with h | h | h | h | h | h
    · rw [if_pos h, if_neg (by omega), if_neg (by omega), if_neg (by omega), if_neg (by omega), if_neg (by omega)]; omega
    · rw [if_neg (by omega), if_pos h, if_neg (by omega), if_neg (by omega), if_neg (by omega), if_neg (by omega)]; omega
    · rw [if_neg (by omega), if_neg (by omega), if_pos h, if_neg (by omega), if_neg (by omega), if_neg (by omega)]; omega
    · rw [if_neg (by omega), if_neg (by omega), if_neg (by omega), if_pos h, if_neg (by omega), if_neg (by omega)]; omega
    · rw [if_neg (by omega), if_neg (by omega), if_neg (by omega), if_neg (by omega), if_pos h, if_neg (by omega)]; omega
    · rw [if_neg (by omega), if_neg (by omega), if_neg (by omega), if_neg (by omega), if_neg (by omega), if_pos h]; omega
theorem coN_t3 {c : ZCty} (hk : zOk c) : coN c = s3 (yN c) (t3 c) := by
  unfold coN s3
  refine zsum_ext (fun a _ => zsum_ext (fun b _ => ?_))
  unfold coP
  split
  · rename_i h
    rw [zcn_sum, zsum_cut (n := yN c) hk.1 (fun j hj => ?_)]
    · refine zsum_ext (fun e _ => ?_)
      unfold t3
      rw [h]
      cases kinB c a e <;> cases kinB c b e <;> rfl
    · cases e : kinB c a j
      · simp
      · have := (kin_lt hk e).2; omega
  · rename_i h
    refine (zsum_z (fun e _ => ?_)).symm
    unfold t3
    rw [show kinB c a b = false from by simpa using h]
    rfl
theorem co_six {c : ZCty} (hk : zOk c) : coN c = 6 * thN c := by
  have r1 : s3 (yN c) (i3 c) = thN c := rfl
  have r2 : s3 (yN c) (fun a b e => i3 c a e b) = thN c := s3_23 _
  have r3 : s3 (yN c) (fun a b e => i3 c b a e) = thN c := s3_12 _
  have r4 : s3 (yN c) (fun a b e => i3 c b e a) = thN c := (s3_12 (fun a b e => i3 c a e b)).trans r2
  have r5 : s3 (yN c) (fun a b e => i3 c e a b) = thN c := (s3_23 (fun a b e => i3 c b a e)).trans r3
  have r6 : s3 (yN c) (fun a b e => i3 c e b a) = thN c := (s3_23 (fun a b e => i3 c b e a)).trans r4
  rw [coN_t3 hk, s3_ext (t3_six hk), s3_add, s3_add, s3_add, s3_add, s3_add]
  rw [r1, r2, r3, r4, r5, r6]
  omega
theorem coP_le {c : ZCty} {a b : Nat} : coP c a b ≤ 8 := by
  unfold coP
  split
  · exact zcn_le _ 8
  · omega
theorem zsum_mono {f : Nat → Nat} {k : Nat} : ∀ {m : Nat}, k ≤ m → zsum k f ≤ zsum m f
  | 0, h => by rw [show k = 0 by omega]; exact Nat.le_refl _
  | m + 1, h => by
    by_cases e : k = m + 1
    · rw [e]; exact Nat.le_refl _
    · have := zsum_mono (f := f) (k := k) (m := m) (by omega)
      rw [zsum]; omega
theorem zany_rr {c : ZCty} (hk : zOk c) {k : Nat} (hkn : k < yN c) (h : zany k (fun i => rrB c i k) = true) : (fun j => zany (k + 1) (fun i => rrB c i j)) = (fun j => zany k (fun i => rrB c i j)) := by
  funext j
  rw [zany]
  cases e : zany k (fun i => rrB c i j)
  · cases e2 : rrB c k j
    · rfl
    · obtain ⟨i, hi, h1⟩ := zany_iff.mp h
      have : zany k (fun i => rrB c i j) = true := zany_iff.mpr ⟨i, hi, rr_tr hk (by omega) h1 e2⟩
      rw [e] at this; cases this
  · rfl
theorem rr_low {c : ZCty} (hk : zOk c) {a : Nat} (ha : a < 8) : zm 8 (fun j => rrB c a j && decide (j < a)) = 0 ↔ zany a (fun i => rrB c i a) = false := by
  rw [zm_0]
  constructor
  · intro h
    cases e : zany a (fun i => rrB c i a)
    · rfl
    · obtain ⟨i, hi, h1⟩ := zany_iff.mp e
      have := h i (by omega)
      rw [rr_sym hk, h1] at this
      simp [hi] at this
  · intro h j hj
    cases e : (rrB c a j && decide (j < a))
    · rfl
    · simp only [Bool.and_eq_true, decide_eq_true_eq] at e
      have : zany a (fun i => rrB c i a) = true := zany_iff.mpr ⟨j, e.2, (rr_sym hk).trans e.1⟩
      rw [h] at this; cases this
theorem zTe.st {M M' : ZMem} {c : ZCty} (hA : zAm M c) (h : zFr [103] [] M M') : zTe M M' c := ⟨hA.same h (by simp; omega) (by simp), h.mono (by simp) (by simp), fun i _ => by rw [h.1 101 (by decide) (by decide)]⟩
section
variable {M : ZMem} {c : ZCty} {d : Nat}
theorem x7_reached {p : Nat} (hA : zAm M c) (hk : zOk c) (hp : p < yN c) : ZFi mdX7_reached (d + 3) [.ref 90, .int (nI p)] M (fun r M' => r = nI (zm 8 (rrB c p)) ∧ zFr [103] [] M M') := by
  have hn := hk.1
  refine zex_intro (L := [some (.ref 90), some (.int (nI p)), none, none]) (by decide) (Nat.le_of_ble_eq_true rfl) rfl ?_
  refine zv_aload_n (pc' := 1) dX7_reached_0 rfl rfl ?_
  refine zv_iload_n (pc' := 2) dX7_reached_1 rfl rfl ?_
  refine zv_cV1_fv (pc' := 5) dX7_reached_2 rfl lkX7_214 (by first | rfl | assumption) rfl (Nat.le_of_ble_eq_true rfl) (x7_findSteps hA hk hp) ?_
  rintro M1 ⟨h1, hf⟩
  have hN := (hA.same hf (by simp; omega) (by simp)).1
  have lp : ∀ r k, k + r = yN c → ZV mdX7_reached (d + 3) (fun v M' => ∃ r, v = some (.int r) ∧ (r = nI (zm 8 (rrB c p)) ∧ zFr [103] [] M M')) 9 [some (.ref 90), some (.int (nI p)), some (.int (nI (zm 8 (fun j => decide (j < k) && rrB c p j)))), some (.int (nI k))] [] M1 := by
    intro r
    induction r with
    | zero =>
      intro k e
      have e : k = yN c := by omega
      subst e
      refine zv_iload_n (pc' := 10) dX7_reached_9 rfl rfl ?_
      refine zv_aload_n (pc' := 11) dX7_reached_10 rfl rfl ?_
      refine zv_getIE (pc' := 14) dX7_reached_11 rfl flX7_65 (by first | rfl | assumption) rfl (by first | exact hN | exact h1 _ (by omega) | rfl) ?_
      refine zv_icmp_ge (pc' := 17) (tgt := 42) dX7_reached_14 rfl rfl (fun _ => ?_) (fun hcc => absurd (Int32.le_refl _) hcc)
      refine zv_iload_n (pc' := 43) dX7_reached_42 rfl rfl ?_
      refine zv_iret dX7_reached_43 rfl ?_
      refine ⟨_, rfl, congrArg nI (zm_ext (fun j hj => ?_)), hf⟩
      cases e : rrB c p j
      · simp
      · simp [rch_lt hk hp e]
    | succ r ih =>
      intro k e
      have := ih (k + 1) (by omega)
      have hd : optI (dst c 8 p k) < 0 ↔ rrB c p k = false := by
        rw [optI_lt (fun v hv => by have := (dst_le hv).1; omega), dst_none, rch_all hk hp (by omega)]
      refine zv_iload_n (pc' := 10) dX7_reached_9 rfl rfl ?_
      refine zv_aload_n (pc' := 11) dX7_reached_10 rfl rfl ?_
      refine zv_getIE (pc' := 14) dX7_reached_11 rfl flX7_65 (by first | rfl | assumption) rfl (by first | exact hN | exact h1 _ (by omega) | rfl) ?_
      refine zv_icmp_ge (pc' := 17) (tgt := 42) dX7_reached_14 rfl rfl (fun hcc => absurd hcc (nI_ge (by omega) (by omega))) (fun _ => ?_)
      refine zv_iload_n (pc' := 18) dX7_reached_17 rfl rfl ?_
      refine zv_aload_n (pc' := 19) dX7_reached_18 rfl rfl ?_
      refine zv_getR (pc' := 22) dX7_reached_19 rfl flX7_50 (by first | rfl | assumption) rfl ?_
      refine zv_iload_n (pc' := 23) dX7_reached_22 rfl rfl ?_
      refine zv_ialoadE (pc' := 24) dX7_reached_23 rfl (by first | rfl | assumption) (by decide) (by omega) (by first | exact hN | exact h1 _ (by omega) | rfl) ?_
      refine zv_if_lt (pc' := 27) (tgt := 33) dX7_reached_24 rfl rfl ?_ ?_
      · intro h
        have h := hd.mp h
        refine zv_iconst (v := nI 0) (pc' := 34) dX7_reached_33 rfl (by decide) ?_
        refine zv_ior (pc' := 35) dX7_reached_34 rfl ?_
        rw [show (fun j => decide (j < k + 1) && rrB c p j) = (fun j => decide (j < k) && rrB c p j) from by
          funext j
          by_cases ej : j = k
          · rw [ej, h]; simp
          · rw [show decide (j < k + 1) = decide (j < k) from by simp; omega]] at this
        refine zv_top (show nI (zm 8 (fun j => decide (j < k) && rrB c p j)) ||| nI 0 = nI (zm 8 (fun j => decide (j < k) && rrB c p j)) from Int32.or_zero) ?_
        refine zv_istore_n (pc' := 36) dX7_reached_35 rfl (by decide) ?_
        refine zv_iinc (w := nI 1) (pc' := 39) dX7_reached_36 rfl rfl (by decide) (by decide) ?_
        refine zv_goto (pc' := 9) dX7_reached_39 rfl ?_
        rw [nI_add]
        exact this
      · intro h
        have h : rrB c p k = true := by
          cases e : rrB c p k
          · exact absurd (hd.mpr e) h
          · rfl
        refine zv_iconst (v := nI 1) (pc' := 28) dX7_reached_27 rfl (by decide) ?_
        refine zv_iload_n (pc' := 29) dX7_reached_28 rfl rfl ?_
        refine zv_ishl (pc' := 30) dX7_reached_29 rfl ?_
        refine zv_top (zsh1 k (by omega)) ?_
        refine zv_goto (pc' := 34) dX7_reached_30 rfl ?_
        refine zv_ior (pc' := 35) dX7_reached_34 rfl ?_
        refine zv_top (mk_or1 (by omega)) ?_
        refine zv_istore_n (pc' := 36) dX7_reached_35 rfl (by decide) ?_
        refine zv_iinc (w := nI 1) (pc' := 39) dX7_reached_36 rfl rfl (by decide) (by decide) ?_
        refine zv_goto (pc' := 9) dX7_reached_39 rfl ?_
        rw [nI_add]
        rw [show (fun j => decide (j < k + 1) && rrB c p j) = (fun j => (decide (j < k) && rrB c p j) || decide (j = k)) from by
          funext j
          by_cases ej : j = k
          · rw [ej, h]; simp
          · rw [show decide (j < k + 1) = decide (j < k) from by simp; omega]; simp [ej]] at this
        exact this
  refine zv_iconst (v := nI 0) (pc' := 6) dX7_reached_5 rfl (by decide) ?_
  refine zv_istore_n (pc' := 7) dX7_reached_6 rfl (by decide) ?_
  refine zv_iconst (v := nI 0) (pc' := 8) dX7_reached_7 rfl (by decide) ?_
  refine zv_istore_n (pc' := 9) dX7_reached_8 rfl (by decide) ?_
  have := lp (yN c) 0 (by omega)
  rw [show (fun j => decide (j < 0) && rrB c p j) = (fun _ => false) from by funext j; simp, zm_f] at this
  exact this
theorem x7_threes (hA : zAm M c) (hk : zOk c) : ZPi mdX7_threes (d + 2) [.ref 90] M (nI (thN c)) := by
  have hn := hk.1
  have hN := hA.1
  have l3 : ∀ a, a < yN c → ∀ b, a < b → b < yN c → ∀ T, (ZV mdX7_threes (d + 2) (fun v M' => v = some (.int (nI (thN c))) ∧ M' = M) 81 [some (.ref 90), some (.int (nI (T + zsum (yN c) (i3 c a b)))), some (.int (nI a)), some (.int (nI b)), none] [] M) → ∀ r e, e + r = yN c → b < e →
      ZV mdX7_threes (d + 2) (fun v M' => v = some (.int (nI (thN c))) ∧ M' = M) 29 [some (.ref 90), some (.int (nI (T + zsum e (i3 c a b)))), some (.int (nI a)), some (.int (nI b)), some (.int (nI e))] [] M := by
    intro a ha b hab hb T kk r
    induction r with
    | zero =>
      intro e he hbe
      have he : e = yN c := by omega
      subst he
      refine zv_iload (pc' := 31) dX7_threes_29 rfl rfl ?_
      refine zv_aload_n (pc' := 32) dX7_threes_31 rfl rfl ?_
      refine zv_getIE (pc' := 35) dX7_threes_32 rfl flX7_65 (by first | rfl | assumption) rfl (by first | exact hN | rfl) ?_
      refine zv_icmp_ge (pc' := 38) (tgt := 81) dX7_threes_35 rfl rfl (fun _ => ?_) (fun hcc => absurd (Int32.le_refl _) hcc)
      refine zv_fg [4] ?_
      exact kk
    | succ r ih =>
      intro e he hbe
      have := ih (e + 1) (by omega) (by omega)
      rw [zsum, ← Nat.add_assoc] at this
      have nx : ∀ v, v = i3 c a b e → ZV mdX7_threes (d + 2) (fun v M' => v = some (.int (nI (thN c))) ∧ M' = M) 73 [some (.ref 90), some (.int (nI (T + zsum e (i3 c a b)))), some (.int (nI a)), some (.int (nI b)), some (.int (nI e))] [.int (nI v), .int (nI (T + zsum e (i3 c a b)))] M := by
        intro v hv
        refine zv_iadd (pc' := 74) dX7_threes_73 rfl ?_
        refine zv_top (nI_add _ _) ?_
        refine zv_istore_n (pc' := 75) dX7_threes_74 rfl (by decide) ?_
        refine zv_iinc (w := nI 1) (pc' := 78) dX7_threes_75 rfl rfl (by decide) (by decide) ?_
        refine zv_goto (pc' := 29) dX7_threes_78 rfl ?_
        rw [nI_add, hv]
        exact this
      have ze : (kinB c a b = false ∨ kinB c b e = false ∨ kinB c a e = false) → 0 = i3 c a b e := by
        intro hz
        unfold i3
        rw [if_pos ⟨hab, hbe⟩]
        unfold t3
        rcases hz with hz | hz | hz <;> simp [hz]
      refine zv_iload (pc' := 31) dX7_threes_29 rfl rfl ?_
      refine zv_aload_n (pc' := 32) dX7_threes_31 rfl rfl ?_
      refine zv_getIE (pc' := 35) dX7_threes_32 rfl flX7_65 (by first | rfl | assumption) rfl (by first | exact hN | rfl) ?_
      refine zv_icmp_ge (pc' := 38) (tgt := 81) dX7_threes_35 rfl rfl (fun hcc => absurd hcc (nI_ge (by omega) (by omega))) (fun _ => ?_)
      refine zv_iload_n (pc' := 39) dX7_threes_38 rfl rfl ?_
      refine zv_aload_n (pc' := 40) dX7_threes_39 rfl rfl ?_
      refine zv_iload_n (pc' := 41) dX7_threes_40 rfl rfl ?_
      refine zv_iload_n (pc' := 42) dX7_threes_41 rfl rfl ?_
      refine zv_cV2_pi (pc' := 45) dX7_threes_42 rfl lkX7_79 (by first | rfl | assumption) rfl (Nat.le_of_ble_eq_true rfl) (x7_isKin hA hk ha hb) ?_
      refine zv_if_eq (pc' := 48) (tgt := 72) dX7_threes_45 rfl rfl ?_ ?_
      · intro h
        refine zv_iconst (v := nI 0) (pc' := 73) dX7_threes_72 rfl (by decide) ?_
        exact nx 0 (ze (Or.inl (zb_0.mp h)))
      · intro h
        refine zv_aload_n (pc' := 49) dX7_threes_48 rfl rfl ?_
        refine zv_iload_n (pc' := 50) dX7_threes_49 rfl rfl ?_
        refine zv_iload (pc' := 52) dX7_threes_50 rfl rfl ?_
        refine zv_cV2_pi (pc' := 55) dX7_threes_52 rfl lkX7_79 (by first | rfl | assumption) rfl (Nat.le_of_ble_eq_true rfl) (x7_isKin hA hk hb (by omega)) ?_
        refine zv_if_eq (pc' := 58) (tgt := 72) dX7_threes_55 rfl rfl ?_ ?_
        · intro h2
          refine zv_iconst (v := nI 0) (pc' := 73) dX7_threes_72 rfl (by decide) ?_
          exact nx 0 (ze (Or.inr (Or.inl (zb_0.mp h2))))
        · intro h2
          refine zv_aload_n (pc' := 59) dX7_threes_58 rfl rfl ?_
          refine zv_iload_n (pc' := 60) dX7_threes_59 rfl rfl ?_
          refine zv_iload (pc' := 62) dX7_threes_60 rfl rfl ?_
          refine zv_cV2_pi (pc' := 65) dX7_threes_62 rfl lkX7_79 (by first | rfl | assumption) rfl (Nat.le_of_ble_eq_true rfl) (x7_isKin hA hk ha (by omega)) ?_
          refine zv_if_eq (pc' := 68) (tgt := 72) dX7_threes_65 rfl rfl ?_ ?_
          · intro h3
            refine zv_iconst (v := nI 0) (pc' := 73) dX7_threes_72 rfl (by decide) ?_
            exact nx 0 (ze (Or.inr (Or.inr (zb_0.mp h3))))
          · intro h3
            refine zv_iconst (v := nI 1) (pc' := 69) dX7_threes_68 rfl (by decide) ?_
            refine zv_goto (pc' := 73) dX7_threes_69 rfl ?_
            refine nx 1 ?_
            unfold i3
            rw [if_pos ⟨hab, hbe⟩]
            unfold t3
            rw [zb_ne.mp h, zb_ne.mp h2, zb_ne.mp h3]
            rfl
  have l2 : ∀ a, a < yN c → ∀ T, (ZV mdX7_threes (d + 2) (fun v M' => v = some (.int (nI (thN c))) ∧ M' = M) 87 [some (.ref 90), some (.int (nI (T + zsum (yN c) (fun b => zsum (yN c) (i3 c a b))))), some (.int (nI a)), none, none] [] M) → ∀ r b, b + r = yN c → a < b →
      ZV mdX7_threes (d + 2) (fun v M' => v = some (.int (nI (thN c))) ∧ M' = M) 16 [some (.ref 90), some (.int (nI (T + zsum b (fun b => zsum (yN c) (i3 c a b))))), some (.int (nI a)), some (.int (nI b)), none] [] M := by
    intro a ha T kk r
    induction r with
    | zero =>
      intro b e hab
      have e : b = yN c := by omega
      subst e
      refine zv_iload_n (pc' := 17) dX7_threes_16 rfl rfl ?_
      refine zv_aload_n (pc' := 18) dX7_threes_17 rfl rfl ?_
      refine zv_getIE (pc' := 21) dX7_threes_18 rfl flX7_65 (by first | rfl | assumption) rfl (by first | exact hN | rfl) ?_
      refine zv_icmp_ge (pc' := 24) (tgt := 87) dX7_threes_21 rfl rfl (fun _ => ?_) (fun hcc => absurd (Int32.le_refl _) hcc)
      refine zv_fg [3] ?_
      exact kk
    | succ r ih =>
      intro b e hab
      have := ih (b + 1) (by omega) (by omega)
      rw [zsum, ← Nat.add_assoc] at this
      refine zv_iload_n (pc' := 17) dX7_threes_16 rfl rfl ?_
      refine zv_aload_n (pc' := 18) dX7_threes_17 rfl rfl ?_
      refine zv_getIE (pc' := 21) dX7_threes_18 rfl flX7_65 (by first | rfl | assumption) rfl (by first | exact hN | rfl) ?_
      refine zv_icmp_ge (pc' := 24) (tgt := 87) dX7_threes_21 rfl rfl (fun hcc => absurd hcc (nI_ge (by omega) (by omega))) (fun _ => ?_)
      refine zv_iload_n (pc' := 25) dX7_threes_24 rfl rfl ?_
      refine zv_iconst (v := nI 1) (pc' := 26) dX7_threes_25 rfl (by decide) ?_
      refine zv_iadd (pc' := 27) dX7_threes_26 rfl ?_
      refine zv_istore (pc' := 29) dX7_threes_27 rfl (by decide) ?_
      rw [nI_add]
      have h3 := l3 a ha b hab (by omega) (T + zsum b (fun b => zsum (yN c) (i3 c a b))) (by
        refine zv_iinc (w := nI 1) (pc' := 84) dX7_threes_81 rfl rfl (by decide) (by decide) ?_
        refine zv_goto (pc' := 16) dX7_threes_84 rfl ?_
        rw [nI_add]
        exact this) (yN c - (b + 1)) (b + 1) (by omega) (by omega)
      rw [show zsum (b + 1) (i3 c a b) = 0 from zsum_z (fun j hj => by unfold i3; rw [if_neg (by omega)])] at h3
      exact h3
  have l1 : ∀ r a, a + r = yN c → ZV mdX7_threes (d + 2) (fun v M' => v = some (.int (nI (thN c))) ∧ M' = M) 4 [some (.ref 90), some (.int (nI (zsum a (fun a => zsum (yN c) (fun b => zsum (yN c) (i3 c a b)))))), some (.int (nI a)), none, none] [] M := by
    intro r
    induction r with
    | zero =>
      intro a e
      have e : a = yN c := by omega
      subst e
      refine zv_iload_n (pc' := 5) dX7_threes_4 rfl rfl ?_
      refine zv_aload_n (pc' := 6) dX7_threes_5 rfl rfl ?_
      refine zv_getIE (pc' := 9) dX7_threes_6 rfl flX7_65 (by first | rfl | assumption) rfl (by first | exact hN | rfl) ?_
      refine zv_icmp_ge (pc' := 12) (tgt := 93) dX7_threes_9 rfl rfl (fun _ => ?_) (fun hcc => absurd (Int32.le_refl _) hcc)
      refine zv_iload_n (pc' := 94) dX7_threes_93 rfl rfl ?_
      refine zv_iret dX7_threes_94 rfl ?_
      exact zpi_ret rfl
    | succ r ih =>
      intro a e
      have := ih (a + 1) (by omega)
      rw [zsum] at this
      refine zv_iload_n (pc' := 5) dX7_threes_4 rfl rfl ?_
      refine zv_aload_n (pc' := 6) dX7_threes_5 rfl rfl ?_
      refine zv_getIE (pc' := 9) dX7_threes_6 rfl flX7_65 (by first | rfl | assumption) rfl (by first | exact hN | rfl) ?_
      refine zv_icmp_ge (pc' := 12) (tgt := 93) dX7_threes_9 rfl rfl (fun hcc => absurd hcc (nI_ge (by omega) (by omega))) (fun _ => ?_)
      refine zv_iload_n (pc' := 13) dX7_threes_12 rfl rfl ?_
      refine zv_iconst (v := nI 1) (pc' := 14) dX7_threes_13 rfl (by decide) ?_
      refine zv_iadd (pc' := 15) dX7_threes_14 rfl ?_
      refine zv_istore_n (pc' := 16) dX7_threes_15 rfl (by decide) ?_
      rw [nI_add]
      have h2 := l2 a (by omega) (zsum a (fun a => zsum (yN c) (fun b => zsum (yN c) (i3 c a b)))) (by
        refine zv_iinc (w := nI 1) (pc' := 90) dX7_threes_87 rfl rfl (by decide) (by decide) ?_
        refine zv_goto (pc' := 4) dX7_threes_90 rfl ?_
        rw [nI_add]
        exact this) (yN c - (a + 1)) (a + 1) (by omega) (by omega)
      rw [show zsum (a + 1) (fun b => zsum (yN c) (i3 c a b)) = 0 from zsum_z (fun j hj => zsum_z (fun e _ => by unfold i3; rw [if_neg (by omega)]))] at h2
      exact h2
  refine zex_intro (L := [some (.ref 90), none, none, none, none]) (by decide) (Nat.le_of_ble_eq_true rfl) rfl ?_
  refine zv_iconst (v := nI 0) (pc' := 1) dX7_threes_0 rfl (by decide) ?_
  refine zv_istore_n (pc' := 2) dX7_threes_1 rfl (by decide) ?_
  refine zv_iconst (v := nI 0) (pc' := 3) dX7_threes_2 rfl (by decide) ?_
  refine zv_istore_n (pc' := 4) dX7_threes_3 rfl (by decide) ?_
  exact l1 (yN c) 0 (by omega)
theorem x5_howManyGroups (hT : zTi M c) (hk : zOk c) : ZPi mdX5_howManyGroups (d + 3) [.ref 29] M (nI (gpN c (yN c))) := by
  have hn := hk.1
  have h1 := hT.1
  have lp : ∀ r k, k + r = yN c → ZV mdX5_howManyGroups (d + 3) (fun v M' => v = some (.int (nI (gpN c (yN c)))) ∧ M' = M) 6 [some (.ref 29), some (.int (nI (gpN c k))), some (.int (nI (zm 8 (fun j => zany k (fun i => rrB c i j))))), some (.int (nI k))] [] M := by
    intro r
    induction r with
    | zero =>
      intro k e
      have e : k = yN c := by omega
      subst e
      refine zv_iload_n (pc' := 7) dX5_howManyGroups_6 rfl rfl ?_
      refine zv_aload_n (pc' := 8) dX5_howManyGroups_7 rfl rfl ?_
      refine zv_getIE (pc' := 11) dX5_howManyGroups_8 rfl flX5_21 (by first | rfl | assumption) rfl (by first | exact h1 | rfl) ?_
      refine zv_icmp_ge (pc' := 14) (tgt := 39) dX5_howManyGroups_11 rfl rfl (fun _ => ?_) (fun hcc => absurd (Int32.le_refl _) hcc)
      refine zv_iload_n (pc' := 40) dX5_howManyGroups_39 rfl rfl ?_
      refine zv_iret dX5_howManyGroups_40 rfl ?_
      exact zpi_ret rfl
    | succ r ih =>
      intro k e
      have := ih (k + 1) (by omega)
      refine zv_iload_n (pc' := 7) dX5_howManyGroups_6 rfl rfl ?_
      refine zv_aload_n (pc' := 8) dX5_howManyGroups_7 rfl rfl ?_
      refine zv_getIE (pc' := 11) dX5_howManyGroups_8 rfl flX5_21 (by first | rfl | assumption) rfl (by first | exact h1 | rfl) ?_
      refine zv_icmp_ge (pc' := 14) (tgt := 39) dX5_howManyGroups_11 rfl rfl (fun hcc => absurd hcc (nI_ge (by omega) (by omega))) (fun _ => ?_)
      refine zv_iload_n (pc' := 15) dX5_howManyGroups_14 rfl rfl ?_
      refine zv_iload_n (pc' := 16) dX5_howManyGroups_15 rfl rfl ?_
      refine zv_cS2_pi (pc' := 19) dX5_howManyGroups_16 rfl lkX5_26 (Nat.le_of_ble_eq_true rfl) (x6_isInM (f := fun j => zany k (fun i => rrB c i j)) (by omega)) ?_
      refine zv_if_ne (pc' := 22) (tgt := 33) dX5_howManyGroups_19 rfl rfl ?_ ?_
      · intro h
        have h := zb_ne.mp h
        refine zv_iinc (w := nI 1) (pc' := 36) dX5_howManyGroups_33 rfl rfl (by decide) (by decide) ?_
        refine zv_goto (pc' := 6) dX5_howManyGroups_36 rfl ?_
        rw [nI_add]
        rw [zany_rr hk (by omega) h, show gpN c (k + 1) = gpN c k from by unfold gpN; rw [zcn, h]; rfl] at this
        exact this
      · intro h
        have h := zb_0.mp h
        refine zv_iinc (w := nI 1) (pc' := 25) dX5_howManyGroups_22 rfl rfl (by decide) (by decide) ?_
        refine zv_iload_n (pc' := 26) dX5_howManyGroups_25 rfl rfl ?_
        refine zv_aload_n (pc' := 27) dX5_howManyGroups_26 rfl rfl ?_
        refine zv_iload_n (pc' := 28) dX5_howManyGroups_27 rfl rfl ?_
        refine zv_cV1_pi (pc' := 31) dX5_howManyGroups_28 rfl lkX5_33 (by first | rfl | assumption) rfl (Nat.le_of_ble_eq_true rfl) (x5_reachOf hT hn (by omega)) ?_
        refine zv_ior (pc' := 32) dX5_howManyGroups_31 rfl ?_
        refine zv_top mk_or ?_
        refine zv_istore_n (pc' := 33) dX5_howManyGroups_32 rfl (by decide) ?_
        refine zv_iinc (w := nI 1) (pc' := 36) dX5_howManyGroups_33 rfl rfl (by decide) (by decide) ?_
        refine zv_goto (pc' := 6) dX5_howManyGroups_36 rfl ?_
        rw [nI_add, nI_add]
        rw [show gpN c (k + 1) = gpN c k + 1 from by unfold gpN; rw [zcn, h]; rfl] at this
        exact this
  refine zex_intro (L := [some (.ref 29), none, none, none]) (by decide) (Nat.le_of_ble_eq_true rfl) rfl ?_
  refine zv_iconst (v := nI 0) (pc' := 1) dX5_howManyGroups_0 rfl (by decide) ?_
  refine zv_istore_n (pc' := 2) dX5_howManyGroups_1 rfl (by decide) ?_
  refine zv_iconst (v := nI 0) (pc' := 3) dX5_howManyGroups_2 rfl (by decide) ?_
  refine zv_istore_n (pc' := 4) dX5_howManyGroups_3 rfl (by decide) ?_
  refine zv_iconst (v := nI 0) (pc' := 5) dX5_howManyGroups_4 rfl (by decide) ?_
  refine zv_istore_n (pc' := 6) dX5_howManyGroups_5 rfl (by decide) ?_
  have := lp (yN c) 0 (by omega)
  rw [show (fun j => zany 0 (fun i => rrB c i j)) = (fun _ => false) from rfl, zm_f] at this
  exact this
theorem x5_mostInGroup (hT : zTi M c) (hk : zOk c) : ZPi mdX5_mostInGroup (d + 3) [.ref 29] M (nI (mxN c (yN c))) := by
  have hn := hk.1
  have h1 := hT.1
  have lp : ∀ r k, k + r = yN c → ZV mdX5_mostInGroup (d + 3) (fun v M' => v = some (.int (nI (mxN c (yN c)))) ∧ M' = M) 4 [some (.ref 29), some (.int (nI (mxN c k))), some (.int (nI k))] [] M := by
    intro r
    induction r with
    | zero =>
      intro k e
      have e : k = yN c := by omega
      subst e
      refine zv_iload_n (pc' := 5) dX5_mostInGroup_4 rfl rfl ?_
      refine zv_aload_n (pc' := 6) dX5_mostInGroup_5 rfl rfl ?_
      refine zv_getIE (pc' := 9) dX5_mostInGroup_6 rfl flX5_21 (by first | rfl | assumption) rfl (by first | exact h1 | rfl) ?_
      refine zv_icmp_ge (pc' := 12) (tgt := 31) dX5_mostInGroup_9 rfl rfl (fun _ => ?_) (fun hcc => absurd (Int32.le_refl _) hcc)
      refine zv_iload_n (pc' := 32) dX5_mostInGroup_31 rfl rfl ?_
      refine zv_iret dX5_mostInGroup_32 rfl ?_
      exact zpi_ret rfl
    | succ r ih =>
      intro k e
      have := ih (k + 1) (by omega)
      have b1 := mxN_le (c := c) k
      have b2 := zcn_le (rrB c k) 8
      refine zv_iload_n (pc' := 5) dX5_mostInGroup_4 rfl rfl ?_
      refine zv_aload_n (pc' := 6) dX5_mostInGroup_5 rfl rfl ?_
      refine zv_getIE (pc' := 9) dX5_mostInGroup_6 rfl flX5_21 (by first | rfl | assumption) rfl (by first | exact h1 | rfl) ?_
      refine zv_icmp_ge (pc' := 12) (tgt := 31) dX5_mostInGroup_9 rfl rfl (fun hcc => absurd hcc (nI_ge (by omega) (by omega))) (fun _ => ?_)
      refine zv_iload_n (pc' := 13) dX5_mostInGroup_12 rfl rfl ?_
      refine zv_aload_n (pc' := 14) dX5_mostInGroup_13 rfl rfl ?_
      refine zv_iload_n (pc' := 15) dX5_mostInGroup_14 rfl rfl ?_
      refine zv_cV1_pi (pc' := 18) dX5_mostInGroup_15 rfl lkX5_33 (by first | rfl | assumption) rfl (Nat.le_of_ble_eq_true rfl) (x5_reachOf hT hn (by omega)) ?_
      refine zv_cS1_pi (pc' := 21) dX5_mostInGroup_18 rfl lkX5_36 (Nat.le_of_ble_eq_true rfl) (j6_bitM) ?_
      refine zv_mmax (pc' := 24) dX5_mostInGroup_21 rfl lmX5_41 (Nat.le_of_ble_eq_true rfl) ?_
      refine zv_top (y := nI (mxN c (k + 1))) ?_ ?_
      · rw [mxN]
        by_cases h : mxN c k < zcn 8 (rrB c k)
        · rw [if_pos h, if_pos ((nI_ltI (by omega) (by omega)).mpr h)]
        · rw [if_neg h, if_neg (mt (nI_ltI (by omega) (by omega)).mp h)]
      refine zv_istore_n (pc' := 25) dX5_mostInGroup_24 rfl (by decide) ?_
      refine zv_iinc (w := nI 1) (pc' := 28) dX5_mostInGroup_25 rfl rfl (by decide) (by decide) ?_
      refine zv_goto (pc' := 4) dX5_mostInGroup_28 rfl ?_
      rw [nI_add]
      exact this
  refine zex_intro (L := [some (.ref 29), none, none]) (by decide) (Nat.le_of_ble_eq_true rfl) rfl ?_
  refine zv_iconst (v := nI 0) (pc' := 1) dX5_mostInGroup_0 rfl (by decide) ?_
  refine zv_istore_n (pc' := 2) dX5_mostInGroup_1 rfl (by decide) ?_
  refine zv_iconst (v := nI 0) (pc' := 3) dX5_mostInGroup_2 rfl (by decide) ?_
  refine zv_istore_n (pc' := 4) dX5_mostInGroup_3 rfl (by decide) ?_
  exact lp (yN c) 0 (by omega)
theorem x5_threes (hT : zTi M c) (hk : zOk c) : ZPi mdX5_threes (d + 1) [.ref 29] M (nI (thN c)) := by
  have hn := hk.1
  have ht := hT.1
  have h2 := hT.2
  have bd : ∀ a k, k ≤ yN c → zsum k (fun b => coP c a b) ≤ 64 := fun a k hk => Nat.le_trans (zsum_le (b := 8) (fun j _ => coP_le)) (by omega)
  have bd2 : ∀ k, k ≤ yN c → zsum k (fun a => zsum (yN c) (fun b => coP c a b)) ≤ 512 := fun k hk => Nat.le_trans (zsum_le (b := 64) (fun j _ => bd j _ (Nat.le_refl _))) (by omega)
  have l2 : ∀ a, a < yN c → ∀ T, T ≤ 512 → (ZV mdX5_threes (d + 1) (fun v M' => v = some (.int (nI (thN c))) ∧ M' = M) 60 [some (.ref 29), some (.int (nI (T + zsum (yN c) (fun b => coP c a b)))), some (.int (nI a)), none] [] M) → ∀ r b, b + r = yN c →
      ZV mdX5_threes (d + 1) (fun v M' => v = some (.int (nI (thN c))) ∧ M' = M) 14 [some (.ref 29), some (.int (nI (T + zsum b (fun b => coP c a b)))), some (.int (nI a)), some (.int (nI b))] [] M := by
    intro a ha T hTT kk r
    induction r with
    | zero =>
      intro b e
      have e : b = yN c := by omega
      subst e
      refine zv_iload_n (pc' := 15) dX5_threes_14 rfl rfl ?_
      refine zv_aload_n (pc' := 16) dX5_threes_15 rfl rfl ?_
      refine zv_getIE (pc' := 19) dX5_threes_16 rfl flX5_21 (by first | rfl | assumption) rfl (by first | exact ht | exact h2 _ (by omega) | rfl) ?_
      refine zv_icmp_ge (pc' := 22) (tgt := 60) dX5_threes_19 rfl rfl (fun _ => ?_) (fun hcc => absurd (Int32.le_refl _) hcc)
      refine zv_fg [3] ?_
      exact kk
    | succ r ih =>
      intro b e
      have := ih (b + 1) (by omega)
      rw [zsum, ← Nat.add_assoc] at this
      refine zv_iload_n (pc' := 15) dX5_threes_14 rfl rfl ?_
      refine zv_aload_n (pc' := 16) dX5_threes_15 rfl rfl ?_
      refine zv_getIE (pc' := 19) dX5_threes_16 rfl flX5_21 (by first | rfl | assumption) rfl (by first | exact ht | exact h2 _ (by omega) | rfl) ?_
      refine zv_icmp_ge (pc' := 22) (tgt := 60) dX5_threes_19 rfl rfl (fun hcc => absurd hcc (nI_ge (by omega) (by omega))) (fun _ => ?_)
      refine zv_aload_n (pc' := 23) dX5_threes_22 rfl rfl ?_
      refine zv_getR (pc' := 26) dX5_threes_23 rfl flX5_9 (by first | rfl | assumption) rfl ?_
      refine zv_iload_n (pc' := 27) dX5_threes_26 rfl rfl ?_
      refine zv_ialoadE (pc' := 28) dX5_threes_27 rfl (by first | rfl | assumption) (by decide) (by omega) (by first | exact ht | exact h2 _ (by omega) | rfl) ?_
      refine zv_iload_n (pc' := 29) dX5_threes_28 rfl rfl ?_
      refine zv_cS2_pi (pc' := 32) dX5_threes_29 rfl lkX5_26 (Nat.le_of_ble_eq_true rfl) (x6_isInM (by omega)) ?_
      refine zv_if_eq (pc' := 35) (tgt := 54) dX5_threes_32 rfl rfl ?_ ?_
      · intro h
        refine zv_iinc (w := nI 1) (pc' := 57) dX5_threes_54 rfl rfl (by decide) (by decide) ?_
        refine zv_goto (pc' := 14) dX5_threes_57 rfl ?_
        rw [nI_add]
        rw [show coP c a b = 0 from by unfold coP; rw [zb_0.mp h]; rfl] at this
        exact this
      · intro h
        refine zv_iload_n (pc' := 36) dX5_threes_35 rfl rfl ?_
        refine zv_aload_n (pc' := 37) dX5_threes_36 rfl rfl ?_
        refine zv_getR (pc' := 40) dX5_threes_37 rfl flX5_9 (by first | rfl | assumption) rfl ?_
        refine zv_iload_n (pc' := 41) dX5_threes_40 rfl rfl ?_
        refine zv_ialoadE (pc' := 42) dX5_threes_41 rfl (by first | rfl | assumption) (by decide) (by omega) (by first | exact ht | exact h2 _ (by omega) | rfl) ?_
        refine zv_aload_n (pc' := 43) dX5_threes_42 rfl rfl ?_
        refine zv_getR (pc' := 46) dX5_threes_43 rfl flX5_9 (by first | rfl | assumption) rfl ?_
        refine zv_iload_n (pc' := 47) dX5_threes_46 rfl rfl ?_
        refine zv_ialoadE (pc' := 48) dX5_threes_47 rfl (by first | rfl | assumption) (by decide) (by omega) (by first | exact ht | exact h2 _ (by omega) | rfl) ?_
        refine zv_iand (pc' := 49) dX5_threes_48 rfl ?_
        refine zv_top mk_and ?_
        refine zv_cS1_pi (pc' := 52) dX5_threes_49 rfl lkX5_36 (Nat.le_of_ble_eq_true rfl) (j6_bitM) ?_
        refine zv_iadd (pc' := 53) dX5_threes_52 rfl ?_
        refine zv_top (nI_add _ _) ?_
        refine zv_istore_n (pc' := 54) dX5_threes_53 rfl (by decide) ?_
        refine zv_iinc (w := nI 1) (pc' := 57) dX5_threes_54 rfl rfl (by decide) (by decide) ?_
        refine zv_goto (pc' := 14) dX5_threes_57 rfl ?_
        rw [nI_add]
        rw [show coP c a b = zcn 8 (fun e => kinB c a e && kinB c b e) from by unfold coP; rw [zb_ne.mp h]; rfl] at this
        exact this
  have l1 : ∀ r a, a + r = yN c → ZV mdX5_threes (d + 1) (fun v M' => v = some (.int (nI (thN c))) ∧ M' = M) 4 [some (.ref 29), some (.int (nI (zsum a (fun a => zsum (yN c) (fun b => coP c a b))))), some (.int (nI a)), none] [] M := by
    intro r
    induction r with
    | zero =>
      intro a e
      have e : a = yN c := by omega
      subst e
      have b := bd2 (yN c) (Nat.le_refl _)
      have e6 : coN c / 6 = thN c := by rw [co_six hk]; omega
      refine zv_iload_n (pc' := 5) dX5_threes_4 rfl rfl ?_
      refine zv_aload_n (pc' := 6) dX5_threes_5 rfl rfl ?_
      refine zv_getIE (pc' := 9) dX5_threes_6 rfl flX5_21 (by first | rfl | assumption) rfl (by first | exact ht | exact h2 _ (by omega) | rfl) ?_
      refine zv_icmp_ge (pc' := 12) (tgt := 66) dX5_threes_9 rfl rfl (fun _ => ?_) (fun hcc => absurd (Int32.le_refl _) hcc)
      refine zv_iload_n (pc' := 67) dX5_threes_66 rfl rfl ?_
      refine zv_bipush (v := nI 6) (pc' := 69) dX5_threes_67 rfl (by decide) ?_
      refine zv_idiv (pc' := 70) dX5_threes_69 rfl (by first | assumption | decide) ?_
      refine zv_top (pk_div (by omega) (by omega) (by omega)) ?_
      refine zv_iret dX5_threes_70 rfl ?_
      exact zpi_ret (congrArg nI e6)
    | succ r ih =>
      intro a e
      have := ih (a + 1) (by omega)
      rw [zsum] at this
      refine zv_iload_n (pc' := 5) dX5_threes_4 rfl rfl ?_
      refine zv_aload_n (pc' := 6) dX5_threes_5 rfl rfl ?_
      refine zv_getIE (pc' := 9) dX5_threes_6 rfl flX5_21 (by first | rfl | assumption) rfl (by first | exact ht | exact h2 _ (by omega) | rfl) ?_
      refine zv_icmp_ge (pc' := 12) (tgt := 66) dX5_threes_9 rfl rfl (fun hcc => absurd hcc (nI_ge (by omega) (by omega))) (fun _ => ?_)
      refine zv_iconst (v := nI 0) (pc' := 13) dX5_threes_12 rfl (by decide) ?_
      refine zv_istore_n (pc' := 14) dX5_threes_13 rfl (by decide) ?_
      have h2 := l2 a (by omega) (zsum a (fun a => zsum (yN c) (fun b => coP c a b))) (bd2 a (by omega)) (by
        refine zv_iinc (w := nI 1) (pc' := 63) dX5_threes_60 rfl rfl (by decide) (by decide) ?_
        refine zv_goto (pc' := 4) dX5_threes_63 rfl ?_
        rw [nI_add]
        exact this) (yN c) 0 (by omega)
      exact h2
  refine zex_intro (L := [some (.ref 29), none, none, none]) (by decide) (Nat.le_of_ble_eq_true rfl) rfl ?_
  refine zv_iconst (v := nI 0) (pc' := 1) dX5_threes_0 rfl (by decide) ?_
  refine zv_istore_n (pc' := 2) dX5_threes_1 rfl (by decide) ?_
  refine zv_iconst (v := nI 0) (pc' := 3) dX5_threes_2 rfl (by decide) ?_
  refine zv_istore_n (pc' := 4) dX5_threes_3 rfl (by decide) ?_
  exact l1 (yN c) 0 (by omega)
end
