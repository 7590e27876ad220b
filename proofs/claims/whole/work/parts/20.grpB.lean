/-! hasThen, areKin, allMoney, ruined, first, richest -/
abbrev psT : List Nat := [92, 93, 94, 95, 96, 101]
abbrev fsT : List Nat := [6, 7, 18, 19]
/-- the reference thinks: c is kept, c' stands -/
def zTh (M M1 : ZMem) (c c' : ZCty) : Prop := zKp M1 84 c ∧ zAm M1 c' ∧ (∀ i, i < 84 → M1 101 i = M 101 i) ∧ zFr psT fsT M M1
def zTd (M M1 : ZMem) (c : ZCty) : Prop := zAm M1 c ∧ zFr psT fsT M M1 ∧ ∀ i, i < 84 → M1 101 i = M 101 i
theorem zTh.be {M M1 : ZMem} {c : ZCty} (h : zKp M1 84 c ∧ zAm M1 c ∧ (∀ i, i < 84 → M1 101 i = M 101 i) ∧ zFr [101] [6, 7, 18, 19] M M1) : zTh M M1 c c := ⟨h.1, h.2.1, h.2.2.1, h.2.2.2.mono (by simp) (by simp)⟩
theorem zTh.go {M M1 M2 : ZMem} {c c1 c2 : ZCty} {ps fs : List Nat} (h : zTh M M1 c c1) (hA : zAm M2 c2) (hs : zFr ps fs M1 M2) (hp : ∀ x ∈ ps, x ∈ [92, 93, 94, 95, 96]) (hf : ∀ x ∈ fs, x ∈ fsT) : zTh M M2 c c2 := by
  have h101 : M2 101 = M1 101 := hs.1 101 (fun z => by have := hp _ z; simp at this) (by decide)
  refine ⟨h.1.same (fun i _ _ => by rw [h101]), hA, fun i hi => by rw [h101]; exact h.2.2.1 i hi, h.2.2.2.tr (hs.mono (fun x hx => ?_) hf)⟩
  have := hp x hx
  simp at this ⊢
  omega
theorem zTh.fin {M M1 M2 : ZMem} {c c' : ZCty} (h : zTh M M1 c c') (h2 : zAm M2 c ∧ zFr [92, 93, 94, 95, 96] [6, 7, 18, 19] M1 M2) : zTd M M2 c := by
  have h101 : M2 101 = M1 101 := h2.2.1 101 (by decide) (by decide)
  exact ⟨h2.1, h.2.2.2.tr (h2.2.mono (by simp) (by simp)), fun i hi => by rw [h101]; exact h.2.2.1 i hi⟩
theorem zTd.rf {M : ZMem} {c : ZCty} (h : zAm M c) : zTd M M c := ⟨h, zFr.rf, fun _ _ => rfl⟩
theorem zTd.tr {M M1 M2 : ZMem} {c c' : ZCty} (h1 : zTd M M1 c) (h2 : zTd M1 M2 c') : zTd M M2 c' := ⟨h2.1, h1.2.1.tr h2.2.1, fun i hi => (h2.2.2 i hi).trans (h1.2.2 i hi)⟩
theorem zIm.td {M M' : ZMem} {s : ZS} (h : zIm M s) (ht : zTd M M' (sC s)) : zIm M' s := h.frm ht.1 ht.2.1 (by simp) (by simp) (fun i hi => ht.2.2 i (by omega))
theorem zTd.lt {M M' : ZMem} {c : ZCty} (h : zTd M M' c) : ∀ k, k < 90 → M' k = M k := h.2.1.lt (by simp)
theorem zTd.dead {M M' : ZMem} {c : ZCty} (h : zTd M M' c) : M' 90 8 = M 90 8 := h.2.1.2 8 (by decide)
theorem zTh.dead {M M' : ZMem} {c c' : ZCty} (h : zTh M M' c c') : M' 90 8 = M 90 8 := h.2.2.2.2 8 (by decide)
def ruinC (c : ZCty) (p : Nat) : Option Nat := zfst 61 0 (fun k => decide (yM (yearsC k c) p = 0))
def steadyC (c : ZCty) : Option Nat := zfst 61 0 (fun k => asB (yearC 100 (yearsC k c)) (yearsC k c))
def frK (c : ZCty) (p : Nat) : Option Nat := if yM c p = 0 then none else ruinC c p
/-- of the first k: who is ruined first, and when -/
def frN (c : ZCty) : Nat → Option (Nat × Nat)
  | 0 => none
  | p + 1 => match frK c p with
    | none => frN c p
    | some k => match frN c p with
      | none => some (p, k)
      | some (b, j) => if j ≤ k then some (b, j) else some (p, k)
def rmx (f : Nat → Nat) : Nat → Option Nat
  | 0 => none
  | k + 1 => match rmx f k with
    | none => some k
    | some b => if f b < f k then some k else some b
def firV (c : ZCty) : Nat → Int32
  | 0 => optI ((frN c (yN c)).map (fun q => q.1))
  | 1 => optI ((frN c (yN c)).map (fun q => q.2))
  | _ => optI (steadyC c)
def htV (c : ZCty) (p : Nat) : Nat → Int32
  | 0 => nI (yM c p)
  | _ => nI (zcn 8 (kinB c p))
def sp_hasThen (x n w : Int32) (s : ZS) : Int32 × ZS := zans (fiN (nbN (yN (sC s)) x) (bdN n (nI 0) (nI 60)) (otN w 1)) s (htV (yearsC (pN n) (sC s)) (pN x) (pN w)) s
def sp_areKin (x y n : Int32) (s : ZS) : Int32 × ZS := zans (fiN (twN (yN (sC s)) x y) (bdN n (nI 0) (nI 60)) 0) s (zb (kinB (yearsC (pN n) (sC s)) (pN x) (pN y))) s
def sp_allMoney (n : Int32) (s : ZS) : Int32 × ZS := zans (bdN n (nI 0) (nI 60)) s (nI (wealthN (yearsC (pN n) (sC s)))) s
def sp_ruined (x : Int32) (s : ZS) : Int32 × ZS := zans (nbN (yN (sC s)) x) s (optI (ruinC (sC s) (pN x))) s
def sp_first (x : Int32) (s : ZS) : Int32 × ZS := zans (otN x 2) s (firV (sC s) (pN x)) s
def sp_richest (n : Int32) (s : ZS) : Int32 × ZS := zans (bdN n (nI 0) (nI 60)) s (optI (rmx (yM (yearsC (pN n) (sC s))) (yN (sC s)))) s
theorem yearsC_succ {c : ZCty} {k : Nat} : yearsC (k + 1) c = yearC 100 (yearsC k c) := by
  unfold yearsC
  rw [zlf_add k 1 0]
  rfl
theorem zfst_none {P : Nat → Bool} : ∀ {r k : Nat}, zfst r k P = none ↔ ∀ j, k ≤ j → j < k + r → P j = false
  | 0, k => by simp [zfst]; intro j h1 h2; omega
  | r + 1, k => by
    rw [zfst]
    by_cases h : P k = true
    · rw [if_pos h]
      constructor
      · intro z; cases z
      · intro z; rw [z k (by omega) (by omega)] at h; cases h
    · rw [if_neg h, zfst_none]
      constructor
      · intro z j h1 h2
        by_cases e : j = k
        · subst e; simpa using h
        · exact z j (by omega) (by omega)
      · intro z j h1 h2
        exact z j (by omega) (by omega)
theorem zfst_some {P : Nat → Bool} : ∀ {r k v : Nat}, zfst r k P = some v ↔ k ≤ v ∧ v < k + r ∧ P v = true ∧ ∀ j, k ≤ j → j < v → P j = false
  | 0, k, v => by simp [zfst]; intro h1 h2; omega
  | r + 1, k, v => by
    rw [zfst]
    by_cases h : P k = true
    · rw [if_pos h]
      constructor
      · intro z
        have : k = v := Option.some.inj z
        subst this
        exact ⟨by omega, by omega, h, fun j h1 h2 => by omega⟩
      · rintro ⟨h1, h2, h3, h4⟩
        by_cases e : k = v
        · rw [e]
        · have := h4 k (by omega) (by omega)
          rw [h] at this; cases this
    · rw [if_neg h, zfst_some]
      constructor
      · rintro ⟨h1, h2, h3, h4⟩
        refine ⟨by omega, by omega, h3, fun j g1 g2 => ?_⟩
        by_cases e : j = k
        · subst e; simpa using h
        · exact h4 j (by omega) g2
      · rintro ⟨h1, h2, h3, h4⟩
        have : k ≠ v := fun e => h (by rw [e]; exact h3)
        exact ⟨by omega, by omega, h3, fun j g1 g2 => h4 j (by omega) g2⟩
theorem zdonq {v : Int32} {s : ZS} {sp : Int32 × ZS} {M M' : ZMem} (e : sp = (v, s)) (hI : zIx M s) (hs : zScr M M') : ∃ r, some (Value.int v) = some (Value.int r) ∧ (r = sp.1 ∧ zIx M' sp.2 ∧ zSame 0 90 M M') := zdone e (hI.scr hs) hs.s90
section
variable {d : Nat}
theorem gx_hasThen (x n w : Int32) : zGx mdX6_hasThen (d + 5) [.int x, .int n, .int w] (sp_hasThen x n w) := by
  intro M s hI hk
  have hn := hk.1.1
  have hA := hI.1
  refine zex_intro (L := [some (.ref 0), some (.int x), some (.int n), some (.int w), none]) (by decide) (Nat.le_of_ble_eq_true rfl) rfl ?_
  refine zv_aload_n (pc' := 1) dX6_hasThen_0 rfl rfl ?_
  refine zv_iload_n (pc' := 2) dX6_hasThen_1 rfl rfl ?_
  refine zv_cV1_pi (pc' := 5) dX6_hasThen_2 rfl lkX6_111 (by first | rfl | assumption) rfl (Nat.le_of_ble_eq_true rfl) (x6_nobody hA) ?_
  refine zv_iload_n (pc' := 6) dX6_hasThen_5 rfl rfl ?_
  refine zv_iconst (v := nI 0) (pc' := 7) dX6_hasThen_6 rfl (by decide) ?_
  refine zv_bipush (v := nI 60) (pc' := 9) dX6_hasThen_7 rfl (by decide) ?_
  refine zv_cS3_pi (pc' := 12) dX6_hasThen_9 rfl lkX6_73 (Nat.le_of_ble_eq_true rfl) (x6_outside) ?_
  refine zv_iload_n (pc' := 13) dX6_hasThen_12 rfl rfl ?_
  refine zv_iconst (v := nI 1) (pc' := 14) dX6_hasThen_13 rfl (by decide) ?_
  refine zv_cS2_pi (pc' := 17) dX6_hasThen_14 rfl lkX6_114 (Nat.le_of_ble_eq_true rfl) (x6_otherThan) ?_
  refine zv_cS3_pi (pc' := 20) dX6_hasThen_17 rfl lkX6_81 (Nat.le_of_ble_eq_true rfl) (x6_firstOf nbN_lt bdN_lt) ?_
  have hw := fiN_lt (nbN_lt (n := yN (sC s)) (x := x)) (bdN_lt (x := n) (lo := nI 0) (hi := nI 60)) (otN_lt (x := w) (n := 1))
  refine zv_istore (pc' := 22) dX6_hasThen_20 rfl (by decide) ?_
  refine zv_iload (pc' := 24) dX6_hasThen_22 rfl rfl ?_
  refine zv_if_eq (pc' := 27) (tgt := 34) dX6_hasThen_24 rfl rfl ?_ ?_
  · intro h
    have h0 := (neg_w0 _ hw).mp h
    obtain ⟨g1, g2, g3⟩ := fiN_0.mp h0
    obtain ⟨p, hp, rfl⟩ := hasB_of hn (nbN_0.mp g1)
    obtain ⟨n, -, hn2, rfl⟩ := isInB_of (by decide) (bdN_0.mp g2) (by decide)
    obtain ⟨w, -, hw2, rfl⟩ := isInB_of (by decide) (otN_0.mp g3) (by decide)
    refine zv_aload_n (pc' := 35) dX6_hasThen_34 rfl rfl ?_
    refine zv_iload_n (pc' := 36) dX6_hasThen_35 rfl rfl ?_
    refine zv_cV1_fv (pc' := 39) dX6_hasThen_36 rfl lkX6_174 (by first | rfl | assumption) rfl (Nat.le_of_ble_eq_true rfl) (x6_thinkAhead hA hk.1 (by omega)) ?_
    rintro M1 ⟨h1, h2⟩
    have hM := h1.2.2.2.2.1
    have fin : ∀ v : Int32, v = htV (yearsC n (sC s)) p w → ∃ r, some (Value.int v) = some (Value.int r) ∧ (r = (sp_hasThen (nI p) (nI n) (nI w) s).1 ∧ zIx M1 (sp_hasThen (nI p) (nI n) (nI w) s).2 ∧ zSame 0 90 M M1) := fun v hv => zdonq (by rw [sp_hasThen, zans_0 h0, pN_nI (by omega), pN_nI (by omega), pN_nI (by omega), hv]) hI (zScr.same h2 (by omega))
    refine zv_iload_n (pc' := 40) dX6_hasThen_39 rfl rfl ?_
    rcases (show w = 0 ∨ w = 1 by omega) with rfl | rfl
    · refine zv_if_ne (pc' := 43) (tgt := 55) dX6_hasThen_40 rfl rfl (fun hcc => absurd (rfl) hcc) (fun _ => ?_)
      refine zv_aload_n (pc' := 44) dX6_hasThen_43 rfl rfl ?_
      refine zv_getR (pc' := 47) dX6_hasThen_44 rfl flX6_19 (by first | rfl | assumption) rfl ?_
      refine zv_getR (pc' := 50) dX6_hasThen_47 rfl flX6_124 (by first | rfl | assumption) rfl ?_
      refine zv_iload_n (pc' := 51) dX6_hasThen_50 rfl rfl ?_
      refine zv_ialoadE (pc' := 52) dX6_hasThen_51 rfl (by first | rfl | assumption) (by decide) (by omega) (by first | exact hM _ (by omega) | rfl) ?_
      refine zv_goto (pc' := 66) dX6_hasThen_52 rfl ?_
      refine zv_iret dX6_hasThen_66 rfl ?_
      exact fin _ rfl
    · refine zv_if_ne (pc' := 43) (tgt := 55) dX6_hasThen_40 rfl rfl (fun _ => ?_) (fun hcc => absurd hcc (by decide))
      refine zv_aload_n (pc' := 56) dX6_hasThen_55 rfl rfl ?_
      refine zv_getR (pc' := 59) dX6_hasThen_56 rfl flX6_19 (by first | rfl | assumption) rfl ?_
      refine zv_iload_n (pc' := 60) dX6_hasThen_59 rfl rfl ?_
      refine zv_cV1_pi (pc' := 63) dX6_hasThen_60 rfl lkX6_127 (by first | rfl | assumption) rfl (Nat.le_of_ble_eq_true rfl) (x0_kinOf zCy13 h1 (zOk_years hk.1).1 (by rw [(zOk_years hk.1).2]; exact hp)) ?_
      refine zv_cS1_pi (pc' := 66) dX6_hasThen_63 rfl lkX6_130 (Nat.le_of_ble_eq_true rfl) (j6_bitM) ?_
      refine zv_iret dX6_hasThen_66 rfl ?_
      exact fin _ rfl
  · intro h
    have h0 := mt (neg_w0 _ hw).mpr h
    refine zv_aload_n (pc' := 28) dX6_hasThen_27 rfl rfl ?_
    refine zv_iload (pc' := 30) dX6_hasThen_28 rfl rfl ?_
    refine zv_cV1_fi (pc' := 33) dX6_hasThen_30 rfl lkX6_84 (by first | rfl | assumption) rfl (Nat.le_of_ble_eq_true rfl) (x6_refuse hw h0) ?_
    rintro r M1 ⟨rfl, rfl⟩
    refine zv_iret dX6_hasThen_33 rfl ?_
    exact zrefx hI h0
theorem gx_areKin (x y n : Int32) : zGx mdX6_areKin (d + 5) [.int x, .int y, .int n] (sp_areKin x y n) := by
  intro M s hI hk
  have hn := hk.1.1
  have hA := hI.1
  refine zex_intro (L := [some (.ref 0), some (.int x), some (.int y), some (.int n), none]) (by decide) (Nat.le_of_ble_eq_true rfl) rfl ?_
  refine zv_aload_n (pc' := 1) dX6_areKin_0 rfl rfl ?_
  refine zv_iload_n (pc' := 2) dX6_areKin_1 rfl rfl ?_
  refine zv_iload_n (pc' := 3) dX6_areKin_2 rfl rfl ?_
  refine zv_cV2_pi (pc' := 6) dX6_areKin_3 rfl lkX6_138 (by first | rfl | assumption) rfl (Nat.le_of_ble_eq_true rfl) (x6_notTwo hA) ?_
  refine zv_iload_n (pc' := 7) dX6_areKin_6 rfl rfl ?_
  refine zv_iconst (v := nI 0) (pc' := 8) dX6_areKin_7 rfl (by decide) ?_
  refine zv_bipush (v := nI 60) (pc' := 10) dX6_areKin_8 rfl (by decide) ?_
  refine zv_cS3_pi (pc' := 13) dX6_areKin_10 rfl lkX6_73 (Nat.le_of_ble_eq_true rfl) (x6_outside) ?_
  refine zv_iconst (v := nI 0) (pc' := 14) dX6_areKin_13 rfl (by decide) ?_
  refine zv_top (show nI 0 = -nI 0 by decide) ?_
  refine zv_cS3_pi (pc' := 17) dX6_areKin_14 rfl lkX6_81 (Nat.le_of_ble_eq_true rfl) (x6_firstOf twN_lt bdN_lt) ?_
  have hw := fiN_lt (twN_lt (n := yN (sC s)) (x := x) (y := y)) (bdN_lt (x := n) (lo := nI 0) (hi := nI 60)) (by decide : 0 < 7)
  refine zv_istore (pc' := 19) dX6_areKin_17 rfl (by decide) ?_
  refine zv_iload (pc' := 21) dX6_areKin_19 rfl rfl ?_
  refine zv_if_eq (pc' := 24) (tgt := 31) dX6_areKin_21 rfl rfl ?_ ?_
  · intro h
    have h0 := (neg_w0 _ hw).mp h
    obtain ⟨g1, g2, -⟩ := fiN_0.mp h0
    obtain ⟨p, q, hp, hq, hpq, rfl, rfl⟩ := twoB_of hn (twN_0.mp g1)
    obtain ⟨n, -, hn2, rfl⟩ := isInB_of (by decide) (bdN_0.mp g2) (by decide)
    refine zv_aload_n (pc' := 32) dX6_areKin_31 rfl rfl ?_
    refine zv_iload_n (pc' := 33) dX6_areKin_32 rfl rfl ?_
    refine zv_cV1_fv (pc' := 36) dX6_areKin_33 rfl lkX6_174 (by first | rfl | assumption) rfl (Nat.le_of_ble_eq_true rfl) (x6_thinkAhead hA hk.1 (by omega)) ?_
    rintro M1 ⟨h1, h2⟩
    refine zv_aload_n (pc' := 37) dX6_areKin_36 rfl rfl ?_
    refine zv_getR (pc' := 40) dX6_areKin_37 rfl flX6_19 (by first | rfl | assumption) rfl ?_
    refine zv_iload_n (pc' := 41) dX6_areKin_40 rfl rfl ?_
    refine zv_iload_n (pc' := 42) dX6_areKin_41 rfl rfl ?_
    refine zv_cV2_pi (pc' := 45) dX6_areKin_42 rfl lkX6_152 (by first | rfl | assumption) rfl (Nat.le_of_ble_eq_true rfl) (x0_isKin zCy13 h1 (zOk_years hk.1).1 (by rw [(zOk_years hk.1).2]; exact hp) (by rw [(zOk_years hk.1).2]; exact hq) hpq) ?_
    refine zv_cS1_pi (pc' := 48) dX6_areKin_45 rfl lkX6_145 (Nat.le_of_ble_eq_true rfl) (x6_bit) ?_
    refine zv_iret dX6_areKin_48 rfl ?_
    exact zdonq (by rw [sp_areKin, zans_0 h0, pN_nI (by omega), pN_nI (by omega), pN_nI (by omega)]) hI (zScr.same h2 (by omega))
  · intro h
    have h0 := mt (neg_w0 _ hw).mpr h
    refine zv_aload_n (pc' := 25) dX6_areKin_24 rfl rfl ?_
    refine zv_iload (pc' := 27) dX6_areKin_25 rfl rfl ?_
    refine zv_cV1_fi (pc' := 30) dX6_areKin_27 rfl lkX6_84 (by first | rfl | assumption) rfl (Nat.le_of_ble_eq_true rfl) (x6_refuse hw h0) ?_
    rintro r M1 ⟨rfl, rfl⟩
    refine zv_iret dX6_areKin_30 rfl ?_
    exact zrefx hI h0
theorem gx_allMoney (n : Int32) : zGx mdX6_allMoney (d + 5) [.int n] (sp_allMoney n) := by
  intro M s hI hk
  have hn := hk.1.1
  have hA := hI.1
  refine zex_intro (L := [some (.ref 0), some (.int n), none]) (by decide) (Nat.le_of_ble_eq_true rfl) rfl ?_
  refine zv_iload_n (pc' := 1) dX6_allMoney_0 rfl rfl ?_
  refine zv_iconst (v := nI 0) (pc' := 2) dX6_allMoney_1 rfl (by decide) ?_
  refine zv_bipush (v := nI 60) (pc' := 4) dX6_allMoney_2 rfl (by decide) ?_
  refine zv_cS3_pi (pc' := 7) dX6_allMoney_4 rfl lkX6_73 (Nat.le_of_ble_eq_true rfl) (x6_outside) ?_
  have hw := bdN_lt (x := n) (lo := nI 0) (hi := nI 60)
  refine zv_istore_n (pc' := 8) dX6_allMoney_7 rfl (by decide) ?_
  refine zv_iload_n (pc' := 9) dX6_allMoney_8 rfl rfl ?_
  refine zv_if_eq (pc' := 12) (tgt := 18) dX6_allMoney_9 rfl rfl ?_ ?_
  · intro h
    have h0 := (neg_w0 _ hw).mp h
    obtain ⟨n, -, hn2, rfl⟩ := isInB_of (by decide) (bdN_0.mp h0) (by decide)
    refine zv_aload_n (pc' := 19) dX6_allMoney_18 rfl rfl ?_
    refine zv_iload_n (pc' := 20) dX6_allMoney_19 rfl rfl ?_
    refine zv_cV1_fv (pc' := 23) dX6_allMoney_20 rfl lkX6_174 (by first | rfl | assumption) rfl (Nat.le_of_ble_eq_true rfl) (x6_thinkAhead hA hk.1 (by omega)) ?_
    rintro M1 ⟨h1, h2⟩
    refine zv_aload_n (pc' := 24) dX6_allMoney_23 rfl rfl ?_
    refine zv_getR (pc' := 27) dX6_allMoney_24 rfl flX6_19 (by first | rfl | assumption) rfl ?_
    refine zv_cV0_pi (pc' := 30) dX6_allMoney_27 rfl lkX6_171 (by first | rfl | assumption) rfl (Nat.le_of_ble_eq_true rfl) (x0_wealth zCy13 h1 (by rw [(zOk_years hk.1).2]; exact hn)) ?_
    refine zv_iret dX6_allMoney_30 rfl ?_
    exact zdonq (by rw [sp_allMoney, zans_0 h0, pN_nI (by omega)]) hI (zScr.same h2 (by omega))
  · intro h
    have h0 := mt (neg_w0 _ hw).mpr h
    refine zv_aload_n (pc' := 13) dX6_allMoney_12 rfl rfl ?_
    refine zv_iload_n (pc' := 14) dX6_allMoney_13 rfl rfl ?_
    refine zv_cV1_fi (pc' := 17) dX6_allMoney_14 rfl lkX6_84 (by first | rfl | assumption) rfl (Nat.le_of_ble_eq_true rfl) (x6_refuse hw h0) ?_
    rintro r M1 ⟨rfl, rfl⟩
    refine zv_iret dX6_allMoney_17 rfl ?_
    exact zrefx hI h0
theorem gx_ruined (x : Int32) : zGx mdX6_ruined (d + 3) [.int x] (sp_ruined x) := by
  intro M s hI hk
  have hn := hk.1.1
  have hA := hI.1
  refine zex_intro (L := [some (.ref 0), some (.int x), none, none]) (by decide) (Nat.le_of_ble_eq_true rfl) rfl ?_
  refine zv_aload_n (pc' := 1) dX6_ruined_0 rfl rfl ?_
  refine zv_iload_n (pc' := 2) dX6_ruined_1 rfl rfl ?_
  refine zv_cV1_pi (pc' := 5) dX6_ruined_2 rfl lkX6_111 (by first | rfl | assumption) rfl (Nat.le_of_ble_eq_true rfl) (x6_nobody hA) ?_
  have hw := nbN_lt (n := yN (sC s)) (x := x)
  refine zv_istore_n (pc' := 6) dX6_ruined_5 rfl (by decide) ?_
  refine zv_iload_n (pc' := 7) dX6_ruined_6 rfl rfl ?_
  refine zv_if_eq (pc' := 10) (tgt := 16) dX6_ruined_7 rfl rfl ?_ ?_
  · intro h
    have h0 := (neg_w0 _ hw).mp h
    obtain ⟨p, hp, rfl⟩ := hasB_of hn (nbN_0.mp h0)
    have fin : ∀ (v : Int32) (M1 : ZMem), v = optI (ruinC (sC s) p) → zSame 13 19 M M1 → ∃ r, some (Value.int v) = some (Value.int r) ∧ (r = (sp_ruined (nI p) s).1 ∧ zIx M1 (sp_ruined (nI p) s).2 ∧ zSame 0 90 M M1) := fun v M1 hv h2 => zdonq (by rw [sp_ruined, zans_0 h0, pN_nI (by omega), hv]) hI (zScr.same h2 (by omega))
    have lp : ∀ r k M1, k + r = 61 → zAt M1 13 (yearsC k (sC s)) → zSame 13 19 M M1 → zfst r k (fun k => decide (yM (yearsC k (sC s)) p = 0)) = ruinC (sC s) p → ZV mdX6_ruined (d + 3) (fun v M' => ∃ r, v = some (.int r) ∧ (r = (sp_ruined (nI p) s).1 ∧ zIx M' (sp_ruined (nI p) s).2 ∧ zSame 0 90 M M')) 29 [some (.ref 0), some (.int (nI p)), none, some (.int (nI k))] [] M1 := by
      intro r
      induction r with
      | zero =>
        intro k M1 e hA1 hs1 hz
        have e : k = 61 := by omega
        subst e
        refine zv_iload_n (pc' := 30) dX6_ruined_29 rfl rfl ?_
        refine zv_bipush (v := nI 60) (pc' := 32) dX6_ruined_30 rfl (by decide) ?_
        refine zv_icmp_gt (pc' := 35) (tgt := 63) dX6_ruined_32 rfl rfl (fun _ => ?_) (fun hcc => absurd (by decide) hcc)
        refine zv_bipush (v := (-9 : Int32)) (pc' := 65) dX6_ruined_63 rfl (by decide) ?_
        refine zv_iret dX6_ruined_65 rfl ?_
        exact fin _ M1 (by rw [← hz]; rfl) hs1
      | succ r ih =>
        intro k M1 e hA1 hs1 hz
        have hM := hA1.2.2.2.2.1
        have hM9 := (zOk_years (k := k) hk.1).1.2.2.2.1 p
        refine zv_iload_n (pc' := 30) dX6_ruined_29 rfl rfl ?_
        refine zv_bipush (v := nI 60) (pc' := 32) dX6_ruined_30 rfl (by decide) ?_
        refine zv_icmp_gt (pc' := 35) (tgt := 63) dX6_ruined_32 rfl rfl (fun hcc => absurd hcc (nI_nlt (by omega) (by omega))) (fun _ => ?_)
        refine zv_aload_n (pc' := 36) dX6_ruined_35 rfl rfl ?_
        refine zv_getR (pc' := 39) dX6_ruined_36 rfl flX6_19 (by first | rfl | assumption) rfl ?_
        refine zv_getR (pc' := 42) dX6_ruined_39 rfl flX6_124 (by first | rfl | assumption) rfl ?_
        refine zv_iload_n (pc' := 43) dX6_ruined_42 rfl rfl ?_
        refine zv_ialoadE (pc' := 44) dX6_ruined_43 rfl (by first | rfl | assumption) (by decide) (by omega) (by first | exact hM _ (by omega) | rfl) ?_
        refine zv_if_ne (pc' := 47) (tgt := 49) dX6_ruined_44 rfl rfl ?_ ?_
        · intro h
          have hne : ¬ yM (yearsC k (sC s)) p = 0 := fun z => h (by rw [z]; rfl)
          refine zv_aload_n (pc' := 50) dX6_ruined_49 rfl rfl ?_
          refine zv_getR (pc' := 53) dX6_ruined_50 rfl flX6_19 (by first | rfl | assumption) rfl ?_
          refine zv_iconst (v := (-1 : Int32)) (pc' := 54) dX6_ruined_53 rfl (by decide) ?_
          refine zv_cV1_fv (pc' := 57) dX6_ruined_54 rfl lkX6_177 (by first | rfl | assumption) rfl (Nat.le_of_ble_eq_true rfl) (x0_passYear (dd := 100) zCy13 hA1 (zOk_years hk.1).1 (Or.inr rfl)) ?_
          rintro M2 ⟨h1, h2⟩
          refine zv_iinc (w := nI 1) (pc' := 60) dX6_ruined_57 rfl rfl (by decide) (by decide) ?_
          refine zv_goto (pc' := 29) dX6_ruined_60 rfl ?_
          rw [nI_add]
          rw [zfst, if_neg (by simp [hne])] at hz
          exact ih (k + 1) M2 (by omega) (by rw [yearsC_succ]; exact h1) (hs1.tr h2) hz
        · intro h
          have he : yM (yearsC k (sC s)) p = 0 := (nI_eq (b := 0) (by omega) (by decide)).mp h
          refine zv_iload_n (pc' := 48) dX6_ruined_47 rfl rfl ?_
          refine zv_iret dX6_ruined_48 rfl ?_
          rw [zfst, if_pos (by simp [he])] at hz
          exact fin _ M1 (by rw [← hz]; rfl) hs1
    refine zv_aload_n (pc' := 17) dX6_ruined_16 rfl rfl ?_
    refine zv_getR (pc' := 20) dX6_ruined_17 rfl flX6_19 (by first | rfl | assumption) rfl ?_
    refine zv_aload_n (pc' := 21) dX6_ruined_20 rfl rfl ?_
    refine zv_getR (pc' := 24) dX6_ruined_21 rfl flX6_10 (by first | rfl | assumption) rfl ?_
    refine zv_cV1_fv (pc' := 27) dX6_ruined_24 rfl lkX6_100 (by first | rfl | assumption) rfl (Nat.le_of_ble_eq_true rfl) (x0_become zCy13 zCy1 hA (by omega)) ?_
    rintro M1 ⟨h1, h2⟩
    refine zv_iconst (v := nI 0) (pc' := 28) dX6_ruined_27 rfl (by decide) ?_
    refine zv_istore_n (pc' := 29) dX6_ruined_28 rfl (by decide) ?_
    refine zv_fg [2] ?_
    exact lp 61 0 M1 (by omega) h1 h2 rfl
  · intro h
    have h0 := mt (neg_w0 _ hw).mpr h
    refine zv_aload_n (pc' := 11) dX6_ruined_10 rfl rfl ?_
    refine zv_iload_n (pc' := 12) dX6_ruined_11 rfl rfl ?_
    refine zv_cV1_fi (pc' := 15) dX6_ruined_12 rfl lkX6_84 (by first | rfl | assumption) rfl (Nat.le_of_ble_eq_true rfl) (x6_refuse hw h0) ?_
    rintro r M1 ⟨rfl, rfl⟩
    refine zv_iret dX6_ruined_15 rfl ?_
    exact zrefx hI h0
theorem x6_steadyAfter {M : ZMem} {c : ZCty} (hA : zAt M 1 c) (hk : zOk c) : ZFi mdX6_steadyAfter (d + 3) [.ref 0] M (fun r M' => r = optI (steadyC c) ∧ zSame 13 25 M M') := by
  have lp : ∀ r k M1, k + r = 61 → zAt M1 13 (yearsC k c) → zSame 13 25 M M1 → zfst r k (fun k => asB (yearC 100 (yearsC k c)) (yearsC k c)) = steadyC c → ZV mdX6_steadyAfter (d + 3) (fun v M' => ∃ r, v = some (.int r) ∧ (r = optI (steadyC c) ∧ zSame 13 25 M M')) 13 [some (.ref 0), some (.int (nI k))] [] M1 := by
    intro r
    induction r with
    | zero =>
      intro k M1 e hA1 hs1 hz
      have e : k = 61 := by omega
      subst e
      refine zv_iload_n (pc' := 14) dX6_steadyAfter_13 rfl rfl ?_
      refine zv_bipush (v := nI 60) (pc' := 16) dX6_steadyAfter_14 rfl (by decide) ?_
      refine zv_icmp_gt (pc' := 19) (tgt := 60) dX6_steadyAfter_16 rfl rfl (fun _ => ?_) (fun hcc => absurd (by decide) hcc)
      refine zv_bipush (v := (-9 : Int32)) (pc' := 62) dX6_steadyAfter_60 rfl (by decide) ?_
      refine zv_iret dX6_steadyAfter_62 rfl ?_
      exact ⟨_, rfl, by rw [← hz]; rfl, hs1⟩
    | succ r ih =>
      intro k M1 e hA1 hs1 hz
      have hkk := (zOk_years (k := k) hk).1
      refine zv_iload_n (pc' := 14) dX6_steadyAfter_13 rfl rfl ?_
      refine zv_bipush (v := nI 60) (pc' := 16) dX6_steadyAfter_14 rfl (by decide) ?_
      refine zv_icmp_gt (pc' := 19) (tgt := 60) dX6_steadyAfter_16 rfl rfl (fun hcc => absurd hcc (nI_nlt (by omega) (by omega))) (fun _ => ?_)
      refine zv_aload_n (pc' := 20) dX6_steadyAfter_19 rfl rfl ?_
      refine zv_getR (pc' := 23) dX6_steadyAfter_20 rfl flX6_22 (by first | rfl | assumption) rfl ?_
      refine zv_aload_n (pc' := 24) dX6_steadyAfter_23 rfl rfl ?_
      refine zv_getR (pc' := 27) dX6_steadyAfter_24 rfl flX6_19 (by first | rfl | assumption) rfl ?_
      refine zv_cV1_fv (pc' := 30) dX6_steadyAfter_27 rfl lkX6_100 (by first | rfl | assumption) rfl (Nat.le_of_ble_eq_true rfl) (x0_become zCy19 zCy13 hA1 (by omega)) ?_
      rintro M2 ⟨h1, h2⟩
      refine zv_aload_n (pc' := 31) dX6_steadyAfter_30 rfl rfl ?_
      refine zv_getR (pc' := 34) dX6_steadyAfter_31 rfl flX6_19 (by first | rfl | assumption) rfl ?_
      refine zv_iconst (v := (-1 : Int32)) (pc' := 35) dX6_steadyAfter_34 rfl (by decide) ?_
      refine zv_cV1_fv (pc' := 38) dX6_steadyAfter_35 rfl lkX6_177 (by first | rfl | assumption) rfl (Nat.le_of_ble_eq_true rfl) (x0_passYear (dd := 100) zCy13 (hA1.same h2 (by omega)) hkk (Or.inr rfl)) ?_
      rintro M3 ⟨h3, h4⟩
      refine zv_aload_n (pc' := 39) dX6_steadyAfter_38 rfl rfl ?_
      refine zv_getR (pc' := 42) dX6_steadyAfter_39 rfl flX6_19 (by first | rfl | assumption) rfl ?_
      refine zv_aload_n (pc' := 43) dX6_steadyAfter_42 rfl rfl ?_
      refine zv_getR (pc' := 46) dX6_steadyAfter_43 rfl flX6_22 (by first | rfl | assumption) rfl ?_
      refine zv_cV1_pi (pc' := 49) dX6_steadyAfter_46 rfl lkX6_291 (by first | rfl | assumption) rfl (Nat.le_of_ble_eq_true rfl) (x0_isAs zCy13 zCy19 h3 (h1.same h4 (by omega)) (zOk_year hkk).1 hkk) ?_
      have hs3 : zSame 13 25 M M3 := (hs1.tr (h2.wide (by omega) (by omega))).tr (h4.wide (by omega) (by omega))
      refine zv_if_eq (pc' := 52) (tgt := 54) dX6_steadyAfter_49 rfl rfl ?_ ?_
      · intro h
        refine zv_iinc (w := nI 1) (pc' := 57) dX6_steadyAfter_54 rfl rfl (by decide) (by decide) ?_
        refine zv_goto (pc' := 13) dX6_steadyAfter_57 rfl ?_
        rw [nI_add]
        rw [zfst, if_neg (by rw [zb_0.mp h]; decide)] at hz
        exact ih (k + 1) M3 (by omega) (by rw [yearsC_succ]; exact h3) hs3 hz
      · intro h
        refine zv_iload_n (pc' := 53) dX6_steadyAfter_52 rfl rfl ?_
        refine zv_iret dX6_steadyAfter_53 rfl ?_
        rw [zfst, if_pos (zb_ne.mp h)] at hz
        exact ⟨_, rfl, by rw [← hz]; rfl, hs3⟩
  refine zex_intro (L := [some (.ref 0), none]) (by decide) (Nat.le_of_ble_eq_true rfl) rfl ?_
  refine zv_aload_n (pc' := 1) dX6_steadyAfter_0 rfl rfl ?_
  refine zv_getR (pc' := 4) dX6_steadyAfter_1 rfl flX6_19 (by first | rfl | assumption) rfl ?_
  refine zv_aload_n (pc' := 5) dX6_steadyAfter_4 rfl rfl ?_
  refine zv_getR (pc' := 8) dX6_steadyAfter_5 rfl flX6_10 (by first | rfl | assumption) rfl ?_
  refine zv_cV1_fv (pc' := 11) dX6_steadyAfter_8 rfl lkX6_100 (by first | rfl | assumption) rfl (Nat.le_of_ble_eq_true rfl) (x0_become zCy13 zCy1 hA (by omega)) ?_
  rintro M1 ⟨h1, h2⟩
  refine zv_iconst (v := nI 0) (pc' := 12) dX6_steadyAfter_11 rfl (by decide) ?_
  refine zv_istore_n (pc' := 13) dX6_steadyAfter_12 rfl (by decide) ?_
  exact lp 61 0 M1 (by omega) h1 (h2.wide (by omega) (by omega)) rfl
/-- what the pair of frN is -/
theorem frN_char {c : ZCty} : ∀ {n : Nat}, (frN c n = none → ∀ q, q < n → frK c q = none) ∧ (∀ p k, frN c n = some (p, k) → p < n ∧ frK c p = some k ∧ ∀ q j, q < n → frK c q = some j → k ≤ j ∧ (j = k → p ≤ q))
  | 0 => ⟨fun _ q hq => by omega, fun p k h => by cases h⟩
  | n + 1 => by
    obtain ⟨ih1, ih2⟩ := frN_char (c := c) (n := n)
    cases hK : frK c n with
    | none =>
      have e : frN c (n + 1) = frN c n := by simp only [frN, hK]
      rw [e]
      refine ⟨fun h q hq => ?_, fun p k h => ?_⟩
      · by_cases e : q = n
        · rw [e, hK]
        · exact ih1 h q (by omega)
      · obtain ⟨a, b, f⟩ := ih2 p k h
        refine ⟨by omega, b, fun q j hq hj => ?_⟩
        by_cases e : q = n
        · rw [e, hK] at hj; cases hj
        · exact f q j (by omega) hj
    | some k0 =>
      cases hF : frN c n with
      | none =>
        have e : frN c (n + 1) = some (n, k0) := by simp only [frN, hK, hF]
        rw [e]
        refine ⟨fun h => by (cases h), fun p k h => ?_⟩
        cases h
        refine ⟨by omega, hK, fun q j hq hj => ?_⟩
        by_cases e : q = n
        · rw [e, hK] at hj; cases hj; exact ⟨Nat.le_refl _, fun _ => by omega⟩
        · rw [ih1 hF q (by omega)] at hj; cases hj
      | some bj =>
        obtain ⟨b, j0⟩ := bj
        obtain ⟨a, b1, f⟩ := ih2 b j0 hF
        by_cases hle : j0 ≤ k0
        · have e : frN c (n + 1) = some (b, j0) := by simp only [frN, hK, hF, hle, if_true]
          rw [e]
          refine ⟨fun h => by (cases h), fun p k h => ?_⟩
          cases h
          refine ⟨by omega, b1, fun q j hq hj => ?_⟩
          by_cases e : q = n
          · rw [e, hK] at hj; cases hj; exact ⟨hle, fun _ => by omega⟩
          · exact f q j (by omega) hj
        · have e : frN c (n + 1) = some (n, k0) := by simp only [frN, hK, hF, hle, if_false]
          rw [e]
          refine ⟨fun h => by (cases h), fun p k h => ?_⟩
          cases h
          refine ⟨by omega, hK, fun q j hq hj => ?_⟩
          by_cases e : q = n
          · rw [e, hK] at hj; cases hj; exact ⟨Nat.le_refl _, fun _ => by omega⟩
          · have := f q j (by omega) hj
            exact ⟨by omega, fun z => by omega⟩
theorem frN_eq {c : ZCty} {n p k : Nat} (hp : p < n) (hk : frK c p = some k) (hm : ∀ q j, q < n → frK c q = some j → k ≤ j ∧ (j = k → p ≤ q)) : frN c n = some (p, k) := by
  obtain ⟨h1, h2⟩ := frN_char (c := c) (n := n)
  cases hF : frN c n with
  | none => rw [h1 hF p hp] at hk; cases hk
  | some bj =>
    obtain ⟨b, j⟩ := bj
    obtain ⟨a, b1, f⟩ := h2 b j hF
    have g1 := f p k hp hk
    have g2 := hm b j a b1
    have e1 : j = k := by omega
    have e2 : b = p := by
      have := g1.2 e1.symm
      have := g2.2 e1
      omega
    rw [e1, e2]
theorem frN_no {c : ZCty} {n : Nat} (h : ∀ q, q < n → frK c q = none) : frN c n = none := by
  cases hF : frN c n with
  | none => rfl
  | some bj =>
    obtain ⟨a, b1, -⟩ := (frN_char (c := c) (n := n)).2 bj.1 bj.2 hF
    rw [h _ a] at b1; cases b1
theorem x6_firstRuin {M : ZMem} {c : ZCty} {w : Nat} (hA : zAt M 1 c) (hk : zOk c) (hw : w < 2) : ZFi mdX6_firstRuin (d + 3) [.ref 0, .int (nI w)] M (fun r M' => r = firV c w ∧ zSame 13 19 M M') := by
  have hn := hk.1
  have hM9 := hk.2.2.2.1
  -- nobody with money is ruined before year k
  have lp : ∀ r k M1, k + r = 61 → 1 ≤ k → zAt M1 13 (yearsC (k - 1) c) → zSame 13 19 M M1 → (∀ q, q < yN c → yM c q ≠ 0 → ∀ j, j < k → yM (yearsC j c) q ≠ 0) → ZV mdX6_firstRuin (d + 3) (fun v M' => ∃ r, v = some (.int r) ∧ (r = firV c w ∧ zSame 13 19 M M')) 13 [some (.ref 0), some (.int (nI w)), some (.int (nI k)), none] [] M1 := by
    intro r
    induction r with
    | zero =>
      intro k M1 e h1k hA1 hs1 hq
      have e : k = 61 := by omega
      subst e
      refine zv_iload_n (pc' := 14) dX6_firstRuin_13 rfl rfl ?_
      refine zv_bipush (v := nI 60) (pc' := 16) dX6_firstRuin_14 rfl (by decide) ?_
      refine zv_icmp_gt (pc' := 19) (tgt := 86) dX6_firstRuin_16 rfl rfl (fun _ => ?_) (fun hcc => absurd (by decide) hcc)
      refine zv_bipush (v := (-9 : Int32)) (pc' := 88) dX6_firstRuin_86 rfl (by decide) ?_
      refine zv_iret dX6_firstRuin_88 rfl ?_
      have hno : frN c (yN c) = none := frN_no (fun q hq1 => by
        unfold frK
        split
        · rfl
        · rename_i hne
          refine zfst_none.mpr (fun j _ hj => ?_)
          simp only [decide_eq_false_iff_not]
          exact hq q hq1 hne j (by omega))
      refine ⟨_, rfl, ?_, hs1⟩
      rcases (show w = 0 ∨ w = 1 by omega) with rfl | rfl <;> simp [firV, hno, optI]
    | succ r ih =>
      intro k M1 e h1k hA1 hs1 hq
      have hkk := zOk_years (k := k - 1) hk
      refine zv_iload_n (pc' := 14) dX6_firstRuin_13 rfl rfl ?_
      refine zv_bipush (v := nI 60) (pc' := 16) dX6_firstRuin_14 rfl (by decide) ?_
      refine zv_icmp_gt (pc' := 19) (tgt := 86) dX6_firstRuin_16 rfl rfl (fun hcc => absurd hcc (nI_nlt (by omega) (by omega))) (fun _ => ?_)
      refine zv_aload_n (pc' := 20) dX6_firstRuin_19 rfl rfl ?_
      refine zv_getR (pc' := 23) dX6_firstRuin_20 rfl flX6_19 (by first | rfl | assumption) rfl ?_
      refine zv_iconst (v := (-1 : Int32)) (pc' := 24) dX6_firstRuin_23 rfl (by decide) ?_
      refine zv_cV1_fv (pc' := 27) dX6_firstRuin_24 rfl lkX6_177 (by first | rfl | assumption) rfl (Nat.le_of_ble_eq_true rfl) (x0_passYear (dd := 100) zCy13 hA1 hkk.1 (Or.inr rfl)) ?_
      rintro M2 ⟨h1, h2⟩
      rw [← yearsC_succ, show k - 1 + 1 = k by omega] at h1
      have hs2 := hs1.tr h2
      have hkk2 := zOk_years (k := k) hk
      have hA2 : zAt M2 1 c := hA.same hs2 (by omega)
      have hN := hA2.1
      have hM := hA2.2.2.2.2.1
      have hM2 := h1.2.2.2.2.1
      have inner : ∀ r2 i, i + r2 = yN c → (∀ q, q < i → yM c q ≠ 0 → yM (yearsC k c) q ≠ 0) → ZV mdX6_firstRuin (d + 3) (fun v M' => ∃ r, v = some (.int r) ∧ (r = firV c w ∧ zSame 13 19 M M')) 29 [some (.ref 0), some (.int (nI w)), some (.int (nI k)), some (.int (nI i))] [] M2 := by
        intro r2
        induction r2 with
        | zero =>
          intro i ei hi
          have ei : i = yN c := by omega
          subst ei
          refine zv_iload_n (pc' := 30) dX6_firstRuin_29 rfl rfl ?_
          refine zv_aload_n (pc' := 31) dX6_firstRuin_30 rfl rfl ?_
          refine zv_getR (pc' := 34) dX6_firstRuin_31 rfl flX6_10 (by first | rfl | assumption) rfl ?_
          refine zv_getIE (pc' := 37) dX6_firstRuin_34 rfl flX6_186 (by first | rfl | assumption) rfl (by first | exact hN | exact hM _ (by omega) | exact hM2 _ (by omega) | rfl) ?_
          refine zv_icmp_ge (pc' := 40) (tgt := 80) dX6_firstRuin_37 rfl rfl (fun _ => ?_) (fun hcc => absurd (Int32.le_refl _) hcc)
          refine zv_iinc (w := nI 1) (pc' := 83) dX6_firstRuin_80 rfl rfl (by decide) (by decide) ?_
          refine zv_goto (pc' := 13) dX6_firstRuin_83 rfl ?_
          rw [nI_add]
          refine zv_fg [3] ?_
          refine ih (k + 1) M2 (by omega) (by omega) (by rw [show k + 1 - 1 = k by omega]; exact h1) hs2 (fun q h3 h4 j hj => ?_)
          by_cases ej : j = k
          · rw [ej]; exact hi q h3 h4
          · exact hq q h3 h4 j (by omega)
        | succ r2 ih2 =>
          intro i ei hi
          have q1 := hM9 i
          have q2 := hkk2.1.2.2.2.1 i
          have next : (yM c i ≠ 0 → yM (yearsC k c) i ≠ 0) → ZV mdX6_firstRuin (d + 3) (fun v M' => ∃ r, v = some (.int r) ∧ (r = firV c w ∧ zSame 13 19 M M')) 74 [some (.ref 0), some (.int (nI w)), some (.int (nI k)), some (.int (nI i))] [] M2 := by
            intro hx
            refine zv_iinc (w := nI 1) (pc' := 77) dX6_firstRuin_74 rfl rfl (by decide) (by decide) ?_
            refine zv_goto (pc' := 29) dX6_firstRuin_77 rfl ?_
            rw [nI_add]
            refine ih2 (i + 1) (by omega) (fun q h3 h4 => ?_)
            by_cases e : q = i
            · rw [e] at h4 ⊢; exact hx h4
            · exact hi q (by omega) h4
          refine zv_iload_n (pc' := 30) dX6_firstRuin_29 rfl rfl ?_
          refine zv_aload_n (pc' := 31) dX6_firstRuin_30 rfl rfl ?_
          refine zv_getR (pc' := 34) dX6_firstRuin_31 rfl flX6_10 (by first | rfl | assumption) rfl ?_
          refine zv_getIE (pc' := 37) dX6_firstRuin_34 rfl flX6_186 (by first | rfl | assumption) rfl (by first | exact hN | exact hM _ (by omega) | exact hM2 _ (by omega) | rfl) ?_
          refine zv_icmp_ge (pc' := 40) (tgt := 80) dX6_firstRuin_37 rfl rfl (fun hcc => absurd hcc (nI_ge (by omega) (by omega))) (fun _ => ?_)
          refine zv_aload_n (pc' := 41) dX6_firstRuin_40 rfl rfl ?_
          refine zv_getR (pc' := 44) dX6_firstRuin_41 rfl flX6_10 (by first | rfl | assumption) rfl ?_
          refine zv_getR (pc' := 47) dX6_firstRuin_44 rfl flX6_124 (by first | rfl | assumption) rfl ?_
          refine zv_iload_n (pc' := 48) dX6_firstRuin_47 rfl rfl ?_
          refine zv_ialoadE (pc' := 49) dX6_firstRuin_48 rfl (by first | rfl | assumption) (by decide) (by omega) (by first | exact hN | exact hM _ (by omega) | exact hM2 _ (by omega) | rfl) ?_
          refine zv_if_le (pc' := 52) (tgt := 74) dX6_firstRuin_49 rfl rfl ?_ ?_
          · intro h
            have h := (nI_leI (b := 0) (by omega) (by decide)).mp h
            exact next (fun z => absurd (by omega) z)
          · intro h
            have h := mt (nI_leI (a := yM c i) (b := 0) (by omega) (by decide)).mpr h
            refine zv_aload_n (pc' := 53) dX6_firstRuin_52 rfl rfl ?_
            refine zv_getR (pc' := 56) dX6_firstRuin_53 rfl flX6_19 (by first | rfl | assumption) rfl ?_
            refine zv_getR (pc' := 59) dX6_firstRuin_56 rfl flX6_124 (by first | rfl | assumption) rfl ?_
            refine zv_iload_n (pc' := 60) dX6_firstRuin_59 rfl rfl ?_
            refine zv_ialoadE (pc' := 61) dX6_firstRuin_60 rfl (by first | rfl | assumption) (by decide) (by omega) (by first | exact hN | exact hM _ (by omega) | exact hM2 _ (by omega) | rfl) ?_
            refine zv_if_ne (pc' := 64) (tgt := 74) dX6_firstRuin_61 rfl rfl ?_ ?_
            · intro h3
              exact next (fun _ z => h3 (by rw [z]; rfl))
            · intro h3
              have h3 : yM (yearsC k c) i = 0 := (nI_eq (b := 0) (by omega) (by decide)).mp h3
              have key : frN c (yN c) = some (i, k) := by
                refine frN_eq (by omega) ?_ (fun q j h4 h5 => ?_)
                · unfold frK
                  rw [if_neg (by omega)]
                  exact zfst_some.mpr ⟨by omega, by omega, by simp [h3], fun j _ hj => by simp only [decide_eq_false_iff_not]; exact hq i (by omega) (by omega) j hj⟩
                · unfold frK at h5
                  split at h5
                  · cases h5
                  · rename_i hne
                    obtain ⟨a1, a2, a3, a4⟩ := zfst_some.mp h5
                    simp only [decide_eq_true_eq] at a3
                    refine ⟨?_, fun ej => ?_⟩
                    · rcases Nat.lt_or_ge j k with z | z
                      · exact absurd a3 (hq q h4 hne j z)
                      · exact z
                    · rcases Nat.lt_or_ge q i with z | z
                      · rw [ej] at a3
                        exact absurd a3 (hi q z hne)
                      · exact z
              refine zv_iload_n (pc' := 65) dX6_firstRuin_64 rfl rfl ?_
              rcases (show w = 0 ∨ w = 1 by omega) with rfl | rfl
              · refine zv_if_ne (pc' := 68) (tgt := 72) dX6_firstRuin_65 rfl rfl (fun hcc => absurd (rfl) hcc) (fun _ => ?_)
                refine zv_iload_n (pc' := 69) dX6_firstRuin_68 rfl rfl ?_
                refine zv_goto (pc' := 73) dX6_firstRuin_69 rfl ?_
                refine zv_iret dX6_firstRuin_73 rfl ?_
                exact ⟨_, rfl, by simp [firV, key, optI], hs2⟩
              · refine zv_if_ne (pc' := 68) (tgt := 72) dX6_firstRuin_65 rfl rfl (fun _ => ?_) (fun hcc => absurd hcc (by decide))
                refine zv_iload_n (pc' := 73) dX6_firstRuin_72 rfl rfl ?_
                refine zv_iret dX6_firstRuin_73 rfl ?_
                exact ⟨_, rfl, by simp [firV, key, optI], hs2⟩
      refine zv_iconst (v := nI 0) (pc' := 28) dX6_firstRuin_27 rfl (by decide) ?_
      refine zv_istore_n (pc' := 29) dX6_firstRuin_28 rfl (by decide) ?_
      exact inner (yN c) 0 (by omega) (fun q h => by omega)
  refine zex_intro (L := [some (.ref 0), some (.int (nI w)), none, none]) (by decide) (Nat.le_of_ble_eq_true rfl) rfl ?_
  refine zv_aload_n (pc' := 1) dX6_firstRuin_0 rfl rfl ?_
  refine zv_getR (pc' := 4) dX6_firstRuin_1 rfl flX6_19 (by first | rfl | assumption) rfl ?_
  refine zv_aload_n (pc' := 5) dX6_firstRuin_4 rfl rfl ?_
  refine zv_getR (pc' := 8) dX6_firstRuin_5 rfl flX6_10 (by first | rfl | assumption) rfl ?_
  refine zv_cV1_fv (pc' := 11) dX6_firstRuin_8 rfl lkX6_100 (by first | rfl | assumption) rfl (Nat.le_of_ble_eq_true rfl) (x0_become zCy13 zCy1 hA (by omega)) ?_
  rintro M1 ⟨h1, h2⟩
  refine zv_iconst (v := nI 1) (pc' := 12) dX6_firstRuin_11 rfl (by decide) ?_
  refine zv_istore_n (pc' := 13) dX6_firstRuin_12 rfl (by decide) ?_
  refine lp 60 1 M1 (by omega) (by omega) h1 h2 (fun q h3 h4 j hj => ?_)
  rw [show j = 0 by omega]
  exact h4
theorem gx_first (x : Int32) : zGx mdX6_first (d + 4) [.int x] (sp_first x) := by
  intro M s hI hk
  have hA := hI.1
  refine zex_intro (L := [some (.ref 0), some (.int x), none]) (by decide) (Nat.le_of_ble_eq_true rfl) rfl ?_
  refine zv_iload_n (pc' := 1) dX6_first_0 rfl rfl ?_
  refine zv_iconst (v := nI 2) (pc' := 2) dX6_first_1 rfl (by decide) ?_
  refine zv_cS2_pi (pc' := 5) dX6_first_2 rfl lkX6_114 (Nat.le_of_ble_eq_true rfl) (x6_otherThan) ?_
  have hw := otN_lt (x := x) (n := 2)
  refine zv_istore_n (pc' := 6) dX6_first_5 rfl (by decide) ?_
  refine zv_iload_n (pc' := 7) dX6_first_6 rfl rfl ?_
  refine zv_if_eq (pc' := 10) (tgt := 16) dX6_first_7 rfl rfl ?_ ?_
  · intro h
    have h0 := (neg_w0 _ hw).mp h
    obtain ⟨w, -, hw2, rfl⟩ := isInB_of (by decide) (otN_0.mp h0) (by decide)
    have fin : ∀ (v : Int32) (M1 : ZMem), v = firV (sC s) w → zScr M M1 → ∃ r, some (Value.int v) = some (Value.int r) ∧ (r = (sp_first (nI w) s).1 ∧ zIx M1 (sp_first (nI w) s).2 ∧ zSame 0 90 M M1) := fun v M1 hv h2 => zdonq (by rw [sp_first, zans_0 h0, pN_nI (by omega), hv]) hI h2
    refine zv_iload_n (pc' := 17) dX6_first_16 rfl rfl ?_
    refine zv_iconst (v := nI 2) (pc' := 18) dX6_first_17 rfl (by decide) ?_
    by_cases h2 : w = 2
    · subst h2
      refine zv_icmp_ne (pc' := 21) (tgt := 28) dX6_first_18 rfl rfl (fun hcc => absurd (rfl) hcc) (fun _ => ?_)
      refine zv_aload_n (pc' := 22) dX6_first_21 rfl rfl ?_
      refine zv_cV0_fi (pc' := 25) dX6_first_22 rfl lkX6_180 (by first | rfl | assumption) rfl (Nat.le_of_ble_eq_true rfl) (x6_steadyAfter hA hk.1) ?_
      rintro r M1 ⟨rfl, h3⟩
      refine zv_goto (pc' := 33) dX6_first_25 rfl ?_
      refine zv_iret dX6_first_33 rfl ?_
      exact fin _ M1 rfl (zScr.same h3 (by omega))
    · refine zv_icmp_ne (pc' := 21) (tgt := 28) dX6_first_18 rfl rfl (fun _ => ?_) (fun hcc => absurd hcc (fun z => h2 ((nI_eq (by omega) (by omega)).mp z)))
      refine zv_aload_n (pc' := 29) dX6_first_28 rfl rfl ?_
      refine zv_iload_n (pc' := 30) dX6_first_29 rfl rfl ?_
      refine zv_cV1_fi (pc' := 33) dX6_first_30 rfl lkX6_183 (by first | rfl | assumption) rfl (Nat.le_of_ble_eq_true rfl) (x6_firstRuin hA hk.1 (by omega)) ?_
      rintro r M1 ⟨rfl, h3⟩
      refine zv_iret dX6_first_33 rfl ?_
      exact fin _ M1 rfl (zScr.same h3 (by omega))
  · intro h
    have h0 := mt (neg_w0 _ hw).mpr h
    refine zv_aload_n (pc' := 11) dX6_first_10 rfl rfl ?_
    refine zv_iload_n (pc' := 12) dX6_first_11 rfl rfl ?_
    refine zv_cV1_fi (pc' := 15) dX6_first_12 rfl lkX6_84 (by first | rfl | assumption) rfl (Nat.le_of_ble_eq_true rfl) (x6_refuse hw h0) ?_
    rintro r M1 ⟨rfl, rfl⟩
    refine zv_iret dX6_first_15 rfl ?_
    exact zrefx hI h0
/-- the most so far -/
def rmV (f : Nat → Nat) : Option Nat → Int32
  | none => -1
  | some b => nI (f b)
theorem rmx_lt {f : Nat → Nat} : ∀ {k b : Nat}, rmx f k = some b → b < k
  | 0, b, h => by cases h
  | k + 1, b, h => by
    simp only [rmx] at h
    cases hx : rmx f k with
    | none => simp only [hx] at h; cases h; omega
    | some b' =>
      simp only [hx] at h
      split at h
      · cases h; omega
      · cases h; have := rmx_lt hx; omega
theorem gx_richest (n : Int32) : zGx mdX6_richest (d + 5) [.int n] (sp_richest n) := by
  intro M s hI hk
  have hn := hk.1.1
  have hA := hI.1
  refine zex_intro (L := [some (.ref 0), some (.int n), none, none, none, none]) (by decide) (Nat.le_of_ble_eq_true rfl) rfl ?_
  refine zv_iload_n (pc' := 1) dX6_richest_0 rfl rfl ?_
  refine zv_iconst (v := nI 0) (pc' := 2) dX6_richest_1 rfl (by decide) ?_
  refine zv_bipush (v := nI 60) (pc' := 4) dX6_richest_2 rfl (by decide) ?_
  refine zv_cS3_pi (pc' := 7) dX6_richest_4 rfl lkX6_73 (Nat.le_of_ble_eq_true rfl) (x6_outside) ?_
  have hw := bdN_lt (x := n) (lo := nI 0) (hi := nI 60)
  refine zv_istore_n (pc' := 8) dX6_richest_7 rfl (by decide) ?_
  refine zv_iload_n (pc' := 9) dX6_richest_8 rfl rfl ?_
  refine zv_if_eq (pc' := 12) (tgt := 18) dX6_richest_9 rfl rfl ?_ ?_
  · intro h
    have h0 := (neg_w0 _ hw).mp h
    obtain ⟨n, -, hn2, rfl⟩ := isInB_of (by decide) (bdN_0.mp h0) (by decide)
    refine zv_aload_n (pc' := 19) dX6_richest_18 rfl rfl ?_
    refine zv_iload_n (pc' := 20) dX6_richest_19 rfl rfl ?_
    refine zv_cV1_fv (pc' := 23) dX6_richest_20 rfl lkX6_174 (by first | rfl | assumption) rfl (Nat.le_of_ble_eq_true rfl) (x6_thinkAhead hA hk.1 (by omega)) ?_
    rintro M1 ⟨h1, h2⟩
    have hkk := zOk_years (k := n) hk.1
    have hN := h1.1
    rw [hkk.2] at hN
    have hM := h1.2.2.2.2.1
    have lp : ∀ r k, k + r = yN (sC s) → ZV mdX6_richest (d + 5) (fun v M' => ∃ r, v = some (.int r) ∧ (r = (sp_richest (nI n) s).1 ∧ zIx M' (sp_richest (nI n) s).2 ∧ zSame 0 90 M M')) 32 [some (.ref 0), some (.int (nI n)), none, some (.int (optI (rmx (yM (yearsC n (sC s))) k))), some (.int (rmV (yM (yearsC n (sC s))) (rmx (yM (yearsC n (sC s))) k))), some (.int (nI k))] [] M1 := by
      intro r
      induction r with
      | zero =>
        intro k e
        have e : k = yN (sC s) := by omega
        subst e
        refine zv_iload (pc' := 34) dX6_richest_32 rfl rfl ?_
        refine zv_aload_n (pc' := 35) dX6_richest_34 rfl rfl ?_
        refine zv_getR (pc' := 38) dX6_richest_35 rfl flX6_19 (by first | rfl | assumption) rfl ?_
        refine zv_getIE (pc' := 41) dX6_richest_38 rfl flX6_186 (by first | rfl | assumption) rfl (by first | exact hN | exact hM _ (by omega) | rfl) ?_
        refine zv_icmp_ge (pc' := 44) (tgt := 80) dX6_richest_41 rfl rfl (fun _ => ?_) (fun hcc => absurd (Int32.le_refl _) hcc)
        refine zv_iload_n (pc' := 81) dX6_richest_80 rfl rfl ?_
        refine zv_iret dX6_richest_81 rfl ?_
        exact zdonq (by rw [sp_richest, zans_0 h0, pN_nI (by omega)]) hI (zScr.same h2 (by omega))
      | succ r ih =>
        intro k e
        have g1 := hkk.1.2.2.2.1 k
        refine zv_iload (pc' := 34) dX6_richest_32 rfl rfl ?_
        refine zv_aload_n (pc' := 35) dX6_richest_34 rfl rfl ?_
        refine zv_getR (pc' := 38) dX6_richest_35 rfl flX6_19 (by first | rfl | assumption) rfl ?_
        refine zv_getIE (pc' := 41) dX6_richest_38 rfl flX6_186 (by first | rfl | assumption) rfl (by first | exact hN | exact hM _ (by omega) | rfl) ?_
        refine zv_icmp_ge (pc' := 44) (tgt := 80) dX6_richest_41 rfl rfl (fun hcc => absurd hcc (nI_ge (by omega) (by omega))) (fun _ => ?_)
        refine zv_aload_n (pc' := 45) dX6_richest_44 rfl rfl ?_
        refine zv_getR (pc' := 48) dX6_richest_45 rfl flX6_19 (by first | rfl | assumption) rfl ?_
        refine zv_getR (pc' := 51) dX6_richest_48 rfl flX6_124 (by first | rfl | assumption) rfl ?_
        refine zv_iload (pc' := 53) dX6_richest_51 rfl rfl ?_
        refine zv_ialoadE (pc' := 54) dX6_richest_53 rfl (by first | rfl | assumption) (by decide) (by omega) (by first | exact hN | exact hM _ (by omega) | rfl) ?_
        refine zv_iload (pc' := 56) dX6_richest_54 rfl rfl ?_
        have up : ¬ nI (yM (yearsC n (sC s)) k) ≤ rmV (yM (yearsC n (sC s))) (rmx (yM (yearsC n (sC s))) k) → rmx (yM (yearsC n (sC s))) (k + 1) = some k := by
          intro hz
          cases hx : rmx (yM (yearsC n (sC s))) k with
          | none => simp only [rmx, hx]
          | some b =>
            have g2 := hkk.1.2.2.2.1 b
            rw [hx] at hz
            have hz := mt (nI_leI (a := yM (yearsC n (sC s)) k) (b := yM (yearsC n (sC s)) b) (by omega) (by omega)).mpr hz
            simp only [rmx, hx]
            rw [if_pos (by omega)]
        have dn : nI (yM (yearsC n (sC s)) k) ≤ rmV (yM (yearsC n (sC s))) (rmx (yM (yearsC n (sC s))) k) → rmx (yM (yearsC n (sC s))) (k + 1) = rmx (yM (yearsC n (sC s))) k := by
          intro hz
          cases hx : rmx (yM (yearsC n (sC s))) k with
          | none =>
            rw [hx] at hz
            exact absurd hz ((by decide : ∀ v, v < 100 → ¬ nI v ≤ -1) _ (by omega))
          | some b =>
            have g2 := hkk.1.2.2.2.1 b
            rw [hx] at hz
            have hz := (nI_leI (by omega) (by omega)).mp hz
            simp only [rmx, hx]
            rw [if_neg (by omega)]
        refine zv_icmp_le (pc' := 59) (tgt := 74) dX6_richest_56 rfl rfl ?_ ?_
        · intro h
          refine zv_iinc (w := nI 1) (pc' := 77) dX6_richest_74 rfl rfl (by decide) (by decide) ?_
          refine zv_goto (pc' := 32) dX6_richest_77 rfl ?_
          rw [nI_add, ← dn h]
          exact ih (k + 1) (by omega)
        · intro h
          have e1 := up h
          refine zv_aload_n (pc' := 60) dX6_richest_59 rfl rfl ?_
          refine zv_getR (pc' := 63) dX6_richest_60 rfl flX6_19 (by first | rfl | assumption) rfl ?_
          refine zv_getR (pc' := 66) dX6_richest_63 rfl flX6_124 (by first | rfl | assumption) rfl ?_
          refine zv_iload (pc' := 68) dX6_richest_66 rfl rfl ?_
          refine zv_ialoadE (pc' := 69) dX6_richest_68 rfl (by first | rfl | assumption) (by decide) (by omega) (by first | exact hN | exact hM _ (by omega) | rfl) ?_
          refine zv_istore (pc' := 71) dX6_richest_69 rfl (by decide) ?_
          refine zv_iload (pc' := 73) dX6_richest_71 rfl rfl ?_
          refine zv_istore_n (pc' := 74) dX6_richest_73 rfl (by decide) ?_
          refine zv_iinc (w := nI 1) (pc' := 77) dX6_richest_74 rfl rfl (by decide) (by decide) ?_
          refine zv_goto (pc' := 32) dX6_richest_77 rfl ?_
          have h3 := ih (k + 1) (by omega)
          rw [e1] at h3
          rw [nI_add]
          exact h3
    refine zv_bipush (v := (-9 : Int32)) (pc' := 25) dX6_richest_23 rfl (by decide) ?_
    refine zv_istore_n (pc' := 26) dX6_richest_25 rfl (by decide) ?_
    refine zv_iconst (v := (-1 : Int32)) (pc' := 27) dX6_richest_26 rfl (by decide) ?_
    refine zv_istore (pc' := 29) dX6_richest_27 rfl (by decide) ?_
    refine zv_iconst (v := nI 0) (pc' := 30) dX6_richest_29 rfl (by decide) ?_
    refine zv_istore (pc' := 32) dX6_richest_30 rfl (by decide) ?_
    refine zv_fg [2] ?_
    exact lp (yN (sC s)) 0 (by omega)
  · intro h
    have h0 := mt (neg_w0 _ hw).mpr h
    refine zv_aload_n (pc' := 13) dX6_richest_12 rfl rfl ?_
    refine zv_iload_n (pc' := 14) dX6_richest_13 rfl rfl ?_
    refine zv_cV1_fi (pc' := 17) dX6_richest_14 rfl lkX6_84 (by first | rfl | assumption) rfl (Nat.le_of_ble_eq_true rfl) (x6_refuse hw h0) ?_
    rintro r M1 ⟨rfl, rfl⟩
    refine zv_iret dX6_richest_17 rfl ?_
    exact zrefx hI h0
end
