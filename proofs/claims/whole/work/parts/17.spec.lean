/-! the state that both sides show, and why calls are refused -/
abbrev ZS : Type := ZCty × Option ZCty × (Nat × (Nat → Nat)) × (Nat × (Nat → Nat)) × (Nat → Int32)
abbrev sC (s : ZS) : ZCty := s.1
abbrev sI (s : ZS) : Option ZCty := s.2.1
abbrev sL (s : ZS) : Nat × (Nat → Nat) := s.2.2.1
abbrev sR (s : ZS) : Nat × (Nat → Nat) := s.2.2.2.1
abbrev sW (s : ZS) : Nat → Int32 := s.2.2.2.2
def refS (s : ZS) (w : Nat) : ZS := (sC s, sI s, sL s, sR s, fun j => if j = w then sW s w + 1 else sW s j)
def zans (w : Nat) (s : ZS) (v : Int32) (s' : ZS) : Int32 × ZS := if w = 0 then (v, s') else (-nI w, refS s w)
def nbN (n : Nat) (x : Int32) : Nat := if hasB n x = true then 0 else 1
def twN (n : Nat) (x y : Int32) : Nat := if twoB n x y = true then 0 else 1
def otN (x : Int32) (h : Nat) : Nat := if isInB x (nI 0) (nI h) = true then 0 else 2
def fiN (a b c : Nat) : Nat := if a = 0 then (if b = 0 then c else b) else a
theorem nbN_lt {n : Nat} {x : Int32} : nbN n x < 7 := by unfold nbN; split <;> omega
theorem twN_lt {n : Nat} {x y : Int32} : twN n x y < 7 := by unfold twN; split <;> omega
theorem otN_lt {n : Nat} {x : Int32} : otN x n < 7 := by unfold otN; split <;> omega
theorem fiN_lt {a b c : Nat} (ha : a < 7) (hb : b < 7) (hc : c < 7) : fiN a b c < 7 := by unfold fiN; split <;> (try split) <;> assumption
theorem fiN_0 {a b c : Nat} : fiN a b c = 0 ↔ a = 0 ∧ b = 0 ∧ c = 0 := by unfold fiN; split <;> (try split) <;> omega
theorem nbN_0 {n : Nat} {x : Int32} : nbN n x = 0 ↔ hasB n x = true := by unfold nbN; split <;> simp_all
theorem twN_0 {n : Nat} {x y : Int32} : twN n x y = 0 ↔ twoB n x y = true := by unfold twN; split <;> simp_all
theorem otN_0 {h : Nat} {x : Int32} : otN x h = 0 ↔ isInB x (nI 0) (nI h) = true := by unfold otN; split <;> simp_all
theorem bdN_0 {x lo hi : Int32} : bdN x lo hi = 0 ↔ isInB x lo hi = true := by
  unfold bdN isInB
  by_cases h1 : x < lo
  · simp [h1]
  · by_cases h2 : hi < x
    · simp [h1, h2]
    · simp [h1, h2]
theorem isInB_of {x : Int32} {a b : Nat} (hb : b < 2 ^ 31) (h : isInB x (nI a) (nI b) = true) (ha : a ≤ b) : ∃ k, a ≤ k ∧ k ≤ b ∧ x = nI k := by
  simp only [isInB, Bool.and_eq_true, decide_eq_true_eq] at h
  have h0 : ¬ x < 0 := fun z => h.1 (Int32.lt_of_lt_of_le z (nI_pos' (by omega)))
  obtain ⟨j, hj, rfl⟩ := nI_of h0
  have h1 := mt (nI_ltI (a := j) (b := a) hj (by omega)).mpr h.1
  have h2 := mt (nI_ltI (a := b) (b := j) (by omega) hj).mpr h.2
  exact ⟨j, by omega, by omega, rfl⟩
theorem isInB_in {k a b : Nat} (hb : b < 2 ^ 31) (h1 : a ≤ k) (h2 : k ≤ b) : isInB (nI k) (nI a) (nI b) = true := by
  simp only [isInB, Bool.and_eq_true, decide_eq_true_eq]
  exact ⟨nI_nlt h1 (by omega), nI_nlt h2 hb⟩
def zIx (M : ZMem) (s : ZS) : Prop := zAt M 1 (sC s) ∧ (M 0 4 = zb (sI s).isSome ∧ ∀ ci, sI s = some ci → zAt M 7 ci) ∧ (M 25 1 = nI (sL s).1 ∧ ∀ j, j < (sL s).1 → M 26 j = nI ((sL s).2 j)) ∧ (M 0 7 = nI (sR s).1 ∧ ∀ j, j < (sR s).1 → M 27 j = nI ((sR s).2 j)) ∧ (∀ w, w < 7 → M 28 w = sW s w)
def zIm (M : ZMem) (s : ZS) : Prop := zAm M (sC s) ∧ M 90 8 = absM 100 ∧ (M 90 17 = zb (sI s).isSome ∧ ∀ ci, sI s = some ci → zKp M 0 ci) ∧ (M 90 13 = nI (sL s).1 ∧ ∀ j, j < (sL s).1 → M 97 j = nI ((sL s).2 j)) ∧ (M 90 26 = nI (sR s).1 ∧ ∀ j, j < (sR s).1 → M 107 j = nI ((sR s).2 j)) ∧ (∀ w, w < 7 → M 91 w = sW s w)
def zSk (s : ZS) : Prop := zOk (sC s) ∧ yY (sC s) ≤ 999 ∧ (∀ ci, sI s = some ci → zOk ci ∧ yY ci ≤ 999) ∧ ((sL s).1 ≤ 96 ∧ ∀ j, (sL s).2 j ≤ 255) ∧ ((sR s).1 ≤ 16 ∧ ∀ j, (sR s).2 j ≤ 99)
/-- what a question of the class leaves as it was -/
def zScr (M M' : ZMem) : Prop := ∀ k, (k ≤ 12 ∨ (25 ≤ k ∧ k ≤ 28) ∨ 90 ≤ k) → M' k = M k
theorem zScr.rf {M : ZMem} : zScr M M := fun _ _ => rfl
theorem zScr.tr {M M1 M2 : ZMem} (h1 : zScr M M1) (h2 : zScr M1 M2) : zScr M M2 := fun k hk => (h2 k hk).trans (h1 k hk)
theorem zScr.same {lo hi : Nat} {M M' : ZMem} (h : zSame lo hi M M') (hd : (13 ≤ lo ∧ hi ≤ 25) ∨ (29 ≤ lo ∧ hi ≤ 90)) : zScr M M' := fun k hk => h k (by omega)
theorem zScr.up {M : ZMem} {b k : Nat} {v : Int32} (hd : (13 ≤ b ∧ b < 25) ∨ (29 ≤ b ∧ b < 90)) : zScr M (zup M b k v) := fun x hx => zup_ne (by omega)
theorem zScr.upf {M : ZMem} {b : Nat} {f : Nat → Int32} (hd : (13 ≤ b ∧ b < 25) ∨ (29 ≤ b ∧ b < 90)) : zScr M (zupf M b f) := fun x hx => zupf_ne (by omega)
theorem zIx.scr {M M' : ZMem} {s : ZS} (h : zIx M s) (hs : zScr M M') : zIx M' s := by
  obtain ⟨h1, h2, h3, h4, h5⟩ := h
  have e : ∀ k, k ≤ 12 ∨ (25 ≤ k ∧ k ≤ 28) → M' k = M k := fun k hk => hs k (by omega)
  have hz : ∀ o, o + 6 ≤ 13 → ∀ c, zAt M o c → zAt M' o c := by
    intro o ho c hA
    obtain ⟨a1, a2, a3, a4, a5, a6, a7⟩ := hA
    exact ⟨by rw [e _ (by omega)]; exact a1, by rw [e _ (by omega)]; exact a2, by rw [e _ (by omega)]; exact a3, by rw [e _ (by omega)]; exact a4, by rw [e _ (by omega)]; exact a5, by rw [e _ (by omega)]; exact a6, by rw [e _ (by omega)]; exact a7⟩
  exact ⟨hz 1 (by omega) _ h1, ⟨by rw [e _ (by omega)]; exact h2.1, fun ci hc => hz 7 (by omega) _ (h2.2 ci hc)⟩, by rw [e 25 (by omega), e 26 (by omega)]; exact h3, by rw [e 0 (by omega), e 27 (by omega)]; exact h4, by rw [e 28 (by omega)]; exact h5⟩
theorem zScr.s90 {M M' : ZMem} (h : zScr M M') : zSame 0 90 M M' := fun k hk => h k (by omega)
theorem zIm.same {M M' : ZMem} {s : ZS} (h : zIm M s) (hs : zSame 0 90 M M') : zIm M' s := by
  have e : ∀ k, 90 ≤ k → M' k = M k := fun k hk => hs k (by omega)
  unfold zIm zAm zKp
  rw [e 90 (by omega), e 91 (by omega), e 92 (by omega), e 93 (by omega), e 94 (by omega), e 95 (by omega), e 96 (by omega), e 97 (by omega), e 101 (by omega), e 107 (by omega)]
  exact h
theorem zIx.same {M M' : ZMem} {s : ZS} (h : zIx M s) (hs : ∀ k, k < 90 → M' k = M k) : zIx M' s := by
  obtain ⟨h1, h2, h3, h4, h5⟩ := h
  have hz : ∀ o, o + 6 ≤ 13 → ∀ c, zAt M o c → zAt M' o c := by
    intro o ho c hA
    obtain ⟨a1, a2, a3, a4, a5, a6, a7⟩ := hA
    exact ⟨by rw [hs _ (by omega)]; exact a1, by rw [hs _ (by omega)]; exact a2, by rw [hs _ (by omega)]; exact a3, by rw [hs _ (by omega)]; exact a4, by rw [hs _ (by omega)]; exact a5, by rw [hs _ (by omega)]; exact a6, by rw [hs _ (by omega)]; exact a7⟩
  exact ⟨hz 1 (by omega) _ h1, ⟨by rw [hs _ (by omega)]; exact h2.1, fun ci hc => hz 7 (by omega) _ (h2.2 ci hc)⟩, by rw [hs 25 (by omega), hs 26 (by omega)]; exact h3, by rw [hs 0 (by omega), hs 27 (by omega)]; exact h4, by rw [hs 28 (by omega)]; exact h5⟩
theorem zSk_ref {s : ZS} {w : Nat} (h : zSk s) : zSk (refS s w) := h
theorem zSk_ans {w : Nat} {s s' : ZS} {v : Int32} (h : zSk s) (h' : w = 0 → zSk s') : zSk (zans w s v s').2 := by
  unfold zans
  split
  · exact h' (by assumption)
  · exact zSk_ref h
theorem zrefx {M : ZMem} {s s' : ZS} {v : Int32} {w : Nat} (hI : zIx M s) (hw : w ≠ 0) : ∃ r, some (Value.int (-nI w)) = some (Value.int r) ∧ (r = (zans w s v s').1 ∧ zIx (zup M 28 w (M 28 w + 1)) (zans w s v s').2 ∧ zSame 0 90 M (zup M 28 w (M 28 w + 1))) := by
  rw [zans, if_neg hw]
  refine ⟨_, rfl, rfl, ?_, zSame.up (by omega) (by omega)⟩
  obtain ⟨h1, h2, h3, h4, h5⟩ := hI
  have hs : ∀ k, k ≠ 28 → zup M 28 w (M 28 w + 1) k = M k := fun k hk => zup_ne hk
  have hz : ∀ o, o + 6 ≤ 13 → ∀ c, zAt M o c → zAt (zup M 28 w (M 28 w + 1)) o c := by
    intro o ho c hA
    obtain ⟨a1, a2, a3, a4, a5, a6, a7⟩ := hA
    exact ⟨by rw [hs _ (by omega)]; exact a1, by rw [hs _ (by omega)]; exact a2, by rw [hs _ (by omega)]; exact a3, by rw [hs _ (by omega)]; exact a4, by rw [hs _ (by omega)]; exact a5, by rw [hs _ (by omega)]; exact a6, by rw [hs _ (by omega)]; exact a7⟩
  refine ⟨hz 1 (by omega) _ h1, ⟨by rw [hs _ (by omega)]; exact h2.1, fun ci hc => hz 7 (by omega) _ (h2.2 ci hc)⟩, by rw [hs 25 (by omega), hs 26 (by omega)]; exact h3, by rw [hs 0 (by omega), hs 27 (by omega)]; exact h4, fun j hj => ?_⟩
  rw [zup_eq]
  show upd (M 28) w (M 28 w + 1) j = if j = w then sW s w + 1 else sW s j
  unfold upd
  split
  · rename_i e
    rw [← e, h5 j hj]
  · exact h5 j hj
theorem zrefm {M : ZMem} {s s' : ZS} {v : Int32} {w : Nat} (hI : zIm M s) (hw : w ≠ 0) : ∃ r, some (Value.int (-nI w)) = some (Value.int r) ∧ (r = (zans w s v s').1 ∧ zIm (zup M 91 w (M 91 w + 1)) (zans w s v s').2 ∧ ∀ k, k < 90 → zup M 91 w (M 91 w + 1) k = M k) := by
  rw [zans, if_neg hw]
  refine ⟨_, rfl, rfl, ?_, fun k hk => zup_ne (by omega)⟩
  obtain ⟨h1, h2, h3, h4, h5, h6⟩ := hI
  have hs : zFr [91] [] M (zup M 91 w (M 91 w + 1)) := zFr.up (by decide) (by decide)
  refine ⟨h1.same hs (by simp; omega) (by simp), by rw [hs.2 _ (by simp)]; exact h2, ⟨by rw [hs.2 _ (by simp)]; exact h3.1, fun ci hc => (h3.2 ci hc).same (fun i _ _ => by rw [hs.1 _ (by decide) (by decide)])⟩, by rw [hs.2 _ (by simp), hs.1 97 (by decide) (by decide)]; exact h4, by rw [hs.2 _ (by simp), hs.1 107 (by decide) (by decide)]; exact h5, fun j hj => ?_⟩
  rw [zup_eq]
  show upd (M 91) w (M 91 w + 1) j = if j = w then sW s w + 1 else sW s j
  unfold upd
  split
  · rename_i e
    rw [← e, h6 j hj]
  · exact h6 j hj
/-- contracts of a public call -/
def zGx (m : ZMD) (d : Nat) (as : List Value) (sp : ZS → Int32 × ZS) : Prop := ∀ (M : ZMem) (s : ZS), zIx M s → zSk s → ZFi m d (.ref 0 :: as) M (fun r M' => r = (sp s).1 ∧ zIx M' (sp s).2 ∧ zSame 0 90 M M')
def zGm (m : ZMD) (d : Nat) (as : List Value) (sp : ZS → Int32 × ZS) : Prop := ∀ (M : ZMem) (s : ZS), zIm M s → zSk s → ZFi m d (.ref 90 :: as) M (fun r M' => r = (sp s).1 ∧ zIm M' (sp s).2 ∧ ∀ k, k < 90 → M' k = M k)
theorem zCy1 : zCy 1 := ⟨rfl, rfl, rfl, rfl, rfl, rfl⟩
theorem zCy7 : zCy 7 := ⟨rfl, rfl, rfl, rfl, rfl, rfl⟩
theorem zCy13 : zCy 13 := ⟨rfl, rfl, rfl, rfl, rfl, rfl⟩
theorem zCy19 : zCy 19 := ⟨rfl, rfl, rfl, rfl, rfl, rfl⟩
section
variable {M : ZMem} {c : ZCty} {d : Nat}
theorem x6_outside {x lo hi : Int32} : ZPi mdX6_outside d [.int x, .int lo, .int hi] M (-nI (bdN x lo hi)) := by
  refine zex_intro (L := [some (.int x), some (.int lo), some (.int hi)]) (by decide) (Nat.le_of_ble_eq_true rfl) rfl ?_
  refine zv_iload_n (pc' := 1) dX6_outside_0 rfl rfl ?_
  refine zv_iload_n (pc' := 2) dX6_outside_1 rfl rfl ?_
  refine zv_icmp_ge (pc' := 5) (tgt := 8) dX6_outside_2 rfl rfl ?_ ?_
  · intro h
    have h := Int32.not_lt.mpr h
    refine zv_iload_n (pc' := 9) dX6_outside_8 rfl rfl ?_
    refine zv_iload_n (pc' := 10) dX6_outside_9 rfl rfl ?_
    refine zv_icmp_le (pc' := 13) (tgt := 18) dX6_outside_10 rfl rfl ?_ ?_
    · intro h2
      have h2 := Int32.not_lt.mpr h2
      refine zv_iconst (v := nI 0) (pc' := 19) dX6_outside_18 rfl (by decide) ?_
      refine zv_iret dX6_outside_19 rfl ?_
      exact zpi_ret (by rw [bdN, if_neg h, if_neg h2]; decide)
    · intro h2
      refine zv_bipush (v := (-6 : Int32)) (pc' := 15) dX6_outside_13 rfl (by decide) ?_
      refine zv_goto (pc' := 19) dX6_outside_15 rfl ?_
      refine zv_iret dX6_outside_19 rfl ?_
      exact zpi_ret (by rw [bdN, if_neg h, if_pos (Int32.not_le.mp h2)]; decide)
  · intro h
    refine zv_bipush (v := (-4 : Int32)) (pc' := 7) dX6_outside_5 rfl (by decide) ?_
    refine zv_iret dX6_outside_7 rfl ?_
    exact zpi_ret (by rw [bdN, if_pos (Int32.not_le.mp h)]; decide)
theorem x6_otherThan {x : Int32} {k : Nat} : ZPi mdX6_otherThan d [.int x, .int (nI k)] M (-nI (otN x k)) := by
  refine zex_intro (L := [some (.int x), some (.int (nI k))]) (by decide) (Nat.le_of_ble_eq_true rfl) rfl ?_
  refine zv_iload_n (pc' := 1) dX6_otherThan_0 rfl rfl ?_
  refine zv_if_lt (pc' := 4) (tgt := 9) dX6_otherThan_1 rfl rfl ?_ ?_
  · intro h
    refine zv_bipush (v := (-2 : Int32)) (pc' := 11) dX6_otherThan_9 rfl (by decide) ?_
    refine zv_goto (pc' := 15) dX6_otherThan_11 rfl ?_
    refine zv_iret dX6_otherThan_15 rfl ?_
    exact zpi_ret (by rw [otN, if_neg]; decide; simp [isInB, nI_0, h])
  · intro h
    refine zv_iload_n (pc' := 5) dX6_otherThan_4 rfl rfl ?_
    refine zv_iload_n (pc' := 6) dX6_otherThan_5 rfl rfl ?_
    refine zv_icmp_le (pc' := 9) (tgt := 14) dX6_otherThan_6 rfl rfl ?_ ?_
    · intro h2
      have h2 := Int32.not_lt.mpr h2
      refine zv_iconst (v := nI 0) (pc' := 15) dX6_otherThan_14 rfl (by decide) ?_
      refine zv_iret dX6_otherThan_15 rfl ?_
      exact zpi_ret (by rw [otN, if_pos]; decide; simp only [isInB, nI_0, h, h2]; rfl)
    · intro h2
      have h2 := Int32.not_le.mp h2
      refine zv_bipush (v := (-2 : Int32)) (pc' := 11) dX6_otherThan_9 rfl (by decide) ?_
      refine zv_goto (pc' := 15) dX6_otherThan_11 rfl ?_
      refine zv_iret dX6_otherThan_15 rfl ?_
      exact zpi_ret (by rw [otN, if_neg]; decide; simp [isInB, h2])
theorem x6_firstOf {a b e : Nat} (ha : a < 7) (hb : b < 7) : ZPi mdX6_firstOf d [.int (-nI a), .int (-nI b), .int (-nI e)] M (-nI (fiN a b e)) := by
  refine zex_intro (L := [some (.int (-nI a)), some (.int (-nI b)), some (.int (-nI e))]) (by decide) (Nat.le_of_ble_eq_true rfl) rfl ?_
  refine zv_iload_n (pc' := 1) dX6_firstOf_0 rfl rfl ?_
  refine zv_if_eq (pc' := 4) (tgt := 6) dX6_firstOf_1 rfl rfl ?_ ?_
  · intro h
    have h := (neg_w0 a ha).mp h
    refine zv_iload_n (pc' := 7) dX6_firstOf_6 rfl rfl ?_
    refine zv_if_eq (pc' := 10) (tgt := 14) dX6_firstOf_7 rfl rfl ?_ ?_
    · intro h2
      have h2 := (neg_w0 b hb).mp h2
      refine zv_iload_n (pc' := 15) dX6_firstOf_14 rfl rfl ?_
      refine zv_iret dX6_firstOf_15 rfl ?_
      exact zpi_ret (by rw [fiN, if_pos h, if_pos h2])
    · intro h2
      have h2 := mt (neg_w0 b hb).mpr h2
      refine zv_iload_n (pc' := 11) dX6_firstOf_10 rfl rfl ?_
      refine zv_goto (pc' := 15) dX6_firstOf_11 rfl ?_
      refine zv_iret dX6_firstOf_15 rfl ?_
      exact zpi_ret (by rw [fiN, if_pos h, if_neg h2])
  · intro h
    have h := mt (neg_w0 a ha).mpr h
    refine zv_iload_n (pc' := 5) dX6_firstOf_4 rfl rfl ?_
    refine zv_iret dX6_firstOf_5 rfl ?_
    exact zpi_ret (by rw [fiN, if_neg h])
theorem x6_nobody {x : Int32} (hA : zAt M 1 c) : ZPi mdX6_nobody (d + 1) [.ref 0, .int x] M (-nI (nbN (yN c) x)) := by
  refine zex_intro (L := [some (.ref 0), some (.int x)]) (by decide) (Nat.le_of_ble_eq_true rfl) rfl ?_
  refine zv_aload_n (pc' := 1) dX6_nobody_0 rfl rfl ?_
  refine zv_getR (pc' := 4) dX6_nobody_1 rfl flX6_10 (by first | rfl | assumption) rfl ?_
  refine zv_iload_n (pc' := 5) dX6_nobody_4 rfl rfl ?_
  refine zv_cV1_pi (pc' := 8) dX6_nobody_5 rfl lkX6_269 (by first | rfl | assumption) rfl (Nat.le_of_ble_eq_true rfl) (x0_has zCy1 hA) ?_
  refine zv_if_eq (pc' := 11) (tgt := 15) dX6_nobody_8 rfl rfl ?_ ?_
  · intro h
    refine zv_iconst (v := (-1 : Int32)) (pc' := 16) dX6_nobody_15 rfl (by decide) ?_
    refine zv_iret dX6_nobody_16 rfl ?_
    exact zpi_ret (by rw [nbN, if_neg (by rw [zb_0.mp h]; decide)]; decide)
  · intro h
    refine zv_iconst (v := nI 0) (pc' := 12) dX6_nobody_11 rfl (by decide) ?_
    refine zv_goto (pc' := 16) dX6_nobody_12 rfl ?_
    refine zv_iret dX6_nobody_16 rfl ?_
    exact zpi_ret (by rw [nbN, if_pos (zb_ne.mp h)]; decide)
theorem x6_notTwo {x y : Int32} (hA : zAt M 1 c) : ZPi mdX6_notTwo (d + 2) [.ref 0, .int x, .int y] M (-nI (twN (yN c) x y)) := by
  refine zex_intro (L := [some (.ref 0), some (.int x), some (.int y)]) (by decide) (Nat.le_of_ble_eq_true rfl) rfl ?_
  refine zv_aload_n (pc' := 1) dX6_notTwo_0 rfl rfl ?_
  refine zv_getR (pc' := 4) dX6_notTwo_1 rfl flX6_10 (by first | rfl | assumption) rfl ?_
  refine zv_iload_n (pc' := 5) dX6_notTwo_4 rfl rfl ?_
  refine zv_iload_n (pc' := 6) dX6_notTwo_5 rfl rfl ?_
  refine zv_cV2_pi (pc' := 9) dX6_notTwo_6 rfl lkX6_288 (by first | rfl | assumption) rfl (Nat.le_of_ble_eq_true rfl) (x0_hasTwo zCy1 hA) ?_
  refine zv_if_eq (pc' := 12) (tgt := 16) dX6_notTwo_9 rfl rfl ?_ ?_
  · intro h
    refine zv_iconst (v := (-1 : Int32)) (pc' := 17) dX6_notTwo_16 rfl (by decide) ?_
    refine zv_iret dX6_notTwo_17 rfl ?_
    exact zpi_ret (by rw [twN, if_neg (by rw [zb_0.mp h]; decide)]; decide)
  · intro h
    refine zv_iconst (v := nI 0) (pc' := 13) dX6_notTwo_12 rfl (by decide) ?_
    refine zv_goto (pc' := 17) dX6_notTwo_13 rfl ?_
    refine zv_iret dX6_notTwo_17 rfl ?_
    exact zpi_ret (by rw [twN, if_pos (zb_ne.mp h)]; decide)
theorem x6_bit {b : Bool} : ZPi mdX6_bit d [.int (zb b)] M (zb b) := by
  refine zex_intro (L := [some (.int (zb b))]) (by decide) (Nat.le_of_ble_eq_true rfl) rfl ?_
  refine zv_iload_n (pc' := 1) dX6_bit_0 rfl rfl ?_
  refine zv_if_eq (pc' := 4) (tgt := 8) dX6_bit_1 rfl rfl ?_ ?_
  · intro h
    refine zv_iconst (v := nI 0) (pc' := 9) dX6_bit_8 rfl (by decide) ?_
    refine zv_iret dX6_bit_9 rfl ?_
    exact zpi_f (zb_0.mp h)
  · intro h
    refine zv_iconst (v := nI 1) (pc' := 5) dX6_bit_4 rfl (by decide) ?_
    refine zv_goto (pc' := 9) dX6_bit_5 rfl ?_
    refine zv_iret dX6_bit_9 rfl ?_
    exact zpi_t (zb_ne.mp h)
theorem x6_refuse {w : Nat} (hw : w < 7) (h0 : w ≠ 0) : ZFi mdX6_refuse d [.ref 0, .int (-nI w)] M (fun r M' => r = -nI w ∧ M' = zup M 28 w (M 28 w + 1)) := by
  refine zex_intro (L := [some (.ref 0), some (.int (-nI w))]) (by decide) (Nat.le_of_ble_eq_true rfl) rfl ?_
  refine zv_iload_n (pc' := 1) dX6_refuse_0 rfl rfl ?_
  refine zv_if_ge (pc' := 4) (tgt := 21) dX6_refuse_1 rfl rfl (fun hcc => absurd hcc ((by decide +kernel : ∀ w, w < 7 → w ≠ 0 → ¬ (0 : Int32) ≤ -nI w) w hw h0)) (fun _ => ?_)
  refine zv_iload_n (pc' := 5) dX6_refuse_4 rfl rfl ?_
  refine zv_bipush (v := (-6 : Int32)) (pc' := 7) dX6_refuse_5 rfl (by decide) ?_
  refine zv_icmp_lt (pc' := 10) (tgt := 21) dX6_refuse_7 rfl rfl (fun hcc => absurd hcc ((by decide +kernel : ∀ w, w < 7 → ¬ -nI w < (-6 : Int32)) w hw)) (fun _ => ?_)
  refine zv_aload_n (pc' := 11) dX6_refuse_10 rfl rfl ?_
  refine zv_getR (pc' := 14) dX6_refuse_11 rfl flX6_36 (by first | rfl | assumption) rfl ?_
  refine zv_iload_n (pc' := 15) dX6_refuse_14 rfl rfl ?_
  refine zv_ineg (pc' := 16) dX6_refuse_15 rfl ?_
  refine zv_top (Int32.neg_neg) ?_
  refine zv_dup2 (pc' := 17) dX6_refuse_16 rfl rfl rfl ?_
  refine zv_ialoadE (pc' := 18) dX6_refuse_17 rfl (by first | rfl | assumption) (by decide) (by omega) (by first | rfl) ?_
  refine zv_iconst (v := nI 1) (pc' := 19) dX6_refuse_18 rfl (by decide) ?_
  refine zv_iadd (pc' := 20) dX6_refuse_19 rfl ?_
  refine zv_iastoreN (pc' := 21) dX6_refuse_20 rfl (by first | rfl | assumption) (by decide) (by omega) ?_
  refine zv_iload_n (pc' := 22) dX6_refuse_21 rfl rfl ?_
  refine zv_iret dX6_refuse_22 rfl ?_
  exact ⟨_, rfl, rfl, rfl⟩
theorem x6_thinkAhead {n : Nat} (hA : zAt M 1 c) (hk : zOk c) (hn : n < 2 ^ 31) : ZFv mdX6_thinkAhead (d + 4) [.ref 0, .int (nI n)] M (fun M' => zAt M' 13 (yearsC n c) ∧ zSame 13 19 M M') := by
  refine zex_intro (L := [some (.ref 0), some (.int (nI n))]) (by decide) (Nat.le_of_ble_eq_true rfl) rfl ?_
  refine zv_aload_n (pc' := 1) dX6_thinkAhead_0 rfl rfl ?_
  refine zv_getR (pc' := 4) dX6_thinkAhead_1 rfl flX6_19 (by first | rfl | assumption) rfl ?_
  refine zv_aload_n (pc' := 5) dX6_thinkAhead_4 rfl rfl ?_
  refine zv_getR (pc' := 8) dX6_thinkAhead_5 rfl flX6_10 (by first | rfl | assumption) rfl ?_
  refine zv_cV1_fv (pc' := 11) dX6_thinkAhead_8 rfl lkX6_100 (by first | rfl | assumption) rfl (Nat.le_of_ble_eq_true rfl) (x0_become zCy13 zCy1 hA (by omega)) ?_
  rintro M1 ⟨h1, h2⟩
  refine zv_aload_n (pc' := 12) dX6_thinkAhead_11 rfl rfl ?_
  refine zv_getR (pc' := 15) dX6_thinkAhead_12 rfl flX6_19 (by first | rfl | assumption) rfl ?_
  refine zv_iload_n (pc' := 16) dX6_thinkAhead_15 rfl rfl ?_
  refine zv_cV1_fi (pc' := 19) dX6_thinkAhead_16 rfl lkX6_168 (by first | rfl | assumption) rfl (Nat.le_of_ble_eq_true rfl) (x0_passYears zCy13 h1 hk hn) ?_
  rintro r M2 ⟨rfl, h3, h4⟩
  refine zv_pop (pc' := 20) dX6_thinkAhead_19 rfl rfl ?_
  refine zv_vret dX6_thinkAhead_20 rfl ?_
  exact ⟨rfl, h3, h2.tr h4⟩
theorem x1_isFull {n : Nat} (hn : n ≤ 96) (hL : M 25 1 = nI n) : ZPi mdX1_isFull d [.ref 25] M (zb (decide (96 ≤ n))) := by
  refine zex_intro (L := [some (.ref 25)]) (by decide) (Nat.le_of_ble_eq_true rfl) rfl ?_
  refine zv_aload_n (pc' := 1) dX1_isFull_0 rfl rfl ?_
  refine zv_getIE (pc' := 4) dX1_isFull_1 rfl flX1_15 (by first | rfl | assumption) rfl (by first | exact hL | rfl) ?_
  refine zv_bipush (v := nI 96) (pc' := 6) dX1_isFull_4 rfl (by decide) ?_
  refine zv_icmp_lt (pc' := 9) (tgt := 13) dX1_isFull_6 rfl rfl ?_ ?_
  · intro h
    have h := (nI_ltI (by omega) (by omega)).mp h
    refine zv_iconst (v := nI 0) (pc' := 14) dX1_isFull_13 rfl (by decide) ?_
    refine zv_ireturn dX1_isFull_14 rfl (by first | rfl | exact zb_nar _) ?_
    exact zpi_f (by simp; omega)
  · intro h
    have h := mt (nI_ltI (a := n) (b := 96) (by omega) (by omega)).mpr h
    refine zv_iconst (v := nI 1) (pc' := 10) dX1_isFull_9 rfl (by decide) ?_
    refine zv_goto (pc' := 14) dX1_isFull_10 rfl ?_
    refine zv_ireturn dX1_isFull_14 rfl (by first | rfl | exact zb_nar _) ?_
    exact zpi_t (by simp; omega)
theorem x1_add {n : Nat} {x : Int32} (hn : n < 96) (hL : M 25 1 = nI n) : ZFv mdX1_add (d + 1) [.ref 25, .int x] M (fun M' => M' = zup (zup M 26 n x) 25 1 (nI (n + 1))) := by
  refine zex_intro (L := [some (.ref 25), some (.int x)]) (by decide) (Nat.le_of_ble_eq_true rfl) rfl ?_
  refine zv_aload_n (pc' := 1) dX1_add_0 rfl rfl ?_
  refine zv_cV0_pi (pc' := 4) dX1_add_1 rfl lkX1_19 (by first | rfl | assumption) rfl (Nat.le_of_ble_eq_true rfl) (x1_isFull (by omega) hL) ?_
  refine zv_if_ne (pc' := 7) (tgt := 27) dX1_add_4 rfl rfl (fun hcc => absurd (zb_0.mpr (by simp; omega)) hcc) (fun _ => ?_)
  refine zv_aload_n (pc' := 8) dX1_add_7 rfl rfl ?_
  refine zv_getR (pc' := 11) dX1_add_8 rfl flX1_9 (by first | rfl | assumption) rfl ?_
  refine zv_aload_n (pc' := 12) dX1_add_11 rfl rfl ?_
  refine zv_getIE (pc' := 15) dX1_add_12 rfl flX1_15 (by first | rfl | assumption) rfl (by first | exact hL | rfl) ?_
  refine zv_iload_n (pc' := 16) dX1_add_15 rfl rfl ?_
  refine zv_iastoreN (pc' := 17) dX1_add_16 rfl (by first | rfl | assumption) (by decide) (by omega) ?_
  have hL' : zup M 26 n x 25 1 = nI n := by rw [zup_ne (by decide)]; exact hL
  refine zv_aload_n (pc' := 18) dX1_add_17 rfl rfl ?_
  refine zv_dup (pc' := 19) dX1_add_18 rfl rfl ?_
  refine zv_getIE (pc' := 22) dX1_add_19 rfl flX1_15 (by first | rfl | assumption) rfl (by first | exact hL' | rfl) ?_
  refine zv_iconst (v := nI 1) (pc' := 23) dX1_add_22 rfl (by decide) ?_
  refine zv_iadd (pc' := 24) dX1_add_23 rfl ?_
  refine zv_top (nI_add _ _) ?_
  refine zv_putI (pc' := 27) dX1_add_24 rfl flX1_15 pfX1_1 (by first | rfl | assumption) rfl rfl rfl ?_
  refine zv_vret dX1_add_27 rfl ?_
  exact ⟨rfl, rfl⟩
theorem x1_drop : ZFv mdX1_drop d [.ref 25] M (fun M' => M' = zup M 25 1 (nI 0)) := by
  refine zex_intro (L := [some (.ref 25)]) (by decide) (Nat.le_of_ble_eq_true rfl) rfl ?_
  refine zv_aload_n (pc' := 1) dX1_drop_0 rfl rfl ?_
  refine zv_iconst (v := nI 0) (pc' := 2) dX1_drop_1 rfl (by decide) ?_
  refine zv_putI (pc' := 5) dX1_drop_2 rfl flX1_15 pfX1_1 (by first | rfl | assumption) rfl rfl rfl ?_
  refine zv_vret dX1_drop_5 rfl ?_
  exact ⟨rfl, rfl⟩
end
