/-! couples: sets as numbers, the table, the choice -/
def bc (S p : Nat) : Nat := zm 8 (fun j => S.testBit j && !decide (j = p))
theorem tb_hi {S j n : Nat} (h : S < 2 ^ n) (hj : n ≤ j) : S.testBit j = false := Nat.testBit_lt_two_pow (Nat.lt_of_lt_of_le h (Nat.pow_le_pow_right (by decide) hj))
theorem zm_of {S : Nat} (h : S < 256) : zm 8 (fun j => S.testBit j) = S := by
  apply Nat.eq_of_testBit_eq
  intro j
  rw [zm_tb]
  by_cases hj : j < 8
  · simp [hj]
  · rw [tb_hi (n := 8) h (by omega)]; simp
theorem bc_lt {S p : Nat} : bc S p < 256 := zm8_lt _
theorem bc_tb {S p j : Nat} (h : S < 256) : (bc S p).testBit j = (S.testBit j && !decide (j = p)) := by
  rw [bc, zm_tb]
  by_cases hj : j < 8
  · simp [hj]
  · rw [tb_hi (n := 8) h (by omega)]; simp
theorem bc_nI {S p : Nat} (h : S < 256) : nI S &&& (nI (2 ^ p) ^^^ (-1)) = nI (bc S p) := by
  have e := mk_cl1 (f := fun j => S.testBit j) (k := 8) (q := p)
  rw [zm_of h] at e
  exact e
theorem bc_le {S p : Nat} (h : S < 256) : bc S p ≤ S := by
  have e : bc S p = S &&& zm 8 (fun j => !decide (j = p)) := by
    apply Nat.eq_of_testBit_eq
    intro j
    rw [bc_tb h, Nat.testBit_and, zm_tb]
    by_cases hj : j < 8
    · simp [hj]
    · rw [tb_hi (n := 8) h (by omega)]; simp
  rw [e]
  exact Nat.and_le_left
theorem bc_down {S p : Nat} (h : S < 256) (ht : S.testBit p = true) : bc S p < S := by
  have h1 := bc_le (p := p) h
  have h2 : bc S p ≠ S := by
    intro e
    have := bc_tb (p := p) (j := p) h
    rw [e, ht] at this
    simp at this
  omega
def lw (S : Nat) : Nat := (zfst 8 0 (fun p => S.testBit p)).getD 0
theorem lw_of {S : Nat} (h0 : 0 < S) (h : S < 256) : S.testBit (lw S) = true ∧ lw S < 8 ∧ ∀ j, j < lw S → S.testBit j = false := by
  cases e : zfst 8 0 (fun p => S.testBit p) with
  | none =>
    exfalso
    have z := zfst_none.mp e
    have : S = 0 := by
      apply Nat.eq_of_testBit_eq
      intro j
      rw [Nat.zero_testBit]
      by_cases hj : j < 8
      · exact z j (by omega) (by omega)
      · exact tb_hi (n := 8) h (by omega)
    omega
  | some v =>
    have z := zfst_some.mp e
    rw [lw, e]
    exact ⟨z.2.2.1, by show v < 8; omega, fun j hj => z.2.2.2 j (by omega) hj⟩
theorem lw_n {S n : Nat} (h0 : 0 < S) (h : S < 256) (hn : S < 2 ^ n) : lw S < n := by
  rcases Nat.lt_or_ge (lw S) n with z | z
  · exact z
  · have := (lw_of h0 h).1
    rw [tb_hi hn z] at this
    cases this
def dsN (a b : Nat) : Nat := if b < a then a - b else b - a
def cpB (c : ZCty) (v p q : Nat) : Bool := decide (p ≠ q) && !yX c p q && decide (dsN (yM c p) (yM c q) ≤ v)
def cpM (c : ZCty) (v : Nat) (T : Nat → Nat) (p R : Nat) : Nat → Nat
  | 0 => T R
  | q + 1 => if R.testBit q = true ∧ cpB c v p q = true then max (cpM c v T p R q) (1 + T (bc R q)) else cpM c v T p R q
def cpS (c : ZCty) (v : Nat) (T : Nat → Nat) (S : Nat) : Nat := cpM c v T (lw S) (bc S (lw S)) (yN c)
def cpT (c : ZCty) (v : Nat) : Nat → Nat → Nat
  | 0 => fun _ => 0
  | k + 1 => fu (cpT c v k) k (if k = 0 then 0 else cpS c v (cpT c v k) k)
theorem cpM_le {c : ZCty} {v p R b : Nat} {T : Nat → Nat} (hT : ∀ S, T S ≤ S) (hR : R < 256) (hb : R < b) : ∀ q, cpM c v T p R q ≤ b
  | 0 => by
    have := hT R
    rw [cpM]
    omega
  | q + 1 => by
    have h1 := cpM_le (c := c) (v := v) (p := p) hT hR hb q
    have h2 := hT (bc R q)
    have h3 := bc_le (p := q) hR
    rw [cpM]
    split
    · omega
    · exact h1
theorem cpT_le {c : ZCty} {v : Nat} : ∀ k, k ≤ 256 → ∀ S, cpT c v k S ≤ S
  | 0, _, S => Nat.zero_le _
  | k + 1, hk, S => by
    have ih := cpT_le (c := c) (v := v) k (by omega)
    rw [cpT]
    by_cases e : S = k
    · rw [e, fu_s]
      split
      · omega
      · rename_i h0
        have hl := lw_of (S := k) (by omega) (by omega)
        exact cpM_le ih bc_lt (bc_down (by omega) hl.1) _
    · rw [fu_n e]; exact ih S
theorem cpT_st {c : ZCty} {v k S : Nat} (h : S < k) : cpT c v (k + 1) S = cpT c v k S := by rw [cpT, fu_n (by omega)]
theorem cpT_at {c : ZCty} {v k : Nat} (h : 0 < k) : cpT c v (k + 1) k = cpS c v (cpT c v k) k := by rw [cpT, fu_s, if_neg (by omega)]
def cpP (c : ZCty) (v : Nat) (T : Nat → Nat) (F k : Nat) : Option Nat := zfst (yN c) 0 (fun q => (bc F k).testBit q && cpB c v k q && decide (1 + T (bc (bc F k) q) = T F))
def chF (c : ZCty) (v : Nat) (T : Nat → Nat) (k : Nat) (s : Nat × (Nat → Option Nat)) : Nat × (Nat → Option Nat) := if s.1.testBit k = true then (match cpP c v T s.1 k with
  | some o => (bc (bc s.1 k) o, fu (fu s.2 k (some o)) o (some k))
  | none => (bc s.1 k, s.2)) else s
def chS (c : ZCty) (v : Nat) (T : Nat → Nat) (F : Nat) : Nat → Nat × (Nat → Option Nat)
  | 0 => (F, fun _ => none)
  | k + 1 => chF c v T k (chS c v T F k)
abbrev cpZ (c : ZCty) (v : Nat) : Nat → Nat := cpT c v (2 ^ yN c)
def sp_couples (v x : Int32) (s : ZS) : Int32 × ZS := zans (fiN (bdN v (nI 0) (nI 99)) (if x = -1 then 0 else nbN (yN (sC s)) x) 0) s (if x = -1 then nI (cpZ (sC s) (pN v) (2 ^ yN (sC s) - 1)) else optI ((chS (sC s) (pN v) (cpZ (sC s) (pN v)) (2 ^ yN (sC s) - 1) (yN (sC s))).2 (pN x))) s
theorem p2_le {n : Nat} (h : n ≤ 8) : 2 ^ n ≤ 256 := Nat.le_trans (Nat.pow_le_pow_right (by decide) h) (by decide)
theorem cpP_of {c : ZCty} {v F k o : Nat} {T : Nat → Nat} (h : cpP c v T F k = some o) : o < yN c ∧ (bc F k).testBit o = true := by
  have z := zfst_some.mp h
  have z3 := z.2.2.1
  simp only [Bool.and_eq_true] at z3
  exact ⟨by omega, z3.1.1⟩
section
variable {c : ZCty} {v : Nat} {T : Nat → Nat} {F : Nat}
/-- what holds of a choice begun with F -/
theorem chS_ok (hF : F < 256) : ∀ k, (chS c v T F k).1 ≤ F ∧ (∀ j, j < k → (chS c v T F k).1.testBit j = false) ∧ ∀ x, (chS c v T F k).1.testBit x = true → (chS c v T F k).2 x = none
  | 0 => ⟨Nat.le_refl _, fun j hj => by omega, fun _ _ => rfl⟩
  | k + 1 => by
    obtain ⟨h1, h2, h3⟩ := chS_ok hF k
    have hs : (chS c v T F k).1 < 256 := by omega
    have hb := bc_le (p := k) hs
    rw [chS, chF]
    by_cases ht : (chS c v T F k).1.testBit k = true
    · rw [if_pos ht]
      cases e : cpP c v T (chS c v T F k).1 k with
      | none =>
        refine ⟨by show bc (chS c v T F k).1 k ≤ F; omega, fun j hj => ?_, fun x hx => ?_⟩
        · show (bc (chS c v T F k).1 k).testBit j = false
          rw [bc_tb hs]
          by_cases z : j = k
          · simp [z]
          · rw [h2 j (by omega)]; rfl
        · have hx : (bc (chS c v T F k).1 k).testBit x = true := hx
          rw [bc_tb hs] at hx
          simp only [Bool.and_eq_true] at hx
          exact h3 x hx.1
      | some o =>
        have hb2 := bc_le (p := o) (bc_lt (S := (chS c v T F k).1) (p := k))
        refine ⟨by show bc (bc (chS c v T F k).1 k) o ≤ F; omega, fun j hj => ?_, fun x hx => ?_⟩
        · show (bc (bc (chS c v T F k).1 k) o).testBit j = false
          rw [bc_tb bc_lt, bc_tb hs]
          by_cases z : j = k
          · simp [z]
          · rw [h2 j (by omega)]; rfl
        · have hx : (bc (bc (chS c v T F k).1 k) o).testBit x = true := hx
          rw [bc_tb bc_lt, bc_tb hs] at hx
          simp at hx
          show fu (fu (chS c v T F k).2 k (some o)) o (some k) x = none
          rw [fu_n hx.2, fu_n hx.1.2]
          exact h3 x hx.1.1
    · rw [if_neg ht]
      refine ⟨h1, fun j hj => ?_, h3⟩
      by_cases z : j = k
      · rw [z]; simpa using ht
      · exact h2 j (by omega)
/-- who is no longer free stays as he is -/
theorem chS_stay (hF : F < 256) {k x : Nat} (h : (chS c v T F k).1.testBit x = false) : (chS c v T F (k + 1)).1.testBit x = false ∧ (chS c v T F (k + 1)).2 x = (chS c v T F k).2 x := by
  have hs : (chS c v T F k).1 < 256 := Nat.lt_of_le_of_lt (chS_ok hF k).1 hF
  rw [chS, chF]
  by_cases ht : (chS c v T F k).1.testBit k = true
  · have hk : x ≠ k := fun e => by rw [e, ht] at h; cases h
    rw [if_pos ht]
    cases e : cpP c v T (chS c v T F k).1 k with
    | none =>
      refine ⟨?_, rfl⟩
      show (bc (chS c v T F k).1 k).testBit x = false
      rw [bc_tb hs, h]; rfl
    | some o =>
      have ho := (cpP_of e).2
      rw [bc_tb hs] at ho
      simp at ho
      have hxo : x ≠ o := fun z => by rw [z, ho.1] at h; cases h
      refine ⟨?_, ?_⟩
      · show (bc (bc (chS c v T F k).1 k) o).testBit x = false
        rw [bc_tb bc_lt, bc_tb hs, h]; rfl
      · show fu (fu (chS c v T F k).2 k (some o)) o (some k) x = (chS c v T F k).2 x
        rw [fu_n hxo, fu_n hk]
  · rw [if_neg ht]
    exact ⟨h, rfl⟩
theorem chS_stays (hF : F < 256) {k x : Nat} (h : (chS c v T F k).1.testBit x = false) : ∀ j, (chS c v T F (k + j)).1.testBit x = false ∧ (chS c v T F (k + j)).2 x = (chS c v T F k).2 x
  | 0 => ⟨h, rfl⟩
  | j + 1 => by
    have ih := chS_stays hF h j
    have := chS_stay hF ih.1
    exact ⟨this.1, this.2.trans ih.2⟩
/-- nobody is passed between k and the least of the free -/
theorem chS_skip {k : Nat} : ∀ j, (∀ x, k ≤ x → x < k + j → (chS c v T F k).1.testBit x = false) → chS c v T F (k + j) = chS c v T F k
  | 0, _ => rfl
  | j + 1, h => by
    have ih := chS_skip j (fun x h1 h2 => h x h1 (by omega))
    show chF c v T (k + j) (chS c v T F (k + j)) = _
    rw [ih, chF, if_neg (by rw [h (k + j) (by omega) (by omega)]; decide)]
end
theorem ds_abs {a b : Nat} (ha : a < 2 ^ 30) (hb : b < 2 ^ 30) : (if 0 ≤ nI a - nI b then nI a - nI b else 0 - (nI a - nI b)) = nI (dsN a b) := by
  unfold dsN
  by_cases h : b < a
  · rw [if_pos h, pk_sub (by omega), if_pos (nI_pos' (by omega))]
  · rw [if_neg h]
    by_cases e : a = b
    · subst e
      rw [pk_sub (Nat.le_refl _), Nat.sub_self]; rfl
    · have := pk_sneg hb (show a < b by omega)
      rw [if_neg (Int32.not_le.mpr this), Int32.zero_sub, Int32.neg_sub, pk_sub (by omega)]
