/-! Int32 by its bits (begun with kit/laws/BITS.to-paste) -/
def bt (x : Int32) (i : Nat) : Bool := x.toBitVec.getLsbD i
theorem b_ext {x y : Int32} (h : ∀ i, i < 32 → bt x i = bt y i) : x = y := Int32.toBitVec_inj.mp (BitVec.eq_of_getLsbD_eq (fun i hi => h i hi))
theorem b_or (x y : Int32) (i : Nat) : bt (x ||| y) i = (bt x i || bt y i) := by unfold bt; rw [Int32.toBitVec_or, BitVec.getLsbD_or]
theorem b_and (x y : Int32) (i : Nat) : bt (x &&& y) i = (bt x i && bt y i) := by unfold bt; rw [Int32.toBitVec_and, BitVec.getLsbD_and]
theorem b_xor (x y : Int32) (i : Nat) : bt (x ^^^ y) i = (bt x i ^^ bt y i) := by unfold bt; rw [Int32.toBitVec_xor, BitVec.getLsbD_xor]
theorem b_m1 : ∀ i, i < 32 → bt (-1) i = true := by decide +kernel
theorem s_l : ∀ n, n < 32 → ((nI n &&& 31).toBitVec.smod 32).toNat = n := by decide +kernel
theorem b_shl (n : Nat) (hn : n < 32) (x : Int32) {i : Nat} (hi : i < 32) : bt (x <<< (nI n &&& 31)) i = (decide (n ≤ i) && bt x (i - n)) := by
  unfold bt
  rw [Int32.toBitVec_shiftLeft]
  show (x.toBitVec <<< ((nI n &&& 31).toBitVec.smod 32).toNat).getLsbD i = _
  rw [s_l n hn, BitVec.getLsbD_shiftLeft]
  rcases Nat.lt_or_ge i n with h | h
  · simp [h, Nat.not_le.mpr h]
  · simp [hi, h, Nat.not_lt.mpr h]
theorem nx_and (a b : Nat) : nI a &&& nI b = nI (a &&& b) := by
  apply Int32.toBitVec_inj.1
  show BitVec.ofNat 32 a &&& BitVec.ofNat 32 b = BitVec.ofNat 32 (a &&& b)
  apply BitVec.eq_of_getLsbD_eq
  intro i hi
  simp [hi]
theorem bt_nI {n i : Nat} (hi : i < 32) : bt (nI n) i = n.testBit i := by
  show (BitVec.ofNat 32 n).getLsbD i = _
  rw [BitVec.getLsbD_ofNat]
  simp [hi]
/-! masks out of Boolean rows -/
def zm : Nat → (Nat → Bool) → Nat
  | 0, _ => 0
  | k + 1, f => zm k f ||| (if f k = true then 2 ^ k else 0)
theorem zm_tb (f : Nat → Bool) (j : Nat) : ∀ k, (zm k f).testBit j = (decide (j < k) && f j)
  | 0 => by simp [zm]
  | k + 1 => by
    rw [zm, Nat.testBit_or, zm_tb f j k]
    by_cases hf : f k = true
    · rw [if_pos hf, Nat.testBit_two_pow]
      by_cases e : k = j
      · subst e; simp [hf]
      · by_cases h1 : j < k
        · have : j < k + 1 := by omega
          simp [h1, this, e]
        · have : ¬ j < k + 1 := by omega
          simp [h1, this, e]
    · rw [if_neg hf]
      by_cases e : j = k
      · subst e; simp at hf; simp [hf]
      · by_cases h1 : j < k
        · have : j < k + 1 := by omega
          simp [h1, this]
        · have : ¬ j < k + 1 := by omega
          simp [h1, this]
theorem zm_lt (f : Nat → Bool) : ∀ k, zm k f < 2 ^ k
  | 0 => by simp [zm]
  | k + 1 => by
    rw [zm]
    have h := zm_lt f k
    refine Nat.or_lt_two_pow (Nat.lt_trans h (Nat.pow_lt_pow_right (by decide) (by omega))) ?_
    split
    · exact Nat.pow_lt_pow_right (by decide) (by omega)
    · exact Nat.pow_pos (by decide)
theorem zm_ext {f g : Nat → Bool} {k : Nat} (h : ∀ j, j < k → f j = g j) : zm k f = zm k g := by
  apply Nat.eq_of_testBit_eq
  intro j
  rw [zm_tb, zm_tb]
  by_cases hj : j < k
  · rw [h j hj]
  · simp [hj]
theorem zm8_lt (f : Nat → Bool) : zm 8 f < 256 := zm_lt f 8
theorem zm_bt {f : Nat → Bool} {k i : Nat} (hi : i < 32) : bt (nI (zm k f)) i = (decide (i < k) && f i) := by rw [bt_nI hi, zm_tb]
theorem mk_eq {x : Int32} {k : Nat} {h : Nat → Bool} (hx : ∀ i, i < 32 → bt x i = (decide (i < k) && h i)) : x = nI (zm k h) := b_ext (fun i hi => by rw [hx i hi, zm_bt hi])
theorem zsh1 : ∀ q, q < 31 → nI 1 <<< (nI q &&& 31) = nI (2 ^ q) := by decide +kernel
theorem bt_2 {q i : Nat} (hi : i < 32) : bt (nI (2 ^ q)) i = decide (q = i) := by rw [bt_nI hi, Nat.testBit_two_pow]
theorem mk_or1 {f : Nat → Bool} {k q : Nat} (hq : q < k) : nI (zm k f) ||| nI (2 ^ q) = nI (zm k (fun j => f j || decide (j = q))) := mk_eq (fun i hi => by
  rw [b_or, zm_bt hi, bt_2 hi]
  by_cases h : i < k
  · simp [h, eq_comm]
  · have : ¬ q = i := by omega
    simp [h, this])
theorem mk_xor1 {f : Nat → Bool} {k q : Nat} (hq : q < k) : nI (zm k f) ^^^ nI (2 ^ q) = nI (zm k (fun j => f j ^^ decide (j = q))) := mk_eq (fun i hi => by
  rw [b_xor, zm_bt hi, bt_2 hi]
  by_cases h : i < k
  · simp [h, eq_comm]
  · have : ¬ q = i := by omega
    simp [h, this])
theorem mk_cl1 {f : Nat → Bool} {k q : Nat} : nI (zm k f) &&& (nI (2 ^ q) ^^^ (-1)) = nI (zm k (fun j => f j && !decide (j = q))) := mk_eq (fun i hi => by
  rw [b_and, b_xor, zm_bt hi, bt_2 hi, b_m1 i hi]
  by_cases h : i < k
  · simp [h, eq_comm]
  · simp [h])
theorem mk_cl {f g : Nat → Bool} {k : Nat} : nI (zm k f) &&& (nI (zm k g) ^^^ (-1)) = nI (zm k (fun j => f j && !g j)) := mk_eq (fun i hi => by
  rw [b_and, b_xor, zm_bt hi, zm_bt hi, b_m1 i hi]
  by_cases h : i < k
  · simp [h]
  · simp [h])
theorem mk_and {f g : Nat → Bool} {k : Nat} : nI (zm k f) &&& nI (zm k g) = nI (zm k (fun j => f j && g j)) := mk_eq (fun i hi => by
  rw [b_and, zm_bt hi, zm_bt hi]
  by_cases h : i < k
  · simp [h]
  · simp [h])
theorem mk_or {f g : Nat → Bool} {k : Nat} : nI (zm k f) ||| nI (zm k g) = nI (zm k (fun j => f j || g j)) := mk_eq (fun i hi => by
  rw [b_or, zm_bt hi, zm_bt hi]
  by_cases h : i < k
  · simp [h]
  · simp [h])
theorem mk_test {v q : Nat} (hv : v < 2 ^ 31) (hq : q < 32) : (nI v >>> (nI q &&& 31)) &&& nI 1 = zb (v.testBit q) := by
  rw [pk_shrN hv _ q (s_l q hq), nx_and, Nat.and_one_is_mod, Nat.testBit_eq_decide_div_mod_eq]
  rcases Nat.mod_two_eq_zero_or_one (v / 2 ^ q) with h | h <;> rw [h] <;> rfl
theorem mk_tst {f : Nat → Bool} {q : Nat} (hq : q < 8) : (nI (zm 8 f) >>> (nI q &&& 31)) &&& nI 1 = zb (f q) := by
  rw [mk_test (Nat.lt_trans (zm8_lt f) (by decide)) (by omega), zm_tb]
  simp [hq]
theorem zm_0 {k : Nat} {f : Nat → Bool} : zm k f = 0 ↔ ∀ j, j < k → f j = false := by
  constructor
  · intro h j hj
    have := zm_tb f j k
    rw [h] at this
    simp [hj] at this
    exact this
  · intro h
    apply Nat.eq_of_testBit_eq
    intro j
    rw [zm_tb]
    by_cases hj : j < k
    · simp [h j hj]
    · simp [hj]
theorem zm_f {k : Nat} : zm k (fun _ => false) = 0 := zm_0.mpr (fun _ _ => rfl)
theorem zm_1 {k q : Nat} (h : q < k) : zm k (fun j => decide (j = q)) = 2 ^ q := by
  apply Nat.eq_of_testBit_eq
  intro j
  rw [zm_tb, Nat.testBit_two_pow]
  by_cases e : q = j
  · subst e; simp [h]
  · have : ¬ j = q := fun z => e z.symm
    simp [e, this]
/-! counting -/
def zcn : Nat → (Nat → Bool) → Nat
  | 0, _ => 0
  | k + 1, f => zcn k f + (if f k = true then 1 else 0)
theorem zcn_le (f : Nat → Bool) : ∀ k, zcn k f ≤ k
  | 0 => by simp [zcn]
  | k + 1 => by
    have := zcn_le f k
    rw [zcn]; split <;> omega
theorem zcn_ext {f g : Nat → Bool} : ∀ {k : Nat}, (∀ j, j < k → f j = g j) → zcn k f = zcn k g
  | 0, _ => rfl
  | k + 1, h => by rw [zcn, zcn, zcn_ext (fun j hj => h j (by omega)), h k (by omega)]
def zsum : Nat → (Nat → Nat) → Nat
  | 0, _ => 0
  | k + 1, f => zsum k f + f k
theorem zsum_le {f : Nat → Nat} {b : Nat} : ∀ {k : Nat}, (∀ j, j < k → f j ≤ b) → zsum k f ≤ k * b
  | 0, _ => by simp [zsum]
  | k + 1, h => by
    have h1 := zsum_le (k := k) (fun j hj => h j (by omega))
    have h2 := h k (by omega)
    rw [zsum, Nat.add_mul]; omega
theorem zsum_ext {f g : Nat → Nat} : ∀ {k : Nat}, (∀ j, j < k → f j = g j) → zsum k f = zsum k g
  | 0, _ => rfl
  | k + 1, h => by rw [zsum, zsum, zsum_ext (fun j hj => h j (by omega)), h k (by omega)]
/-- a loop over q, q + 1, .. , q + r - 1 -/
def zlf {σ : Type} : Nat → Nat → (Nat → σ → σ) → σ → σ
  | 0, _, _, s => s
  | r + 1, q, f, s => zlf r (q + 1) f (f q s)
theorem zlf_inv {σ : Type} {f : Nat → σ → σ} (I : σ → Prop) : ∀ (r q : Nat) (s : σ), I s → (∀ k x, q ≤ k → k < q + r → I x → I (f k x)) → I (zlf r q f s)
  | 0, _, _, h0, _ => h0
  | r + 1, q, s, h0, hs => zlf_inv I r (q + 1) (f q s) (hs q s (by omega) (by omega) h0) (fun k x h1 h2 => hs k x (by omega) (by omega))
theorem zlf_ext {σ : Type} {f g : Nat → σ → σ} : ∀ (r q : Nat) (s : σ), (∀ k x, q ≤ k → k < q + r → f k x = g k x) → zlf r q f s = zlf r q g s
  | 0, _, _, _ => rfl
  | r + 1, q, s, h => by rw [zlf, zlf, h q s (by omega) (by omega)]; exact zlf_ext r (q + 1) _ (fun k x h1 h2 => h k x (by omega) (by omega))
theorem zlf_const {σ : Type} {g : σ → σ} : ∀ (r q q2 : Nat) (s : σ), zlf r q (fun _ => g) s = zlf r q2 (fun _ => g) s
  | 0, _, _, _ => rfl
  | r + 1, q, q2, s => zlf_const r (q + 1) (q2 + 1) (g s)
theorem zlf_add {σ : Type} {f : Nat → σ → σ} : ∀ (a b q : Nat) (s : σ), zlf (a + b) q f s = zlf b (q + a) f (zlf a q f s)
  | 0, b, q, s => by simp [zlf]
  | a + 1, b, q, s => by
    rw [show a + 1 + b = (a + b) + 1 by omega, zlf, zlf_add a b (q + 1) (f q s), zlf, show q + 1 + a = q + (a + 1) by omega]
/-! a county -/
abbrev ZCty : Type := Nat × Nat × (Nat → Nat) × (Nat → Nat) × (Nat → Nat) × (Nat → Nat → Bool) × (Nat → Nat → Bool)
abbrev yN (c : ZCty) : Nat := c.1
abbrev yY (c : ZCty) : Nat := c.2.1
abbrev yK (c : ZCty) : Nat → Nat := c.2.2.1
abbrev yF (c : ZCty) : Nat → Nat := c.2.2.2.1
abbrev yM (c : ZCty) : Nat → Nat := c.2.2.2.2.1
abbrev yS (c : ZCty) : Nat → Nat → Bool := c.2.2.2.2.2.1
abbrev yX (c : ZCty) : Nat → Nat → Bool := c.2.2.2.2.2.2
def fu {α : Type} (f : Nat → α) (i : Nat) (v : α) : Nat → α := fun j => if j = i then v else f j
theorem fu_s {α : Type} {f : Nat → α} {i : Nat} {v : α} : fu f i v i = v := by simp [fu]
theorem fu_n {α : Type} {f : Nat → α} {i j : Nat} {v : α} (h : j ≠ i) : fu f i v j = f j := by simp [fu, h]
def fu2 (f : Nat → Nat → Bool) (i j : Nat) (v : Bool) : Nat → Nat → Bool := fu f i (fu (f i) j v)
def setM (c : ZCty) (m : Nat → Nat) : ZCty := (yN c, yY c, yK c, yF c, m, yS c, yX c)
def setS (c : ZCty) (s : Nat → Nat → Bool) : ZCty := (yN c, yY c, yK c, yF c, yM c, s, yX c)
def setX (c : ZCty) (x : Nat → Nat → Bool) : ZCty := (yN c, yY c, yK c, yF c, yM c, yS c, x)
def zOk (c : ZCty) : Prop := yN c ≤ 8 ∧ (∀ i, yK c i ≤ 5) ∧ (∀ i, yF c i ≤ 9) ∧ (∀ i, yM c i ≤ 99) ∧ (∀ i j, yS c i j = true → i < yN c ∧ j < yN c ∧ i ≠ j) ∧ (∀ i j, yX c i j = true → i < yN c ∧ j < yN c ∧ i ≠ j) ∧ (∀ i j, yX c i j = yX c j i)
def kinB (c : ZCty) (p q : Nat) : Bool := yS c p q && yS c q p && !yX c p q
def duesN (c : ZCty) (p q : Nat) : Nat := match yK c p with
  | 1 => 1 + yF c p / 3
  | 2 => 0
  | 3 => if yM c q < yM c p then 1 else 0
  | 4 => 2 * (1 + yF c p / 3)
  | 5 => (if yM c q < yM c p then 1 else 0) + 1
  | _ => 1
def payC (c : ZCty) (p q : Nat) : ZCty := if yM c p < duesN c p q then setS c (fu2 (yS c) p q false) else setM c (fu (fu (yM c) q (min 99 (yM c q + duesN c p q))) p (yM c p - duesN c p q))
def stepC (dd : Nat) (c : ZCty) (p q : Nat) : ZCty := if p ≠ dd ∧ q ≠ dd ∧ kinB c p q = true then payC c p q else c
def rowC (dd : Nat) (c : ZCty) (p : Nat) : ZCty := zlf (yN c) 0 (fun q c => stepC dd c p q) c
def yearC (dd : Nat) (c : ZCty) : ZCty := zlf (yN c) 0 (fun p c => rowC dd c p) (yN c, yY c + 1, yK c, yF c, yM c, yS c, yX c)
def yearsC (k : Nat) (c : ZCty) : ZCty := zlf k 0 (fun _ c => yearC 100 c) c
def wealthN (c : ZCty) : Nat := zsum (yN c) (yM c)
/-! a county in memory: the class's at place o, the reference's at place 90 -/
def zCy (o : Nat) : Prop := zshL[o]? = some (.inr (.inl (0, [some (o + 1), some (o + 2), some (o + 3), some (o + 4), some (o + 5), none, none]))) ∧ zshL[o + 1]? = some (.inl 8) ∧ zshL[o + 2]? = some (.inl 8) ∧ zshL[o + 3]? = some (.inl 8) ∧ zshL[o + 4]? = some (.inl 8) ∧ zshL[o + 5]? = some (.inl 8)
def zAt (M : ZMem) (o : Nat) (c : ZCty) : Prop := M o 5 = nI (yN c) ∧ M o 6 = nI (yY c) ∧ (∀ j, j < 8 → M (o + 1) j = nI (yK c j)) ∧ (∀ j, j < 8 → M (o + 2) j = nI (yF c j)) ∧ (∀ j, j < 8 → M (o + 3) j = nI (yM c j)) ∧ (∀ j, j < 8 → M (o + 4) j = nI (zm 8 (yS c j))) ∧ (∀ j, j < 8 → M (o + 5) j = nI (zm 8 (yX c j)))
def zAm (M : ZMem) (c : ZCty) : Prop := M 90 6 = nI (yN c) ∧ M 90 7 = nI (yY c) ∧ (∀ j, j < 8 → M 92 j = nI (yK c j)) ∧ (∀ j, j < 8 → M 93 j = nI (yF c j)) ∧ (∀ j, j < 8 → M 94 j = nI (yM c j)) ∧ (∀ j, j < 8 → M 95 j = nI (zm 8 (yS c j))) ∧ (∀ j, j < 8 → M 96 j = nI (zm 8 (yX c j)))
/-- places lo .. hi - 1 apart, nothing has changed -/
def zSame (lo hi : Nat) (M M' : ZMem) : Prop := ∀ k, (k < lo ∨ hi ≤ k) → M' k = M k
theorem zSame.rf {lo hi : Nat} {M : ZMem} : zSame lo hi M M := fun _ _ => rfl
theorem zSame.tr {lo hi : Nat} {M M1 M2 : ZMem} (h1 : zSame lo hi M M1) (h2 : zSame lo hi M1 M2) : zSame lo hi M M2 := fun k hk => (h2 k hk).trans (h1 k hk)
theorem zup_ne {M : ZMem} {b k : Nat} {v : Int32} {b' : Nat} (h : b' ≠ b) : zup M b k v b' = M b' := by simp [zup, zupf, h]
theorem zup_eq {M : ZMem} {b k : Nat} {v : Int32} : zup M b k v b = upd (M b) k v := by simp [zup, zupf]
theorem zSame.up {lo hi b k : Nat} {v : Int32} {M : ZMem} (h1 : lo ≤ b) (h2 : b < hi) : zSame lo hi M (zup M b k v) := fun x hx => zup_ne (by omega)
