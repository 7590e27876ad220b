/-! rooms: the least seating, and the class -/
section
variable {α : Type} {g h : Nat → Option α}
def zfo : Nat → Nat → (Nat → Option α) → Option α
  | 0, _, _ => none
  | j + 1, r, g => match g r with
    | some x => some x
    | none => zfo j (r + 1) g
theorem zfo_hit {j r : Nat} {x : α} (e : g r = some x) : zfo (j + 1) r g = some x := by rw [zfo, e]
theorem zfo_skip {j r : Nat} (e : g r = none) : zfo (j + 1) r g = zfo j (r + 1) g := by rw [zfo, e]
theorem zfo_none : ∀ {j r : Nat}, zfo j r g = none ↔ ∀ i, r ≤ i → i < r + j → g i = none
  | 0, r => by
    constructor
    · intro _ i h1 h2; omega
    · intro _; rfl
  | j + 1, r => by
    cases e : g r with
    | some x =>
      rw [zfo_hit e]
      constructor
      · intro z; cases z
      · intro z; rw [z r (by omega) (by omega)] at e; cases e
    | none =>
      rw [zfo_skip e, zfo_none]
      constructor
      · intro z i h1 h2
        by_cases q : i = r
        · subst q; exact e
        · exact z i (by omega) (by omega)
      · intro z i h1 h2
        exact z i (by omega) (by omega)
theorem zfo_some : ∀ {j r : Nat} {x : α}, zfo j r g = some x → ∃ i, r ≤ i ∧ i < r + j ∧ g i = some x
  | 0, r, x, z => by cases z
  | j + 1, r, x, z => by
    cases e : g r with
    | some y =>
      rw [zfo_hit e] at z
      exact ⟨r, by omega, by omega, by rw [e, z]⟩
    | none =>
      rw [zfo_skip e] at z
      obtain ⟨i, h1, h2, h3⟩ := zfo_some z
      exact ⟨i, by omega, by omega, h3⟩
theorem zfo_ext : ∀ {j r : Nat}, (∀ i, r ≤ i → i < r + j → g i = h i) → zfo j r g = zfo j r h
  | 0, _, _ => rfl
  | j + 1, r, z => by
    have e := z r (by omega) (by omega)
    cases q : g r with
    | some y => rw [zfo_hit q, zfo_hit (e ▸ q)]
    | none => rw [zfo_skip q, zfo_skip (e ▸ q)]; exact zfo_ext (fun i h1 h2 => z i (by omega) (by omega))
theorem zfo_skips : ∀ {k j r : Nat}, (∀ i, r ≤ i → i < r + k → g i = none) → zfo (k + j) r g = zfo j (r + k) g
  | 0, j, r, _ => by rw [Nat.zero_add]; rfl
  | k + 1, j, r, z => by
    rw [show k + 1 + j = (k + j) + 1 by omega, zfo_skip (z r (by omega) (by omega)), zfo_skips (fun i h1 h2 => z i (by omega) (by omega)), show r + 1 + k = r + (k + 1) by omega]
theorem zfo_hits : ∀ {k j r : Nat} {x : α}, zfo k r g = some x → zfo (k + j) r g = some x
  | 0, j, r, x, z => by cases z
  | k + 1, j, r, x, z => by
    rw [show k + 1 + j = (k + j) + 1 by omega]
    cases q : g r with
    | some y => rw [zfo_hit q] at z ⊢; exact z
    | none => rw [zfo_skip q] at z ⊢; exact zfo_hits z
end
section
variable {X : Nat → Nat → Bool} {m : Nat}
def rmB (X : Nat → Nat → Bool) (f : Nat → Nat) (p r : Nat) : Bool := zall p (fun q => !(X p q && decide (f q = r)))
def rmA (X : Nat → Nat → Bool) (m : Nat) : Nat → Nat → (Nat → Nat) → Option (Nat → Nat)
  | 0, _, f => some f
  | k + 1, p, f => zfo m 0 (fun r => if rmB X f p r = true then rmA X m k (p + 1) (fu f p r) else none)
def rmF (X : Nat → Nat → Bool) (m k p : Nat) (f : Nat → Nat) (r : Nat) : Option (Nat → Nat) := if rmB X f p r = true then rmA X m k (p + 1) (fu f p r) else none
theorem rmA_s {k p : Nat} {f : Nat → Nat} : rmA X m (k + 1) p f = zfo m 0 (rmF X m k p f) := rfl
def rmG (X : Nat → Nat → Bool) (m : Nat) : Nat → Nat → Nat → (Nat → Nat) → Option (Nat → Nat)
  | 0, _, _, f => some f
  | k + 1, p, u, f => zfo (min (u + 1) m) 0 (fun r => if rmB X f p r = true then rmG X m k (p + 1) (max u (r + 1)) (fu f p r) else none)
def rmH (X : Nat → Nat → Bool) (m k p u : Nat) (f : Nat → Nat) (r : Nat) : Option (Nat → Nat) := if rmB X f p r = true then rmG X m k (p + 1) (max u (r + 1)) (fu f p r) else none
theorem rmG_s {k p u : Nat} {f : Nat → Nat} : rmG X m (k + 1) p u f = zfo (min (u + 1) m) 0 (rmH X m k p u f) := rfl
def rmQ (X : Nat → Nat → Bool) (m k p : Nat) (f g : Nat → Nat) : Prop := (∀ q, q < p → g q = f q) ∧ ∀ q, p ≤ q → q < p + k → g q < m ∧ ∀ j, j < q → X q j = true → g j ≠ g q
theorem rmB_iff {f : Nat → Nat} {p r : Nat} : rmB X f p r = true ↔ ∀ q, q < p → X p q = true → f q ≠ r := by
  rw [rmB, zall_iff]
  constructor
  · intro h q hq hx e
    have := h q hq
    simp [hx, e] at this
  · intro h q hq
    cases hx : X p q
    · rfl
    · simp
      exact h q hq hx
theorem rmQ_some : ∀ (k p : Nat) (f g : Nat → Nat), rmQ X m k p f g → rmA X m k p f ≠ none
  | 0, _, _, _, _ => by intro h; cases h
  | k + 1, p, f, g, hv => by
    intro h0
    rw [rmA_s] at h0
    have hp := hv.2 p (by omega) (by omega)
    have h1 := zfo_none.mp h0 (g p) (Nat.zero_le _) (by omega)
    rw [rmF, if_pos (rmB_iff.mpr (fun q hq hx => by rw [← hv.1 q hq]; exact hp.2 q hq hx))] at h1
    refine rmQ_some k (p + 1) (fu f p (g p)) g ⟨fun q hq => ?_, fun q h2 h3 => hv.2 q (by omega) (by omega)⟩ h1
    by_cases e : q = p
    · rw [e, fu_s]
    · rw [fu_n e]; exact hv.1 q (by omega)
theorem rmQ_of : ∀ (k p : Nat) (f g : Nat → Nat), rmA X m k p f = some g → rmQ X m k p f g
  | 0, p, f, g, h => by
    have e : f = g := Option.some.inj h
    subst e
    exact ⟨fun _ _ => rfl, fun q h1 h2 => by omega⟩
  | k + 1, p, f, g, h => by
    rw [rmA_s] at h
    obtain ⟨r, -, hr, hg⟩ := zfo_some h
    rw [rmF] at hg
    by_cases hb : rmB X f p r = true
    · rw [if_pos hb] at hg
      have ih := rmQ_of k (p + 1) (fu f p r) g hg
      have gp : g p = r := by rw [ih.1 p (by omega), fu_s]
      have gq : ∀ q, q < p → g q = f q := fun q hq => by rw [ih.1 q (by omega), fu_n (by omega)]
      refine ⟨gq, fun q h1 h2 => ?_⟩
      by_cases e : q = p
      · subst e
        rw [gp]
        exact ⟨by omega, fun j hj hx => by rw [gq j hj]; exact rmB_iff.mp hb j hj hx⟩
      · exact ih.2 q (by omega) (by omega)
    · rw [if_neg hb] at hg; cases hg
theorem rmA_G : ∀ (k p u : Nat) (f : Nat → Nat), (∀ q, q < p → f q < u) → rmA X m k p f = rmG X m k p u f
  | 0, _, _, _, _ => rfl
  | k + 1, p, u, f, hf => by
    have step : ∀ r, rmF X m k p f r = rmH X m k p u f r := by
      intro r
      rw [rmF, rmH, rmA_G k (p + 1) (max u (r + 1)) (fu f p r) (fun q hq => by
        by_cases e : q = p
        · rw [e, fu_s]; omega
        · rw [fu_n e]; have := hf q (by omega); omega)]
    rw [rmA_s, rmG_s]
    by_cases hm : m ≤ u + 1
    · rw [Nat.min_eq_right hm]
      exact zfo_ext (fun i _ _ => step i)
    · rw [Nat.min_eq_left (by omega), ← zfo_ext (j := u + 1) (r := 0) (fun i _ _ => step i)]
      have em : m = (u + 1) + (m - (u + 1)) := by omega
      cases h : zfo (u + 1) 0 (rmF X m k p f) with
      | some g =>
        have := zfo_hits (j := m - (u + 1)) h
        rw [← em] at this
        exact this
      | none =>
        refine zfo_none.mpr (fun r _ h2 => ?_)
        by_cases hr : r < u + 1
        · exact zfo_none.mp h r (by omega) (by omega)
        rw [rmF]
        by_cases hb : rmB X f p r = true
        · rw [if_pos hb]
          cases hg : rmA X m k (p + 1) (fu f p r) with
          | none => rfl
          | some g =>
            exfalso
            have hu := zfo_none.mp h u (Nat.zero_le _) (by omega)
            rw [rmF, if_pos (rmB_iff.mpr (fun q hq _ => by have := hf q hq; omega))] at hu
            have v := rmQ_of _ _ _ _ hg
            refine rmQ_some k (p + 1) (fu f p u) (fun q => zsw u r (g q)) ⟨fun q hq => ?_, fun q h3 h4 => ?_⟩ hu
            · show zsw u r (g q) = fu f p u q
              rw [v.1 q hq]
              by_cases e : q = p
              · rw [e, fu_s, fu_s, zsw, if_neg (by omega), if_pos rfl]
              · have := hf q (by omega)
                rw [fu_n e, fu_n e, zsw, if_neg (by omega), if_neg (by omega)]
            · obtain ⟨a, b⟩ := v.2 q h3 h4
              exact ⟨(zsw_lt (by omega) (by omega)).mpr a, fun j hj hx e => b j hj hx (zsw_inj e)⟩
        · rw [if_neg hb]
theorem rmA_ex {n : Nat} {f : Nat → Nat} : rmA X n n 0 f ≠ none := rmQ_some n 0 f (fun q => q) ⟨fun q hq => by omega, fun q _ h => ⟨(by show q < n; omega), fun j hj _ => (by show j ≠ q; omega)⟩⟩
def rmZ : Nat → Nat := fun _ => 0
def rmM (X : Nat → Nat → Bool) (n : Nat) : Nat := (zfst (n + 1) 0 (fun m => (rmA X m n 0 rmZ).isSome)).getD 0
def rmW (X : Nat → Nat → Bool) (n : Nat) : Nat → Nat := (rmA X (rmM X n) n 0 rmZ).getD rmZ
theorem rm_is {n : Nat} {g : Nat → Nat} (hm : m ≤ n) (h0 : ∀ j, j < m → rmA X j n 0 rmZ = none) (h1 : rmA X m n 0 rmZ = some g) : rmM X n = m ∧ rmW X n = g := by
  have e : rmM X n = m := by
    rw [rmM, zfst_some.mpr ⟨Nat.zero_le m, by omega, by rw [h1]; rfl, fun j _ hj => by rw [h0 j hj]; rfl⟩]
    rfl
  refine ⟨e, ?_⟩
  rw [rmW, e, h1]
  rfl
end
def sp_rooms (x : Int32) (s : ZS) : Int32 × ZS := zans (if x = -1 then 0 else nbN (yN (sC s)) x) s (if x = -1 then nI (rmM (yX (sC s)) (yN (sC s))) else nI (rmW (yX (sC s)) (yN (sC s)) (pN x))) s
def zRm (M : ZMem) (p : Nat) (f : Nat → Nat) : Prop := ∀ r, r < 8 → M 32 r = nI (zm 8 (fun q => decide (q < p) && decide (f q = r)))
def zSe (M : ZMem) (c : ZCty) : Prop := M 31 2 = nI (yN c) ∧ ∀ j, j < 8 → M 33 j = nI (zm 8 (yX c j))
theorem zSe.same {M M' : ZMem} {c : ZCty} (h : zSe M c) (hs : zSame 32 33 M M') : zSe M' c := by
  unfold zSe
  rw [hs 31 (by omega), hs 33 (by omega)]
  exact h
theorem rm_and {X : Nat → Nat → Bool} {f : Nat → Nat} {p r : Nat} (hp : p ≤ 8) : nI (zm 8 (fun j => (decide (j < p) && decide (f j = r)) && X p j)) = 0 ↔ rmB X f p r = true := by
  have h := zm8_lt (fun j => (decide (j < p) && decide (f j = r)) && X p j)
  rw [← nI_0, nI_eq (by omega) (by omega), zm_0, rmB_iff]
  constructor
  · intro z q hq hx e
    have := z q (by omega)
    simp [hq, hx, e] at this
  · intro z j hj
    by_cases h1 : j < p
    · cases hx : X p j
      · simp
      · simp [h1]
        exact z j h1 hx
    · simp [h1]
theorem zRm_in {M : ZMem} {p r : Nat} {f : Nat → Nat} (h : zRm M p f) : zRm (zup M 32 r (nI (zm 8 (fun j => (decide (j < p) && decide (f j = r)) || decide (j = p))))) (p + 1) (fu f p r) := by
  intro i hi
  rw [zup_eq]
  by_cases e : i = r
  · subst e
    rw [upd_s]
    congr 1
    refine zm_ext (fun j _ => ?_)
    by_cases q : j = p
    · subst q; simp [fu_s]
    · rw [fu_n q]
      by_cases h1 : j < p
      · have : j < p + 1 := by omega
        simp [h1, q, this]
      · have : ¬ j < p + 1 := by omega
        simp [h1, q, this]
  · rw [upd_n e, h i hi]
    congr 1
    refine zm_ext (fun j _ => ?_)
    by_cases q : j = p
    · subst q
      have : ¬ r = i := fun z => e z.symm
      simp [fu_s, this]
    · rw [fu_n q]
      by_cases h1 : j < p
      · have : j < p + 1 := by omega
        simp [h1, this]
      · have : ¬ j < p + 1 := by omega
        simp [h1, this]
theorem zRm_out {M : ZMem} {p r : Nat} {f : Nat → Nat} (h : zRm M (p + 1) (fu f p r)) : zRm (zup M 32 r (nI (zm 8 (fun j => (decide (j < p + 1) && decide (fu f p r j = r)) && !decide (j = p))))) p f := by
  intro i hi
  rw [zup_eq]
  by_cases e : i = r
  · subst e
    rw [upd_s]
    congr 1
    refine zm_ext (fun j _ => ?_)
    by_cases q : j = p
    · subst q; simp
    · rw [fu_n q]
      by_cases h1 : j < p
      · have : j < p + 1 := by omega
        simp [h1, q, this]
      · have : ¬ j < p + 1 := by omega
        simp [h1, this]
  · rw [upd_n e, h i hi]
    congr 1
    refine zm_ext (fun j _ => ?_)
    by_cases q : j = p
    · subst q
      have : ¬ r = i := fun z => e z.symm
      simp [fu_s, this]
    · rw [fu_n q]
      by_cases h1 : j < p
      · have : j < p + 1 := by omega
        simp [h1, this]
      · have : ¬ j < p + 1 := by omega
        simp [h1, this]
theorem max_nI {a b : Nat} (ha : a < 2 ^ 31) (hb : b < 2 ^ 31) : (if nI a < nI b then nI b else nI a) = nI (max a b) := by
  by_cases h : a < b
  · rw [if_pos (nI_lt h hb), Nat.max_eq_right (by omega)]
  · rw [if_neg (nI_nlt (by omega) ha), Nat.max_eq_left (by omega)]
section
variable {d : Nat} {M : ZMem} {c : ZCty}
theorem j7_fill {b : Nat} {x : Int32} (hb : zshL[b]? = some (.inl 8)) : ZFv mdJ7_fill_53178 d [.ref b, .int x] M (fun M' => (∀ j, j < 8 → M' b j = x) ∧ ∀ k, k ≠ b → M' k = M k) := by
  have lp : ∀ r i M1, i + r = 8 → (∀ j, j < i → M1 b j = x) → (∀ k, k ≠ b → M1 k = M k) → ZV mdJ7_fill_53178 d (fun v M' => v = none ∧ ((∀ j, j < 8 → M' b j = x) ∧ ∀ k, k ≠ b → M' k = M k)) 5 [some (.ref b), some (.int x), some (.int (nI i)), some (.int (nI 8))] [] M1 := by
    intro r
    induction r with
    | zero =>
      intro i M1 e h1 h2
      have e : i = 8 := by omega
      subst e
      refine zv_iload_n (pc' := 6) dJ7_fill_53178_5 rfl rfl ?_
      refine zv_iload_n (pc' := 7) dJ7_fill_53178_6 rfl rfl ?_
      refine zv_icmp_ge (pc' := 10) (tgt := 20) dJ7_fill_53178_7 rfl rfl (fun _ => ?_) (fun hcc => absurd (Int32.le_refl _) hcc)
      refine zv_vret dJ7_fill_53178_20 rfl ?_
      exact ⟨rfl, h1, h2⟩
    | succ r ih =>
      intro i M1 e h1 h2
      refine zv_iload_n (pc' := 6) dJ7_fill_53178_5 rfl rfl ?_
      refine zv_iload_n (pc' := 7) dJ7_fill_53178_6 rfl rfl ?_
      refine zv_icmp_ge (pc' := 10) (tgt := 20) dJ7_fill_53178_7 rfl rfl (fun hcc => absurd hcc (nI_ge (by omega) (by omega))) (fun _ => ?_)
      refine zv_aload_n (pc' := 11) dJ7_fill_53178_10 rfl rfl ?_
      refine zv_iload_n (pc' := 12) dJ7_fill_53178_11 rfl rfl ?_
      refine zv_iload_n (pc' := 13) dJ7_fill_53178_12 rfl rfl ?_
      refine zv_iastoreN (pc' := 14) dJ7_fill_53178_13 rfl (by first | rfl | assumption) (by decide) (by omega) ?_
      refine zv_iinc (w := nI 1) (pc' := 17) dJ7_fill_53178_14 rfl rfl (by decide) (by decide) ?_
      refine zv_goto (pc' := 5) dJ7_fill_53178_17 rfl ?_
      rw [nI_add]
      refine ih (i + 1) _ (by omega) (fun j hj => ?_) (fun k hk => by rw [zup_ne hk]; exact h2 k hk)
      rw [zup_eq]
      by_cases e : j = i
      · rw [e, upd_s]
      · rw [upd_n e]; exact h1 j (by omega)
  refine zex_intro (L := [some (.ref b), some (.int x), none, none]) (by decide) (Nat.le_of_ble_eq_true rfl) rfl ?_
  refine zv_iconst (v := nI 0) (pc' := 1) dJ7_fill_53178_0 rfl (by decide) ?_
  refine zv_istore_n (pc' := 2) dJ7_fill_53178_1 rfl (by decide) ?_
  refine zv_aload_n (pc' := 3) dJ7_fill_53178_2 rfl rfl ?_
  refine zv_alen (pc' := 4) dJ7_fill_53178_3 rfl (by first | rfl | assumption) ?_
  refine zv_istore_n (pc' := 5) dJ7_fill_53178_4 rfl (by decide) ?_
  exact lp 8 0 M (by omega) (fun j hj => by omega) (fun _ _ => rfl)
theorem x4_seatFrom {m : Nat} (hn8 : yN c ≤ 8) (hm : m ≤ 8) : ∀ (k p u : Nat) (f : Nat → Nat) (M : ZMem), p + k = yN c → u ≤ 8 → zSe M c → zRm M p f → ∀ D, k + 2 ≤ D → ZFi mdX4_seatFrom D [.ref 31, .int (nI p), .int (nI u), .int (nI m)] M (fun x M' => x = zb (rmG (yX c) m k p u f).isSome ∧ (∀ g, rmG (yX c) m k p u f = some g → zRm M' (yN c) g) ∧ (rmG (yX c) m k p u f = none → zRm M' p f) ∧ zSame 32 33 M M') := by
  intro k
  induction k with
  | zero =>
    intro p u f M e hu hS hR D hD
    have hN := hS.1
    have e : p = yN c := by omega
    subst e
    refine zex_intro (L := [some (.ref 31), some (.int (nI (yN c))), some (.int (nI u)), some (.int (nI m)), none]) (by decide) (Nat.le_of_ble_eq_true rfl) rfl ?_
    refine zv_iload_n (pc' := 1) dX4_seatFrom_0 rfl rfl ?_
    refine zv_aload_n (pc' := 2) dX4_seatFrom_1 rfl rfl ?_
    refine zv_getIE (pc' := 5) dX4_seatFrom_2 rfl flX4_24 (by first | rfl | assumption) rfl (by first | exact hN | rfl) ?_
    refine zv_icmp_ge (pc' := 8) (tgt := 14) dX4_seatFrom_5 rfl rfl (fun _ => ?_) (fun hcc => absurd (Int32.le_refl _) hcc)
    refine zv_iconst (v := nI 1) (pc' := 15) dX4_seatFrom_14 rfl (by decide) ?_
    refine zv_ireturn dX4_seatFrom_15 rfl (by first | rfl | exact zb_nar _) ?_
    exact ⟨_, rfl, rfl, fun g hg => by rw [← Option.some.inj hg]; exact hR, fun h => (by cases h), zSame.rf⟩
  | succ k ihk =>
    intro p u f M e hu hS hR D hD
    obtain ⟨d, rfl⟩ : ∃ d, D = d + 2 := ⟨D - 2, by omega⟩
    have hN := hS.1
    have lp : ∀ j r M1, r + j = min (u + 1) m → zRm M1 p f → zSame 32 33 M M1 → zfo j r (rmH (yX c) m k p u f) = rmG (yX c) m (k + 1) p u f → ZV mdX4_seatFrom (d + 2) (fun v M' => ∃ x, v = some (.int x) ∧ (x = zb (rmG (yX c) m (k + 1) p u f).isSome ∧ (∀ g, rmG (yX c) m (k + 1) p u f = some g → zRm M' (yN c) g) ∧ (rmG (yX c) m (k + 1) p u f = none → zRm M' p f) ∧ zSame 32 33 M M')) 19 [some (.ref 31), some (.int (nI p)), some (.int (nI u)), some (.int (nI m)), some (.int (nI r))] [] M1 := by
      intro j
      induction j with
      | zero =>
        intro r M1 e1 hR1 s1 hz
        have hz : none = rmG (yX c) m (k + 1) p u f := hz
        have fin : ZV mdX4_seatFrom (d + 2) (fun v M' => ∃ x, v = some (.int x) ∧ (x = zb (rmG (yX c) m (k + 1) p u f).isSome ∧ (∀ g, rmG (yX c) m (k + 1) p u f = some g → zRm M' (yN c) g) ∧ (rmG (yX c) m (k + 1) p u f = none → zRm M' p f) ∧ zSame 32 33 M M')) 110 [some (.ref 31), some (.int (nI p)), some (.int (nI u)), some (.int (nI m)), some (.int (nI r))] [] M1 := by
          refine zv_iconst (v := nI 0) (pc' := 111) dX4_seatFrom_110 rfl (by decide) ?_
          refine zv_ireturn dX4_seatFrom_111 rfl (by first | rfl | exact zb_nar _) ?_
          rw [← hz]
          exact ⟨_, rfl, rfl, fun g hg => (by cases hg), fun _ => hR1, s1⟩
        refine zv_iload (pc' := 21) dX4_seatFrom_19 rfl rfl ?_
        refine zv_iload_n (pc' := 22) dX4_seatFrom_21 rfl rfl ?_
        refine zv_icmp_gt (pc' := 25) (tgt := 110) dX4_seatFrom_22 rfl rfl ?_ ?_
        · intro _
          exact fin
        · intro h
          have h := mt (nI_ltI (a := u) (b := r) (by omega) (by omega)).mpr h
          refine zv_iload (pc' := 27) dX4_seatFrom_25 rfl rfl ?_
          refine zv_iload_n (pc' := 28) dX4_seatFrom_27 rfl rfl ?_
          refine zv_icmp_ge (pc' := 31) (tgt := 110) dX4_seatFrom_28 rfl rfl (fun _ => ?_) (fun hcc => absurd (nI_le (by omega) (by omega)) hcc)
          exact fin
      | succ j ihj =>
        intro r M1 e1 hR1 s1 hz
        have hr8 : r < 8 := by omega
        have hR' : ∀ r, r < 8 → M1 32 r = nI (zm 8 (fun q => decide (q < p) && decide (f q = r))) := hR1
        have hX' := (hS.same s1).2
        refine zv_iload (pc' := 21) dX4_seatFrom_19 rfl rfl ?_
        refine zv_iload_n (pc' := 22) dX4_seatFrom_21 rfl rfl ?_
        refine zv_icmp_gt (pc' := 25) (tgt := 110) dX4_seatFrom_22 rfl rfl (fun hcc => absurd hcc (nI_nlt (by omega) (by omega))) (fun _ => ?_)
        refine zv_iload (pc' := 27) dX4_seatFrom_25 rfl rfl ?_
        refine zv_iload_n (pc' := 28) dX4_seatFrom_27 rfl rfl ?_
        refine zv_icmp_ge (pc' := 31) (tgt := 110) dX4_seatFrom_28 rfl rfl (fun hcc => absurd hcc (nI_ge (by omega) (by omega))) (fun _ => ?_)
        refine zv_iload (pc' := 33) dX4_seatFrom_31 rfl rfl ?_
        refine zv_bipush (v := nI 8) (pc' := 35) dX4_seatFrom_33 rfl (by decide) ?_
        refine zv_icmp_ge (pc' := 38) (tgt := 110) dX4_seatFrom_35 rfl rfl (fun hcc => absurd hcc (nI_ge (by omega) (by omega))) (fun _ => ?_)
        refine zv_aload_n (pc' := 39) dX4_seatFrom_38 rfl rfl ?_
        refine zv_getR (pc' := 42) dX4_seatFrom_39 rfl flX4_9 (by first | rfl | assumption) rfl ?_
        refine zv_iload (pc' := 44) dX4_seatFrom_42 rfl rfl ?_
        refine zv_ialoadE (pc' := 45) dX4_seatFrom_44 rfl (by first | rfl | assumption) (by decide) (by omega) (by first | exact hR' _ (by omega) | exact hX' _ (by omega) | rfl) ?_
        refine zv_aload_n (pc' := 46) dX4_seatFrom_45 rfl rfl ?_
        refine zv_getR (pc' := 49) dX4_seatFrom_46 rfl flX4_15 (by first | rfl | assumption) rfl ?_
        refine zv_iload_n (pc' := 50) dX4_seatFrom_49 rfl rfl ?_
        refine zv_ialoadE (pc' := 51) dX4_seatFrom_50 rfl (by first | rfl | assumption) (by decide) (by omega) (by first | exact hR' _ (by omega) | exact hX' _ (by omega) | rfl) ?_
        refine zv_iand (pc' := 52) dX4_seatFrom_51 rfl ?_
        refine zv_top mk_and ?_
        refine zv_if_ne (pc' := 55) (tgt := 104) dX4_seatFrom_52 rfl rfl ?_ ?_
        · intro h
          have hb : ¬ rmB (yX c) f p r = true := mt (rm_and (by omega)).mpr h
          have hg : rmH (yX c) m k p u f r = none := by rw [rmH, if_neg hb]
          rw [zfo_skip hg] at hz
          refine zv_iinc (w := nI 1) (pc' := 107) dX4_seatFrom_104 rfl rfl (by decide) (by decide) ?_
          refine zv_goto (pc' := 19) dX4_seatFrom_107 rfl ?_
          rw [nI_add]
          exact ihj (r + 1) M1 (by omega) hR1 s1 hz
        · intro h
          have hb : rmB (yX c) f p r = true := (rm_and (by omega)).mp h
          have hg : rmH (yX c) m k p u f r = rmG (yX c) m k (p + 1) (max u (r + 1)) (fu f p r) := by rw [rmH, if_pos hb]
          refine zv_aload_n (pc' := 56) dX4_seatFrom_55 rfl rfl ?_
          refine zv_getR (pc' := 59) dX4_seatFrom_56 rfl flX4_9 (by first | rfl | assumption) rfl ?_
          refine zv_iload (pc' := 61) dX4_seatFrom_59 rfl rfl ?_
          refine zv_dup2 (pc' := 62) dX4_seatFrom_61 rfl rfl rfl ?_
          refine zv_ialoadE (pc' := 63) dX4_seatFrom_62 rfl (by first | rfl | assumption) (by decide) (by omega) (by first | exact hR' _ (by omega) | exact hX' _ (by omega) | rfl) ?_
          refine zv_iconst (v := nI 1) (pc' := 64) dX4_seatFrom_63 rfl (by decide) ?_
          refine zv_iload_n (pc' := 65) dX4_seatFrom_64 rfl rfl ?_
          refine zv_ishl (pc' := 66) dX4_seatFrom_65 rfl ?_
          refine zv_top (zsh1 p (by omega)) ?_
          refine zv_ior (pc' := 67) dX4_seatFrom_66 rfl ?_
          refine zv_top (mk_or1 (by omega)) ?_
          refine zv_iastoreN (pc' := 68) dX4_seatFrom_67 rfl (by first | rfl | assumption) (by decide) (by omega) ?_
          have hR2 := zRm_in (r := r) hR1
          have s2 : zSame 32 33 M (zup M1 32 r (nI (zm 8 (fun j => (decide (j < p) && decide (f j = r)) || decide (j = p))))) := s1.tr (zSame.up (by omega) (by omega))
          generalize zup M1 32 r (nI (zm 8 (fun j => (decide (j < p) && decide (f j = r)) || decide (j = p)))) = M2 at hR2 s2 ⊢
          refine zv_aload_n (pc' := 69) dX4_seatFrom_68 rfl rfl ?_
          refine zv_iload_n (pc' := 70) dX4_seatFrom_69 rfl rfl ?_
          refine zv_iconst (v := nI 1) (pc' := 71) dX4_seatFrom_70 rfl (by decide) ?_
          refine zv_iadd (pc' := 72) dX4_seatFrom_71 rfl ?_
          refine zv_top (nI_add _ _) ?_
          refine zv_iload_n (pc' := 73) dX4_seatFrom_72 rfl rfl ?_
          refine zv_iload (pc' := 75) dX4_seatFrom_73 rfl rfl ?_
          refine zv_iconst (v := nI 1) (pc' := 76) dX4_seatFrom_75 rfl (by decide) ?_
          refine zv_iadd (pc' := 77) dX4_seatFrom_76 rfl ?_
          refine zv_top (nI_add _ _) ?_
          refine zv_mmax (pc' := 80) dX4_seatFrom_77 rfl lmX4_42 (Nat.le_of_ble_eq_true rfl) ?_
          refine zv_top (max_nI (by omega) (by omega)) ?_
          refine zv_iload_n (pc' := 81) dX4_seatFrom_80 rfl rfl ?_
          refine zv_cV3_fi (pc' := 84) dX4_seatFrom_81 rfl lkX4_38 (by first | rfl | assumption) rfl (Nat.le_of_ble_eq_true rfl) (ihk (p + 1) (max u (r + 1)) (fu f p r) M2 (by omega) (by omega) (hS.same s2) hR2 _ (by omega)) ?_
          rintro x M3 ⟨rfl, hs, hn, s3⟩
          rw [← hg] at hs hn ⊢
          refine zv_if_eq (pc' := 87) (tgt := 89) dX4_seatFrom_84 rfl rfl ?_ ?_
          · intro h
            have h := zb_0.mp h
            have hq : rmH (yX c) m k p u f r = none := by
              cases q : rmH (yX c) m k p u f r with
              | none => rfl
              | some y => rw [q] at h; cases h
            rw [zfo_skip hq] at hz
            have hR3 := hn hq
            have hR3' : ∀ i, i < 8 → M3 32 i = nI (zm 8 (fun q => decide (q < p + 1) && decide (fu f p r q = i))) := hR3
            refine zv_aload_n (pc' := 90) dX4_seatFrom_89 rfl rfl ?_
            refine zv_getR (pc' := 93) dX4_seatFrom_90 rfl flX4_9 (by first | rfl | assumption) rfl ?_
            refine zv_iload (pc' := 95) dX4_seatFrom_93 rfl rfl ?_
            refine zv_dup2 (pc' := 96) dX4_seatFrom_95 rfl rfl rfl ?_
            refine zv_ialoadE (pc' := 97) dX4_seatFrom_96 rfl (by first | rfl | assumption) (by decide) (by omega) (by first | exact hR3' _ (by omega) | rfl) ?_
            refine zv_iconst (v := nI 1) (pc' := 98) dX4_seatFrom_97 rfl (by decide) ?_
            refine zv_iload_n (pc' := 99) dX4_seatFrom_98 rfl rfl ?_
            refine zv_ishl (pc' := 100) dX4_seatFrom_99 rfl ?_
            refine zv_top (zsh1 p (by omega)) ?_
            refine zv_iconst (v := (-1 : Int32)) (pc' := 101) dX4_seatFrom_100 rfl (by decide) ?_
            refine zv_ixor (pc' := 102) dX4_seatFrom_101 rfl ?_
            refine zv_iand (pc' := 103) dX4_seatFrom_102 rfl ?_
            refine zv_top mk_cl1 ?_
            refine zv_iastoreN (pc' := 104) dX4_seatFrom_103 rfl (by first | rfl | assumption) (by decide) (by omega) ?_
            refine zv_iinc (w := nI 1) (pc' := 107) dX4_seatFrom_104 rfl rfl (by decide) (by decide) ?_
            refine zv_goto (pc' := 19) dX4_seatFrom_107 rfl ?_
            rw [nI_add]
            exact ihj (r + 1) _ (by omega) (zRm_out hR3) (s2.tr (s3.tr (zSame.up (by omega) (by omega)))) hz
          · intro h
            have h := zb_ne.mp h
            refine zv_iconst (v := nI 1) (pc' := 88) dX4_seatFrom_87 rfl (by decide) ?_
            refine zv_ireturn dX4_seatFrom_88 rfl (by first | rfl | exact zb_nar _) ?_
            cases q : rmH (yX c) m k p u f r with
            | none => rw [q] at h; cases h
            | some g =>
              rw [zfo_hit q] at hz
              rw [← hz]
              exact ⟨_, rfl, rfl, fun g' hg' => by rw [← Option.some.inj hg']; exact hs g q, fun z => (by cases z), s2.tr s3⟩
    refine zex_intro (L := [some (.ref 31), some (.int (nI p)), some (.int (nI u)), some (.int (nI m)), none]) (by decide) (Nat.le_of_ble_eq_true rfl) rfl ?_
    refine zv_iload_n (pc' := 1) dX4_seatFrom_0 rfl rfl ?_
    refine zv_aload_n (pc' := 2) dX4_seatFrom_1 rfl rfl ?_
    refine zv_getIE (pc' := 5) dX4_seatFrom_2 rfl flX4_24 (by first | rfl | assumption) rfl (by first | exact hN | rfl) ?_
    refine zv_icmp_ge (pc' := 8) (tgt := 14) dX4_seatFrom_5 rfl rfl (fun hcc => absurd hcc (nI_ge (by omega) (by omega))) (fun _ => ?_)
    refine zv_iload_n (pc' := 9) dX4_seatFrom_8 rfl rfl ?_
    refine zv_bipush (v := nI 8) (pc' := 11) dX4_seatFrom_9 rfl (by decide) ?_
    refine zv_icmp_lt (pc' := 14) (tgt := 16) dX4_seatFrom_11 rfl rfl (fun _ => ?_) (fun hcc => absurd (nI_lt (by omega) (by omega)) hcc)
    refine zv_iconst (v := nI 0) (pc' := 17) dX4_seatFrom_16 rfl (by decide) ?_
    refine zv_istore (pc' := 19) dX4_seatFrom_17 rfl (by decide) ?_
    exact lp (min (u + 1) m) 0 M (by omega) hR zSame.rf rfl
theorem x4_roomOf {p n : Nat} {g : Nat → Nat} (hR : zRm M n g) (hp : p < n) (hn : n ≤ 8) (hg : g p < 8) : ZPi mdX4_roomOf (d + 1) [.ref 31, .int (nI p)] M (nI (g p)) := by
  have hR' : ∀ i, i < 8 → M 32 i = nI (zm 8 (fun q => decide (q < n) && decide (g q = i))) := hR
  have lp : ∀ j r, r + j = g p → ZV mdX4_roomOf (d + 1) (fun v M' => v = some (.int (nI (g p))) ∧ M' = M) 2 [some (.ref 31), some (.int (nI p)), some (.int (nI r))] [] M := by
    intro j
    induction j with
    | zero =>
      intro r e
      have e : r = g p := by omega
      subst e
      refine zv_iload_n (pc' := 3) dX4_roomOf_2 rfl rfl ?_
      refine zv_bipush (v := nI 8) (pc' := 5) dX4_roomOf_3 rfl (by decide) ?_
      refine zv_icmp_ge (pc' := 8) (tgt := 29) dX4_roomOf_5 rfl rfl (fun hcc => absurd hcc (nI_ge (by omega) (by omega))) (fun _ => ?_)
      refine zv_aload_n (pc' := 9) dX4_roomOf_8 rfl rfl ?_
      refine zv_getR (pc' := 12) dX4_roomOf_9 rfl flX4_9 (by first | rfl | assumption) rfl ?_
      refine zv_iload_n (pc' := 13) dX4_roomOf_12 rfl rfl ?_
      refine zv_ialoadE (pc' := 14) dX4_roomOf_13 rfl (by first | rfl | assumption) (by decide) (by omega) (by first | exact hR' _ (by omega) | rfl) ?_
      refine zv_iload_n (pc' := 15) dX4_roomOf_14 rfl rfl ?_
      refine zv_cS2_pi (pc' := 18) dX4_roomOf_15 rfl lkX4_48 (Nat.le_of_ble_eq_true rfl) (x6_isInM (by omega)) ?_
      refine zv_if_eq (pc' := 21) (tgt := 23) dX4_roomOf_18 rfl rfl (fun hcc => absurd hcc (zb_ne.mpr (by simp; exact hp))) (fun _ => ?_)
      refine zv_iload_n (pc' := 22) dX4_roomOf_21 rfl rfl ?_
      refine zv_iret dX4_roomOf_22 rfl ?_
      exact ⟨rfl, rfl⟩
    | succ j ih =>
      intro r e
      refine zv_iload_n (pc' := 3) dX4_roomOf_2 rfl rfl ?_
      refine zv_bipush (v := nI 8) (pc' := 5) dX4_roomOf_3 rfl (by decide) ?_
      refine zv_icmp_ge (pc' := 8) (tgt := 29) dX4_roomOf_5 rfl rfl (fun hcc => absurd hcc (nI_ge (by omega) (by omega))) (fun _ => ?_)
      refine zv_aload_n (pc' := 9) dX4_roomOf_8 rfl rfl ?_
      refine zv_getR (pc' := 12) dX4_roomOf_9 rfl flX4_9 (by first | rfl | assumption) rfl ?_
      refine zv_iload_n (pc' := 13) dX4_roomOf_12 rfl rfl ?_
      refine zv_ialoadE (pc' := 14) dX4_roomOf_13 rfl (by first | rfl | assumption) (by decide) (by omega) (by first | exact hR' _ (by omega) | rfl) ?_
      refine zv_iload_n (pc' := 15) dX4_roomOf_14 rfl rfl ?_
      refine zv_cS2_pi (pc' := 18) dX4_roomOf_15 rfl lkX4_48 (Nat.le_of_ble_eq_true rfl) (x6_isInM (by omega)) ?_
      have : ¬ g p = r := by omega
      refine zv_if_eq (pc' := 21) (tgt := 23) dX4_roomOf_18 rfl rfl (fun _ => ?_) (fun hcc => absurd (zb_0.mpr (by simp [this])) hcc)
      refine zv_iinc (w := nI 1) (pc' := 26) dX4_roomOf_23 rfl rfl (by decide) (by decide) ?_
      refine zv_goto (pc' := 2) dX4_roomOf_26 rfl ?_
      rw [nI_add]
      exact ih (r + 1) (by omega)
  refine zex_intro (L := [some (.ref 31), some (.int (nI p)), none]) (by decide) (Nat.le_of_ble_eq_true rfl) rfl ?_
  refine zv_iconst (v := nI 0) (pc' := 1) dX4_roomOf_0 rfl (by decide) ?_
  refine zv_istore_n (pc' := 2) dX4_roomOf_1 rfl (by decide) ?_
  exact lp (g p) 0 (by omega)
theorem x4_seatAll (hA : zAt M 1 c) (hn8 : yN c ≤ 8) : ZFi mdX4_seatAll (d + 12) [.ref 31, .ref 1] M (fun x M' => x = nI (rmM (yX c) (yN c)) ∧ zRm M' (yN c) (rmW (yX c) (yN c)) ∧ zSame 31 34 M M') := by
  have hN := hA.1
  have lp : ∀ j m M1, m + j = yN c → zSe M1 c → zRm M1 0 rmZ → zSame 31 34 M M1 → (∀ i, i < m → rmA (yX c) i (yN c) 0 rmZ = none) → ZV mdX4_seatAll (d + 12) (fun v M' => ∃ x, v = some (.int x) ∧ (x = nI (rmM (yX c) (yN c)) ∧ zRm M' (yN c) (rmW (yX c) (yN c)) ∧ zSame 31 34 M M')) 33 [some (.ref 31), some (.ref 1), some (.int (nI m))] [] M1 := by
    intro j
    induction j with
    | zero =>
      intro m M1 e hS1 hR1 s1 hno
      have e : m = yN c := by omega
      subst e
      have hN1 := hS1.1
      refine zv_iload_n (pc' := 34) dX4_seatAll_33 rfl rfl ?_
      refine zv_aload_n (pc' := 35) dX4_seatAll_34 rfl rfl ?_
      refine zv_getIE (pc' := 38) dX4_seatAll_35 rfl flX4_24 (by first | rfl | assumption) rfl (by first | exact hN1 | rfl) ?_
      refine zv_icmp_ge (pc' := 41) (tgt := 59) dX4_seatAll_38 rfl rfl (fun _ => ?_) (fun hcc => absurd (Int32.le_refl _) hcc)
      refine zv_aload_n (pc' := 60) dX4_seatAll_59 rfl rfl ?_
      refine zv_iconst (v := nI 0) (pc' := 61) dX4_seatAll_60 rfl (by decide) ?_
      refine zv_iconst (v := nI 0) (pc' := 62) dX4_seatAll_61 rfl (by decide) ?_
      refine zv_aload_n (pc' := 63) dX4_seatAll_62 rfl rfl ?_
      refine zv_getIE (pc' := 66) dX4_seatAll_63 rfl flX4_24 (by first | rfl | assumption) rfl (by first | exact hN1 | rfl) ?_
      refine zv_cV3_fi (pc' := 69) dX4_seatAll_66 rfl lkX4_38 (by first | rfl | assumption) rfl (Nat.le_of_ble_eq_true rfl) (x4_seatFrom hn8 hn8 (yN c) 0 0 rmZ M1 (by omega) (by omega) hS1 hR1 _ (by omega)) ?_
      rintro x M2 ⟨rfl, hs, -, s2⟩
      have hN2 := (hS1.same s2).1
      refine zv_pop (pc' := 70) dX4_seatAll_69 rfl rfl ?_
      refine zv_aload_n (pc' := 71) dX4_seatAll_70 rfl rfl ?_
      refine zv_getIE (pc' := 74) dX4_seatAll_71 rfl flX4_24 (by first | rfl | assumption) rfl (by first | exact hN2 | rfl) ?_
      refine zv_iret dX4_seatAll_74 rfl ?_
      rw [← rmA_G (yN c) 0 0 rmZ (fun q hq => by omega)] at hs
      cases q : rmA (yX c) (yN c) (yN c) 0 rmZ with
      | none => exact absurd q rmA_ex
      | some g =>
        obtain ⟨e1, e2⟩ := rm_is (Nat.le_refl _) hno q
        rw [e1, e2]
        exact ⟨_, rfl, rfl, hs g q, s1.tr (s2.wide (by omega) (by omega))⟩
    | succ j ih =>
      intro m M1 e hS1 hR1 s1 hno
      have hN1 := hS1.1
      refine zv_iload_n (pc' := 34) dX4_seatAll_33 rfl rfl ?_
      refine zv_aload_n (pc' := 35) dX4_seatAll_34 rfl rfl ?_
      refine zv_getIE (pc' := 38) dX4_seatAll_35 rfl flX4_24 (by first | rfl | assumption) rfl (by first | exact hN1 | rfl) ?_
      refine zv_icmp_ge (pc' := 41) (tgt := 59) dX4_seatAll_38 rfl rfl (fun hcc => absurd hcc (nI_ge (by omega) (by omega))) (fun _ => ?_)
      refine zv_aload_n (pc' := 42) dX4_seatAll_41 rfl rfl ?_
      refine zv_iconst (v := nI 0) (pc' := 43) dX4_seatAll_42 rfl (by decide) ?_
      refine zv_iconst (v := nI 0) (pc' := 44) dX4_seatAll_43 rfl (by decide) ?_
      refine zv_iload_n (pc' := 45) dX4_seatAll_44 rfl rfl ?_
      refine zv_cV3_fi (pc' := 48) dX4_seatAll_45 rfl lkX4_38 (by first | rfl | assumption) rfl (Nat.le_of_ble_eq_true rfl) (x4_seatFrom hn8 (by omega) (yN c) 0 0 rmZ M1 (by omega) (by omega) hS1 hR1 _ (by omega)) ?_
      rintro x M2 ⟨rfl, hs, hn, s2⟩
      rw [← rmA_G (yN c) 0 0 rmZ (fun q hq => by omega)] at hs hn ⊢
      cases q : rmA (yX c) m (yN c) 0 rmZ with
      | none =>
        refine zv_if_eq (pc' := 51) (tgt := 53) dX4_seatAll_48 rfl rfl (fun _ => ?_) (fun hcc => absurd (rfl) hcc)
        refine zv_iinc (w := nI 1) (pc' := 56) dX4_seatAll_53 rfl rfl (by decide) (by decide) ?_
        refine zv_goto (pc' := 33) dX4_seatAll_56 rfl ?_
        rw [nI_add]
        refine ih (m + 1) M2 (by omega) (hS1.same s2) (hn q) (s1.tr (s2.wide (by omega) (by omega))) (fun i hi => ?_)
        by_cases z : i = m
        · rw [z]; exact q
        · exact hno i (by omega)
      | some g =>
        refine zv_if_eq (pc' := 51) (tgt := 53) dX4_seatAll_48 rfl rfl (fun hcc => absurd hcc (zb_ne.mpr rfl)) (fun _ => ?_)
        refine zv_iload_n (pc' := 52) dX4_seatAll_51 rfl rfl ?_
        refine zv_iret dX4_seatAll_52 rfl ?_
        obtain ⟨e1, e2⟩ := rm_is (by omega) hno q
        rw [e1, e2]
        exact ⟨_, rfl, rfl, hs g q, s1.tr (s2.wide (by omega) (by omega))⟩
  refine zex_intro (L := [some (.ref 31), some (.ref 1), none]) (by decide) (Nat.le_of_ble_eq_true rfl) rfl ?_
  refine zv_aload_n (pc' := 1) dX4_seatAll_0 rfl rfl ?_
  refine zv_aload_n (pc' := 2) dX4_seatAll_1 rfl rfl ?_
  refine zv_getIE (pc' := 5) dX4_seatAll_2 rfl flX4_18 (by first | rfl | assumption) rfl (by first | exact hN | rfl) ?_
  refine zv_putI (pc' := 8) dX4_seatAll_5 rfl flX4_24 pfX4_2 (by first | rfl | assumption) rfl rfl rfl ?_
  refine zv_aload_n (pc' := 9) dX4_seatAll_8 rfl rfl ?_
  refine zv_getR (pc' := 12) dX4_seatAll_9 rfl flX4_25 (by first | rfl | assumption) rfl ?_
  refine zv_iconst (v := nI 0) (pc' := 13) dX4_seatAll_12 rfl (by decide) ?_
  refine zv_aload_n (pc' := 14) dX4_seatAll_13 rfl rfl ?_
  refine zv_getR (pc' := 17) dX4_seatAll_14 rfl flX4_15 (by first | rfl | assumption) rfl ?_
  refine zv_iconst (v := nI 0) (pc' := 18) dX4_seatAll_17 rfl (by decide) ?_
  refine zv_bipush (v := nI 8) (pc' := 20) dX4_seatAll_18 rfl (by decide) ?_
  refine zv_copy8 (pc' := 23) dX4_seatAll_20 rfl lkX4_26 rfl rfl (Nat.le_of_ble_eq_true rfl) ?_
  have hS1 : zSe (zupf (zup M 31 2 (nI (yN c))) 33 (va_cpy (zup M 31 2 (nI (yN c)) 6) (zup M 31 2 (nI (yN c)) 33) 0 0 8)) c := by
    refine ⟨?_, fun j hj => ?_⟩
    · rw [zupf_ne (by decide), zup_eq, upd_s]
    · rw [zupf_eq, sb_cpy0 hj, zup_ne (by decide)]
      exact hA.2.2.2.2.2.2 j hj
  have s1 : zSame 31 34 M (zupf (zup M 31 2 (nI (yN c))) 33 (va_cpy (zup M 31 2 (nI (yN c)) 6) (zup M 31 2 (nI (yN c)) 33) 0 0 8)) := fun k hk => by rw [zupf_ne (by omega), zup_ne (by omega)]
  generalize zupf (zup M 31 2 (nI (yN c))) 33 (va_cpy (zup M 31 2 (nI (yN c)) 6) (zup M 31 2 (nI (yN c)) 33) 0 0 8) = M1 at hS1 s1 ⊢
  refine zv_aload_n (pc' := 24) dX4_seatAll_23 rfl rfl ?_
  refine zv_getR (pc' := 27) dX4_seatAll_24 rfl flX4_9 (by first | rfl | assumption) rfl ?_
  refine zv_iconst (v := nI 0) (pc' := 28) dX4_seatAll_27 rfl (by decide) ?_
  refine zv_cS2_fv (pc' := 31) dX4_seatAll_28 rfl lkX4_32 (Nat.le_of_ble_eq_true rfl) (j7_fill rfl) ?_
  rintro M2 ⟨h1, h2⟩
  have s2 : zSame 32 33 M1 M2 := fun k hk => h2 k (by omega)
  refine zv_iconst (v := nI 0) (pc' := 32) dX4_seatAll_31 rfl (by decide) ?_
  refine zv_istore_n (pc' := 33) dX4_seatAll_32 rfl (by decide) ?_
  refine lp (yN c) 0 M2 (by omega) (hS1.same s2) (fun r hr => ?_) (s1.tr (s2.wide (by omega) (by omega))) (fun i hi => by omega)
  rw [h1 r hr, zm_0.mpr (fun j _ => by simp)]
end
section
variable {d : Nat}
theorem gx_rooms (x : Int32) : zGx mdX6_rooms (d + 13) [.int x] (sp_rooms x) := by
  intro M s hI hk
  have hn8 := hk.1.1
  have hA := hI.1
  have fin : ∀ u, u < 7 → u = (if x = -1 then 0 else nbN (yN (sC s)) x) → ZV mdX6_rooms (d + 13) (fun v M' => ∃ r, v = some (.int r) ∧ (r = (sp_rooms x s).1 ∧ zIx M' (sp_rooms x s).2 ∧ zSame 0 90 M M')) 14 [some (.ref 0), some (.int x), none, none] [.int (-nI u)] M := by
    intro u hu hue
    refine zv_istore_n (pc' := 15) dX6_rooms_14 rfl (by decide) ?_
    refine zv_iload_n (pc' := 16) dX6_rooms_15 rfl rfl ?_
    refine zv_if_eq (pc' := 19) (tgt := 25) dX6_rooms_16 rfl rfl ?_ ?_
    · intro h
      have h0 := (neg_w0 _ hu).mp h
      rw [hue] at h0
      refine zv_aload_n (pc' := 26) dX6_rooms_25 rfl rfl ?_
      refine zv_getR (pc' := 29) dX6_rooms_26 rfl flX6_49 (by first | rfl | assumption) rfl ?_
      refine zv_aload_n (pc' := 30) dX6_rooms_29 rfl rfl ?_
      refine zv_getR (pc' := 33) dX6_rooms_30 rfl flX6_10 (by first | rfl | assumption) rfl ?_
      refine zv_cV1_fi (pc' := 36) dX6_rooms_33 rfl lkX6_221 (by first | rfl | assumption) rfl (Nat.le_of_ble_eq_true rfl) (x4_seatAll hA hn8) ?_
      rintro r M1 ⟨rfl, hR, s1⟩
      refine zv_istore_n (pc' := 37) dX6_rooms_36 rfl (by decide) ?_
      refine zv_iload_n (pc' := 38) dX6_rooms_37 rfl rfl ?_
      refine zv_iconst (v := (-1 : Int32)) (pc' := 39) dX6_rooms_38 rfl (by decide) ?_
      refine zv_icmp_ne (pc' := 42) (tgt := 46) dX6_rooms_39 rfl rfl ?_ ?_
      · intro hx
        rw [if_neg hx] at h0
        obtain ⟨p, hp, rfl⟩ := hasB_of hn8 (nbN_0.mp h0)
        have hg : rmW (yX (sC s)) (yN (sC s)) p < 8 := by
          cases q : rmA (yX (sC s)) (rmM (yX (sC s)) (yN (sC s))) (yN (sC s)) 0 rmZ with
          | none => rw [rmW, q]; show 0 < 8; decide
          | some g =>
            have v := (rmQ_of _ _ _ _ q).2 p (by omega) (by omega)
            rw [rmW, q]
            show g p < 8
            have hM : rmM (yX (sC s)) (yN (sC s)) ≤ 8 := by
              rw [rmM]
              cases z : zfst (yN (sC s) + 1) 0 (fun m => (rmA (yX (sC s)) m (yN (sC s)) 0 rmZ).isSome) with
              | none => decide
              | some w =>
                have := (zfst_some.mp z).2.1
                show w ≤ 8
                omega
            omega
        refine zv_aload_n (pc' := 47) dX6_rooms_46 rfl rfl ?_
        refine zv_getR (pc' := 50) dX6_rooms_47 rfl flX6_49 (by first | rfl | assumption) rfl ?_
        refine zv_iload_n (pc' := 51) dX6_rooms_50 rfl rfl ?_
        refine zv_cV1_pi (pc' := 54) dX6_rooms_51 rfl lkX6_224 (by first | rfl | assumption) rfl (Nat.le_of_ble_eq_true rfl) (x4_roomOf hR hp hn8 hg) ?_
        refine zv_iret dX6_rooms_54 rfl ?_
        exact zdonq (by rw [sp_rooms, zans_0 (by rw [if_neg hx]; exact h0), if_neg hx, pN_nI (by omega)]) hI (zScr.same s1 (by omega))
      · intro hx
        subst hx
        refine zv_iload_n (pc' := 43) dX6_rooms_42 rfl rfl ?_
        refine zv_goto (pc' := 54) dX6_rooms_43 rfl ?_
        refine zv_iret dX6_rooms_54 rfl ?_
        exact zdonq (by rw [sp_rooms, zans_0 (by rw [if_pos rfl]), if_pos rfl]) hI (zScr.same s1 (by omega))
    · intro h
      have h0 := mt (neg_w0 _ hu).mpr h
      refine zv_aload_n (pc' := 20) dX6_rooms_19 rfl rfl ?_
      refine zv_iload_n (pc' := 21) dX6_rooms_20 rfl rfl ?_
      refine zv_cV1_fi (pc' := 24) dX6_rooms_21 rfl lkX6_84 (by first | rfl | assumption) rfl (Nat.le_of_ble_eq_true rfl) (x6_refuse hu h0) ?_
      rintro r M1 ⟨rfl, rfl⟩
      refine zv_iret dX6_rooms_24 rfl ?_
      rw [sp_rooms, ← hue]
      exact zrefx hI h0
  refine zex_intro (L := [some (.ref 0), some (.int x), none, none]) (by decide) (Nat.le_of_ble_eq_true rfl) rfl ?_
  refine zv_iload_n (pc' := 1) dX6_rooms_0 rfl rfl ?_
  refine zv_iconst (v := (-1 : Int32)) (pc' := 2) dX6_rooms_1 rfl (by decide) ?_
  refine zv_icmp_ne (pc' := 5) (tgt := 9) dX6_rooms_2 rfl rfl ?_ ?_
  · intro hx
    refine zv_aload_n (pc' := 10) dX6_rooms_9 rfl rfl ?_
    refine zv_iload_n (pc' := 11) dX6_rooms_10 rfl rfl ?_
    refine zv_cV1_pi (pc' := 14) dX6_rooms_11 rfl lkX6_111 (by first | rfl | assumption) rfl (Nat.le_of_ble_eq_true rfl) (x6_nobody hA) ?_
    exact fin _ nbN_lt (by rw [if_neg hx])
  · intro hx
    refine zv_iconst (v := nI 0) (pc' := 6) dX6_rooms_5 rfl (by decide) ?_
    refine zv_goto (pc' := 14) dX6_rooms_6 rfl ?_
    refine zv_top (show nI 0 = -nI 0 by decide) ?_
    exact fin 0 (by decide) (by rw [if_pos hx])
end
