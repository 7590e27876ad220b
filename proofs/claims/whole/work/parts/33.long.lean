/-! longs: divisors and parts -/
def ptN (a b w : Nat) : Nat := (if w = 0 then a else b) / Nat.gcd a b
theorem zv_ltop {m : ZMD} {d : Nat} {Q : Option Value → ZMem → Prop} {pc : Nat} {L : ZLc} {st : List Value} {M : ZMem} {x y : Int64} (h : x = y) (k : ZV m d Q pc L (.long y :: st) M) : ZV m d Q pc L (.long x :: st) M := by rw [h]; exact k
theorem gcd_st {a b : Nat} : Nat.gcd b (a % b) = Nat.gcd a b := by
  rw [Nat.gcd_comm b, ← Nat.gcd_rec, Nat.gcd_comm]
theorem half_st {a b k : Nat} (hb : b < 2 ^ (k + 1)) (h0 : 0 < a % b) (hb0 : 0 < b) : b % (a % b) < 2 ^ k := by
  have h1 : a % b < b := Nat.mod_lt _ hb0
  rw [Nat.pow_succ] at hb
  rcases Nat.lt_or_ge (a % b) (2 ^ k) with h | h
  · exact Nat.lt_trans (Nat.mod_lt _ h0) h
  · have e : b % (a % b) = (b - a % b) % (a % b) := Nat.mod_eq_sub_mod (by omega)
    have := Nat.mod_le (b - a % b) (a % b)
    omega
theorem lg0 {b : Nat} (hb : b < 2 ^ 63) : lg_cmp (lN b) 0 = 0 ↔ b = 0 := by
  rw [lg_cmp_eq]
  exact pk_lEQ (b := 0) hb (by decide)
section
variable {d : Nat} {M : ZMem}
theorem x6_commonDivisor {a b : Nat} (ha : a < 2 ^ 31) (hb : b < 2 ^ 31) : ZPl mdX6_commonDivisor d [.long (lN a), .long (lN b)] M (lN (Nat.gcd a b)) := by
  have lp : ∀ k j u v, v < 2 ^ k → k ≤ 31 → u < 2 ^ 31 → j + 2 * k ≤ 100 → Nat.gcd u v = Nat.gcd a b → ZV mdX6_commonDivisor d (fun x M' => x = some (.long (lN (Nat.gcd a b))) ∧ M' = M) 9 [some (.long (lN a)), none, some (.long (lN b)), none, some (.long (lN u)), none, some (.long (lN v)), none, some (.int (nI j)), none, none] [] M := by
    have out : ∀ j u, Nat.gcd u 0 = Nat.gcd a b → ZV mdX6_commonDivisor d (fun x M' => x = some (.long (lN (Nat.gcd a b))) ∧ M' = M) 44 [some (.long (lN a)), none, some (.long (lN b)), none, some (.long (lN u)), none, some (.long (lN 0)), none, some (.int (nI j)), none, none] [] M := by
      intro j u hg
      refine zv_lload (pc' := 46) dX6_commonDivisor_44 rfl rfl ?_
      refine zv_lret dX6_commonDivisor_46 rfl ?_
      exact ⟨by rw [← hg, Nat.gcd_zero_right], rfl⟩
    have one : ∀ j u v, j < 100 → 0 < v → v < 2 ^ 31 → u < 2 ^ 31 → ZV mdX6_commonDivisor d (fun x M' => x = some (.long (lN (Nat.gcd a b))) ∧ M' = M) 9 [some (.long (lN a)), none, some (.long (lN b)), none, some (.long (lN v)), none, some (.long (lN (u % v))), none, some (.int (nI (j + 1))), none, none] [] M → ZV mdX6_commonDivisor d (fun x M' => x = some (.long (lN (Nat.gcd a b))) ∧ M' = M) 9 [some (.long (lN a)), none, some (.long (lN b)), none, some (.long (lN u)), none, some (.long (lN v)), none, some (.int (nI j)), none, none] [] M := by
      intro j u v hj hv0 hv hu kk
      have hne : ¬ lN v = 0 := mt (pk_lEQ (a := v) (b := 0) (by omega) (by decide)).mp (by omega)
      refine zv_iload (pc' := 11) dX6_commonDivisor_9 rfl rfl ?_
      refine zv_bipush (v := nI 100) (pc' := 13) dX6_commonDivisor_11 rfl (by decide) ?_
      refine zv_icmp_ge (pc' := 16) (tgt := 44) dX6_commonDivisor_13 rfl rfl (fun hcc => absurd hcc (nI_ge (by omega) (by omega))) (fun _ => ?_)
      refine zv_lload (pc' := 18) dX6_commonDivisor_16 rfl rfl ?_
      refine zv_lconst (v := 0) (pc' := 19) dX6_commonDivisor_18 rfl (by decide) ?_
      refine zv_lcmp (pc' := 20) dX6_commonDivisor_19 rfl ?_
      refine zv_if_eq (pc' := 23) (tgt := 44) dX6_commonDivisor_20 rfl rfl (fun hcc => absurd hcc (mt (lg0 (b := v) (by omega)).mp (by omega))) (fun _ => ?_)
      refine zv_lload (pc' := 25) dX6_commonDivisor_23 rfl rfl ?_
      refine zv_lload (pc' := 27) dX6_commonDivisor_25 rfl rfl ?_
      refine zv_lrem (pc' := 28) dX6_commonDivisor_27 rfl (by first | assumption | decide) ?_
      refine zv_ltop (pk_lRem (by omega) hv0 (by omega)) ?_
      refine zv_lstore (pc' := 30) dX6_commonDivisor_28 rfl (by decide) ?_
      refine zv_lload (pc' := 32) dX6_commonDivisor_30 rfl rfl ?_
      refine zv_lstore (pc' := 34) dX6_commonDivisor_32 rfl (by decide) ?_
      refine zv_lload (pc' := 36) dX6_commonDivisor_34 rfl rfl ?_
      refine zv_lstore (pc' := 38) dX6_commonDivisor_36 rfl (by decide) ?_
      refine zv_iinc (w := nI 1) (pc' := 41) dX6_commonDivisor_38 rfl rfl (by decide) (by decide) ?_
      refine zv_goto (pc' := 9) dX6_commonDivisor_41 rfl ?_
      refine zv_fg [9, 10] ?_
      rw [nI_add]
      exact kk
    have zer : ∀ j u, Nat.gcd u 0 = Nat.gcd a b → ZV mdX6_commonDivisor d (fun x M' => x = some (.long (lN (Nat.gcd a b))) ∧ M' = M) 9 [some (.long (lN a)), none, some (.long (lN b)), none, some (.long (lN u)), none, some (.long (lN 0)), none, some (.int (nI j)), none, none] [] M := by
      intro j u hg
      refine zv_iload (pc' := 11) dX6_commonDivisor_9 rfl rfl ?_
      refine zv_bipush (v := nI 100) (pc' := 13) dX6_commonDivisor_11 rfl (by decide) ?_
      refine zv_icmp_ge (pc' := 16) (tgt := 44) dX6_commonDivisor_13 rfl rfl ?_ ?_
      · intro _
        exact out j u hg
      · intro _
        refine zv_lload (pc' := 18) dX6_commonDivisor_16 rfl rfl ?_
        refine zv_lconst (v := 0) (pc' := 19) dX6_commonDivisor_18 rfl (by decide) ?_
        refine zv_lcmp (pc' := 20) dX6_commonDivisor_19 rfl ?_
        refine zv_if_eq (pc' := 23) (tgt := 44) dX6_commonDivisor_20 rfl rfl (fun _ => ?_) (fun hcc => absurd ((lg0 (by decide)).mpr rfl) hcc)
        exact out j u hg
    intro k
    induction k with
    | zero =>
      intro j u v hv _ hu hj hg
      have hv : v = 0 := by omega
      rw [hv] at hg ⊢
      exact zer j u hg
    | succ k ih =>
      intro j u v hv hk31 hu hj hg
      have hp31 : 2 ^ (k + 1) ≤ 2 ^ 31 := Nat.pow_le_pow_right (by decide) hk31
      by_cases h0 : v = 0
      · rw [h0] at hg ⊢
        exact zer j u hg
      · have hv0 : 0 < v := by omega
        have hm : u % v < v := Nat.mod_lt _ hv0
        refine one j u v (by omega) hv0 (by omega) hu ?_
        by_cases h1 : u % v = 0
        · rw [h1]
          exact zer (j + 1) v (by have e := gcd_st (a := u) (b := v); rw [h1] at e; rw [e]; exact hg)
        · refine one (j + 1) v (u % v) (by omega) (by omega) (by omega) (by omega) ?_
          exact ih (j + 1 + 1) (u % v) (v % (u % v)) (half_st hv (by omega) hv0) (by omega) (by omega) (by omega) (by rw [gcd_st, gcd_st]; exact hg)
  refine zex_intro (L := [some (.long (lN a)), none, some (.long (lN b)), none, none, none, none, none, none, none, none]) (by decide) (Nat.le_of_ble_eq_true rfl) rfl ?_
  refine zv_lload_n (pc' := 1) dX6_commonDivisor_0 rfl rfl ?_
  refine zv_lstore (pc' := 3) dX6_commonDivisor_1 rfl (by decide) ?_
  refine zv_lload_n (pc' := 4) dX6_commonDivisor_3 rfl rfl ?_
  refine zv_lstore (pc' := 6) dX6_commonDivisor_4 rfl (by decide) ?_
  refine zv_iconst (v := nI 0) (pc' := 7) dX6_commonDivisor_6 rfl (by decide) ?_
  refine zv_istore (pc' := 9) dX6_commonDivisor_7 rfl (by decide) ?_
  exact lp 31 0 a b hb (by omega) ha (by omega) rfl
end
