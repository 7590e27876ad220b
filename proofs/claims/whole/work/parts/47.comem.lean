/-! county: statements and what comes of them, in the reference -/
section
variable {d : Nat} {M : ZMem} {l : ZLt} {c : ZCty}
def stQ (l : ZLt) (st k : Nat) (M : ZMem) (x : Int32) (M' : ZMem) : Prop := ((x = zb true ∧ bdA l st = none ∧ M' 90 14 = nI (st + lenN l st) ∧ M' 98 k = nI (l.2 st) ∧ M' 99 k = nI st ∧ ∀ i, i < tdC (l.2 st) → M' 100 (3 * k + i) = nI (tdN l st i)) ∨ ∃ b, x = zb false ∧ bdA l st = some b ∧ M' 90 14 = nI b) ∧ (∀ i, i < k → M' 98 i = M 98 i ∧ M' 99 i = M 99 i) ∧ (∀ i, i < 3 * k → M' 100 i = M 100 i) ∧ zFr [98, 99, 100] [14] M M'
theorem x7_statement {st k : Nat} (h : zLm M l) (ha : M 90 14 = nI st) (hk : M 90 15 = nI k) (hst : st < 1000) (hk48 : k < 48) : ZFi mdX7_statement (d + 4) [.ref 90] M (stQ l st k M) := by
  have h96 := h.2.2.1
  have h255 := h.2.2.2 st
  have go : st < l.1 → (l.2 st = 112 ∨ l.2 st = 109 ∨ l.2 st = 115 ∨ l.2 st = 98 ∨ l.2 st = 102 ∨ l.2 st = 121) → ZV mdX7_statement (d + 4) (fun v M' => ∃ x, v = some (.int x) ∧ stQ l st k M x M') 43 [some (.ref 90), some (.int (nI (l.2 st)))] [] M := by
    intro hs hx
    have he : lenN l st = lnC (l.2 st) := if_pos hs
    have hlen : 4 ≤ lenN l st ∧ lenN l st ≤ 6 := by
      rw [he]
      unfold lnC
      repeat' split
      all_goals first | omega
    have hbd : bdA l st = fbO l st (st + 1) := by
      rw [bdA, if_neg (by omega), fbO]
      congr 1
      omega
    have k1 : zup M 98 k (nI (l.2 st)) 90 15 = nI k := by rw [zup_ne (by decide)]; exact hk
    have a1 : zup M 98 k (nI (l.2 st)) 90 14 = nI st := by rw [zup_ne (by decide)]; exact ha
    have a2 : zup (zup M 98 k (nI (l.2 st))) 99 k (nI st) 90 14 = nI st := by rw [zup_ne (by decide)]; exact a1
    refine zv_aload_n (pc' := 44) dX7_statement_43 rfl rfl ?_
    refine zv_getR (pc' := 47) dX7_statement_44 rfl flX7_35 (by first | rfl | assumption) rfl ?_
    refine zv_aload_n (pc' := 48) dX7_statement_47 rfl rfl ?_
    refine zv_getIE (pc' := 51) dX7_statement_48 rfl flX7_113 (by first | rfl | assumption) rfl (by first | exact hk | rfl) ?_
    refine zv_iload_n (pc' := 52) dX7_statement_51 rfl rfl ?_
    refine zv_iastoreN (pc' := 53) dX7_statement_52 rfl (by first | rfl | assumption) (by decide) (by omega) ?_
    refine zv_aload_n (pc' := 54) dX7_statement_53 rfl rfl ?_
    refine zv_getR (pc' := 57) dX7_statement_54 rfl flX7_38 (by first | rfl | assumption) rfl ?_
    refine zv_aload_n (pc' := 58) dX7_statement_57 rfl rfl ?_
    refine zv_getIE (pc' := 61) dX7_statement_58 rfl flX7_113 (by first | rfl | assumption) rfl (by first | exact k1 | exact a1 | rfl) ?_
    refine zv_aload_n (pc' := 62) dX7_statement_61 rfl rfl ?_
    refine zv_getIE (pc' := 65) dX7_statement_62 rfl flX7_93 (by first | rfl | assumption) rfl (by first | exact k1 | exact a1 | rfl) ?_
    refine zv_iastoreN (pc' := 66) dX7_statement_65 rfl (by first | rfl | assumption) (by decide) (by omega) ?_
    refine zv_aload_n (pc' := 67) dX7_statement_66 rfl rfl ?_
    refine zv_dup (pc' := 68) dX7_statement_67 rfl rfl ?_
    refine zv_getIE (pc' := 71) dX7_statement_68 rfl flX7_93 (by first | rfl | assumption) rfl (by first | exact a2 | rfl) ?_
    refine zv_iconst (v := nI 1) (pc' := 72) dX7_statement_71 rfl (by decide) ?_
    refine zv_iadd (pc' := 73) dX7_statement_72 rfl ?_
    refine zv_top (nI_add _ _) ?_
    refine zv_putI (pc' := 76) dX7_statement_73 rfl flX7_93 pfX7_14 (by first | rfl | assumption) rfl rfl rfl ?_
    have f3 : zFr [98, 99] [14] M (zup (zup (zup M 98 k (nI (l.2 st))) 99 k (nI st)) 90 14 (nI (st + 1))) := (zFr.up (by decide) (by decide)).tr ((zFr.up (by decide) (by decide)).tr (zFr.uf (by decide)))
    have a3 : (zup (zup (zup M 98 k (nI (l.2 st))) 99 k (nI st)) 90 14 (nI (st + 1))) 90 14 = nI (st + 1) := by rw [zup_eq, upd_s]
    have b3 : (zup (zup (zup M 98 k (nI (l.2 st))) 99 k (nI st)) 90 14 (nI (st + 1))) 98 k = nI (l.2 st) := by rw [zup_ne (by decide), zup_ne (by decide), zup_eq, upd_s]
    have c3 : (zup (zup (zup M 98 k (nI (l.2 st))) 99 k (nI st)) 90 14 (nI (st + 1))) 99 k = nI st := by rw [zup_ne (by decide), zup_eq, upd_s]
    have d3 : ∀ i, i < k → (zup (zup (zup M 98 k (nI (l.2 st))) 99 k (nI st)) 90 14 (nI (st + 1))) 98 i = M 98 i ∧ (zup (zup (zup M 98 k (nI (l.2 st))) 99 k (nI st)) 90 14 (nI (st + 1))) 99 i = M 99 i := fun i hi => by
      rw [zup_ne (by decide), zup_ne (by decide), zup_eq, upd_n (by omega), zup_ne (by decide), zup_eq, upd_n (by omega), zup_ne (by decide)]
      exact ⟨rfl, rfl⟩
    generalize zup (zup (zup M 98 k (nI (l.2 st))) 99 k (nI st)) 90 14 (nI (st + 1)) = M3 at f3 a3 b3 c3 d3 ⊢
    have l3 := h.same f3 (by decide) (by decide)
    have k3 : M3 90 15 = nI k := by rw [f3.2 15 (by decide)]; exact hk
    have e3 : M3 100 = M 100 := f3.1 100 (by decide) (by decide)
    refine zv_aload_n (pc' := 77) dX7_statement_76 rfl rfl ?_
    refine zv_iload_n (pc' := 78) dX7_statement_77 rfl rfl ?_
    refine zv_iconst (v := nI 3) (pc' := 79) dX7_statement_78 rfl (by decide) ?_
    refine zv_aload_n (pc' := 80) dX7_statement_79 rfl rfl ?_
    refine zv_getIE (pc' := 83) dX7_statement_80 rfl flX7_113 (by first | rfl | assumption) rfl (by first | exact k3 | rfl) ?_
    refine zv_imul (pc' := 84) dX7_statement_83 rfl ?_
    refine zv_top (pk_mul 3 k) ?_
    refine zv_cV2_fi (pc' := 87) dX7_statement_84 rfl lkX7_116 (by first | rfl | assumption) rfl (Nat.le_of_ble_eq_true rfl) (x7_readsAll l3 hs hx a3 (by omega)) ?_
    rintro x M4 ⟨h4, o4, f4⟩
    have D4 : ∀ i, i < k → M4 98 i = M 98 i ∧ M4 99 i = M 99 i := fun i hi => by
      rw [f4.1 98 (by decide) (by decide), f4.1 99 (by decide) (by decide)]; exact d3 i hi
    have O4 : ∀ i, i < 3 * k → M4 100 i = M 100 i := fun i hi => by rw [o4 i (by omega), e3]
    have F4 : zFr [98, 99, 100] [14] M M4 := (f3.mono (by simp) (by simp)).tr (f4.mono (by simp) (by simp))
    rcases h4 with ⟨rfl, z2, z3, z4⟩ | ⟨b, rfl, z2, z3⟩
    · have l4 := l3.same f4 (by decide) (by decide)
      have hlast : okB l st (st + lenN l st - 1) = (decide (st + lenN l st - 1 < l.1) && decide (l.2 (st + lenN l st - 1) = 59)) := by rw [okB, if_pos (by omega)]
      refine zv_if_eq (pc' := 90) (tgt := 99) dX7_statement_87 rfl rfl (fun hcc => absurd hcc (by decide)) (fun _ => ?_)
      refine zv_aload_n (pc' := 91) dX7_statement_90 rfl rfl ?_
      refine zv_cV0_pi (pc' := 94) dX7_statement_91 rfl lkX7_96 (by first | rfl | assumption) rfl (Nat.le_of_ble_eq_true rfl) (x7_next l4 z3 (by omega)) ?_
      refine zv_bipush (v := nI 59) (pc' := 96) dX7_statement_94 rfl (by decide) ?_
      refine zv_icmp_eq (pc' := 99) (tgt := 101) dX7_statement_96 rfl rfl ?_ ?_
      · intro heq
        have heq := (lt_is (h.2.2.2 _) (by omega)).mp heq
        have hok : okB l st (st + lenN l st - 1) = true := by rw [hlast]; simp [heq.1, heq.2]
        refine zv_aload_n (pc' := 102) dX7_statement_101 rfl rfl ?_
        refine zv_dup (pc' := 103) dX7_statement_102 rfl rfl ?_
        refine zv_getIE (pc' := 106) dX7_statement_103 rfl flX7_93 (by first | rfl | assumption) rfl (by first | exact z3 | rfl) ?_
        refine zv_iconst (v := nI 1) (pc' := 107) dX7_statement_106 rfl (by decide) ?_
        refine zv_iadd (pc' := 108) dX7_statement_107 rfl ?_
        refine zv_top (nI_add _ _) ?_
        refine zv_putI (pc' := 111) dX7_statement_108 rfl flX7_93 pfX7_14 (by first | rfl | assumption) rfl rfl rfl ?_
        refine zv_iconst (v := nI 1) (pc' := 112) dX7_statement_111 rfl (by decide) ?_
        refine zv_ireturn dX7_statement_112 rfl (by first | rfl | exact zb_nar _) ?_
        refine ⟨_, rfl, Or.inl ⟨rfl, ?_, ?_, ?_, ?_, fun i hi => ?_⟩, fun i hi => ?_, fun i hi => ?_, F4.tr (zFr.uf (by decide))⟩
        · rw [hbd, z2, fbO_ok (by omega) hok, fbO, show st + lenN l st - (st + lenN l st - 1 + 1) = 0 by omega]
          rfl
        · rw [zup_eq, upd_s]; congr 1; omega
        · rw [zup_ne (by decide), f4.1 98 (by decide) (by decide)]; exact b3
        · rw [zup_ne (by decide), f4.1 99 (by decide) (by decide)]; exact c3
        · rw [zup_ne (by decide)]; exact z4 i hi
        · rw [zup_ne (by decide), zup_ne (by decide)]; exact D4 i hi
        · rw [zup_ne (by decide)]; exact O4 i hi
      · intro hne
        have hok : okB l st (st + lenN l st - 1) = false := by
          rw [hlast]
          cases hh : (decide (st + lenN l st - 1 < l.1) && decide (l.2 (st + lenN l st - 1) = 59))
          · rfl
          · simp only [Bool.and_eq_true, decide_eq_true_eq] at hh
            exact absurd ((lt_is (h.2.2.2 _) (by omega)).mpr hh) hne
        refine zv_iconst (v := nI 0) (pc' := 100) dX7_statement_99 rfl (by decide) ?_
        refine zv_ireturn dX7_statement_100 rfl (by first | rfl | exact zb_nar _) ?_
        exact ⟨_, rfl, Or.inr ⟨_, rfl, by rw [hbd, z2, fbO_bad (by omega) hok], z3⟩, D4, O4, F4⟩
    · refine zv_if_eq (pc' := 90) (tgt := 99) dX7_statement_87 rfl rfl (fun _ => ?_) (fun hcc => absurd (rfl) hcc)
      refine zv_iconst (v := nI 0) (pc' := 100) dX7_statement_99 rfl (by decide) ?_
      refine zv_ireturn dX7_statement_100 rfl (by first | rfl | exact zb_nar _) ?_
      exact ⟨_, rfl, Or.inr ⟨b, rfl, by rw [hbd, z2], z3⟩, D4, O4, F4⟩
  have no : lenN l st = 0 → ZV mdX7_statement (d + 4) (fun v M' => ∃ x, v = some (.int x) ∧ stQ l st k M x M') 41 [some (.ref 90), some (.int (ltI l st))] [] M := by
    intro hz
    refine zv_iconst (v := nI 0) (pc' := 42) dX7_statement_41 rfl (by decide) ?_
    refine zv_ireturn dX7_statement_42 rfl (by first | rfl | exact zb_nar _) ?_
    exact ⟨_, rfl, Or.inr ⟨st, rfl, by rw [bdA, if_pos hz], ha⟩, fun i _ => ⟨rfl, rfl⟩, fun i _ => rfl, zFr.rf⟩
  refine zex_intro (L := [some (.ref 90), none]) (by decide) (Nat.le_of_ble_eq_true rfl) rfl ?_
  refine zv_aload_n (pc' := 1) dX7_statement_0 rfl rfl ?_
  refine zv_cV0_pi (pc' := 4) dX7_statement_1 rfl lkX7_96 (by first | rfl | assumption) rfl (Nat.le_of_ble_eq_true rfl) (x7_next h ha (by omega)) ?_
  by_cases hs : st < l.1 ∧ (l.2 st = 112 ∨ l.2 st = 109 ∨ l.2 st = 115 ∨ l.2 st = 98 ∨ l.2 st = 102 ∨ l.2 st = 121)
  · have go := go hs.1 hs.2
    rw [show ltI l st = nI (l.2 st) from if_pos hs.1]
    rcases hs.2 with e | e | e | e | e | e
    · rw [e] at go ⊢
      refine zv_istore_n (pc' := 5) dX7_statement_4 rfl (by decide) ?_
      refine zv_iload_n (pc' := 6) dX7_statement_5 rfl rfl ?_
      refine zv_bipush (v := nI 112) (pc' := 8) dX7_statement_6 rfl (by decide) ?_
      refine zv_icmp_eq (pc' := 11) (tgt := 43) dX7_statement_8 rfl rfl (fun _ => ?_) (fun hcc => absurd (rfl) hcc)
      exact go
    · rw [e] at go ⊢
      refine zv_istore_n (pc' := 5) dX7_statement_4 rfl (by decide) ?_
      refine zv_iload_n (pc' := 6) dX7_statement_5 rfl rfl ?_
      refine zv_bipush (v := nI 112) (pc' := 8) dX7_statement_6 rfl (by decide) ?_
      refine zv_icmp_eq (pc' := 11) (tgt := 43) dX7_statement_8 rfl rfl (fun hcc => absurd hcc (by decide)) (fun _ => ?_)
      refine zv_iload_n (pc' := 12) dX7_statement_11 rfl rfl ?_
      refine zv_bipush (v := nI 115) (pc' := 14) dX7_statement_12 rfl (by decide) ?_
      refine zv_icmp_eq (pc' := 17) (tgt := 43) dX7_statement_14 rfl rfl (fun hcc => absurd hcc (by decide)) (fun _ => ?_)
      refine zv_iload_n (pc' := 18) dX7_statement_17 rfl rfl ?_
      refine zv_bipush (v := nI 98) (pc' := 20) dX7_statement_18 rfl (by decide) ?_
      refine zv_icmp_eq (pc' := 23) (tgt := 43) dX7_statement_20 rfl rfl (fun hcc => absurd hcc (by decide)) (fun _ => ?_)
      refine zv_iload_n (pc' := 24) dX7_statement_23 rfl rfl ?_
      refine zv_bipush (v := nI 102) (pc' := 26) dX7_statement_24 rfl (by decide) ?_
      refine zv_icmp_eq (pc' := 29) (tgt := 43) dX7_statement_26 rfl rfl (fun hcc => absurd hcc (by decide)) (fun _ => ?_)
      refine zv_iload_n (pc' := 30) dX7_statement_29 rfl rfl ?_
      refine zv_bipush (v := nI 109) (pc' := 32) dX7_statement_30 rfl (by decide) ?_
      refine zv_icmp_eq (pc' := 35) (tgt := 43) dX7_statement_32 rfl rfl (fun _ => ?_) (fun hcc => absurd (rfl) hcc)
      exact go
    · rw [e] at go ⊢
      refine zv_istore_n (pc' := 5) dX7_statement_4 rfl (by decide) ?_
      refine zv_iload_n (pc' := 6) dX7_statement_5 rfl rfl ?_
      refine zv_bipush (v := nI 112) (pc' := 8) dX7_statement_6 rfl (by decide) ?_
      refine zv_icmp_eq (pc' := 11) (tgt := 43) dX7_statement_8 rfl rfl (fun hcc => absurd hcc (by decide)) (fun _ => ?_)
      refine zv_iload_n (pc' := 12) dX7_statement_11 rfl rfl ?_
      refine zv_bipush (v := nI 115) (pc' := 14) dX7_statement_12 rfl (by decide) ?_
      refine zv_icmp_eq (pc' := 17) (tgt := 43) dX7_statement_14 rfl rfl (fun _ => ?_) (fun hcc => absurd (rfl) hcc)
      exact go
    · rw [e] at go ⊢
      refine zv_istore_n (pc' := 5) dX7_statement_4 rfl (by decide) ?_
      refine zv_iload_n (pc' := 6) dX7_statement_5 rfl rfl ?_
      refine zv_bipush (v := nI 112) (pc' := 8) dX7_statement_6 rfl (by decide) ?_
      refine zv_icmp_eq (pc' := 11) (tgt := 43) dX7_statement_8 rfl rfl (fun hcc => absurd hcc (by decide)) (fun _ => ?_)
      refine zv_iload_n (pc' := 12) dX7_statement_11 rfl rfl ?_
      refine zv_bipush (v := nI 115) (pc' := 14) dX7_statement_12 rfl (by decide) ?_
      refine zv_icmp_eq (pc' := 17) (tgt := 43) dX7_statement_14 rfl rfl (fun hcc => absurd hcc (by decide)) (fun _ => ?_)
      refine zv_iload_n (pc' := 18) dX7_statement_17 rfl rfl ?_
      refine zv_bipush (v := nI 98) (pc' := 20) dX7_statement_18 rfl (by decide) ?_
      refine zv_icmp_eq (pc' := 23) (tgt := 43) dX7_statement_20 rfl rfl (fun _ => ?_) (fun hcc => absurd (rfl) hcc)
      exact go
    · rw [e] at go ⊢
      refine zv_istore_n (pc' := 5) dX7_statement_4 rfl (by decide) ?_
      refine zv_iload_n (pc' := 6) dX7_statement_5 rfl rfl ?_
      refine zv_bipush (v := nI 112) (pc' := 8) dX7_statement_6 rfl (by decide) ?_
      refine zv_icmp_eq (pc' := 11) (tgt := 43) dX7_statement_8 rfl rfl (fun hcc => absurd hcc (by decide)) (fun _ => ?_)
      refine zv_iload_n (pc' := 12) dX7_statement_11 rfl rfl ?_
      refine zv_bipush (v := nI 115) (pc' := 14) dX7_statement_12 rfl (by decide) ?_
      refine zv_icmp_eq (pc' := 17) (tgt := 43) dX7_statement_14 rfl rfl (fun hcc => absurd hcc (by decide)) (fun _ => ?_)
      refine zv_iload_n (pc' := 18) dX7_statement_17 rfl rfl ?_
      refine zv_bipush (v := nI 98) (pc' := 20) dX7_statement_18 rfl (by decide) ?_
      refine zv_icmp_eq (pc' := 23) (tgt := 43) dX7_statement_20 rfl rfl (fun hcc => absurd hcc (by decide)) (fun _ => ?_)
      refine zv_iload_n (pc' := 24) dX7_statement_23 rfl rfl ?_
      refine zv_bipush (v := nI 102) (pc' := 26) dX7_statement_24 rfl (by decide) ?_
      refine zv_icmp_eq (pc' := 29) (tgt := 43) dX7_statement_26 rfl rfl (fun _ => ?_) (fun hcc => absurd (rfl) hcc)
      exact go
    · rw [e] at go ⊢
      refine zv_istore_n (pc' := 5) dX7_statement_4 rfl (by decide) ?_
      refine zv_iload_n (pc' := 6) dX7_statement_5 rfl rfl ?_
      refine zv_bipush (v := nI 112) (pc' := 8) dX7_statement_6 rfl (by decide) ?_
      refine zv_icmp_eq (pc' := 11) (tgt := 43) dX7_statement_8 rfl rfl (fun hcc => absurd hcc (by decide)) (fun _ => ?_)
      refine zv_iload_n (pc' := 12) dX7_statement_11 rfl rfl ?_
      refine zv_bipush (v := nI 115) (pc' := 14) dX7_statement_12 rfl (by decide) ?_
      refine zv_icmp_eq (pc' := 17) (tgt := 43) dX7_statement_14 rfl rfl (fun hcc => absurd hcc (by decide)) (fun _ => ?_)
      refine zv_iload_n (pc' := 18) dX7_statement_17 rfl rfl ?_
      refine zv_bipush (v := nI 98) (pc' := 20) dX7_statement_18 rfl (by decide) ?_
      refine zv_icmp_eq (pc' := 23) (tgt := 43) dX7_statement_20 rfl rfl (fun hcc => absurd hcc (by decide)) (fun _ => ?_)
      refine zv_iload_n (pc' := 24) dX7_statement_23 rfl rfl ?_
      refine zv_bipush (v := nI 102) (pc' := 26) dX7_statement_24 rfl (by decide) ?_
      refine zv_icmp_eq (pc' := 29) (tgt := 43) dX7_statement_26 rfl rfl (fun hcc => absurd hcc (by decide)) (fun _ => ?_)
      refine zv_iload_n (pc' := 30) dX7_statement_29 rfl rfl ?_
      refine zv_bipush (v := nI 109) (pc' := 32) dX7_statement_30 rfl (by decide) ?_
      refine zv_icmp_eq (pc' := 35) (tgt := 43) dX7_statement_32 rfl rfl (fun hcc => absurd hcc (by decide)) (fun _ => ?_)
      refine zv_iload_n (pc' := 36) dX7_statement_35 rfl rfl ?_
      refine zv_bipush (v := nI 121) (pc' := 38) dX7_statement_36 rfl (by decide) ?_
      refine zv_icmp_eq (pc' := 41) (tgt := 43) dX7_statement_38 rfl rfl (fun _ => ?_) (fun hcc => absurd (rfl) hcc)
      exact go
  · have hz : lenN l st = 0 := by
      unfold lenN
      split
      · rename_i h1
        have h2 := fun z => hs ⟨h1, z⟩
        unfold lnC
        rw [if_neg (by omega), if_neg (by omega), if_neg (by omega)]
      · rfl
    have hx : ∀ x, x < 256 → (x = 112 ∨ x = 109 ∨ x = 115 ∨ x = 98 ∨ x = 102 ∨ x = 121) → ¬ ltI l st = nI x := by
      intro x hx1 hx2 z
      have z := (lt_is h255 hx1).mp z
      exact hs ⟨z.1, by rw [z.2]; exact hx2⟩
    refine zv_istore_n (pc' := 5) dX7_statement_4 rfl (by decide) ?_
    refine zv_iload_n (pc' := 6) dX7_statement_5 rfl rfl ?_
    refine zv_bipush (v := nI 112) (pc' := 8) dX7_statement_6 rfl (by decide) ?_
    refine zv_icmp_eq (pc' := 11) (tgt := 43) dX7_statement_8 rfl rfl (fun hcc => absurd hcc (hx 112 (by decide) (by decide))) (fun _ => ?_)
    refine zv_iload_n (pc' := 12) dX7_statement_11 rfl rfl ?_
    refine zv_bipush (v := nI 115) (pc' := 14) dX7_statement_12 rfl (by decide) ?_
    refine zv_icmp_eq (pc' := 17) (tgt := 43) dX7_statement_14 rfl rfl (fun hcc => absurd hcc (hx 115 (by decide) (by decide))) (fun _ => ?_)
    refine zv_iload_n (pc' := 18) dX7_statement_17 rfl rfl ?_
    refine zv_bipush (v := nI 98) (pc' := 20) dX7_statement_18 rfl (by decide) ?_
    refine zv_icmp_eq (pc' := 23) (tgt := 43) dX7_statement_20 rfl rfl (fun hcc => absurd hcc (hx 98 (by decide) (by decide))) (fun _ => ?_)
    refine zv_iload_n (pc' := 24) dX7_statement_23 rfl rfl ?_
    refine zv_bipush (v := nI 102) (pc' := 26) dX7_statement_24 rfl (by decide) ?_
    refine zv_icmp_eq (pc' := 29) (tgt := 43) dX7_statement_26 rfl rfl (fun hcc => absurd hcc (hx 102 (by decide) (by decide))) (fun _ => ?_)
    refine zv_iload_n (pc' := 30) dX7_statement_29 rfl rfl ?_
    refine zv_bipush (v := nI 109) (pc' := 32) dX7_statement_30 rfl (by decide) ?_
    refine zv_icmp_eq (pc' := 35) (tgt := 43) dX7_statement_32 rfl rfl (fun hcc => absurd hcc (hx 109 (by decide) (by decide))) (fun _ => ?_)
    refine zv_iload_n (pc' := 36) dX7_statement_35 rfl rfl ?_
    refine zv_bipush (v := nI 121) (pc' := 38) dX7_statement_36 rfl (by decide) ?_
    refine zv_icmp_eq (pc' := 41) (tgt := 43) dX7_statement_38 rfl rfl (fun hcc => absurd hcc (hx 121 (by decide) (by decide))) (fun _ => ?_)
    exact no hz
theorem x7_adds {k f v : Nat} (hA : zAm M c) (hk : zOk c) (h8 : yN c < 8) : ZFv mdX7_adds d [.ref 90, .int (nI k), .int (nI f), .int (nI v)] M (fun M' => zAm M' (addC c k f v) ∧ zFr [92, 93, 94, 95, 96] [6, 7] M M') := by
  have hN := hA.1
  have n1 : zup M 92 (yN c) (nI k) 90 6 = nI (yN c) := by rw [zup_ne (by decide)]; exact hN
  have n2 : zup (zup M 92 (yN c) (nI k)) 93 (yN c) (nI f) 90 6 = nI (yN c) := by rw [zup_ne (by decide)]; exact n1
  have n3 : zup (zup (zup M 92 (yN c) (nI k)) 93 (yN c) (nI f)) 94 (yN c) (nI v) 90 6 = nI (yN c) := by rw [zup_ne (by decide)]; exact n2
  have n4 : zup (zup (zup (zup M 92 (yN c) (nI k)) 93 (yN c) (nI f)) 94 (yN c) (nI v)) 95 (yN c) (nI 0) 90 6 = nI (yN c) := by rw [zup_ne (by decide)]; exact n3
  have n5 : zup (zup (zup (zup (zup M 92 (yN c) (nI k)) 93 (yN c) (nI f)) 94 (yN c) (nI v)) 95 (yN c) (nI 0)) 96 (yN c) (nI 0) 90 6 = nI (yN c) := by rw [zup_ne (by decide)]; exact n4
  refine zex_intro (L := [some (.ref 90), some (.int (nI k)), some (.int (nI f)), some (.int (nI v))]) (by decide) (Nat.le_of_ble_eq_true rfl) rfl ?_
  refine zv_aload_n (pc' := 1) dX7_adds_0 rfl rfl ?_
  refine zv_getR (pc' := 4) dX7_adds_1 rfl flX7_13 (by first | rfl | assumption) rfl ?_
  refine zv_aload_n (pc' := 5) dX7_adds_4 rfl rfl ?_
  refine zv_getIE (pc' := 8) dX7_adds_5 rfl flX7_65 (by first | rfl | assumption) rfl (by first | exact hN | rfl) ?_
  refine zv_iload_n (pc' := 9) dX7_adds_8 rfl rfl ?_
  refine zv_iastoreN (pc' := 10) dX7_adds_9 rfl (by first | rfl | assumption) (by decide) (by omega) ?_
  refine zv_aload_n (pc' := 11) dX7_adds_10 rfl rfl ?_
  refine zv_getR (pc' := 14) dX7_adds_11 rfl flX7_16 (by first | rfl | assumption) rfl ?_
  refine zv_aload_n (pc' := 15) dX7_adds_14 rfl rfl ?_
  refine zv_getIE (pc' := 18) dX7_adds_15 rfl flX7_65 (by first | rfl | assumption) rfl (by first | exact n1 | rfl) ?_
  refine zv_iload_n (pc' := 19) dX7_adds_18 rfl rfl ?_
  refine zv_iastoreN (pc' := 20) dX7_adds_19 rfl (by first | rfl | assumption) (by decide) (by omega) ?_
  refine zv_aload_n (pc' := 21) dX7_adds_20 rfl rfl ?_
  refine zv_getR (pc' := 24) dX7_adds_21 rfl flX7_19 (by first | rfl | assumption) rfl ?_
  refine zv_aload_n (pc' := 25) dX7_adds_24 rfl rfl ?_
  refine zv_getIE (pc' := 28) dX7_adds_25 rfl flX7_65 (by first | rfl | assumption) rfl (by first | exact n2 | rfl) ?_
  refine zv_iload_n (pc' := 29) dX7_adds_28 rfl rfl ?_
  refine zv_iastoreN (pc' := 30) dX7_adds_29 rfl (by first | rfl | assumption) (by decide) (by omega) ?_
  refine zv_aload_n (pc' := 31) dX7_adds_30 rfl rfl ?_
  refine zv_getR (pc' := 34) dX7_adds_31 rfl flX7_22 (by first | rfl | assumption) rfl ?_
  refine zv_aload_n (pc' := 35) dX7_adds_34 rfl rfl ?_
  refine zv_getIE (pc' := 38) dX7_adds_35 rfl flX7_65 (by first | rfl | assumption) rfl (by first | exact n3 | rfl) ?_
  refine zv_iconst (v := nI 0) (pc' := 39) dX7_adds_38 rfl (by decide) ?_
  refine zv_iastoreN (pc' := 40) dX7_adds_39 rfl (by first | rfl | assumption) (by decide) (by omega) ?_
  refine zv_aload_n (pc' := 41) dX7_adds_40 rfl rfl ?_
  refine zv_getR (pc' := 44) dX7_adds_41 rfl flX7_25 (by first | rfl | assumption) rfl ?_
  refine zv_aload_n (pc' := 45) dX7_adds_44 rfl rfl ?_
  refine zv_getIE (pc' := 48) dX7_adds_45 rfl flX7_65 (by first | rfl | assumption) rfl (by first | exact n4 | rfl) ?_
  refine zv_iconst (v := nI 0) (pc' := 49) dX7_adds_48 rfl (by decide) ?_
  refine zv_iastoreN (pc' := 50) dX7_adds_49 rfl (by first | rfl | assumption) (by decide) (by omega) ?_
  refine zv_aload_n (pc' := 51) dX7_adds_50 rfl rfl ?_
  refine zv_dup (pc' := 52) dX7_adds_51 rfl rfl ?_
  refine zv_getIE (pc' := 55) dX7_adds_52 rfl flX7_65 (by first | rfl | assumption) rfl (by first | exact n5 | rfl) ?_
  refine zv_iconst (v := nI 1) (pc' := 56) dX7_adds_55 rfl (by decide) ?_
  refine zv_iadd (pc' := 57) dX7_adds_56 rfl ?_
  refine zv_top (nI_add _ _) ?_
  refine zv_putI (pc' := 60) dX7_adds_57 rfl flX7_65 pfX7_6 (by first | rfl | assumption) rfl rfl rfl ?_
  refine zv_vret dX7_adds_60 rfl ?_
  refine ⟨rfl, ⟨?_, ?_, fun j hj => ?_, fun j hj => ?_, fun j hj => ?_, fun j hj => ?_, fun j hj => ?_⟩, (zFr.up (by decide) (by decide)).tr ((zFr.up (by decide) (by decide)).tr ((zFr.up (by decide) (by decide)).tr ((zFr.up (by decide) (by decide)).tr ((zFr.up (by decide) (by decide)).tr (zFr.uf (by decide))))))⟩
  · rw [zup_eq, upd_s]; rfl
  · rw [zup_eq, upd_n (by decide), zup_ne (by decide), zup_ne (by decide), zup_ne (by decide), zup_ne (by decide), zup_ne (by decide)]; exact hA.2.1
  · rw [zup_ne (by decide), zup_ne (by decide), zup_ne (by decide), zup_ne (by decide), zup_ne (by decide), zup_eq]
    show upd (M 92) (yN c) (nI k) j = nI (fu (yK c) (yN c) k j)
    by_cases e : j = yN c
    · rw [e, upd_s, fu_s]
    · rw [upd_n e, fu_n e]; exact hA.2.2.1 j hj
  · rw [zup_ne (by decide), zup_ne (by decide), zup_ne (by decide), zup_ne (by decide), zup_eq, zup_ne (by decide)]
    show upd (M 93) (yN c) (nI f) j = nI (fu (yF c) (yN c) f j)
    by_cases e : j = yN c
    · rw [e, upd_s, fu_s]
    · rw [upd_n e, fu_n e]; exact hA.2.2.2.1 j hj
  · rw [zup_ne (by decide), zup_ne (by decide), zup_ne (by decide), zup_eq, zup_ne (by decide), zup_ne (by decide)]
    show upd (M 94) (yN c) (nI v) j = nI (fu (yM c) (yN c) v j)
    by_cases e : j = yN c
    · rw [e, upd_s, fu_s]
    · rw [upd_n e, fu_n e]; exact hA.2.2.2.2.1 j hj
  · rw [zup_ne (by decide), zup_ne (by decide), zup_eq, zup_ne (by decide), zup_ne (by decide), zup_ne (by decide)]
    show upd (M 95) (yN c) (nI 0) j = nI (zm 8 (yS c j))
    by_cases e : j = yN c
    · rw [e, upd_s, zm_0.mpr (fun i _ => ?_)]
      cases hh : yS c (yN c) i
      · rfl
      · have := (hk.2.2.2.2.1 _ _ hh).1; omega
    · rw [upd_n e]; exact hA.2.2.2.2.2.1 j hj
  · rw [zup_ne (by decide), zup_eq, zup_ne (by decide), zup_ne (by decide), zup_ne (by decide), zup_ne (by decide)]
    show upd (M 96) (yN c) (nI 0) j = nI (zm 8 (yX c j))
    by_cases e : j = yN c
    · rw [e, upd_s, zm_0.mpr (fun i _ => ?_)]
      cases hh : yX c (yN c) i
      · rfl
      · have := (hk.2.2.2.2.2.1 _ _ hh).1; omega
    · rw [upd_n e]; exact hA.2.2.2.2.2.2 j hj
theorem x7_comesYears {k : Nat} (hA : zAm M c) (hk : zOk c) (hD : M 90 8 = absM 100) (hk99 : k ≤ 99) : ZFi mdX7_comesYears (d + 4) [.ref 90, .int (nI k)] M (fun x M' => x = zb (passB (yY c) (nI k)) ∧ (passB (yY c) (nI k) = true → zAm M' (yearsC k c)) ∧ zFr [94, 95] [7] M M') := by
  have hY := hA.2.1
  refine zex_intro (L := [some (.ref 90), some (.int (nI k))]) (by decide) (Nat.le_of_ble_eq_true rfl) rfl ?_
  refine zv_iload_n (pc' := 1) dX7_comesYears_0 rfl rfl ?_
  refine zv_iconst (v := nI 1) (pc' := 2) dX7_comesYears_1 rfl (by decide) ?_
  refine zv_bipush (v := nI 60) (pc' := 4) dX7_comesYears_2 rfl (by decide) ?_
  refine zv_cS3_pi (pc' := 7) dX7_comesYears_4 rfl lkX7_100 (Nat.le_of_ble_eq_true rfl) (x7_isIn) ?_
  by_cases hi : isInB (nI k) (nI 1) (nI 60) = true
  · rw [hi]
    have hp := passB_in (y := yY c) hi
    refine zv_if_eq (pc' := 10) (tgt := 22) dX7_comesYears_7 rfl rfl (fun hcc => absurd hcc (by decide)) (fun _ => ?_)
    refine zv_aload_n (pc' := 11) dX7_comesYears_10 rfl rfl ?_
    refine zv_getIE (pc' := 14) dX7_comesYears_11 rfl flX7_126 (by first | rfl | assumption) rfl (by first | exact hY | rfl) ?_
    refine zv_iload_n (pc' := 15) dX7_comesYears_14 rfl rfl ?_
    refine zv_iadd (pc' := 16) dX7_comesYears_15 rfl ?_
    refine zv_sipush (v := nI 999) (pc' := 19) dX7_comesYears_16 rfl (by decide) ?_
    refine zv_icmp_le (pc' := 22) (tgt := 24) dX7_comesYears_19 rfl rfl ?_ ?_
    · intro h
      have h := Int32.not_lt.mpr h
      have hp : passB (yY c) (nI k) = true := by rw [hp]; simpa using h
      rw [hp]
      refine zv_aload_n (pc' := 25) dX7_comesYears_24 rfl rfl ?_
      refine zv_iload_n (pc' := 26) dX7_comesYears_25 rfl rfl ?_
      refine zv_cV1_fv (pc' := 29) dX7_comesYears_26 rfl lkX7_129 (by first | rfl | assumption) rfl (Nat.le_of_ble_eq_true rfl) (x7_goes hA hk hD (by omega)) ?_
      rintro M1 ⟨h1, f1⟩
      refine zv_iconst (v := nI 1) (pc' := 30) dX7_comesYears_29 rfl (by decide) ?_
      refine zv_ireturn dX7_comesYears_30 rfl (by first | rfl | exact zb_nar _) ?_
      exact ⟨_, rfl, rfl, fun _ => h1, f1⟩
    · intro h
      have h := Int32.not_le.mp h
      have hp : passB (yY c) (nI k) = false := by rw [hp]; simpa using h
      rw [hp]
      refine zv_iconst (v := nI 0) (pc' := 23) dX7_comesYears_22 rfl (by decide) ?_
      refine zv_ireturn dX7_comesYears_23 rfl (by first | rfl | exact zb_nar _) ?_
      exact ⟨_, rfl, rfl, fun z => (by cases z), zFr.rf⟩
  · have hp : passB (yY c) (nI k) = false := by
      cases hh : passB (yY c) (nI k)
      · rfl
      · exfalso
        apply hi
        simp only [passB, Bool.and_eq_true, decide_eq_true_eq] at hh
        simp only [isInB, Bool.and_eq_true, decide_eq_true_eq]
        exact hh.1
    rw [show isInB (nI k) (nI 1) (nI 60) = false by simpa using hi, hp]
    refine zv_if_eq (pc' := 10) (tgt := 22) dX7_comesYears_7 rfl rfl (fun _ => ?_) (fun hcc => absurd (rfl) hcc)
    refine zv_iconst (v := nI 0) (pc' := 23) dX7_comesYears_22 rfl (by decide) ?_
    refine zv_ireturn dX7_comesYears_23 rfl (by first | rfl | exact zb_nar _) ?_
    exact ⟨_, rfl, rfl, fun z => (by cases z), zFr.rf⟩
theorem x7_comesTie {x p q : Nat} (hA : zAm M c) (hk : zOk c) (hx : x = 115 ∨ x = 98 ∨ x = 102) (hp : p ≤ 9) (hq : q ≤ 9) : ZFi mdX7_comesTie (d + 2) [.ref 90, .int (nI x), .int (nI p), .int (nI q)] M (fun r M' => r = zb (twoB (yN c) (nI p) (nI q)) ∧ (twoB (yN c) (nI p) (nI q) = true → zAm M' (tieC c x p q)) ∧ zFr [95, 96] [] M M') := by
  have hn8 := hk.1
  have hS := hA.2.2.2.2.2.1
  refine zex_intro (L := [some (.ref 90), some (.int (nI x)), some (.int (nI p)), some (.int (nI q))]) (by decide) (Nat.le_of_ble_eq_true rfl) rfl ?_
  refine zv_aload_n (pc' := 1) dX7_comesTie_0 rfl rfl ?_
  refine zv_iload_n (pc' := 2) dX7_comesTie_1 rfl rfl ?_
  refine zv_iload_n (pc' := 3) dX7_comesTie_2 rfl rfl ?_
  refine zv_cV2_pi (pc' := 6) dX7_comesTie_3 rfl lkX7_119 (by first | rfl | assumption) rfl (Nat.le_of_ble_eq_true rfl) (x7_areTwo hA.1) ?_
  by_cases ht : twoB (yN c) (nI p) (nI q) = true
  · obtain ⟨p1, p2, p3⟩ := twoB_nat hn8 (by omega) (by omega) ht
    rw [ht]
    refine zv_if_ne (pc' := 9) (tgt := 11) dX7_comesTie_6 rfl rfl (fun _ => ?_) (fun hcc => absurd hcc (by decide))
    rcases hx with rfl | rfl | rfl
    · have et : tieC c 115 p q = signC c p q (!yS c p q) := by rw [tieC, if_pos rfl]
      rw [et]
      refine zv_iload_n (pc' := 12) dX7_comesTie_11 rfl rfl ?_
      refine zv_bipush (v := nI 115) (pc' := 14) dX7_comesTie_12 rfl (by decide) ?_
      refine zv_icmp_ne (pc' := 17) (tgt := 32) dX7_comesTie_14 rfl rfl (fun hcc => absurd (rfl) hcc) (fun _ => ?_)
      refine zv_aload_n (pc' := 18) dX7_comesTie_17 rfl rfl ?_
      refine zv_getR (pc' := 21) dX7_comesTie_18 rfl flX7_22 (by first | rfl | assumption) rfl ?_
      refine zv_iload_n (pc' := 22) dX7_comesTie_21 rfl rfl ?_
      refine zv_dup2 (pc' := 23) dX7_comesTie_22 rfl rfl rfl ?_
      refine zv_ialoadE (pc' := 24) dX7_comesTie_23 rfl (by first | rfl | assumption) (by decide) (by omega) (by first | exact hS _ (by omega) | rfl) ?_
      refine zv_iconst (v := nI 1) (pc' := 25) dX7_comesTie_24 rfl (by decide) ?_
      refine zv_iload_n (pc' := 26) dX7_comesTie_25 rfl rfl ?_
      refine zv_ishl (pc' := 27) dX7_comesTie_26 rfl ?_
      refine zv_top (zsh1 q (by omega)) ?_
      refine zv_ixor (pc' := 28) dX7_comesTie_27 rfl ?_
      refine zv_top (mk_xor1 (by omega)) ?_
      refine zv_iastoreN (pc' := 29) dX7_comesTie_28 rfl (by first | rfl | assumption) (by decide) (by omega) ?_
      refine zv_goto (pc' := 71) dX7_comesTie_29 rfl ?_
      refine zv_iconst (v := nI 1) (pc' := 72) dX7_comesTie_71 rfl (by decide) ?_
      refine zv_ireturn dX7_comesTie_72 rfl (by first | rfl | exact zb_nar _) ?_
      refine ⟨_, rfl, rfl, fun _ => ?_, zFr.up (by decide) (by decide)⟩
      rw [fu_xor]
      exact zAm_S hA
    · have et : tieC c 98 p q = signC (signC c p q true) q p true := by rw [tieC, if_neg (by decide), if_neg (by decide)]
      rw [et]
      refine zv_iload_n (pc' := 12) dX7_comesTie_11 rfl rfl ?_
      refine zv_bipush (v := nI 115) (pc' := 14) dX7_comesTie_12 rfl (by decide) ?_
      refine zv_icmp_ne (pc' := 17) (tgt := 32) dX7_comesTie_14 rfl rfl (fun _ => ?_) (fun hcc => absurd hcc (by decide))
      refine zv_iload_n (pc' := 33) dX7_comesTie_32 rfl rfl ?_
      refine zv_bipush (v := nI 102) (pc' := 35) dX7_comesTie_33 rfl (by decide) ?_
      refine zv_icmp_ne (pc' := 38) (tgt := 47) dX7_comesTie_35 rfl rfl (fun _ => ?_) (fun hcc => absurd hcc (by decide))
      refine zv_aload_n (pc' := 48) dX7_comesTie_47 rfl rfl ?_
      refine zv_getR (pc' := 51) dX7_comesTie_48 rfl flX7_22 (by first | rfl | assumption) rfl ?_
      refine zv_iload_n (pc' := 52) dX7_comesTie_51 rfl rfl ?_
      refine zv_dup2 (pc' := 53) dX7_comesTie_52 rfl rfl rfl ?_
      refine zv_ialoadE (pc' := 54) dX7_comesTie_53 rfl (by first | rfl | assumption) (by decide) (by omega) (by first | exact hS _ (by omega) | rfl) ?_
      refine zv_iconst (v := nI 1) (pc' := 55) dX7_comesTie_54 rfl (by decide) ?_
      refine zv_iload_n (pc' := 56) dX7_comesTie_55 rfl rfl ?_
      refine zv_ishl (pc' := 57) dX7_comesTie_56 rfl ?_
      refine zv_top (zsh1 q (by omega)) ?_
      refine zv_ior (pc' := 58) dX7_comesTie_57 rfl ?_
      refine zv_top (mk_or1 (by omega)) ?_
      have efu : ∀ (f : Nat → Bool) (i : Nat), (fun j => f j || decide (j = i)) = fu f i true := fun f i => by
        funext j
        by_cases e : j = i
        · rw [e, fu_s]; simp
        · rw [fu_n e]; simp [e]
      rw [efu]
      refine zv_iastoreN (pc' := 59) dX7_comesTie_58 rfl (by first | rfl | assumption) (by decide) (by omega) ?_
      have h1 : zAm (zup M 95 p (nI (zm 8 (fu (yS c p) q true)))) (signC c p q true) := zAm_S hA
      have f1 : zFr [95, 96] [] M (zup M 95 p (nI (zm 8 (fu (yS c p) q true)))) := zFr.up (by decide) (by decide)
      generalize zup M 95 p (nI (zm 8 (fu (yS c p) q true))) = M1 at h1 f1 ⊢
      have hS1 := h1.2.2.2.2.2.1
      refine zv_aload_n (pc' := 60) dX7_comesTie_59 rfl rfl ?_
      refine zv_getR (pc' := 63) dX7_comesTie_60 rfl flX7_22 (by first | rfl | assumption) rfl ?_
      refine zv_iload_n (pc' := 64) dX7_comesTie_63 rfl rfl ?_
      refine zv_dup2 (pc' := 65) dX7_comesTie_64 rfl rfl rfl ?_
      refine zv_ialoadE (pc' := 66) dX7_comesTie_65 rfl (by first | rfl | assumption) (by decide) (by omega) (by first | exact hS1 _ (by omega) | rfl) ?_
      refine zv_iconst (v := nI 1) (pc' := 67) dX7_comesTie_66 rfl (by decide) ?_
      refine zv_iload_n (pc' := 68) dX7_comesTie_67 rfl rfl ?_
      refine zv_ishl (pc' := 69) dX7_comesTie_68 rfl ?_
      refine zv_top (zsh1 p (by omega)) ?_
      refine zv_ior (pc' := 70) dX7_comesTie_69 rfl ?_
      refine zv_top (mk_or1 (by omega)) ?_
      rw [efu]
      refine zv_iastoreN (pc' := 71) dX7_comesTie_70 rfl (by first | rfl | assumption) (by decide) (by omega) ?_
      refine zv_iconst (v := nI 1) (pc' := 72) dX7_comesTie_71 rfl (by decide) ?_
      refine zv_ireturn dX7_comesTie_72 rfl (by first | rfl | exact zb_nar _) ?_
      exact ⟨_, rfl, rfl, fun _ => zAm_S h1, f1.tr (zFr.up (by decide) (by decide))⟩
    · have et : tieC c 102 p q = feudC c p q (!yX c p q) := by rw [tieC, if_neg (by decide), if_pos rfl]
      rw [et]
      refine zv_iload_n (pc' := 12) dX7_comesTie_11 rfl rfl ?_
      refine zv_bipush (v := nI 115) (pc' := 14) dX7_comesTie_12 rfl (by decide) ?_
      refine zv_icmp_ne (pc' := 17) (tgt := 32) dX7_comesTie_14 rfl rfl (fun _ => ?_) (fun hcc => absurd hcc (by decide))
      refine zv_iload_n (pc' := 33) dX7_comesTie_32 rfl rfl ?_
      refine zv_bipush (v := nI 102) (pc' := 35) dX7_comesTie_33 rfl (by decide) ?_
      refine zv_icmp_ne (pc' := 38) (tgt := 47) dX7_comesTie_35 rfl rfl (fun hcc => absurd (rfl) hcc) (fun _ => ?_)
      refine zv_aload_n (pc' := 39) dX7_comesTie_38 rfl rfl ?_
      refine zv_iload_n (pc' := 40) dX7_comesTie_39 rfl rfl ?_
      refine zv_iload_n (pc' := 41) dX7_comesTie_40 rfl rfl ?_
      refine zv_cV2_fv (pc' := 44) dX7_comesTie_41 rfl lkX7_122 (by first | rfl | assumption) rfl (Nat.le_of_ble_eq_true rfl) (x7_turnsFeud hA hk p1 p2 p3) ?_
      rintro M1 ⟨h1, f1⟩
      refine zv_goto (pc' := 71) dX7_comesTie_44 rfl ?_
      refine zv_iconst (v := nI 1) (pc' := 72) dX7_comesTie_71 rfl (by decide) ?_
      refine zv_ireturn dX7_comesTie_72 rfl (by first | rfl | exact zb_nar _) ?_
      exact ⟨_, rfl, rfl, fun _ => h1, f1.mono (by simp) (by simp)⟩
  · have ht : twoB (yN c) (nI p) (nI q) = false := by simpa using ht
    rw [ht]
    refine zv_if_ne (pc' := 9) (tgt := 11) dX7_comesTie_6 rfl rfl (fun hcc => absurd (rfl) hcc) (fun _ => ?_)
    refine zv_iconst (v := nI 0) (pc' := 10) dX7_comesTie_9 rfl (by decide) ?_
    refine zv_ireturn dX7_comesTie_10 rfl (by first | rfl | exact zb_nar _) ?_
    exact ⟨_, rfl, rfl, fun z => (by cases z), zFr.rf⟩
theorem x7_comes {st k : Nat} (hA : zAm M c) (hk : zOk c) (hD : M 90 8 = absM 100) (hg : bdA l st = none) (hk48 : k < 48) (h98 : M 98 k = nI (l.2 st)) (h100 : ∀ i, i < tdC (l.2 st) → M 100 (3 * k + i) = nI (tdN l st i)) : ZFi mdX7_comes (d + 5) [.ref 90, .int (nI k)] M (fun x M' => x = zb (oneC l st c).isSome ∧ (∀ c', oneC l st c = some c' → zAm M' c') ∧ zFr [92, 93, 94, 95, 96] [6, 7] M M') := by
  have hn8 := hk.1
  have hN := hA.1
  obtain ⟨hs, -, -, hc⟩ := bdA_of hg
  refine zex_intro (L := [some (.ref 90), some (.int (nI k)), none]) (by decide) (Nat.le_of_ble_eq_true rfl) rfl ?_
  refine zv_iconst (v := nI 3) (pc' := 1) dX7_comes_0 rfl (by decide) ?_
  refine zv_iload_n (pc' := 2) dX7_comes_1 rfl rfl ?_
  refine zv_imul (pc' := 3) dX7_comes_2 rfl ?_
  refine zv_top (pk_mul 3 k) ?_
  refine zv_istore_n (pc' := 4) dX7_comes_3 rfl (by decide) ?_
  refine zv_aload_n (pc' := 5) dX7_comes_4 rfl rfl ?_
  refine zv_getR (pc' := 8) dX7_comes_5 rfl flX7_35 (by first | rfl | assumption) rfl ?_
  refine zv_iload_n (pc' := 9) dX7_comes_8 rfl rfl ?_
  refine zv_ialoadE (pc' := 10) dX7_comes_9 rfl (by first | rfl | assumption) (by decide) (by omega) (by first | exact hN | exact h98 | rfl) ?_
  rcases hc with ⟨x1, -, ⟨kk, hkd⟩, d2, d3, d4⟩ | ⟨x1, -, d1, d2, d3⟩ | ⟨x1, -, d1, d2⟩
  · have eo : oneC l st c = if yN c = 8 then none else some (addC c kk (dg l (st + 2)) (nm l (st + 3))) := by rw [oneC, if_pos x1, hkd]; rfl
    have t0 : M 100 (3 * k) = nI kk := by
      have := h100 0 (by rw [tdC, if_pos x1]; decide)
      rw [tdN, if_pos x1, if_pos rfl, hkd] at this
      exact this
    have t1 : M 100 (3 * k + 1) = nI (dg l (st + 2)) := by
      have := h100 1 (by rw [tdC, if_pos x1]; decide)
      rw [tdN, if_pos x1, if_neg (by decide), if_pos rfl] at this
      exact this
    have t2 : M 100 (3 * k + 2) = nI (nm l (st + 3)) := by
      have := h100 2 (by rw [tdC, if_pos x1]; decide)
      rw [tdN, if_pos x1, if_neg (by decide), if_neg (by decide)] at this
      exact this
    rw [eo, x1]
    refine zv_lookup (pc' := 44) (off := 34) dX7_comes_10 (by decide) (by decide) (by decide) ?_
    refine zv_aload_n (pc' := 45) dX7_comes_44 rfl rfl ?_
    refine zv_getIE (pc' := 48) dX7_comes_45 rfl flX7_65 (by first | rfl | assumption) rfl (by first | exact hN | exact h98 | rfl) ?_
    refine zv_bipush (v := nI 8) (pc' := 50) dX7_comes_48 rfl (by decide) ?_
    by_cases h8 : yN c = 8
    · rw [if_pos h8, h8]
      refine zv_icmp_ne (pc' := 53) (tgt := 55) dX7_comes_50 rfl rfl (fun hcc => absurd (rfl) hcc) (fun _ => ?_)
      refine zv_iconst (v := nI 0) (pc' := 54) dX7_comes_53 rfl (by decide) ?_
      refine zv_ireturn dX7_comes_54 rfl (by first | rfl | exact zb_nar _) ?_
      exact ⟨_, rfl, rfl, fun c' z => (by cases z), zFr.rf⟩
    · rw [if_neg h8]
      refine zv_icmp_ne (pc' := 53) (tgt := 55) dX7_comes_50 rfl rfl (fun _ => ?_) (fun hcc => absurd hcc ((fun z => h8 ((nI_eq (by omega) (by omega)).mp z))))
      refine zv_aload_n (pc' := 56) dX7_comes_55 rfl rfl ?_
      refine zv_aload_n (pc' := 57) dX7_comes_56 rfl rfl ?_
      refine zv_getR (pc' := 60) dX7_comes_57 rfl flX7_41 (by first | rfl | assumption) rfl ?_
      refine zv_iload_n (pc' := 61) dX7_comes_60 rfl rfl ?_
      refine zv_ialoadE (pc' := 62) dX7_comes_61 rfl (by first | rfl | assumption) (by decide) (by omega) (by first | exact hN | exact t0 | exact t1 | exact t2 | rfl) ?_
      refine zv_aload_n (pc' := 63) dX7_comes_62 rfl rfl ?_
      refine zv_getR (pc' := 66) dX7_comes_63 rfl flX7_41 (by first | rfl | assumption) rfl ?_
      refine zv_iload_n (pc' := 67) dX7_comes_66 rfl rfl ?_
      refine zv_iconst (v := nI 1) (pc' := 68) dX7_comes_67 rfl (by decide) ?_
      refine zv_iadd (pc' := 69) dX7_comes_68 rfl ?_
      refine zv_top (nI_add _ _) ?_
      refine zv_ialoadE (pc' := 70) dX7_comes_69 rfl (by first | rfl | assumption) (by decide) (by omega) (by first | exact hN | exact t0 | exact t1 | exact t2 | rfl) ?_
      refine zv_aload_n (pc' := 71) dX7_comes_70 rfl rfl ?_
      refine zv_getR (pc' := 74) dX7_comes_71 rfl flX7_41 (by first | rfl | assumption) rfl ?_
      refine zv_iload_n (pc' := 75) dX7_comes_74 rfl rfl ?_
      refine zv_iconst (v := nI 2) (pc' := 76) dX7_comes_75 rfl (by decide) ?_
      refine zv_iadd (pc' := 77) dX7_comes_76 rfl ?_
      refine zv_top (nI_add _ _) ?_
      refine zv_ialoadE (pc' := 78) dX7_comes_77 rfl (by first | rfl | assumption) (by decide) (by omega) (by first | exact hN | exact t0 | exact t1 | exact t2 | rfl) ?_
      refine zv_cV3_fv (pc' := 81) dX7_comes_78 rfl lkX7_133 (by first | rfl | assumption) rfl (Nat.le_of_ble_eq_true rfl) (x7_adds hA hk (by omega)) ?_
      rintro M1 ⟨h1, f1⟩
      refine zv_iconst (v := nI 1) (pc' := 82) dX7_comes_81 rfl (by decide) ?_
      refine zv_ireturn dX7_comes_82 rfl (by first | rfl | exact zb_nar _) ?_
      exact ⟨_, rfl, rfl, fun c' z => (by rw [← Option.some.inj z]; exact h1), f1⟩
  · have e1 := (dgB_of d1).2.2.2
    have eo : oneC l st c = if hasB (yN c) (nI (dg l (st + 1))) = true then some (setM c (fu (yM c) (dg l (st + 1)) (nm l (st + 2)))) else none := by rw [oneC, if_neg (by omega), if_pos x1]
    have t0 : M 100 (3 * k) = nI (dg l (st + 1)) := by
      have := h100 0 (by rw [tdC, if_neg (by omega), if_pos x1]; decide)
      rw [tdN, if_neg (by omega), if_pos x1, if_pos rfl] at this
      exact this
    have t1 : M 100 (3 * k + 1) = nI (nm l (st + 2)) := by
      have := h100 1 (by rw [tdC, if_neg (by omega), if_pos x1]; decide)
      rw [tdN, if_neg (by omega), if_pos x1, if_neg (by decide)] at this
      exact this
    rw [eo, x1]
    refine zv_lookup (pc' := 83) (off := 73) dX7_comes_10 (by decide) (by decide) (by decide) ?_
    refine zv_aload_n (pc' := 84) dX7_comes_83 rfl rfl ?_
    refine zv_aload_n (pc' := 85) dX7_comes_84 rfl rfl ?_
    refine zv_getR (pc' := 88) dX7_comes_85 rfl flX7_41 (by first | rfl | assumption) rfl ?_
    refine zv_iload_n (pc' := 89) dX7_comes_88 rfl rfl ?_
    refine zv_ialoadE (pc' := 90) dX7_comes_89 rfl (by first | rfl | assumption) (by decide) (by omega) (by first | exact t0 | exact t1 | rfl) ?_
    refine zv_cV1_pi (pc' := 93) dX7_comes_90 rfl lkX7_71 (by first | rfl | assumption) rfl (Nat.le_of_ble_eq_true rfl) (x7_isOne hN) ?_
    by_cases hh : hasB (yN c) (nI (dg l (st + 1))) = true
    · have hpn := hasB_nat hn8 (by omega) hh
      rw [if_pos hh, hh]
      refine zv_if_ne (pc' := 96) (tgt := 98) dX7_comes_93 rfl rfl (fun _ => ?_) (fun hcc => absurd hcc (by decide))
      refine zv_aload_n (pc' := 99) dX7_comes_98 rfl rfl ?_
      refine zv_getR (pc' := 102) dX7_comes_99 rfl flX7_19 (by first | rfl | assumption) rfl ?_
      refine zv_aload_n (pc' := 103) dX7_comes_102 rfl rfl ?_
      refine zv_getR (pc' := 106) dX7_comes_103 rfl flX7_41 (by first | rfl | assumption) rfl ?_
      refine zv_iload_n (pc' := 107) dX7_comes_106 rfl rfl ?_
      refine zv_ialoadE (pc' := 108) dX7_comes_107 rfl (by first | rfl | assumption) (by decide) (by omega) (by first | exact t0 | exact t1 | rfl) ?_
      refine zv_aload_n (pc' := 109) dX7_comes_108 rfl rfl ?_
      refine zv_getR (pc' := 112) dX7_comes_109 rfl flX7_41 (by first | rfl | assumption) rfl ?_
      refine zv_iload_n (pc' := 113) dX7_comes_112 rfl rfl ?_
      refine zv_iconst (v := nI 1) (pc' := 114) dX7_comes_113 rfl (by decide) ?_
      refine zv_iadd (pc' := 115) dX7_comes_114 rfl ?_
      refine zv_top (nI_add _ _) ?_
      refine zv_ialoadE (pc' := 116) dX7_comes_115 rfl (by first | rfl | assumption) (by decide) (by omega) (by first | exact t0 | exact t1 | rfl) ?_
      refine zv_iastoreN (pc' := 117) dX7_comes_116 rfl (by first | rfl | assumption) (by decide) (by omega) ?_
      refine zv_iconst (v := nI 1) (pc' := 118) dX7_comes_117 rfl (by decide) ?_
      refine zv_ireturn dX7_comes_118 rfl (by first | rfl | exact zb_nar _) ?_
      exact ⟨_, rfl, rfl, fun c' z => (by rw [← Option.some.inj z]; exact zAm_M hA), zFr.up (by decide) (by decide)⟩
    · rw [if_neg hh, show hasB (yN c) (nI (dg l (st + 1))) = false by simpa using hh]
      refine zv_if_ne (pc' := 96) (tgt := 98) dX7_comes_93 rfl rfl (fun hcc => absurd (rfl) hcc) (fun _ => ?_)
      refine zv_iconst (v := nI 0) (pc' := 97) dX7_comes_96 rfl (by decide) ?_
      refine zv_ireturn dX7_comes_97 rfl (by first | rfl | exact zb_nar _) ?_
      exact ⟨_, rfl, rfl, fun c' z => (by cases z), zFr.rf⟩
  · have e1 := (dgB_of d1).2.2.2
    have e2 := (dgB_of d2).2.2.2
    by_cases x4 : l.2 st = 121
    · have hnm := nm_le d1 d2
      have eo : oneC l st c = if passB (yY c) (nI (nm l (st + 1))) = true then some (yearsC (nm l (st + 1)) c) else none := by rw [oneC, if_neg (by omega), if_neg (by omega), if_pos x4]
      have t0 : M 100 (3 * k) = nI (nm l (st + 1)) := by
        have := h100 0 (by rw [tdC, if_neg (by omega), if_neg (by omega), if_pos x4]; decide)
        rw [tdN, if_neg (by omega), if_neg (by omega), if_pos x4] at this
        exact this
      rw [eo, x4]
      refine zv_lookup (pc' := 119) (off := 109) dX7_comes_10 (by decide) (by decide) (by decide) ?_
      refine zv_aload_n (pc' := 120) dX7_comes_119 rfl rfl ?_
      refine zv_aload_n (pc' := 121) dX7_comes_120 rfl rfl ?_
      refine zv_getR (pc' := 124) dX7_comes_121 rfl flX7_41 (by first | rfl | assumption) rfl ?_
      refine zv_iload_n (pc' := 125) dX7_comes_124 rfl rfl ?_
      refine zv_ialoadE (pc' := 126) dX7_comes_125 rfl (by first | rfl | assumption) (by decide) (by omega) (by first | exact t0 | rfl) ?_
      refine zv_cV1_fi (pc' := 129) dX7_comes_126 rfl lkX7_137 (by first | rfl | assumption) rfl (Nat.le_of_ble_eq_true rfl) (x7_comesYears hA hk hD hnm) ?_
      rintro r M1 ⟨rfl, h1, f1⟩
      refine zv_ireturn dX7_comes_129 rfl (by first | rfl | exact zb_nar _) ?_
      by_cases hh : passB (yY c) (nI (nm l (st + 1))) = true
      · rw [if_pos hh, hh]
        exact ⟨_, rfl, rfl, fun c' z => (by rw [← Option.some.inj z]; exact h1 hh), f1.mono (by simp) (by simp)⟩
      · rw [if_neg hh, show passB (yY c) (nI (nm l (st + 1))) = false by simpa using hh]
        exact ⟨_, rfl, rfl, fun c' z => (by cases z), f1.mono (by simp) (by simp)⟩
    · have eo : oneC l st c = if twoB (yN c) (nI (dg l (st + 1))) (nI (dg l (st + 2))) = true then some (tieC c (l.2 st) (dg l (st + 1)) (dg l (st + 2))) else none := by rw [oneC, if_neg (by omega), if_neg (by omega), if_neg x4]
      have htc : tdC (l.2 st) = 2 := by rw [tdC, if_neg (by omega), if_neg (by omega), if_neg x4]
      have t0 : M 100 (3 * k) = nI (dg l (st + 1)) := by
        have := h100 0 (by rw [htc]; decide)
        rw [tdN, if_neg (by omega), if_neg (by omega), if_neg x4] at this
        exact this
      have t1 : M 100 (3 * k + 1) = nI (dg l (st + 2)) := by
        have := h100 1 (by rw [htc]; decide)
        rw [tdN, if_neg (by omega), if_neg (by omega), if_neg x4] at this
        exact this
      have hlk : Op.lookupswitch.offset [(109, 73), (112, 34), (121, 109)] 120 (nI (l.2 st)).toInt = 120 := by
        rcases (show l.2 st = 115 ∨ l.2 st = 98 ∨ l.2 st = 102 by omega) with e | e | e <;> rw [e] <;> decide
      rw [eo]
      refine zv_lookup (pc' := 130) (off := 120) dX7_comes_10 (by decide) hlk (by decide) ?_
      refine zv_aload_n (pc' := 131) dX7_comes_130 rfl rfl ?_
      refine zv_aload_n (pc' := 132) dX7_comes_131 rfl rfl ?_
      refine zv_getR (pc' := 135) dX7_comes_132 rfl flX7_35 (by first | rfl | assumption) rfl ?_
      refine zv_iload_n (pc' := 136) dX7_comes_135 rfl rfl ?_
      refine zv_ialoadE (pc' := 137) dX7_comes_136 rfl (by first | rfl | assumption) (by decide) (by omega) (by first | exact h98 | exact t0 | exact t1 | rfl) ?_
      refine zv_aload_n (pc' := 138) dX7_comes_137 rfl rfl ?_
      refine zv_getR (pc' := 141) dX7_comes_138 rfl flX7_41 (by first | rfl | assumption) rfl ?_
      refine zv_iload_n (pc' := 142) dX7_comes_141 rfl rfl ?_
      refine zv_ialoadE (pc' := 143) dX7_comes_142 rfl (by first | rfl | assumption) (by decide) (by omega) (by first | exact h98 | exact t0 | exact t1 | rfl) ?_
      refine zv_aload_n (pc' := 144) dX7_comes_143 rfl rfl ?_
      refine zv_getR (pc' := 147) dX7_comes_144 rfl flX7_41 (by first | rfl | assumption) rfl ?_
      refine zv_iload_n (pc' := 148) dX7_comes_147 rfl rfl ?_
      refine zv_iconst (v := nI 1) (pc' := 149) dX7_comes_148 rfl (by decide) ?_
      refine zv_iadd (pc' := 150) dX7_comes_149 rfl ?_
      refine zv_top (nI_add _ _) ?_
      refine zv_ialoadE (pc' := 151) dX7_comes_150 rfl (by first | rfl | assumption) (by decide) (by omega) (by first | exact h98 | exact t0 | exact t1 | rfl) ?_
      refine zv_cV3_fi (pc' := 154) dX7_comes_151 rfl lkX7_140 (by first | rfl | assumption) rfl (Nat.le_of_ble_eq_true rfl) (x7_comesTie hA hk (by omega) e1 e2) ?_
      rintro r M1 ⟨rfl, h1, f1⟩
      refine zv_ireturn dX7_comes_154 rfl (by first | rfl | exact zb_nar _) ?_
      by_cases hh : twoB (yN c) (nI (dg l (st + 1))) (nI (dg l (st + 2))) = true
      · rw [if_pos hh, hh]
        exact ⟨_, rfl, rfl, fun c' z => (by rw [← Option.some.inj z]; exact h1 hh), f1.mono (by simp) (by simp)⟩
      · rw [if_neg hh, show twoB (yN c) (nI (dg l (st + 1))) (nI (dg l (st + 2))) = false by simpa using hh]
        exact ⟨_, rfl, rfl, fun c' z => (by cases z), f1.mono (by simp) (by simp)⟩
end
