/-! County: writes -/
theorem zv_copy8 {m : ZMD} {d : Nat} {Q : Option Value → ZMem → Prop} {pc pc' : Nat} {L : ZLc} {st : List Value} {M : ZMem} {idx a b : Nat} (hd : decode m.2.1 pc = .ok (.invokestatic idx, 3)) (hp : pc + 3 = pc') (lk : Cond.methodLink m.1.cls idx arraycopyName ∈ zgt ∧ Cond.native arraycopyName ∈ zgt ∧ Cond.static arraycopyName ∈ zgt ∧ Cond.initialized "java/lang/System" ∈ zgt) (ha : zshL[a]? = some (.inl 8)) (hb : zshL[b]? = some (.inl 8)) (hcat : (st.map fun v => v.category).sum ≤ 8)
    (k : ZV m (d + 1) Q pc' L st (zupf M b (va_cpy (M a) (M b) 0 0 8))) : ZV m (d + 1) Q pc L (.int (nI 8) :: .int (nI 0) :: .ref b :: .int (nI 0) :: .ref a :: st) M :=
  zv_copy hd hp lk ha hb hcat (by decide) (by decide) (by decide) (by decide) (by decide) (by decide +kernel) k
theorem zupf_ne {M : ZMem} {b : Nat} {f : Nat → Int32} {b' : Nat} (h : b' ≠ b) : zupf M b f b' = M b' := by simp [zupf, h]
theorem zupf_eq {M : ZMem} {b : Nat} {f : Nat → Int32} : zupf M b f b = f := by simp [zupf]
theorem upd_s {f : Nat → Int32} {k : Nat} {v : Int32} : upd f k v k = v := by simp [upd]
theorem upd_n {f : Nat → Int32} {k j : Nat} {v : Int32} (h : j ≠ k) : upd f k v j = f j := by simp [upd, h]
theorem zupd_fu {f : Nat → Int32} {g : Nat → Nat} {h : Nat → Nat} {i w : Nat} (hf : ∀ j, j < 8 → f j = nI (h (g j))) (e : h w = h w) : ∀ j, j < 8 → upd f i (nI (h w)) j = nI (h (fu g i w j)) := by
  intro j hj
  by_cases q : j = i
  · subst q; rw [upd_s, fu_s]
  · rw [upd_n q, fu_n q]; exact hf j hj
theorem zupd_row {f : Nat → Int32} {g : Nat → Nat → Bool} {i : Nat} {r : Nat → Bool} (hf : ∀ j, j < 8 → f j = nI (zm 8 (g j))) : ∀ j, j < 8 → upd f i (nI (zm 8 r)) j = nI (zm 8 (fu g i r j)) := by
  intro j hj
  by_cases q : j = i
  · subst q; rw [upd_s, fu_s]
  · rw [upd_n q, fu_n q]; exact hf j hj
section
variable {o : Nat} {M : ZMem} {c : ZCty}
theorem zAt_M {i w : Nat} (h : zAt M o c) : zAt (zup M (o + 3) i (nI w)) o (setM c (fu (yM c) i w)) := by
  obtain ⟨hN, hY, hK, hF, hM, hS, hX⟩ := h
  refine ⟨by rw [zup_ne (by omega)]; exact hN, by rw [zup_ne (by omega)]; exact hY, by rw [zup_ne (by omega)]; exact hK, by rw [zup_ne (by omega)]; exact hF, ?_, by rw [zup_ne (by omega)]; exact hS, by rw [zup_ne (by omega)]; exact hX⟩
  rw [zup_eq]
  exact zupd_fu (h := fun x => x) hM rfl
theorem zAt_S {i : Nat} {r : Nat → Bool} (h : zAt M o c) : zAt (zup M (o + 4) i (nI (zm 8 r))) o (setS c (fu (yS c) i r)) := by
  obtain ⟨hN, hY, hK, hF, hM, hS, hX⟩ := h
  refine ⟨by rw [zup_ne (by omega)]; exact hN, by rw [zup_ne (by omega)]; exact hY, by rw [zup_ne (by omega)]; exact hK, by rw [zup_ne (by omega)]; exact hF, by rw [zup_ne (by omega)]; exact hM, ?_, by rw [zup_ne (by omega)]; exact hX⟩
  rw [zup_eq]
  exact zupd_row hS
theorem zAt_X {i : Nat} {r : Nat → Bool} (h : zAt M o c) : zAt (zup M (o + 5) i (nI (zm 8 r))) o (setX c (fu (yX c) i r)) := by
  obtain ⟨hN, hY, hK, hF, hM, hS, hX⟩ := h
  refine ⟨by rw [zup_ne (by omega)]; exact hN, by rw [zup_ne (by omega)]; exact hY, by rw [zup_ne (by omega)]; exact hK, by rw [zup_ne (by omega)]; exact hF, by rw [zup_ne (by omega)]; exact hM, by rw [zup_ne (by omega)]; exact hS, ?_⟩
  rw [zup_eq]
  exact zupd_row hX
def setK (c : ZCty) (k : Nat → Nat) : ZCty := (yN c, yY c, k, yF c, yM c, yS c, yX c)
def setF (c : ZCty) (f : Nat → Nat) : ZCty := (yN c, yY c, yK c, f, yM c, yS c, yX c)
def setN (c : ZCty) (n : Nat) : ZCty := (n, yY c, yK c, yF c, yM c, yS c, yX c)
def setY (c : ZCty) (y : Nat) : ZCty := (yN c, y, yK c, yF c, yM c, yS c, yX c)
theorem zAt_K {i w : Nat} (h : zAt M o c) : zAt (zup M (o + 1) i (nI w)) o (setK c (fu (yK c) i w)) := by
  obtain ⟨hN, hY, hK, hF, hM, hS, hX⟩ := h
  refine ⟨by rw [zup_ne (by omega)]; exact hN, by rw [zup_ne (by omega)]; exact hY, ?_, by rw [zup_ne (by omega)]; exact hF, by rw [zup_ne (by omega)]; exact hM, by rw [zup_ne (by omega)]; exact hS, by rw [zup_ne (by omega)]; exact hX⟩
  rw [zup_eq]
  exact zupd_fu (h := fun x => x) hK rfl
theorem zAt_F {i w : Nat} (h : zAt M o c) : zAt (zup M (o + 2) i (nI w)) o (setF c (fu (yF c) i w)) := by
  obtain ⟨hN, hY, hK, hF, hM, hS, hX⟩ := h
  refine ⟨by rw [zup_ne (by omega)]; exact hN, by rw [zup_ne (by omega)]; exact hY, by rw [zup_ne (by omega)]; exact hK, ?_, by rw [zup_ne (by omega)]; exact hM, by rw [zup_ne (by omega)]; exact hS, by rw [zup_ne (by omega)]; exact hX⟩
  rw [zup_eq]
  exact zupd_fu (h := fun x => x) hF rfl
theorem zAt_N {w : Nat} (h : zAt M o c) : zAt (zup M o 5 (nI w)) o (setN c w) := by
  obtain ⟨hN, hY, hK, hF, hM, hS, hX⟩ := h
  refine ⟨by rw [zup_eq, upd_s]; rfl, by rw [zup_eq, upd_n (by omega)]; exact hY, by rw [zup_ne (by omega)]; exact hK, by rw [zup_ne (by omega)]; exact hF, by rw [zup_ne (by omega)]; exact hM, by rw [zup_ne (by omega)]; exact hS, by rw [zup_ne (by omega)]; exact hX⟩
theorem zAt_Y {w : Nat} (h : zAt M o c) : zAt (zup M o 6 (nI w)) o (setY c w) := by
  obtain ⟨hN, hY, hK, hF, hM, hS, hX⟩ := h
  refine ⟨by rw [zup_eq, upd_n (by omega)]; exact hN, by rw [zup_eq, upd_s]; rfl, by rw [zup_ne (by omega)]; exact hK, by rw [zup_ne (by omega)]; exact hF, by rw [zup_ne (by omega)]; exact hM, by rw [zup_ne (by omega)]; exact hS, by rw [zup_ne (by omega)]; exact hX⟩
theorem zAt.same {M' : ZMem} {lo hi : Nat} (h : zAt M o c) (hs : zSame lo hi M M') (hd : o + 6 ≤ lo ∨ hi ≤ o) : zAt M' o c := by
  obtain ⟨hN, hY, hK, hF, hM, hS, hX⟩ := h
  have e : ∀ k, o ≤ k → k < o + 6 → M' k = M k := fun k h1 h2 => hs k (by omega)
  refine ⟨by rw [e o (by omega) (by omega)]; exact hN, by rw [e o (by omega) (by omega)]; exact hY, by rw [e _ (by omega) (by omega)]; exact hK, by rw [e _ (by omega) (by omega)]; exact hF, by rw [e _ (by omega) (by omega)]; exact hM, by rw [e _ (by omega) (by omega)]; exact hS, by rw [e _ (by omega) (by omega)]; exact hX⟩
end
section
variable {o : Nat} {M : ZMem} {c : ZCty} {d : Nat}
theorem x0_become {o2 : Nat} (hC : zCy o) (hC2 : zCy o2) (hA : zAt M o2 c) (hdis : o2 + 6 ≤ o ∨ o + 6 ≤ o2) : ZFv mdX0_become (d + 1) [.ref o, .ref o2] M (fun M' => zAt M' o c ∧ zSame o (o + 6) M M') := by
  obtain ⟨c0, c1, c2, c3, c4, c5⟩ := hC
  obtain ⟨e0, e1, e2, e3, e4, e5⟩ := hC2
  obtain ⟨hN, hY, hK, hF, hM, hS, hX⟩ := hA
  refine zex_intro (L := [some (.ref o), some (.ref o2)]) (by decide) (Nat.le_of_ble_eq_true rfl) rfl ?_
  refine zv_aload_n (pc' := 1) dX0_become_0 rfl rfl ?_
  refine zv_getR (pc' := 4) dX0_become_1 rfl flX0_9 (by first | rfl | assumption) rfl ?_
  refine zv_iconst (v := nI 0) (pc' := 5) dX0_become_4 rfl (by decide) ?_
  refine zv_aload_n (pc' := 6) dX0_become_5 rfl rfl ?_
  refine zv_getR (pc' := 9) dX0_become_6 rfl flX0_9 (by first | rfl | assumption) rfl ?_
  refine zv_iconst (v := nI 0) (pc' := 10) dX0_become_9 rfl (by decide) ?_
  refine zv_bipush (v := nI 8) (pc' := 12) dX0_become_10 rfl (by decide) ?_
  refine zv_copy8 (pc' := 15) dX0_become_12 rfl lkX0_27 (by assumption) (by assumption) (Nat.le_of_ble_eq_true rfl) ?_
  refine zv_aload_n (pc' := 16) dX0_become_15 rfl rfl ?_
  refine zv_getR (pc' := 19) dX0_become_16 rfl flX0_15 (by first | rfl | assumption) rfl ?_
  refine zv_iconst (v := nI 0) (pc' := 20) dX0_become_19 rfl (by decide) ?_
  refine zv_aload_n (pc' := 21) dX0_become_20 rfl rfl ?_
  refine zv_getR (pc' := 24) dX0_become_21 rfl flX0_15 (by first | rfl | assumption) rfl ?_
  refine zv_iconst (v := nI 0) (pc' := 25) dX0_become_24 rfl (by decide) ?_
  refine zv_bipush (v := nI 8) (pc' := 27) dX0_become_25 rfl (by decide) ?_
  refine zv_copy8 (pc' := 30) dX0_become_27 rfl lkX0_27 (by assumption) (by assumption) (Nat.le_of_ble_eq_true rfl) ?_
  refine zv_aload_n (pc' := 31) dX0_become_30 rfl rfl ?_
  refine zv_getR (pc' := 34) dX0_become_31 rfl flX0_18 (by first | rfl | assumption) rfl ?_
  refine zv_iconst (v := nI 0) (pc' := 35) dX0_become_34 rfl (by decide) ?_
  refine zv_aload_n (pc' := 36) dX0_become_35 rfl rfl ?_
  refine zv_getR (pc' := 39) dX0_become_36 rfl flX0_18 (by first | rfl | assumption) rfl ?_
  refine zv_iconst (v := nI 0) (pc' := 40) dX0_become_39 rfl (by decide) ?_
  refine zv_bipush (v := nI 8) (pc' := 42) dX0_become_40 rfl (by decide) ?_
  refine zv_copy8 (pc' := 45) dX0_become_42 rfl lkX0_27 (by assumption) (by assumption) (Nat.le_of_ble_eq_true rfl) ?_
  refine zv_aload_n (pc' := 46) dX0_become_45 rfl rfl ?_
  refine zv_getR (pc' := 49) dX0_become_46 rfl flX0_21 (by first | rfl | assumption) rfl ?_
  refine zv_iconst (v := nI 0) (pc' := 50) dX0_become_49 rfl (by decide) ?_
  refine zv_aload_n (pc' := 51) dX0_become_50 rfl rfl ?_
  refine zv_getR (pc' := 54) dX0_become_51 rfl flX0_21 (by first | rfl | assumption) rfl ?_
  refine zv_iconst (v := nI 0) (pc' := 55) dX0_become_54 rfl (by decide) ?_
  refine zv_bipush (v := nI 8) (pc' := 57) dX0_become_55 rfl (by decide) ?_
  refine zv_copy8 (pc' := 60) dX0_become_57 rfl lkX0_27 (by assumption) (by assumption) (Nat.le_of_ble_eq_true rfl) ?_
  refine zv_aload_n (pc' := 61) dX0_become_60 rfl rfl ?_
  refine zv_getR (pc' := 64) dX0_become_61 rfl flX0_24 (by first | rfl | assumption) rfl ?_
  refine zv_iconst (v := nI 0) (pc' := 65) dX0_become_64 rfl (by decide) ?_
  refine zv_aload_n (pc' := 66) dX0_become_65 rfl rfl ?_
  refine zv_getR (pc' := 69) dX0_become_66 rfl flX0_24 (by first | rfl | assumption) rfl ?_
  refine zv_iconst (v := nI 0) (pc' := 70) dX0_become_69 rfl (by decide) ?_
  refine zv_bipush (v := nI 8) (pc' := 72) dX0_become_70 rfl (by decide) ?_
  refine zv_copy8 (pc' := 75) dX0_become_72 rfl lkX0_27 (by assumption) (by assumption) (Nat.le_of_ble_eq_true rfl) ?_
  generalize hM1 : zupf (zupf (zupf (zupf (zupf M (o + 1) _) (o + 2) _) (o + 3) _) (o + 4) _) (o + 5) _ = M1
  have f1 : ∀ k, k ≠ o + 1 → k ≠ o + 2 → k ≠ o + 3 → k ≠ o + 4 → k ≠ o + 5 → M1 k = M k := by
    intro k h1 h2 h3 h4 h5
    rw [← hM1, zupf_ne h5, zupf_ne h4, zupf_ne h3, zupf_ne h2, zupf_ne h1]
  have g1 : ∀ j, j < 8 → M1 (o + 1) j = nI (yK c j) := fun j hj => by
    rw [← hM1, zupf_ne (by omega), zupf_ne (by omega), zupf_ne (by omega), zupf_ne (by omega), zupf_eq, sb_cpy0 hj]
    exact hK j hj
  have g2 : ∀ j, j < 8 → M1 (o + 2) j = nI (yF c j) := fun j hj => by
    rw [← hM1, zupf_ne (by omega), zupf_ne (by omega), zupf_ne (by omega), zupf_eq, sb_cpy0 hj, zupf_ne (by omega)]
    exact hF j hj
  have g3 : ∀ j, j < 8 → M1 (o + 3) j = nI (yM c j) := fun j hj => by
    rw [← hM1, zupf_ne (by omega), zupf_ne (by omega), zupf_eq, sb_cpy0 hj, zupf_ne (by omega), zupf_ne (by omega)]
    exact hM j hj
  have g4 : ∀ j, j < 8 → M1 (o + 4) j = nI (zm 8 (yS c j)) := fun j hj => by
    rw [← hM1, zupf_ne (by omega), zupf_eq, sb_cpy0 hj, zupf_ne (by omega), zupf_ne (by omega), zupf_ne (by omega)]
    exact hS j hj
  have g5 : ∀ j, j < 8 → M1 (o + 5) j = nI (zm 8 (yX c j)) := fun j hj => by
    rw [← hM1, zupf_eq, sb_cpy0 hj, zupf_ne (by omega), zupf_ne (by omega), zupf_ne (by omega), zupf_ne (by omega)]
    exact hX j hj
  have hN1 : M1 o2 5 = nI (yN c) := by rw [f1 o2 (by omega) (by omega) (by omega) (by omega) (by omega)]; exact hN
  have hY1 : zup M1 o 5 (nI (yN c)) o2 6 = nI (yY c) := by rw [zup_ne (by omega), f1 o2 (by omega) (by omega) (by omega) (by omega) (by omega)]; exact hY
  refine zv_aload_n (pc' := 76) dX0_become_75 rfl rfl ?_
  refine zv_aload_n (pc' := 77) dX0_become_76 rfl rfl ?_
  refine zv_getIE (pc' := 80) dX0_become_77 rfl flX0_33 (by first | rfl | assumption) rfl (by first | exact hN1 | exact hY1 | rfl) ?_
  refine zv_putI (pc' := 83) dX0_become_80 rfl flX0_33 pfX0_5 (by first | rfl | assumption) rfl rfl rfl ?_
  refine zv_aload_n (pc' := 84) dX0_become_83 rfl rfl ?_
  refine zv_aload_n (pc' := 85) dX0_become_84 rfl rfl ?_
  refine zv_getIE (pc' := 88) dX0_become_85 rfl flX0_37 (by first | rfl | assumption) rfl (by first | exact hN1 | exact hY1 | rfl) ?_
  refine zv_putI (pc' := 91) dX0_become_88 rfl flX0_37 pfX0_6 (by first | rfl | assumption) rfl rfl rfl ?_
  refine zv_vret dX0_become_91 rfl ?_
  refine ⟨rfl, ⟨?_, ?_, ?_, ?_, ?_, ?_, ?_⟩, ?_⟩
  · rw [zup_eq, upd_n (by omega), zup_eq, upd_s]
  · rw [zup_eq, upd_s]
  · rw [zup_ne (by omega), zup_ne (by omega)]; exact g1
  · rw [zup_ne (by omega), zup_ne (by omega)]; exact g2
  · rw [zup_ne (by omega), zup_ne (by omega)]; exact g3
  · rw [zup_ne (by omega), zup_ne (by omega)]; exact g4
  · rw [zup_ne (by omega), zup_ne (by omega)]; exact g5
  · intro k hk
    rw [zup_ne (by omega), zup_ne (by omega)]
    exact f1 k (by omega) (by omega) (by omega) (by omega) (by omega)
theorem x0_enrich {p w : Nat} (hC : zCy o) (hA : zAt M o c) (hn : yN c ≤ 8) (hp : p < yN c) : ZFi mdX0_enrich (d + 1) [.ref o, .int (nI p), .int (nI w)] M (fun r M' => r = 1 ∧ zAt M' o (setM c (fu (yM c) p w)) ∧ zSame o (o + 6) M M') := by
  have hC' := hC
  have hA' := hA
  obtain ⟨c0, c1, c2, c3, c4, c5⟩ := hC
  refine zex_intro (L := [some (.ref o), some (.int (nI p)), some (.int (nI w))]) (by decide) (Nat.le_of_ble_eq_true rfl) rfl ?_
  refine zv_aload_n (pc' := 1) dX0_enrich_0 rfl rfl ?_
  refine zv_iload_n (pc' := 2) dX0_enrich_1 rfl rfl ?_
  refine zv_cV1_pi (pc' := 5) dX0_enrich_2 rfl lkX0_40 (by first | rfl | assumption) rfl (Nat.le_of_ble_eq_true rfl) (x0_has hC' hA') ?_
  rw [hasB_in hp hn]
  refine zv_if_ne (pc' := 8) (tgt := 10) dX0_enrich_5 rfl rfl (fun _ => ?_) (fun hcc => absurd hcc (by decide))
  refine zv_aload_n (pc' := 11) dX0_enrich_10 rfl rfl ?_
  refine zv_getR (pc' := 14) dX0_enrich_11 rfl flX0_18 (by first | rfl | assumption) rfl ?_
  refine zv_iload_n (pc' := 15) dX0_enrich_14 rfl rfl ?_
  refine zv_iload_n (pc' := 16) dX0_enrich_15 rfl rfl ?_
  refine zv_iastoreN (pc' := 17) dX0_enrich_16 rfl (by first | rfl | assumption) (by decide) (by omega) ?_
  refine zv_iconst (v := nI 1) (pc' := 18) dX0_enrich_17 rfl (by decide) ?_
  refine zv_ireturn dX0_enrich_18 rfl (by first | rfl | exact zb_nar _) ?_
  exact ⟨_, rfl, rfl, zAt_M hA', zSame.up (by omega) (by omega)⟩
theorem x0_enrich0 {x y : Int32} (hC : zCy o) (hA : zAt M o c) (hx : hasB (yN c) x = false) : ZPi mdX0_enrich (d + 1) [.ref o, .int x, .int y] M (zb false) := by
  have hC' := hC
  have hA' := hA
  obtain ⟨c0, c1, c2, c3, c4, c5⟩ := hC
  refine zex_intro (L := [some (.ref o), some (.int x), some (.int y)]) (by decide) (Nat.le_of_ble_eq_true rfl) rfl ?_
  refine zv_aload_n (pc' := 1) dX0_enrich_0 rfl rfl ?_
  refine zv_iload_n (pc' := 2) dX0_enrich_1 rfl rfl ?_
  refine zv_cV1_pi (pc' := 5) dX0_enrich_2 rfl lkX0_40 (by first | rfl | assumption) rfl (Nat.le_of_ble_eq_true rfl) (x0_has hC' hA') ?_
  rw [hx]
  refine zv_if_ne (pc' := 8) (tgt := 10) dX0_enrich_5 rfl rfl (fun hcc => absurd (by decide) hcc) (fun _ => ?_)
  refine zv_iconst (v := nI 0) (pc' := 9) dX0_enrich_8 rfl (by decide) ?_
  refine zv_ireturn dX0_enrich_9 rfl (by first | rfl | exact zb_nar _) ?_
  exact zpi_f rfl
theorem x0_withBit {f : Nat → Bool} {q : Nat} {b : Bool} (hq : q < 8) : ZPi mdX0_withBit d [.int (nI (zm 8 f)), .int (nI q), .int (zb b)] M (nI (zm 8 (fu f q b))) := by
  refine zex_intro (L := [some (.int (nI (zm 8 f))), some (.int (nI q)), some (.int (zb b))]) (by decide) (Nat.le_of_ble_eq_true rfl) rfl ?_
  refine zv_iload_n (pc' := 1) dX0_withBit_0 rfl rfl ?_
  refine zv_if_eq (pc' := 4) (tgt := 12) dX0_withBit_1 rfl rfl ?_ ?_
  · intro h
    refine zv_iload_n (pc' := 13) dX0_withBit_12 rfl rfl ?_
    refine zv_iconst (v := nI 1) (pc' := 14) dX0_withBit_13 rfl (by decide) ?_
    refine zv_iload_n (pc' := 15) dX0_withBit_14 rfl rfl ?_
    refine zv_ishl (pc' := 16) dX0_withBit_15 rfl ?_
    refine zv_top (zsh1 q (by omega)) ?_
    refine zv_iconst (v := (-1 : Int32)) (pc' := 17) dX0_withBit_16 rfl (by decide) ?_
    refine zv_ixor (pc' := 18) dX0_withBit_17 rfl ?_
    refine zv_iand (pc' := 19) dX0_withBit_18 rfl ?_
    refine zv_top mk_cl1 ?_
    refine zv_iret dX0_withBit_19 rfl ?_
    refine zpi_ret (congrArg (fun g => nI (zm 8 g)) (funext fun j => ?_))
    rw [zb_0.mp h]
    by_cases e : j = q
    · simp [fu, e]
    · simp [fu, e]
  · intro h
    refine zv_iload_n (pc' := 5) dX0_withBit_4 rfl rfl ?_
    refine zv_iconst (v := nI 1) (pc' := 6) dX0_withBit_5 rfl (by decide) ?_
    refine zv_iload_n (pc' := 7) dX0_withBit_6 rfl rfl ?_
    refine zv_ishl (pc' := 8) dX0_withBit_7 rfl ?_
    refine zv_top (zsh1 q (by omega)) ?_
    refine zv_ior (pc' := 9) dX0_withBit_8 rfl ?_
    refine zv_top (mk_or1 hq) ?_
    refine zv_goto (pc' := 19) dX0_withBit_9 rfl ?_
    refine zv_iret dX0_withBit_19 rfl ?_
    refine zpi_ret (congrArg (fun g => nI (zm 8 g)) (funext fun j => ?_))
    rw [zb_ne.mp h]
    by_cases e : j = q
    · simp [fu, e]
    · simp [fu, e]
theorem x0_setSigning {p q : Nat} {b : Bool} (hC : zCy o) (hA : zAt M o c) (hn : yN c ≤ 8) (hp : p < yN c) (hq : q < yN c) (hpq : p ≠ q) : ZFi mdX0_setSigning (d + 2) [.ref o, .int (nI p), .int (nI q), .int (zb b)] M (fun r M' => r = 1 ∧ zAt M' o (setS c (fu2 (yS c) p q b)) ∧ zSame o (o + 6) M M') := by
  have hC' := hC
  have hA' := hA
  obtain ⟨c0, c1, c2, c3, c4, c5⟩ := hC
  obtain ⟨hN, hY, hK, hF, hM, hS, hX⟩ := hA
  refine zex_intro (L := [some (.ref o), some (.int (nI p)), some (.int (nI q)), some (.int (zb b))]) (by decide) (Nat.le_of_ble_eq_true rfl) rfl ?_
  refine zv_aload_n (pc' := 1) dX0_setSigning_0 rfl rfl ?_
  refine zv_iload_n (pc' := 2) dX0_setSigning_1 rfl rfl ?_
  refine zv_iload_n (pc' := 3) dX0_setSigning_2 rfl rfl ?_
  refine zv_cV2_pi (pc' := 6) dX0_setSigning_3 rfl lkX0_44 (by first | rfl | assumption) rfl (Nat.le_of_ble_eq_true rfl) (x0_hasTwo hC' hA') ?_
  rw [twoB_in hn hp hq hpq]
  refine zv_if_ne (pc' := 9) (tgt := 11) dX0_setSigning_6 rfl rfl (fun _ => ?_) (fun hcc => absurd hcc (by decide))
  refine zv_aload_n (pc' := 12) dX0_setSigning_11 rfl rfl ?_
  refine zv_getR (pc' := 15) dX0_setSigning_12 rfl flX0_21 (by first | rfl | assumption) rfl ?_
  refine zv_iload_n (pc' := 16) dX0_setSigning_15 rfl rfl ?_
  refine zv_aload_n (pc' := 17) dX0_setSigning_16 rfl rfl ?_
  refine zv_getR (pc' := 20) dX0_setSigning_17 rfl flX0_21 (by first | rfl | assumption) rfl ?_
  refine zv_iload_n (pc' := 21) dX0_setSigning_20 rfl rfl ?_
  refine zv_ialoadE (pc' := 22) dX0_setSigning_21 rfl (by first | rfl | assumption) (by decide) (by omega) (by first | exact hN | exact hY | exact hM _ (by omega) | exact hS _ (by omega) | exact hX _ (by omega) | exact hK _ (by omega) | exact hF _ (by omega) | rfl) ?_
  refine zv_iload_n (pc' := 23) dX0_setSigning_22 rfl rfl ?_
  refine zv_iload_n (pc' := 24) dX0_setSigning_23 rfl rfl ?_
  refine zv_cS3_pi (pc' := 27) dX0_setSigning_24 rfl lkX0_62 (Nat.le_of_ble_eq_true rfl) (x0_withBit (by omega)) ?_
  refine zv_iastoreN (pc' := 28) dX0_setSigning_27 rfl (by first | rfl | assumption) (by decide) (by omega) ?_
  refine zv_iconst (v := nI 1) (pc' := 29) dX0_setSigning_28 rfl (by decide) ?_
  refine zv_ireturn dX0_setSigning_29 rfl (by first | rfl | exact zb_nar _) ?_
  exact ⟨_, rfl, rfl, zAt_S hA', zSame.up (by omega) (by omega)⟩
theorem x0_setSigning0 {x y z : Int32} (hC : zCy o) (hA : zAt M o c) (hx : twoB (yN c) x y = false) : ZPi mdX0_setSigning (d + 2) [.ref o, .int x, .int y, .int z] M (zb false) := by
  have hC' := hC
  have hA' := hA
  obtain ⟨c0, c1, c2, c3, c4, c5⟩ := hC
  refine zex_intro (L := [some (.ref o), some (.int x), some (.int y), some (.int z)]) (by decide) (Nat.le_of_ble_eq_true rfl) rfl ?_
  refine zv_aload_n (pc' := 1) dX0_setSigning_0 rfl rfl ?_
  refine zv_iload_n (pc' := 2) dX0_setSigning_1 rfl rfl ?_
  refine zv_iload_n (pc' := 3) dX0_setSigning_2 rfl rfl ?_
  refine zv_cV2_pi (pc' := 6) dX0_setSigning_3 rfl lkX0_44 (by first | rfl | assumption) rfl (Nat.le_of_ble_eq_true rfl) (x0_hasTwo hC' hA') ?_
  rw [hx]
  refine zv_if_ne (pc' := 9) (tgt := 11) dX0_setSigning_6 rfl rfl (fun hcc => absurd (by decide) hcc) (fun _ => ?_)
  refine zv_iconst (v := nI 0) (pc' := 10) dX0_setSigning_9 rfl (by decide) ?_
  refine zv_ireturn dX0_setSigning_10 rfl (by first | rfl | exact zb_nar _) ?_
  exact zpi_f rfl
theorem x0_setFeud {p q : Nat} {b : Bool} (hC : zCy o) (hA : zAt M o c) (hn : yN c ≤ 8) (hp : p < yN c) (hq : q < yN c) (hpq : p ≠ q) : ZFi mdX0_setFeud (d + 2) [.ref o, .int (nI p), .int (nI q), .int (zb b)] M (fun r M' => r = 1 ∧ zAt M' o (setX c (fu2 (fu2 (yX c) p q b) q p b)) ∧ zSame o (o + 6) M M') := by
  have hC' := hC
  have hA' := hA
  obtain ⟨c0, c1, c2, c3, c4, c5⟩ := hC
  obtain ⟨hN, hY, hK, hF, hM, hS, hX⟩ := hA
  refine zex_intro (L := [some (.ref o), some (.int (nI p)), some (.int (nI q)), some (.int (zb b))]) (by decide) (Nat.le_of_ble_eq_true rfl) rfl ?_
  refine zv_aload_n (pc' := 1) dX0_setFeud_0 rfl rfl ?_
  refine zv_iload_n (pc' := 2) dX0_setFeud_1 rfl rfl ?_
  refine zv_iload_n (pc' := 3) dX0_setFeud_2 rfl rfl ?_
  refine zv_cV2_pi (pc' := 6) dX0_setFeud_3 rfl lkX0_44 (by first | rfl | assumption) rfl (Nat.le_of_ble_eq_true rfl) (x0_hasTwo hC' hA') ?_
  rw [twoB_in hn hp hq hpq]
  refine zv_if_ne (pc' := 9) (tgt := 11) dX0_setFeud_6 rfl rfl (fun _ => ?_) (fun hcc => absurd hcc (by decide))
  refine zv_aload_n (pc' := 12) dX0_setFeud_11 rfl rfl ?_
  refine zv_getR (pc' := 15) dX0_setFeud_12 rfl flX0_24 (by first | rfl | assumption) rfl ?_
  refine zv_iload_n (pc' := 16) dX0_setFeud_15 rfl rfl ?_
  refine zv_aload_n (pc' := 17) dX0_setFeud_16 rfl rfl ?_
  refine zv_getR (pc' := 20) dX0_setFeud_17 rfl flX0_24 (by first | rfl | assumption) rfl ?_
  refine zv_iload_n (pc' := 21) dX0_setFeud_20 rfl rfl ?_
  refine zv_ialoadE (pc' := 22) dX0_setFeud_21 rfl (by first | rfl | assumption) (by decide) (by omega) (by first | exact hN | exact hY | exact hM _ (by omega) | exact hS _ (by omega) | exact hX _ (by omega) | exact hK _ (by omega) | exact hF _ (by omega) | rfl) ?_
  refine zv_iload_n (pc' := 23) dX0_setFeud_22 rfl rfl ?_
  refine zv_iload_n (pc' := 24) dX0_setFeud_23 rfl rfl ?_
  refine zv_cS3_pi (pc' := 27) dX0_setFeud_24 rfl lkX0_62 (Nat.le_of_ble_eq_true rfl) (x0_withBit (by omega)) ?_
  refine zv_iastoreN (pc' := 28) dX0_setFeud_27 rfl (by first | rfl | assumption) (by decide) (by omega) ?_
  have hA1 : zAt (zup M (o + 5) p (nI (zm 8 (fu (yX c p) q b)))) o (setX c (fu2 (yX c) p q b)) := zAt_X hA'
  have hs1 : zSame o (o + 6) M (zup M (o + 5) p (nI (zm 8 (fu (yX c p) q b)))) := zSame.up (by omega) (by omega)
  generalize zup M (o + 5) p (nI (zm 8 (fu (yX c p) q b))) = M1 at hA1 hs1 ⊢
  have hX := hA1.2.2.2.2.2.2
  refine zv_aload_n (pc' := 29) dX0_setFeud_28 rfl rfl ?_
  refine zv_getR (pc' := 32) dX0_setFeud_29 rfl flX0_24 (by first | rfl | assumption) rfl ?_
  refine zv_iload_n (pc' := 33) dX0_setFeud_32 rfl rfl ?_
  refine zv_aload_n (pc' := 34) dX0_setFeud_33 rfl rfl ?_
  refine zv_getR (pc' := 37) dX0_setFeud_34 rfl flX0_24 (by first | rfl | assumption) rfl ?_
  refine zv_iload_n (pc' := 38) dX0_setFeud_37 rfl rfl ?_
  refine zv_ialoadE (pc' := 39) dX0_setFeud_38 rfl (by first | rfl | assumption) (by decide) (by omega) (by first | exact hN | exact hY | exact hM _ (by omega) | exact hS _ (by omega) | exact hX _ (by omega) | exact hK _ (by omega) | exact hF _ (by omega) | rfl) ?_
  refine zv_iload_n (pc' := 40) dX0_setFeud_39 rfl rfl ?_
  refine zv_iload_n (pc' := 41) dX0_setFeud_40 rfl rfl ?_
  refine zv_cS3_pi (pc' := 44) dX0_setFeud_41 rfl lkX0_62 (Nat.le_of_ble_eq_true rfl) (x0_withBit (by omega)) ?_
  refine zv_iastoreN (pc' := 45) dX0_setFeud_44 rfl (by first | rfl | assumption) (by decide) (by omega) ?_
  refine zv_iconst (v := nI 1) (pc' := 46) dX0_setFeud_45 rfl (by decide) ?_
  refine zv_ireturn dX0_setFeud_46 rfl (by first | rfl | exact zb_nar _) ?_
  exact ⟨_, rfl, rfl, zAt_X hA1, hs1.tr (zSame.up (by omega) (by omega))⟩
theorem x0_setFeud0 {x y z : Int32} (hC : zCy o) (hA : zAt M o c) (hx : twoB (yN c) x y = false) : ZPi mdX0_setFeud (d + 2) [.ref o, .int x, .int y, .int z] M (zb false) := by
  have hC' := hC
  have hA' := hA
  obtain ⟨c0, c1, c2, c3, c4, c5⟩ := hC
  refine zex_intro (L := [some (.ref o), some (.int x), some (.int y), some (.int z)]) (by decide) (Nat.le_of_ble_eq_true rfl) rfl ?_
  refine zv_aload_n (pc' := 1) dX0_setFeud_0 rfl rfl ?_
  refine zv_iload_n (pc' := 2) dX0_setFeud_1 rfl rfl ?_
  refine zv_iload_n (pc' := 3) dX0_setFeud_2 rfl rfl ?_
  refine zv_cV2_pi (pc' := 6) dX0_setFeud_3 rfl lkX0_44 (by first | rfl | assumption) rfl (Nat.le_of_ble_eq_true rfl) (x0_hasTwo hC' hA') ?_
  rw [hx]
  refine zv_if_ne (pc' := 9) (tgt := 11) dX0_setFeud_6 rfl rfl (fun hcc => absurd (by decide) hcc) (fun _ => ?_)
  refine zv_iconst (v := nI 0) (pc' := 10) dX0_setFeud_9 rfl (by decide) ?_
  refine zv_ireturn dX0_setFeud_10 rfl (by first | rfl | exact zb_nar _) ?_
  exact zpi_f rfl
end
