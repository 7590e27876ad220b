set_option maxRecDepth 100000 in
theorem flJ0_9 : Cond.fieldLink "java/lang/String" 9 "java/lang/String" "value" "[B" ∈ zgt := zgt_in (zt6 (List.mem_of_getElem? (i := 125) rfl)) rfl
set_option maxRecDepth 100000 in
theorem flJ0_15 : Cond.fieldLink "java/lang/String" 15 "java/lang/String" "coder" "B" ∈ zgt := zgt_in (zt6 (List.mem_of_getElem? (i := 124) rfl)) rfl
set_option maxRecDepth 100000 in
theorem flJ0_38 : Cond.fieldLink "java/lang/String" 38 "java/lang/String" "COMPACT_STRINGS" "Z" ∈ zgt := zgt_in (zt2 (List.mem_of_getElem? (i := 23) rfl)) rfl
set_option maxRecDepth 100000 in
theorem lmJ1_92 : Cond.methodLink RJ1 92 Lib.Math.max.name ∈ zgt ∧ Cond.static Lib.Math.max.name ∈ zgt ∧ Cond.initialized "java/lang/Math" ∈ zgt ∧ Cond.code Lib.Math.max.name Lib.Math.max.code 2 (some .int) ∈ zgt := ⟨zgt_in (zt2 (List.mem_of_getElem? (i := 39) rfl)) rfl, zgt_in (zt2 (List.mem_of_getElem? (i := 40) rfl)) rfl, niRJ9, zgt_in (zt2 (List.mem_of_getElem? (i := 41) rfl)) rfl⟩
set_option maxRecDepth 100000 in
theorem lmJ1_38 : Cond.methodLink RJ1 38 Lib.Math.min.name ∈ zgt ∧ Cond.static Lib.Math.min.name ∈ zgt ∧ Cond.initialized "java/lang/Math" ∈ zgt ∧ Cond.code Lib.Math.min.name Lib.Math.min.code 2 (some .int) ∈ zgt := ⟨zgt_in (zt2 (List.mem_of_getElem? (i := 42) rfl)) rfl, zgt_in (zt2 (List.mem_of_getElem? (i := 43) rfl)) rfl, niRJ9, zgt_in (zt2 (List.mem_of_getElem? (i := 44) rfl)) rfl⟩
/-! the String constant "pltwda" (place 1000, its bytes 1001) -/
section
variable {m : ZMD} {d : Nat} {Q : Option Value → ZMem → Prop} {pc pc' : Nat} {L : ZLc} {st : List Value} {M : ZMem}
theorem zv_ldcK (hd : decode m.2.1 pc = .ok (.ldc 41, 2)) (hp : pc + 2 = pc') (ho : m.1.cls = RX1) (k : ZV m d Q pc' L (.ref 1000 :: st) M) : ZV m d Q pc L st M := by
  subst hp
  intro G cI cQ ad A p l e s mi args below meth c H locs ls S hr hlk hK hW hS hL
  have hZ := hK.2.2.1
  rw [← ho] at hZ
  exact va_ldcS S.1 S.2.1 S.2.2.2.1 hZ hd (k G cI cQ ad A p l e s mi args below meth c H locs ls S hr hlk hK hW hS hL)
theorem zv_strV (hd : decode m.2.1 pc = .ok (.getfield 9, 3)) (hp : pc + 3 = pc') (ho : m.1.cls = "java/lang/String") (k : ZV m d Q pc' L (.ref 1001 :: st) M) : ZV m d Q pc L (.ref 1000 :: st) M := by
  subst hp
  intro G cI cQ ad A p l e s mi args below meth c H locs ls S hr hlk hK hW hS hL
  have hf := S.2.2.2.2 _ flJ0_9
  rw [← ho] at hf
  refine vk_getf S.1 S.2.1 (hK.2.2.2.1.1 0 (by decide)).2.2.1 hS S.2.2.2.1 (S.2.2.2.2 _ ?_) (fun _ h => h) hd (k G cI cQ ad A p l e s mi args below meth c H locs ls S hr hlk hK hW hS hL)
  rw [ho]
  exact flJ0_9
theorem zv_strC (hd : decode m.2.1 pc = .ok (.getfield 15, 3)) (hp : pc + 3 = pc') (ho : m.1.cls = "java/lang/String") (k : ZV m d Q pc' L (.int 0 :: st) M) : ZV m d Q pc L (.ref 1000 :: st) M := by
  subst hp
  intro G cI cQ ad A p l e s mi args below meth c H locs ls S hr hlk hK hW hS hL
  refine vk_getf S.1 S.2.1 (hK.2.2.2.1.1 0 (by decide)).2.1 hS S.2.2.2.1 (S.2.2.2.2 _ ?_) (fun _ h => h) hd (k G cI cQ ad A p l e s mi args below meth c H locs ls S hr hlk hK hW hS hL)
  rw [ho]
  exact flJ0_15
theorem zv_strZ (hd : decode m.2.1 pc = .ok (.getstatic 38, 3)) (hp : pc + 3 = pc') (ho : m.1.cls = "java/lang/String") (k : ZV m d Q pc' L (.int 1 :: st) M) : ZV m d Q pc L st M := by
  subst hp
  intro G cI cQ ad A p l e s mi args below meth c H locs ls S hr hlk hK hW hS hL
  refine va_gets S.1 S.2.1 hK.2.2.2.2 hS S.2.2.2.1 (S.2.2.2.2 _ ?_) (fun _ h => h) hd (k G cI cQ ad A p l e s mi args below meth c H locs ls S hr hlk hK hW hS hL)
  rw [ho]
  exact flJ0_38
theorem zv_strL (hd : decode m.2.1 pc = .ok (.arraylength, 1)) (hp : pc + 1 = pc') (k : ZV m d Q pc' L (.int (nI 6) :: st) M) : ZV m d Q pc L (.ref 1001 :: st) M := by
  subst hp
  intro G cI cQ ad A p l e s mi args below meth c H locs ls S hr hlk hK hW hS hL
  exact va_tlen S.1 S.2.1 (hK.2.2.2.1.1 0 (by decide)).2.2.2 hS rfl hd (k G cI cQ ad A p l e s mi args below meth c H locs ls S hr hlk hK hW hS hL)
def chI (i : Nat) : Int32 := ([112, 108, 116, 119, 100, 97] : List Int32).getD i 0
theorem zv_strB {i : Nat} (hd : decode m.2.1 pc = .ok (.baload, 1)) (hp : pc + 1 = pc') (hi : i < 6) (k : ZV m d Q pc' L (.int (chI i) :: st) M) : ZV m d Q pc L (.int (nI i) :: .ref 1001 :: st) M := by
  subst hp
  intro G cI cQ ad A p l e s mi args below meth c H locs ls S hr hlk hK hW hS hL
  exact va_tb S.1 S.2.1 (hK.2.2.2.1.1 0 (by decide)).2.2.2 hS (vp_in_nI hi (by decide)) (v := .int (chI i)) (by rw [nI_clamp (by omega)]; rfl) hd (k G cI cQ ad A p l e s mi args below meth c H locs ls S hr hlk hK hW hS hL)
theorem zv_callK {idx n : Nat} {m2 : ZMD} {as st0 : List Value} {Q2 : Option Value → ZMem → Prop} (hd : decode m.2.1 pc = .ok (.invokevirtual idx, 3)) (hp : pc + 3 = pc') (lk : zlkV m.1.cls idx m2 n) (hc : m2.1.cls = "java/lang/String") (hn : as.length = n) (hst : as.reverse ++ .ref 1000 :: st = st0) (hcat : (st.map fun v => v.category).sum ≤ 8) (hx : ZEx m2 d (.ref 1000 :: as) M Q2)
    (k : ∀ (v : Option Value) (M' : ZMem), Q2 v M' → ZV m (d + 1) Q pc' L (v.toList ++ st) M') : ZV m (d + 1) Q pc L st0 M := by
  subst hp; subst hst
  intro G cI cQ ad A p l e s mi args below meth c H locs ls S hr hlk hK hW hS hL
  obtain ⟨⟨h1, h2, h3, h4, h5⟩, h6, h7⟩ := lk
  have hbl : FrameBlind (va_Pc ((Value.ref 1000 :: as).map (zc ad)) (fun U => ZK G cI cQ ad A U U.heap ∧ ZW G cI cQ ad A M U.heap)) := fun a U g mk q => ⟨q.1, q.2.1.blind, q.2.2⟩
  have hrecv : ∃ cell : Cell, H[ad 1000]? = some cell ∧ cell.vm.isStatics = false ∧ s.vm.findClass m2.1.cls = some cell.cls := by
    rw [hc]
    exact vk_recv hK.2.2.2.1 (i := 0) (by decide) hS
  have hpre : PreV s H m2.1.cls (ad 1000) (va_Pc ((Value.ref 1000 :: as).map (zc ad)) (fun U => ZK G cI cQ ad A U U.heap ∧ ZW G cI cQ ad A M U.heap)) (as.map (zc ad)) := ⟨hbl, hrecv, fun U hU hWm => ⟨rfl, hK.go hS hU hWm, by rw [hU]; exact hW⟩⟩
  have hroom : (zrm d).frames + 1 ≤ (zrm (d + 1)).frames ∧ 8 + (m2.2.2.1 + 11) + (zrm d).locals ≤ (zrm (d + 1)).locals := ⟨Nat.le_refl _, by show 8 + (m2.2.2.1 + 11) + 40 * d ≤ 40 * (d + 1); omega⟩
  have hcats : ((st.map (zc ad)).map fun v => v.category).sum ≤ 8 := by rw [zc_cats]; exact hcat
  have hstk : (as.reverse ++ Value.ref 1000 :: st).map (zc ad) = (as.map (zc ad)).reverse ++ Value.ref (ad 1000) :: st.map (zc ad) := by simp [zc]
  rw [hstk]
  have fin : ∀ (v : Option Value) (M' : ZMem) (H1 : Heap) (locs1 : List Loc), Q2 v M' → ZW G cI cQ ad A M' H1 → va_S A s.heap H1 locs1 → W p l e (zrm (d + 1)) s mi args below meth c H1 locs1 0 0 (MQ below (ZQ G cI cQ ad A Q) args s 0 0 A) (F0 mi (pc + 3) ls ((v.map (zc ad)).toList ++ st.map (zc ad))) := by
    intro v M' H1 locs1 hq hw1 hS1
    rw [zc_toList]
    exact k v M' hq G cI cQ ad A p l e s mi args below meth c H1 locs1 ls S hr hlk hK hw1 hS1 hL
  rcases h1 with h1 | ⟨host, h1⟩
  · exact z_call (va_runV (As := as.map (zc ad)) (rest := st.map (zc ad)) (n := n) S (hx l G cI cQ ad A) ⟨callB_of n S.2.2.2.2 (zgoodin h3) rfl rfl rfl (S.2.2.2.2 _ h2) (S.2.2.2.2 _ h1) h4 hroom, S.2.2.2.2 _ h6, S.2.2.2.2 _ h7⟩ hpre rfl (by rw [List.length_map]; exact hn) hL.1 rfl (lv_room hcats) hd ⟨Nat.le_refl _, Nat.le_refl _⟩) hS fin
  · exact z_call (va_runVN (As := as.map (zc ad)) (rest := st.map (zc ad)) (n := n) S (hx l G cI cQ ad A) ⟨va_cnB n S.2.2.2.2 (zgoodin h3) rfl rfl rfl (hK.2.1 _ h1) (S.2.2.2.2 _ h2) h4 hroom, S.2.2.2.2 _ h6, S.2.2.2.2 _ h7⟩ hpre rfl (by rw [List.length_map]; exact hn) hL.1 rfl (lv_room hcats) hd ⟨Nat.le_refl _, Nat.le_refl _⟩) hS fin
theorem zv_cK0 {idx : Nat} {m2 : ZMD} {r : Int32} (hd : decode m.2.1 pc = .ok (.invokevirtual idx, 3)) (hp : pc + 3 = pc') (lk : zlkV m.1.cls idx m2 0) (hc : m2.1.cls = "java/lang/String") (hcat : (st.map fun v => v.category).sum ≤ 8) (hx : ZPi m2 d [.ref 1000] M r) (k : ZV m (d + 1) Q pc' L (.int r :: st) M) : ZV m (d + 1) Q pc L (.ref 1000 :: st) M := zv_callK (as := []) hd hp lk hc rfl rfl hcat hx (fun _ _ h => by obtain ⟨rfl, rfl⟩ := h; exact k)
theorem zv_cK1 {idx : Nat} {m2 : ZMD} {x0 : Value} {r : Int32} (hd : decode m.2.1 pc = .ok (.invokevirtual idx, 3)) (hp : pc + 3 = pc') (lk : zlkV m.1.cls idx m2 1) (hc : m2.1.cls = "java/lang/String") (hcat : (st.map fun v => v.category).sum ≤ 8) (hx : ZPi m2 d [.ref 1000, x0] M r) (k : ZV m (d + 1) Q pc' L (.int r :: st) M) : ZV m (d + 1) Q pc L (x0 :: .ref 1000 :: st) M := zv_callK (as := [x0]) hd hp lk hc rfl rfl hcat hx (fun _ _ h => by obtain ⟨rfl, rfl⟩ := h; exact k)
theorem zv_cK2 {idx : Nat} {m2 : ZMD} {x0 x1 : Value} {r : Int32} (hd : decode m.2.1 pc = .ok (.invokevirtual idx, 3)) (hp : pc + 3 = pc') (lk : zlkV m.1.cls idx m2 2) (hc : m2.1.cls = "java/lang/String") (hcat : (st.map fun v => v.category).sum ≤ 8) (hx : ZPi m2 d [.ref 1000, x0, x1] M r) (k : ZV m (d + 1) Q pc' L (.int r :: st) M) : ZV m (d + 1) Q pc L (x1 :: x0 :: .ref 1000 :: st) M := zv_callK (as := [x0, x1]) hd hp lk hc rfl rfl hcat hx (fun _ _ h => by obtain ⟨rfl, rfl⟩ := h; exact k)
end
def kd (c : Nat) : Option Nat := if c = 112 then some 0 else if c = 108 then some 1 else if c = 116 then some 2 else if c = 119 then some 3 else if c = 100 then some 4 else if c = 97 then some 5 else none
def opt1 : Option Nat → Int32
  | none => -1
  | some k => nI k
theorem kd_hit : ∀ c, c < 256 → ∀ i, i < 6 → chI i = (nI c).toInt8.toInt32 → opt1 (kd c) = nI i := by decide +kernel
theorem kd_out : ∀ c, c < 256 → (∀ i, i < 6 → ¬ chI i = (nI c).toInt8.toInt32) → opt1 (kd c) = -1 := by decide +kernel
theorem kd_le {c k : Nat} (h : kd c = some k) : k ≤ 5 := by
  unfold kd at h
  repeat' split at h
  all_goals first | (cases h; omega) | cases h
theorem i2c_in : ∀ c, c < 256 → ((nI c).toUInt32 % 65536).toInt32 = nI c := by decide +kernel
section
variable {d : Nat} {M : ZMem}
theorem j0_isLatin1 : ZPi mdJ0_isLatin1_aae02 d [.ref 1000] M (zb true) := by
  refine zex_intro (L := [some (.ref 1000)]) (by decide) (Nat.le_of_ble_eq_true rfl) rfl ?_
  refine zv_strZ (pc' := 3) dJ0_isLatin1_aae02_0 rfl rfl ?_
  refine zv_if_eq (pc' := 6) (tgt := 17) dJ0_isLatin1_aae02_3 rfl rfl (fun hcc => absurd hcc (by decide)) (fun _ => ?_)
  refine zv_aload_n (pc' := 7) dJ0_isLatin1_aae02_6 rfl rfl ?_
  refine zv_strC (pc' := 10) dJ0_isLatin1_aae02_7 rfl rfl ?_
  refine zv_if_ne (pc' := 13) (tgt := 17) dJ0_isLatin1_aae02_10 rfl rfl (fun hcc => absurd (rfl) hcc) (fun _ => ?_)
  refine zv_iconst (v := nI 1) (pc' := 14) dJ0_isLatin1_aae02_13 rfl (by decide) ?_
  refine zv_goto (pc' := 18) dJ0_isLatin1_aae02_14 rfl ?_
  refine zv_ireturn dJ0_isLatin1_aae02_18 rfl (by first | rfl | exact zb_nar _) ?_
  exact zpi_t rfl
theorem j0_coder : ZPi mdJ0_coder_7d493 d [.ref 1000] M 0 := by
  refine zex_intro (L := [some (.ref 1000)]) (by decide) (Nat.le_of_ble_eq_true rfl) rfl ?_
  refine zv_strZ (pc' := 3) dJ0_coder_7d493_0 rfl rfl ?_
  refine zv_if_eq (pc' := 6) (tgt := 13) dJ0_coder_7d493_3 rfl rfl (fun hcc => absurd hcc (by decide)) (fun _ => ?_)
  refine zv_aload_n (pc' := 7) dJ0_coder_7d493_6 rfl rfl ?_
  refine zv_strC (pc' := 10) dJ0_coder_7d493_7 rfl rfl ?_
  refine zv_goto (pc' := 14) dJ0_coder_7d493_10 rfl ?_
  refine zv_ireturn dJ0_coder_7d493_14 rfl (by first | rfl | exact zb_nar _) ?_
  exact ⟨rfl, rfl⟩
theorem j0_length : ZPi mdJ0_length_8abf5 (d + 1) [.ref 1000] M (nI 6) := by
  refine zex_intro (L := [some (.ref 1000)]) (by decide) (Nat.le_of_ble_eq_true rfl) rfl ?_
  refine zv_aload_n (pc' := 1) dJ0_length_8abf5_0 rfl rfl ?_
  refine zv_strV (pc' := 4) dJ0_length_8abf5_1 rfl rfl ?_
  refine zv_strL (pc' := 5) dJ0_length_8abf5_4 rfl ?_
  refine zv_aload_n (pc' := 6) dJ0_length_8abf5_5 rfl rfl ?_
  refine zv_cK0 (pc' := 9) dJ0_length_8abf5_6 rfl lkJ0_335 rfl (Nat.le_of_ble_eq_true rfl) j0_coder ?_
  refine zv_ishr (pc' := 10) dJ0_length_8abf5_9 rfl ?_
  refine zv_top (show nI 6 >>> ((0 : Int32) &&& 31) = nI 6 by decide) ?_
  refine zv_iret dJ0_length_8abf5_10 rfl ?_
  exact ⟨rfl, rfl⟩
theorem j1_canEncode {c : Nat} (hc : c < 256) : ZPi mdJ1_canEncode_9a6ad d [.int (nI c)] M (zb true) := by
  refine zex_intro (L := [some (.int (nI c))]) (by decide) (Nat.le_of_ble_eq_true rfl) rfl ?_
  refine zv_iload_n (pc' := 1) dJ1_canEncode_9a6ad_0 rfl rfl ?_
  refine zv_if_lt (pc' := 4) (tgt := 15) dJ1_canEncode_9a6ad_1 rfl rfl (fun hcc => absurd hcc (nI_pos (by omega))) (fun _ => ?_)
  refine zv_iload_n (pc' := 5) dJ1_canEncode_9a6ad_4 rfl rfl ?_
  refine zv_sipush (v := nI 255) (pc' := 8) dJ1_canEncode_9a6ad_5 rfl (by decide) ?_
  refine zv_icmp_gt (pc' := 11) (tgt := 15) dJ1_canEncode_9a6ad_8 rfl rfl (fun hcc => absurd hcc (nI_nlt (by omega) (by omega))) (fun _ => ?_)
  refine zv_iconst (v := nI 1) (pc' := 12) dJ1_canEncode_9a6ad_11 rfl (by decide) ?_
  refine zv_goto (pc' := 16) dJ1_canEncode_9a6ad_12 rfl ?_
  refine zv_ireturn dJ1_canEncode_9a6ad_16 rfl (by first | rfl | exact zb_nar _) ?_
  exact zpi_t rfl
theorem j1_indexOfChar {c : Nat} (hc : c < 256) : ZPi mdJ1_indexOfChar_4cfef d [.ref 1001, .int (nI c), .int (nI 0), .int (nI 6)] M (opt1 (kd c)) := by
  have lp : ∀ j i, i + j = 6 → (∀ k, k < i → ¬ chI k = (nI c).toInt8.toInt32) → ZV mdJ1_indexOfChar_4cfef d (fun v M' => v = some (.int (opt1 (kd c))) ∧ M' = M) 7 [some (.ref 1001), some (.int (nI c)), some (.int (nI 0)), some (.int (nI 6)), some (.int (nI c).toInt8.toInt32), some (.int (nI i))] [] M := by
    intro j
    induction j with
    | zero =>
      intro i e h
      have e : i = 6 := by omega
      subst e
      refine zv_iload (pc' := 9) dJ1_indexOfChar_4cfef_7 rfl rfl ?_
      refine zv_iload_n (pc' := 10) dJ1_indexOfChar_4cfef_9 rfl rfl ?_
      refine zv_icmp_ge (pc' := 13) (tgt := 31) dJ1_indexOfChar_4cfef_10 rfl rfl (fun _ => ?_) (fun hcc => absurd (Int32.le_refl _) hcc)
      refine zv_iconst (v := (-1 : Int32)) (pc' := 32) dJ1_indexOfChar_4cfef_31 rfl (by decide) ?_
      refine zv_iret dJ1_indexOfChar_4cfef_32 rfl ?_
      exact ⟨by rw [kd_out c hc h], rfl⟩
    | succ j ih =>
      intro i e h
      refine zv_iload (pc' := 9) dJ1_indexOfChar_4cfef_7 rfl rfl ?_
      refine zv_iload_n (pc' := 10) dJ1_indexOfChar_4cfef_9 rfl rfl ?_
      refine zv_icmp_ge (pc' := 13) (tgt := 31) dJ1_indexOfChar_4cfef_10 rfl rfl (fun hcc => absurd hcc (nI_ge (by omega) (by omega))) (fun _ => ?_)
      refine zv_aload_n (pc' := 14) dJ1_indexOfChar_4cfef_13 rfl rfl ?_
      refine zv_iload (pc' := 16) dJ1_indexOfChar_4cfef_14 rfl rfl ?_
      refine zv_strB (pc' := 17) dJ1_indexOfChar_4cfef_16 rfl (by omega) ?_
      refine zv_iload (pc' := 19) dJ1_indexOfChar_4cfef_17 rfl rfl ?_
      refine zv_icmp_ne (pc' := 22) (tgt := 25) dJ1_indexOfChar_4cfef_19 rfl rfl ?_ ?_
      · intro hne
        refine zv_iinc (w := nI 1) (pc' := 28) dJ1_indexOfChar_4cfef_25 rfl rfl (by decide) (by decide) ?_
        refine zv_goto (pc' := 7) dJ1_indexOfChar_4cfef_28 rfl ?_
        rw [nI_add]
        refine ih (i + 1) (by omega) (fun k hk => ?_)
        by_cases z : k = i
        · rw [z]; exact hne
        · exact h k (by omega)
      · intro heq
        refine zv_iload (pc' := 24) dJ1_indexOfChar_4cfef_22 rfl rfl ?_
        refine zv_iret dJ1_indexOfChar_4cfef_24 rfl ?_
        exact ⟨by rw [kd_hit c hc i (by omega) heq], rfl⟩
  refine zex_intro (L := [some (.ref 1001), some (.int (nI c)), some (.int (nI 0)), some (.int (nI 6)), none, none]) (by decide) (Nat.le_of_ble_eq_true rfl) rfl ?_
  refine zv_iload_n (pc' := 1) dJ1_indexOfChar_4cfef_0 rfl rfl ?_
  refine zv_i2b (pc' := 2) dJ1_indexOfChar_4cfef_1 rfl ?_
  refine zv_istore (pc' := 4) dJ1_indexOfChar_4cfef_2 rfl (by decide) ?_
  refine zv_iload_n (pc' := 5) dJ1_indexOfChar_4cfef_4 rfl rfl ?_
  refine zv_istore (pc' := 7) dJ1_indexOfChar_4cfef_5 rfl (by decide) ?_
  exact lp 6 0 rfl (fun k hk => by omega)
theorem j1_indexOf {c : Nat} (hc : c < 256) : ZPi mdJ1_indexOf_4cfef (d + 1) [.ref 1001, .int (nI c), .int (nI 0), .int (nI 6)] M (opt1 (kd c)) := by
  refine zex_intro (L := [some (.ref 1001), some (.int (nI c)), some (.int (nI 0)), some (.int (nI 6))]) (by decide) (Nat.le_of_ble_eq_true rfl) rfl ?_
  refine zv_iload_n (pc' := 1) dJ1_indexOf_4cfef_0 rfl rfl ?_
  refine zv_cS1_pi (pc' := 4) dJ1_indexOf_4cfef_1 rfl lkJ1_88 (Nat.le_of_ble_eq_true rfl) (j1_canEncode hc) ?_
  refine zv_if_ne (pc' := 7) (tgt := 9) dJ1_indexOf_4cfef_4 rfl rfl (fun _ => ?_) (fun hcc => absurd hcc (by decide))
  refine zv_iload_n (pc' := 10) dJ1_indexOf_4cfef_9 rfl rfl ?_
  refine zv_iconst (v := nI 0) (pc' := 11) dJ1_indexOf_4cfef_10 rfl (by decide) ?_
  refine zv_mmax (pc' := 14) dJ1_indexOf_4cfef_11 rfl lmJ1_92 (Nat.le_of_ble_eq_true rfl) ?_
  refine zv_top (show (if nI 0 < nI 0 then nI 0 else nI 0) = nI 0 by decide) ?_
  refine zv_istore_n (pc' := 15) dJ1_indexOf_4cfef_14 rfl (by decide) ?_
  refine zv_iload_n (pc' := 16) dJ1_indexOf_4cfef_15 rfl rfl ?_
  refine zv_aload_n (pc' := 17) dJ1_indexOf_4cfef_16 rfl rfl ?_
  refine zv_strL (pc' := 18) dJ1_indexOf_4cfef_17 rfl ?_
  refine zv_mmin (pc' := 21) dJ1_indexOf_4cfef_18 rfl lmJ1_38 (Nat.le_of_ble_eq_true rfl) ?_
  refine zv_top (show (if nI 6 < nI 6 then nI 6 else nI 6) = nI 6 by decide) ?_
  refine zv_istore_n (pc' := 22) dJ1_indexOf_4cfef_21 rfl (by decide) ?_
  refine zv_iload_n (pc' := 23) dJ1_indexOf_4cfef_22 rfl rfl ?_
  refine zv_iload_n (pc' := 24) dJ1_indexOf_4cfef_23 rfl rfl ?_
  refine zv_icmp_lt (pc' := 27) (tgt := 29) dJ1_indexOf_4cfef_24 rfl rfl (fun _ => ?_) (fun hcc => absurd (by decide) hcc)
  refine zv_aload_n (pc' := 30) dJ1_indexOf_4cfef_29 rfl rfl ?_
  refine zv_iload_n (pc' := 31) dJ1_indexOf_4cfef_30 rfl rfl ?_
  refine zv_iload_n (pc' := 32) dJ1_indexOf_4cfef_31 rfl rfl ?_
  refine zv_iload_n (pc' := 33) dJ1_indexOf_4cfef_32 rfl rfl ?_
  refine zv_cS4_pi (pc' := 36) dJ1_indexOf_4cfef_33 rfl lkJ1_95 (Nat.le_of_ble_eq_true rfl) (j1_indexOfChar hc) ?_
  refine zv_iret dJ1_indexOf_4cfef_36 rfl ?_
  exact ⟨rfl, rfl⟩
theorem j0_indexOf2 {c : Nat} (hc : c < 256) : ZPi mdJ0_indexOf_7cf53 (d + 2) [.ref 1000, .int (nI c), .int (nI 0)] M (opt1 (kd c)) := by
  refine zex_intro (L := [some (.ref 1000), some (.int (nI c)), some (.int (nI 0))]) (by decide) (Nat.le_of_ble_eq_true rfl) rfl ?_
  refine zv_aload_n (pc' := 1) dJ0_indexOf_7cf53_0 rfl rfl ?_
  refine zv_cK0 (pc' := 4) dJ0_indexOf_7cf53_1 rfl lkJ0_492 rfl (Nat.le_of_ble_eq_true rfl) j0_isLatin1 ?_
  refine zv_if_eq (pc' := 7) (tgt := 23) dJ0_indexOf_7cf53_4 rfl rfl (fun hcc => absurd hcc (by decide)) (fun _ => ?_)
  refine zv_aload_n (pc' := 8) dJ0_indexOf_7cf53_7 rfl rfl ?_
  refine zv_strV (pc' := 11) dJ0_indexOf_7cf53_8 rfl rfl ?_
  refine zv_iload_n (pc' := 12) dJ0_indexOf_7cf53_11 rfl rfl ?_
  refine zv_iload_n (pc' := 13) dJ0_indexOf_7cf53_12 rfl rfl ?_
  refine zv_aload_n (pc' := 14) dJ0_indexOf_7cf53_13 rfl rfl ?_
  refine zv_cK0 (pc' := 17) dJ0_indexOf_7cf53_14 rfl lkJ0_505 rfl (Nat.le_of_ble_eq_true rfl) j0_length ?_
  refine zv_cS4_pi (pc' := 20) dJ0_indexOf_7cf53_17 rfl lkJ0_637 (Nat.le_of_ble_eq_true rfl) (j1_indexOf hc) ?_
  refine zv_goto (pc' := 36) dJ0_indexOf_7cf53_20 rfl ?_
  refine zv_iret dJ0_indexOf_7cf53_36 rfl ?_
  exact ⟨rfl, rfl⟩
theorem j0_indexOf {c : Nat} (hc : c < 256) : ZPi mdJ0_indexOf_0f7a4 (d + 3) [.ref 1000, .int (nI c)] M (opt1 (kd c)) := by
  refine zex_intro (L := [some (.ref 1000), some (.int (nI c))]) (by decide) (Nat.le_of_ble_eq_true rfl) rfl ?_
  refine zv_aload_n (pc' := 1) dJ0_indexOf_0f7a4_0 rfl rfl ?_
  refine zv_iload_n (pc' := 2) dJ0_indexOf_0f7a4_1 rfl rfl ?_
  refine zv_iconst (v := nI 0) (pc' := 3) dJ0_indexOf_0f7a4_2 rfl (by decide) ?_
  refine zv_cK2 (pc' := 6) dJ0_indexOf_0f7a4_3 rfl lkJ0_633 rfl (Nat.le_of_ble_eq_true rfl) (j0_indexOf2 hc) ?_
  refine zv_iret dJ0_indexOf_0f7a4_6 rfl ?_
  exact ⟨rfl, rfl⟩
end
