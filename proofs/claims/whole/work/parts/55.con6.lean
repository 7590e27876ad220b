/-! the constructor of the class -/
theorem dfX1 : ∀ j, j < 2 → defaultValue (tyX1 j) = vp_V frX1 j := by
  intro j hj
  rcases (show j = 0 ∨ j = 1 by omega) with rfl | rfl <;> rfl
theorem dfX2 : ∀ j, j < 6 → defaultValue (tyX2 j) = vp_V frX2 j := by
  intro j hj
  rcases (show j = 0 ∨ j = 1 ∨ j = 2 ∨ j = 3 ∨ j = 4 ∨ j = 5 by omega) with rfl | rfl | rfl | rfl | rfl | rfl <;> rfl
theorem dfX3 : ∀ j, j < 4 → defaultValue (tyX3 j) = vp_V frX3 j := by
  intro j hj
  rcases (show j = 0 ∨ j = 1 ∨ j = 2 ∨ j = 3 by omega) with rfl | rfl | rfl | rfl <;> rfl
theorem dfX4 : ∀ j, j < 3 → defaultValue (tyX4 j) = vp_V frX4 j := by
  intro j hj
  rcases (show j = 0 ∨ j = 1 ∨ j = 2 by omega) with rfl | rfl | rfl <;> rfl
theorem dfX5 : ∀ j, j < 2 → defaultValue (tyX5 j) = vp_V frX5 j := by
  intro j hj
  rcases (show j = 0 ∨ j = 1 by omega) with rfl | rfl <;> rfl
def wXo (cI cQ : ClassId) (h0 : Nat) (a1 : Nat → Nat) (a2 : Nat → Nat) (a3 : Nat → Nat) (a4 : Nat → Nat) (a5 : Nat → Nat) (q62 : Nat) (q70 : Nat) (a6 : Nat → Nat) (a7 : Nat → Nat) (a8 : Nat → Nat) (a9 : Nat → Nat) (b9 : Nat → Nat → Nat) (q121 : Nat) (q128 : Nat) : va_W := [(h0, .inr (6, [.ref (a1 0), .ref (a2 0), .ref (a3 0), .ref (a4 0), .int 0, .ref (a5 0), .ref q62, .int 0, .ref q70, .ref (a6 0), .ref (a7 0), .ref (a8 0), .ref (a9 0), .ref q121, .ref q128]))] ++ wCy cI a1 ++ wCy cI a2 ++ wCy cI a3 ++ wCy cI a4 ++ wLe cI a5 ++ [zA cI q62 16] ++ [zA cI q70 7] ++ wTi cI a6 ++ wSe cI a7 ++ wPa cI a8 ++ wOd cI cQ a9 b9 ++ [zA cI q121 4] ++ [zA cI q128 4]
set_option maxHeartbeats 4000000 in
set_option maxRecDepth 100000 in
theorem conX6 : ZCon mdX6_init 6 frX6 89 1012 3 (fun cI cQ h w => ∃ (a1 : Nat → Nat) (a2 : Nat → Nat) (a3 : Nat → Nat) (a4 : Nat → Nat) (a5 : Nat → Nat) (q62 : Nat) (q70 : Nat) (a6 : Nat → Nat) (a7 : Nat → Nat) (a8 : Nat → Nat) (a9 : Nat → Nat) (b9 : Nat → Nat → Nat) (q121 : Nat) (q128 : Nat), w = wXo cI cQ h a1 a2 a3 a4 a5 q62 q70 a6 a7 a8 a9 b9 q121 q128) := by
  intro l G cI cQ h0 sz
  refine Met.ofW (cc := cX6_init) (maxL := 1) (ret := none) (by decide) rfl ?_
  intro p e s m args below meth c s₁ B hml hv
  obtain ⟨rfl, hsz, hP, hK, hAO, hNw⟩ := hv
  have hx := B.exec
  have hb := B.bytes
  have hr := B.returns
  have hts0 := atoms_spec (ws := Cond.code yX6_init cX6_init 1 none :: zgt) B.pre
  have hts : ∀ w ∈ zgt, w.before [Value.ref h0].toArray s = true := fun w hw => hts0 w (List.mem_cons_of_mem _ hw)
  have hown : s.vm.findClass RX6 = some m.cls := findClass_of_methodNamed B.named
  have hlocks := B.notSynchronized
  have hin : meth.name = "<init>" := (name_of_methodNamed B.named B.method).1
  subst hsz
  have hD : va_D (va_A [(h0, .inr (6, frX6))] s.heap.size) [(h0, .inr (6, frX6))] := va_D.one (Or.inl ⟨0, _, rfl⟩)
  generalize hAe : va_A [(h0, .inr (6, frX6))] s.heap.size = A at hD ⊢
  have hA : ∀ q : Nat, s.heap.size ≤ q → A q := fun q h => by rw [← hAe]; exact Or.inr h
  have hS : va_S A s.heap s.heap [] := va_S.rf
  have hl := lv_entry ([.ref h0]) (n := 1) (Nat.le_of_ble_eq_true rfl)
  rw [lg_entry_eq]
  generalize (lg_sl ([.ref h0]) ++ List.replicate (1 - (lg_sl ([.ref h0])).length) Slot.unset).toArray = ls at hl ⊢
  have hl : lv_has ls 1 [(0, .ref h0)] := hl
  refine lv_aload_n hx hb dX6_init_0 rfl (lv_at hl 0 rfl) ?_
  refine W.objInit hx hb hown (hts _ oiX6) (hts _ oiI) (hts _ oiC) rfl (by rw [hml]; exact hl.1) rfl dX6_init_1 (Nat.le_of_ble_eq_true rfl) (Nat.le_of_ble_eq_true rfl) ?_
  refine W.eq (g2 := F0 m 4 ls []) rfl ?_
  refine lv_aload_n hx hb dX6_init_4 rfl (lv_at hl 0 rfl) ?_
  refine va_new (ci := 0) (fs := frX0) (C := RX0) (T := TX0) (N := 7) hx hb hts uwX0 tyX0 tyX0_ok hown (hts _ clX6_7) (hts _ inX0) (hts _ niRX0) hK hP hD hS hA rfl dfX0 (Nat.le_of_ble_eq_true rfl) (Nat.le_of_ble_eq_true rfl) dX6_init_5 (fun q5 H hP hD hS => ?_)
  refine lv_dup hx hb dX6_init_8 rfl ?_
  refine zc_init (rest := [.ref q5, .ref h0]) ⟨hx, hb, hml, hown, hts⟩ conX0 liX6_9 rfl rfl knX0_init hK hAO hNw hP hD hS hA hl.1 (Nat.le_of_ble_eq_true rfl) ⟨(Nat.le_of_ble_eq_true rfl), (Nat.le_of_ble_eq_true rfl)⟩ ⟨(Nat.le_of_ble_eq_true rfl), (Nat.le_of_ble_eq_true rfl)⟩ dX6_init_9 (fun w1 H locs hB hP hD hS => ?_)
  obtain ⟨a1, rfl, rfl⟩ := hB
  refine va_putF (D := G) (ci := 6) (v := .ref (a1 0)) (ty := .object "CousinsByAgreement$County") (C := RX6) (T := TX6) (N := 15) hx hb hts uwX6 tyX6 tyX6_ok nmX6 hown hK hP hD hS 0 rfl rfl 0 (by decide) (hts _ fkX6_10) (fun _ h9 => h9) rfl hin rfl (by decide +kernel) rfl rfl (Nat.le_of_ble_eq_true rfl) dX6_init_12 (fun H locs hP hD hS => ?_)
  have hP : va_P G zcls ([(h0, .inr (6, [.ref (a1 0), .null, .null, .null, .int 0, .null, .null, .int 0, .null, .null, .null, .null, .null, .null, .null]))] ++ wCy cI a1) H := hP
  have hD : va_D A ([(h0, .inr (6, [.ref (a1 0), .null, .null, .null, .int 0, .null, .null, .int 0, .null, .null, .null, .null, .null, .null, .null]))] ++ wCy cI a1) := hD
  refine lv_aload_n hx hb dX6_init_15 rfl (lv_at hl 0 rfl) ?_
  refine va_new (ci := 0) (fs := frX0) (C := RX0) (T := TX0) (N := 7) hx hb hts uwX0 tyX0 tyX0_ok hown (hts _ clX6_7) (hts _ inX0) (hts _ niRX0) hK hP hD hS hA rfl dfX0 (Nat.le_of_ble_eq_true rfl) (Nat.le_of_ble_eq_true rfl) dX6_init_16 (fun q16 H hP hD hS => ?_)
  refine lv_dup hx hb dX6_init_19 rfl ?_
  refine zc_init (rest := [.ref q16, .ref h0]) ⟨hx, hb, hml, hown, hts⟩ conX0 liX6_9 rfl rfl knX0_init hK hAO hNw hP hD hS hA hl.1 (Nat.le_of_ble_eq_true rfl) ⟨(Nat.le_of_ble_eq_true rfl), (Nat.le_of_ble_eq_true rfl)⟩ ⟨(Nat.le_of_ble_eq_true rfl), (Nat.le_of_ble_eq_true rfl)⟩ dX6_init_20 (fun w1 H locs hB hP hD hS => ?_)
  obtain ⟨a2, rfl, rfl⟩ := hB
  refine va_putF (D := G) (ci := 6) (v := .ref (a2 0)) (ty := .object "CousinsByAgreement$County") (C := RX6) (T := TX6) (N := 15) hx hb hts uwX6 tyX6 tyX6_ok nmX6 hown hK hP hD hS 0 rfl rfl 1 (by decide) (hts _ fkX6_16) (fun _ h9 => h9) rfl hin rfl (by decide +kernel) rfl rfl (Nat.le_of_ble_eq_true rfl) dX6_init_23 (fun H locs hP hD hS => ?_)
  have hP : va_P G zcls ([(h0, .inr (6, [.ref (a1 0), .ref (a2 0), .null, .null, .int 0, .null, .null, .int 0, .null, .null, .null, .null, .null, .null, .null]))] ++ wCy cI a1 ++ wCy cI a2) H := hP
  have hD : va_D A ([(h0, .inr (6, [.ref (a1 0), .ref (a2 0), .null, .null, .int 0, .null, .null, .int 0, .null, .null, .null, .null, .null, .null, .null]))] ++ wCy cI a1 ++ wCy cI a2) := hD
  refine lv_aload_n hx hb dX6_init_26 rfl (lv_at hl 0 rfl) ?_
  refine va_new (ci := 0) (fs := frX0) (C := RX0) (T := TX0) (N := 7) hx hb hts uwX0 tyX0 tyX0_ok hown (hts _ clX6_7) (hts _ inX0) (hts _ niRX0) hK hP hD hS hA rfl dfX0 (Nat.le_of_ble_eq_true rfl) (Nat.le_of_ble_eq_true rfl) dX6_init_27 (fun q27 H hP hD hS => ?_)
  refine lv_dup hx hb dX6_init_30 rfl ?_
  refine zc_init (rest := [.ref q27, .ref h0]) ⟨hx, hb, hml, hown, hts⟩ conX0 liX6_9 rfl rfl knX0_init hK hAO hNw hP hD hS hA hl.1 (Nat.le_of_ble_eq_true rfl) ⟨(Nat.le_of_ble_eq_true rfl), (Nat.le_of_ble_eq_true rfl)⟩ ⟨(Nat.le_of_ble_eq_true rfl), (Nat.le_of_ble_eq_true rfl)⟩ dX6_init_31 (fun w1 H locs hB hP hD hS => ?_)
  obtain ⟨a3, rfl, rfl⟩ := hB
  refine va_putF (D := G) (ci := 6) (v := .ref (a3 0)) (ty := .object "CousinsByAgreement$County") (C := RX6) (T := TX6) (N := 15) hx hb hts uwX6 tyX6 tyX6_ok nmX6 hown hK hP hD hS 0 rfl rfl 2 (by decide) (hts _ fkX6_19) (fun _ h9 => h9) rfl hin rfl (by decide +kernel) rfl rfl (Nat.le_of_ble_eq_true rfl) dX6_init_34 (fun H locs hP hD hS => ?_)
  have hP : va_P G zcls ([(h0, .inr (6, [.ref (a1 0), .ref (a2 0), .ref (a3 0), .null, .int 0, .null, .null, .int 0, .null, .null, .null, .null, .null, .null, .null]))] ++ wCy cI a1 ++ wCy cI a2 ++ wCy cI a3) H := hP
  have hD : va_D A ([(h0, .inr (6, [.ref (a1 0), .ref (a2 0), .ref (a3 0), .null, .int 0, .null, .null, .int 0, .null, .null, .null, .null, .null, .null, .null]))] ++ wCy cI a1 ++ wCy cI a2 ++ wCy cI a3) := hD
  refine lv_aload_n hx hb dX6_init_37 rfl (lv_at hl 0 rfl) ?_
  refine va_new (ci := 0) (fs := frX0) (C := RX0) (T := TX0) (N := 7) hx hb hts uwX0 tyX0 tyX0_ok hown (hts _ clX6_7) (hts _ inX0) (hts _ niRX0) hK hP hD hS hA rfl dfX0 (Nat.le_of_ble_eq_true rfl) (Nat.le_of_ble_eq_true rfl) dX6_init_38 (fun q38 H hP hD hS => ?_)
  refine lv_dup hx hb dX6_init_41 rfl ?_
  refine zc_init (rest := [.ref q38, .ref h0]) ⟨hx, hb, hml, hown, hts⟩ conX0 liX6_9 rfl rfl knX0_init hK hAO hNw hP hD hS hA hl.1 (Nat.le_of_ble_eq_true rfl) ⟨(Nat.le_of_ble_eq_true rfl), (Nat.le_of_ble_eq_true rfl)⟩ ⟨(Nat.le_of_ble_eq_true rfl), (Nat.le_of_ble_eq_true rfl)⟩ dX6_init_42 (fun w1 H locs hB hP hD hS => ?_)
  obtain ⟨a4, rfl, rfl⟩ := hB
  refine va_putF (D := G) (ci := 6) (v := .ref (a4 0)) (ty := .object "CousinsByAgreement$County") (C := RX6) (T := TX6) (N := 15) hx hb hts uwX6 tyX6 tyX6_ok nmX6 hown hK hP hD hS 0 rfl rfl 3 (by decide) (hts _ fkX6_22) (fun _ h9 => h9) rfl hin rfl (by decide +kernel) rfl rfl (Nat.le_of_ble_eq_true rfl) dX6_init_45 (fun H locs hP hD hS => ?_)
  have hP : va_P G zcls ([(h0, .inr (6, [.ref (a1 0), .ref (a2 0), .ref (a3 0), .ref (a4 0), .int 0, .null, .null, .int 0, .null, .null, .null, .null, .null, .null, .null]))] ++ wCy cI a1 ++ wCy cI a2 ++ wCy cI a3 ++ wCy cI a4) H := hP
  have hD : va_D A ([(h0, .inr (6, [.ref (a1 0), .ref (a2 0), .ref (a3 0), .ref (a4 0), .int 0, .null, .null, .int 0, .null, .null, .null, .null, .null, .null, .null]))] ++ wCy cI a1 ++ wCy cI a2 ++ wCy cI a3 ++ wCy cI a4) := hD
  refine lv_aload_n hx hb dX6_init_48 rfl (lv_at hl 0 rfl) ?_
  refine va_new (ci := 1) (fs := frX1) (C := RX1) (T := TX1) (N := 2) hx hb hts uwX1 tyX1 tyX1_ok hown (hts _ clX6_25) (hts _ inX1) (hts _ niRX1) hK hP hD hS hA rfl dfX1 (Nat.le_of_ble_eq_true rfl) (Nat.le_of_ble_eq_true rfl) dX6_init_49 (fun q49 H hP hD hS => ?_)
  refine lv_dup hx hb dX6_init_52 rfl ?_
  refine zc_init (rest := [.ref q49, .ref h0]) ⟨hx, hb, hml, hown, hts⟩ conX1 liX6_27 rfl rfl knX1_init hK hAO hNw hP hD hS hA hl.1 (Nat.le_of_ble_eq_true rfl) ⟨(Nat.le_of_ble_eq_true rfl), (Nat.le_of_ble_eq_true rfl)⟩ ⟨(Nat.le_of_ble_eq_true rfl), (Nat.le_of_ble_eq_true rfl)⟩ dX6_init_53 (fun w1 H locs hB hP hD hS => ?_)
  obtain ⟨a5, rfl, rfl⟩ := hB
  refine va_putF (D := G) (ci := 6) (v := .ref (a5 0)) (ty := .object "CousinsByAgreement$Letters") (C := RX6) (T := TX6) (N := 15) hx hb hts uwX6 tyX6 tyX6_ok nmX6 hown hK hP hD hS 0 rfl rfl 5 (by decide) (hts _ fkX6_28) (fun _ h9 => h9) rfl hin rfl (by decide +kernel) rfl rfl (Nat.le_of_ble_eq_true rfl) dX6_init_56 (fun H locs hP hD hS => ?_)
  have hP : va_P G zcls ([(h0, .inr (6, [.ref (a1 0), .ref (a2 0), .ref (a3 0), .ref (a4 0), .int 0, .ref (a5 0), .null, .int 0, .null, .null, .null, .null, .null, .null, .null]))] ++ wCy cI a1 ++ wCy cI a2 ++ wCy cI a3 ++ wCy cI a4 ++ wLe cI a5) H := hP
  have hD : va_D A ([(h0, .inr (6, [.ref (a1 0), .ref (a2 0), .ref (a3 0), .ref (a4 0), .int 0, .ref (a5 0), .null, .int 0, .null, .null, .null, .null, .null, .null, .null]))] ++ wCy cI a1 ++ wCy cI a2 ++ wCy cI a3 ++ wCy cI a4 ++ wLe cI a5) := hD
  refine lv_aload_n hx hb dX6_init_59 rfl (lv_at hl 0 rfl) ?_
  refine lv_bipush (v := nI 16) hx hb dX6_init_60 (by decide) ?_
  refine zc_newa hx hb (hts _ arI) hK hP hD hS hA 16 (by decide) (Nat.le_of_ble_eq_true rfl) (Nat.le_of_ble_eq_true rfl) dX6_init_62 (fun q62 H hP hD hS => ?_)
  refine va_putF (D := G) (ci := 6) (v := .ref q62) (ty := .array .int) (C := RX6) (T := TX6) (N := 15) hx hb hts uwX6 tyX6 tyX6_ok nmX6 hown hK hP hD hS 0 rfl rfl 6 (by decide) (hts _ fkX6_32) (fun _ h9 => h9) rfl hin rfl (by decide +kernel) rfl rfl (Nat.le_of_ble_eq_true rfl) dX6_init_64 (fun H locs hP hD hS => ?_)
  have hP : va_P G zcls ([(h0, .inr (6, [.ref (a1 0), .ref (a2 0), .ref (a3 0), .ref (a4 0), .int 0, .ref (a5 0), .ref q62, .int 0, .null, .null, .null, .null, .null, .null, .null]))] ++ wCy cI a1 ++ wCy cI a2 ++ wCy cI a3 ++ wCy cI a4 ++ wLe cI a5 ++ [zA cI q62 16]) H := hP
  have hD : va_D A ([(h0, .inr (6, [.ref (a1 0), .ref (a2 0), .ref (a3 0), .ref (a4 0), .int 0, .ref (a5 0), .ref q62, .int 0, .null, .null, .null, .null, .null, .null, .null]))] ++ wCy cI a1 ++ wCy cI a2 ++ wCy cI a3 ++ wCy cI a4 ++ wLe cI a5 ++ [zA cI q62 16]) := hD
  refine lv_aload_n hx hb dX6_init_67 rfl (lv_at hl 0 rfl) ?_
  refine lv_bipush (v := nI 7) hx hb dX6_init_68 (by decide) ?_
  refine zc_newa hx hb (hts _ arI) hK hP hD hS hA 7 (by decide) (Nat.le_of_ble_eq_true rfl) (Nat.le_of_ble_eq_true rfl) dX6_init_70 (fun q70 H hP hD hS => ?_)
  refine va_putF (D := G) (ci := 6) (v := .ref q70) (ty := .array .int) (C := RX6) (T := TX6) (N := 15) hx hb hts uwX6 tyX6 tyX6_ok nmX6 hown hK hP hD hS 0 rfl rfl 8 (by decide) (hts _ fkX6_36) (fun _ h9 => h9) rfl hin rfl (by decide +kernel) rfl rfl (Nat.le_of_ble_eq_true rfl) dX6_init_72 (fun H locs hP hD hS => ?_)
  have hP : va_P G zcls ([(h0, .inr (6, [.ref (a1 0), .ref (a2 0), .ref (a3 0), .ref (a4 0), .int 0, .ref (a5 0), .ref q62, .int 0, .ref q70, .null, .null, .null, .null, .null, .null]))] ++ wCy cI a1 ++ wCy cI a2 ++ wCy cI a3 ++ wCy cI a4 ++ wLe cI a5 ++ [zA cI q62 16] ++ [zA cI q70 7]) H := hP
  have hD : va_D A ([(h0, .inr (6, [.ref (a1 0), .ref (a2 0), .ref (a3 0), .ref (a4 0), .int 0, .ref (a5 0), .ref q62, .int 0, .ref q70, .null, .null, .null, .null, .null, .null]))] ++ wCy cI a1 ++ wCy cI a2 ++ wCy cI a3 ++ wCy cI a4 ++ wLe cI a5 ++ [zA cI q62 16] ++ [zA cI q70 7]) := hD
  refine lv_aload_n hx hb dX6_init_75 rfl (lv_at hl 0 rfl) ?_
  refine va_new (ci := 5) (fs := frX5) (C := RX5) (T := TX5) (N := 2) hx hb hts uwX5 tyX5 tyX5_ok hown (hts _ clX6_39) (hts _ inX5) (hts _ niRX5) hK hP hD hS hA rfl dfX5 (Nat.le_of_ble_eq_true rfl) (Nat.le_of_ble_eq_true rfl) dX6_init_76 (fun q76 H hP hD hS => ?_)
  refine lv_dup hx hb dX6_init_79 rfl ?_
  refine zc_init (rest := [.ref q76, .ref h0]) ⟨hx, hb, hml, hown, hts⟩ conX5 liX6_41 rfl rfl knX5_init hK hAO hNw hP hD hS hA hl.1 (Nat.le_of_ble_eq_true rfl) ⟨(Nat.le_of_ble_eq_true rfl), (Nat.le_of_ble_eq_true rfl)⟩ ⟨(Nat.le_of_ble_eq_true rfl), (Nat.le_of_ble_eq_true rfl)⟩ dX6_init_80 (fun w1 H locs hB hP hD hS => ?_)
  obtain ⟨a6, rfl, rfl⟩ := hB
  refine va_putF (D := G) (ci := 6) (v := .ref (a6 0)) (ty := .object "CousinsByAgreement$Ties") (C := RX6) (T := TX6) (N := 15) hx hb hts uwX6 tyX6 tyX6_ok nmX6 hown hK hP hD hS 0 rfl rfl 9 (by decide) (hts _ fkX6_42) (fun _ h9 => h9) rfl hin rfl (by decide +kernel) rfl rfl (Nat.le_of_ble_eq_true rfl) dX6_init_83 (fun H locs hP hD hS => ?_)
  have hP : va_P G zcls ([(h0, .inr (6, [.ref (a1 0), .ref (a2 0), .ref (a3 0), .ref (a4 0), .int 0, .ref (a5 0), .ref q62, .int 0, .ref q70, .ref (a6 0), .null, .null, .null, .null, .null]))] ++ wCy cI a1 ++ wCy cI a2 ++ wCy cI a3 ++ wCy cI a4 ++ wLe cI a5 ++ [zA cI q62 16] ++ [zA cI q70 7] ++ wTi cI a6) H := hP
  have hD : va_D A ([(h0, .inr (6, [.ref (a1 0), .ref (a2 0), .ref (a3 0), .ref (a4 0), .int 0, .ref (a5 0), .ref q62, .int 0, .ref q70, .ref (a6 0), .null, .null, .null, .null, .null]))] ++ wCy cI a1 ++ wCy cI a2 ++ wCy cI a3 ++ wCy cI a4 ++ wLe cI a5 ++ [zA cI q62 16] ++ [zA cI q70 7] ++ wTi cI a6) := hD
  refine lv_aload_n hx hb dX6_init_86 rfl (lv_at hl 0 rfl) ?_
  refine va_new (ci := 4) (fs := frX4) (C := RX4) (T := TX4) (N := 3) hx hb hts uwX4 tyX4 tyX4_ok hown (hts _ clX6_46) (hts _ inX4) (hts _ niRX4) hK hP hD hS hA rfl dfX4 (Nat.le_of_ble_eq_true rfl) (Nat.le_of_ble_eq_true rfl) dX6_init_87 (fun q87 H hP hD hS => ?_)
  refine lv_dup hx hb dX6_init_90 rfl ?_
  refine zc_init (rest := [.ref q87, .ref h0]) ⟨hx, hb, hml, hown, hts⟩ conX4 liX6_48 rfl rfl knX4_init hK hAO hNw hP hD hS hA hl.1 (Nat.le_of_ble_eq_true rfl) ⟨(Nat.le_of_ble_eq_true rfl), (Nat.le_of_ble_eq_true rfl)⟩ ⟨(Nat.le_of_ble_eq_true rfl), (Nat.le_of_ble_eq_true rfl)⟩ dX6_init_91 (fun w1 H locs hB hP hD hS => ?_)
  obtain ⟨a7, rfl, rfl⟩ := hB
  refine va_putF (D := G) (ci := 6) (v := .ref (a7 0)) (ty := .object "CousinsByAgreement$Seats") (C := RX6) (T := TX6) (N := 15) hx hb hts uwX6 tyX6 tyX6_ok nmX6 hown hK hP hD hS 0 rfl rfl 10 (by decide) (hts _ fkX6_49) (fun _ h9 => h9) rfl hin rfl (by decide +kernel) rfl rfl (Nat.le_of_ble_eq_true rfl) dX6_init_94 (fun H locs hP hD hS => ?_)
  have hP : va_P G zcls ([(h0, .inr (6, [.ref (a1 0), .ref (a2 0), .ref (a3 0), .ref (a4 0), .int 0, .ref (a5 0), .ref q62, .int 0, .ref q70, .ref (a6 0), .ref (a7 0), .null, .null, .null, .null]))] ++ wCy cI a1 ++ wCy cI a2 ++ wCy cI a3 ++ wCy cI a4 ++ wLe cI a5 ++ [zA cI q62 16] ++ [zA cI q70 7] ++ wTi cI a6 ++ wSe cI a7) H := hP
  have hD : va_D A ([(h0, .inr (6, [.ref (a1 0), .ref (a2 0), .ref (a3 0), .ref (a4 0), .int 0, .ref (a5 0), .ref q62, .int 0, .ref q70, .ref (a6 0), .ref (a7 0), .null, .null, .null, .null]))] ++ wCy cI a1 ++ wCy cI a2 ++ wCy cI a3 ++ wCy cI a4 ++ wLe cI a5 ++ [zA cI q62 16] ++ [zA cI q70 7] ++ wTi cI a6 ++ wSe cI a7) := hD
  refine lv_aload_n hx hb dX6_init_97 rfl (lv_at hl 0 rfl) ?_
  refine va_new (ci := 3) (fs := frX3) (C := RX3) (T := TX3) (N := 4) hx hb hts uwX3 tyX3 tyX3_ok hown (hts _ clX6_53) (hts _ inX3) (hts _ niRX3) hK hP hD hS hA rfl dfX3 (Nat.le_of_ble_eq_true rfl) (Nat.le_of_ble_eq_true rfl) dX6_init_98 (fun q98 H hP hD hS => ?_)
  refine lv_dup hx hb dX6_init_101 rfl ?_
  refine zc_init (rest := [.ref q98, .ref h0]) ⟨hx, hb, hml, hown, hts⟩ conX3 liX6_55 rfl rfl knX3_init hK hAO hNw hP hD hS hA hl.1 (Nat.le_of_ble_eq_true rfl) ⟨(Nat.le_of_ble_eq_true rfl), (Nat.le_of_ble_eq_true rfl)⟩ ⟨(Nat.le_of_ble_eq_true rfl), (Nat.le_of_ble_eq_true rfl)⟩ dX6_init_102 (fun w1 H locs hB hP hD hS => ?_)
  obtain ⟨a8, rfl, rfl⟩ := hB
  refine va_putF (D := G) (ci := 6) (v := .ref (a8 0)) (ty := .object "CousinsByAgreement$Pairs") (C := RX6) (T := TX6) (N := 15) hx hb hts uwX6 tyX6 tyX6_ok nmX6 hown hK hP hD hS 0 rfl rfl 11 (by decide) (hts _ fkX6_56) (fun _ h9 => h9) rfl hin rfl (by decide +kernel) rfl rfl (Nat.le_of_ble_eq_true rfl) dX6_init_105 (fun H locs hP hD hS => ?_)
  have hP : va_P G zcls ([(h0, .inr (6, [.ref (a1 0), .ref (a2 0), .ref (a3 0), .ref (a4 0), .int 0, .ref (a5 0), .ref q62, .int 0, .ref q70, .ref (a6 0), .ref (a7 0), .ref (a8 0), .null, .null, .null]))] ++ wCy cI a1 ++ wCy cI a2 ++ wCy cI a3 ++ wCy cI a4 ++ wLe cI a5 ++ [zA cI q62 16] ++ [zA cI q70 7] ++ wTi cI a6 ++ wSe cI a7 ++ wPa cI a8) H := hP
  have hD : va_D A ([(h0, .inr (6, [.ref (a1 0), .ref (a2 0), .ref (a3 0), .ref (a4 0), .int 0, .ref (a5 0), .ref q62, .int 0, .ref q70, .ref (a6 0), .ref (a7 0), .ref (a8 0), .null, .null, .null]))] ++ wCy cI a1 ++ wCy cI a2 ++ wCy cI a3 ++ wCy cI a4 ++ wLe cI a5 ++ [zA cI q62 16] ++ [zA cI q70 7] ++ wTi cI a6 ++ wSe cI a7 ++ wPa cI a8) := hD
  refine lv_aload_n hx hb dX6_init_108 rfl (lv_at hl 0 rfl) ?_
  refine va_new (ci := 2) (fs := frX2) (C := RX2) (T := TX2) (N := 6) hx hb hts uwX2 tyX2 tyX2_ok hown (hts _ clX6_60) (hts _ inX2) (hts _ niRX2) hK hP hD hS hA rfl dfX2 (Nat.le_of_ble_eq_true rfl) (Nat.le_of_ble_eq_true rfl) dX6_init_109 (fun q109 H hP hD hS => ?_)
  refine lv_dup hx hb dX6_init_112 rfl ?_
  refine zc_init (rest := [.ref q109, .ref h0]) ⟨hx, hb, hml, hown, hts⟩ conX2 liX6_62 rfl rfl knX2_init hK hAO hNw hP hD hS hA hl.1 (Nat.le_of_ble_eq_true rfl) ⟨(Nat.le_of_ble_eq_true rfl), (Nat.le_of_ble_eq_true rfl)⟩ ⟨(Nat.le_of_ble_eq_true rfl), (Nat.le_of_ble_eq_true rfl)⟩ dX6_init_113 (fun w1 H locs hB hP hD hS => ?_)
  obtain ⟨a9, b9, rfl, rfl⟩ := hB
  refine va_putF (D := G) (ci := 6) (v := .ref (a9 0)) (ty := .object "CousinsByAgreement$Odds") (C := RX6) (T := TX6) (N := 15) hx hb hts uwX6 tyX6 tyX6_ok nmX6 hown hK hP hD hS 0 rfl rfl 12 (by decide) (hts _ fkX6_63) (fun _ h9 => h9) rfl hin rfl (by decide +kernel) rfl rfl (Nat.le_of_ble_eq_true rfl) dX6_init_116 (fun H locs hP hD hS => ?_)
  have hP : va_P G zcls ([(h0, .inr (6, [.ref (a1 0), .ref (a2 0), .ref (a3 0), .ref (a4 0), .int 0, .ref (a5 0), .ref q62, .int 0, .ref q70, .ref (a6 0), .ref (a7 0), .ref (a8 0), .ref (a9 0), .null, .null]))] ++ wCy cI a1 ++ wCy cI a2 ++ wCy cI a3 ++ wCy cI a4 ++ wLe cI a5 ++ [zA cI q62 16] ++ [zA cI q70 7] ++ wTi cI a6 ++ wSe cI a7 ++ wPa cI a8 ++ wOd cI cQ a9 b9) H := hP
  have hD : va_D A ([(h0, .inr (6, [.ref (a1 0), .ref (a2 0), .ref (a3 0), .ref (a4 0), .int 0, .ref (a5 0), .ref q62, .int 0, .ref q70, .ref (a6 0), .ref (a7 0), .ref (a8 0), .ref (a9 0), .null, .null]))] ++ wCy cI a1 ++ wCy cI a2 ++ wCy cI a3 ++ wCy cI a4 ++ wLe cI a5 ++ [zA cI q62 16] ++ [zA cI q70 7] ++ wTi cI a6 ++ wSe cI a7 ++ wPa cI a8 ++ wOd cI cQ a9 b9) := hD
  refine lv_aload_n hx hb dX6_init_119 rfl (lv_at hl 0 rfl) ?_
  refine lv_iconst (v := nI 4) hx hb dX6_init_120 (by decide) ?_
  refine zc_newa hx hb (hts _ arI) hK hP hD hS hA 4 (by decide) (Nat.le_of_ble_eq_true rfl) (Nat.le_of_ble_eq_true rfl) dX6_init_121 (fun q121 H hP hD hS => ?_)
  refine va_putF (D := G) (ci := 6) (v := .ref q121) (ty := .array .int) (C := RX6) (T := TX6) (N := 15) hx hb hts uwX6 tyX6 tyX6_ok nmX6 hown hK hP hD hS 0 rfl rfl 13 (by decide) (hts _ fkX6_67) (fun _ h9 => h9) rfl hin rfl (by decide +kernel) rfl rfl (Nat.le_of_ble_eq_true rfl) dX6_init_123 (fun H locs hP hD hS => ?_)
  have hP : va_P G zcls ([(h0, .inr (6, [.ref (a1 0), .ref (a2 0), .ref (a3 0), .ref (a4 0), .int 0, .ref (a5 0), .ref q62, .int 0, .ref q70, .ref (a6 0), .ref (a7 0), .ref (a8 0), .ref (a9 0), .ref q121, .null]))] ++ wCy cI a1 ++ wCy cI a2 ++ wCy cI a3 ++ wCy cI a4 ++ wLe cI a5 ++ [zA cI q62 16] ++ [zA cI q70 7] ++ wTi cI a6 ++ wSe cI a7 ++ wPa cI a8 ++ wOd cI cQ a9 b9 ++ [zA cI q121 4]) H := hP
  have hD : va_D A ([(h0, .inr (6, [.ref (a1 0), .ref (a2 0), .ref (a3 0), .ref (a4 0), .int 0, .ref (a5 0), .ref q62, .int 0, .ref q70, .ref (a6 0), .ref (a7 0), .ref (a8 0), .ref (a9 0), .ref q121, .null]))] ++ wCy cI a1 ++ wCy cI a2 ++ wCy cI a3 ++ wCy cI a4 ++ wLe cI a5 ++ [zA cI q62 16] ++ [zA cI q70 7] ++ wTi cI a6 ++ wSe cI a7 ++ wPa cI a8 ++ wOd cI cQ a9 b9 ++ [zA cI q121 4]) := hD
  refine lv_aload_n hx hb dX6_init_126 rfl (lv_at hl 0 rfl) ?_
  refine lv_iconst (v := nI 4) hx hb dX6_init_127 (by decide) ?_
  refine zc_newa hx hb (hts _ arI) hK hP hD hS hA 4 (by decide) (Nat.le_of_ble_eq_true rfl) (Nat.le_of_ble_eq_true rfl) dX6_init_128 (fun q128 H hP hD hS => ?_)
  refine va_putF (D := G) (ci := 6) (v := .ref q128) (ty := .array .int) (C := RX6) (T := TX6) (N := 15) hx hb hts uwX6 tyX6 tyX6_ok nmX6 hown hK hP hD hS 0 rfl rfl 14 (by decide) (hts _ fkX6_70) (fun _ h9 => h9) rfl hin rfl (by decide +kernel) rfl rfl (Nat.le_of_ble_eq_true rfl) dX6_init_130 (fun H locs hP hD hS => ?_)
  have hP : va_P G zcls ([(h0, .inr (6, [.ref (a1 0), .ref (a2 0), .ref (a3 0), .ref (a4 0), .int 0, .ref (a5 0), .ref q62, .int 0, .ref q70, .ref (a6 0), .ref (a7 0), .ref (a8 0), .ref (a9 0), .ref q121, .ref q128]))] ++ wCy cI a1 ++ wCy cI a2 ++ wCy cI a3 ++ wCy cI a4 ++ wLe cI a5 ++ [zA cI q62 16] ++ [zA cI q70 7] ++ wTi cI a6 ++ wSe cI a7 ++ wPa cI a8 ++ wOd cI cQ a9 b9 ++ [zA cI q121 4] ++ [zA cI q128 4]) H := hP
  have hD : va_D A ([(h0, .inr (6, [.ref (a1 0), .ref (a2 0), .ref (a3 0), .ref (a4 0), .int 0, .ref (a5 0), .ref q62, .int 0, .ref q70, .ref (a6 0), .ref (a7 0), .ref (a8 0), .ref (a9 0), .ref q121, .ref q128]))] ++ wCy cI a1 ++ wCy cI a2 ++ wCy cI a3 ++ wCy cI a4 ++ wLe cI a5 ++ [zA cI q62 16] ++ [zA cI q70 7] ++ wTi cI a6 ++ wSe cI a7 ++ wPa cI a8 ++ wOd cI cQ a9 b9 ++ [zA cI q121 4] ++ [zA cI q128 4]) := hD
  refine W.widen (k := 89) (n := 1012) (Nat.le_of_ble_eq_true rfl) (Nat.le_of_ble_eq_true rfl) ?_
  exact W.vret hx hb hr (fun t ht hW => ⟨⟨wXo cI cQ h0 a1 a2 a3 a4 a5 q62 q70 a6 a7 a8 a9 b9 q121 q128, rfl, ⟨a1, a2, a3, a4, a5, q62, q70, a6, a7, a8, a9, b9, q121, q128, rfl⟩, by rw [ht]; exact hP, hD⟩, hS.F ht⟩) hS.2.2 dX6_init_133
