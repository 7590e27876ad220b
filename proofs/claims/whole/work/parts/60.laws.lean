/-! the law from its entry -/
set_option maxRecDepth 100000 in
theorem wdO : Cond.arrayOver (.object RX0) ∈ lw_tbl := zt1 (List.mem_of_getElem? (i := 136) rfl)
set_option maxRecDepth 100000 in
theorem wdR : Cond.stringRef RX1 41 "pltwda" ∈ lw_tbl := zt2 (List.mem_of_getElem? (i := 10) rfl)
set_option maxRecDepth 100000 in
theorem wdZ : Cond.laysStatic "java/lang/String" "COMPACT_STRINGS" "Z" ∈ lw_tbl := zt2 (List.mem_of_getElem? (i := 24) rfl)
theorem dfX6 : ∀ j, j < 15 → defaultValue (tyX6 j) = vp_V frX6 j := by
  intro j hj
  rcases (show j = 0 ∨ j = 1 ∨ j = 2 ∨ j = 3 ∨ j = 4 ∨ j = 5 ∨ j = 6 ∨ j = 7 ∨ j = 8 ∨ j = 9 ∨ j = 10 ∨ j = 11 ∨ j = 12 ∨ j = 13 ∨ j = 14 by omega) with rfl | rfl | rfl | rfl | rfl | rfl | rfl | rfl | rfl | rfl | rfl | rfl | rfl | rfl | rfl <;> rfl
theorem dfX7 : ∀ j, j < 28 → defaultValue (tyX7 j) = vp_V frX7 j := by
  intro j hj
  rcases (show j = 0 ∨ j = 1 ∨ j = 2 ∨ j = 3 ∨ j = 4 ∨ j = 5 ∨ j = 6 ∨ j = 7 ∨ j = 8 ∨ j = 9 ∨ j = 10 ∨ j = 11 ∨ j = 12 ∨ j = 13 ∨ j = 14 ∨ j = 15 ∨ j = 16 ∨ j = 17 ∨ j = 18 ∨ j = 19 ∨ j = 20 ∨ j = 21 ∨ j = 22 ∨ j = 23 ∨ j = 24 ∨ j = 25 ∨ j = 26 ∨ j = 27 by omega) with rfl | rfl | rfl | rfl | rfl | rfl | rfl | rfl | rfl | rfl | rfl | rfl | rfl | rfl | rfl | rfl | rfl | rfl | rfl | rfl | rfl | rfl | rfl | rfl | rfl | rfl | rfl | rfl <;> rfl
theorem zk_string {s : State} {args : Array Value} {A : Nat → Prop} (hgv : (Jvm.Cond.and given_1 narrow_1).before args s = true) (hA : ∀ a : Nat, a < s.heap.size → ¬ A a) : ∃ adK adV : Nat → Nat, vk_S 1 [6] [[112, 108, 116, 119, 100, 97]] adK adV A s s.heap ∧ (Term.string "CousinsByAgreement$Letters" 41).eval args s none [] s = some (.ref (adK 0)) := by
  have hs := flat_of_before _ hgv
  obtain ⟨adK, adV, h1, h2⟩ := vk_Sof (args := args) (s := s) (N := 1) (tm := fun _ => Term.string "CousinsByAgreement$Letters" 41) (len := [6]) (byt := [[112, 108, 116, 119, 100, 97]]) (A := A) (fun i hi => by
      have : i = 0 := by omega
      subst this
      decide) (fun i hi => hs _ (by decide +kernel)) (fun i hi => hs _ (by decide +kernel)) (fun i hi => hs _ (by decide +kernel)) (fun i hi => by
      have : i = 0 := by omega
      subst this
      exact hs _ (by decide +kernel)) (fun i hi j hj => by
      have : i = 0 := by omega
      subst this
      have hj : j < 6 := hj
      rcases (show j = 0 ∨ j = 1 ∨ j = 2 ∨ j = 3 ∨ j = 4 ∨ j = 5 by omega) with rfl | rfl | rfl | rfl | rfl | rfl <;> exact hs _ (by decide +kernel)) (fun i j hi hj hij => absurd (show i = j by omega) hij) hA
  exact ⟨adK, adV, h1, h2 0 (by decide)⟩
theorem zk_static {s : State} {args : Array Value} {A : Nat → Prop} (hgv : (Jvm.Cond.and given_1 narrow_1).before args s = true) (hl : (Cond.laysStatic "java/lang/String" "COMPACT_STRINGS" "Z").before args s = true) (hi : (Cond.initialized "java/lang/String").before args s = true) (hA : ∀ a : Nat, a < s.heap.size → ¬ A a) : va_Z "java/lang/String" "COMPACT_STRINGS" "Z" (.int 1) A s s.heap :=
  va_Zof hl hi (va_eqt (flat_of_before _ hgv (Cond.eq (Term.static "java/lang/String" "COMPACT_STRINGS" "Z") (Term.int 1)) (by decide +kernel))) hA
theorem zk_classes {s : State} {args : Array Value} (hts : ∀ w ∈ zgt, w.before args s = true) (hO : (Cond.arrayOver (.object RX0)).before args s = true) : ∃ (G : va_G) (cI cQ : ClassId), va_K G zcls [(cI, .int), (cQ, .object RX0)] s := by
  obtain ⟨c0, i0, k0⟩ := u_known (C := RX0) (T := TX0) (N := 7) (n := 7) hts uwX0 (hts _ inX0)
  obtain ⟨c1, i1, k1⟩ := u_known (C := RX1) (T := TX1) (N := 2) (n := 2) hts uwX1 (hts _ inX1)
  obtain ⟨c2, i2, k2⟩ := u_known (C := RX2) (T := TX2) (N := 6) (n := 6) hts uwX2 (hts _ inX2)
  obtain ⟨c3, i3, k3⟩ := u_known (C := RX3) (T := TX3) (N := 4) (n := 4) hts uwX3 (hts _ inX3)
  obtain ⟨c4, i4, k4⟩ := u_known (C := RX4) (T := TX4) (N := 3) (n := 3) hts uwX4 (hts _ inX4)
  obtain ⟨c5, i5, k5⟩ := u_known (C := RX5) (T := TX5) (N := 2) (n := 2) hts uwX5 (hts _ inX5)
  obtain ⟨c6, i6, k6⟩ := u_known (C := RX6) (T := TX6) (N := 15) (n := 15) hts uwX6 (hts _ inX6)
  obtain ⟨c7, i7, k7⟩ := u_known (C := RX7) (T := TX7) (N := 28) (n := 28) hts uwX7 (hts _ inX7)
  obtain ⟨cI, kI, compI, hI1, hI2, hI3⟩ := Cond.arrayClass_spec (hts _ arI)
  obtain ⟨compQ, cQ, kQ, hQ1, -, hQ3, hQ4, hQ5⟩ := Cond.arrayOver_spec hO
  refine ⟨(fun k => [c0, c1, c2, c3, c4, c5, c6, c7].getD k 0, fun k => [i0, i1, i2, i3, i4, i5, i6, i7].getD k (fun _ => 0)), cI, cQ, fun k q hq => ?_, fun k q hq => ?_⟩
  · match k, hq with
    | 0, hq => cases hq; exact k0
    | 1, hq => cases hq; exact k1
    | 2, hq => cases hq; exact k2
    | 3, hq => cases hq; exact k3
    | 4, hq => cases hq; exact k4
    | 5, hq => cases hq; exact k5
    | 6, hq => cases hq; exact k6
    | 7, hq => cases hq; exact k7
    | k + 8, hq => simp [zcls] at hq
  · match k, hq with
    | 0, hq =>
      cases hq
      exact ⟨fun n z => ⟨fun k h => (by cases h), kI, hI2, compI, hI3⟩, hI1⟩
    | 1, hq =>
      cases hq
      exact ⟨fun n z => ⟨fun k h => (by cases h), kQ, hQ3, compQ, hQ4⟩, kQ, compQ, hQ3, hQ4, hQ1, hQ5⟩
    | k + 2, hq => simp at hq
set_option maxHeartbeats 4000000 in
set_option maxRecDepth 100000 in
theorem whole_start {p : Program} {e : Env} {s : State} {m : MethodId} {below : List Frame} {meth : Method} {c : Code} (l : Launch) (hflags : l.flags = flags0) {b L : Nat} {xs : Nat → Int32} (hL : L ≤ 3584) (C0 : lw_At p s m meth c b L xs) : W p l e room_1 s m #[Value.ref b] below meth c s.heap [] 0 0 (lw_Z below #[Value.ref b] s) (entryFrame m ([Value.ref b] : List Value).toArray 4) := by
  obtain ⟨hx, hb, hr, hml, hown, htt, hX, hbl, hlocks, hgv⟩ := id C0
  have hts : ∀ w ∈ zgt, w.before #[Value.ref b] s = true := fun w hw => htt w (List.mem_filter.mp hw).1
  have hown : s.vm.findClass RL = some m.cls := hown
  have hNw : ∀ w ∈ zNW, va_Nw w s := by
    intro w hw
    have hn := (List.mem_filter.mp hw).2
    have hb2 := htt w (List.mem_filter.mp hw).1
    cases w <;> first | exact va_Nw.of rfl hb2 | (cases hn)
  have hAO : va_AO RX0 s := va_AO.of (htt _ wdO)
  obtain ⟨G, cI, cQ, hK⟩ := zk_classes hts (htt _ wdO)
  generalize hAe : (fun q : Nat => s.heap.size ≤ q) = A
  have hA : ∀ q : Nat, s.heap.size ≤ q → A q := fun q h => by rw [← hAe]; exact h
  have hA' : ∀ q : Nat, A q → s.heap.size ≤ q := fun q h => by rw [← hAe] at h; exact h
  have hnA : ∀ a : Nat, a < s.heap.size → ¬ A a := fun a h z => by have := hA' a z; omega
  obtain ⟨adK, adV, hSt, hEv⟩ := zk_string (A := A) hgv hnA
  have hZ := zk_static (A := A) hgv (htt _ wdZ) (hts _ niRJ0) hnA
  have S : CallFix p m c code 4 s #[Value.ref b] zgt RL := ⟨hx, hb, hml, hown, hts⟩
  have hS : va_S A s.heap s.heap [] := va_S.rf
  have hP : va_P G zcls [] s.heap := fun k q h => by simp at h
  have hD : va_D A [] := ⟨fun i j u v h => by simp at h, fun k q h => by simp at h⟩
  have hl := lv_entry ([.ref b]) (n := 4) (Nat.le_of_ble_eq_true rfl)
  rw [lg_entry_eq]
  generalize (lg_sl ([.ref b]) ++ List.replicate (4 - (lg_sl ([.ref b])).length) Slot.unset).toArray = ls at hl ⊢
  have hl : lv_has ls 4 [(0, .ref b)] := hl
  refine va_new (ci := 6) (fs := frX6) (C := RX6) (T := TX6) (N := 15) hx hb hts uwX6 tyX6 tyX6_ok hown (hts _ clL_7) (hts _ inX6) (hts _ niRX6) hK hP hD hS hA rfl dfX6 (Nat.le_of_ble_eq_true rfl) (Nat.le_of_ble_eq_true rfl) dL_law_0 (fun q0 H hP hD hS => ?_)
  refine lv_dup hx hb dL_law_3 rfl ?_
  refine zc_init (rest := [.ref q0]) S conX6 liL_9 rfl rfl knX6_init hK hAO hNw hP hD hS hA hl.1 (Nat.le_of_ble_eq_true rfl) ⟨Nat.le_of_ble_eq_true rfl, Nat.le_of_ble_eq_true rfl⟩ ⟨Nat.le_of_ble_eq_true rfl, Nat.le_of_ble_eq_true rfl⟩ dL_law_4 (fun w1 H locs hB hP hD hS => ?_)
  obtain ⟨a1, a2, a3, a4, a5, q62, q70, a6, a7, a8, a9, b9, q121, q128, rfl⟩ := hB
  refine lv_astore_n (lv' := [(1, .ref q0), (0, .ref b)]) hx hb dL_law_7 rfl hl (by decide) rfl (fun ls hl => ?_)
  refine va_new (ci := 7) (fs := frX7) (C := RX7) (T := TX7) (N := 28) hx hb hts uwX7 tyX7 tyX7_ok hown (hts _ clL_10) (hts _ inX7) (hts _ niRX7) hK hP hD hS hA rfl dfX7 (Nat.le_of_ble_eq_true rfl) (Nat.le_of_ble_eq_true rfl) dL_law_8 (fun q8 H hP hD hS => ?_)
  refine lv_dup hx hb dL_law_11 rfl ?_
  refine zc_init (rest := [.ref q8]) S conX7 liL_12 rfl rfl knX7_init hK hAO hNw hP hD hS hA hl.1 (Nat.le_of_ble_eq_true rfl) ⟨Nat.le_of_ble_eq_true rfl, Nat.le_of_ble_eq_true rfl⟩ ⟨Nat.le_of_ble_eq_true rfl, Nat.le_of_ble_eq_true rfl⟩ dL_law_12 (fun w1 H locs hB hP hD hS => ?_)
  obtain ⟨am, rfl, rfl⟩ := hB
  refine lv_astore_n (lv' := [(2, .ref (am 0)), (1, .ref q0), (0, .ref b)]) hx hb dL_law_15 rfl hl (by decide) rfl (fun ls hl => ?_)
  refine lv_iconst (v := nI 0) hx hb dL_law_16 (by decide) ?_
  refine lv_istore_n (lv' := [(3, .int (nI 0)), (2, .ref (am 0)), (1, .ref q0), (0, .ref b)]) hx hb dL_law_17 rfl hl (by decide) rfl (fun ls hl => ?_)
  have hW := zw_go (s1 := adK 0) (s2 := adV 0) hP hD
  generalize had : zads q0 a1 a2 a3 a4 a5 q62 q70 a6 a7 a8 a9 b9 q121 q128 am (adK 0) (adV 0) = ad at hW
  have e0 : ad 0 = q0 := by rw [← had]; rfl
  have e90 : ad 90 = am 0 := by rw [← had]; rfl
  have e1000 : ad 1000 = adK 0 := by rw [← had]; rfl
  have e1001 : ad 1001 = adV 0 := by rw [← had]; rfl
  have hZK : ZK G cI cQ ad A s s.heap := by
    refine ⟨hK, hNw, ?_, ⟨fun i hi => ?_, fun i j hi hj _ => by omega⟩, hZ⟩
    · rw [e1000]
      exact vk_R.of (own := RX1) (htt _ wdR) hEv
    · have : i = 0 := by omega
      subst this
      rw [e1000, e1001]
      exact hSt.1 0 (by decide)
  have C : LC p s m meth c G cI cQ ad A b L xs := ⟨S, hZK, hX, hbl, hnA b hbl, hr, hlocks, hA'⟩
  rw [← e0, ← e90] at hl
  exact law_loop C hL (L + 1) 0 zM0 zs0 (by omega) (by omega) zs0_x zs0_m zs0_k H locs ls hW hS hl
