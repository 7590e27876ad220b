/-! the constructor of Odds -/
theorem zP_refs {G : va_G} {cQ : ClassId} {x : Nat × va_E} {qa : Nat} {f g : Nat → Option Nat} {w : va_W} {H : Heap} {A : Nat → Prop} (hf : ∀ j, j < 8 → f j = g j) (hP : va_P G zcls ([x, (qa, .inl (cQ, 8, .inr (.inr (.inr (.inr f)))))] ++ w) H) (hD : va_D A ([x, (qa, .inl (cQ, 8, .inr (.inr (.inr (.inr f)))))] ++ w)) : va_P G zcls ([x, (qa, .inl (cQ, 8, .inr (.inr (.inr (.inr g)))))] ++ w) H ∧ va_D A ([x, (qa, .inl (cQ, 8, .inr (.inr (.inr (.inr g)))))] ++ w) := by
  have ec : vp_cell cQ (8, .inr (.inr (.inr (.inr f)))) = vp_cell cQ (8, .inr (.inr (.inr (.inr g)))) := by
    rw [vp_cell_q, vp_cell_q, arrV, arrV]
    congr 2
    funext j
    rw [hf j.val j.isLt]
  have key : ∀ (k : Nat) (q : Nat × va_E), ([x, (qa, .inl (cQ, 8, .inr (.inr (.inr (.inr g)))))] ++ w)[k]? = some q → ∃ q', ([x, (qa, .inl (cQ, 8, .inr (.inr (.inr (.inr f)))))] ++ w)[k]? = some q' ∧ q'.1 = q.1 ∧ (va_at G zcls q' H → va_at G zcls q H) := by
    intro k q hk
    match k, hk with
    | 0, hk => exact ⟨q, hk, rfl, id⟩
    | 1, hk =>
      cases hk
      refine ⟨_, rfl, rfl, fun h => ?_⟩
      show H[qa]? = some (vp_cell cQ (8, .inr (.inr (.inr (.inr g)))))
      rw [← ec]
      exact h
    | k + 2, hk => exact ⟨q, hk, rfl, id⟩
  refine ⟨fun k q hk => ?_, fun i j u v hi hj e => ?_, fun k q hk => ?_⟩
  · obtain ⟨q', h1, -, h3⟩ := key k q hk
    exact h3 (hP k q' h1)
  · obtain ⟨u', h1, h2, -⟩ := key i u hi
    obtain ⟨v', h3, h4, -⟩ := key j v hj
    exact hD.1 i j u' v' h1 h3 (by rw [h2, h4, e])
  · obtain ⟨q', h1, h2, -⟩ := key k q hk
    rw [← h2]
    exact hD.2 k q' h1
theorem wCs_ext {cI : ClassId} {b b' : Nat → Nat → Nat} : ∀ {i : Nat}, (∀ j, j < i → b j = b' j) → wCs cI b i = wCs cI b' i
  | 0, _ => rfl
  | i + 1, h => by rw [wCs, wCs, wCs_ext (fun j hj => h j (by omega)), h i (by omega)]
theorem dfX0 : ∀ j, j < 7 → defaultValue (tyX0 j) = vp_V frX0 j := by
  intro j hj
  rcases (show j = 0 ∨ j = 1 ∨ j = 2 ∨ j = 3 ∨ j = 4 ∨ j = 5 ∨ j = 6 by omega) with rfl | rfl | rfl | rfl | rfl | rfl | rfl <;> rfl
abbrev odW (cI cQ : ClassId) (h0 qa : Nat) (f : Nat → Option Nat) (b : Nat → Nat → Nat) (i : Nat) : va_W := [(h0, .inr (2, [.ref qa, .int 0, .int 0, .int 0, .int 0, .int 0])), (qa, .inl (cQ, 8, .inr (.inr (.inr (.inr f)))))] ++ wCs cI b i
set_option maxHeartbeats 4000000 in
theorem odds_loop {p : Program} {l : Launch} {e : Env} {R : Room} {s : State} {m : MethodId} {args : Array Value} {below : List Frame} {meth : Method} {c : Code} {Q : State → Prop} {G : va_G} {cI cQ : ClassId} {A : Nat → Prop} {h0 qa : Nat} (S : CallFix p m c cX2_init 2 s args zgt RX2) (hK : va_K G zcls [(cI, .int), (cQ, .object RX0)] s) (hAO : va_AO RX0 s) (hN : ∀ w ∈ zNW, va_Nw w s) (hA : ∀ q, s.heap.size ≤ q → A q) (hR : 2 ≤ R.frames ∧ 60 ≤ R.locals ∧ 49 ≤ R.cells ∧ 384 ≤ R.slots)
    (kx : ∀ (b : Nat → Nat → Nat) (H : Heap) (locs : List Loc) (ls : Array Slot), va_P G zcls (odW cI cQ h0 qa (fun j => some (b j 0)) b 8) H → va_D A (odW cI cQ h0 qa (fun j => some (b j 0)) b 8) → va_S A s.heap H locs → W p l e R s m args below meth c H locs 49 384 Q (F0 m 40 ls [])) :
    ∀ (r i : Nat) (b : Nat → Nat → Nat) (f : Nat → Option Nat) (cells slots : Nat) (H : Heap) (locs : List Loc) (ls : Array Slot), i + r = 8 → cells = 1 + 6 * i → slots = 8 + 47 * i → (∀ j, j < i → f j = some (b j 0)) → va_P G zcls (odW cI cQ h0 qa f b i) H → va_D A (odW cI cQ h0 qa f b i) → va_S A s.heap H locs → lv_has ls 2 [(1, .int (nI i)), (0, .ref h0)] → W p l e R s m args below meth c H locs cells slots Q (F0 m 15 ls []) := by
  obtain ⟨hx, hb, hml, hown, hts⟩ := id S
  intro r
  induction r with
  | zero =>
    intro i b f cells slots H locs ls ei ec es hf hP hD hS hl
    have ei : i = 8 := by omega
    subst ei
    refine lv_iload_n hx hb dX2_init_15 rfl (lv_at hl 0 rfl) ?_
    refine lv_bipush (v := nI 7) hx hb dX2_init_16 (by decide) ?_
    refine lv_icmp_gt (tgt := 40) hx hb dX2_init_18 (by decide) (fun _ => ?_) (fun hc => absurd (nI_lt (by omega) (by omega)) hc)
    obtain ⟨hP2, hD2⟩ := zP_refs (g := fun j => some (b j 0)) (fun j hj => hf j hj) hP hD
    subst ec; subst es
    exact kx b H locs ls hP2 hD2 hS
  | succ r ih =>
    intro i b f cells slots H locs ls ei ec es hf hP hD hS hl
    refine lv_iload_n hx hb dX2_init_15 rfl (lv_at hl 0 rfl) ?_
    refine lv_bipush (v := nI 7) hx hb dX2_init_16 (by decide) ?_
    refine lv_icmp_gt (tgt := 40) hx hb dX2_init_18 (by decide) (fun hc => absurd hc (nI_nlt (by omega) (by omega))) (fun _ => ?_)
    refine lv_aload_n hx hb dX2_init_21 rfl (lv_at hl 1 rfl) ?_
    refine va_get (D := G) (ci := 2) (v := .ref qa) (C := RX2) (T := TX2) (N := 6) hx hb hts uwX2 hown hK hP 0 rfl rfl 0 (by decide) (hts _ fkX2_11) (fun _ h9 => h9) rfl dX2_init_22 ?_
    refine lv_iload_n hx hb dX2_init_25 rfl (lv_at hl 0 rfl) ?_
    refine va_new (ci := 0) (fs := frX0) (C := RX0) (T := TX0) (N := 7) hx hb hts uwX0 tyX0 tyX0_ok hown (hts _ clX2_9) (hts _ inX0) (hts _ niRX0) hK hP hD hS hA rfl dfX0 (by omega) (by omega) dX2_init_26 (fun q H hP hD hS => ?_)
    refine lv_dup hx hb dX2_init_29 rfl ?_
    refine zc_init (rest := [.ref q, .int (nI i), .ref qa]) S conX0 liX2_17 rfl rfl knX0_init hK hAO hN hP hD hS hA hl.1 (Nat.le_of_ble_eq_true rfl) ⟨by omega, by show 8 + (1 + 11) + 40 * 1 ≤ R.locals; omega⟩ ⟨by omega, by omega⟩ dX2_init_30 (fun w1 H locs hB hP hD hS => ?_)
    obtain ⟨a, ha0, rfl⟩ := hB
    refine va_astq (D := G) hx hb hK hP hD hS 1 1 (odW cI cQ h0 qa f b i).length 0 (n := 8) (f := f) rfl rfl (v := q) (vs := [.ref (a 1), .ref (a 2), .ref (a 3), .ref (a 4), .ref (a 5), .int 0, .int 0]) ?_ rfl (vp_in_nI (by omega) (by omega)) dX2_init_33 (fun H locs hP hD hS => ?_)
    · rw [List.getElem?_append_right (Nat.le_refl _), Nat.sub_self, ← ha0]
      rfl
    have eb : wCs cI b i ++ wCy cI a = wCs cI (fun j => if j = i then a else b j) (i + 1) := by
      rw [wCs, wCs_ext (b := fun j => if j = i then a else b j) (b' := b) (fun j hj => by show (if j = i then a else b j) = b j; rw [if_neg (by omega)])]
      show _ = wCs cI b i ++ wCy cI (if i = i then a else b i)
      rw [if_pos rfl]
    have ew : ((odW cI cQ h0 qa f b i ++ wCy cI a).set 1 (qa, .inl (cQ, 8, .inr (.inr (.inr (.inr (va_up f (nI i).toNatClampNeg (some q)))))))) = odW cI cQ h0 qa (va_up f i (some q)) (fun j => if j = i then a else b j) (i + 1) := by
      rw [nI_clamp (by omega)]
      show _ = [_, _] ++ wCs cI (fun j => if j = i then a else b j) (i + 1)
      rw [← eb]
      rfl
    rw [ew] at hP hD
    refine lv_iinc (v := nI (i + 1)) (lv' := [(1, .int (nI (i + 1))), (0, .ref h0)]) hx hb dX2_init_34 hl (k := 0) rfl (nI_1 i) (by decide) rfl (fun ls hl => ?_)
    refine lv_goto (tgt := 15) hx hb dX2_init_37 (by decide) ?_
    refine ih (i + 1) (fun j => if j = i then a else b j) _ _ _ H locs ls (by omega) (by omega) (by omega) (fun j hj => ?_) hP hD hS hl
    unfold va_up
    by_cases z : j = i
    · subst z
      simp [ha0]
    · simp only [z, if_false]
      exact hf j (by omega)
set_option maxHeartbeats 4000000 in
set_option maxRecDepth 100000 in
theorem conX2 : ZCon mdX2_init 2 frX2 49 384 2 (fun cI cQ h w => ∃ (a : Nat → Nat) (b : Nat → Nat → Nat), a 0 = h ∧ w = wOd cI cQ a b) := by
  intro l G cI cQ h0 sz
  refine Met.ofW (cc := cX2_init) (maxL := 2) (ret := none) (by decide) rfl ?_
  intro p e s m args below meth c s₁ B hml hv
  obtain ⟨rfl, hsz, hP, hK, hAO, hNw⟩ := hv
  have hx := B.exec
  have hb := B.bytes
  have hr := B.returns
  have hts0 := atoms_spec (ws := Cond.code yX2_init cX2_init 2 none :: zgt) B.pre
  have hts : ∀ w ∈ zgt, w.before [Value.ref h0].toArray s = true := fun w hw => hts0 w (List.mem_cons_of_mem _ hw)
  have hown : s.vm.findClass RX2 = some m.cls := findClass_of_methodNamed B.named
  have hlocks := B.notSynchronized
  have hin : meth.name = "<init>" := (name_of_methodNamed B.named B.method).1
  subst hsz
  have hD : va_D (va_A [(h0, .inr (2, frX2))] s.heap.size) [(h0, .inr (2, frX2))] := va_D.one (Or.inl ⟨0, _, rfl⟩)
  generalize hAe : va_A [(h0, .inr (2, frX2))] s.heap.size = A at hD ⊢
  have hA : ∀ q : Nat, s.heap.size ≤ q → A q := fun q h => by rw [← hAe]; exact Or.inr h
  have hS : va_S A s.heap s.heap [] := va_S.rf
  have hl := lv_entry ([.ref h0]) (n := 2) (Nat.le_of_ble_eq_true rfl)
  rw [lg_entry_eq]
  generalize (lg_sl ([.ref h0]) ++ List.replicate (2 - (lg_sl ([.ref h0])).length) Slot.unset).toArray = ls at hl ⊢
  have hl : lv_has ls 2 [(0, .ref h0)] := hl
  refine lv_aload_n hx hb dX2_init_0 rfl (lv_at hl 0 rfl) ?_
  refine W.objInit hx hb hown (hts _ oiX2) (hts _ oiI) (hts _ oiC) rfl (by rw [hml]; exact hl.1) rfl dX2_init_1 (Nat.le_of_ble_eq_true rfl) (Nat.le_of_ble_eq_true rfl) ?_
  refine W.eq (g2 := F0 m 4 ls []) rfl ?_
  refine lv_aload_n hx hb dX2_init_4 rfl (lv_at hl 0 rfl) ?_
  refine lv_bipush (v := nI 8) hx hb dX2_init_5 (by decide) ?_
  refine va_newq (C := RX0) (N' := 8) hx hb hown (hts _ clX2_9) hAO hK hP hD hS hA (by decide) (by decide) (by decide) (Nat.le_of_ble_eq_true rfl) (Nat.le_of_ble_eq_true rfl) dX2_init_7 (fun qa cA H hK1 hP hD hS => ?_)
  obtain ⟨-, -, -, -, -, h1⟩ := (hK.2 1 (cQ, .object RX0) rfl).2
  obtain ⟨-, -, -, -, -, h2⟩ := (hK1.2 2 (cA, .object RX0) rfl).2
  have ec : cQ = cA := Option.some.inj (h1.symm.trans h2)
  subst ec
  refine va_putF (D := G) (ci := 2) (v := .ref qa) (ty := .array (.object RX0)) (C := RX2) (T := TX2) (N := 6) hx hb hts uwX2 tyX2 tyX2_ok nmX2 hown hK hP hD hS 0 rfl rfl 0 (by decide) (hts _ fkX2_11) (fun _ h9 => h9) rfl hin rfl (by decide +kernel) rfl rfl (Nat.le_of_ble_eq_true rfl) dX2_init_10 (fun H locs hP hD hS => ?_)
  have hP : va_P G zcls (odW cI cQ h0 qa (fun _ => none) (fun _ _ => 0) 0) H := hP
  have hD : va_D A (odW cI cQ h0 qa (fun _ => none) (fun _ _ => 0) 0) := hD
  refine lv_iconst (v := nI 0) hx hb dX2_init_13 (by decide) ?_
  refine lv_istore_n (lv' := [(1, .int (nI 0)), (0, .ref h0)]) hx hb dX2_init_14 rfl hl (by decide) rfl (fun ls hl => ?_)
  refine odds_loop ⟨hx, hb, hml, hown, hts⟩ hK hAO hNw hA ⟨(Nat.le_of_ble_eq_true rfl), (Nat.le_of_ble_eq_true rfl), (Nat.le_of_ble_eq_true rfl), (Nat.le_of_ble_eq_true rfl)⟩ (fun b H locs ls hP hD hS => ?_) 8 0 (fun _ _ => 0) (fun _ => none) _ _ H locs ls rfl rfl rfl (fun j hj => absurd hj (Nat.not_lt_zero j)) hP hD hS hl
  have hP : va_P G zcls (wOd cI cQ (fun k => [h0, qa].getD k 0) b) H := hP
  have hD : va_D A (wOd cI cQ (fun k => [h0, qa].getD k 0) b) := hD
  exact W.vret hx hb hr (fun t ht hW => ⟨⟨wOd cI cQ (fun k => [h0, qa].getD k 0) b, rfl, ⟨(fun k => [h0, qa].getD k 0), b, rfl, rfl⟩, by rw [ht]; exact hP, hD⟩, hS.F ht⟩) hS.2.2 dX2_init_40
