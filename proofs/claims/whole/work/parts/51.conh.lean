/-! constructors: how their worlds grow -/
def zA (cI : ClassId) (q n : Nat) : Nat × va_E := (q, .inl (cI, n, .inl (fun _ => 0)))
def wCy (cI : ClassId) (a : Nat → Nat) : va_W := [(a 0, .inr (0, [.ref (a 1), .ref (a 2), .ref (a 3), .ref (a 4), .ref (a 5), .int 0, .int 0])), zA cI (a 1) 8, zA cI (a 2) 8, zA cI (a 3) 8, zA cI (a 4) 8, zA cI (a 5) 8]
def wLe (cI : ClassId) (a : Nat → Nat) : va_W := [(a 0, .inr (1, [.ref (a 1), .int 0])), zA cI (a 1) 96]
def wTi (cI : ClassId) (a : Nat → Nat) : va_W := [(a 0, .inr (5, [.ref (a 1), .int 0])), zA cI (a 1) 8]
def wSe (cI : ClassId) (a : Nat → Nat) : va_W := [(a 0, .inr (4, [.ref (a 1), .ref (a 2), .int 0])), zA cI (a 1) 8, zA cI (a 2) 8]
def wPa (cI : ClassId) (a : Nat → Nat) : va_W := [(a 0, .inr (3, [.ref (a 1), .ref (a 2), .ref (a 3), .int 0])), zA cI (a 1) 256, zA cI (a 2) 8, zA cI (a 3) 8]
def wCs (cI : ClassId) (b : Nat → Nat → Nat) : Nat → va_W
  | 0 => []
  | i + 1 => wCs cI b i ++ wCy cI (b i)
def wOd (cI cQ : ClassId) (a : Nat → Nat) (b : Nat → Nat → Nat) : va_W := [(a 0, .inr (2, [.ref (a 1), .int 0, .int 0, .int 0, .int 0, .int 0])), (a 1, .inl (cQ, 8, .inr (.inr (.inr (.inr (fun j => some (b j 0)))))))] ++ wCs cI b 8
theorem zjoin {A0 : Nat → Prop} {G : va_G} {ws w1 : va_W} {x : Nat × va_E} {H H1 : Heap} (hP : va_P G zcls (ws ++ [x]) H) (hD : va_D A0 (ws ++ [x])) (hk : ∀ q : Nat, q < H.size → ¬ va_A [x] H.size q → H1[q]? = H[q]?) (hF : ∀ q, va_A [x] H.size q → A0 q) (hP1 : va_P G zcls w1 H1) (hD1 : va_D (va_A [x] H.size) w1) : va_P G zcls (ws ++ w1) H1 ∧ va_D A0 (ws ++ w1) := by
  have left : ∀ (k : Nat) (q : Nat × va_E), ws[k]? = some q → (ws ++ [x])[k]? = some q := fun k q h => by
    rw [List.getElem?_append_left (List.getElem?_eq_some_iff.mp h).1]; exact h
  have apart : ∀ (k : Nat) (q : Nat × va_E), ws[k]? = some q → q.1 < H.size ∧ ¬ va_A [x] H.size q.1 := by
    intro k q h
    have hl := (hP k q (left k q h)).lt
    refine ⟨hl, fun z => ?_⟩
    rcases z with ⟨k2, e, h2⟩ | h2
    · have hk2 : k2 < 1 := (List.getElem?_eq_some_iff.mp h2).1
      rw [show k2 = 0 by omega] at h2
      have h2 : x = (q.1, e) := Option.some.inj h2
      have := hD.1 k ws.length q x (left k q h) (by simp) (by rw [h2])
      have hkl : k < ws.length := (List.getElem?_eq_some_iff.mp h).1
      omega
    · omega
  exact ⟨va_P.app (fun k q h => (hP k q (left k q h)).kept (hk _ (apart k q h).1 (apart k q h).2)) hP1, va_D.app ⟨fun i j u v hi hj e => hD.1 i j u v (left i u hi) (left j v hj) e, fun k q h => hD.2 k q (left k q h)⟩ (hD1.weaken (fun k q _ h => hF q.1 h)) (fun i j u v hi hj e => (apart i u hi).2 (by rw [e]; exact hD1.2 j v hj))⟩
/-- a constructor's contract -/
def ZCon (m2 : ZMD) (ci : Nat) (fr : List Value) (mc ms d : Nat) (B : ClassId → ClassId → Nat → va_W → Prop) : Prop := ∀ (l : Launch) (G : va_G) (cI cQ : ClassId) (h0 sz : Nat), Met l m2.1 (Cond.code m2.1 m2.2.1 m2.2.2.1 m2.2.2.2 :: zgt) { frames := d, cells := mc, slots := ms, locals := 40 * d } (va_Pc [.ref h0] (fun U => U.heap.size = sz ∧ va_P G zcls [(h0, .inr (ci, fr))] U.heap ∧ va_K G zcls [(cI, .int), (cQ, .object RX0)] U ∧ va_AO RX0 U ∧ ∀ w ∈ zNW, va_Nw w U)) (va_Qv (fun w1 : va_W => B cI cQ h0 w1) (fun w1 t => va_P G zcls w1 t.heap ∧ va_D (va_A [(h0, .inr (ci, fr))] sz) w1) (va_A [(h0, .inr (ci, fr))] sz)) mc ms (va_A [(h0, .inr (ci, fr))] sz)
section
variable {p : Program} {l : Launch} {e : Env} {R : Room} {s : State} {m : MethodId} {args : Array Value} {below : List Frame} {meth : Method} {c : Code} {H : Heap} {locs : List Loc} {cells slots : Nat} {Q : State → Prop} {cc : ByteArray} {pc : Nat} {ls : Array Slot} {rest : List Value} {G : va_G} {cI cQ : ClassId} {A : Nat → Prop} {ws : va_W}
theorem zc_newa (hx : p.tables.exec = Jvm.exec) (hb : c.code = cc) (harr : (Cond.arrayClass .int).before args s = true) (hK : va_K G zcls [(cI, .int), (cQ, .object RX0)] s) (hP : va_P G zcls ws H) (hD : va_D A ws) (hS : va_S A s.heap H locs) (hA : ∀ q, s.heap.size ≤ q → A q) (n : Nat) (hn : n < 1000) (hcells : cells + 1 ≤ R.cells) (hslots : slots + n ≤ R.slots) (hdg : decode cc pc = .ok (.newarray .int, 2))
    (kk : ∀ (q : Nat) (H1 : Heap), va_P G zcls (ws ++ [zA cI q n]) H1 → va_D A (ws ++ [zA cI q n]) → va_S A s.heap H1 locs → W p l e R s m args below meth c H1 locs (cells + 1) (slots + n) Q (F0 m (pc + 2) ls (.ref q :: rest))) : W p l e R s m args below meth c H locs cells slots Q (F0 m pc ls (.int (nI n) :: rest)) := by
  refine va_newa (atype := .int) (ty := .int) (a0 := (n, .inl (fun _ => 0))) hx hb harr rfl hK hP hD hS hA (fun cA => rfl) (nI_pos (by omega)) (nI_clamp (by omega)) ?_ hcells hslots hdg (fun q cA H1 hK1 hP1 hD1 hS1 => ?_)
  · show n * 4 ≤ 536870912
    omega
  · have h1 : s.vm.findClass ("[" ++ FieldType.int.toString) = some cI := (hK.2 0 (cI, .int) rfl).2
    have h2 : s.vm.findClass ("[" ++ FieldType.int.toString) = some cA := (hK1.2 2 (cA, .int) rfl).2
    have e : cI = cA := Option.some.inj (h1.symm.trans h2)
    subst e
    exact kk q H1 hP1 hD1 hS1
theorem zc_init {m2 : ZMD} {ci mc ms d nL idx h : Nat} {fr : List Value} {B : ClassId → ClassId → Nat → va_W → Prop} {own : String} (S : CallFix p m c cc nL s args zgt own) (hC : ZCon m2 ci fr mc ms d B) (lk : zlk own idx m2 0) (hy1 : m2.1.name = "<init>") (hret : m2.2.2.2 = none) (hin : Cond.instanceMethod m2.1 ∈ zgt) (hK : va_K G zcls [(cI, .int), (cQ, .object RX0)] s) (hAO : va_AO RX0 s) (hN : ∀ w ∈ zNW, va_Nw w s) (hP : va_P G zcls (ws ++ [(h, .inr (ci, fr))]) H) (hD : va_D A (ws ++ [(h, .inr (ci, fr))])) (hS : va_S A s.heap H locs) (hA : ∀ q, s.heap.size ≤ q → A q) (hls : ls.size = nL) (hcat : (rest.map fun v => v.category).sum ≤ 8) (hroom : d + 1 ≤ R.frames ∧ 8 + (m2.2.2.1 + 11) + 40 * d ≤ R.locals) (hcs : cells + mc ≤ R.cells ∧ slots + ms ≤ R.slots) (hdg : decode cc pc = .ok (.invokespecial idx, 3))
    (kk : ∀ (w1 : va_W) (H1 : Heap) (locs1 : List Loc), B cI cQ h w1 → va_P G zcls (ws ++ w1) H1 → va_D A (ws ++ w1) → va_S A s.heap H1 locs1 → W p l e R s m args below meth c H1 locs1 (cells + mc) (slots + ms) Q (F0 m (pc + 3) ls rest)) : W p l e R s m args below meth c H locs cells slots Q (F0 m pc ls (.ref h :: rest)) := by
  obtain ⟨y2, cc2, mL2, rt2⟩ := m2
  cases hret
  obtain ⟨h1, h2, h3, h4, h5⟩ := lk
  have hPc : va_P G zcls [(h, .inr (ci, fr))] H := hP.sub [ws.length] (by simp)
  have hFc := va_free (wc := [(h, .inr (ci, fr))]) hD hS hA [ws.length] (by simp)
  have hpre : PreS s H (va_Pc [.ref h] (fun U => U.heap.size = H.size ∧ va_P G zcls [(h, .inr (ci, fr))] U.heap ∧ va_K G zcls [(cI, .int), (cQ, .object RX0)] U ∧ va_AO RX0 U ∧ ∀ w ∈ zNW, va_Nw w U)) (.ref h :: []) := by
    refine ⟨fun a U g mk q => ⟨q.1, q.2.1, q.2.2.1, va_K.moved (u := U) (U := U.calling g mk a) (Vm.Alike.refl U.vm) q.2.2.2.1, va_AO.moved (u := U) (U := U.calling g mk a) (Vm.Alike.refl U.vm) q.2.2.2.2.1, fun w hw => zNW_same (u := U) (U := U.calling g mk a) hw rfl (q.2.2.2.2.2 w hw)⟩, fun U hU hW => ⟨rfl, by rw [hU], by rw [hU]; exact hPc, va_K.moved hW.alike hK, va_AO.moved hW.alike hAO, fun w hw => zNW_warm hw hW (hN w hw)⟩⟩
  have fin : ∀ (w1 : va_W) (t : State) (H1 : Heap) (locs1 : List Loc), t.heap = H1 → s.vm.Alike t.vm → B cI cQ h w1 → va_P G zcls w1 t.heap ∧ va_D (va_A [(h, .inr (ci, fr))] H.size) w1 → H.size ≤ H1.size → (∀ q : Nat, q < H.size → ¬ va_A [(h, .inr (ci, fr))] H.size q → H1[q]? = H[q]?) → va_S A s.heap H1 locs1 → W p l e R s m args below meth c H1 locs1 (cells + mc) (slots + ms) Q (F0 m (pc + 3) ls rest) := by
    intro w1 t H1 locs1 ht _ hB hPD _ hk1 hS1
    have hP1 := hPD.1
    rw [ht] at hP1
    obtain ⟨hP2, hD2⟩ := zjoin hP hD hk1 hFc hP1 hPD.2
    exact kk w1 H1 locs1 hB hP2 hD2 hS1
  rcases h1 with h1 | ⟨host, h1⟩
  · exact va_callv (va_runI (As := []) (rest := rest) S (hC l G cI cQ h H.size) (cwI 0 S.2.2.2.2 (zgoodin h3) rfl rfl rfl (S.2.2.2.2 _ h2) (S.2.2.2.2 _ h1) (S.2.2.2.2 _ hin) hy1 h4 hroom) hpre rfl rfl hls rfl (lv_room hcat) hdg hcs) hS (fun q _ z => hFc q z) hFc fin
  · exact va_callv (va_runIN (As := []) (rest := rest) S (hC l G cI cQ h H.size) ⟨va_cnB 0 S.2.2.2.2 (zgoodin h3) rfl rfl rfl (hN _ h1) (S.2.2.2.2 _ h2) h4 hroom, hy1, S.2.2.2.2 _ hin⟩ hpre rfl rfl hls rfl (lv_room hcat) hdg hcs) hS (fun q _ z => hFc q z) hFc fin
end
theorem va_D.one {A : Nat → Prop} {x : Nat × va_E} (h : A x.1) : va_D A [x] := by
  refine ⟨fun i j p q hi hj _ => ?_, fun k q hk => ?_⟩
  · have h1 : i < 1 := (List.getElem?_eq_some_iff.mp hi).1
    have h2 : j < 1 := (List.getElem?_eq_some_iff.mp hj).1
    omega
  · have h1 : k < 1 := (List.getElem?_eq_some_iff.mp hk).1
    rw [show k = 0 by omega] at hk
    cases hk
    exact h
def frX0 : List Value := [.null, .null, .null, .null, .null, .int 0, .int 0]
def frX1 : List Value := [.null, .int 0]
def frX2 : List Value := [.null, .int 0, .int 0, .int 0, .int 0, .int 0]
def frX3 : List Value := [.null, .null, .null, .int 0]
def frX4 : List Value := [.null, .null, .int 0]
def frX5 : List Value := [.null, .int 0]
def frX6 : List Value := [.null, .null, .null, .null, .int 0, .null, .null, .int 0, .null, .null, .null, .null, .null, .null, .null]
def frX7 : List Value := [.null, .null, .null, .null, .null, .null, .int 0, .int 0, .int 0, .null, .null, .null, .null, .int 0, .int 0, .int 0, .null, .int 0, .int 0, .int 0, .null, .null, .null, .null, .null, .null, .int 0, .int 0]
