/-! THE CLAIM OUT OF ONE WALK OF THE LAW'S BODY. Your part is whole_start (and what it stands on); all else here is the same for every law, but numbers. -/
def R_law : String := "CousinsByAgreementLaw"
def lw_P (b : Addr) (xs : List Int32) (args : Array Value) (s : State) : Prop := args = #[.ref b] ∧ s.IntsAt b xs ∧ xs.length ≤ 3584 ∧ (Jvm.Cond.and given_1 narrow_1).before args s = true
def lw_Q (_ : Array Value) (s : State) (o : Outcome) (t : State) : Prop := o = .returned (some (.int 1)) ∧ Framed s o t [] 600000 7302250
def lw_Z (below : List Frame) (a : Array Value) (s : State) : State → Prop := fun t => ∃ o, t.status = .running ∧ Ended t below o ∧ lw_Q a s o t
/-- the law's own end, with 1 on the stack, nothing written that was there before, its room as the claim has it -/
theorem lw_ret {p : Program} {l : Launch} {e : Env} {s : State} {m : MethodId} {below : List Frame} {meth : Method} {c : Code} {b : Nat} (hx : p.tables.exec = Jvm.exec) (hb : c.code = code) (hr : meth.sig.returnType = ret) (hlocks : meth.locks = false) {pc : Nat} {H : Heap} {ls : Array Slot} (hdg : decode code pc = .ok (.ireturn, 1)) : W p l e room_1 s m #[Value.ref b] below meth c H [] 600000 7302250 (lw_Z below #[Value.ref b] s) (F0 m pc ls [.int 1]) := by
  intro T hT X
  obtain ⟨fs, hret, hrun, hended, hW, hframe⟩ := X.leave (v := some (.int 1)) (hlocks := hlocks) (fun h => by rw [hr] at h; cases h)
  have hmeth' : T.vm.method? m = some meth := X.method'
  refine ⟨T.setFrames fs, ?_, .returned (some (.int 1)), hrun, hended, rfl, ⟨_, rfl⟩, hW, hframe⟩
  jvm_step X.here [X.here.top, hx, hb, hdg, hmeth', hr, ret, narrow_b1]
  (try refine ⟨rfl, ?_⟩); (try refine ⟨rfl, ?_⟩)
  first | (intro acts; rw [hret _ acts rfl rfl rfl]) | rw [hret _ _ rfl rfl rfl]
  exact Steps.refl _
/-- what holds at the law's entry: the machine, the code, the tables' words (any of lw_tbl by 'hts w (by decide +kernel)'), the script of L ints xs at the cell b, what the Statement gives of the start (any of its parts by flat_of_before) -/
def lw_At (p : Program) (s : State) (m : MethodId) (meth : Method) (c : Code) (b L : Nat) (xs : Nat → Int32) : Prop :=
  p.tables.exec = Jvm.exec ∧ c.code = code ∧ meth.sig.returnType = ret ∧ c.maxLocals = 4 ∧ s.vm.findClass R_law = some m.cls ∧ (∀ w ∈ lw_tbl, w.before #[Value.ref b] s = true) ∧ va_X b L xs s s.heap ∧ b < s.heap.size ∧ meth.locks = false ∧ (Jvm.Cond.and given_1 narrow_1).before #[Value.ref b] s = true
/-! the law's judgement: at its pc, with i ints read, this stack, this memory -/
def LC (p : Program) (s : State) (m : MethodId) (meth : Method) (c : Code) (G : va_G) (cI cQ : ClassId) (ad : Nat → Nat) (A : Nat → Prop) (b L : Nat) (xs : Nat → Int32) : Prop := CallFix p m c code 4 s #[Value.ref b] zgt RL ∧ ZK G cI cQ ad A s s.heap ∧ va_X b L xs s s.heap ∧ b < s.heap.size ∧ ¬ A b ∧ meth.sig.returnType = ret ∧ meth.locks = false ∧ (∀ q, A q → s.heap.size ≤ q)
def LJ (p : Program) (l : Launch) (e : Env) (s : State) (m : MethodId) (below : List Frame) (meth : Method) (c : Code) (G : va_G) (cI cQ : ClassId) (ad : Nat → Nat) (A : Nat → Prop) (b : Nat) (pc i : Nat) (st : List Value) (M : ZMem) : Prop := ∀ (H : Heap) (locs : List Loc) (ls : Array Slot), ZW G cI cQ ad A M H → va_S A s.heap H locs → lv_has ls 4 [(3, .int (nI i)), (2, .ref (ad 90)), (1, .ref (ad 0)), (0, .ref b)] → W p l e room_1 s m #[Value.ref b] below meth c H locs 108 1876 (lw_Z below #[Value.ref b] s) (F0 m pc ls st)
section
variable {p : Program} {l : Launch} {e : Env} {s : State} {m : MethodId} {below : List Frame} {meth : Method} {c : Code} {G : va_G} {cI cQ : ClassId} {ad : Nat → Nat} {A : Nat → Prop} {b L : Nat} {xs : Nat → Int32} {pc pc' i : Nat} {st : List Value} {M : ZMem}
theorem lj_a1 (C : LC p s m meth c G cI cQ ad A b L xs) (hd : decode code pc = .ok (.aload_n 1, 1)) (hp : pc + 1 = pc') (k : LJ p l e s m below meth c G cI cQ ad A b pc' i (.ref (ad 0) :: st) M) : LJ p l e s m below meth c G cI cQ ad A b pc i st M := by
  subst hp
  intro H locs ls hW hS hl
  exact lv_aload_n C.1.1 C.1.2.1 hd rfl (lv_at hl 2 rfl) (k H locs ls hW hS hl)
theorem lj_a2 (C : LC p s m meth c G cI cQ ad A b L xs) (hd : decode code pc = .ok (.aload_n 2, 1)) (hp : pc + 1 = pc') (k : LJ p l e s m below meth c G cI cQ ad A b pc' i (.ref (ad 90) :: st) M) : LJ p l e s m below meth c G cI cQ ad A b pc i st M := by
  subst hp
  intro H locs ls hW hS hl
  exact lv_aload_n C.1.1 C.1.2.1 hd rfl (lv_at hl 1 rfl) (k H locs ls hW hS hl)
theorem lj_a0 (C : LC p s m meth c G cI cQ ad A b L xs) (hd : decode code pc = .ok (.aload_n 0, 1)) (hp : pc + 1 = pc') (k : LJ p l e s m below meth c G cI cQ ad A b pc' i (.ref b :: st) M) : LJ p l e s m below meth c G cI cQ ad A b pc i st M := by
  subst hp
  intro H locs ls hW hS hl
  exact lv_aload_n C.1.1 C.1.2.1 hd rfl (lv_at hl 3 rfl) (k H locs ls hW hS hl)
theorem lj_i3 (C : LC p s m meth c G cI cQ ad A b L xs) (hd : decode code pc = .ok (.iload_n 3, 1)) (hp : pc + 1 = pc') (k : LJ p l e s m below meth c G cI cQ ad A b pc' i (.int (nI i) :: st) M) : LJ p l e s m below meth c G cI cQ ad A b pc i st M := by
  subst hp
  intro H locs ls hW hS hl
  exact lv_iload_n C.1.1 C.1.2.1 hd rfl (lv_at hl 0 rfl) (k H locs ls hW hS hl)
theorem lj_ic {n : Int} {v : Int32} (C : LC p s m meth c G cI cQ ad A b L xs) (hd : decode code pc = .ok (.iconst n, 1)) (hp : pc + 1 = pc') (hv : Int32.ofInt n = v) (k : LJ p l e s m below meth c G cI cQ ad A b pc' i (.int v :: st) M) : LJ p l e s m below meth c G cI cQ ad A b pc i st M := by
  subst hp
  intro H locs ls hW hS hl
  exact lv_iconst C.1.1 C.1.2.1 hd hv (k H locs ls hW hS hl)
theorem lj_bi {n : Int} {v : Int32} (C : LC p s m meth c G cI cQ ad A b L xs) (hd : decode code pc = .ok (.bipush n, 2)) (hp : pc + 2 = pc') (hv : (Int8.ofInt n).toInt32 = v) (k : LJ p l e s m below meth c G cI cQ ad A b pc' i (.int v :: st) M) : LJ p l e s m below meth c G cI cQ ad A b pc i st M := by
  subst hp
  intro H locs ls hW hS hl
  exact lv_bipush C.1.1 C.1.2.1 hd hv (k H locs ls hW hS hl)
theorem lj_add {x y z : Int32} (C : LC p s m meth c G cI cQ ad A b L xs) (hd : decode code pc = .ok (.iadd, 1)) (hp : pc + 1 = pc') (hz : x + y = z) (k : LJ p l e s m below meth c G cI cQ ad A b pc' i (.int z :: st) M) : LJ p l e s m below meth c G cI cQ ad A b pc i (.int y :: .int x :: st) M := by
  subst hp; subst hz
  intro H locs ls hW hS hl
  exact lv_iadd C.1.1 C.1.2.1 hd (k H locs ls hW hS hl)
theorem lj_ld {j : Nat} (C : LC p s m meth c G cI cQ ad A b L xs) (hd : decode code pc = .ok (.iaload, 1)) (hp : pc + 1 = pc') (hj : j < L) (hL : L ≤ 3584) (k : LJ p l e s m below meth c G cI cQ ad A b pc' i (.int (xs j) :: st) M) : LJ p l e s m below meth c G cI cQ ad A b pc i (.int (nI j) :: .ref b :: st) M := by
  subst hp
  intro H locs ls hW hS hl
  refine va_sld C.1.1 C.1.2.1 C.2.2.1 C.2.2.2.1 C.2.2.2.2.1 hS (vp_in_nI hj (by omega)) hd ?_
  rw [nI_clamp (by omega)]
  exact k H locs ls hW hS hl
/-- an argument of the call: script[i + j] -/
theorem lj_arg {j : Nat} {n : Int} (C : LC p s m meth c G cI cQ ad A b L xs) (hL : L ≤ 3584) (hj : i + j < L) (d1 : decode code pc = .ok (.aload_n 0, 1)) (d2 : decode code (pc + 1) = .ok (.iload_n 3, 1)) (d3 : decode code (pc + 2) = .ok (.iconst n, 1)) (d4 : decode code (pc + 3) = .ok (.iadd, 1)) (d5 : decode code (pc + 4) = .ok (.iaload, 1)) (hn : Int32.ofInt n = nI j) (hp : pc + 5 = pc') (k : LJ p l e s m below meth c G cI cQ ad A b pc' i (.int (xs (i + j)) :: st) M) : LJ p l e s m below meth c G cI cQ ad A b pc i st M := by
  subst hp
  exact lj_a0 C d1 rfl (lj_i3 C d2 rfl (lj_ic C d3 rfl hn (lj_add C d4 rfl (nI_add i j) (lj_ld C d5 rfl hj hL k))))
theorem lj_arg6 {j : Nat} {n : Int} (C : LC p s m meth c G cI cQ ad A b L xs) (hL : L ≤ 3584) (hj : i + j < L) (d1 : decode code pc = .ok (.aload_n 0, 1)) (d2 : decode code (pc + 1) = .ok (.iload_n 3, 1)) (d3 : decode code (pc + 2) = .ok (.bipush n, 2)) (d4 : decode code (pc + 4) = .ok (.iadd, 1)) (d5 : decode code (pc + 5) = .ok (.iaload, 1)) (hn : (Int8.ofInt n).toInt32 = nI j) (hp : pc + 6 = pc') (k : LJ p l e s m below meth c G cI cQ ad A b pc' i (.int (xs (i + j)) :: st) M) : LJ p l e s m below meth c G cI cQ ad A b pc i st M := by
  subst hp
  exact lj_a0 C d1 rfl (lj_i3 C d2 rfl (lj_bi C d3 rfl hn (lj_add C d4 rfl (nI_add i j) (lj_ld C d5 rfl hj hL k))))
theorem z_callL {R : Room} {args : Array Value} {d : Nat} {H : Heap} {locs : List Loc} {cells slots : Nat} {Q : State → Prop} {Q2 : Option Value → ZMem → Prop} {a : Array Value} {ls : Array Slot} {st0 rest : List Value}
    (hr : va_Run p l e R s m args below meth c H locs cells slots 0 0 (F0 m pc ls st0) rest (ZQ G cI cQ ad A Q2 a) A) (hS : va_S A s.heap H locs)
    (kk : ∀ (v : Option Value) (M' : ZMem) (H1 : Heap) (locs1 : List Loc), Q2 v M' → ZW G cI cQ ad A M' H1 → va_S A s.heap H1 locs1 → W p l e R s m args below meth c H1 locs1 cells slots Q (F0 m (pc + 3) ls ((v.map (zc ad)).toList ++ rest))) : W p l e R s m args below meth c H locs cells slots Q (F0 m pc ls st0) := by
  intro T hT X
  obtain ⟨v0, st₀, t, T', L, h0, X', hL, e1, e2, ⟨⟨v, M', hv, hq, hw⟩, hz, hk⟩, st⟩ := hr T hT X
  cases hv
  rw [h0] at hz hk
  obtain ⟨t2, a1, b1⟩ := kk v M' T'.heap (locs ++ L) hq (by rw [e1]; exact hw)
    ⟨Nat.le_trans hS.1 (by rw [e1]; exact hz), fun q h1 h2 => by rw [e1, hk q (Nat.lt_of_lt_of_le h1 hS.1) h2]; exact hS.2.1 q h1 h2, fun q hq => by
      rcases List.mem_append.mp hq with h | h
      · exact hS.2.2 q h
      · exact hL q h⟩ T' rfl X'
  exact ⟨t2, st t2 a1, b1⟩
theorem lj_call {idx n bb ci d : Nat} {m2 : ZMD} {as st0 : List Value} {fs : List (Option Nat)} {Q2 : Option Value → ZMem → Prop} (C : LC p s m meth c G cI cQ ad A b L xs) (hd : decode code pc = .ok (.invokevirtual idx, 3)) (hp : pc + 3 = pc') (lk : zlkV RL idx m2 n) (hb : zshL[bb]? = some (.inr (.inl (ci, fs)))) (hci : (zcls[ci]?).map (fun q => q.1) = some m2.1.cls) (hn : as.length = n) (has : as.map (zc ad) = as) (hst : as.reverse ++ .ref (ad bb) :: st = st0) (hcat : (st.map fun v => v.category).sum ≤ 8) (hd20 : d ≤ 20) (hx : ZEx m2 d (.ref bb :: as) M Q2)
    (k : ∀ (v : Option Value) (M' : ZMem), Q2 v M' → LJ p l e s m below meth c G cI cQ ad A b pc' i ((v.map (zc ad)).toList ++ st) M') : LJ p l e s m below meth c G cI cQ ad A b pc i st0 M := by
  subst hp; subst hst
  intro H locs ls hW hS hl
  obtain ⟨S, hK, -⟩ := C
  obtain ⟨⟨h1, h2, h3, h4, h5⟩, h6, h7⟩ := lk
  have hbl : FrameBlind (va_Pc ((Value.ref bb :: as).map (zc ad)) (fun U => ZK G cI cQ ad A U U.heap ∧ ZW G cI cQ ad A M U.heap)) := fun a U g mk q => ⟨q.1, q.2.1.blind, q.2.2⟩
  obtain ⟨r, hr1, hr2⟩ := Option.map_eq_some_iff.mp hci
  have hrecv := va_recv (s := s) hK.1 hW.1 hr1 (zwl_at (cI := cI) (cQ := cQ) (ad := ad) (M := M) hb)
  rw [hr2] at hrecv
  have hpre : PreV s H m2.1.cls (ad bb) (va_Pc ((Value.ref bb :: as).map (zc ad)) (fun U => ZK G cI cQ ad A U U.heap ∧ ZW G cI cQ ad A M U.heap)) as := ⟨hbl, hrecv, fun U hU hWm => ⟨by rw [List.map_cons, has]; rfl, hK.go hS hU hWm, by rw [hU]; exact hW⟩⟩
  have hroom : (zrm d).frames + 1 ≤ room_1.frames ∧ 8 + (m2.2.2.1 + 11) + (zrm d).locals ≤ room_1.locals := ⟨by show d + 1 ≤ 2048; omega, by show 8 + (m2.2.2.1 + 11) + 40 * d ≤ 84000; omega⟩
  rcases h1 with h1 | ⟨host, h1⟩
  · exact z_callL (d := d) (va_runV (As := as) (rest := st) (n := n) S (hx l G cI cQ ad A) ⟨callB_of n S.2.2.2.2 (zgoodin h3) rfl rfl rfl (S.2.2.2.2 _ h2) (S.2.2.2.2 _ h1) h4 hroom, S.2.2.2.2 _ h6, S.2.2.2.2 _ h7⟩ hpre rfl hn hl.1 rfl (lv_room hcat) hd ⟨Nat.le_of_ble_eq_true rfl, Nat.le_of_ble_eq_true rfl⟩) hS (fun v M' H1 locs1 hq hw1 hS1 => k v M' hq H1 locs1 ls hw1 hS1 hl)
  · exact z_callL (d := d) (va_runVN (As := as) (rest := st) (n := n) S (hx l G cI cQ ad A) ⟨va_cnB n S.2.2.2.2 (zgoodin h3) rfl rfl rfl (hK.2.1 _ h1) (S.2.2.2.2 _ h2) h4 hroom, S.2.2.2.2 _ h6, S.2.2.2.2 _ h7⟩ hpre rfl hn hl.1 rfl (lv_room hcat) hd ⟨Nat.le_of_ble_eq_true rfl, Nat.le_of_ble_eq_true rfl⟩) hS (fun v M' H1 locs1 hq hw1 hS1 => k v M' hq H1 locs1 ls hw1 hS1 hl)
variable {idx n d : Nat} {m2 : ZMD} {as st0 : List Value} {z : ZS}
theorem lj_gx {sp : ZS → Int32 × ZS} (C : LC p s m meth c G cI cQ ad A b L xs) (hd : decode code pc = .ok (.invokevirtual idx, 3)) (hp : pc + 3 = pc') (lk : zlkV RL idx m2 n) (hci : (zcls[6]?).map (fun q => q.1) = some m2.1.cls) (hn : as.length = n) (has : as.map (zc ad) = as) (hst : as.reverse ++ .ref (ad 0) :: [] = st0) (hd20 : d ≤ 20) (g : zGx m2 d as sp) (hI : zIx M z) (hk : zSk z)
    (k : ∀ M', zIx M' (sp z).2 → zSame 0 90 M M' → LJ p l e s m below meth c G cI cQ ad A b pc' i [.int (sp z).1] M') : LJ p l e s m below meth c G cI cQ ad A b pc i st0 M :=
  lj_call C hd hp lk (bb := 0) rfl hci hn has hst (Nat.le_of_ble_eq_true rfl) hd20 (g M z hI hk) (fun v M' h => by
    obtain ⟨r, rfl, rfl, h2, h3⟩ := h
    exact k M' h2 h3)
theorem lj_gm {sp : ZS → Int32 × ZS} {x : Int32} (C : LC p s m meth c G cI cQ ad A b L xs) (hd : decode code pc = .ok (.invokevirtual idx, 3)) (hp : pc + 3 = pc') (lk : zlkV RL idx m2 n) (hci : (zcls[7]?).map (fun q => q.1) = some m2.1.cls) (hn : as.length = n) (has : as.map (zc ad) = as) (hst : as.reverse ++ .ref (ad 90) :: [.int x] = st0) (hd20 : d ≤ 20) (g : zGm m2 d as sp) (hI : zIm M z) (hk : zSk z)
    (k : ∀ M', zIm M' (sp z).2 → (∀ k, k < 90 → M' k = M k) → LJ p l e s m below meth c G cI cQ ad A b pc' i [.int (sp z).1, .int x] M') : LJ p l e s m below meth c G cI cQ ad A b pc i st0 M :=
  lj_call C hd hp lk (bb := 90) rfl hci hn has hst (Nat.le_of_ble_eq_true rfl) hd20 (g M z hI hk) (fun v M' h => by
    obtain ⟨r, rfl, rfl, h2, h3⟩ := h
    exact k M' h2 h3)
theorem lj_gxl {sp : ZS → Int64 × ZS} (C : LC p s m meth c G cI cQ ad A b L xs) (hd : decode code pc = .ok (.invokevirtual idx, 3)) (hp : pc + 3 = pc') (lk : zlkV RL idx m2 n) (hci : (zcls[6]?).map (fun q => q.1) = some m2.1.cls) (hn : as.length = n) (has : as.map (zc ad) = as) (hst : as.reverse ++ .ref (ad 0) :: [] = st0) (hd20 : d ≤ 20) (g : zGxl m2 d as sp) (hI : zIx M z) (hk : zSk z)
    (k : ∀ M', zIx M' (sp z).2 → zSame 0 90 M M' → LJ p l e s m below meth c G cI cQ ad A b pc' i [.long (sp z).1] M') : LJ p l e s m below meth c G cI cQ ad A b pc i st0 M :=
  lj_call C hd hp lk (bb := 0) rfl hci hn has hst (Nat.le_of_ble_eq_true rfl) hd20 (g M z hI hk) (fun v M' h => by
    obtain ⟨r, rfl, rfl, h2, h3⟩ := h
    exact k M' h2 h3)
theorem lj_gml {sp : ZS → Int64 × ZS} {x : Int64} (C : LC p s m meth c G cI cQ ad A b L xs) (hd : decode code pc = .ok (.invokevirtual idx, 3)) (hp : pc + 3 = pc') (lk : zlkV RL idx m2 n) (hci : (zcls[7]?).map (fun q => q.1) = some m2.1.cls) (hn : as.length = n) (has : as.map (zc ad) = as) (hst : as.reverse ++ .ref (ad 90) :: [.long x] = st0) (hd20 : d ≤ 20) (g : zGml m2 d as sp) (hI : zIm M z) (hk : zSk z)
    (k : ∀ M', zIm M' (sp z).2 → (∀ k, k < 90 → M' k = M k) → LJ p l e s m below meth c G cI cQ ad A b pc' i [.long (sp z).1, .long x] M') : LJ p l e s m below meth c G cI cQ ad A b pc i st0 M :=
  lj_call C hd hp lk (bb := 90) rfl hci hn has hst (Nat.le_of_ble_eq_true rfl) hd20 (g M z hI hk) (fun v M' h => by
    obtain ⟨r, rfl, rfl, h2, h3⟩ := h
    exact k M' h2 h3)
/-- both answers are one: the law goes on -/
theorem lj_eq {x : Int32} {off : Int} (C : LC p s m meth c G cI cQ ad A b L xs) (hd : decode code pc = .ok (.if_icmp .eq off, 3)) (ht : (pc : Int) + off = (1382 : Nat)) (k : LJ p l e s m below meth c G cI cQ ad A b 1382 i [] M) : LJ p l e s m below meth c G cI cQ ad A b pc i [.int x, .int x] M := by
  intro H locs ls hW hS hl
  exact lv_icmp_eq (tgt := 1382) C.1.1 C.1.2.1 hd ht (fun _ => k H locs ls hW hS hl) (fun h => absurd rfl h)
theorem lj_leq {x : Int64} {off : Int} (C : LC p s m meth c G cI cQ ad A b L xs) (hd : decode code pc = .ok (.lcmp, 1)) (hd2 : decode code (pc + 1) = .ok (.ifCond .eq off, 3)) (ht : ((pc + 1 : Nat) : Int) + off = (1382 : Nat)) (k : LJ p l e s m below meth c G cI cQ ad A b 1382 i [] M) : LJ p l e s m below meth c G cI cQ ad A b pc i [.long x, .long x] M := by
  intro H locs ls hW hS hl
  refine W.lcmp C.1.1 C.1.2.1 hd ?_
  refine lv_if_eq (tgt := 1382) C.1.1 C.1.2.1 hd2 ht (fun _ => k H locs ls hW hS hl) (fun h => absurd ?_ h)
  rw [lg_cmp_eq]
end
