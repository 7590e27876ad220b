/-! the core: an abstract memory of ints over a fixed layout of cells, and a judgement over it -/
abbrev ZMem : Type := Nat → Nat → Int32
abbrev ZLc : Type := List (Option Value)
abbrev ZMD : Type := MethodName × ByteArray × Nat × Option FieldType
/-- an int array of a length; an object of a class with its fields (none: an int; some r: the cell at place r); an array of references -/
abbrev ZSH : Type := Nat ⊕ ((Nat × List (Option Nat)) ⊕ (Nat × (Nat → Option Nat)))
def zgt : List Cond := lw_tbl.filter goodWord
theorem zgt_in {w : Cond} (h : w ∈ lw_tbl) (hg : goodWord w = true) : w ∈ zgt := List.mem_filter.mpr ⟨h, hg⟩
theorem zgt_good {w : Cond} (h : w ∈ zgt) : (w.onTables && w.keeps) = true ∨ ∃ ty, w = .arrayClass ty := good_of_word (List.mem_filter.mp h).2
def zisN : Cond → Bool
  | .methodLinkNest .. => true
  | .fieldLinkNest .. => true
  | _ => false
def zNW : List Cond := lw_tbl.filter zisN
theorem zNW_in {w : Cond} (h : w ∈ lw_tbl) (hg : zisN w = true) : w ∈ zNW := List.mem_filter.mpr ⟨h, hg⟩
theorem zNW_same {w : Cond} (hw : w ∈ zNW) {u U : State} (h : u.vm = U.vm) (hZ : va_Nw w u) : va_Nw w U := by
  have hn := (List.mem_filter.mp hw).2
  cases w <;> first | exact va_Nw.same rfl h hZ | (cases hn)
theorem zNW_warm {w : Cond} (hw : w ∈ zNW) {s U : State} (h : s.WarmedH U.vm) (hZ : va_Nw w s) : va_Nw w U := by
  have hn := (List.mem_filter.mp hw).2
  cases w <;> first | exact va_Nw.warmM h hZ | exact va_Nw.warmF h hZ | (cases hn)
abbrev zcls : List vw_C := [(RX0, TX0, 7), (RX1, TX1, 2), (RX2, TX2, 6), (RX3, TX3, 4), (RX4, TX4, 3), (RX5, TX5, 2), (RX6, TX6, 15), (RX7, TX7, 28)]
def zcy (o : Nat) : List ZSH := [.inr (.inl (0, [some (o + 1), some (o + 2), some (o + 3), some (o + 4), some (o + 5), none, none])), .inl 8, .inl 8, .inl 8, .inl 8, .inl 8]
def zshL : List ZSH :=
  [.inr (.inl (6, [some 1, some 7, some 13, some 19, none, some 25, some 27, none, some 28, some 29, some 31, some 34, some 38, some 88, some 89])),
  .inr (.inl (0, [some 2, some 3, some 4, some 5, some 6, none, none])), .inl 8, .inl 8, .inl 8, .inl 8, .inl 8,
  .inr (.inl (0, [some 8, some 9, some 10, some 11, some 12, none, none])), .inl 8, .inl 8, .inl 8, .inl 8, .inl 8,
  .inr (.inl (0, [some 14, some 15, some 16, some 17, some 18, none, none])), .inl 8, .inl 8, .inl 8, .inl 8, .inl 8,
  .inr (.inl (0, [some 20, some 21, some 22, some 23, some 24, none, none])), .inl 8, .inl 8, .inl 8, .inl 8, .inl 8,
  .inr (.inl (1, [some 26, none])), .inl 96, .inl 16, .inl 7,
  .inr (.inl (5, [some 30, none])), .inl 8,
  .inr (.inl (4, [some 32, some 33, none])), .inl 8, .inl 8,
  .inr (.inl (3, [some 35, some 36, some 37, none])), .inl 256, .inl 8, .inl 8,
  .inr (.inl (2, [some 39, none, none, none, none, none])), .inr (.inr (8, fun j => some (40 + 6 * j))),
  .inr (.inl (0, [some 41, some 42, some 43, some 44, some 45, none, none])), .inl 8, .inl 8, .inl 8, .inl 8, .inl 8,
  .inr (.inl (0, [some 47, some 48, some 49, some 50, some 51, none, none])), .inl 8, .inl 8, .inl 8, .inl 8, .inl 8,
  .inr (.inl (0, [some 53, some 54, some 55, some 56, some 57, none, none])), .inl 8, .inl 8, .inl 8, .inl 8, .inl 8,
  .inr (.inl (0, [some 59, some 60, some 61, some 62, some 63, none, none])), .inl 8, .inl 8, .inl 8, .inl 8, .inl 8,
  .inr (.inl (0, [some 65, some 66, some 67, some 68, some 69, none, none])), .inl 8, .inl 8, .inl 8, .inl 8, .inl 8,
  .inr (.inl (0, [some 71, some 72, some 73, some 74, some 75, none, none])), .inl 8, .inl 8, .inl 8, .inl 8, .inl 8,
  .inr (.inl (0, [some 77, some 78, some 79, some 80, some 81, none, none])), .inl 8, .inl 8, .inl 8, .inl 8, .inl 8,
  .inr (.inl (0, [some 83, some 84, some 85, some 86, some 87, none, none])), .inl 8, .inl 8, .inl 8, .inl 8, .inl 8,
  .inl 4, .inl 4,
  .inr (.inl (7, [some 91, some 92, some 93, some 94, some 95, some 96, none, none, none, some 97, some 98, some 99, some 100, none, none, none, some 101, none, none, none, some 102, some 103, some 104, some 105, some 106, some 107, none, none])),
  .inl 7, .inl 8, .inl 8, .inl 8, .inl 8, .inl 8, .inl 96, .inl 48, .inl 48, .inl 144, .inl 126, .inl 16, .inl 8, .inl 8, .inl 256, .inl 8, .inl 16]
def zsh (k : Nat) : ZSH := zshL.getD k (.inl 0)
theorem zsh_of {k : Nat} {x : ZSH} (h : zshL[k]? = some x) : zsh k = x ∧ k < 108 := by
  obtain ⟨h1, h2⟩ := List.getElem?_eq_some_iff.mp h
  refine ⟨?_, h1⟩
  rw [zsh, List.getD_eq_getElem?_getD, h]
  rfl
def zc (ad : Nat → Nat) : Value → Value
  | .ref k => .ref (ad k)
  | v => v
theorem zc_cat (ad : Nat → Nat) (v : Value) : (zc ad v).category = v.category := by cases v <;> rfl
def zfs (ad : Nat → Nat) (fs : List (Option Nat)) (f : Nat → Int32) : List Value := fs.zipIdx.map (fun q => match q.1 with
  | none => .int (f q.2)
  | some r => .ref (ad r))
theorem zfs_n {ad : Nat → Nat} {fs : List (Option Nat)} {f : Nat → Int32} {k : Nat} (h : fs[k]? = some none) : (zfs ad fs f)[k]? = some (.int (f k)) := by
  simp [zfs, List.getElem?_map, List.getElem?_zipIdx, h]
theorem zfs_s {ad : Nat → Nat} {fs : List (Option Nat)} {f : Nat → Int32} {k r : Nat} (h : fs[k]? = some (some r)) : (zfs ad fs f)[k]? = some (.ref (ad r)) := by
  simp [zfs, List.getElem?_map, List.getElem?_zipIdx, h]
theorem zfs_len {ad : Nat → Nat} {fs : List (Option Nat)} {f : Nat → Int32} : (zfs ad fs f).length = fs.length := by simp [zfs]
theorem zfs_set {ad : Nat → Nat} {fs : List (Option Nat)} {f : Nat → Int32} {k : Nat} {v : Int32} (h : fs[k]? = some none) : (zfs ad fs f).set k (.int v) = zfs ad fs (upd f k v) := by
  have hk := (List.getElem?_eq_some_iff.mp h).1
  apply List.ext_getElem?
  intro j
  rw [List.getElem?_set]
  by_cases hj : k = j
  · subst hj
    rw [if_pos rfl, if_pos (by rw [zfs_len]; exact hk), zfs_n h]
    simp [upd]
  · rw [if_neg hj]
    have hj' : ¬ j = k := fun e => hj e.symm
    simp only [zfs, List.getElem?_map, List.getElem?_zipIdx]
    cases hx : fs[j]? with
    | none => rfl
    | some o => cases o with
      | none => simp [upd, hj']
      | some r => rfl
def zcel (ad : Nat → Nat) (cI cQ : ClassId) (x : ZSH) (f : Nat → Int32) : va_E := match x with
  | .inl n => .inl (cI, n, .inl f)
  | .inr (.inl q) => .inr (q.1, zfs ad q.2 f)
  | .inr (.inr q) => .inl (cQ, q.1, .inr (.inr (.inr (.inr (fun j => (q.2 j).map ad)))))
def zwl (ad : Nat → Nat) (cI cQ : ClassId) (M : ZMem) : va_W := (List.range 108).map (fun k => (ad k, zcel ad cI cQ (zsh k) (M k)))
theorem zwl_at {ad : Nat → Nat} {cI cQ : ClassId} {M : ZMem} {k : Nat} {x : ZSH} (h : zshL[k]? = some x) : (zwl ad cI cQ M)[k]? = some (ad k, zcel ad cI cQ x (M k)) := by
  obtain ⟨h1, h2⟩ := zsh_of h
  simp [zwl, List.getElem?_map, List.getElem?_range h2, h1]
def zupf (M : ZMem) (b : Nat) (f : Nat → Int32) : ZMem := fun b' => if b' = b then f else M b'
def zup (M : ZMem) (b k : Nat) (v : Int32) : ZMem := zupf M b (upd (M b) k v)
theorem zwl_set {ad : Nat → Nat} {cI cQ : ClassId} {M : ZMem} {b : Nat} {x : ZSH} {f : Nat → Int32} (h : zshL[b]? = some x) : (zwl ad cI cQ M).set b (ad b, zcel ad cI cQ x f) = zwl ad cI cQ (zupf M b f) := by
  obtain ⟨h1, h2⟩ := zsh_of h
  apply List.ext_getElem?
  intro j
  rw [List.getElem?_set]
  by_cases hj : b = j
  · subst hj
    rw [if_pos rfl, if_pos (by simp [zwl]; exact h2)]
    simp [zwl, List.getElem?_map, List.getElem?_range h2, h1, zupf]
  · rw [if_neg hj]
    have hj' : ¬ j = b := fun e => hj e.symm
    simp only [zwl, List.getElem?_map]
    cases hx : (List.range 108)[j]? with
    | none => rfl
    | some y =>
      have hy : y = j := by
        obtain ⟨q1, q2⟩ := List.getElem?_eq_some_iff.mp hx
        simpa using q2.symm
      subst hy
      simp [zupf, hj']
/-- what is frozen: the tables' words, the String constant and a static of String -/
def ZK (G : va_G) (cI cQ : ClassId) (ad : Nat → Nat) (A : Nat → Prop) (U : State) (H : Heap) : Prop :=
  va_K G zcls [(cI, .int), (cQ, .object RX0)] U ∧ (∀ w ∈ zNW, va_Nw w U) ∧ vk_R RX1 41 "pltwda" (ad 1000) U ∧ vk_S 1 [6] [[112, 108, 116, 119, 100, 97]] (fun _ => ad 1000) (fun _ => ad 1001) A U H ∧ va_Z "java/lang/String" "COMPACT_STRINGS" "Z" (.int 1) A U H
theorem ZK.go {G : va_G} {cI cQ : ClassId} {ad : Nat → Nat} {A : Nat → Prop} {s U : State} {H : Heap} {locs : List Loc} (h : ZK G cI cQ ad A s s.heap) (hS : va_S A s.heap H locs) (hU : U.heap = H) (hW : s.WarmedH U.vm) : ZK G cI cQ ad A U U.heap := by
  obtain ⟨h1, h2, h3, h4, h5⟩ := h
  rw [hU]
  exact ⟨va_K.moved hW.alike h1, fun w hw => zNW_warm hw hW (h2 w hw), vk_R.warm hW h3, vk_S.moved hW.alike (vk_S.kept h4 hS.2.1), va_Z.moved hW.alike (va_Z.kept h5 hS.2.1)⟩
theorem ZK.blind {G : va_G} {cI cQ : ClassId} {ad : Nat → Nat} {A : Nat → Prop} {U : State} {g : JFrame} {mk : MethodId} {a : Array Value} (h : ZK G cI cQ ad A U U.heap) : ZK G cI cQ ad A (U.calling g mk a) (U.calling g mk a).heap := by
  obtain ⟨h1, h2, h3, h4, h5⟩ := h
  exact ⟨va_K.moved (u := U) (U := U.calling g mk a) (Vm.Alike.refl U.vm) h1, fun w hw => zNW_same (u := U) (U := U.calling g mk a) hw rfl (h2 w hw), vk_R.same (u := U) (U := U.calling g mk a) rfl h3, vk_S.moved (u := U) (U := U.calling g mk a) (Vm.Alike.refl U.vm) h4, va_Z.moved (u := U) (U := U.calling g mk a) (Vm.Alike.refl U.vm) h5⟩
def ZW (G : va_G) (cI cQ : ClassId) (ad : Nat → Nat) (A : Nat → Prop) (M : ZMem) (H : Heap) : Prop := va_P G zcls (zwl ad cI cQ M) H ∧ va_D A (zwl ad cI cQ M)
def zLH (ls : Array Slot) (nL : Nat) (L : ZLc) : Prop := ls.size = nL ∧ lv_wf ls ∧ ∀ (i : Nat) (v : Value), L[i]? = some (some v) → ls[i]? = some (.val v)
def zlist (L : ZLc) : List (Nat × Value) := L.zipIdx.filterMap (fun q => q.1.map (fun v => (q.2, v)))
theorem zlist_mem {L : ZLc} {q : Nat × Value} : q ∈ zlist L ↔ L[q.1]? = some (some q.2) := by
  constructor
  · intro h
    obtain ⟨x, hx, hq⟩ := List.mem_filterMap.mp h
    have hx' := List.mem_zipIdx_iff_getElem?.mp hx
    cases hx1 : x.1 with
    | none => rw [hx1] at hq; cases hq
    | some v =>
      rw [hx1] at hq
      have e := Option.some.inj hq
      rw [← e]
      show L[x.2]? = some (some v)
      rw [hx', hx1]
  · intro h
    refine List.mem_filterMap.mpr ⟨(some q.2, q.1), List.mem_zipIdx_iff_getElem?.mpr h, rfl⟩
theorem zLH.has {ls : Array Slot} {nL : Nat} {L : ZLc} (h : zLH ls nL L) : lv_has ls nL (zlist L) := ⟨h.1, h.2.1, fun q hq => h.2.2 q.1 q.2 (zlist_mem.mp hq)⟩
def zkill (L : ZLc) : Nat → ZLc
  | 0 => L
  | j + 1 => match L[j]? with
    | some (some v) => match v with
      | .long _ => L.set j none
      | .double _ => L.set j none
      | _ => L
    | _ => L
def zst1o (L : ZLc) (i : Nat) (v : Value) : ZLc := (zkill L i).set i (some v)
def zst2o (L : ZLc) (i : Nat) (v : Value) : ZLc := ((zkill L i).set (i + 1) none).set i (some v)
def zk1 : Option Value → Option Value
  | some (.long _) => none
  | some (.double _) => none
  | x => x
/-- the same, each row looked at once -/
def zst1 : ZLc → Nat → Value → ZLc
  | [], _, _ => []
  | _ :: xs, 0, v => some v :: xs
  | x :: xs, 1, v => zk1 x :: zst1 xs 0 v
  | x :: xs, i + 2, v => x :: zst1 xs (i + 1) v
def zst2 : ZLc → Nat → Value → ZLc
  | [], _, _ => []
  | _ :: xs, 0, v => some v :: xs.set 0 none
  | x :: xs, 1, v => zk1 x :: zst2 xs 0 v
  | x :: xs, i + 2, v => x :: zst2 xs (i + 1) v
theorem zkill_nil : ∀ i, zkill [] i = []
  | 0 => rfl
  | _ + 1 => rfl
theorem zkill_one (x : Option Value) (xs : ZLc) : zkill (x :: xs) 1 = zk1 x :: xs := by
  cases x with
  | none => rfl
  | some v => cases v <;> rfl
theorem zkill_cons (x : Option Value) (xs : ZLc) (i : Nat) : zkill (x :: xs) (i + 2) = x :: zkill xs (i + 1) := by
  cases h : xs[i]? with
  | none => simp [zkill, h]
  | some o => cases o with
    | none => simp [zkill, h]
    | some v => cases v <;> simp [zkill, h]
theorem zst1_eq : ∀ (L : ZLc) (i : Nat) (v : Value), zst1 L i v = zst1o L i v
  | [], i, v => by simp [zst1, zst1o, zkill_nil]
  | _ :: xs, 0, v => rfl
  | x :: xs, 1, v => by
    rw [zst1o, zkill_one]
    cases xs <;> rfl
  | x :: xs, i + 2, v => by
    rw [zst1o, zkill_cons, zst1, zst1_eq xs (i + 1) v, zst1o]
    all_goals rfl
theorem zst2_eq : ∀ (L : ZLc) (i : Nat) (v : Value), zst2 L i v = zst2o L i v
  | [], i, v => by simp [zst2, zst2o, zkill_nil]
  | _ :: xs, 0, v => rfl
  | x :: xs, 1, v => by
    rw [zst2o, zkill_one]
    cases xs <;> rfl
  | x :: xs, i + 2, v => by
    rw [zst2o, zkill_cons, zst2, zst2_eq xs (i + 1) v, zst2o]
    all_goals rfl
theorem zset_some {L : ZLc} {i j : Nat} {w : Value} (h : (L.set j none)[i]? = some (some w)) : L[i]? = some (some w) ∧ i ≠ j := by
  rw [List.getElem?_set] at h
  by_cases e : j = i
  · rw [if_pos e] at h
    split at h <;> simp at h
  · rw [if_neg e] at h
    exact ⟨h, fun q => e q.symm⟩
theorem zkill_some {L : ZLc} {i j : Nat} {w : Value} (h : (zkill L i)[j]? = some (some w)) : L[j]? = some (some w) ∧ ¬ (j + 1 = i ∧ w.category = 2) := by
  cases i with
  | zero => exact ⟨h, fun q => by omega⟩
  | succ i =>
    cases hi : L[i]? with
    | none =>
      simp only [zkill, hi] at h
      refine ⟨h, fun q => ?_⟩
      have : j = i := by omega
      subst this
      rw [hi] at h
      cases h
    | some o => cases o with
      | none =>
        simp only [zkill, hi] at h
        refine ⟨h, fun q => ?_⟩
        have : j = i := by omega
        subst this
        rw [hi] at h
        cases h
      | some v =>
        have key : (L.set i none)[j]? = some (some w) → L[j]? = some (some w) ∧ ¬ (j + 1 = i + 1 ∧ w.category = 2) := fun q => ⟨(zset_some q).1, fun z => (zset_some q).2 (by omega)⟩
        have key2 : v.category = 1 → L[j]? = some (some w) → L[j]? = some (some w) ∧ ¬ (j + 1 = i + 1 ∧ w.category = 2) := fun hv q => ⟨q, fun z => by
          have : j = i := by omega
          subst this
          rw [hi] at q
          have e : v = w := Option.some.inj (Option.some.inj q)
          rw [← e] at z
          omega⟩
        cases v <;> simp only [zkill, hi] at h <;> first | exact key h | exact key2 rfl h
theorem zst1_of {ls : Array Slot} {nL i : Nat} {L : ZLc} {v : Value} (h : lv_has ls nL ((i, v) :: (zlist L).filter (fun q => !(q.1 == i) && !(q.1 + 1 == i && q.2.category == 2)))) : zLH ls nL (zst1 L i v) := by
  refine ⟨h.1, h.2.1, fun j w hj => ?_⟩
  rw [zst1_eq, zst1o, List.getElem?_set] at hj
  by_cases e : i = j
  · subst e
    rw [if_pos rfl] at hj
    split at hj
    · have e2 : v = w := Option.some.inj (Option.some.inj hj)
      subst e2
      exact h.2.2 (i, v) List.mem_cons_self
    · cases hj
  · rw [if_neg e] at hj
    obtain ⟨h1, h2⟩ := zkill_some hj
    refine h.2.2 (j, w) (List.mem_cons_of_mem _ (List.mem_filter.mpr ⟨zlist_mem.mpr h1, ?_⟩))
    have e' : ¬ j = i := fun q => e q.symm
    by_cases q : j + 1 = i
    · have : ¬ w.category = 2 := fun z => h2 ⟨q, z⟩
      simp [e', this]
    · simp [e', q]
theorem zst2_of {ls : Array Slot} {nL i : Nat} {L : ZLc} {v : Value} (h : lv_has ls nL ((i, v) :: (zlist L).filter (fun q => !(q.1 == i) && (!(q.1 == i + 1) && !(q.1 + 1 == i && q.2.category == 2))))) : zLH ls nL (zst2 L i v) := by
  refine ⟨h.1, h.2.1, fun j w hj => ?_⟩
  rw [zst2_eq, zst2o, List.getElem?_set] at hj
  by_cases e : i = j
  · subst e
    rw [if_pos rfl] at hj
    split at hj
    · have e2 : v = w := Option.some.inj (Option.some.inj hj)
      subst e2
      exact h.2.2 (i, v) List.mem_cons_self
    · cases hj
  · rw [if_neg e] at hj
    obtain ⟨h0, h3⟩ := zset_some hj
    obtain ⟨h1, h2⟩ := zkill_some h0
    refine h.2.2 (j, w) (List.mem_cons_of_mem _ (List.mem_filter.mpr ⟨zlist_mem.mpr h1, ?_⟩))
    have e' : ¬ j = i := fun q => e q.symm
    by_cases q : j + 1 = i
    · have : ¬ w.category = 2 := fun z => h2 ⟨q, z⟩
      simp [e', h3, this]
    · simp [e', h3, q]
def zmL (ad : Nat → Nat) (L : ZLc) : ZLc := L.map (Option.map (zc ad))
theorem zmL_at {ad : Nat → Nat} {L : ZLc} {i : Nat} {v : Value} (h : L[i]? = some (some v)) : (zmL ad L)[i]? = some (some (zc ad v)) := by
  simp [zmL, h]
theorem zmL_set (ad : Nat → Nat) (L : ZLc) (i : Nat) (o : Option Value) : zmL ad (L.set i o) = (zmL ad L).set i (o.map (zc ad)) := by
  simp [zmL, List.map_set]
theorem zmL_kill (ad : Nat → Nat) (L : ZLc) (i : Nat) : zmL ad (zkill L i) = zkill (zmL ad L) i := by
  cases i with
  | zero => rfl
  | succ i =>
    cases hi : L[i]? with
    | none => simp [zkill, hi, zmL]
    | some o => cases o with
      | none => simp [zkill, hi, zmL]
      | some v => cases v <;> simp [zkill, hi, zmL, zc, List.map_set]
theorem zmL_st1 (ad : Nat → Nat) (L : ZLc) (i : Nat) (v : Value) : zmL ad (zst1 L i v) = zst1 (zmL ad L) i (zc ad v) := by
  rw [zst1_eq, zst1_eq, zst1o, zst1o, zmL_set, zmL_kill]; rfl
theorem zmL_st2 (ad : Nat → Nat) (L : ZLc) (i : Nat) (v : Value) : zmL ad (zst2 L i v) = zst2 (zmL ad L) i (zc ad v) := by
  rw [zst2_eq, zst2_eq, zst2o, zst2o, zmL_set, zmL_set, zmL_kill]; rfl
def zrm (d : Nat) : Room := { frames := d, cells := 0, slots := 0, locals := 40 * d }
def ZQ (G : va_G) (cI cQ : ClassId) (ad : Nat → Nat) (A : Nat → Prop) (Q : Option Value → ZMem → Prop) : Array Value → State → Outcome → State → Prop := fun _ st oc t => (∃ (v : Option Value) (M : ZMem), oc = .returned (v.map (zc ad)) ∧ Q v M ∧ ZW G cI cQ ad A M t.heap) ∧ va_F A st t
/-- the judgement: from pc, with these locals, this stack, this memory, the method returns with Q -/
def ZV (m : ZMD) (d : Nat) (Q : Option Value → ZMem → Prop) (pc : Nat) (L : ZLc) (st : List Value) (M : ZMem) : Prop :=
  ∀ (G : va_G) (cI cQ : ClassId) (ad : Nat → Nat) (A : Nat → Prop) (p : Program) (l : Launch) (e : Env) (s : State) (mi : MethodId) (args : Array Value) (below : List Frame) (meth : Method) (c : Code) (H : Heap) (locs : List Loc) (ls : Array Slot),
    CallFix p mi c m.2.1 m.2.2.1 s args zgt m.1.cls → meth.sig.returnType = m.2.2.2 → meth.locks = false → ZK G cI cQ ad A s s.heap → ZW G cI cQ ad A M H → va_S A s.heap H locs → zLH ls m.2.2.1 (zmL ad L) →
    W p l e (zrm d) s mi args below meth c H locs 0 0 (MQ below (ZQ G cI cQ ad A Q) args s 0 0 A) (F0 mi pc ls (st.map (zc ad)))
/-- a method's contract at given arguments and memory -/
def ZEx (m : ZMD) (d : Nat) (as : List Value) (M : ZMem) (Q : Option Value → ZMem → Prop) : Prop :=
  ∀ (l : Launch) (G : va_G) (cI cQ : ClassId) (ad : Nat → Nat) (A : Nat → Prop), Met l m.1 (Cond.code m.1 m.2.1 m.2.2.1 m.2.2.2 :: zgt) (zrm d) (va_Pc (as.map (zc ad)) (fun U => ZK G cI cQ ad A U U.heap ∧ ZW G cI cQ ad A M U.heap)) (ZQ G cI cQ ad A Q) 0 0 A
theorem ZQ.mono {G : va_G} {cI cQ : ClassId} {ad : Nat → Nat} {A : Nat → Prop} {Q Q' : Option Value → ZMem → Prop} (h : ∀ v M, Q v M → Q' v M) {a : Array Value} {st t : State} {oc : Outcome} (hq : ZQ G cI cQ ad A Q a st oc t) : ZQ G cI cQ ad A Q' a st oc t := by
  obtain ⟨⟨v, M, h1, h2, h3⟩, h4⟩ := hq
  exact ⟨⟨v, M, h1, h v M h2, h3⟩, h4⟩
theorem zv_mono {m : ZMD} {d : Nat} {Q Q' : Option Value → ZMem → Prop} {pc : Nat} {L : ZLc} {st : List Value} {M : ZMem} (h : ∀ v M, Q v M → Q' v M) (k : ZV m d Q pc L st M) : ZV m d Q' pc L st M := by
  intro G cI cQ ad A p l e s mi args below meth c H locs ls S hr hlk hK hW hS hL T hT X
  obtain ⟨t, a1, o, b1, b2, b3, b4⟩ := k G cI cQ ad A p l e s mi args below meth c H locs ls S hr hlk hK hW hS hL T hT X
  exact ⟨t, a1, o, b1, b2, ZQ.mono h b3, b4⟩
def zenl : List Value → ZLc
  | [] => []
  | v :: vs => if v.category = 2 then some v :: none :: zenl vs else some v :: zenl vs
def zent (as : List Value) (n : Nat) : ZLc := zenl as ++ List.replicate (n - (zenl as).length) none
theorem zenl_args {ad : Nat → Nat} : ∀ (as : List Value) (i0 i : Nat) (v : Value), (zenl as)[i]? = some (some v) → (i0 + i, zc ad v) ∈ lv_args i0 (as.map (zc ad)) := by
  intro as
  induction as with
  | nil => intro i0 i v h; simp [zenl] at h
  | cons a as ih =>
    intro i0 i v h
    by_cases hc : a.category = 2
    · simp only [zenl, hc, if_true] at h
      simp only [List.map_cons, lv_args, zc_cat, hc, if_true]
      match i, h with
      | 0, h => simp at h; subst h; exact List.mem_cons_self
      | 1, h => simp at h
      | j + 2, h =>
        simp at h
        have := ih (i0 + 2) j v h
        rw [show i0 + 2 + j = i0 + (j + 2) by omega] at this
        exact List.mem_cons_of_mem _ this
    · simp only [zenl, hc, if_false] at h
      simp only [List.map_cons, lv_args, zc_cat, hc, if_false]
      match i, h with
      | 0, h => simp at h; subst h; exact List.mem_cons_self
      | j + 1, h =>
        simp at h
        have := ih (i0 + 1) j v h
        rw [show i0 + 1 + j = i0 + (j + 1) by omega] at this
        exact List.mem_cons_of_mem _ this
theorem zent_LH {ad : Nat → Nat} {as : List Value} {n : Nat} (h : (zenl as).length ≤ n) : zLH ((lg_sl (as.map (zc ad)) ++ List.replicate (n - (lg_sl (as.map (zc ad))).length) Slot.unset).toArray) n (zmL ad (zent as n)) := by
  have hlen : (lg_sl (as.map (zc ad))).length = (zenl as).length := by
    clear h
    induction as with
    | nil => rfl
    | cons a as ih =>
      have e : lg_sl ((a :: as).map (zc ad)) = (if (zc ad a).category = 2 then [.val (zc ad a), .second] else [.val (zc ad a)]) ++ lg_sl (as.map (zc ad)) := by simp [lg_sl]
      rw [e, List.length_append, ih]
      by_cases hc : a.category = 2
      · simp [zenl, zc_cat, hc]; omega
      · simp [zenl, zc_cat, hc]; omega
  have h0 := lv_entry (as.map (zc ad)) (n := n) (by omega)
  refine ⟨h0.1, h0.2.1, fun i v hi => ?_⟩
  simp only [zmL, List.getElem?_map] at hi
  cases hx : (zent as n)[i]? with
  | none => rw [hx] at hi; simp at hi
  | some o => cases o with
    | none => rw [hx] at hi; simp at hi
    | some w =>
      rw [hx] at hi
      have e : zc ad w = v := Option.some.inj (Option.some.inj hi)
      rw [zent, List.getElem?_append] at hx
      split at hx
      · have := zenl_args (ad := ad) as 0 i w hx
        rw [Nat.zero_add, e] at this
        exact h0.2.2 (i, v) this
      · rw [List.getElem?_replicate] at hx
        split at hx <;> simp at hx
theorem zex_intro {m : ZMD} {d : Nat} {as : List Value} {M : ZMem} {Q : Option Value → ZMem → Prop} {L : ZLc} (hpl : plainName m.1.cls = true) (hlen : (zenl as).length ≤ m.2.2.1) (hL : zent as m.2.2.1 = L) (h : ZV m d Q 0 L [] M) : ZEx m d as M Q := by
  intro l G cI cQ ad A
  refine Met.ofW (cc := m.2.1) (maxL := m.2.2.1) (ret := m.2.2.2) hpl rfl ?_
  intro p e s mi args below meth c s₁ B hml hv
  obtain ⟨rfl, hK, hW⟩ := hv
  subst hL
  have hts := atoms_spec (ws := Cond.code m.1 m.2.1 m.2.2.1 m.2.2.2 :: zgt) B.pre
  rw [lg_entry_eq]
  exact h G cI cQ ad A p l e s mi _ below meth c s.heap [] _ ⟨B.exec, B.bytes, hml, findClass_of_methodNamed B.named, fun w hw => hts w (List.mem_cons_of_mem _ hw)⟩ B.returns B.notSynchronized hK hW va_S.rf (zent_LH hlen)
theorem zex_mono {m : ZMD} {d : Nat} {as : List Value} {M : ZMem} {Q Q' : Option Value → ZMem → Prop} (h : ∀ v M, Q v M → Q' v M) (k : ZEx m d as M Q) : ZEx m d as M Q' := by
  intro l G cI cQ ad A p e ha hc hk s mi args below hf happ hP hT
  obtain ⟨t, o, a1, b1, b2, b3, b4⟩ := k l G cI cQ ad A p e ha hc hk s mi args below hf happ hP hT
  exact ⟨t, o, a1, b1, b2, ZQ.mono h b3, b4⟩
