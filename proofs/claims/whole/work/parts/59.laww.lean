/-! the world behind the constructors is the memory's first picture -/
def zad (q0 : Nat) (a1 a2 a3 a4 a5 : Nat → Nat) (q62 q70 : Nat) (a6 a7 a8 a9 : Nat → Nat) (b9 : Nat → Nat → Nat) (q121 q128 : Nat) (am : Nat → Nat) (s1 s2 : Nat) (k : Nat) : Nat :=
  if k < 40 then [q0, a1 0, a1 1, a1 2, a1 3, a1 4, a1 5, a2 0, a2 1, a2 2, a2 3, a2 4, a2 5, a3 0, a3 1, a3 2, a3 3, a3 4, a3 5, a4 0, a4 1, a4 2, a4 3, a4 4, a4 5, a5 0, a5 1, q62, q70, a6 0, a6 1, a7 0, a7 1, a7 2, a8 0, a8 1, a8 2, a8 3, a9 0, a9 1].getD k 0
  else if k < 88 then b9 ((k - 40) / 6) ((k - 40) % 6) else if k = 88 then q121 else if k = 89 then q128 else if k = 1000 then s1 else if k = 1001 then s2 else am (k - 90)
def zM0 : ZMem := fun k => if k = 90 then (fun j => if j = 8 then -9 else 0) else fun _ => 0
theorem zP_set {G : va_G} {cQ : ClassId} {k qa : Nat} {f g : Nat → Option Nat} {ws : va_W} {H : Heap} {A : Nat → Prop} (hk : ws[k]? = some (qa, .inl (cQ, 8, .inr (.inr (.inr (.inr f)))))) (hf : ∀ j, j < 8 → f j = g j) (hP : va_P G zcls ws H) (hD : va_D A ws) : va_P G zcls (ws.set k (qa, .inl (cQ, 8, .inr (.inr (.inr (.inr g)))))) H ∧ va_D A (ws.set k (qa, .inl (cQ, 8, .inr (.inr (.inr (.inr g)))))) := by
  have ec : vp_cell cQ (8, .inr (.inr (.inr (.inr f)))) = vp_cell cQ (8, .inr (.inr (.inr (.inr g)))) := by
    rw [vp_cell_q, vp_cell_q, arrV, arrV]
    congr 2
    funext j
    rw [hf j.val j.isLt]
  have key : ∀ (i : Nat) (q : Nat × va_E), (ws.set k (qa, .inl (cQ, 8, .inr (.inr (.inr (.inr g))))))[i]? = some q → ∃ q', ws[i]? = some q' ∧ q'.1 = q.1 ∧ (va_at G zcls q' H → va_at G zcls q H) := by
    intro i q hi
    rw [List.getElem?_set] at hi
    by_cases e : k = i
    · subst e
      rw [if_pos rfl] at hi
      split at hi
      · cases hi
        refine ⟨_, hk, rfl, fun h => ?_⟩
        show H[qa]? = some (vp_cell cQ (8, .inr (.inr (.inr (.inr g)))))
        rw [← ec]
        exact h
      · cases hi
    · rw [if_neg e] at hi
      exact ⟨q, hi, rfl, id⟩
  refine ⟨fun i q hi => ?_, fun i j u v hi hj e => ?_, fun i q hi => ?_⟩
  · obtain ⟨q', h1, -, h3⟩ := key i q hi
    exact h3 (hP i q' h1)
  · obtain ⟨u', h1, h2, -⟩ := key i u hi
    obtain ⟨v', h3, h4, -⟩ := key j v hj
    exact hD.1 i j u' v' h1 h3 (by rw [h2, h4, e])
  · obtain ⟨q', h1, h2, -⟩ := key i q hi
    rw [← h2]
    exact hD.2 i q' h1
section
variable {cI cQ : ClassId} {q0 q62 q70 q121 q128 s1 s2 : Nat} {a1 a2 a3 a4 a5 a6 a7 a8 a9 am : Nat → Nat} {b9 : Nat → Nat → Nat}
abbrev zads (q0 : Nat) (a1 a2 a3 a4 a5 : Nat → Nat) (q62 q70 : Nat) (a6 a7 a8 a9 : Nat → Nat) (b9 : Nat → Nat → Nat) (q121 q128 : Nat) (am : Nat → Nat) (s1 s2 : Nat) : Nat → Nat := zad q0 a1 a2 a3 a4 a5 q62 q70 a6 a7 a8 a9 b9 q121 q128 am s1 s2
set_option maxRecDepth 100000 in
set_option maxHeartbeats 4000000 in
theorem zw_start : ((wXo cI cQ q0 a1 a2 a3 a4 a5 q62 q70 a6 a7 a8 a9 b9 q121 q128 ++ wMo cI am).set 39 (a9 1, .inl (cQ, 8, .inr (.inr (.inr (.inr (fun j => some (zads q0 a1 a2 a3 a4 a5 q62 q70 a6 a7 a8 a9 b9 q121 q128 am s1 s2 (40 + 6 * j))))))))) = zwl (zads q0 a1 a2 a3 a4 a5 q62 q70 a6 a7 a8 a9 b9 q121 q128 am s1 s2) cI cQ zM0 := rfl
theorem zw_refs : ∀ j, j < 8 → (fun j => some (b9 j 0)) j = (fun j => some (zads q0 a1 a2 a3 a4 a5 q62 q70 a6 a7 a8 a9 b9 q121 q128 am s1 s2 (40 + 6 * j))) j := by
  intro j hj
  rcases (show j = 0 ∨ j = 1 ∨ j = 2 ∨ j = 3 ∨ j = 4 ∨ j = 5 ∨ j = 6 ∨ j = 7 by omega) with rfl | rfl | rfl | rfl | rfl | rfl | rfl | rfl <;> rfl
theorem zw_go {G : va_G} {A : Nat → Prop} {H : Heap} (hP : va_P G zcls (wXo cI cQ q0 a1 a2 a3 a4 a5 q62 q70 a6 a7 a8 a9 b9 q121 q128 ++ wMo cI am) H) (hD : va_D A (wXo cI cQ q0 a1 a2 a3 a4 a5 q62 q70 a6 a7 a8 a9 b9 q121 q128 ++ wMo cI am)) : ZW G cI cQ (zads q0 a1 a2 a3 a4 a5 q62 q70 a6 a7 a8 a9 b9 q121 q128 am s1 s2) A zM0 H := by
  have h := zP_set (k := 39) (qa := a9 1) (cQ := cQ) (f := fun j => some (b9 j 0)) rfl (zw_refs (q0 := q0) (q62 := q62) (q70 := q70) (q121 := q121) (q128 := q128) (s1 := s1) (s2 := s2) (a1 := a1) (a2 := a2) (a3 := a3) (a4 := a4) (a5 := a5) (a6 := a6) (a7 := a7) (a8 := a8) (a9 := a9) (am := am)) hP hD
  rw [zw_start] at h
  exact h
end
def zc0 : ZCty := (0, 0, fun _ => 0, fun _ => 0, fun _ => 0, fun _ _ => false, fun _ _ => false)
def zs0 : ZS := (zc0, none, (0, fun _ => 0), (0, fun _ => 0), fun _ => 0)
theorem zs0_x : zIx zM0 zs0 := by
  refine ⟨⟨rfl, rfl, fun j hj => rfl, fun j hj => rfl, fun j hj => rfl, fun j hj => ?_, fun j hj => ?_⟩, ⟨rfl, fun ci hc => by cases hc⟩, ⟨rfl, fun j hj => absurd hj (Nat.not_lt_zero j)⟩, ⟨rfl, fun j hj => absurd hj (Nat.not_lt_zero j)⟩, fun w hw => rfl⟩
  · show (0 : Int32) = nI (zm 8 (fun _ => false))
    rw [zm_f]; rfl
  · show (0 : Int32) = nI (zm 8 (fun _ => false))
    rw [zm_f]; rfl
theorem zs0_m : zIm zM0 zs0 := by
  refine ⟨⟨rfl, rfl, fun j hj => rfl, fun j hj => rfl, fun j hj => rfl, fun j hj => ?_, fun j hj => ?_⟩, rfl, ⟨rfl, fun ci hc => by cases hc⟩, ⟨rfl, fun j hj => absurd hj (Nat.not_lt_zero j)⟩, ⟨rfl, fun j hj => absurd hj (Nat.not_lt_zero j)⟩, fun w hw => rfl⟩
  · show (0 : Int32) = nI (zm 8 (fun _ => false))
    rw [zm_f]; rfl
  · show (0 : Int32) = nI (zm 8 (fun _ => false))
    rw [zm_f]; rfl
theorem zs0_k : zSk zs0 := ⟨⟨Nat.zero_le _, fun _ => Nat.zero_le _, fun _ => Nat.zero_le _, fun _ => Nat.zero_le _, fun i j h => (by cases h), fun i j h => (by cases h), fun _ _ => rfl⟩, Nat.zero_le _, fun ci hc => (by cases hc), ⟨Nat.zero_le _, fun _ => Nat.zero_le _⟩, Nat.zero_le _, fun _ => Nat.zero_le _⟩
