/-! what holds of a state is kept by every call -/
theorem zSk.setc {s : ZS} {c : ZCty} (h : zSk s) (hc : zOk c) (hy : yY c ≤ 999) : zSk (c, s.2) := ⟨hc, hy, h.2.2⟩
theorem zSk.drop {s : ZS} (h : zSk s) : zSk (dropS s) := ⟨h.1, h.2.1, h.2.2.1, ⟨Nat.zero_le _, h.2.2.2.1.2⟩, h.2.2.2.2⟩
theorem pN_le {x : Int32} {a b : Nat} (hb : b < 2 ^ 31) (hab : a ≤ b) (h : bdN x (nI a) (nI b) = 0) : a ≤ pN x ∧ pN x ≤ b ∧ x = nI (pN x) := by
  obtain ⟨k, h1, h2, rfl⟩ := isInB_of hb (bdN_0.mp h) hab
  rw [pN_nI (by omega)]
  exact ⟨h1, h2, rfl⟩
theorem fu_le {f : Nat → Nat} {i v b : Nat} (hf : ∀ j, f j ≤ b) (hv : v ≤ b) : ∀ j, fu f i v j ≤ b := by
  intro j
  unfold fu
  split
  · exact hv
  · exact hf j
section
variable {s : ZS}
theorem k_letter (x : Int32) (h : zSk s) : zSk (sp_letter x s).2 := zSk_ans h (fun h0 => by
  obtain ⟨g1, g2, -⟩ := fiN_0.mp h0
  have hx := pN_le (by decide) (by decide) g1
  split at g2
  · cases g2
  · exact ⟨h.1, h.2.1, h.2.2.1, ⟨by show (sL s).1 + 1 ≤ 96; omega, fu_le h.2.2.2.1.2 hx.2.1⟩, h.2.2.2.2⟩)
theorem k_row (x : Int32) (h : zSk s) : zSk (sp_row x s).2 := zSk_ans h (fun h0 => by
  obtain ⟨g1, g2, -⟩ := fiN_0.mp h0
  have hx := pN_le (by decide) (by decide) g1
  split at g2
  · cases g2
  · exact ⟨h.1, h.2.1, h.2.2.1, h.2.2.2.1, by show (sR s).1 + 1 ≤ 16; omega, fu_le h.2.2.2.2.2 hx.2.1⟩)
theorem k_clear (h : zSk s) : zSk (sp_clear s).2 := ⟨h.1, h.2.1, h.2.2.1, h.2.2.2.1, Nat.zero_le _, h.2.2.2.2.2⟩
theorem k_judge (h : zSk s) : zSk (sp_judge s).2 := ⟨h.1, h.2.1, h.2.2.1, h.2.2.2.1, Nat.zero_le _, h.2.2.2.2.2⟩
theorem k_image (h : zSk s) : zSk (sp_image s).2 := ⟨h.1, h.2.1, fun ci hc => (by cases hc; exact ⟨h.1, h.2.1⟩), h.2.2.2⟩
theorem k_on (h : zSk s) : zSk (sp_on s).2 := by
  unfold sp_on
  split
  · exact zSk_ref h
  · rename_i ci hc
    have := h.2.2.1 ci hc
    exact h.setc this.1 this.2
theorem k_county (h : zSk s) : zSk (sp_county s).2 := by
  unfold sp_county
  split
  · exact h.drop
  · rename_i hf
    have hf0 : fmO (sL s) 97 0 = none := by
      unfold formO at hf
      split at hf
      · cases hf
      · exact hf
    have hok := tlO_ok 97 0 (sC s) hf0 h.1 h.2.1
    split
    · exact h.drop
    · rename_i q hq
      have := hok.2 q hq
      exact (h.setc this.2.1 this.2.2).drop
theorem k_signs (x y : Int32) (h : zSk s) : zSk (sp_signs x y s).2 := zSk_ans h (fun h0 => by
  have hn := h.1.1
  obtain ⟨p, q, hp, hq, hpq, rfl, rfl⟩ := twoB_of hn (twN_0.mp h0)
  rw [pN_nI (by omega), pN_nI (by omega)]
  exact h.setc (zOk_sign h.1 hp hq hpq) h.2.1)
theorem k_feuds (x y : Int32) (h : zSk s) : zSk (sp_feuds x y s).2 := zSk_ans h (fun h0 => by
  have hn := h.1.1
  obtain ⟨p, q, hp, hq, hpq, rfl, rfl⟩ := twoB_of hn (twN_0.mp h0)
  rw [pN_nI (by omega), pN_nI (by omega)]
  exact h.setc (zOk_feud h.1 hp hq hpq) h.2.1)
theorem k_gets (x v : Int32) (h : zSk s) : zSk (sp_gets x v s).2 := zSk_ans h (fun h0 => by
  obtain ⟨g1, g2, -⟩ := fiN_0.mp h0
  exact h.setc (zOk_M h.1 (pN_le (by decide) (by decide) g2).2.1) h.2.1)
theorem k_turn (x k f : Int32) (h : zSk s) : zSk (sp_turn x k f s).2 := zSk_ans h (fun h0 => by
  obtain ⟨g1, g2, g3⟩ := fiN_0.mp h0
  obtain ⟨kk, -, hk5, rfl⟩ := isInB_of (by decide) (otN_0.mp g2) (by decide)
  have hf := (pN_le (by decide) (by decide) g3).2.1
  rw [pN_nI (k := kk) (by omega)]
  obtain ⟨a1, a2, a3, a4⟩ := h.1
  exact h.setc ⟨a1, fu_le a2 hk5, fu_le a3 hf, a4⟩ h.2.1)
theorem k_years (x : Int32) (h : zSk s) : zSk (sp_years x s).2 := zSk_ans h (fun h0 => by
  obtain ⟨g1, g2, -⟩ := fiN_0.mp h0
  have hx := pN_le (by decide) (by decide) g1
  split at g2
  · rename_i hp
    rw [hx.2.2] at hp
    have := passB_of h.2.1 (by omega) hp
    exact h.setc (zOk_years h.1).1 (by rw [yY_years]; omega)
  · cases g2)
theorem k_same {w : Nat} {v : Int32} (h : zSk s) : zSk (zans w s v s).2 := zSk_ans h (fun _ => h)
theorem k_samel {w : Nat} {v : Int32} (h : zSk s) : zSk (zanl w s v).2 := by
  unfold zanl
  split
  · exact h
  · exact zSk_ref h
theorem k_sameL {w : Nat} {v : Int64} (h : zSk s) : zSk (zansl w s v).2 := by
  unfold zansl
  split
  · exact h
  · exact zSk_ref h
end
