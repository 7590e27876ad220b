/-! lots -/
def lsd (z : Int32) : Int32 := z * 1664525 + 1013904223
def drv (z : Int32) : Int32 := (z &&& 2147483647) / nI 256 - (z &&& 2147483647) / nI 256 / nI 2 * nI 2
def drB (z : Int32) : Bool := decide (drv z = nI 1)
theorem lo_and (z : Int32) : z &&& 2147483647 = nI (z.toBitVec.toNat % 2 ^ 31) := by
  refine b_ext (fun i hi => ?_)
  rw [b_and, bt_nI hi, show (2147483647 : Int32) = nI (2 ^ 31 - 1) by decide, bt_nI hi, Nat.testBit_two_pow_sub_one, Nat.testBit_mod_two_pow]
  show (z.toBitVec.getLsbD i && _) = _
  rw [BitVec.getLsbD]
  cases decide (i < 31) <;> simp
theorem dr_zb (z : Int32) : drv z = zb (drB z) := by
  unfold drB drv
  have h : z.toBitVec.toNat % 2 ^ 31 < 2 ^ 31 := Nat.mod_lt _ (by decide)
  rw [lo_and, pk_div h (by omega) (by omega), pk_rem (by omega) (by omega) (by omega)]
  rcases Nat.mod_two_eq_zero_or_one (z.toBitVec.toNat % 2 ^ 31 / 256) with e | e <;> rw [e] <;> decide
def drP (F : Int32 → Int32) (B : Int32 → Bool) (a b : Nat) (t : Int32 × ZCty) : Int32 × ZCty := (F t.1, signC (signC t.2 a b (B (F t.1))) b a (B (F t.1)))
def drI (F : Int32 → Int32) (B : Int32 → Bool) (n a : Nat) (t : Int32 × ZCty) : Int32 × ZCty := zlf (n - (a + 1)) (a + 1) (drP F B a) t
def drS (F : Int32 → Int32) (B : Int32 → Bool) (c : ZCty) (z : Int32) : Int32 × ZCty := zlf (yN c) 0 (drI F B (yN c)) (z, c)
def loV (c : ZCty) : Nat → Nat
  | 0 => wealthN c
  | _ => kinN c
def loP (F : Int32 → Int32) (B : Int32 → Bool) (c : ZCty) (w : Nat) (t : Int32 × Int32) : Int32 × Int32 := ((drS F B c t.1).1, t.2 + nI (loV (yearsC 10 (drS F B c t.1).2) w))
def loS (F : Int32 → Int32) (B : Int32 → Bool) (c : ZCty) (w n : Nat) (z : Int32) : Int32 × Int32 := zlf n 0 (fun _ => loP F B c w) (z, nI 0)
def sp_lotsG (F : Int32 → Int32) (B : Int32 → Bool) (x z y : Int32) (s : ZS) : Int32 × ZS := zans (fiN (bdN x (nI 1) (nI 20)) (otN y 1) 0) s (loS F B (sC s) (pN y) (pN x) z).2 s
theorem drP_ok {F : Int32 → Int32} {B : Int32 → Bool} {n a b : Nat} {t : Int32 × ZCty} (ha : a < n) (hb : b < n) (hab : a ≠ b) (h : zOk t.2 ∧ yN t.2 = n) : zOk (drP F B a b t).2 ∧ yN (drP F B a b t).2 = n := by
  refine ⟨?_, h.2⟩
  exact zOk_sign (c := signC t.2 a b (B (F t.1))) (zOk_sign h.1 (by rw [h.2]; exact ha) (by rw [h.2]; exact hb) hab) (by show b < yN t.2; rw [h.2]; exact hb) (by show a < yN t.2; rw [h.2]; exact ha) (Ne.symm hab)
theorem drI_ok {F : Int32 → Int32} {B : Int32 → Bool} {n a : Nat} {t : Int32 × ZCty} (ha : a < n) (h : zOk t.2 ∧ yN t.2 = n) : zOk (drI F B n a t).2 ∧ yN (drI F B n a t).2 = n :=
  zlf_inv (fun t : Int32 × ZCty => zOk t.2 ∧ yN t.2 = n) _ _ _ h (fun k x h1 h2 h3 => drP_ok ha (by omega) (by omega) h3)
theorem drS_ok {F : Int32 → Int32} {B : Int32 → Bool} {c : ZCty} {z : Int32} (hk : zOk c) : zOk (drS F B c z).2 ∧ yN (drS F B c z).2 = yN c :=
  zlf_inv (fun t : Int32 × ZCty => zOk t.2 ∧ yN t.2 = yN c) _ _ _ ⟨hk, rfl⟩ (fun k x h1 h2 h3 => drI_ok (by omega) h3)
section
variable {F : Int32 → Int32} {B : Int32 → Bool} {d : Nat} {M : ZMem} {c : ZCty}
theorem x6_drawSignings {z : Int32} (hF : ∀ z : Int32, z * 1664525 + 1013904223 = F z) (hB : ∀ z : Int32, (z &&& 2147483647) / nI 256 - (z &&& 2147483647) / nI 256 / nI 2 * nI 2 = zb (B z)) (hA : zAt M 13 c) (hk : zOk c) : ZFi mdX6_drawSignings (d + 3) [.ref 0, .int z] M (fun r M' => r = (drS F B c z).1 ∧ zAt M' 13 (drS F B c z).2 ∧ zSame 13 19 M M') := by
  have hn8 := hk.1
  have l2 : ∀ a, a < yN c → ∀ r b t M1, b + r = yN c → a < b → zOk t.2 ∧ yN t.2 = yN c → zAt M1 13 t.2 → zSame 13 19 M M1 →
      (∀ M2, zAt M2 13 (zlf r b (drP F B a) t).2 → zSame 13 19 M M2 → ZV mdX6_drawSignings (d + 3) (fun v M' => ∃ r, v = some (.int r) ∧ (r = (drS F B c z).1 ∧ zAt M' 13 (drS F B c z).2 ∧ zSame 13 19 M M')) 96 [some (.ref 0), some (.int z), some (.int (zlf r b (drP F B a) t).1), some (.int (nI a)), none, none] [] M2) →
      ZV mdX6_drawSignings (d + 3) (fun v M' => ∃ r, v = some (.int r) ∧ (r = (drS F B c z).1 ∧ zAt M' 13 (drS F B c z).2 ∧ zSame 13 19 M M')) 20 [some (.ref 0), some (.int z), some (.int t.1), some (.int (nI a)), some (.int (nI b)), none] [] M1 := by
    intro a ha r
    induction r with
    | zero =>
      intro b t M1 e hab hok h1 hs kk
      have e : b = yN c := by omega
      subst e
      have hN := h1.1
      rw [hok.2] at hN
      refine zv_iload (pc' := 22) dX6_drawSignings_20 rfl rfl ?_
      refine zv_aload_n (pc' := 23) dX6_drawSignings_22 rfl rfl ?_
      refine zv_getR (pc' := 26) dX6_drawSignings_23 rfl flX6_19 (by first | rfl | assumption) rfl ?_
      refine zv_getIE (pc' := 29) dX6_drawSignings_26 rfl flX6_186 (by first | rfl | assumption) rfl (by first | exact hN | rfl) ?_
      refine zv_icmp_ge (pc' := 32) (tgt := 96) dX6_drawSignings_29 rfl rfl (fun _ => ?_) (fun hcc => absurd (Int32.le_refl _) hcc)
      refine zv_fg [4] ?_
      exact kk M1 h1 hs
    | succ r ih =>
      intro b t M1 e hab hok h1 hs kk
      have hN := h1.1
      rw [hok.2] at hN
      have A : ∀ v, v = zb (B (F t.1)) → ZV mdX6_drawSignings (d + 3) (fun v M' => ∃ r, v = some (.int r) ∧ (r = (drS F B c z).1 ∧ zAt M' 13 (drS F B c z).2 ∧ zSame 13 19 M M')) 62 [some (.ref 0), some (.int z), some (.int (F t.1)), some (.int (nI a)), some (.int (nI b)), none] [.int v] M1 := by
        intro v hv
        subst hv
        refine zv_istore (pc' := 64) dX6_drawSignings_62 rfl (by decide) ?_
        refine zv_aload_n (pc' := 65) dX6_drawSignings_64 rfl rfl ?_
        refine zv_getR (pc' := 68) dX6_drawSignings_65 rfl flX6_19 (by first | rfl | assumption) rfl ?_
        refine zv_iload_n (pc' := 69) dX6_drawSignings_68 rfl rfl ?_
        refine zv_iload (pc' := 71) dX6_drawSignings_69 rfl rfl ?_
        refine zv_iload (pc' := 73) dX6_drawSignings_71 rfl rfl ?_
        refine zv_cV3_fi (pc' := 76) dX6_drawSignings_73 rfl lkX6_259 (by first | rfl | assumption) rfl (Nat.le_of_ble_eq_true rfl) (x0_setSigning zCy13 h1 hok.1.1 (by rw [hok.2]; exact ha) (by rw [hok.2]; omega) (by omega)) ?_
        rintro r3 M3 ⟨-, h3, s3⟩
        refine zv_pop (pc' := 77) dX6_drawSignings_76 rfl rfl ?_
        refine zv_aload_n (pc' := 78) dX6_drawSignings_77 rfl rfl ?_
        refine zv_getR (pc' := 81) dX6_drawSignings_78 rfl flX6_19 (by first | rfl | assumption) rfl ?_
        refine zv_iload (pc' := 83) dX6_drawSignings_81 rfl rfl ?_
        refine zv_iload_n (pc' := 84) dX6_drawSignings_83 rfl rfl ?_
        refine zv_iload (pc' := 86) dX6_drawSignings_84 rfl rfl ?_
        refine zv_cV3_fi (pc' := 89) dX6_drawSignings_86 rfl lkX6_259 (by first | rfl | assumption) rfl (Nat.le_of_ble_eq_true rfl) (x0_setSigning (c := signC t.2 a b (B (F t.1))) zCy13 h3 hok.1.1 (by show b < yN t.2; rw [hok.2]; omega) (by show a < yN t.2; rw [hok.2]; exact ha) (by omega)) ?_
        rintro r4 M4 ⟨-, h4, s4⟩
        refine zv_pop (pc' := 90) dX6_drawSignings_89 rfl rfl ?_
        refine zv_iinc (w := nI 1) (pc' := 93) dX6_drawSignings_90 rfl rfl (by decide) (by decide) ?_
        refine zv_goto (pc' := 20) dX6_drawSignings_93 rfl ?_
        refine zv_fg [5] ?_
        rw [nI_add]
        exact ih (b + 1) (drP F B a b t) M4 (by omega) (by omega) (drP_ok ha (by omega) (by omega) hok) h4 (hs.tr (s3.tr s4)) kk
      refine zv_iload (pc' := 22) dX6_drawSignings_20 rfl rfl ?_
      refine zv_aload_n (pc' := 23) dX6_drawSignings_22 rfl rfl ?_
      refine zv_getR (pc' := 26) dX6_drawSignings_23 rfl flX6_19 (by first | rfl | assumption) rfl ?_
      refine zv_getIE (pc' := 29) dX6_drawSignings_26 rfl flX6_186 (by first | rfl | assumption) rfl (by first | exact hN | rfl) ?_
      refine zv_icmp_ge (pc' := 32) (tgt := 96) dX6_drawSignings_29 rfl rfl (fun hcc => absurd hcc (nI_ge (by omega) (by omega))) (fun _ => ?_)
      refine zv_iload_n (pc' := 33) dX6_drawSignings_32 rfl rfl ?_
      refine zv_ldcw (pc' := 36) dX6_drawSignings_33 rfl csX6_310 ?_
      refine zv_imul (pc' := 37) dX6_drawSignings_36 rfl ?_
      refine zv_ldcw (pc' := 40) dX6_drawSignings_37 rfl csX6_311 ?_
      refine zv_iadd (pc' := 41) dX6_drawSignings_40 rfl ?_
      refine zv_top (hF t.1) ?_
      refine zv_istore_n (pc' := 42) dX6_drawSignings_41 rfl (by decide) ?_
      refine zv_iload_n (pc' := 43) dX6_drawSignings_42 rfl rfl ?_
      refine zv_ldcw (pc' := 46) dX6_drawSignings_43 rfl csX6_312 ?_
      refine zv_iand (pc' := 47) dX6_drawSignings_46 rfl ?_
      refine zv_sipush (v := nI 256) (pc' := 50) dX6_drawSignings_47 rfl (by decide) ?_
      refine zv_idiv (pc' := 51) dX6_drawSignings_50 rfl (by first | assumption | decide) ?_
      refine zv_iconst (v := nI 2) (pc' := 52) dX6_drawSignings_51 rfl (by decide) ?_
      refine zv_irem (pc' := 53) dX6_drawSignings_52 rfl (by first | assumption | decide) ?_
      refine zv_top (hB (F t.1)) ?_
      refine zv_iconst (v := nI 1) (pc' := 54) dX6_drawSignings_53 rfl (by decide) ?_
      refine zv_icmp_ne (pc' := 57) (tgt := 61) dX6_drawSignings_54 rfl rfl ?_ ?_
      · intro h
        refine zv_iconst (v := nI 0) (pc' := 62) dX6_drawSignings_61 rfl (by decide) ?_
        refine A _ ?_
        cases hb : B (F t.1)
        · rfl
        · rw [hb] at h; exact absurd rfl h
      · intro h
        refine zv_iconst (v := nI 1) (pc' := 58) dX6_drawSignings_57 rfl (by decide) ?_
        refine zv_goto (pc' := 62) dX6_drawSignings_58 rfl ?_
        refine A _ ?_
        cases hb : B (F t.1)
        · rw [hb] at h; exact absurd h (by decide)
        · rfl
  have l1 : ∀ r a t M1, a + r = yN c → zOk t.2 ∧ yN t.2 = yN c → zAt M1 13 t.2 → zSame 13 19 M M1 → zlf r a (drI F B (yN c)) t = drS F B c z → ZV mdX6_drawSignings (d + 3) (fun v M' => ∃ r, v = some (.int r) ∧ (r = (drS F B c z).1 ∧ zAt M' 13 (drS F B c z).2 ∧ zSame 13 19 M M')) 4 [some (.ref 0), some (.int z), some (.int t.1), some (.int (nI a)), none, none] [] M1 := by
    intro r
    induction r with
    | zero =>
      intro a t M1 e hok h1 hs hz
      have e : a = yN c := by omega
      subst e
      have hz : t = drS F B c z := hz
      have hN := h1.1
      rw [hok.2] at hN
      refine zv_iload_n (pc' := 5) dX6_drawSignings_4 rfl rfl ?_
      refine zv_aload_n (pc' := 6) dX6_drawSignings_5 rfl rfl ?_
      refine zv_getR (pc' := 9) dX6_drawSignings_6 rfl flX6_19 (by first | rfl | assumption) rfl ?_
      refine zv_getIE (pc' := 12) dX6_drawSignings_9 rfl flX6_186 (by first | rfl | assumption) rfl (by first | exact hN | rfl) ?_
      refine zv_icmp_ge (pc' := 15) (tgt := 102) dX6_drawSignings_12 rfl rfl (fun _ => ?_) (fun hcc => absurd (Int32.le_refl _) hcc)
      refine zv_iload_n (pc' := 103) dX6_drawSignings_102 rfl rfl ?_
      refine zv_iret dX6_drawSignings_103 rfl ?_
      exact ⟨_, rfl, by rw [hz], by rw [← hz]; exact h1, hs⟩
    | succ r ih =>
      intro a t M1 e hok h1 hs hz
      have hN := h1.1
      rw [hok.2] at hN
      refine zv_iload_n (pc' := 5) dX6_drawSignings_4 rfl rfl ?_
      refine zv_aload_n (pc' := 6) dX6_drawSignings_5 rfl rfl ?_
      refine zv_getR (pc' := 9) dX6_drawSignings_6 rfl flX6_19 (by first | rfl | assumption) rfl ?_
      refine zv_getIE (pc' := 12) dX6_drawSignings_9 rfl flX6_186 (by first | rfl | assumption) rfl (by first | exact hN | rfl) ?_
      refine zv_icmp_ge (pc' := 15) (tgt := 102) dX6_drawSignings_12 rfl rfl (fun hcc => absurd hcc (nI_ge (by omega) (by omega))) (fun _ => ?_)
      refine zv_iload_n (pc' := 16) dX6_drawSignings_15 rfl rfl ?_
      refine zv_iconst (v := nI 1) (pc' := 17) dX6_drawSignings_16 rfl (by decide) ?_
      refine zv_iadd (pc' := 18) dX6_drawSignings_17 rfl ?_
      refine zv_istore (pc' := 20) dX6_drawSignings_18 rfl (by decide) ?_
      rw [nI_add]
      refine l2 a (by omega) (yN c - (a + 1)) (a + 1) t M1 (by omega) (by omega) hok h1 hs (fun M2 h2 s2 => ?_)
      refine zv_iinc (w := nI 1) (pc' := 99) dX6_drawSignings_96 rfl rfl (by decide) (by decide) ?_
      refine zv_goto (pc' := 4) dX6_drawSignings_99 rfl ?_
      rw [nI_add]
      exact ih (a + 1) (drI F B (yN c) a t) M2 (by omega) (drI_ok (by omega) hok) h2 s2 hz
  refine zex_intro (L := [some (.ref 0), some (.int z), none, none, none, none]) (by decide) (Nat.le_of_ble_eq_true rfl) rfl ?_
  refine zv_iload_n (pc' := 1) dX6_drawSignings_0 rfl rfl ?_
  refine zv_istore_n (pc' := 2) dX6_drawSignings_1 rfl (by decide) ?_
  refine zv_iconst (v := nI 0) (pc' := 3) dX6_drawSignings_2 rfl (by decide) ?_
  refine zv_istore_n (pc' := 4) dX6_drawSignings_3 rfl (by decide) ?_
  exact l1 (yN c) 0 (z, c) M (by omega) ⟨hk, rfl⟩ hA zSame.rf rfl
theorem x7_draw {z : Int32} (hF : ∀ z : Int32, z * 1664525 + 1013904223 = F z) (hB : ∀ z : Int32, (z &&& 2147483647) / nI 256 - (z &&& 2147483647) / nI 256 / nI 2 * nI 2 = zb (B z)) (hL : M 90 27 = z) : ZFi mdX7_draw d [.ref 90, .int (nI 2)] M (fun r M' => r = zb (B (F z)) ∧ M' = zup M 90 27 (F z)) := by
  have h2 : zup M 90 27 (F z) 90 27 = F z := by rw [zup_eq, upd_s]
  refine zex_intro (L := [some (.ref 90), some (.int (nI 2))]) (by decide) (Nat.le_of_ble_eq_true rfl) rfl ?_
  refine zv_aload_n (pc' := 1) dX7_draw_0 rfl rfl ?_
  refine zv_aload_n (pc' := 2) dX7_draw_1 rfl rfl ?_
  refine zv_getIE (pc' := 5) dX7_draw_2 rfl flX7_307 (by first | rfl | assumption) rfl (by first | exact hL | rfl) ?_
  refine zv_ldcw (pc' := 8) dX7_draw_5 rfl csX7_310 ?_
  refine zv_imul (pc' := 9) dX7_draw_8 rfl ?_
  refine zv_ldcw (pc' := 12) dX7_draw_9 rfl csX7_311 ?_
  refine zv_iadd (pc' := 13) dX7_draw_12 rfl ?_
  refine zv_top (hF z) ?_
  refine zv_putI (pc' := 16) dX7_draw_13 rfl flX7_307 pfX7_27 (by first | rfl | assumption) rfl rfl rfl ?_
  refine zv_aload_n (pc' := 17) dX7_draw_16 rfl rfl ?_
  refine zv_getIE (pc' := 20) dX7_draw_17 rfl flX7_307 (by first | rfl | assumption) rfl (by first | exact h2 | rfl) ?_
  refine zv_ldcw (pc' := 23) dX7_draw_20 rfl csX7_312 ?_
  refine zv_iand (pc' := 24) dX7_draw_23 rfl ?_
  refine zv_sipush (v := nI 256) (pc' := 27) dX7_draw_24 rfl (by decide) ?_
  refine zv_idiv (pc' := 28) dX7_draw_27 rfl (by first | assumption | decide) ?_
  refine zv_iload_n (pc' := 29) dX7_draw_28 rfl rfl ?_
  refine zv_irem (pc' := 30) dX7_draw_29 rfl (by first | assumption | decide) ?_
  refine zv_top (hB (F z)) ?_
  refine zv_iret dX7_draw_30 rfl ?_
  exact ⟨_, rfl, rfl, rfl⟩
end
section
variable {F : Int32 → Int32} {B : Int32 → Bool} {d : Nat}
theorem gx_lotsG (hF : ∀ z : Int32, z * 1664525 + 1013904223 = F z) (hB : ∀ z : Int32, (z &&& 2147483647) / nI 256 - (z &&& 2147483647) / nI 256 / nI 2 * nI 2 = zb (B z)) (x z y : Int32) : zGx mdX6_lots (d + 4) [.int x, .int z, .int y] (sp_lotsG F B x z y) := by
  intro M s hI hk
  have hn8 := hk.1.1
  have hA := hI.1
  refine zex_intro (L := [some (.ref 0), some (.int x), some (.int z), some (.int y), none, none, none, none]) (by decide) (Nat.le_of_ble_eq_true rfl) rfl ?_
  refine zv_iload_n (pc' := 1) dX6_lots_0 rfl rfl ?_
  refine zv_iconst (v := nI 1) (pc' := 2) dX6_lots_1 rfl (by decide) ?_
  refine zv_bipush (v := nI 20) (pc' := 4) dX6_lots_2 rfl (by decide) ?_
  refine zv_cS3_pi (pc' := 7) dX6_lots_4 rfl lkX6_73 (Nat.le_of_ble_eq_true rfl) (x6_outside) ?_
  refine zv_iload_n (pc' := 8) dX6_lots_7 rfl rfl ?_
  refine zv_iconst (v := nI 1) (pc' := 9) dX6_lots_8 rfl (by decide) ?_
  refine zv_cS2_pi (pc' := 12) dX6_lots_9 rfl lkX6_114 (Nat.le_of_ble_eq_true rfl) (x6_otherThan) ?_
  refine zv_iconst (v := nI 0) (pc' := 13) dX6_lots_12 rfl (by decide) ?_
  refine zv_top (show nI 0 = -nI 0 by decide) ?_
  refine zv_cS3_pi (pc' := 16) dX6_lots_13 rfl lkX6_81 (Nat.le_of_ble_eq_true rfl) (x6_firstOf bdN_lt otN_lt) ?_
  have hw := fiN_lt (bdN_lt (x := x) (lo := nI 1) (hi := nI 20)) (otN_lt (x := y) (n := 1)) (by decide : 0 < 7)
  refine zv_istore (pc' := 18) dX6_lots_16 rfl (by decide) ?_
  refine zv_iload (pc' := 20) dX6_lots_18 rfl rfl ?_
  refine zv_if_eq (pc' := 23) (tgt := 30) dX6_lots_20 rfl rfl ?_ ?_
  · intro h
    have h0 := (neg_w0 _ hw).mp h
    obtain ⟨g1, g2, -⟩ := fiN_0.mp h0
    obtain ⟨n, -, hn2, rfl⟩ := isInB_of (by decide) (bdN_0.mp g1) (by decide)
    obtain ⟨w, -, hw2, rfl⟩ := isInB_of (by decide) (otN_0.mp g2) (by decide)
    have ev : sp_lotsG F B (nI n) z (nI w) s = ((loS F B (sC s) w n z).2, s) := by rw [sp_lotsG, zans_0 h0, pN_nI (by omega), pN_nI (by omega)]
    have lp : ∀ r k t M1, k + r = n → zScr M M1 → zlf r k (fun _ => loP F B (sC s) w) t = loS F B (sC s) w n z → ZV mdX6_lots (d + 4) (fun v M' => ∃ r, v = some (.int r) ∧ (r = (sp_lotsG F B (nI n) z (nI w) s).1 ∧ zIx M' (sp_lotsG F B (nI n) z (nI w) s).2 ∧ zSame 0 90 M M')) 39 [some (.ref 0), some (.int (nI n)), some (.int z), some (.int (nI w)), none, some (.int t.1), some (.int t.2), some (.int (nI k))] [] M1 := by
      intro r
      induction r with
      | zero =>
        intro k t M1 e hs hz
        have e : k = n := by omega
        subst e
        have hz : t = loS F B (sC s) w k z := hz
        refine zv_iload (pc' := 41) dX6_lots_39 rfl rfl ?_
        refine zv_iload_n (pc' := 42) dX6_lots_41 rfl rfl ?_
        refine zv_icmp_ge (pc' := 45) (tgt := 106) dX6_lots_42 rfl rfl (fun _ => ?_) (fun hcc => absurd (Int32.le_refl _) hcc)
        refine zv_iload (pc' := 108) dX6_lots_106 rfl rfl ?_
        refine zv_iret dX6_lots_108 rfl ?_
        exact zdonq (by rw [ev, hz]) hI hs
      | succ r ih =>
        intro k t M1 e hs hz
        have hA1 := (hI.scr hs).1
        refine zv_iload (pc' := 41) dX6_lots_39 rfl rfl ?_
        refine zv_iload_n (pc' := 42) dX6_lots_41 rfl rfl ?_
        refine zv_icmp_ge (pc' := 45) (tgt := 106) dX6_lots_42 rfl rfl (fun hcc => absurd hcc (nI_ge (by omega) (by omega))) (fun _ => ?_)
        refine zv_aload_n (pc' := 46) dX6_lots_45 rfl rfl ?_
        refine zv_getR (pc' := 49) dX6_lots_46 rfl flX6_19 (by first | rfl | assumption) rfl ?_
        refine zv_aload_n (pc' := 50) dX6_lots_49 rfl rfl ?_
        refine zv_getR (pc' := 53) dX6_lots_50 rfl flX6_10 (by first | rfl | assumption) rfl ?_
        refine zv_cV1_fv (pc' := 56) dX6_lots_53 rfl lkX6_100 (by first | rfl | assumption) rfl (Nat.le_of_ble_eq_true rfl) (x0_become zCy13 zCy1 hA1 (by omega)) ?_
        rintro M2 ⟨h2, s2⟩
        refine zv_aload_n (pc' := 57) dX6_lots_56 rfl rfl ?_
        refine zv_iload (pc' := 59) dX6_lots_57 rfl rfl ?_
        refine zv_cV1_fi (pc' := 62) dX6_lots_59 rfl lkX6_272 (by first | rfl | assumption) rfl (Nat.le_of_ble_eq_true rfl) (x6_drawSignings hF hB h2 hk.1) ?_
        rintro r3 M3 ⟨rfl, h3, s3⟩
        have ok := drS_ok (F := F) (B := B) (z := t.1) hk.1
        refine zv_istore (pc' := 64) dX6_lots_62 rfl (by decide) ?_
        refine zv_aload_n (pc' := 65) dX6_lots_64 rfl rfl ?_
        refine zv_getR (pc' := 68) dX6_lots_65 rfl flX6_19 (by first | rfl | assumption) rfl ?_
        refine zv_bipush (v := nI 10) (pc' := 70) dX6_lots_68 rfl (by decide) ?_
        refine zv_cV1_fi (pc' := 73) dX6_lots_70 rfl lkX6_168 (by first | rfl | assumption) rfl (Nat.le_of_ble_eq_true rfl) (x0_passYears zCy13 h3 ok.1 (by decide)) ?_
        rintro r4 M4 ⟨-, h4, s4⟩
        have ok4 := zOk_years (k := 10) ok.1
        have := ih (k + 1) (loP F B (sC s) w t) M4 (by omega) (hs.tr (zScr.same (s2.tr (s3.tr s4)) (by omega))) hz
        refine zv_pop (pc' := 74) dX6_lots_73 rfl rfl ?_
        refine zv_iload (pc' := 76) dX6_lots_74 rfl rfl ?_
        refine zv_iload_n (pc' := 77) dX6_lots_76 rfl rfl ?_
        rcases (show w = 0 ∨ w = 1 by omega) with rfl | rfl
        · refine zv_if_ne (pc' := 80) (tgt := 90) dX6_lots_77 rfl rfl (fun hcc => absurd (rfl) hcc) (fun _ => ?_)
          refine zv_aload_n (pc' := 81) dX6_lots_80 rfl rfl ?_
          refine zv_getR (pc' := 84) dX6_lots_81 rfl flX6_19 (by first | rfl | assumption) rfl ?_
          refine zv_cV0_pi (pc' := 87) dX6_lots_84 rfl lkX6_171 (by first | rfl | assumption) rfl (Nat.le_of_ble_eq_true rfl) (x0_wealth zCy13 h4 ok4.1.1) ?_
          refine zv_goto (pc' := 97) dX6_lots_87 rfl ?_
          refine zv_iadd (pc' := 98) dX6_lots_97 rfl ?_
          refine zv_istore (pc' := 100) dX6_lots_98 rfl (by decide) ?_
          refine zv_iinc (w := nI 1) (pc' := 103) dX6_lots_100 rfl rfl (by decide) (by decide) ?_
          refine zv_goto (pc' := 39) dX6_lots_103 rfl ?_
          rw [nI_add]
          exact this
        · refine zv_if_ne (pc' := 80) (tgt := 90) dX6_lots_77 rfl rfl (fun _ => ?_) (fun hcc => absurd hcc (by decide))
          refine zv_aload_n (pc' := 91) dX6_lots_90 rfl rfl ?_
          refine zv_getR (pc' := 94) dX6_lots_91 rfl flX6_19 (by first | rfl | assumption) rfl ?_
          refine zv_cV0_pi (pc' := 97) dX6_lots_94 rfl lkX6_234 (by first | rfl | assumption) rfl (Nat.le_of_ble_eq_true rfl) (x0_kinTwos zCy13 h4 ok4.1) ?_
          refine zv_iadd (pc' := 98) dX6_lots_97 rfl ?_
          refine zv_istore (pc' := 100) dX6_lots_98 rfl (by decide) ?_
          refine zv_iinc (w := nI 1) (pc' := 103) dX6_lots_100 rfl rfl (by decide) (by decide) ?_
          refine zv_goto (pc' := 39) dX6_lots_103 rfl ?_
          rw [nI_add]
          exact this
    refine zv_iload_n (pc' := 31) dX6_lots_30 rfl rfl ?_
    refine zv_istore (pc' := 33) dX6_lots_31 rfl (by decide) ?_
    refine zv_iconst (v := nI 0) (pc' := 34) dX6_lots_33 rfl (by decide) ?_
    refine zv_istore (pc' := 36) dX6_lots_34 rfl (by decide) ?_
    refine zv_iconst (v := nI 0) (pc' := 37) dX6_lots_36 rfl (by decide) ?_
    refine zv_istore (pc' := 39) dX6_lots_37 rfl (by decide) ?_
    refine zv_fg [4] ?_
    exact lp n 0 (z, nI 0) M (by omega) zScr.rf rfl
  · intro h
    have h0 := mt (neg_w0 _ hw).mpr h
    refine zv_aload_n (pc' := 24) dX6_lots_23 rfl rfl ?_
    refine zv_iload (pc' := 26) dX6_lots_24 rfl rfl ?_
    refine zv_cV1_fi (pc' := 29) dX6_lots_26 rfl lkX6_84 (by first | rfl | assumption) rfl (Nat.le_of_ble_eq_true rfl) (x6_refuse hw h0) ?_
    rintro r M1 ⟨rfl, rfl⟩
    refine zv_iret dX6_lots_29 rfl ?_
    exact zrefx hI h0
theorem gm_lotsG (hF : ∀ z : Int32, z * 1664525 + 1013904223 = F z) (hB : ∀ z : Int32, (z &&& 2147483647) / nI 256 - (z &&& 2147483647) / nI 256 / nI 2 * nI 2 = zb (B z)) (x z y : Int32) : zGm mdX7_lots (d + 5) [.int x, .int z, .int y] (sp_lotsG F B x z y) := by
  intro M s hI hk
  have hn8 := hk.1.1
  have hA := hI.1
  have fin : ∀ v, v < 7 → v = fiN (bdN x (nI 1) (nI 20)) (otN y 1) 0 → ZV mdX7_lots (d + 5) (fun v M' => ∃ r, v = some (.int r) ∧ (r = (sp_lotsG F B x z y s).1 ∧ zIm M' (sp_lotsG F B x z y s).2 ∧ ∀ k, k < 90 → M' k = M k)) 27 [some (.ref 90), some (.int x), some (.int z), some (.int y), some (.int (-nI v)), none, none, none, none, none] [] M := by
    intro v hv hve
    refine zv_iload (pc' := 29) dX7_lots_27 rfl rfl ?_
    refine zv_if_eq (pc' := 32) (tgt := 39) dX7_lots_29 rfl rfl ?_ ?_
    · intro h
      have h0 := (neg_w0 _ hv).mp h
      rw [h0] at hve
      obtain ⟨g1, g2, -⟩ := fiN_0.mp hve.symm
      obtain ⟨n, -, hn2, rfl⟩ := isInB_of (by decide) (bdN_0.mp g1) (by decide)
      obtain ⟨w, -, hw2, rfl⟩ := isInB_of (by decide) (otN_0.mp g2) (by decide)
      have ev : sp_lotsG F B (nI n) z (nI w) s = ((loS F B (sC s) w n z).2, s) := by rw [sp_lotsG, zans_0 hve.symm, pN_nI (by omega), pN_nI (by omega)]
      have l3 : ∀ k u a, a < yN (sC s) → ∀ r b t M1, b + r = yN (sC s) → a < b → zOk t.2 ∧ yN t.2 = yN (sC s) → zKp M1 84 (sC s) ∧ zAm M1 t.2 ∧ M1 90 27 = t.1 ∧ zFr psM fsM M M1 ∧ (∀ i, i < 42 → M1 101 i = M 101 i) →
          (∀ M2, (zKp M2 84 (sC s) ∧ zAm M2 (zlf r b (drP F B a) t).2 ∧ M2 90 27 = (zlf r b (drP F B a) t).1 ∧ zFr psM fsM M M2 ∧ (∀ i, i < 42 → M2 101 i = M 101 i)) → ZV mdX7_lots (d + 5) (fun v M' => ∃ r, v = some (.int r) ∧ (r = (sp_lotsG F B (nI n) z (nI w) s).1 ∧ zIm M' (sp_lotsG F B (nI n) z (nI w) s).2 ∧ ∀ k, k < 90 → M' k = M k)) 142 [some (.ref 90), some (.int (nI n)), some (.int z), some (.int (nI w)), none, some (.int u), some (.int (nI k)), some (.int (nI a)), none, none] [] M2) →
          ZV mdX7_lots (d + 5) (fun v M' => ∃ r, v = some (.int r) ∧ (r = (sp_lotsG F B (nI n) z (nI w) s).1 ∧ zIm M' (sp_lotsG F B (nI n) z (nI w) s).2 ∧ ∀ k, k < 90 → M' k = M k)) 78 [some (.ref 90), some (.int (nI n)), some (.int z), some (.int (nI w)), none, some (.int u), some (.int (nI k)), some (.int (nI a)), some (.int (nI b)), none] [] M1 := by
        intro k u a ha r
        induction r with
        | zero =>
          intro b t M1 e hab hok h1 kk
          have e : b = yN (sC s) := by omega
          subst e
          have hN := h1.2.1.1
          rw [hok.2] at hN
          refine zv_iload (pc' := 80) dX7_lots_78 rfl rfl ?_
          refine zv_aload_n (pc' := 81) dX7_lots_80 rfl rfl ?_
          refine zv_getIE (pc' := 84) dX7_lots_81 rfl flX7_65 (by first | rfl | assumption) rfl (by first | exact hN | rfl) ?_
          refine zv_icmp_ge (pc' := 87) (tgt := 142) dX7_lots_84 rfl rfl (fun _ => ?_) (fun hcc => absurd (Int32.le_refl _) hcc)
          refine zv_fg [8] ?_
          exact kk M1 h1
        | succ r ih =>
          intro b t M1 e hab hok h1 kk
          obtain ⟨hkp, hA1, hz1, hf1, hq1⟩ := h1
          have hN := hA1.1
          rw [hok.2] at hN
          refine zv_iload (pc' := 80) dX7_lots_78 rfl rfl ?_
          refine zv_aload_n (pc' := 81) dX7_lots_80 rfl rfl ?_
          refine zv_getIE (pc' := 84) dX7_lots_81 rfl flX7_65 (by first | rfl | assumption) rfl (by first | exact hN | rfl) ?_
          refine zv_icmp_ge (pc' := 87) (tgt := 142) dX7_lots_84 rfl rfl (fun hcc => absurd hcc (nI_ge (by omega) (by omega))) (fun _ => ?_)
          refine zv_aload_n (pc' := 88) dX7_lots_87 rfl rfl ?_
          refine zv_iconst (v := nI 2) (pc' := 89) dX7_lots_88 rfl (by decide) ?_
          refine zv_cV1_fi (pc' := 92) dX7_lots_89 rfl lkX7_313 (by first | rfl | assumption) rfl (Nat.le_of_ble_eq_true rfl) (x7_draw hF hB hz1) ?_
          rintro r2 M2 ⟨rfl, e2⟩
          have f2 : zFr [] [27] M1 M2 := by rw [e2]; exact zFr.uf (by decide)
          have hA2 : zAm M2 t.2 := hA1.same f2 (by simp) (by simp)
          have hz2 : M2 90 27 = F t.1 := by rw [e2, zup_eq, upd_s]
          have hS := hA2.2.2.2.2.2.1
          clear e2
          refine zv_istore (pc' := 94) dX7_lots_92 rfl (by decide) ?_
          refine zv_aload_n (pc' := 95) dX7_lots_94 rfl rfl ?_
          refine zv_getR (pc' := 98) dX7_lots_95 rfl flX7_22 (by first | rfl | assumption) rfl ?_
          refine zv_iload (pc' := 100) dX7_lots_98 rfl rfl ?_
          refine zv_aload_n (pc' := 101) dX7_lots_100 rfl rfl ?_
          refine zv_getR (pc' := 104) dX7_lots_101 rfl flX7_22 (by first | rfl | assumption) rfl ?_
          refine zv_iload (pc' := 106) dX7_lots_104 rfl rfl ?_
          refine zv_ialoadE (pc' := 107) dX7_lots_106 rfl (by first | rfl | assumption) (by decide) (by omega) (by first | exact hS _ (by omega) | rfl) ?_
          refine zv_iload (pc' := 109) dX7_lots_107 rfl rfl ?_
          refine zv_iload (pc' := 111) dX7_lots_109 rfl rfl ?_
          refine zv_cS3_pi (pc' := 114) dX7_lots_111 rfl lkX7_291 (Nat.le_of_ble_eq_true rfl) (x7_with (by omega)) ?_
          refine zv_iastoreN (pc' := 115) dX7_lots_114 rfl (by first | rfl | assumption) (by decide) (by omega) ?_
          have hA3 : zAm (zup M2 95 a (nI (zm 8 (fu (yS t.2 a) b (B (F t.1)))))) (signC t.2 a b (B (F t.1))) := zAm_S hA2
          have f3 : zFr [95] [] M2 (zup M2 95 a (nI (zm 8 (fu (yS t.2 a) b (B (F t.1)))))) := zFr.up (by decide) (by decide)
          generalize zup M2 95 a (nI (zm 8 (fu (yS t.2 a) b (B (F t.1))))) = M3 at hA3 f3 ⊢
          have hS3 := hA3.2.2.2.2.2.1
          refine zv_aload_n (pc' := 116) dX7_lots_115 rfl rfl ?_
          refine zv_getR (pc' := 119) dX7_lots_116 rfl flX7_22 (by first | rfl | assumption) rfl ?_
          refine zv_iload (pc' := 121) dX7_lots_119 rfl rfl ?_
          refine zv_aload_n (pc' := 122) dX7_lots_121 rfl rfl ?_
          refine zv_getR (pc' := 125) dX7_lots_122 rfl flX7_22 (by first | rfl | assumption) rfl ?_
          refine zv_iload (pc' := 127) dX7_lots_125 rfl rfl ?_
          refine zv_ialoadE (pc' := 128) dX7_lots_127 rfl (by first | rfl | assumption) (by decide) (by omega) (by first | exact hS3 _ (by omega) | rfl) ?_
          refine zv_iload (pc' := 130) dX7_lots_128 rfl rfl ?_
          refine zv_iload (pc' := 132) dX7_lots_130 rfl rfl ?_
          refine zv_cS3_pi (pc' := 135) dX7_lots_132 rfl lkX7_291 (Nat.le_of_ble_eq_true rfl) (x7_with (by omega)) ?_
          refine zv_iastoreN (pc' := 136) dX7_lots_135 rfl (by first | rfl | assumption) (by decide) (by omega) ?_
          have hA4 : zAm (zup M3 95 b (nI (zm 8 (fu (yS (signC t.2 a b (B (F t.1))) b) a (B (F t.1)))))) (signC (signC t.2 a b (B (F t.1))) b a (B (F t.1))) := zAm_S hA3
          have f4 : zFr [95] [] M3 (zup M3 95 b (nI (zm 8 (fu (yS (signC t.2 a b (B (F t.1))) b) a (B (F t.1)))))) := zFr.up (by decide) (by decide)
          generalize zup M3 95 b (nI (zm 8 (fu (yS (signC t.2 a b (B (F t.1))) b) a (B (F t.1))))) = M4 at hA4 f4 ⊢
          have e101 : M4 101 = M1 101 := (f4.1 101 (by decide) (by decide)).trans ((f3.1 101 (by decide) (by decide)).trans (f2.1 101 (by decide) (by decide)))
          refine zv_iinc (w := nI 1) (pc' := 139) dX7_lots_136 rfl rfl (by decide) (by decide) ?_
          refine zv_goto (pc' := 78) dX7_lots_139 rfl ?_
          refine zv_fg [9] ?_
          rw [nI_add]
          refine ih (b + 1) (drP F B a b t) M4 (by omega) (by omega) (drP_ok ha (by omega) (by omega) hok) ⟨hkp.same (fun i _ _ => by rw [e101]), hA4, ?_, hf1.tr ((f2.mono (by simp) (by simp)).tr ((f3.mono (by simp) (by simp)).tr (f4.mono (by simp) (by simp)))), fun i hi => by rw [e101]; exact hq1 i hi⟩ kk
          rw [f4.2 _ (by simp), f3.2 _ (by simp)]
          exact hz2
      have l2 : ∀ k u t0, ∀ r a t M1, a + r = yN (sC s) → zOk t.2 ∧ yN t.2 = yN (sC s) → zlf r a (drI F B (yN (sC s))) t = drS F B (sC s) t0 → zKp M1 84 (sC s) ∧ zAm M1 t.2 ∧ M1 90 27 = t.1 ∧ zFr psM fsM M M1 ∧ (∀ i, i < 42 → M1 101 i = M 101 i) →
          (∀ M2, (zKp M2 84 (sC s) ∧ zAm M2 (drS F B (sC s) t0).2 ∧ M2 90 27 = (drS F B (sC s) t0).1 ∧ zFr psM fsM M M2 ∧ (∀ i, i < 42 → M2 101 i = M 101 i)) → ZV mdX7_lots (d + 5) (fun v M' => ∃ r, v = some (.int r) ∧ (r = (sp_lotsG F B (nI n) z (nI w) s).1 ∧ zIm M' (sp_lotsG F B (nI n) z (nI w) s).2 ∧ ∀ k, k < 90 → M' k = M k)) 148 [some (.ref 90), some (.int (nI n)), some (.int z), some (.int (nI w)), none, some (.int u), some (.int (nI k)), none, none, none] [] M2) →
          ZV mdX7_lots (d + 5) (fun v M' => ∃ r, v = some (.int r) ∧ (r = (sp_lotsG F B (nI n) z (nI w) s).1 ∧ zIm M' (sp_lotsG F B (nI n) z (nI w) s).2 ∧ ∀ k, k < 90 → M' k = M k)) 63 [some (.ref 90), some (.int (nI n)), some (.int z), some (.int (nI w)), none, some (.int u), some (.int (nI k)), some (.int (nI a)), none, none] [] M1 := by
        intro k u t0 r
        induction r with
        | zero =>
          intro a t M1 e hok hz h1 kk
          have e : a = yN (sC s) := by omega
          subst e
          have hz : t = drS F B (sC s) t0 := hz
          have hN := h1.2.1.1
          rw [hok.2] at hN
          refine zv_iload (pc' := 65) dX7_lots_63 rfl rfl ?_
          refine zv_aload_n (pc' := 66) dX7_lots_65 rfl rfl ?_
          refine zv_getIE (pc' := 69) dX7_lots_66 rfl flX7_65 (by first | rfl | assumption) rfl (by first | exact hN | rfl) ?_
          refine zv_icmp_ge (pc' := 72) (tgt := 148) dX7_lots_69 rfl rfl (fun _ => ?_) (fun hcc => absurd (Int32.le_refl _) hcc)
          refine zv_fg [7] ?_
          rw [hz] at h1
          exact kk M1 h1
        | succ r ih =>
          intro a t M1 e hok hz h1 kk
          have hN := h1.2.1.1
          rw [hok.2] at hN
          refine zv_iload (pc' := 65) dX7_lots_63 rfl rfl ?_
          refine zv_aload_n (pc' := 66) dX7_lots_65 rfl rfl ?_
          refine zv_getIE (pc' := 69) dX7_lots_66 rfl flX7_65 (by first | rfl | assumption) rfl (by first | exact hN | rfl) ?_
          refine zv_icmp_ge (pc' := 72) (tgt := 148) dX7_lots_69 rfl rfl (fun hcc => absurd hcc (nI_ge (by omega) (by omega))) (fun _ => ?_)
          refine zv_iload (pc' := 74) dX7_lots_72 rfl rfl ?_
          refine zv_iconst (v := nI 1) (pc' := 75) dX7_lots_74 rfl (by decide) ?_
          refine zv_iadd (pc' := 76) dX7_lots_75 rfl ?_
          refine zv_istore (pc' := 78) dX7_lots_76 rfl (by decide) ?_
          rw [nI_add]
          refine l3 k u a (by omega) (yN (sC s) - (a + 1)) (a + 1) t M1 (by omega) (by omega) hok h1 (fun M2 h2 => ?_)
          refine zv_iinc (w := nI 1) (pc' := 145) dX7_lots_142 rfl rfl (by decide) (by decide) ?_
          refine zv_goto (pc' := 63) dX7_lots_145 rfl ?_
          rw [nI_add]
          exact ih (a + 1) (drI F B (yN (sC s)) a t) M2 (by omega) (drI_ok (by omega) hok) hz h2 kk
      have lp : ∀ r k t M1, k + r = n → zTe M M1 (sC s) → M1 90 27 = t.1 → zlf r k (fun _ => loP F B (sC s) w) t = loS F B (sC s) w n z → ZV mdX7_lots (d + 5) (fun v M' => ∃ r, v = some (.int r) ∧ (r = (sp_lotsG F B (nI n) z (nI w) s).1 ∧ zIm M' (sp_lotsG F B (nI n) z (nI w) s).2 ∧ ∀ k, k < 90 → M' k = M k)) 50 [some (.ref 90), some (.int (nI n)), some (.int z), some (.int (nI w)), none, some (.int t.2), some (.int (nI k)), none, none, none] [] M1 := by
        intro r
        induction r with
        | zero =>
          intro k t M1 e ht h27 hz
          have e : k = n := by omega
          subst e
          have hz : t = loS F B (sC s) w k z := hz
          refine zv_iload (pc' := 52) dX7_lots_50 rfl rfl ?_
          refine zv_iload_n (pc' := 53) dX7_lots_52 rfl rfl ?_
          refine zv_icmp_ge (pc' := 56) (tgt := 184) dX7_lots_53 rfl rfl (fun _ => ?_) (fun hcc => absurd (Int32.le_refl _) hcc)
          refine zv_iload (pc' := 186) dX7_lots_184 rfl rfl ?_
          refine zv_iret dX7_lots_186 rfl ?_
          exact zdonme (by rw [ev, hz]) hI ht
        | succ r ih =>
          intro k t M1 e ht h27 hz
          refine zv_iload (pc' := 52) dX7_lots_50 rfl rfl ?_
          refine zv_iload_n (pc' := 53) dX7_lots_52 rfl rfl ?_
          refine zv_icmp_ge (pc' := 56) (tgt := 184) dX7_lots_53 rfl rfl (fun hcc => absurd hcc (nI_ge (by omega) (by omega))) (fun _ => ?_)
          refine zv_aload_n (pc' := 57) dX7_lots_56 rfl rfl ?_
          refine zv_cV0_fv (pc' := 60) dX7_lots_57 rfl lkX7_190 (by first | rfl | assumption) rfl (Nat.le_of_ble_eq_true rfl) (x7_thinks ht.1) ?_
          rintro M2 ⟨k2, a2, b2, f2⟩
          refine zv_iconst (v := nI 0) (pc' := 61) dX7_lots_60 rfl (by decide) ?_
          refine zv_istore (pc' := 63) dX7_lots_61 rfl (by decide) ?_
          refine l2 k t.2 t.1 (yN (sC s)) 0 (t.1, sC s) M2 (by omega) ⟨hk.1, rfl⟩ rfl ⟨k2, a2, by rw [f2.2 _ (by decide)]; exact h27, ht.2.1.tr (f2.mono (by simp) (by simp)), fun i hi => (b2 i (by omega)).trans (ht.2.2 i hi)⟩ (fun M3 h3 => ?_)
          obtain ⟨k3, a3, z3, f3, q3⟩ := h3
          have ok := drS_ok (F := F) (B := B) (z := t.1) hk.1
          refine zv_aload_n (pc' := 149) dX7_lots_148 rfl rfl ?_
          refine zv_bipush (v := nI 10) (pc' := 151) dX7_lots_149 rfl (by decide) ?_
          refine zv_cV1_fv (pc' := 154) dX7_lots_151 rfl lkX7_129 (by first | rfl | assumption) rfl (Nat.le_of_ble_eq_true rfl) (x7_goes a3 ok.1 (by rw [f3.2 _ (by decide)]; exact hI.2.1) (by decide)) ?_
          rintro M4 ⟨a4, f4⟩
          have ok4 := zOk_years (k := 10) ok.1
          have e4 : M4 101 = M3 101 := f4.1 101 (by decide) (by decide)
          have C : ∀ v, v = nI (loV (yearsC 10 (drS F B (sC s) t.1).2) w) → ZV mdX7_lots (d + 5) (fun v M' => ∃ r, v = some (.int r) ∧ (r = (sp_lotsG F B (nI n) z (nI w) s).1 ∧ zIm M' (sp_lotsG F B (nI n) z (nI w) s).2 ∧ ∀ k, k < 90 → M' k = M k)) 171 [some (.ref 90), some (.int (nI n)), some (.int z), some (.int (nI w)), none, some (.int t.2), some (.int (nI k)), none, none, none] [.int v, .int t.2] M4 := by
            intro v hv
            subst hv
            refine zv_iadd (pc' := 172) dX7_lots_171 rfl ?_
            refine zv_istore (pc' := 174) dX7_lots_172 rfl (by decide) ?_
            refine zv_aload_n (pc' := 175) dX7_lots_174 rfl rfl ?_
            refine zv_cV0_fv (pc' := 178) dX7_lots_175 rfl lkX7_193 (by first | rfl | assumption) rfl (Nat.le_of_ble_eq_true rfl) (x7_forgets (k3.same (fun i _ _ => by rw [e4]))) ?_
            rintro M5 ⟨a5, f5⟩
            have e5 : M5 101 = M4 101 := f5.1 101 (by decide) (by decide)
            refine zv_iinc (w := nI 1) (pc' := 181) dX7_lots_178 rfl rfl (by decide) (by decide) ?_
            refine zv_goto (pc' := 50) dX7_lots_181 rfl ?_
            rw [nI_add]
            exact ih (k + 1) (loP F B (sC s) w t) M5 (by omega) ⟨a5, f3.tr ((f4.mono (by simp) (by simp)).tr (f5.mono (by simp) (by simp))), fun i hi => by rw [e5, e4]; exact q3 i hi⟩ (by rw [f5.2 _ (by decide), f4.2 _ (by decide)]; exact z3) hz
          refine zv_iload (pc' := 156) dX7_lots_154 rfl rfl ?_
          refine zv_iload_n (pc' := 157) dX7_lots_156 rfl rfl ?_
          rcases (show w = 0 ∨ w = 1 by omega) with rfl | rfl
          · refine zv_if_ne (pc' := 160) (tgt := 167) dX7_lots_157 rfl rfl (fun hcc => absurd (rfl) hcc) (fun _ => ?_)
            refine zv_aload_n (pc' := 161) dX7_lots_160 rfl rfl ?_
            refine zv_cV0_pi (pc' := 164) dX7_lots_161 rfl lkX7_187 (by first | rfl | assumption) rfl (Nat.le_of_ble_eq_true rfl) (x7_wealth a4 ok4.1.1) ?_
            refine zv_goto (pc' := 171) dX7_lots_164 rfl ?_
            exact C _ rfl
          · refine zv_if_ne (pc' := 160) (tgt := 167) dX7_lots_157 rfl rfl (fun _ => ?_) (fun hcc => absurd hcc (by decide))
            refine zv_aload_n (pc' := 168) dX7_lots_167 rfl rfl ?_
            refine zv_cV0_pi (pc' := 171) dX7_lots_168 rfl lkX7_276 (by first | rfl | assumption) rfl (Nat.le_of_ble_eq_true rfl) (x7_twosOfKin a4 ok4.1) ?_
            exact C _ rfl
      refine zv_aload_n (pc' := 40) dX7_lots_39 rfl rfl ?_
      refine zv_iload_n (pc' := 41) dX7_lots_40 rfl rfl ?_
      refine zv_putI (pc' := 44) dX7_lots_41 rfl flX7_307 pfX7_27 (by first | rfl | assumption) rfl rfl rfl ?_
      refine zv_iconst (v := nI 0) (pc' := 45) dX7_lots_44 rfl (by decide) ?_
      refine zv_istore (pc' := 47) dX7_lots_45 rfl (by decide) ?_
      refine zv_iconst (v := nI 0) (pc' := 48) dX7_lots_47 rfl (by decide) ?_
      refine zv_istore (pc' := 50) dX7_lots_48 rfl (by decide) ?_
      refine zv_fg [4] ?_
      exact lp n 0 (z, nI 0) _ (by omega) ⟨hA.same (zFr.uf (ps := []) (fs := [27]) (by decide)) (by simp) (by simp), zFr.uf (by decide), fun i _ => by rw [zup_ne (by decide)]⟩ (by rw [zup_eq, upd_s]) rfl
    · intro h
      have h0 := mt (neg_w0 _ hv).mpr h
      refine zv_aload_n (pc' := 33) dX7_lots_32 rfl rfl ?_
      refine zv_iload (pc' := 35) dX7_lots_33 rfl rfl ?_
      refine zv_cV1_fi (pc' := 38) dX7_lots_35 rfl lkX7_89 (by first | rfl | assumption) rfl (Nat.le_of_ble_eq_true rfl) (x7_no hv) ?_
      rintro r M1 ⟨rfl, rfl⟩
      refine zv_iret dX7_lots_38 rfl ?_
      rw [sp_lotsG, ← hve]
      exact zrefm hI h0
  refine zex_intro (L := [some (.ref 90), some (.int x), some (.int z), some (.int y), none, none, none, none, none, none]) (by decide) (Nat.le_of_ble_eq_true rfl) rfl ?_
  refine zv_iload_n (pc' := 1) dX7_lots_0 rfl rfl ?_
  refine zv_iconst (v := nI 1) (pc' := 2) dX7_lots_1 rfl (by decide) ?_
  refine zv_bipush (v := nI 20) (pc' := 4) dX7_lots_2 rfl (by decide) ?_
  refine zv_cS3_pi (pc' := 7) dX7_lots_4 rfl lkX7_82 (Nat.le_of_ble_eq_true rfl) (x7_bound) ?_
  refine zv_istore (pc' := 9) dX7_lots_7 rfl (by decide) ?_
  refine zv_iload (pc' := 11) dX7_lots_9 rfl rfl ?_
  refine zv_if_ne (pc' := 14) (tgt := 27) dX7_lots_11 rfl rfl ?_ ?_
  · intro h
    have h0 := mt (fun z => (neg_w0 _ bdN_lt).mpr z) h
    exact fin _ bdN_lt (by rw [fiN, if_neg h0])
  · intro h
    have h0 := (neg_w0 _ bdN_lt).mp h
    refine zv_iload_n (pc' := 15) dX7_lots_14 rfl rfl ?_
    refine zv_iconst (v := nI 0) (pc' := 16) dX7_lots_15 rfl (by decide) ?_
    refine zv_iconst (v := nI 1) (pc' := 17) dX7_lots_16 rfl (by decide) ?_
    refine zv_cS3_pi (pc' := 20) dX7_lots_17 rfl lkX7_100 (Nat.le_of_ble_eq_true rfl) (x7_isIn) ?_
    refine zv_if_ne (pc' := 23) (tgt := 27) dX7_lots_20 rfl rfl ?_ ?_
    · intro h2
      have g2 := otN_0.mpr (zb_ne.mp h2)
      exact fin _ bdN_lt (by rw [fiN, if_pos h0, g2]; exact h0)
    · intro h2
      refine zv_bipush (v := (-2 : Int32)) (pc' := 25) dX7_lots_23 rfl (by decide) ?_
      refine zv_top (show (-2 : Int32) = -nI 2 by decide) ?_
      refine zv_istore (pc' := 27) dX7_lots_25 rfl (by decide) ?_
      exact fin 2 (by decide) (by rw [fiN, if_pos h0, show otN y 1 = 2 from by rw [otN, if_neg (by rw [zb_0.mp h2]; decide)]]; rfl)
end
def sp_lots (x z y : Int32) (s : ZS) : Int32 × ZS := sp_lotsG lsd drB x z y s
theorem lo_hB (z : Int32) : (z &&& 2147483647) / nI 256 - (z &&& 2147483647) / nI 256 / nI 2 * nI 2 = zb (drB z) := dr_zb z
theorem gx_lots {d : Nat} (x z y : Int32) : zGx mdX6_lots (d + 4) [.int x, .int z, .int y] (sp_lots x z y) := gx_lotsG (F := lsd) (B := drB) (fun _ => rfl) lo_hB x z y
theorem gm_lots {d : Nat} (x z y : Int32) : zGm mdX7_lots (d + 5) [.int x, .int z, .int y] (sp_lots x z y) := gm_lotsG (F := lsd) (B := drB) (fun _ => rfl) lo_hB x z y
