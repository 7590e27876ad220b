/-! deaths and mean: the reference -/
def dpN (a s : Nat) : Nat → Nat → Nat
  | 0, _ => 1
  | r + 1, k => (if s.testBit k = true then 1 else a) * dpN a s r (k + 1)
def dcC (dd s : Nat) : Nat → Nat → ZCty → ZCty
  | 0, _, c => c
  | r + 1, k, c => dcC dd s r (k + 1) (yearC (if s.testBit k = true then dd else 100) c)
def dvN (dd p v a n : Nat) (c : ZCty) (s : Nat) : Nat := if v ≤ yM (dcC dd s n 0 c) p then dpN a s n 0 else 0
theorem dp_sh {a s i : Nat} (h : s / 2 = i) : ∀ r k, dpN a s r (k + 1) = dpN a i r k
  | 0, _ => rfl
  | r + 1, k => by rw [dpN, dpN, Nat.testBit_succ, h, dp_sh h r (k + 1)]
theorem dc_sh {dd s i : Nat} (h : s / 2 = i) : ∀ r k c, dcC dd s r (k + 1) c = dcC dd i r k c
  | 0, _, _ => rfl
  | r + 1, k, c => by rw [dcC, dcC, Nat.testBit_succ, h, dc_sh h r (k + 1)]
theorem zsum_two {f : Nat → Nat} : ∀ k, zsum (2 * k) f = zsum k (fun i => f (2 * i) + f (2 * i + 1))
  | 0 => rfl
  | k + 1 => by
    rw [show 2 * (k + 1) = 2 * k + 1 + 1 by omega, zsum, zsum, zsum_two k, zsum]
    omega
theorem zsum_plus {f g : Nat → Nat} : ∀ k, zsum k (fun i => f i + g i) = zsum k f + zsum k g
  | 0 => rfl
  | k + 1 => by
    rw [zsum, zsum_plus k, zsum, zsum]
    omega
theorem zsum_mul {f : Nat → Nat} {a : Nat} : ∀ k, zsum k (fun i => a * f i) = a * zsum k f
  | 0 => rfl
  | k + 1 => by rw [zsum, zsum_mul k, zsum, Nat.mul_add]
theorem dv_even {dd p v a n i : Nat} {c : ZCty} : dvN dd p v a (n + 1) c (2 * i) = a * dvN dd p v a n (yearC 100 c) i := by
  have hb : (2 * i).testBit 0 = false := by simp
  have h2 : 2 * i / 2 = i := by omega
  unfold dvN
  rw [dcC, dpN, hb, dc_sh h2, dp_sh h2]
  simp only [Bool.false_eq_true, if_false]
  split <;> simp
theorem dv_odd {dd p v a n i : Nat} {c : ZCty} : dvN dd p v a (n + 1) c (2 * i + 1) = dvN dd p v a n (yearC dd c) i := by
  have hb : (2 * i + 1).testBit 0 = true := by simp
  have h2 : (2 * i + 1) / 2 = i := by omega
  unfold dvN
  rw [dcC, dpN, hb, dc_sh h2, dp_sh h2]
  simp only [if_true, Nat.one_mul]
theorem dv_sum {dd p v a : Nat} : ∀ n c, zsum (2 ^ n) (dvN dd p v a n c) = wayN dd p v a n c
  | 0, c => by
    show 0 + dvN dd p v a 0 c 0 = wayN dd p v a 0 c
    rw [Nat.zero_add]
    rfl
  | n + 1, c => by
    have e : ∀ i, i < 2 ^ n → dvN dd p v a (n + 1) c (2 * i) + dvN dd p v a (n + 1) c (2 * i + 1) = dvN dd p v a n (yearC dd c) i + a * dvN dd p v a n (yearC 100 c) i := fun i _ => by rw [dv_even, dv_odd, Nat.add_comm]
    rw [Nat.pow_succ, Nat.mul_comm, zsum_two, zsum_ext e, zsum_plus, zsum_mul, dv_sum n, dv_sum n, wayN]
def zDe (M M1 : ZMem) : Prop := zFr psT [6, 7, 8, 18, 19] M M1 ∧ ∀ i, i < 84 → M1 101 i = M 101 i
theorem zDe.td {M M1 : ZMem} {c : ZCty} (h : zDe M M1) (hA : zAm M1 c) (h8 : M1 90 8 = M 90 8) : zTd M M1 c := by
  refine ⟨hA, ⟨h.1.1, fun j hj => ?_⟩, h.2⟩
  by_cases e : j = 8
  · rw [e]; exact h8
  · refine h.1.2 j (fun z => hj ?_)
    simp at z ⊢
    omega
theorem zDe.tr {M M1 M2 : ZMem} {ps fs : List Nat} (h : zDe M M1) (hs : zFr ps fs M1 M2) (hp : ∀ x ∈ ps, x ∈ psT) (hf : ∀ x ∈ fs, x ∈ [6, 7, 8, 18, 19]) (h101 : ∀ i, i < 84 → M2 101 i = M1 101 i) : zDe M M2 := ⟨h.1.tr (hs.mono hp hf), fun i hi => (h101 i hi).trans (h.2 i hi)⟩
section
variable {d : Nat}
theorem gm_deaths (x y n t v w : Int32) : zGml mdX7_deaths (d + 4) [.int x, .int y, .int n, .int t, .int v, .int w] (sp_deaths x y n t v w) := by
  intro M s hI hk
  have hn8 := hk.1.1
  have hN := hI.1.1
  have good : ∀ p q n t v w : Nat, p < yN (sC s) → q < yN (sC s) → p ≠ q → n ≤ 7 → 2 ≤ t → t ≤ 20 → v ≤ 99 → w ≤ 1 → sp_deaths (nI p) (nI q) (nI n) (nI t) (nI v) (nI w) s = (lN (ptN (wayN p q v (t - 1) n (sC s)) (t ^ n) w), s) →
      ZV mdX7_deaths (d + 4) (fun z M' => ∃ r, z = some (.long r) ∧ (r = (sp_deaths (nI p) (nI q) (nI n) (nI t) (nI v) (nI w) s).1 ∧ zIm M' (sp_deaths (nI p) (nI q) (nI n) (nI t) (nI v) (nI w) s).2 ∧ ∀ k, k < 90 → M' k = M k)) 88 [some (.ref 90), some (.int (nI p)), some (.int (nI q)), some (.int (nI n)), some (.int (nI t)), some (.int (nI v)), some (.int (nI w)), none, none, none, none, none, none, none, none, none] [] M := by
    intro p q n t v w hp hq hpq hn ht1 ht2 hv hw esp
    have hpn : 2 ^ n ≤ 128 := Nat.le_trans (Nat.pow_le_pow_right (by decide) hn) (by decide)
    have lpB : ∀ r k M1, k + r = 2 ^ n → zAm M1 (sC s) → zDe M M1 → M1 90 8 = absM 100 → ZV mdX7_deaths (d + 4) (fun z M' => ∃ r, z = some (.long r) ∧ (r = (sp_deaths (nI p) (nI q) (nI n) (nI t) (nI v) (nI w) s).1 ∧ zIm M' (sp_deaths (nI p) (nI q) (nI n) (nI t) (nI v) (nI w) s).2 ∧ ∀ k, k < 90 → M' k = M k)) 120 [some (.ref 90), some (.int (nI p)), some (.int (nI q)), some (.int (nI n)), some (.int (nI t)), some (.int (nI v)), some (.int (nI w)), none, some (.long (lN (zsum k (dvN p q v (t - 1) n (sC s))))), none, some (.long (lN (t ^ n))), none, some (.int (nI k)), none, none, none] [] M1 := by
      intro r
      induction r with
      | zero =>
        intro k M1 e hA1 hD1 h81
        have e : k = 2 ^ n := by omega
        subst e
        refine zv_iload (pc' := 122) dX7_deaths_120 rfl rfl ?_
        refine zv_iconst (v := nI 1) (pc' := 123) dX7_deaths_122 rfl (by decide) ?_
        refine zv_iload_n (pc' := 124) dX7_deaths_123 rfl rfl ?_
        refine zv_ishl (pc' := 125) dX7_deaths_124 rfl ?_
        refine zv_top (zsh1 n (by omega)) ?_
        refine zv_icmp_ge (pc' := 128) (tgt := 236) dX7_deaths_125 rfl rfl (fun _ => ?_) (fun hcc => absurd (Int32.le_refl _) hcc)
        refine zv_lload (pc' := 238) dX7_deaths_236 rfl rfl ?_
        refine zv_lload (pc' := 240) dX7_deaths_238 rfl rfl ?_
        refine zv_iload (pc' := 242) dX7_deaths_240 rfl rfl ?_
        rw [dv_sum]
        refine zv_cS3_pl (pc' := 245) dX7_deaths_242 rfl lkX7_287 (Nat.le_of_ble_eq_true rfl) (x7_partOf (wayN_lt ht1 ht2 hn) (pw_lt ht2 hn) (Nat.pow_pos (by omega)) (by omega)) ?_
        refine zv_lret dX7_deaths_245 rfl ?_
        exact zdonml esp hI (hD1.td hA1 (h81.trans hI.2.1.symm))
      | succ r ihB =>
        intro k M1 e hA1 hD1 h81
        have ks : k < 2 ^ n := by omega
        have lpC : ∀ r j M3 c3 P, j + r = n → zKp M3 84 (sC s) → zAm M3 c3 → zOk c3 → yN c3 = yN (sC s) → zDe M M3 → dcC p k r j c3 = dcC p k n 0 (sC s) → P * dpN (t - 1) k r j = dpN (t - 1) k n 0 → ZV mdX7_deaths (d + 4) (fun z M' => ∃ r, z = some (.long r) ∧ (r = (sp_deaths (nI p) (nI q) (nI n) (nI t) (nI v) (nI w) s).1 ∧ zIm M' (sp_deaths (nI p) (nI q) (nI n) (nI t) (nI v) (nI w) s).2 ∧ ∀ k, k < 90 → M' k = M k)) 138 [some (.ref 90), some (.int (nI p)), some (.int (nI q)), some (.int (nI n)), some (.int (nI t)), some (.int (nI v)), some (.int (nI w)), none, some (.long (lN (zsum k (dvN p q v (t - 1) n (sC s))))), none, some (.long (lN (t ^ n))), none, some (.int (nI k)), some (.long (lN P)), none, some (.int (nI j))] [] M3 := by
          intro r
          induction r with
          | zero =>
            intro j M3 c3 P e3 hK3 hA3 hk3 hn3 hD3 hc3 hP3
            have e3 : j = n := by omega
            subst e3
            have hc3 : c3 = dcC p k j 0 (sC s) := hc3
            rw [dpN, Nat.mul_one] at hP3
            have B : ∀ X M4, X = lN (dvN p q v (t - 1) j (sC s) k) → M4 = zup M3 90 8 (absM 100) → ZV mdX7_deaths (d + 4) (fun z M' => ∃ r, z = some (.long r) ∧ (r = (sp_deaths (nI p) (nI q) (nI j) (nI t) (nI v) (nI w) s).1 ∧ zIm M' (sp_deaths (nI p) (nI q) (nI j) (nI t) (nI v) (nI w) s).2 ∧ ∀ k, k < 90 → M' k = M k)) 223 [some (.ref 90), some (.int (nI p)), some (.int (nI q)), some (.int (nI j)), some (.int (nI t)), some (.int (nI v)), some (.int (nI w)), none, some (.long (lN (zsum k (dvN p q v (t - 1) j (sC s))))), none, some (.long (lN (t ^ j))), none, some (.int (nI k)), none, none, none] [.long X, .long (lN (zsum k (dvN p q v (t - 1) j (sC s))))] M4 := by
              intro X M4 hX hM4
              subst hX
              have f4 : zFr [] [8] M3 M4 := by rw [hM4]; exact zFr.uf (by decide)
              have h84 : M4 90 8 = absM 100 := by rw [hM4, zup_eq, upd_s]
              have k4 : zKp M4 84 (sC s) := hK3.same (fun i _ _ => by rw [f4.1 101 (by decide) (by decide)])
              refine zv_ladd (pc' := 224) dX7_deaths_223 rfl ?_
              refine zv_ltop (lN_add _ _) ?_
              refine zv_lstore (pc' := 226) dX7_deaths_224 rfl (by decide) ?_
              refine zv_aload_n (pc' := 227) dX7_deaths_226 rfl rfl ?_
              refine zv_cV0_fv (pc' := 230) dX7_deaths_227 rfl lkX7_193 (by first | rfl | assumption) rfl (Nat.le_of_ble_eq_true rfl) (x7_forgets k4) ?_
              rintro M5 ⟨h5, f5⟩
              refine zv_iinc (w := nI 1) (pc' := 233) dX7_deaths_230 rfl rfl (by decide) (by decide) ?_
              refine zv_goto (pc' := 120) dX7_deaths_233 rfl ?_
              rw [nI_add]
              refine ihB (k + 1) M5 (by omega) h5 ((hD3.tr f4 (by simp) (by simp) (fun i _ => by rw [f4.1 101 (by decide) (by decide)])).tr f5 (by simp) (by simp) (fun i _ => by rw [f5.1 101 (by decide) (by decide)])) ?_
              rw [f5.2 8 (by decide)]
              exact h84
            have f4 : zFr [] [8] M3 (zup M3 90 8 (absM 100)) := zFr.uf (by decide)
            have hA4 := hA3.same f4 (by simp) (by simp)
            have hM4 := hA4.2.2.2.2.1
            have hm99 := hk3.2.2.2.1 q
            refine zv_iload (pc' := 140) dX7_deaths_138 rfl rfl ?_
            refine zv_iload_n (pc' := 141) dX7_deaths_140 rfl rfl ?_
            refine zv_icmp_ge (pc' := 144) (tgt := 198) dX7_deaths_141 rfl rfl (fun _ => ?_) (fun hcc => absurd (Int32.le_refl _) hcc)
            refine zv_fg [15] ?_
            refine zv_aload_n (pc' := 199) dX7_deaths_198 rfl rfl ?_
            refine zv_bipush (v := (-9 : Int32)) (pc' := 201) dX7_deaths_199 rfl (by decide) ?_
            refine zv_putI (pc' := 204) dX7_deaths_201 rfl flX7_28 pfX7_8 (by first | rfl | assumption) rfl rfl rfl ?_
            refine zv_lload (pc' := 206) dX7_deaths_204 rfl rfl ?_
            refine zv_aload_n (pc' := 207) dX7_deaths_206 rfl rfl ?_
            refine zv_getR (pc' := 210) dX7_deaths_207 rfl flX7_19 (by first | rfl | assumption) rfl ?_
            refine zv_iload_n (pc' := 211) dX7_deaths_210 rfl rfl ?_
            refine zv_ialoadE (pc' := 212) dX7_deaths_211 rfl (by first | rfl | assumption) (by decide) (by omega) (by first | exact hM4 _ (by omega) | rfl) ?_
            refine zv_iload (pc' := 214) dX7_deaths_212 rfl rfl ?_
            refine zv_icmp_lt (pc' := 217) (tgt := 222) dX7_deaths_214 rfl rfl ?_ ?_
            · intro h
              have h := (nI_ltI (by omega) (by omega)).mp h
              refine zv_lconst (v := 0) (pc' := 223) dX7_deaths_222 rfl (by decide) ?_
              refine zv_fg [13, 14] ?_
              refine B _ _ ?_ rfl
              rw [dvN, ← hc3, if_neg (by omega)]
              rfl
            · intro h
              have h := mt (nI_ltI (a := yM c3 q) (b := v) (by omega) (by omega)).mpr h
              refine zv_lload (pc' := 219) dX7_deaths_217 rfl rfl ?_
              refine zv_goto (pc' := 223) dX7_deaths_219 rfl ?_
              refine zv_fg [13, 14] ?_
              refine B _ _ ?_ rfl
              rw [dvN, ← hc3, if_pos (by omega), hP3]
          | succ r ihC =>
            intro j M3 c3 P e3 hK3 hA3 hk3 hn3 hD3 hc3 hP3
            have G : ∀ dj P' M4, (dj = 100 ∨ dj < 8) → M4 = zup M3 90 8 (absM dj) → dcC p k r (j + 1) (yearC dj c3) = dcC p k n 0 (sC s) → P' * dpN (t - 1) k r (j + 1) = dpN (t - 1) k n 0 → ZV mdX7_deaths (d + 4) (fun z M' => ∃ r, z = some (.long r) ∧ (r = (sp_deaths (nI p) (nI q) (nI n) (nI t) (nI v) (nI w) s).1 ∧ zIm M' (sp_deaths (nI p) (nI q) (nI n) (nI t) (nI v) (nI w) s).2 ∧ ∀ k, k < 90 → M' k = M k)) 188 [some (.ref 90), some (.int (nI p)), some (.int (nI q)), some (.int (nI n)), some (.int (nI t)), some (.int (nI v)), some (.int (nI w)), none, some (.long (lN (zsum k (dvN p q v (t - 1) n (sC s))))), none, some (.long (lN (t ^ n))), none, some (.int (nI k)), some (.long (lN P')), none, some (.int (nI j))] [] M4 := by
              intro dj P' M4 hdj hM4 hc4 hP4
              have f4 : zFr [] [8] M3 M4 := by rw [hM4]; exact zFr.uf (by decide)
              have h84 : M4 90 8 = absM dj := by rw [hM4, zup_eq, upd_s]
              have hA4 := hA3.same f4 (by simp) (by simp)
              refine zv_aload_n (pc' := 189) dX7_deaths_188 rfl rfl ?_
              refine zv_cV0_fv (pc' := 192) dX7_deaths_189 rfl lkX7_178 (by first | rfl | assumption) rfl (Nat.le_of_ble_eq_true rfl) (x7_goesYear hA4 hk3 h84) ?_
              rintro M5 ⟨h5, f5⟩
              have e101 : M5 101 = M3 101 := (f5.1 101 (by decide) (by decide)).trans (f4.1 101 (by decide) (by decide))
              refine zv_iinc (w := nI 1) (pc' := 195) dX7_deaths_192 rfl rfl (by decide) (by decide) ?_
              refine zv_goto (pc' := 138) dX7_deaths_195 rfl ?_
              rw [nI_add]
              exact ihC (j + 1) M5 (yearC dj c3) P' (by omega) (hK3.same (fun i _ _ => by rw [e101])) h5 (zOk_year hk3).1 ((zOk_year hk3).2.trans hn3) ((hD3.tr f4 (by simp) (by simp) (fun i _ => by rw [f4.1 101 (by decide) (by decide)])).tr f5 (by simp) (by simp) (fun i _ => by rw [f5.1 101 (by decide) (by decide)])) hc4 hP4
            rw [dcC] at hc3
            rw [dpN, ← Nat.mul_assoc] at hP3
            refine zv_iload (pc' := 140) dX7_deaths_138 rfl rfl ?_
            refine zv_iload_n (pc' := 141) dX7_deaths_140 rfl rfl ?_
            refine zv_icmp_ge (pc' := 144) (tgt := 198) dX7_deaths_141 rfl rfl (fun hcc => absurd hcc (nI_ge (by omega) (by omega))) (fun _ => ?_)
            refine zv_lload (pc' := 146) dX7_deaths_144 rfl rfl ?_
            refine zv_iload (pc' := 148) dX7_deaths_146 rfl rfl ?_
            refine zv_iload (pc' := 150) dX7_deaths_148 rfl rfl ?_
            refine zv_cS2_pi (pc' := 153) dX7_deaths_150 rfl lkX7_75 (Nat.le_of_ble_eq_true rfl) (x7_has (by omega) (by omega)) ?_
            cases hb : k.testBit j
            · rw [hb] at hc3 hP3
              refine zv_if_eq (pc' := 156) (tgt := 160) dX7_deaths_153 rfl rfl (fun _ => ?_) (fun hcc => absurd (rfl) hcc)
              refine zv_iload (pc' := 162) dX7_deaths_160 rfl rfl ?_
              refine zv_iconst (v := nI 1) (pc' := 163) dX7_deaths_162 rfl (by decide) ?_
              refine zv_isub (pc' := 164) dX7_deaths_163 rfl ?_
              refine zv_top (pk_sub (by omega)) ?_
              refine zv_i2l (pc' := 165) dX7_deaths_164 rfl ?_
              refine zv_ltop (nI_l (by omega)) ?_
              refine zv_lmul (pc' := 166) dX7_deaths_165 rfl ?_
              refine zv_ltop (lN_mul _ _) ?_
              refine zv_lstore (pc' := 168) dX7_deaths_166 rfl (by decide) ?_
              refine zv_aload_n (pc' := 169) dX7_deaths_168 rfl rfl ?_
              refine zv_iload (pc' := 171) dX7_deaths_169 rfl rfl ?_
              refine zv_iload (pc' := 173) dX7_deaths_171 rfl rfl ?_
              refine zv_cS2_pi (pc' := 176) dX7_deaths_173 rfl lkX7_75 (Nat.le_of_ble_eq_true rfl) (x7_has (by omega) (by omega)) ?_
              rw [hb]
              refine zv_if_eq (pc' := 179) (tgt := 183) dX7_deaths_176 rfl rfl (fun _ => ?_) (fun hcc => absurd (rfl) hcc)
              refine zv_bipush (v := (-9 : Int32)) (pc' := 185) dX7_deaths_183 rfl (by decide) ?_
              refine zv_putI (pc' := 188) dX7_deaths_185 rfl flX7_28 pfX7_8 (by first | rfl | assumption) rfl rfl rfl ?_
              exact G 100 _ _ (Or.inl rfl) rfl hc3 hP3
            · rw [hb] at hc3 hP3
              refine zv_if_eq (pc' := 156) (tgt := 160) dX7_deaths_153 rfl rfl (fun hcc => absurd hcc (by decide)) (fun _ => ?_)
              refine zv_lconst (v := 1) (pc' := 157) dX7_deaths_156 rfl (by decide) ?_
              refine zv_goto (pc' := 165) dX7_deaths_157 rfl ?_
              refine zv_lmul (pc' := 166) dX7_deaths_165 rfl ?_
              refine zv_ltop (lN_mul P 1) ?_
              refine zv_lstore (pc' := 168) dX7_deaths_166 rfl (by decide) ?_
              refine zv_aload_n (pc' := 169) dX7_deaths_168 rfl rfl ?_
              refine zv_iload (pc' := 171) dX7_deaths_169 rfl rfl ?_
              refine zv_iload (pc' := 173) dX7_deaths_171 rfl rfl ?_
              refine zv_cS2_pi (pc' := 176) dX7_deaths_173 rfl lkX7_75 (Nat.le_of_ble_eq_true rfl) (x7_has (by omega) (by omega)) ?_
              rw [hb]
              refine zv_if_eq (pc' := 179) (tgt := 183) dX7_deaths_176 rfl rfl (fun hcc => absurd hcc (by decide)) (fun _ => ?_)
              refine zv_iload_n (pc' := 180) dX7_deaths_179 rfl rfl ?_
              refine zv_goto (pc' := 185) dX7_deaths_180 rfl ?_
              refine zv_putI (pc' := 188) dX7_deaths_185 rfl flX7_28 pfX7_8 (by first | rfl | assumption) rfl rfl rfl ?_
              refine G p _ _ (Or.inr (by omega)) ?_ hc3 hP3
              rw [absM, if_pos (by omega)]
        refine zv_iload (pc' := 122) dX7_deaths_120 rfl rfl ?_
        refine zv_iconst (v := nI 1) (pc' := 123) dX7_deaths_122 rfl (by decide) ?_
        refine zv_iload_n (pc' := 124) dX7_deaths_123 rfl rfl ?_
        refine zv_ishl (pc' := 125) dX7_deaths_124 rfl ?_
        refine zv_top (zsh1 n (by omega)) ?_
        refine zv_icmp_ge (pc' := 128) (tgt := 236) dX7_deaths_125 rfl rfl (fun hcc => absurd hcc (nI_ge (by omega) (by omega))) (fun _ => ?_)
        refine zv_aload_n (pc' := 129) dX7_deaths_128 rfl rfl ?_
        refine zv_cV0_fv (pc' := 132) dX7_deaths_129 rfl lkX7_190 (by first | rfl | assumption) rfl (Nat.le_of_ble_eq_true rfl) (x7_thinks hA1) ?_
        rintro M2 ⟨k2, a2, b2, f2⟩
        refine zv_lconst (v := 1) (pc' := 133) dX7_deaths_132 rfl (by decide) ?_
        refine zv_lstore (pc' := 135) dX7_deaths_133 rfl (by decide) ?_
        refine zv_iconst (v := nI 0) (pc' := 136) dX7_deaths_135 rfl (by decide) ?_
        refine zv_istore (pc' := 138) dX7_deaths_136 rfl (by decide) ?_
        exact lpC n 0 M2 (sC s) 1 (by omega) k2 a2 hk.1 rfl (hD1.tr f2 (by simp) (by simp) b2) rfl (by rw [Nat.one_mul])
    have lpA : ∀ r k, k + r = n → ZV mdX7_deaths (d + 4) (fun z M' => ∃ r, z = some (.long r) ∧ (r = (sp_deaths (nI p) (nI q) (nI n) (nI t) (nI v) (nI w) s).1 ∧ zIm M' (sp_deaths (nI p) (nI q) (nI n) (nI t) (nI v) (nI w) s).2 ∧ ∀ k, k < 90 → M' k = M k)) 97 [some (.ref 90), some (.int (nI p)), some (.int (nI q)), some (.int (nI n)), some (.int (nI t)), some (.int (nI v)), some (.int (nI w)), none, some (.long (lN 0)), none, some (.long (lN (t ^ k))), none, some (.int (nI k)), none, none, none] [] M := by
      intro r
      induction r with
      | zero =>
        intro k e
        have e : k = n := by omega
        subst e
        refine zv_iload (pc' := 99) dX7_deaths_97 rfl rfl ?_
        refine zv_iload_n (pc' := 100) dX7_deaths_99 rfl rfl ?_
        refine zv_icmp_ge (pc' := 103) (tgt := 117) dX7_deaths_100 rfl rfl (fun _ => ?_) (fun hcc => absurd (Int32.le_refl _) hcc)
        refine zv_iconst (v := nI 0) (pc' := 118) dX7_deaths_117 rfl (by decide) ?_
        refine zv_istore (pc' := 120) dX7_deaths_118 rfl (by decide) ?_
        exact lpB (2 ^ k) 0 M (by omega) hI.1 ⟨zFr.rf, fun _ _ => rfl⟩ hI.2.1
      | succ r ih =>
        intro k e
        have := ih (k + 1) (by omega)
        rw [Nat.pow_succ] at this
        refine zv_iload (pc' := 99) dX7_deaths_97 rfl rfl ?_
        refine zv_iload_n (pc' := 100) dX7_deaths_99 rfl rfl ?_
        refine zv_icmp_ge (pc' := 103) (tgt := 117) dX7_deaths_100 rfl rfl (fun hcc => absurd hcc (nI_ge (by omega) (by omega))) (fun _ => ?_)
        refine zv_lload (pc' := 105) dX7_deaths_103 rfl rfl ?_
        refine zv_iload (pc' := 107) dX7_deaths_105 rfl rfl ?_
        refine zv_i2l (pc' := 108) dX7_deaths_107 rfl ?_
        refine zv_ltop (nI_l (by omega)) ?_
        refine zv_lmul (pc' := 109) dX7_deaths_108 rfl ?_
        refine zv_ltop (lN_mul _ _) ?_
        refine zv_lstore (pc' := 111) dX7_deaths_109 rfl (by decide) ?_
        refine zv_iinc (w := nI 1) (pc' := 114) dX7_deaths_111 rfl rfl (by decide) (by decide) ?_
        refine zv_goto (pc' := 97) dX7_deaths_114 rfl ?_
        rw [nI_add]
        exact this
    refine zv_lconst (v := 0) (pc' := 89) dX7_deaths_88 rfl (by decide) ?_
    refine zv_lstore (pc' := 91) dX7_deaths_89 rfl (by decide) ?_
    refine zv_lconst (v := 1) (pc' := 92) dX7_deaths_91 rfl (by decide) ?_
    refine zv_lstore (pc' := 94) dX7_deaths_92 rfl (by decide) ?_
    refine zv_iconst (v := nI 0) (pc' := 95) dX7_deaths_94 rfl (by decide) ?_
    refine zv_istore (pc' := 97) dX7_deaths_95 rfl (by decide) ?_
    exact lpA n 0 (by omega)
  have fin : ∀ u, u < 7 → u = fiN (twN (yN (sC s)) x y) (odN n t v) (otN w 1) → ZV mdX7_deaths (d + 4) (fun z M' => ∃ r, z = some (.long r) ∧ (r = (sp_deaths x y n t v w s).1 ∧ zIm M' (sp_deaths x y n t v w s).2 ∧ ∀ k, k < 90 → M' k = M k)) 74 [some (.ref 90), some (.int x), some (.int y), some (.int n), some (.int t), some (.int v), some (.int w), none, none, none, none, none, none, none, none, none] [.int (-nI u)] M := by
    intro u hu hue
    refine zv_istore (pc' := 76) dX7_deaths_74 rfl (by decide) ?_
    refine zv_iload (pc' := 78) dX7_deaths_76 rfl rfl ?_
    refine zv_if_eq (pc' := 81) (tgt := 88) dX7_deaths_78 rfl rfl ?_ ?_
    · intro h
      have h0 := (neg_w0 _ hu).mp h
      rw [hue] at h0
      obtain ⟨g1, g2, g3⟩ := fiN_0.mp h0
      obtain ⟨p, q, hp, hq, hpq, rfl, rfl⟩ := twoB_of hn8 (twN_0.mp g1)
      obtain ⟨n, t, v, hn, ht1, ht2, hv, rfl, rfl, rfl⟩ := odN_of g2
      obtain ⟨w, -, hw2, rfl⟩ := isInB_of (by decide) (otN_0.mp g3) (by decide)
      refine zv_fg [7] ?_
      exact good p q n t v w hp hq hpq hn ht1 ht2 hv hw2 (by rw [sp_deaths, zansl, if_pos h0, pN_nI (by omega), pN_nI (by omega), pN_nI (by omega), pN_nI (by omega), pN_nI (by omega), pN_nI (by omega)])
    · intro h
      have h0 := mt (neg_w0 _ hu).mpr h
      refine zv_aload_n (pc' := 82) dX7_deaths_81 rfl rfl ?_
      refine zv_iload (pc' := 84) dX7_deaths_82 rfl rfl ?_
      refine zv_cV1_fl (pc' := 87) dX7_deaths_84 rfl lkX7_283 (by first | rfl | assumption) rfl (Nat.le_of_ble_eq_true rfl) (x7_lowestOf hu) ?_
      rintro r M1 ⟨rfl, rfl⟩
      refine zv_lret dX7_deaths_87 rfl ?_
      rw [sp_deaths, ← hue]
      exact zrefml hI h0
  have lo : twN (yN (sC s)) x y = 0 → (n < 0 ∨ v < 0 ∨ t < nI 2) → ZV mdX7_deaths (d + 4) (fun z M' => ∃ r, z = some (.long r) ∧ (r = (sp_deaths x y n t v w s).1 ∧ zIm M' (sp_deaths x y n t v w s).2 ∧ ∀ k, k < 90 → M' k = M k)) 28 [some (.ref 90), some (.int x), some (.int y), some (.int n), some (.int t), some (.int v), some (.int w), none, none, none, none, none, none, none, none, none] [] M := by
    intro g h
    refine zv_bipush (v := (-4 : Int32)) (pc' := 30) dX7_deaths_28 rfl (by decide) ?_
    refine zv_goto (pc' := 74) dX7_deaths_30 rfl ?_
    refine zv_top (show (-4 : Int32) = -nI 4 by decide) ?_
    exact fin 4 (by decide) (by rw [fiN, if_pos g, odN, if_pos h]; rfl)
  have up : twN (yN (sC s)) x y = 0 → ¬ (n < 0 ∨ v < 0 ∨ t < nI 2) → (nI 7 < n ∨ nI 20 < t ∨ nI 99 < v) → ZV mdX7_deaths (d + 4) (fun z M' => ∃ r, z = some (.long r) ∧ (r = (sp_deaths x y n t v w s).1 ∧ zIm M' (sp_deaths x y n t v w s).2 ∧ ∀ k, k < 90 → M' k = M k)) 53 [some (.ref 90), some (.int x), some (.int y), some (.int n), some (.int t), some (.int v), some (.int w), none, none, none, none, none, none, none, none, none] [] M := by
    intro g h1 h2
    refine zv_bipush (v := (-6 : Int32)) (pc' := 55) dX7_deaths_53 rfl (by decide) ?_
    refine zv_goto (pc' := 74) dX7_deaths_55 rfl ?_
    refine zv_top (show (-6 : Int32) = -nI 6 by decide) ?_
    exact fin 6 (by decide) (by rw [fiN, if_pos g, odN, if_neg h1, if_pos h2]; rfl)
  refine zex_intro (L := [some (.ref 90), some (.int x), some (.int y), some (.int n), some (.int t), some (.int v), some (.int w), none, none, none, none, none, none, none, none, none]) (by decide) (Nat.le_of_ble_eq_true rfl) rfl ?_
  refine zv_aload_n (pc' := 1) dX7_deaths_0 rfl rfl ?_
  refine zv_iload_n (pc' := 2) dX7_deaths_1 rfl rfl ?_
  refine zv_iload_n (pc' := 3) dX7_deaths_2 rfl rfl ?_
  refine zv_cV2_pi (pc' := 6) dX7_deaths_3 rfl lkX7_119 (by first | rfl | assumption) rfl (Nat.le_of_ble_eq_true rfl) (x7_areTwo hN) ?_
  refine zv_if_ne (pc' := 9) (tgt := 13) dX7_deaths_6 rfl rfl ?_ ?_
  · intro h
    have g := twN_0.mpr (zb_ne.mp h)
    refine zv_iload_n (pc' := 14) dX7_deaths_13 rfl rfl ?_
    refine zv_if_lt (pc' := 17) (tgt := 28) dX7_deaths_14 rfl rfl ?_ ?_
    · intro h
      exact lo g (Or.inl h)
    · intro h1
      refine zv_iload (pc' := 19) dX7_deaths_17 rfl rfl ?_
      refine zv_if_lt (pc' := 22) (tgt := 28) dX7_deaths_19 rfl rfl ?_ ?_
      · intro h
        exact lo g (Or.inr (Or.inl h))
      · intro h2
        refine zv_iload (pc' := 24) dX7_deaths_22 rfl rfl ?_
        refine zv_iconst (v := nI 2) (pc' := 25) dX7_deaths_24 rfl (by decide) ?_
        refine zv_icmp_ge (pc' := 28) (tgt := 33) dX7_deaths_25 rfl rfl ?_ ?_
        · intro h3
          have h3 := Int32.not_lt.mpr h3
          have hl : ¬ (n < 0 ∨ v < 0 ∨ t < nI 2) := fun z => z.elim h1 (fun z => z.elim h2 h3)
          refine zv_iload_n (pc' := 34) dX7_deaths_33 rfl rfl ?_
          refine zv_bipush (v := nI 7) (pc' := 36) dX7_deaths_34 rfl (by decide) ?_
          refine zv_icmp_gt (pc' := 39) (tgt := 53) dX7_deaths_36 rfl rfl ?_ ?_
          · intro h
            exact up g hl (Or.inl h)
          · intro g1
            refine zv_iload (pc' := 41) dX7_deaths_39 rfl rfl ?_
            refine zv_bipush (v := nI 20) (pc' := 43) dX7_deaths_41 rfl (by decide) ?_
            refine zv_icmp_gt (pc' := 46) (tgt := 53) dX7_deaths_43 rfl rfl ?_ ?_
            · intro h
              exact up g hl (Or.inr (Or.inl h))
            · intro g2
              refine zv_iload (pc' := 48) dX7_deaths_46 rfl rfl ?_
              refine zv_bipush (v := nI 99) (pc' := 50) dX7_deaths_48 rfl (by decide) ?_
              refine zv_icmp_le (pc' := 53) (tgt := 58) dX7_deaths_50 rfl rfl ?_ ?_
              · intro g3
                have g3 := Int32.not_lt.mpr g3
                have ho : odN n t v = 0 := by rw [odN, if_neg hl, if_neg (fun z => z.elim g1 (fun z => z.elim g2 g3))]
                refine zv_iload (pc' := 60) dX7_deaths_58 rfl rfl ?_
                refine zv_iconst (v := nI 0) (pc' := 61) dX7_deaths_60 rfl (by decide) ?_
                refine zv_iconst (v := nI 1) (pc' := 62) dX7_deaths_61 rfl (by decide) ?_
                refine zv_cS3_pi (pc' := 65) dX7_deaths_62 rfl lkX7_100 (Nat.le_of_ble_eq_true rfl) (x7_isIn) ?_
                refine zv_if_ne (pc' := 68) (tgt := 73) dX7_deaths_65 rfl rfl ?_ ?_
                · intro h
                  refine zv_iconst (v := nI 0) (pc' := 74) dX7_deaths_73 rfl (by decide) ?_
                  refine zv_top (show nI 0 = -nI 0 by decide) ?_
                  exact fin 0 (by decide) (by rw [fiN, if_pos g, if_pos ho, otN_0.mpr (zb_ne.mp h)])
                · intro h
                  refine zv_bipush (v := (-2 : Int32)) (pc' := 70) dX7_deaths_68 rfl (by decide) ?_
                  refine zv_goto (pc' := 74) dX7_deaths_70 rfl ?_
                  refine zv_top (show (-2 : Int32) = -nI 2 by decide) ?_
                  exact fin 2 (by decide) (by rw [fiN, if_pos g, if_pos ho, otN, if_neg (by rw [zb_0.mp h]; decide)])
              · intro h
                exact up g hl (Or.inr (Or.inr (Int32.not_le.mp h)))
        · intro h
          exact lo g (Or.inr (Or.inr (Int32.not_le.mp h)))
  · intro h
    refine zv_iconst (v := (-1 : Int32)) (pc' := 10) dX7_deaths_9 rfl (by decide) ?_
    refine zv_goto (pc' := 74) dX7_deaths_10 rfl ?_
    refine zv_top (show (-1 : Int32) = -nI 1 by decide) ?_
    exact fin 1 (by decide) (by rw [twN, if_neg (by rw [zb_0.mp h]; decide)]; rfl)
theorem gm_mean (w : Int32) : zGml mdX7_mean (d + 3) [.int w] (sp_mean w) := by
  intro M s hI hk
  have hn8 := hk.1.1
  have hN := hI.1.1
  refine zex_intro (L := [some (.ref 90), some (.int w)]) (by decide) (Nat.le_of_ble_eq_true rfl) rfl ?_
  refine zv_iload_n (pc' := 1) dX7_mean_0 rfl rfl ?_
  refine zv_iconst (v := nI 0) (pc' := 2) dX7_mean_1 rfl (by decide) ?_
  refine zv_iconst (v := nI 1) (pc' := 3) dX7_mean_2 rfl (by decide) ?_
  refine zv_cS3_pi (pc' := 6) dX7_mean_3 rfl lkX7_100 (Nat.le_of_ble_eq_true rfl) (x7_isIn) ?_
  refine zv_if_ne (pc' := 9) (tgt := 16) dX7_mean_6 rfl rfl ?_ ?_
  · intro h
    have h0 := otN_0.mpr (zb_ne.mp h)
    obtain ⟨w, -, hw2, rfl⟩ := isInB_of (by decide) (otN_0.mp h0) (by decide)
    have hwe := wealth_lt hk.1
    refine zv_aload_n (pc' := 17) dX7_mean_16 rfl rfl ?_
    refine zv_getIE (pc' := 20) dX7_mean_17 rfl flX7_65 (by first | rfl | assumption) rfl (by first | exact hN | rfl) ?_
    refine zv_if_ne (pc' := 23) (tgt := 28) dX7_mean_20 rfl rfl ?_ ?_
    · intro h1
      have h1 : yN (sC s) ≠ 0 := fun z => h1 (by rw [z]; rfl)
      refine zv_aload_n (pc' := 29) dX7_mean_28 rfl rfl ?_
      refine zv_cV0_pi (pc' := 32) dX7_mean_29 rfl lkX7_187 (by first | rfl | assumption) rfl (Nat.le_of_ble_eq_true rfl) (x7_wealth hI.1 hn8) ?_
      refine zv_i2l (pc' := 33) dX7_mean_32 rfl ?_
      refine zv_ltop (nI_l (by omega)) ?_
      refine zv_aload_n (pc' := 34) dX7_mean_33 rfl rfl ?_
      refine zv_getIE (pc' := 37) dX7_mean_34 rfl flX7_65 (by first | rfl | assumption) rfl (by first | exact hN | rfl) ?_
      refine zv_i2l (pc' := 38) dX7_mean_37 rfl ?_
      refine zv_ltop (nI_l (by omega)) ?_
      refine zv_iload_n (pc' := 39) dX7_mean_38 rfl rfl ?_
      refine zv_cS3_pl (pc' := 42) dX7_mean_39 rfl lkX7_287 (Nat.le_of_ble_eq_true rfl) (x7_partOf (by omega) (by omega) (by omega) (by omega)) ?_
      refine zv_lret dX7_mean_42 rfl ?_
      exact zdonml (by rw [sp_mean, zansl, if_pos h0, pN_nI (by omega), Nat.max_eq_right (by omega)]) hI (zTd.rf hI.1)
    · intro h1
      have h1 : yN (sC s) = 0 := (nI_eq (b := 0) (by omega) (by omega)).mp h1
      refine zv_iload_n (pc' := 24) dX7_mean_23 rfl rfl ?_
      refine zv_i2l (pc' := 25) dX7_mean_24 rfl ?_
      refine zv_ltop (nI_l (by omega)) ?_
      refine zv_goto (pc' := 42) dX7_mean_25 rfl ?_
      refine zv_lret dX7_mean_42 rfl ?_
      refine zdonml ?_ hI (zTd.rf hI.1)
      rw [sp_mean, zansl, if_pos h0, pN_nI (by omega), wealthN, h1]
      have e : ∀ w, w ≤ 1 → ptN 0 (max 1 0) w = w := by decide
      rw [zsum, e w hw2]
  · intro h
    have h0 : otN w 1 = 2 := by rw [otN, if_neg (by rw [zb_0.mp h]; decide)]
    refine zv_aload_n (pc' := 10) dX7_mean_9 rfl rfl ?_
    refine zv_bipush (v := (-2 : Int32)) (pc' := 12) dX7_mean_10 rfl (by decide) ?_
    refine zv_top (show (-2 : Int32) = -nI 2 by decide) ?_
    refine zv_cV1_fl (pc' := 15) dX7_mean_12 rfl lkX7_283 (by first | rfl | assumption) rfl (Nat.le_of_ble_eq_true rfl) (x7_lowestOf (by decide)) ?_
    rintro r M1 ⟨rfl, rfl⟩
    refine zv_lret dX7_mean_15 rfl ?_
    rw [sp_mean, h0]
    exact zrefml hI (by decide)
end
