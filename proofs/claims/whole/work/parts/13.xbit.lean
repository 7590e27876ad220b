/-! Integer.bitCount -/
def bcA (x : Int32) : Int32 := x - ((x.toUInt32 >>> ((nI 1).toUInt32 &&& Int32.toUInt32 31)).toInt32 &&& 1431655765)
def bcB (a : Int32) : Int32 := (a &&& 858993459) + ((a.toUInt32 >>> ((nI 2).toUInt32 &&& Int32.toUInt32 31)).toInt32 &&& 858993459)
def bcC (b : Int32) : Int32 := (b + (b.toUInt32 >>> ((nI 4).toUInt32 &&& Int32.toUInt32 31)).toInt32) &&& 252645135
def bcD (c : Int32) : Int32 := c + (c.toUInt32 >>> ((nI 8).toUInt32 &&& Int32.toUInt32 31)).toInt32
def bcE (c : Int32) : Int32 := c + (c.toUInt32 >>> ((nI 16).toUInt32 &&& Int32.toUInt32 31)).toInt32
theorem bcF_ok : ∀ v, v < 256 → bcE (bcD (bcC (bcB (bcA (nI v))))) &&& nI 63 = nI (zcn 8 (fun j => v.testBit j)) := by decide +kernel
theorem j6_bitCount {d : Nat} {M : ZMem} {v : Nat} (hv : v < 256) : ZPi mdJ6_bitCount_0f7a4 d [.int (nI v)] M (nI (zcn 8 (fun j => v.testBit j))) := by
  refine zex_intro (L := [some (.int (nI v))]) (by decide) (Nat.le_of_ble_eq_true rfl) rfl ?_
  have hF := bcF_ok v hv
  generalize nI v = x at hF ⊢
  refine zv_iload_n (pc' := 1) dJ6_bitCount_0f7a4_0 rfl rfl ?_
  refine zv_iload_n (pc' := 2) dJ6_bitCount_0f7a4_1 rfl rfl ?_
  refine zv_iconst (v := nI 1) (pc' := 3) dJ6_bitCount_0f7a4_2 rfl (by decide) ?_
  refine zv_iushr (pc' := 4) dJ6_bitCount_0f7a4_3 rfl ?_
  refine zv_ldcw (pc' := 7) dJ6_bitCount_0f7a4_4 rfl csJ6_265 ?_
  refine zv_iand (pc' := 8) dJ6_bitCount_0f7a4_7 rfl ?_
  refine zv_isub (pc' := 9) dJ6_bitCount_0f7a4_8 rfl ?_
  refine zv_top (show _ = bcA x from rfl) ?_
  generalize bcA x = a at hF ⊢
  refine zv_istore_n (pc' := 10) dJ6_bitCount_0f7a4_9 rfl (by decide) ?_
  refine zv_iload_n (pc' := 11) dJ6_bitCount_0f7a4_10 rfl rfl ?_
  refine zv_ldcw (pc' := 14) dJ6_bitCount_0f7a4_11 rfl csJ6_266 ?_
  refine zv_iand (pc' := 15) dJ6_bitCount_0f7a4_14 rfl ?_
  refine zv_iload_n (pc' := 16) dJ6_bitCount_0f7a4_15 rfl rfl ?_
  refine zv_iconst (v := nI 2) (pc' := 17) dJ6_bitCount_0f7a4_16 rfl (by decide) ?_
  refine zv_iushr (pc' := 18) dJ6_bitCount_0f7a4_17 rfl ?_
  refine zv_ldcw (pc' := 21) dJ6_bitCount_0f7a4_18 rfl csJ6_266 ?_
  refine zv_iand (pc' := 22) dJ6_bitCount_0f7a4_21 rfl ?_
  refine zv_iadd (pc' := 23) dJ6_bitCount_0f7a4_22 rfl ?_
  refine zv_top (show _ = bcB a from rfl) ?_
  generalize bcB a = b at hF ⊢
  refine zv_istore_n (pc' := 24) dJ6_bitCount_0f7a4_23 rfl (by decide) ?_
  refine zv_iload_n (pc' := 25) dJ6_bitCount_0f7a4_24 rfl rfl ?_
  refine zv_iload_n (pc' := 26) dJ6_bitCount_0f7a4_25 rfl rfl ?_
  refine zv_iconst (v := nI 4) (pc' := 27) dJ6_bitCount_0f7a4_26 rfl (by decide) ?_
  refine zv_iushr (pc' := 28) dJ6_bitCount_0f7a4_27 rfl ?_
  refine zv_iadd (pc' := 29) dJ6_bitCount_0f7a4_28 rfl ?_
  refine zv_ldcw (pc' := 32) dJ6_bitCount_0f7a4_29 rfl csJ6_267 ?_
  refine zv_iand (pc' := 33) dJ6_bitCount_0f7a4_32 rfl ?_
  refine zv_top (show _ = bcC b from rfl) ?_
  generalize bcC b = c at hF ⊢
  refine zv_istore_n (pc' := 34) dJ6_bitCount_0f7a4_33 rfl (by decide) ?_
  refine zv_iload_n (pc' := 35) dJ6_bitCount_0f7a4_34 rfl rfl ?_
  refine zv_iload_n (pc' := 36) dJ6_bitCount_0f7a4_35 rfl rfl ?_
  refine zv_bipush (v := nI 8) (pc' := 38) dJ6_bitCount_0f7a4_36 rfl (by decide) ?_
  refine zv_iushr (pc' := 39) dJ6_bitCount_0f7a4_38 rfl ?_
  refine zv_iadd (pc' := 40) dJ6_bitCount_0f7a4_39 rfl ?_
  refine zv_top (show _ = bcD c from rfl) ?_
  generalize bcD c = e at hF ⊢
  refine zv_istore_n (pc' := 41) dJ6_bitCount_0f7a4_40 rfl (by decide) ?_
  refine zv_iload_n (pc' := 42) dJ6_bitCount_0f7a4_41 rfl rfl ?_
  refine zv_iload_n (pc' := 43) dJ6_bitCount_0f7a4_42 rfl rfl ?_
  refine zv_bipush (v := nI 16) (pc' := 45) dJ6_bitCount_0f7a4_43 rfl (by decide) ?_
  refine zv_iushr (pc' := 46) dJ6_bitCount_0f7a4_45 rfl ?_
  refine zv_iadd (pc' := 47) dJ6_bitCount_0f7a4_46 rfl ?_
  refine zv_top (show _ = bcE e from rfl) ?_
  generalize bcE e = f at hF ⊢
  refine zv_istore_n (pc' := 48) dJ6_bitCount_0f7a4_47 rfl (by decide) ?_
  refine zv_iload_n (pc' := 49) dJ6_bitCount_0f7a4_48 rfl rfl ?_
  refine zv_bipush (v := nI 63) (pc' := 51) dJ6_bitCount_0f7a4_49 rfl (by decide) ?_
  refine zv_iand (pc' := 52) dJ6_bitCount_0f7a4_51 rfl ?_
  refine zv_iret dJ6_bitCount_0f7a4_52 rfl ?_
  exact zpi_ret hF
theorem j6_bitM {d : Nat} {M : ZMem} {f : Nat → Bool} : ZPi mdJ6_bitCount_0f7a4 d [.int (nI (zm 8 f))] M (nI (zcn 8 f)) := by
  have h := j6_bitCount (d := d) (M := M) (zm8_lt f)
  rw [zcn_ext (g := f) (fun j hj => by rw [zm_tb]; simp [hj])] at h
  exact h
