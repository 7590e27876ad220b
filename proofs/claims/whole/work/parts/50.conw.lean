/-! words for the constructors -/
set_option maxRecDepth 100000 in
theorem oiI : Cond.instanceMethod objectInit ∈ zgt := zgt_in (zt1 (List.mem_of_getElem? (i := 24) rfl)) rfl
set_option maxRecDepth 100000 in
theorem oiC : Cond.code objectInit ⟨#[0xb1]⟩ 1 none ∈ zgt := zgt_in (zt1 (List.mem_of_getElem? (i := 25) rfl)) rfl
set_option maxRecDepth 100000 in
theorem arI : Cond.arrayClass .int ∈ zgt := zgt_in (zt1 (List.mem_of_getElem? (i := 66) rfl)) rfl
set_option maxRecDepth 100000 in
theorem oiX0 : Cond.methodLink RX0 3 objectInit ∈ zgt := zgt_in (zt1 (List.mem_of_getElem? (i := 31) rfl)) rfl
set_option maxRecDepth 100000 in
theorem inX0 : Cond.instantiable RX0 7 ∈ zgt := zgt_in (zt1 (List.mem_of_getElem? (i := 27) rfl)) rfl
set_option maxRecDepth 100000 in
theorem oiX1 : Cond.methodLink RX1 3 objectInit ∈ zgt := zgt_in (zt1 (List.mem_of_getElem? (i := 72) rfl)) rfl
set_option maxRecDepth 100000 in
theorem inX1 : Cond.instantiable RX1 2 ∈ zgt := zgt_in (zt1 (List.mem_of_getElem? (i := 68) rfl)) rfl
set_option maxRecDepth 100000 in
theorem oiX2 : Cond.methodLink RX2 3 objectInit ∈ zgt := zgt_in (zt1 (List.mem_of_getElem? (i := 134) rfl)) rfl
set_option maxRecDepth 100000 in
theorem inX2 : Cond.instantiable RX2 6 ∈ zgt := zgt_in (zt1 (List.mem_of_getElem? (i := 130) rfl)) rfl
set_option maxRecDepth 100000 in
theorem oiX3 : Cond.methodLink RX3 3 objectInit ∈ zgt := zgt_in (zt1 (List.mem_of_getElem? (i := 115) rfl)) rfl
set_option maxRecDepth 100000 in
theorem inX3 : Cond.instantiable RX3 4 ∈ zgt := zgt_in (zt1 (List.mem_of_getElem? (i := 111) rfl)) rfl
set_option maxRecDepth 100000 in
theorem oiX4 : Cond.methodLink RX4 3 objectInit ∈ zgt := zgt_in (zt1 (List.mem_of_getElem? (i := 99) rfl)) rfl
set_option maxRecDepth 100000 in
theorem inX4 : Cond.instantiable RX4 3 ∈ zgt := zgt_in (zt1 (List.mem_of_getElem? (i := 95) rfl)) rfl
set_option maxRecDepth 100000 in
theorem oiX5 : Cond.methodLink RX5 3 objectInit ∈ zgt := zgt_in (zt1 (List.mem_of_getElem? (i := 86) rfl)) rfl
set_option maxRecDepth 100000 in
theorem inX5 : Cond.instantiable RX5 2 ∈ zgt := zgt_in (zt1 (List.mem_of_getElem? (i := 82) rfl)) rfl
set_option maxRecDepth 100000 in
theorem oiX6 : Cond.methodLink RX6 1 objectInit ∈ zgt := zgt_in (zt1 (List.mem_of_getElem? (i := 23) rfl)) rfl
set_option maxRecDepth 100000 in
theorem inX6 : Cond.instantiable RX6 15 ∈ zgt := zgt_in (zt1 (List.mem_of_getElem? (i := 19) rfl)) rfl
set_option maxRecDepth 100000 in
theorem oiX7 : Cond.methodLink RX7 1 objectInit ∈ zgt := zgt_in (zt4 (List.mem_of_getElem? (i := 105) rfl)) rfl
set_option maxRecDepth 100000 in
theorem inX7 : Cond.instantiable RX7 28 ∈ zgt := zgt_in (zt4 (List.mem_of_getElem? (i := 101) rfl)) rfl
set_option maxRecDepth 100000 in
theorem clX6_7 : Cond.classLink RX6 7 RX0 ∈ zgt := zgt_in (zt1 (List.mem_of_getElem? (i := 26) rfl)) rfl
set_option maxRecDepth 100000 in
theorem clX6_25 : Cond.classLink RX6 25 RX1 ∈ zgt := zgt_in (zt1 (List.mem_of_getElem? (i := 67) rfl)) rfl
set_option maxRecDepth 100000 in
theorem clX6_39 : Cond.classLink RX6 39 RX5 ∈ zgt := zgt_in (zt1 (List.mem_of_getElem? (i := 81) rfl)) rfl
set_option maxRecDepth 100000 in
theorem clX6_46 : Cond.classLink RX6 46 RX4 ∈ zgt := zgt_in (zt1 (List.mem_of_getElem? (i := 94) rfl)) rfl
set_option maxRecDepth 100000 in
theorem clX6_53 : Cond.classLink RX6 53 RX3 ∈ zgt := zgt_in (zt1 (List.mem_of_getElem? (i := 110) rfl)) rfl
set_option maxRecDepth 100000 in
theorem clX6_60 : Cond.classLink RX6 60 RX2 ∈ zgt := zgt_in (zt1 (List.mem_of_getElem? (i := 129) rfl)) rfl
set_option maxRecDepth 100000 in
theorem clX2_9 : Cond.classLink RX2 9 RX0 ∈ zgt := zgt_in (zt1 (List.mem_of_getElem? (i := 135) rfl)) rfl
set_option maxRecDepth 100000 in
theorem clL_7 : Cond.classLink "CousinsByAgreementLaw" 7 RX6 ∈ zgt := zgt_in (zt1 (List.mem_of_getElem? (i := 18) rfl)) rfl
set_option maxRecDepth 100000 in
theorem clL_10 : Cond.classLink "CousinsByAgreementLaw" 10 RX7 ∈ zgt := zgt_in (zt4 (List.mem_of_getElem? (i := 100) rfl)) rfl
set_option maxRecDepth 100000 in
theorem liX6_9 : zlk RX6 9 mdX0_init 0 := ⟨Or.inr ⟨"CousinsByAgreement", zNW_in (zt1 (List.mem_of_getElem? (i := 28) rfl)) rfl⟩, niRX0, kcX0_init, ⟨by decide, by decide, by decide +kernel⟩, by decide⟩
set_option maxRecDepth 100000 in
theorem liX6_27 : zlk RX6 27 mdX1_init 0 := ⟨Or.inr ⟨"CousinsByAgreement", zNW_in (zt1 (List.mem_of_getElem? (i := 69) rfl)) rfl⟩, niRX1, kcX1_init, ⟨by decide, by decide, by decide +kernel⟩, by decide⟩
set_option maxRecDepth 100000 in
theorem liX6_41 : zlk RX6 41 mdX5_init 0 := ⟨Or.inr ⟨"CousinsByAgreement", zNW_in (zt1 (List.mem_of_getElem? (i := 83) rfl)) rfl⟩, niRX5, kcX5_init, ⟨by decide, by decide, by decide +kernel⟩, by decide⟩
set_option maxRecDepth 100000 in
theorem liX6_48 : zlk RX6 48 mdX4_init 0 := ⟨Or.inr ⟨"CousinsByAgreement", zNW_in (zt1 (List.mem_of_getElem? (i := 96) rfl)) rfl⟩, niRX4, kcX4_init, ⟨by decide, by decide, by decide +kernel⟩, by decide⟩
set_option maxRecDepth 100000 in
theorem liX6_55 : zlk RX6 55 mdX3_init 0 := ⟨Or.inr ⟨"CousinsByAgreement", zNW_in (zt1 (List.mem_of_getElem? (i := 112) rfl)) rfl⟩, niRX3, kcX3_init, ⟨by decide, by decide, by decide +kernel⟩, by decide⟩
set_option maxRecDepth 100000 in
theorem liX6_62 : zlk RX6 62 mdX2_init 0 := ⟨Or.inl (zgt_in (zt1 (List.mem_of_getElem? (i := 131) rfl)) rfl), niRX2, kcX2_init, ⟨by decide, by decide, by decide +kernel⟩, by decide⟩
set_option maxRecDepth 100000 in
theorem liX2_17 : zlk RX2 17 mdX0_init 0 := ⟨Or.inr ⟨"CousinsByAgreement", zNW_in (zt1 (List.mem_of_getElem? (i := 137) rfl)) rfl⟩, niRX0, kcX0_init, ⟨by decide, by decide, by decide +kernel⟩, by decide⟩
set_option maxRecDepth 100000 in
theorem liL_9 : zlk "CousinsByAgreementLaw" 9 mdX6_init 0 := ⟨Or.inl (zgt_in (zt1 (List.mem_of_getElem? (i := 20) rfl)) rfl), niRX6, kcX6_init, ⟨by decide, by decide, by decide +kernel⟩, by decide⟩
set_option maxRecDepth 100000 in
theorem liL_12 : zlk "CousinsByAgreementLaw" 12 mdX7_init 0 := ⟨Or.inl (zgt_in (zt4 (List.mem_of_getElem? (i := 102) rfl)) rfl), niRX7, kcX7_init, ⟨by decide, by decide, by decide +kernel⟩, by decide⟩
set_option maxRecDepth 100000 in
theorem fkX0_9 : Cond.fieldLink RX0 9 (TX0 0).1 (TX0 0).2.1 (TX0 0).2.2.1 ∈ zgt := zgt_in (zt1 (List.mem_of_getElem? (i := 32) rfl)) rfl
set_option maxRecDepth 100000 in
theorem fkX0_15 : Cond.fieldLink RX0 15 (TX0 1).1 (TX0 1).2.1 (TX0 1).2.2.1 ∈ zgt := zgt_in (zt1 (List.mem_of_getElem? (i := 34) rfl)) rfl
set_option maxRecDepth 100000 in
theorem fkX0_18 : Cond.fieldLink RX0 18 (TX0 2).1 (TX0 2).2.1 (TX0 2).2.2.1 ∈ zgt := zgt_in (zt1 (List.mem_of_getElem? (i := 36) rfl)) rfl
set_option maxRecDepth 100000 in
theorem fkX0_21 : Cond.fieldLink RX0 21 (TX0 3).1 (TX0 3).2.1 (TX0 3).2.2.1 ∈ zgt := zgt_in (zt1 (List.mem_of_getElem? (i := 40) rfl)) rfl
set_option maxRecDepth 100000 in
theorem fkX0_24 : Cond.fieldLink RX0 24 (TX0 4).1 (TX0 4).2.1 (TX0 4).2.2.1 ∈ zgt := zgt_in (zt1 (List.mem_of_getElem? (i := 42) rfl)) rfl
set_option maxRecDepth 100000 in
theorem fkX1_9 : Cond.fieldLink RX1 9 (TX1 0).1 (TX1 0).2.1 (TX1 0).2.2.1 ∈ zgt := zgt_in (zt1 (List.mem_of_getElem? (i := 73) rfl)) rfl
set_option maxRecDepth 100000 in
theorem fkX2_11 : Cond.fieldLink RX2 11 (TX2 0).1 (TX2 0).2.1 (TX2 0).2.2.1 ∈ zgt := zgt_in (zt1 (List.mem_of_getElem? (i := 138) rfl)) rfl
set_option maxRecDepth 100000 in
theorem fkX3_9 : Cond.fieldLink RX3 9 (TX3 0).1 (TX3 0).2.1 (TX3 0).2.2.1 ∈ zgt := zgt_in (zt1 (List.mem_of_getElem? (i := 116) rfl)) rfl
set_option maxRecDepth 100000 in
theorem fkX3_15 : Cond.fieldLink RX3 15 (TX3 1).1 (TX3 1).2.1 (TX3 1).2.2.1 ∈ zgt := zgt_in (zt1 (List.mem_of_getElem? (i := 117) rfl)) rfl
set_option maxRecDepth 100000 in
theorem fkX3_18 : Cond.fieldLink RX3 18 (TX3 2).1 (TX3 2).2.1 (TX3 2).2.2.1 ∈ zgt := zgt_in (zt1 (List.mem_of_getElem? (i := 118) rfl)) rfl
set_option maxRecDepth 100000 in
theorem fkX4_9 : Cond.fieldLink RX4 9 (TX4 0).1 (TX4 0).2.1 (TX4 0).2.2.1 ∈ zgt := zgt_in (zt1 (List.mem_of_getElem? (i := 100) rfl)) rfl
set_option maxRecDepth 100000 in
theorem fkX4_15 : Cond.fieldLink RX4 15 (TX4 1).1 (TX4 1).2.1 (TX4 1).2.2.1 ∈ zgt := zgt_in (zt1 (List.mem_of_getElem? (i := 101) rfl)) rfl
set_option maxRecDepth 100000 in
theorem fkX5_9 : Cond.fieldLink RX5 9 (TX5 0).1 (TX5 0).2.1 (TX5 0).2.2.1 ∈ zgt := zgt_in (zt1 (List.mem_of_getElem? (i := 87) rfl)) rfl
set_option maxRecDepth 100000 in
theorem fkX6_10 : Cond.fieldLink RX6 10 (TX6 0).1 (TX6 0).2.1 (TX6 0).2.2.1 ∈ zgt := zgt_in (zt1 (List.mem_of_getElem? (i := 157) rfl)) rfl
set_option maxRecDepth 100000 in
theorem fkX6_16 : Cond.fieldLink RX6 16 (TX6 1).1 (TX6 1).2.1 (TX6 1).2.2.1 ∈ zgt := zgt_in (zt1 (List.mem_of_getElem? (i := 158) rfl)) rfl
set_option maxRecDepth 100000 in
theorem fkX6_19 : Cond.fieldLink RX6 19 (TX6 2).1 (TX6 2).2.1 (TX6 2).2.2.1 ∈ zgt := zgt_in (zt1 (List.mem_of_getElem? (i := 159) rfl)) rfl
set_option maxRecDepth 100000 in
theorem fkX6_22 : Cond.fieldLink RX6 22 (TX6 3).1 (TX6 3).2.1 (TX6 3).2.2.1 ∈ zgt := zgt_in (zt1 (List.mem_of_getElem? (i := 160) rfl)) rfl
set_option maxRecDepth 100000 in
theorem fkX6_28 : Cond.fieldLink RX6 28 (TX6 5).1 (TX6 5).2.1 (TX6 5).2.2.1 ∈ zgt := zgt_in (zt1 (List.mem_of_getElem? (i := 162) rfl)) rfl
set_option maxRecDepth 100000 in
theorem fkX6_32 : Cond.fieldLink RX6 32 (TX6 6).1 (TX6 6).2.1 (TX6 6).2.2.1 ∈ zgt := zgt_in (zt1 (List.mem_of_getElem? (i := 163) rfl)) rfl
set_option maxRecDepth 100000 in
theorem fkX6_36 : Cond.fieldLink RX6 36 (TX6 8).1 (TX6 8).2.1 (TX6 8).2.2.1 ∈ zgt := zgt_in (zt1 (List.mem_of_getElem? (i := 165) rfl)) rfl
set_option maxRecDepth 100000 in
theorem fkX6_42 : Cond.fieldLink RX6 42 (TX6 9).1 (TX6 9).2.1 (TX6 9).2.2.1 ∈ zgt := zgt_in (zt1 (List.mem_of_getElem? (i := 166) rfl)) rfl
set_option maxRecDepth 100000 in
theorem fkX6_49 : Cond.fieldLink RX6 49 (TX6 10).1 (TX6 10).2.1 (TX6 10).2.2.1 ∈ zgt := zgt_in (zt1 (List.mem_of_getElem? (i := 167) rfl)) rfl
set_option maxRecDepth 100000 in
theorem fkX6_56 : Cond.fieldLink RX6 56 (TX6 11).1 (TX6 11).2.1 (TX6 11).2.2.1 ∈ zgt := zgt_in (zt1 (List.mem_of_getElem? (i := 168) rfl)) rfl
set_option maxRecDepth 100000 in
theorem fkX6_63 : Cond.fieldLink RX6 63 (TX6 12).1 (TX6 12).2.1 (TX6 12).2.2.1 ∈ zgt := zgt_in (zt1 (List.mem_of_getElem? (i := 169) rfl)) rfl
set_option maxRecDepth 100000 in
theorem fkX6_67 : Cond.fieldLink RX6 67 (TX6 13).1 (TX6 13).2.1 (TX6 13).2.2.1 ∈ zgt := zgt_in (zt1 (List.mem_of_getElem? (i := 170) rfl)) rfl
set_option maxRecDepth 100000 in
theorem fkX6_70 : Cond.fieldLink RX6 70 (TX6 14).1 (TX6 14).2.1 (TX6 14).2.2.1 ∈ zgt := zgt_in (zt1 (List.mem_of_getElem? (i := 171) rfl)) rfl
set_option maxRecDepth 100000 in
theorem fkX7_7 : Cond.fieldLink RX7 7 (TX7 0).1 (TX7 0).2.1 (TX7 0).2.2.1 ∈ zgt := zgt_in (zt4 (List.mem_of_getElem? (i := 106) rfl)) rfl
set_option maxRecDepth 100000 in
theorem fkX7_13 : Cond.fieldLink RX7 13 (TX7 1).1 (TX7 1).2.1 (TX7 1).2.2.1 ∈ zgt := zgt_in (zt4 (List.mem_of_getElem? (i := 107) rfl)) rfl
set_option maxRecDepth 100000 in
theorem fkX7_16 : Cond.fieldLink RX7 16 (TX7 2).1 (TX7 2).2.1 (TX7 2).2.2.1 ∈ zgt := zgt_in (zt4 (List.mem_of_getElem? (i := 108) rfl)) rfl
set_option maxRecDepth 100000 in
theorem fkX7_19 : Cond.fieldLink RX7 19 (TX7 3).1 (TX7 3).2.1 (TX7 3).2.2.1 ∈ zgt := zgt_in (zt4 (List.mem_of_getElem? (i := 109) rfl)) rfl
set_option maxRecDepth 100000 in
theorem fkX7_22 : Cond.fieldLink RX7 22 (TX7 4).1 (TX7 4).2.1 (TX7 4).2.2.1 ∈ zgt := zgt_in (zt4 (List.mem_of_getElem? (i := 110) rfl)) rfl
set_option maxRecDepth 100000 in
theorem fkX7_25 : Cond.fieldLink RX7 25 (TX7 5).1 (TX7 5).2.1 (TX7 5).2.2.1 ∈ zgt := zgt_in (zt4 (List.mem_of_getElem? (i := 111) rfl)) rfl
set_option maxRecDepth 100000 in
theorem fkX7_28 : Cond.fieldLink RX7 28 (TX7 8).1 (TX7 8).2.1 (TX7 8).2.2.1 ∈ zgt := zgt_in (zt4 (List.mem_of_getElem? (i := 114) rfl)) rfl
set_option maxRecDepth 100000 in
theorem fkX7_32 : Cond.fieldLink RX7 32 (TX7 9).1 (TX7 9).2.1 (TX7 9).2.2.1 ∈ zgt := zgt_in (zt4 (List.mem_of_getElem? (i := 115) rfl)) rfl
set_option maxRecDepth 100000 in
theorem fkX7_35 : Cond.fieldLink RX7 35 (TX7 10).1 (TX7 10).2.1 (TX7 10).2.2.1 ∈ zgt := zgt_in (zt4 (List.mem_of_getElem? (i := 116) rfl)) rfl
set_option maxRecDepth 100000 in
theorem fkX7_38 : Cond.fieldLink RX7 38 (TX7 11).1 (TX7 11).2.1 (TX7 11).2.2.1 ∈ zgt := zgt_in (zt4 (List.mem_of_getElem? (i := 117) rfl)) rfl
set_option maxRecDepth 100000 in
theorem fkX7_41 : Cond.fieldLink RX7 41 (TX7 12).1 (TX7 12).2.1 (TX7 12).2.2.1 ∈ zgt := zgt_in (zt4 (List.mem_of_getElem? (i := 118) rfl)) rfl
set_option maxRecDepth 100000 in
theorem fkX7_44 : Cond.fieldLink RX7 44 (TX7 16).1 (TX7 16).2.1 (TX7 16).2.2.1 ∈ zgt := zgt_in (zt4 (List.mem_of_getElem? (i := 122) rfl)) rfl
set_option maxRecDepth 100000 in
theorem fkX7_47 : Cond.fieldLink RX7 47 (TX7 20).1 (TX7 20).2.1 (TX7 20).2.2.1 ∈ zgt := zgt_in (zt4 (List.mem_of_getElem? (i := 126) rfl)) rfl
set_option maxRecDepth 100000 in
theorem fkX7_50 : Cond.fieldLink RX7 50 (TX7 21).1 (TX7 21).2.1 (TX7 21).2.2.1 ∈ zgt := zgt_in (zt4 (List.mem_of_getElem? (i := 127) rfl)) rfl
set_option maxRecDepth 100000 in
theorem fkX7_53 : Cond.fieldLink RX7 53 (TX7 22).1 (TX7 22).2.1 (TX7 22).2.2.1 ∈ zgt := zgt_in (zt4 (List.mem_of_getElem? (i := 128) rfl)) rfl
set_option maxRecDepth 100000 in
theorem fkX7_56 : Cond.fieldLink RX7 56 (TX7 23).1 (TX7 23).2.1 (TX7 23).2.2.1 ∈ zgt := zgt_in (zt4 (List.mem_of_getElem? (i := 129) rfl)) rfl
set_option maxRecDepth 100000 in
theorem fkX7_59 : Cond.fieldLink RX7 59 (TX7 24).1 (TX7 24).2.1 (TX7 24).2.2.1 ∈ zgt := zgt_in (zt4 (List.mem_of_getElem? (i := 130) rfl)) rfl
set_option maxRecDepth 100000 in
theorem fkX7_62 : Cond.fieldLink RX7 62 (TX7 25).1 (TX7 25).2.1 (TX7 25).2.2.1 ∈ zgt := zgt_in (zt4 (List.mem_of_getElem? (i := 131) rfl)) rfl
set_option maxRecDepth 100000 in
theorem fkX7_65 : Cond.fieldLink RX7 65 (TX7 6).1 (TX7 6).2.1 (TX7 6).2.2.1 ∈ zgt := zgt_in (zt4 (List.mem_of_getElem? (i := 112) rfl)) rfl
