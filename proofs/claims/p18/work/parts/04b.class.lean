set_option maxHeartbeats 4000000 in
set_option maxRecDepth 100000 in
theorem c_X1_add (l : Launch) (dC : Nat → ClassId) (dI : Nat → Nat → Nat) (a : Nat → Nat) (κ : Nat → ClassId) (σ : Nat → Int32) (φ : Nat → Nat → Int32) (γ : Nat → Int32) (ψ : Nat → Nat → Int32) (g1 g2 : Nat) (kind : Int32) (place : Int32) (cause : Int32) (way : Int32) (inHousehold : Int32) (hc : 0 ≤ (Int32.toInt (σ 1)) ∧ (Int32.toInt (σ 1)) ≤ 2000000000) : Met l yX1_add wsX1_add ({ frames := 0, cells := 0, slots := 0, locals := 0 } : Room) (va_Pc [.ref (a 3), .int kind, .int place, .int cause, .int way, .int inHousehold] (cPre dC dI a κ (σ, φ, γ, ψ) g1 g2)) (va_Qi (QI (fun r S F => ∃ (s1 : Int32), (up σ 1 s1) = S ∧ φ = F ∧ ((Int32.toInt (σ 1)) ≤ (Int32.toInt s1) ∧ (Int32.toInt s1) ≤ (Int32.toInt (σ 1)) + 1))) (cB dC dI a κ) (cA a)) 0 0 (cA a) := by
  refine Met.ofW (cc := cX1_add) (maxL := 9) (ret := (some .int)) (by decide) rfl ?_
  intro p e s m args below meth c s₁ B hml hv
  obtain ⟨rfl, hP, hK, hI, hN, hX⟩ := hv
  have hx := B.exec
  have hb := B.bytes
  have hr := B.returns
  have hts := atoms_spec (ws := wsX1_add) B.pre
  have hown : s.vm.findClass RX1 = some m.cls := findClass_of_methodNamed B.named
  have hlocks := B.notSynchronized
  have hS : va_S (cA a) s.heap s.heap [] := va_S.rf
  have hinX1 : ∀ w ∈ wsX10, w ∈ wsX1_add := fun _ h => List.mem_cons_of_mem _ (List.mem_append_right _ h)
  have hl := lv_entry ([.ref (a 3), .int kind, .int place, .int cause, .int way, .int inHousehold]) (n := 9) (Nat.le_of_ble_eq_true rfl)
  rw [lg_entry_eq]
  generalize (lg_sl ([.ref (a 3), .int kind, .int place, .int cause, .int way, .int inHousehold]) ++ List.replicate (9 - (lg_sl ([.ref (a 3), .int kind, .int place, .int cause, .int way, .int inHousehold])).length) Slot.unset).toArray = ls at hl ⊢
  have hl : lv_has ls 9 [(0, .ref (a 3)), (1, .int kind), (2, .int place), (3, .int cause), (4, .int way), (5, .int inHousehold)] := hl
  refine lv_iload_n hx hb dX1_add_0 rfl (lv_at hl 1 rfl) ?_
  refine lv_iconst (v := 1) hx hb dX1_add_1 (by decide) ?_
  refine lv_icmp_lt (tgt := 11) hx hb dX1_add_2 (by decide) (fun c_1 => ?_) (fun c_1 => ?_)
  · have kc_1 := bI_lt rfl L_1 c_1
    refine lv_iconst (v := (-1)) hx hb dX1_add_11 (by decide) ?_
    exact W.iret (v := (-1)) hx hb hr (fun t ht hW => ⟨⟨(-1), ((up σ 1 (σ 1)), φ, γ, ψ), rfl, ⟨(σ 1), rfl, rfl, (show (Int32.toInt (σ 1)) ≤ (Int32.toInt (σ 1)) ∧ (Int32.toInt (σ 1)) ≤ (Int32.toInt (σ 1)) + 1 from (by omega))⟩, (by show va_P _ _ _ _; rw [ht]; exact hP)⟩, hS.F ht⟩) hS.2.2 dX1_add_12
  · have kc_1 := bI_nlt rfl L_1 c_1
    refine lv_iload_n hx hb dX1_add_5 rfl (lv_at hl 1 rfl) ?_
    refine lv_bipush (v := 21) hx hb dX1_add_6 (by decide) ?_
    refine lv_icmp_le (tgt := 13) hx hb dX1_add_8 (by decide) (fun c_2 => ?_) (fun c_2 => ?_)
    · have kc_2 := bI_le rfl L_21 c_2
      refine va_gets (C := RX1) (n := "LAYER_OF") (d := "[I") (v := .ref g2) hx hb hX.2.2.1 hS hown (hts (.fieldLink RX1 39 "CensusDesk$Failures" "LAYER_OF" "[I") (List.mem_of_getElem? (i := 1) rfl)) (fun _ h9 => h9) dX1_add_13 ?_
      refine lv_iload_n hx hb dX1_add_16 rfl (lv_at hl 1 rfl) ?_
      refine va_ti (v := .int (lay (Int32.toNatClampNeg kind))) hx hb hX.2.2.2 hS (i := kind) (vin rfl (by omega)) rfl dX1_add_17 ?_
      refine lv_topi (fun z_3 ez_3 => ?_)
      have pz_3 : 0 ≤ (Int32.toInt z_3) ∧ (Int32.toInt z_3) ≤ 4 := by rw [ez_3]; exact lay_rng _
      refine lv_istore (lv' := [(6, .int z_3), (0, .ref (a 3)), (1, .int kind), (2, .int place), (3, .int cause), (4, .int way), (5, .int inHousehold)]) hx hb dX1_add_18 hl (by decide) rfl ?_
      clear hl; intro ls hl
      refine lv_iload hx hb dX1_add_20 (lv_at hl 6 rfl) ?_
      refine lv_if_eq (tgt := 38) hx hb dX1_add_22 (by decide) (fun c_4 => ?_) (fun c_4 => ?_)
      · have kc_4 := bI_eq rfl L_0 c_4
        refine lv_aload_n hx hb dX1_add_38 rfl (lv_at hl 1 rfl) ?_
        refine cg_3_3 hx hb hts hinX1 hown hK hP (hts (.fieldLink RX1 23 "CensusDesk$Failures" "firstOutside" "[I") (List.mem_of_getElem? (i := 3) rfl)) dX1_add_39 ?_
        refine lv_astore (lv' := [(7, .ref (a 20)), (6, .int z_3), (0, .ref (a 3)), (1, .int kind), (2, .int place), (3, .int cause), (4, .int way), (5, .int inHousehold)]) hx hb dX1_add_42 hl (by decide) rfl ?_
        clear hl; intro ls hl
        refine lv_aload_n hx hb dX1_add_44 rfl (lv_at hl 2 rfl) ?_
        refine cg_3_4 (v := (σ 1)) hx hb hts hinX1 hown hK hP (hts (.fieldLink RX1 26 "CensusDesk$Failures" "count" "I") (List.mem_of_getElem? (i := 4) rfl)) rfl dX1_add_45 ?_
        refine lv_istore (lv' := [(8, .int (σ 1)), (7, .ref (a 20)), (6, .int z_3), (0, .ref (a 3)), (1, .int kind), (2, .int place), (3, .int cause), (4, .int way), (5, .int inHousehold)]) hx hb dX1_add_48 hl (by decide) rfl ?_
        clear hl; intro ls hl
        refine lv_iload hx hb dX1_add_50 (lv_at hl 0 rfl) ?_
        refine lv_sipush (v := 300) hx hb dX1_add_52 (by decide) ?_
        refine lv_icmp_ge (tgt := 113) hx hb dX1_add_55 (by decide) (fun c_5 => ?_) (fun c_5 => ?_)
        · have kc_5 := bI_le L_300 rfl c_5
          refine lv_aload hx hb dX1_add_113 (lv_at hl 1 rfl) ?_
          refine lv_iload hx hb dX1_add_115 (lv_at hl 2 rfl) ?_
          refine cl_20 (f := (ψ 9)) hx hb hK hP (i := z_3) (vin rfl (by omega)) rfl dX1_add_117 ?_
          refine lv_topi (fun z_6 ez_6 => ?_)
          refine lv_iconst (v := (-1)) hx hb dX1_add_118 (by decide) ?_
          refine lv_icmp_ne (tgt := 129) hx hb dX1_add_119 (by decide) (fun c_7 => ?_) (fun c_7 => ?_)
          · have kc_7 := bI_ne rfl L_m1 c_7
            refine lv_aload_n hx hb dX1_add_129 rfl (lv_at hl 3 rfl) ?_
            refine cg_3_1 hx hb hts hinX1 hown hK hP (hts (.fieldLink RX1 16 "CensusDesk$Failures" "byKind" "[I") (List.mem_of_getElem? (i := 6) rfl)) dX1_add_130 ?_
            refine lv_iload_n hx hb dX1_add_133 rfl (lv_at hl 4 rfl) ?_
            refine lv_dup2_11 hx hb dX1_add_134 rfl rfl ?_
            refine cl_18 (f := (ψ 7)) hx hb hK hP (i := kind) (vin rfl (by omega)) rfl dX1_add_135 ?_
            refine lv_topi (fun z_8 ez_8 => ?_)
            refine lv_iconst (v := 1) hx hb dX1_add_136 (by decide) ?_
            refine lv_iadd hx hb dX1_add_137 ?_
            refine lv_topi (fun z_9 ez_9 => ?_)
            refine cs_18 (f := (ψ 7)) hx hb hK hP hI hS (i := kind) (x := z_9) (vin rfl (by omega)) rfl dX1_add_138 ?_
            clear hP hS; intro H locs hP hS
            obtain ⟨f_10, ef_10⟩ : ∃ z : Nat → Int32, z = upd (ψ 7) (Int32.toNatClampNeg kind) z_9 := ⟨_, rfl⟩
            rw [← ef_10] at hP
            refine lv_aload_n hx hb dX1_add_139 rfl (lv_at hl 3 rfl) ?_
            refine lv_dup hx hb dX1_add_140 rfl ?_
            refine cg_3_4 (v := (σ 1)) hx hb hts hinX1 hown hK hP (hts (.fieldLink RX1 26 "CensusDesk$Failures" "count" "I") (List.mem_of_getElem? (i := 4) rfl)) rfl dX1_add_141 ?_
            refine lv_iconst (v := 1) hx hb dX1_add_144 (by decide) ?_
            refine lv_iadd hx hb dX1_add_145 ?_
            refine lv_topi (fun z_11 ez_11 => ?_)
            have tz_11 : (Int32.toInt z_11) = (Int32.toInt (σ 1)) + 1 := aI_add rfl L_1 ez_11 (by have := rng (σ 1); omega)
            refine cp_3_4 (v := z_11) hx hb hts hinX1 hown hK hP hI hS (hts (.fieldLink RX1 26 "CensusDesk$Failures" "count" "I") (List.mem_of_getElem? (i := 4) rfl)) dX1_add_146 ?_
            clear hP hS; intro H locs hP hS
            refine lv_iload hx hb dX1_add_149 (lv_at hl 0 rfl) ?_
            exact W.iret (v := (σ 1)) hx hb hr (fun t ht hW => ⟨⟨(σ 1), ((up σ 1 z_11), φ, γ, (up ψ 7 f_10)), rfl, ⟨z_11, rfl, rfl, (show (Int32.toInt (σ 1)) ≤ (Int32.toInt z_11) ∧ (Int32.toInt z_11) ≤ (Int32.toInt (σ 1)) + 1 from (by omega))⟩, (by show va_P _ _ _ _; rw [ht]; exact hP)⟩, hS.F ht⟩) hS.2.2 dX1_add_151
          · have kc_7 := bI_eq rfl L_m1 c_7
            refine lv_aload hx hb dX1_add_122 (lv_at hl 1 rfl) ?_
            refine lv_iload hx hb dX1_add_124 (lv_at hl 2 rfl) ?_
            refine lv_iload hx hb dX1_add_126 (lv_at hl 0 rfl) ?_
            refine cs_20 (f := (ψ 9)) hx hb hK hP hI hS (i := z_3) (x := (σ 1)) (vin rfl (by omega)) rfl dX1_add_128 ?_
            clear hP hS; intro H locs hP hS
            obtain ⟨f_12, ef_12⟩ : ∃ z : Nat → Int32, z = upd (ψ 9) (Int32.toNatClampNeg z_3) (σ 1) := ⟨_, rfl⟩
            rw [← ef_12] at hP
            refine lv_aload_n hx hb dX1_add_129 rfl (lv_at hl 3 rfl) ?_
            refine cg_3_1 hx hb hts hinX1 hown hK hP (hts (.fieldLink RX1 16 "CensusDesk$Failures" "byKind" "[I") (List.mem_of_getElem? (i := 6) rfl)) dX1_add_130 ?_
            refine lv_iload_n hx hb dX1_add_133 rfl (lv_at hl 4 rfl) ?_
            refine lv_dup2_11 hx hb dX1_add_134 rfl rfl ?_
            refine cl_18 (f := (ψ 7)) hx hb hK hP (i := kind) (vin rfl (by omega)) rfl dX1_add_135 ?_
            refine lv_topi (fun z_13 ez_13 => ?_)
            refine lv_iconst (v := 1) hx hb dX1_add_136 (by decide) ?_
            refine lv_iadd hx hb dX1_add_137 ?_
            refine lv_topi (fun z_14 ez_14 => ?_)
            refine cs_18 (f := (ψ 7)) hx hb hK hP hI hS (i := kind) (x := z_14) (vin rfl (by omega)) rfl dX1_add_138 ?_
            clear hP hS; intro H locs hP hS
            obtain ⟨f_15, ef_15⟩ : ∃ z : Nat → Int32, z = upd (ψ 7) (Int32.toNatClampNeg kind) z_14 := ⟨_, rfl⟩
            rw [← ef_15] at hP
            refine lv_aload_n hx hb dX1_add_139 rfl (lv_at hl 3 rfl) ?_
            refine lv_dup hx hb dX1_add_140 rfl ?_
            refine cg_3_4 (v := (σ 1)) hx hb hts hinX1 hown hK hP (hts (.fieldLink RX1 26 "CensusDesk$Failures" "count" "I") (List.mem_of_getElem? (i := 4) rfl)) rfl dX1_add_141 ?_
            refine lv_iconst (v := 1) hx hb dX1_add_144 (by decide) ?_
            refine lv_iadd hx hb dX1_add_145 ?_
            refine lv_topi (fun z_16 ez_16 => ?_)
            have tz_16 : (Int32.toInt z_16) = (Int32.toInt (σ 1)) + 1 := aI_add rfl L_1 ez_16 (by have := rng (σ 1); omega)
            refine cp_3_4 (v := z_16) hx hb hts hinX1 hown hK hP hI hS (hts (.fieldLink RX1 26 "CensusDesk$Failures" "count" "I") (List.mem_of_getElem? (i := 4) rfl)) dX1_add_146 ?_
            clear hP hS; intro H locs hP hS
            refine lv_iload hx hb dX1_add_149 (lv_at hl 0 rfl) ?_
            exact W.iret (v := (σ 1)) hx hb hr (fun t ht hW => ⟨⟨(σ 1), ((up σ 1 z_16), φ, γ, (up (up ψ 9 f_12) 7 f_15)), rfl, ⟨z_16, rfl, rfl, (show (Int32.toInt (σ 1)) ≤ (Int32.toInt z_16) ∧ (Int32.toInt z_16) ≤ (Int32.toInt (σ 1)) + 1 from (by omega))⟩, (by show va_P _ _ _ _; rw [ht]; exact hP)⟩, hS.F ht⟩) hS.2.2 dX1_add_151
        · have kc_5 := bI_nle L_300 rfl c_5
          refine lv_aload_n hx hb dX1_add_58 rfl (lv_at hl 3 rfl) ?_
          refine cg_3_0 hx hb hts hinX1 hown hK hP (hts (.fieldLink RX1 13 "CensusDesk$Failures" "facts" "[[I") (List.mem_of_getElem? (i := 5) rfl)) dX1_add_59 ?_
          refine lv_iconst (v := 0) hx hb dX1_add_62 (by decide) ?_
          refine cr_12_0 hx hb hK hP dX1_add_63 ?_
          refine lv_iload hx hb dX1_add_64 (lv_at hl 0 rfl) ?_
          refine lv_iload_n hx hb dX1_add_66 rfl (lv_at hl 4 rfl) ?_
          refine cs_13 (f := (ψ 2)) hx hb hK hP hI hS (i := (σ 1)) (x := kind) (vin rfl (by omega)) rfl dX1_add_67 ?_
          clear hP hS; intro H locs hP hS
          obtain ⟨f_17, ef_17⟩ : ∃ z : Nat → Int32, z = upd (ψ 2) (Int32.toNatClampNeg (σ 1)) kind := ⟨_, rfl⟩
          rw [← ef_17] at hP
          refine lv_aload_n hx hb dX1_add_68 rfl (lv_at hl 3 rfl) ?_
          refine cg_3_0 hx hb hts hinX1 hown hK hP (hts (.fieldLink RX1 13 "CensusDesk$Failures" "facts" "[[I") (List.mem_of_getElem? (i := 5) rfl)) dX1_add_69 ?_
          refine lv_iconst (v := 1) hx hb dX1_add_72 (by decide) ?_
          refine cr_12_1 hx hb hK hP dX1_add_73 ?_
          refine lv_iload hx hb dX1_add_74 (lv_at hl 0 rfl) ?_
          refine lv_iload_n hx hb dX1_add_76 rfl (lv_at hl 5 rfl) ?_
          refine cs_14 (f := (ψ 3)) hx hb hK hP hI hS (i := (σ 1)) (x := place) (vin rfl (by omega)) rfl dX1_add_77 ?_
          clear hP hS; intro H locs hP hS
          obtain ⟨f_18, ef_18⟩ : ∃ z : Nat → Int32, z = upd (ψ 3) (Int32.toNatClampNeg (σ 1)) place := ⟨_, rfl⟩
          rw [← ef_18] at hP
          refine lv_aload_n hx hb dX1_add_78 rfl (lv_at hl 3 rfl) ?_
          refine cg_3_0 hx hb hts hinX1 hown hK hP (hts (.fieldLink RX1 13 "CensusDesk$Failures" "facts" "[[I") (List.mem_of_getElem? (i := 5) rfl)) dX1_add_79 ?_
          refine lv_iconst (v := 2) hx hb dX1_add_82 (by decide) ?_
          refine cr_12_2 hx hb hK hP dX1_add_83 ?_
          refine lv_iload hx hb dX1_add_84 (lv_at hl 0 rfl) ?_
          refine lv_iload_n hx hb dX1_add_86 rfl (lv_at hl 6 rfl) ?_
          refine cs_15 (f := (ψ 4)) hx hb hK hP hI hS (i := (σ 1)) (x := cause) (vin rfl (by omega)) rfl dX1_add_87 ?_
          clear hP hS; intro H locs hP hS
          obtain ⟨f_19, ef_19⟩ : ∃ z : Nat → Int32, z = upd (ψ 4) (Int32.toNatClampNeg (σ 1)) cause := ⟨_, rfl⟩
          rw [← ef_19] at hP
          refine lv_aload_n hx hb dX1_add_88 rfl (lv_at hl 3 rfl) ?_
          refine cg_3_0 hx hb hts hinX1 hown hK hP (hts (.fieldLink RX1 13 "CensusDesk$Failures" "facts" "[[I") (List.mem_of_getElem? (i := 5) rfl)) dX1_add_89 ?_
          refine lv_iconst (v := 3) hx hb dX1_add_92 (by decide) ?_
          refine cr_12_3 hx hb hK hP dX1_add_93 ?_
          refine lv_iload hx hb dX1_add_94 (lv_at hl 0 rfl) ?_
          refine lv_aload hx hb dX1_add_96 (lv_at hl 1 rfl) ?_
          refine lv_iload hx hb dX1_add_98 (lv_at hl 2 rfl) ?_
          refine cl_20 (f := (ψ 9)) hx hb hK hP (i := z_3) (vin rfl (by omega)) rfl dX1_add_100 ?_
          refine lv_topi (fun z_20 ez_20 => ?_)
          refine cs_16 (f := (ψ 5)) hx hb hK hP hI hS (i := (σ 1)) (x := z_20) (vin rfl (by omega)) rfl dX1_add_101 ?_
          clear hP hS; intro H locs hP hS
          obtain ⟨f_21, ef_21⟩ : ∃ z : Nat → Int32, z = upd (ψ 5) (Int32.toNatClampNeg (σ 1)) z_20 := ⟨_, rfl⟩
          rw [← ef_21] at hP
          refine lv_aload_n hx hb dX1_add_102 rfl (lv_at hl 3 rfl) ?_
          refine cg_3_0 hx hb hts hinX1 hown hK hP (hts (.fieldLink RX1 13 "CensusDesk$Failures" "facts" "[[I") (List.mem_of_getElem? (i := 5) rfl)) dX1_add_103 ?_
          refine lv_iconst (v := 4) hx hb dX1_add_106 (by decide) ?_
          refine cr_12_4 hx hb hK hP dX1_add_107 ?_
          refine lv_iload hx hb dX1_add_108 (lv_at hl 0 rfl) ?_
          refine lv_iload hx hb dX1_add_110 (lv_at hl 7 rfl) ?_
          refine cs_17 (f := (ψ 6)) hx hb hK hP hI hS (i := (σ 1)) (x := way) (vin rfl (by omega)) rfl dX1_add_112 ?_
          clear hP hS; intro H locs hP hS
          obtain ⟨f_22, ef_22⟩ : ∃ z : Nat → Int32, z = upd (ψ 6) (Int32.toNatClampNeg (σ 1)) way := ⟨_, rfl⟩
          rw [← ef_22] at hP
          refine lv_aload hx hb dX1_add_113 (lv_at hl 1 rfl) ?_
          refine lv_iload hx hb dX1_add_115 (lv_at hl 2 rfl) ?_
          refine cl_20 (f := (ψ 9)) hx hb hK hP (i := z_3) (vin rfl (by omega)) rfl dX1_add_117 ?_
          refine lv_topi (fun z_23 ez_23 => ?_)
          refine lv_iconst (v := (-1)) hx hb dX1_add_118 (by decide) ?_
          refine lv_icmp_ne (tgt := 129) hx hb dX1_add_119 (by decide) (fun c_24 => ?_) (fun c_24 => ?_)
          · have kc_24 := bI_ne rfl L_m1 c_24
            refine lv_aload_n hx hb dX1_add_129 rfl (lv_at hl 3 rfl) ?_
            refine cg_3_1 hx hb hts hinX1 hown hK hP (hts (.fieldLink RX1 16 "CensusDesk$Failures" "byKind" "[I") (List.mem_of_getElem? (i := 6) rfl)) dX1_add_130 ?_
            refine lv_iload_n hx hb dX1_add_133 rfl (lv_at hl 4 rfl) ?_
            refine lv_dup2_11 hx hb dX1_add_134 rfl rfl ?_
            refine cl_18 (f := (ψ 7)) hx hb hK hP (i := kind) (vin rfl (by omega)) rfl dX1_add_135 ?_
            refine lv_topi (fun z_25 ez_25 => ?_)
            refine lv_iconst (v := 1) hx hb dX1_add_136 (by decide) ?_
            refine lv_iadd hx hb dX1_add_137 ?_
            refine lv_topi (fun z_26 ez_26 => ?_)
            refine cs_18 (f := (ψ 7)) hx hb hK hP hI hS (i := kind) (x := z_26) (vin rfl (by omega)) rfl dX1_add_138 ?_
            clear hP hS; intro H locs hP hS
            obtain ⟨f_27, ef_27⟩ : ∃ z : Nat → Int32, z = upd (ψ 7) (Int32.toNatClampNeg kind) z_26 := ⟨_, rfl⟩
            rw [← ef_27] at hP
            refine lv_aload_n hx hb dX1_add_139 rfl (lv_at hl 3 rfl) ?_
            refine lv_dup hx hb dX1_add_140 rfl ?_
            refine cg_3_4 (v := (σ 1)) hx hb hts hinX1 hown hK hP (hts (.fieldLink RX1 26 "CensusDesk$Failures" "count" "I") (List.mem_of_getElem? (i := 4) rfl)) rfl dX1_add_141 ?_
            refine lv_iconst (v := 1) hx hb dX1_add_144 (by decide) ?_
            refine lv_iadd hx hb dX1_add_145 ?_
            refine lv_topi (fun z_28 ez_28 => ?_)
            have tz_28 : (Int32.toInt z_28) = (Int32.toInt (σ 1)) + 1 := aI_add rfl L_1 ez_28 (by have := rng (σ 1); omega)
            refine cp_3_4 (v := z_28) hx hb hts hinX1 hown hK hP hI hS (hts (.fieldLink RX1 26 "CensusDesk$Failures" "count" "I") (List.mem_of_getElem? (i := 4) rfl)) dX1_add_146 ?_
            clear hP hS; intro H locs hP hS
            refine lv_iload hx hb dX1_add_149 (lv_at hl 0 rfl) ?_
            exact W.iret (v := (σ 1)) hx hb hr (fun t ht hW => ⟨⟨(σ 1), ((up σ 1 z_28), φ, γ, (up (up (up (up (up (up ψ 2 f_17) 3 f_18) 4 f_19) 5 f_21) 6 f_22) 7 f_27)), rfl, ⟨z_28, rfl, rfl, (show (Int32.toInt (σ 1)) ≤ (Int32.toInt z_28) ∧ (Int32.toInt z_28) ≤ (Int32.toInt (σ 1)) + 1 from (by omega))⟩, (by show va_P _ _ _ _; rw [ht]; exact hP)⟩, hS.F ht⟩) hS.2.2 dX1_add_151
          · have kc_24 := bI_eq rfl L_m1 c_24
            refine lv_aload hx hb dX1_add_122 (lv_at hl 1 rfl) ?_
            refine lv_iload hx hb dX1_add_124 (lv_at hl 2 rfl) ?_
            refine lv_iload hx hb dX1_add_126 (lv_at hl 0 rfl) ?_
            refine cs_20 (f := (ψ 9)) hx hb hK hP hI hS (i := z_3) (x := (σ 1)) (vin rfl (by omega)) rfl dX1_add_128 ?_
            clear hP hS; intro H locs hP hS
            obtain ⟨f_29, ef_29⟩ : ∃ z : Nat → Int32, z = upd (ψ 9) (Int32.toNatClampNeg z_3) (σ 1) := ⟨_, rfl⟩
            rw [← ef_29] at hP
            refine lv_aload_n hx hb dX1_add_129 rfl (lv_at hl 3 rfl) ?_
            refine cg_3_1 hx hb hts hinX1 hown hK hP (hts (.fieldLink RX1 16 "CensusDesk$Failures" "byKind" "[I") (List.mem_of_getElem? (i := 6) rfl)) dX1_add_130 ?_
            refine lv_iload_n hx hb dX1_add_133 rfl (lv_at hl 4 rfl) ?_
            refine lv_dup2_11 hx hb dX1_add_134 rfl rfl ?_
            refine cl_18 (f := (ψ 7)) hx hb hK hP (i := kind) (vin rfl (by omega)) rfl dX1_add_135 ?_
            refine lv_topi (fun z_30 ez_30 => ?_)
            refine lv_iconst (v := 1) hx hb dX1_add_136 (by decide) ?_
            refine lv_iadd hx hb dX1_add_137 ?_
            refine lv_topi (fun z_31 ez_31 => ?_)
            refine cs_18 (f := (ψ 7)) hx hb hK hP hI hS (i := kind) (x := z_31) (vin rfl (by omega)) rfl dX1_add_138 ?_
            clear hP hS; intro H locs hP hS
            obtain ⟨f_32, ef_32⟩ : ∃ z : Nat → Int32, z = upd (ψ 7) (Int32.toNatClampNeg kind) z_31 := ⟨_, rfl⟩
            rw [← ef_32] at hP
            refine lv_aload_n hx hb dX1_add_139 rfl (lv_at hl 3 rfl) ?_
            refine lv_dup hx hb dX1_add_140 rfl ?_
            refine cg_3_4 (v := (σ 1)) hx hb hts hinX1 hown hK hP (hts (.fieldLink RX1 26 "CensusDesk$Failures" "count" "I") (List.mem_of_getElem? (i := 4) rfl)) rfl dX1_add_141 ?_
            refine lv_iconst (v := 1) hx hb dX1_add_144 (by decide) ?_
            refine lv_iadd hx hb dX1_add_145 ?_
            refine lv_topi (fun z_33 ez_33 => ?_)
            have tz_33 : (Int32.toInt z_33) = (Int32.toInt (σ 1)) + 1 := aI_add rfl L_1 ez_33 (by have := rng (σ 1); omega)
            refine cp_3_4 (v := z_33) hx hb hts hinX1 hown hK hP hI hS (hts (.fieldLink RX1 26 "CensusDesk$Failures" "count" "I") (List.mem_of_getElem? (i := 4) rfl)) dX1_add_146 ?_
            clear hP hS; intro H locs hP hS
            refine lv_iload hx hb dX1_add_149 (lv_at hl 0 rfl) ?_
            exact W.iret (v := (σ 1)) hx hb hr (fun t ht hW => ⟨⟨(σ 1), ((up σ 1 z_33), φ, γ, (up (up (up (up (up (up (up ψ 2 f_17) 3 f_18) 4 f_19) 5 f_21) 6 f_22) 9 f_29) 7 f_32)), rfl, ⟨z_33, rfl, rfl, (show (Int32.toInt (σ 1)) ≤ (Int32.toInt z_33) ∧ (Int32.toInt z_33) ≤ (Int32.toInt (σ 1)) + 1 from (by omega))⟩, (by show va_P _ _ _ _; rw [ht]; exact hP)⟩, hS.F ht⟩) hS.2.2 dX1_add_151
      · have kc_4 := bI_ne rfl L_0 c_4
        refine lv_iload hx hb dX1_add_25 (lv_at hl 0 rfl) ?_
        refine lv_iconst (v := 4) hx hb dX1_add_27 (by decide) ?_
        refine lv_icmp_eq (tgt := 38) hx hb dX1_add_28 (by decide) (fun c_34 => ?_) (fun c_34 => ?_)
        · have kc_34 := bI_eq rfl L_4 c_34
          refine lv_aload_n hx hb dX1_add_38 rfl (lv_at hl 1 rfl) ?_
          refine cg_3_3 hx hb hts hinX1 hown hK hP (hts (.fieldLink RX1 23 "CensusDesk$Failures" "firstOutside" "[I") (List.mem_of_getElem? (i := 3) rfl)) dX1_add_39 ?_
          refine lv_astore (lv' := [(7, .ref (a 20)), (6, .int z_3), (0, .ref (a 3)), (1, .int kind), (2, .int place), (3, .int cause), (4, .int way), (5, .int inHousehold)]) hx hb dX1_add_42 hl (by decide) rfl ?_
          clear hl; intro ls hl
          refine lv_aload_n hx hb dX1_add_44 rfl (lv_at hl 2 rfl) ?_
          refine cg_3_4 (v := (σ 1)) hx hb hts hinX1 hown hK hP (hts (.fieldLink RX1 26 "CensusDesk$Failures" "count" "I") (List.mem_of_getElem? (i := 4) rfl)) rfl dX1_add_45 ?_
          refine lv_istore (lv' := [(8, .int (σ 1)), (7, .ref (a 20)), (6, .int z_3), (0, .ref (a 3)), (1, .int kind), (2, .int place), (3, .int cause), (4, .int way), (5, .int inHousehold)]) hx hb dX1_add_48 hl (by decide) rfl ?_
          clear hl; intro ls hl
          refine lv_iload hx hb dX1_add_50 (lv_at hl 0 rfl) ?_
          refine lv_sipush (v := 300) hx hb dX1_add_52 (by decide) ?_
          refine lv_icmp_ge (tgt := 113) hx hb dX1_add_55 (by decide) (fun c_35 => ?_) (fun c_35 => ?_)
          · have kc_35 := bI_le L_300 rfl c_35
            refine lv_aload hx hb dX1_add_113 (lv_at hl 1 rfl) ?_
            refine lv_iload hx hb dX1_add_115 (lv_at hl 2 rfl) ?_
            refine cl_20 (f := (ψ 9)) hx hb hK hP (i := z_3) (vin rfl (by omega)) rfl dX1_add_117 ?_
            refine lv_topi (fun z_36 ez_36 => ?_)
            refine lv_iconst (v := (-1)) hx hb dX1_add_118 (by decide) ?_
            refine lv_icmp_ne (tgt := 129) hx hb dX1_add_119 (by decide) (fun c_37 => ?_) (fun c_37 => ?_)
            · have kc_37 := bI_ne rfl L_m1 c_37
              refine lv_aload_n hx hb dX1_add_129 rfl (lv_at hl 3 rfl) ?_
              refine cg_3_1 hx hb hts hinX1 hown hK hP (hts (.fieldLink RX1 16 "CensusDesk$Failures" "byKind" "[I") (List.mem_of_getElem? (i := 6) rfl)) dX1_add_130 ?_
              refine lv_iload_n hx hb dX1_add_133 rfl (lv_at hl 4 rfl) ?_
              refine lv_dup2_11 hx hb dX1_add_134 rfl rfl ?_
              refine cl_18 (f := (ψ 7)) hx hb hK hP (i := kind) (vin rfl (by omega)) rfl dX1_add_135 ?_
              refine lv_topi (fun z_38 ez_38 => ?_)
              refine lv_iconst (v := 1) hx hb dX1_add_136 (by decide) ?_
              refine lv_iadd hx hb dX1_add_137 ?_
              refine lv_topi (fun z_39 ez_39 => ?_)
              refine cs_18 (f := (ψ 7)) hx hb hK hP hI hS (i := kind) (x := z_39) (vin rfl (by omega)) rfl dX1_add_138 ?_
              clear hP hS; intro H locs hP hS
              obtain ⟨f_40, ef_40⟩ : ∃ z : Nat → Int32, z = upd (ψ 7) (Int32.toNatClampNeg kind) z_39 := ⟨_, rfl⟩
              rw [← ef_40] at hP
              refine lv_aload_n hx hb dX1_add_139 rfl (lv_at hl 3 rfl) ?_
              refine lv_dup hx hb dX1_add_140 rfl ?_
              refine cg_3_4 (v := (σ 1)) hx hb hts hinX1 hown hK hP (hts (.fieldLink RX1 26 "CensusDesk$Failures" "count" "I") (List.mem_of_getElem? (i := 4) rfl)) rfl dX1_add_141 ?_
              refine lv_iconst (v := 1) hx hb dX1_add_144 (by decide) ?_
              refine lv_iadd hx hb dX1_add_145 ?_
              refine lv_topi (fun z_41 ez_41 => ?_)
              have tz_41 : (Int32.toInt z_41) = (Int32.toInt (σ 1)) + 1 := aI_add rfl L_1 ez_41 (by have := rng (σ 1); omega)
              refine cp_3_4 (v := z_41) hx hb hts hinX1 hown hK hP hI hS (hts (.fieldLink RX1 26 "CensusDesk$Failures" "count" "I") (List.mem_of_getElem? (i := 4) rfl)) dX1_add_146 ?_
              clear hP hS; intro H locs hP hS
              refine lv_iload hx hb dX1_add_149 (lv_at hl 0 rfl) ?_
              exact W.iret (v := (σ 1)) hx hb hr (fun t ht hW => ⟨⟨(σ 1), ((up σ 1 z_41), φ, γ, (up ψ 7 f_40)), rfl, ⟨z_41, rfl, rfl, (show (Int32.toInt (σ 1)) ≤ (Int32.toInt z_41) ∧ (Int32.toInt z_41) ≤ (Int32.toInt (σ 1)) + 1 from (by omega))⟩, (by show va_P _ _ _ _; rw [ht]; exact hP)⟩, hS.F ht⟩) hS.2.2 dX1_add_151
            · have kc_37 := bI_eq rfl L_m1 c_37
              refine lv_aload hx hb dX1_add_122 (lv_at hl 1 rfl) ?_
              refine lv_iload hx hb dX1_add_124 (lv_at hl 2 rfl) ?_
              refine lv_iload hx hb dX1_add_126 (lv_at hl 0 rfl) ?_
              refine cs_20 (f := (ψ 9)) hx hb hK hP hI hS (i := z_3) (x := (σ 1)) (vin rfl (by omega)) rfl dX1_add_128 ?_
              clear hP hS; intro H locs hP hS
              obtain ⟨f_42, ef_42⟩ : ∃ z : Nat → Int32, z = upd (ψ 9) (Int32.toNatClampNeg z_3) (σ 1) := ⟨_, rfl⟩
              rw [← ef_42] at hP
              refine lv_aload_n hx hb dX1_add_129 rfl (lv_at hl 3 rfl) ?_
              refine cg_3_1 hx hb hts hinX1 hown hK hP (hts (.fieldLink RX1 16 "CensusDesk$Failures" "byKind" "[I") (List.mem_of_getElem? (i := 6) rfl)) dX1_add_130 ?_
              refine lv_iload_n hx hb dX1_add_133 rfl (lv_at hl 4 rfl) ?_
              refine lv_dup2_11 hx hb dX1_add_134 rfl rfl ?_
              refine cl_18 (f := (ψ 7)) hx hb hK hP (i := kind) (vin rfl (by omega)) rfl dX1_add_135 ?_
              refine lv_topi (fun z_43 ez_43 => ?_)
              refine lv_iconst (v := 1) hx hb dX1_add_136 (by decide) ?_
              refine lv_iadd hx hb dX1_add_137 ?_
              refine lv_topi (fun z_44 ez_44 => ?_)
              refine cs_18 (f := (ψ 7)) hx hb hK hP hI hS (i := kind) (x := z_44) (vin rfl (by omega)) rfl dX1_add_138 ?_
              clear hP hS; intro H locs hP hS
              obtain ⟨f_45, ef_45⟩ : ∃ z : Nat → Int32, z = upd (ψ 7) (Int32.toNatClampNeg kind) z_44 := ⟨_, rfl⟩
              rw [← ef_45] at hP
              refine lv_aload_n hx hb dX1_add_139 rfl (lv_at hl 3 rfl) ?_
              refine lv_dup hx hb dX1_add_140 rfl ?_
              refine cg_3_4 (v := (σ 1)) hx hb hts hinX1 hown hK hP (hts (.fieldLink RX1 26 "CensusDesk$Failures" "count" "I") (List.mem_of_getElem? (i := 4) rfl)) rfl dX1_add_141 ?_
              refine lv_iconst (v := 1) hx hb dX1_add_144 (by decide) ?_
              refine lv_iadd hx hb dX1_add_145 ?_
              refine lv_topi (fun z_46 ez_46 => ?_)
              have tz_46 : (Int32.toInt z_46) = (Int32.toInt (σ 1)) + 1 := aI_add rfl L_1 ez_46 (by have := rng (σ 1); omega)
              refine cp_3_4 (v := z_46) hx hb hts hinX1 hown hK hP hI hS (hts (.fieldLink RX1 26 "CensusDesk$Failures" "count" "I") (List.mem_of_getElem? (i := 4) rfl)) dX1_add_146 ?_
              clear hP hS; intro H locs hP hS
              refine lv_iload hx hb dX1_add_149 (lv_at hl 0 rfl) ?_
              exact W.iret (v := (σ 1)) hx hb hr (fun t ht hW => ⟨⟨(σ 1), ((up σ 1 z_46), φ, γ, (up (up ψ 9 f_42) 7 f_45)), rfl, ⟨z_46, rfl, rfl, (show (Int32.toInt (σ 1)) ≤ (Int32.toInt z_46) ∧ (Int32.toInt z_46) ≤ (Int32.toInt (σ 1)) + 1 from (by omega))⟩, (by show va_P _ _ _ _; rw [ht]; exact hP)⟩, hS.F ht⟩) hS.2.2 dX1_add_151
          · have kc_35 := bI_nle L_300 rfl c_35
            refine lv_aload_n hx hb dX1_add_58 rfl (lv_at hl 3 rfl) ?_
            refine cg_3_0 hx hb hts hinX1 hown hK hP (hts (.fieldLink RX1 13 "CensusDesk$Failures" "facts" "[[I") (List.mem_of_getElem? (i := 5) rfl)) dX1_add_59 ?_
            refine lv_iconst (v := 0) hx hb dX1_add_62 (by decide) ?_
            refine cr_12_0 hx hb hK hP dX1_add_63 ?_
            refine lv_iload hx hb dX1_add_64 (lv_at hl 0 rfl) ?_
            refine lv_iload_n hx hb dX1_add_66 rfl (lv_at hl 4 rfl) ?_
            refine cs_13 (f := (ψ 2)) hx hb hK hP hI hS (i := (σ 1)) (x := kind) (vin rfl (by omega)) rfl dX1_add_67 ?_
            clear hP hS; intro H locs hP hS
            obtain ⟨f_47, ef_47⟩ : ∃ z : Nat → Int32, z = upd (ψ 2) (Int32.toNatClampNeg (σ 1)) kind := ⟨_, rfl⟩
            rw [← ef_47] at hP
            refine lv_aload_n hx hb dX1_add_68 rfl (lv_at hl 3 rfl) ?_
            refine cg_3_0 hx hb hts hinX1 hown hK hP (hts (.fieldLink RX1 13 "CensusDesk$Failures" "facts" "[[I") (List.mem_of_getElem? (i := 5) rfl)) dX1_add_69 ?_
            refine lv_iconst (v := 1) hx hb dX1_add_72 (by decide) ?_
            refine cr_12_1 hx hb hK hP dX1_add_73 ?_
            refine lv_iload hx hb dX1_add_74 (lv_at hl 0 rfl) ?_
            refine lv_iload_n hx hb dX1_add_76 rfl (lv_at hl 5 rfl) ?_
            refine cs_14 (f := (ψ 3)) hx hb hK hP hI hS (i := (σ 1)) (x := place) (vin rfl (by omega)) rfl dX1_add_77 ?_
            clear hP hS; intro H locs hP hS
            obtain ⟨f_48, ef_48⟩ : ∃ z : Nat → Int32, z = upd (ψ 3) (Int32.toNatClampNeg (σ 1)) place := ⟨_, rfl⟩
            rw [← ef_48] at hP
            refine lv_aload_n hx hb dX1_add_78 rfl (lv_at hl 3 rfl) ?_
            refine cg_3_0 hx hb hts hinX1 hown hK hP (hts (.fieldLink RX1 13 "CensusDesk$Failures" "facts" "[[I") (List.mem_of_getElem? (i := 5) rfl)) dX1_add_79 ?_
            refine lv_iconst (v := 2) hx hb dX1_add_82 (by decide) ?_
            refine cr_12_2 hx hb hK hP dX1_add_83 ?_
            refine lv_iload hx hb dX1_add_84 (lv_at hl 0 rfl) ?_
            refine lv_iload_n hx hb dX1_add_86 rfl (lv_at hl 6 rfl) ?_
            refine cs_15 (f := (ψ 4)) hx hb hK hP hI hS (i := (σ 1)) (x := cause) (vin rfl (by omega)) rfl dX1_add_87 ?_
            clear hP hS; intro H locs hP hS
            obtain ⟨f_49, ef_49⟩ : ∃ z : Nat → Int32, z = upd (ψ 4) (Int32.toNatClampNeg (σ 1)) cause := ⟨_, rfl⟩
            rw [← ef_49] at hP
            refine lv_aload_n hx hb dX1_add_88 rfl (lv_at hl 3 rfl) ?_
            refine cg_3_0 hx hb hts hinX1 hown hK hP (hts (.fieldLink RX1 13 "CensusDesk$Failures" "facts" "[[I") (List.mem_of_getElem? (i := 5) rfl)) dX1_add_89 ?_
            refine lv_iconst (v := 3) hx hb dX1_add_92 (by decide) ?_
            refine cr_12_3 hx hb hK hP dX1_add_93 ?_
            refine lv_iload hx hb dX1_add_94 (lv_at hl 0 rfl) ?_
            refine lv_aload hx hb dX1_add_96 (lv_at hl 1 rfl) ?_
            refine lv_iload hx hb dX1_add_98 (lv_at hl 2 rfl) ?_
            refine cl_20 (f := (ψ 9)) hx hb hK hP (i := z_3) (vin rfl (by omega)) rfl dX1_add_100 ?_
            refine lv_topi (fun z_50 ez_50 => ?_)
            refine cs_16 (f := (ψ 5)) hx hb hK hP hI hS (i := (σ 1)) (x := z_50) (vin rfl (by omega)) rfl dX1_add_101 ?_
            clear hP hS; intro H locs hP hS
            obtain ⟨f_51, ef_51⟩ : ∃ z : Nat → Int32, z = upd (ψ 5) (Int32.toNatClampNeg (σ 1)) z_50 := ⟨_, rfl⟩
            rw [← ef_51] at hP
            refine lv_aload_n hx hb dX1_add_102 rfl (lv_at hl 3 rfl) ?_
            refine cg_3_0 hx hb hts hinX1 hown hK hP (hts (.fieldLink RX1 13 "CensusDesk$Failures" "facts" "[[I") (List.mem_of_getElem? (i := 5) rfl)) dX1_add_103 ?_
            refine lv_iconst (v := 4) hx hb dX1_add_106 (by decide) ?_
            refine cr_12_4 hx hb hK hP dX1_add_107 ?_
            refine lv_iload hx hb dX1_add_108 (lv_at hl 0 rfl) ?_
            refine lv_iload hx hb dX1_add_110 (lv_at hl 7 rfl) ?_
            refine cs_17 (f := (ψ 6)) hx hb hK hP hI hS (i := (σ 1)) (x := way) (vin rfl (by omega)) rfl dX1_add_112 ?_
            clear hP hS; intro H locs hP hS
            obtain ⟨f_52, ef_52⟩ : ∃ z : Nat → Int32, z = upd (ψ 6) (Int32.toNatClampNeg (σ 1)) way := ⟨_, rfl⟩
            rw [← ef_52] at hP
            refine lv_aload hx hb dX1_add_113 (lv_at hl 1 rfl) ?_
            refine lv_iload hx hb dX1_add_115 (lv_at hl 2 rfl) ?_
            refine cl_20 (f := (ψ 9)) hx hb hK hP (i := z_3) (vin rfl (by omega)) rfl dX1_add_117 ?_
            refine lv_topi (fun z_53 ez_53 => ?_)
            refine lv_iconst (v := (-1)) hx hb dX1_add_118 (by decide) ?_
            refine lv_icmp_ne (tgt := 129) hx hb dX1_add_119 (by decide) (fun c_54 => ?_) (fun c_54 => ?_)
            · have kc_54 := bI_ne rfl L_m1 c_54
              refine lv_aload_n hx hb dX1_add_129 rfl (lv_at hl 3 rfl) ?_
              refine cg_3_1 hx hb hts hinX1 hown hK hP (hts (.fieldLink RX1 16 "CensusDesk$Failures" "byKind" "[I") (List.mem_of_getElem? (i := 6) rfl)) dX1_add_130 ?_
              refine lv_iload_n hx hb dX1_add_133 rfl (lv_at hl 4 rfl) ?_
              refine lv_dup2_11 hx hb dX1_add_134 rfl rfl ?_
              refine cl_18 (f := (ψ 7)) hx hb hK hP (i := kind) (vin rfl (by omega)) rfl dX1_add_135 ?_
              refine lv_topi (fun z_55 ez_55 => ?_)
              refine lv_iconst (v := 1) hx hb dX1_add_136 (by decide) ?_
              refine lv_iadd hx hb dX1_add_137 ?_
              refine lv_topi (fun z_56 ez_56 => ?_)
              refine cs_18 (f := (ψ 7)) hx hb hK hP hI hS (i := kind) (x := z_56) (vin rfl (by omega)) rfl dX1_add_138 ?_
              clear hP hS; intro H locs hP hS
              obtain ⟨f_57, ef_57⟩ : ∃ z : Nat → Int32, z = upd (ψ 7) (Int32.toNatClampNeg kind) z_56 := ⟨_, rfl⟩
              rw [← ef_57] at hP
              refine lv_aload_n hx hb dX1_add_139 rfl (lv_at hl 3 rfl) ?_
              refine lv_dup hx hb dX1_add_140 rfl ?_
              refine cg_3_4 (v := (σ 1)) hx hb hts hinX1 hown hK hP (hts (.fieldLink RX1 26 "CensusDesk$Failures" "count" "I") (List.mem_of_getElem? (i := 4) rfl)) rfl dX1_add_141 ?_
              refine lv_iconst (v := 1) hx hb dX1_add_144 (by decide) ?_
              refine lv_iadd hx hb dX1_add_145 ?_
              refine lv_topi (fun z_58 ez_58 => ?_)
              have tz_58 : (Int32.toInt z_58) = (Int32.toInt (σ 1)) + 1 := aI_add rfl L_1 ez_58 (by have := rng (σ 1); omega)
              refine cp_3_4 (v := z_58) hx hb hts hinX1 hown hK hP hI hS (hts (.fieldLink RX1 26 "CensusDesk$Failures" "count" "I") (List.mem_of_getElem? (i := 4) rfl)) dX1_add_146 ?_
              clear hP hS; intro H locs hP hS
              refine lv_iload hx hb dX1_add_149 (lv_at hl 0 rfl) ?_
              exact W.iret (v := (σ 1)) hx hb hr (fun t ht hW => ⟨⟨(σ 1), ((up σ 1 z_58), φ, γ, (up (up (up (up (up (up ψ 2 f_47) 3 f_48) 4 f_49) 5 f_51) 6 f_52) 7 f_57)), rfl, ⟨z_58, rfl, rfl, (show (Int32.toInt (σ 1)) ≤ (Int32.toInt z_58) ∧ (Int32.toInt z_58) ≤ (Int32.toInt (σ 1)) + 1 from (by omega))⟩, (by show va_P _ _ _ _; rw [ht]; exact hP)⟩, hS.F ht⟩) hS.2.2 dX1_add_151
            · have kc_54 := bI_eq rfl L_m1 c_54
              refine lv_aload hx hb dX1_add_122 (lv_at hl 1 rfl) ?_
              refine lv_iload hx hb dX1_add_124 (lv_at hl 2 rfl) ?_
              refine lv_iload hx hb dX1_add_126 (lv_at hl 0 rfl) ?_
              refine cs_20 (f := (ψ 9)) hx hb hK hP hI hS (i := z_3) (x := (σ 1)) (vin rfl (by omega)) rfl dX1_add_128 ?_
              clear hP hS; intro H locs hP hS
              obtain ⟨f_59, ef_59⟩ : ∃ z : Nat → Int32, z = upd (ψ 9) (Int32.toNatClampNeg z_3) (σ 1) := ⟨_, rfl⟩
              rw [← ef_59] at hP
              refine lv_aload_n hx hb dX1_add_129 rfl (lv_at hl 3 rfl) ?_
              refine cg_3_1 hx hb hts hinX1 hown hK hP (hts (.fieldLink RX1 16 "CensusDesk$Failures" "byKind" "[I") (List.mem_of_getElem? (i := 6) rfl)) dX1_add_130 ?_
              refine lv_iload_n hx hb dX1_add_133 rfl (lv_at hl 4 rfl) ?_
              refine lv_dup2_11 hx hb dX1_add_134 rfl rfl ?_
              refine cl_18 (f := (ψ 7)) hx hb hK hP (i := kind) (vin rfl (by omega)) rfl dX1_add_135 ?_
              refine lv_topi (fun z_60 ez_60 => ?_)
              refine lv_iconst (v := 1) hx hb dX1_add_136 (by decide) ?_
              refine lv_iadd hx hb dX1_add_137 ?_
              refine lv_topi (fun z_61 ez_61 => ?_)
              refine cs_18 (f := (ψ 7)) hx hb hK hP hI hS (i := kind) (x := z_61) (vin rfl (by omega)) rfl dX1_add_138 ?_
              clear hP hS; intro H locs hP hS
              obtain ⟨f_62, ef_62⟩ : ∃ z : Nat → Int32, z = upd (ψ 7) (Int32.toNatClampNeg kind) z_61 := ⟨_, rfl⟩
              rw [← ef_62] at hP
              refine lv_aload_n hx hb dX1_add_139 rfl (lv_at hl 3 rfl) ?_
              refine lv_dup hx hb dX1_add_140 rfl ?_
              refine cg_3_4 (v := (σ 1)) hx hb hts hinX1 hown hK hP (hts (.fieldLink RX1 26 "CensusDesk$Failures" "count" "I") (List.mem_of_getElem? (i := 4) rfl)) rfl dX1_add_141 ?_
              refine lv_iconst (v := 1) hx hb dX1_add_144 (by decide) ?_
              refine lv_iadd hx hb dX1_add_145 ?_
              refine lv_topi (fun z_63 ez_63 => ?_)
              have tz_63 : (Int32.toInt z_63) = (Int32.toInt (σ 1)) + 1 := aI_add rfl L_1 ez_63 (by have := rng (σ 1); omega)
              refine cp_3_4 (v := z_63) hx hb hts hinX1 hown hK hP hI hS (hts (.fieldLink RX1 26 "CensusDesk$Failures" "count" "I") (List.mem_of_getElem? (i := 4) rfl)) dX1_add_146 ?_
              clear hP hS; intro H locs hP hS
              refine lv_iload hx hb dX1_add_149 (lv_at hl 0 rfl) ?_
              exact W.iret (v := (σ 1)) hx hb hr (fun t ht hW => ⟨⟨(σ 1), ((up σ 1 z_63), φ, γ, (up (up (up (up (up (up (up ψ 2 f_47) 3 f_48) 4 f_49) 5 f_51) 6 f_52) 9 f_59) 7 f_62)), rfl, ⟨z_63, rfl, rfl, (show (Int32.toInt (σ 1)) ≤ (Int32.toInt z_63) ∧ (Int32.toInt z_63) ≤ (Int32.toInt (σ 1)) + 1 from (by omega))⟩, (by show va_P _ _ _ _; rw [ht]; exact hP)⟩, hS.F ht⟩) hS.2.2 dX1_add_151
        · have kc_34 := bI_ne rfl L_4 c_34
          refine lv_aload_n hx hb dX1_add_31 rfl (lv_at hl 1 rfl) ?_
          refine cg_3_2 hx hb hts hinX1 hown hK hP (hts (.fieldLink RX1 20 "CensusDesk$Failures" "firstInHousehold" "[I") (List.mem_of_getElem? (i := 2) rfl)) dX1_add_32 ?_
          refine lv_goto (tgt := 42) hx hb dX1_add_35 (by decide) ?_
          refine lv_astore (lv' := [(7, .ref (a 19)), (6, .int z_3), (0, .ref (a 3)), (1, .int kind), (2, .int place), (3, .int cause), (4, .int way), (5, .int inHousehold)]) hx hb dX1_add_42 hl (by decide) rfl ?_
          clear hl; intro ls hl
          refine lv_aload_n hx hb dX1_add_44 rfl (lv_at hl 2 rfl) ?_
          refine cg_3_4 (v := (σ 1)) hx hb hts hinX1 hown hK hP (hts (.fieldLink RX1 26 "CensusDesk$Failures" "count" "I") (List.mem_of_getElem? (i := 4) rfl)) rfl dX1_add_45 ?_
          refine lv_istore (lv' := [(8, .int (σ 1)), (7, .ref (a 19)), (6, .int z_3), (0, .ref (a 3)), (1, .int kind), (2, .int place), (3, .int cause), (4, .int way), (5, .int inHousehold)]) hx hb dX1_add_48 hl (by decide) rfl ?_
          clear hl; intro ls hl
          refine lv_iload hx hb dX1_add_50 (lv_at hl 0 rfl) ?_
          refine lv_sipush (v := 300) hx hb dX1_add_52 (by decide) ?_
          refine lv_icmp_ge (tgt := 113) hx hb dX1_add_55 (by decide) (fun c_64 => ?_) (fun c_64 => ?_)
          · have kc_64 := bI_le L_300 rfl c_64
            refine lv_aload hx hb dX1_add_113 (lv_at hl 1 rfl) ?_
            refine lv_iload hx hb dX1_add_115 (lv_at hl 2 rfl) ?_
            refine cl_19 (f := (ψ 8)) hx hb hK hP (i := z_3) (vin rfl (by omega)) rfl dX1_add_117 ?_
            refine lv_topi (fun z_65 ez_65 => ?_)
            refine lv_iconst (v := (-1)) hx hb dX1_add_118 (by decide) ?_
            refine lv_icmp_ne (tgt := 129) hx hb dX1_add_119 (by decide) (fun c_66 => ?_) (fun c_66 => ?_)
            · have kc_66 := bI_ne rfl L_m1 c_66
              refine lv_aload_n hx hb dX1_add_129 rfl (lv_at hl 3 rfl) ?_
              refine cg_3_1 hx hb hts hinX1 hown hK hP (hts (.fieldLink RX1 16 "CensusDesk$Failures" "byKind" "[I") (List.mem_of_getElem? (i := 6) rfl)) dX1_add_130 ?_
              refine lv_iload_n hx hb dX1_add_133 rfl (lv_at hl 4 rfl) ?_
              refine lv_dup2_11 hx hb dX1_add_134 rfl rfl ?_
              refine cl_18 (f := (ψ 7)) hx hb hK hP (i := kind) (vin rfl (by omega)) rfl dX1_add_135 ?_
              refine lv_topi (fun z_67 ez_67 => ?_)
              refine lv_iconst (v := 1) hx hb dX1_add_136 (by decide) ?_
              refine lv_iadd hx hb dX1_add_137 ?_
              refine lv_topi (fun z_68 ez_68 => ?_)
              refine cs_18 (f := (ψ 7)) hx hb hK hP hI hS (i := kind) (x := z_68) (vin rfl (by omega)) rfl dX1_add_138 ?_
              clear hP hS; intro H locs hP hS
              obtain ⟨f_69, ef_69⟩ : ∃ z : Nat → Int32, z = upd (ψ 7) (Int32.toNatClampNeg kind) z_68 := ⟨_, rfl⟩
              rw [← ef_69] at hP
              refine lv_aload_n hx hb dX1_add_139 rfl (lv_at hl 3 rfl) ?_
              refine lv_dup hx hb dX1_add_140 rfl ?_
              refine cg_3_4 (v := (σ 1)) hx hb hts hinX1 hown hK hP (hts (.fieldLink RX1 26 "CensusDesk$Failures" "count" "I") (List.mem_of_getElem? (i := 4) rfl)) rfl dX1_add_141 ?_
              refine lv_iconst (v := 1) hx hb dX1_add_144 (by decide) ?_
              refine lv_iadd hx hb dX1_add_145 ?_
              refine lv_topi (fun z_70 ez_70 => ?_)
              have tz_70 : (Int32.toInt z_70) = (Int32.toInt (σ 1)) + 1 := aI_add rfl L_1 ez_70 (by have := rng (σ 1); omega)
              refine cp_3_4 (v := z_70) hx hb hts hinX1 hown hK hP hI hS (hts (.fieldLink RX1 26 "CensusDesk$Failures" "count" "I") (List.mem_of_getElem? (i := 4) rfl)) dX1_add_146 ?_
              clear hP hS; intro H locs hP hS
              refine lv_iload hx hb dX1_add_149 (lv_at hl 0 rfl) ?_
              exact W.iret (v := (σ 1)) hx hb hr (fun t ht hW => ⟨⟨(σ 1), ((up σ 1 z_70), φ, γ, (up ψ 7 f_69)), rfl, ⟨z_70, rfl, rfl, (show (Int32.toInt (σ 1)) ≤ (Int32.toInt z_70) ∧ (Int32.toInt z_70) ≤ (Int32.toInt (σ 1)) + 1 from (by omega))⟩, (by show va_P _ _ _ _; rw [ht]; exact hP)⟩, hS.F ht⟩) hS.2.2 dX1_add_151
            · have kc_66 := bI_eq rfl L_m1 c_66
              refine lv_aload hx hb dX1_add_122 (lv_at hl 1 rfl) ?_
              refine lv_iload hx hb dX1_add_124 (lv_at hl 2 rfl) ?_
              refine lv_iload hx hb dX1_add_126 (lv_at hl 0 rfl) ?_
              refine cs_19 (f := (ψ 8)) hx hb hK hP hI hS (i := z_3) (x := (σ 1)) (vin rfl (by omega)) rfl dX1_add_128 ?_
              clear hP hS; intro H locs hP hS
              obtain ⟨f_71, ef_71⟩ : ∃ z : Nat → Int32, z = upd (ψ 8) (Int32.toNatClampNeg z_3) (σ 1) := ⟨_, rfl⟩
              rw [← ef_71] at hP
              refine lv_aload_n hx hb dX1_add_129 rfl (lv_at hl 3 rfl) ?_
              refine cg_3_1 hx hb hts hinX1 hown hK hP (hts (.fieldLink RX1 16 "CensusDesk$Failures" "byKind" "[I") (List.mem_of_getElem? (i := 6) rfl)) dX1_add_130 ?_
              refine lv_iload_n hx hb dX1_add_133 rfl (lv_at hl 4 rfl) ?_
              refine lv_dup2_11 hx hb dX1_add_134 rfl rfl ?_
              refine cl_18 (f := (ψ 7)) hx hb hK hP (i := kind) (vin rfl (by omega)) rfl dX1_add_135 ?_
              refine lv_topi (fun z_72 ez_72 => ?_)
              refine lv_iconst (v := 1) hx hb dX1_add_136 (by decide) ?_
              refine lv_iadd hx hb dX1_add_137 ?_
              refine lv_topi (fun z_73 ez_73 => ?_)
              refine cs_18 (f := (ψ 7)) hx hb hK hP hI hS (i := kind) (x := z_73) (vin rfl (by omega)) rfl dX1_add_138 ?_
              clear hP hS; intro H locs hP hS
              obtain ⟨f_74, ef_74⟩ : ∃ z : Nat → Int32, z = upd (ψ 7) (Int32.toNatClampNeg kind) z_73 := ⟨_, rfl⟩
              rw [← ef_74] at hP
              refine lv_aload_n hx hb dX1_add_139 rfl (lv_at hl 3 rfl) ?_
              refine lv_dup hx hb dX1_add_140 rfl ?_
              refine cg_3_4 (v := (σ 1)) hx hb hts hinX1 hown hK hP (hts (.fieldLink RX1 26 "CensusDesk$Failures" "count" "I") (List.mem_of_getElem? (i := 4) rfl)) rfl dX1_add_141 ?_
              refine lv_iconst (v := 1) hx hb dX1_add_144 (by decide) ?_
              refine lv_iadd hx hb dX1_add_145 ?_
              refine lv_topi (fun z_75 ez_75 => ?_)
              have tz_75 : (Int32.toInt z_75) = (Int32.toInt (σ 1)) + 1 := aI_add rfl L_1 ez_75 (by have := rng (σ 1); omega)
              refine cp_3_4 (v := z_75) hx hb hts hinX1 hown hK hP hI hS (hts (.fieldLink RX1 26 "CensusDesk$Failures" "count" "I") (List.mem_of_getElem? (i := 4) rfl)) dX1_add_146 ?_
              clear hP hS; intro H locs hP hS
              refine lv_iload hx hb dX1_add_149 (lv_at hl 0 rfl) ?_
              exact W.iret (v := (σ 1)) hx hb hr (fun t ht hW => ⟨⟨(σ 1), ((up σ 1 z_75), φ, γ, (up (up ψ 8 f_71) 7 f_74)), rfl, ⟨z_75, rfl, rfl, (show (Int32.toInt (σ 1)) ≤ (Int32.toInt z_75) ∧ (Int32.toInt z_75) ≤ (Int32.toInt (σ 1)) + 1 from (by omega))⟩, (by show va_P _ _ _ _; rw [ht]; exact hP)⟩, hS.F ht⟩) hS.2.2 dX1_add_151
          · have kc_64 := bI_nle L_300 rfl c_64
            refine lv_aload_n hx hb dX1_add_58 rfl (lv_at hl 3 rfl) ?_
            refine cg_3_0 hx hb hts hinX1 hown hK hP (hts (.fieldLink RX1 13 "CensusDesk$Failures" "facts" "[[I") (List.mem_of_getElem? (i := 5) rfl)) dX1_add_59 ?_
            refine lv_iconst (v := 0) hx hb dX1_add_62 (by decide) ?_
            refine cr_12_0 hx hb hK hP dX1_add_63 ?_
            refine lv_iload hx hb dX1_add_64 (lv_at hl 0 rfl) ?_
            refine lv_iload_n hx hb dX1_add_66 rfl (lv_at hl 4 rfl) ?_
            refine cs_13 (f := (ψ 2)) hx hb hK hP hI hS (i := (σ 1)) (x := kind) (vin rfl (by omega)) rfl dX1_add_67 ?_
            clear hP hS; intro H locs hP hS
            obtain ⟨f_76, ef_76⟩ : ∃ z : Nat → Int32, z = upd (ψ 2) (Int32.toNatClampNeg (σ 1)) kind := ⟨_, rfl⟩
            rw [← ef_76] at hP
            refine lv_aload_n hx hb dX1_add_68 rfl (lv_at hl 3 rfl) ?_
            refine cg_3_0 hx hb hts hinX1 hown hK hP (hts (.fieldLink RX1 13 "CensusDesk$Failures" "facts" "[[I") (List.mem_of_getElem? (i := 5) rfl)) dX1_add_69 ?_
            refine lv_iconst (v := 1) hx hb dX1_add_72 (by decide) ?_
            refine cr_12_1 hx hb hK hP dX1_add_73 ?_
            refine lv_iload hx hb dX1_add_74 (lv_at hl 0 rfl) ?_
            refine lv_iload_n hx hb dX1_add_76 rfl (lv_at hl 5 rfl) ?_
            refine cs_14 (f := (ψ 3)) hx hb hK hP hI hS (i := (σ 1)) (x := place) (vin rfl (by omega)) rfl dX1_add_77 ?_
            clear hP hS; intro H locs hP hS
            obtain ⟨f_77, ef_77⟩ : ∃ z : Nat → Int32, z = upd (ψ 3) (Int32.toNatClampNeg (σ 1)) place := ⟨_, rfl⟩
            rw [← ef_77] at hP
            refine lv_aload_n hx hb dX1_add_78 rfl (lv_at hl 3 rfl) ?_
            refine cg_3_0 hx hb hts hinX1 hown hK hP (hts (.fieldLink RX1 13 "CensusDesk$Failures" "facts" "[[I") (List.mem_of_getElem? (i := 5) rfl)) dX1_add_79 ?_
            refine lv_iconst (v := 2) hx hb dX1_add_82 (by decide) ?_
            refine cr_12_2 hx hb hK hP dX1_add_83 ?_
            refine lv_iload hx hb dX1_add_84 (lv_at hl 0 rfl) ?_
            refine lv_iload_n hx hb dX1_add_86 rfl (lv_at hl 6 rfl) ?_
            refine cs_15 (f := (ψ 4)) hx hb hK hP hI hS (i := (σ 1)) (x := cause) (vin rfl (by omega)) rfl dX1_add_87 ?_
            clear hP hS; intro H locs hP hS
            obtain ⟨f_78, ef_78⟩ : ∃ z : Nat → Int32, z = upd (ψ 4) (Int32.toNatClampNeg (σ 1)) cause := ⟨_, rfl⟩
            rw [← ef_78] at hP
            refine lv_aload_n hx hb dX1_add_88 rfl (lv_at hl 3 rfl) ?_
            refine cg_3_0 hx hb hts hinX1 hown hK hP (hts (.fieldLink RX1 13 "CensusDesk$Failures" "facts" "[[I") (List.mem_of_getElem? (i := 5) rfl)) dX1_add_89 ?_
            refine lv_iconst (v := 3) hx hb dX1_add_92 (by decide) ?_
            refine cr_12_3 hx hb hK hP dX1_add_93 ?_
            refine lv_iload hx hb dX1_add_94 (lv_at hl 0 rfl) ?_
            refine lv_aload hx hb dX1_add_96 (lv_at hl 1 rfl) ?_
            refine lv_iload hx hb dX1_add_98 (lv_at hl 2 rfl) ?_
            refine cl_19 (f := (ψ 8)) hx hb hK hP (i := z_3) (vin rfl (by omega)) rfl dX1_add_100 ?_
            refine lv_topi (fun z_79 ez_79 => ?_)
            refine cs_16 (f := (ψ 5)) hx hb hK hP hI hS (i := (σ 1)) (x := z_79) (vin rfl (by omega)) rfl dX1_add_101 ?_
            clear hP hS; intro H locs hP hS
            obtain ⟨f_80, ef_80⟩ : ∃ z : Nat → Int32, z = upd (ψ 5) (Int32.toNatClampNeg (σ 1)) z_79 := ⟨_, rfl⟩
            rw [← ef_80] at hP
            refine lv_aload_n hx hb dX1_add_102 rfl (lv_at hl 3 rfl) ?_
            refine cg_3_0 hx hb hts hinX1 hown hK hP (hts (.fieldLink RX1 13 "CensusDesk$Failures" "facts" "[[I") (List.mem_of_getElem? (i := 5) rfl)) dX1_add_103 ?_
            refine lv_iconst (v := 4) hx hb dX1_add_106 (by decide) ?_
            refine cr_12_4 hx hb hK hP dX1_add_107 ?_
            refine lv_iload hx hb dX1_add_108 (lv_at hl 0 rfl) ?_
            refine lv_iload hx hb dX1_add_110 (lv_at hl 7 rfl) ?_
            refine cs_17 (f := (ψ 6)) hx hb hK hP hI hS (i := (σ 1)) (x := way) (vin rfl (by omega)) rfl dX1_add_112 ?_
            clear hP hS; intro H locs hP hS
            obtain ⟨f_81, ef_81⟩ : ∃ z : Nat → Int32, z = upd (ψ 6) (Int32.toNatClampNeg (σ 1)) way := ⟨_, rfl⟩
            rw [← ef_81] at hP
            refine lv_aload hx hb dX1_add_113 (lv_at hl 1 rfl) ?_
            refine lv_iload hx hb dX1_add_115 (lv_at hl 2 rfl) ?_
            refine cl_19 (f := (ψ 8)) hx hb hK hP (i := z_3) (vin rfl (by omega)) rfl dX1_add_117 ?_
            refine lv_topi (fun z_82 ez_82 => ?_)
            refine lv_iconst (v := (-1)) hx hb dX1_add_118 (by decide) ?_
            refine lv_icmp_ne (tgt := 129) hx hb dX1_add_119 (by decide) (fun c_83 => ?_) (fun c_83 => ?_)
            · have kc_83 := bI_ne rfl L_m1 c_83
              refine lv_aload_n hx hb dX1_add_129 rfl (lv_at hl 3 rfl) ?_
              refine cg_3_1 hx hb hts hinX1 hown hK hP (hts (.fieldLink RX1 16 "CensusDesk$Failures" "byKind" "[I") (List.mem_of_getElem? (i := 6) rfl)) dX1_add_130 ?_
              refine lv_iload_n hx hb dX1_add_133 rfl (lv_at hl 4 rfl) ?_
              refine lv_dup2_11 hx hb dX1_add_134 rfl rfl ?_
              refine cl_18 (f := (ψ 7)) hx hb hK hP (i := kind) (vin rfl (by omega)) rfl dX1_add_135 ?_
              refine lv_topi (fun z_84 ez_84 => ?_)
              refine lv_iconst (v := 1) hx hb dX1_add_136 (by decide) ?_
              refine lv_iadd hx hb dX1_add_137 ?_
              refine lv_topi (fun z_85 ez_85 => ?_)
              refine cs_18 (f := (ψ 7)) hx hb hK hP hI hS (i := kind) (x := z_85) (vin rfl (by omega)) rfl dX1_add_138 ?_
              clear hP hS; intro H locs hP hS
              obtain ⟨f_86, ef_86⟩ : ∃ z : Nat → Int32, z = upd (ψ 7) (Int32.toNatClampNeg kind) z_85 := ⟨_, rfl⟩
              rw [← ef_86] at hP
              refine lv_aload_n hx hb dX1_add_139 rfl (lv_at hl 3 rfl) ?_
              refine lv_dup hx hb dX1_add_140 rfl ?_
              refine cg_3_4 (v := (σ 1)) hx hb hts hinX1 hown hK hP (hts (.fieldLink RX1 26 "CensusDesk$Failures" "count" "I") (List.mem_of_getElem? (i := 4) rfl)) rfl dX1_add_141 ?_
              refine lv_iconst (v := 1) hx hb dX1_add_144 (by decide) ?_
              refine lv_iadd hx hb dX1_add_145 ?_
              refine lv_topi (fun z_87 ez_87 => ?_)
              have tz_87 : (Int32.toInt z_87) = (Int32.toInt (σ 1)) + 1 := aI_add rfl L_1 ez_87 (by have := rng (σ 1); omega)
              refine cp_3_4 (v := z_87) hx hb hts hinX1 hown hK hP hI hS (hts (.fieldLink RX1 26 "CensusDesk$Failures" "count" "I") (List.mem_of_getElem? (i := 4) rfl)) dX1_add_146 ?_
              clear hP hS; intro H locs hP hS
              refine lv_iload hx hb dX1_add_149 (lv_at hl 0 rfl) ?_
              exact W.iret (v := (σ 1)) hx hb hr (fun t ht hW => ⟨⟨(σ 1), ((up σ 1 z_87), φ, γ, (up (up (up (up (up (up ψ 2 f_76) 3 f_77) 4 f_78) 5 f_80) 6 f_81) 7 f_86)), rfl, ⟨z_87, rfl, rfl, (show (Int32.toInt (σ 1)) ≤ (Int32.toInt z_87) ∧ (Int32.toInt z_87) ≤ (Int32.toInt (σ 1)) + 1 from (by omega))⟩, (by show va_P _ _ _ _; rw [ht]; exact hP)⟩, hS.F ht⟩) hS.2.2 dX1_add_151
            · have kc_83 := bI_eq rfl L_m1 c_83
              refine lv_aload hx hb dX1_add_122 (lv_at hl 1 rfl) ?_
              refine lv_iload hx hb dX1_add_124 (lv_at hl 2 rfl) ?_
              refine lv_iload hx hb dX1_add_126 (lv_at hl 0 rfl) ?_
              refine cs_19 (f := (ψ 8)) hx hb hK hP hI hS (i := z_3) (x := (σ 1)) (vin rfl (by omega)) rfl dX1_add_128 ?_
              clear hP hS; intro H locs hP hS
              obtain ⟨f_88, ef_88⟩ : ∃ z : Nat → Int32, z = upd (ψ 8) (Int32.toNatClampNeg z_3) (σ 1) := ⟨_, rfl⟩
              rw [← ef_88] at hP
              refine lv_aload_n hx hb dX1_add_129 rfl (lv_at hl 3 rfl) ?_
              refine cg_3_1 hx hb hts hinX1 hown hK hP (hts (.fieldLink RX1 16 "CensusDesk$Failures" "byKind" "[I") (List.mem_of_getElem? (i := 6) rfl)) dX1_add_130 ?_
              refine lv_iload_n hx hb dX1_add_133 rfl (lv_at hl 4 rfl) ?_
              refine lv_dup2_11 hx hb dX1_add_134 rfl rfl ?_
              refine cl_18 (f := (ψ 7)) hx hb hK hP (i := kind) (vin rfl (by omega)) rfl dX1_add_135 ?_
              refine lv_topi (fun z_89 ez_89 => ?_)
              refine lv_iconst (v := 1) hx hb dX1_add_136 (by decide) ?_
              refine lv_iadd hx hb dX1_add_137 ?_
              refine lv_topi (fun z_90 ez_90 => ?_)
              refine cs_18 (f := (ψ 7)) hx hb hK hP hI hS (i := kind) (x := z_90) (vin rfl (by omega)) rfl dX1_add_138 ?_
              clear hP hS; intro H locs hP hS
              obtain ⟨f_91, ef_91⟩ : ∃ z : Nat → Int32, z = upd (ψ 7) (Int32.toNatClampNeg kind) z_90 := ⟨_, rfl⟩
              rw [← ef_91] at hP
              refine lv_aload_n hx hb dX1_add_139 rfl (lv_at hl 3 rfl) ?_
              refine lv_dup hx hb dX1_add_140 rfl ?_
              refine cg_3_4 (v := (σ 1)) hx hb hts hinX1 hown hK hP (hts (.fieldLink RX1 26 "CensusDesk$Failures" "count" "I") (List.mem_of_getElem? (i := 4) rfl)) rfl dX1_add_141 ?_
              refine lv_iconst (v := 1) hx hb dX1_add_144 (by decide) ?_
              refine lv_iadd hx hb dX1_add_145 ?_
              refine lv_topi (fun z_92 ez_92 => ?_)
              have tz_92 : (Int32.toInt z_92) = (Int32.toInt (σ 1)) + 1 := aI_add rfl L_1 ez_92 (by have := rng (σ 1); omega)
              refine cp_3_4 (v := z_92) hx hb hts hinX1 hown hK hP hI hS (hts (.fieldLink RX1 26 "CensusDesk$Failures" "count" "I") (List.mem_of_getElem? (i := 4) rfl)) dX1_add_146 ?_
              clear hP hS; intro H locs hP hS
              refine lv_iload hx hb dX1_add_149 (lv_at hl 0 rfl) ?_
              exact W.iret (v := (σ 1)) hx hb hr (fun t ht hW => ⟨⟨(σ 1), ((up σ 1 z_92), φ, γ, (up (up (up (up (up (up (up ψ 2 f_76) 3 f_77) 4 f_78) 5 f_80) 6 f_81) 8 f_88) 7 f_91)), rfl, ⟨z_92, rfl, rfl, (show (Int32.toInt (σ 1)) ≤ (Int32.toInt z_92) ∧ (Int32.toInt z_92) ≤ (Int32.toInt (σ 1)) + 1 from (by omega))⟩, (by show va_P _ _ _ _; rw [ht]; exact hP)⟩, hS.F ht⟩) hS.2.2 dX1_add_151
    · have kc_2 := bI_nle rfl L_21 c_2
      refine lv_iconst (v := (-1)) hx hb dX1_add_11 (by decide) ?_
      exact W.iret (v := (-1)) hx hb hr (fun t ht hW => ⟨⟨(-1), ((up σ 1 (σ 1)), φ, γ, ψ), rfl, ⟨(σ 1), rfl, rfl, (show (Int32.toInt (σ 1)) ≤ (Int32.toInt (σ 1)) ∧ (Int32.toInt (σ 1)) ≤ (Int32.toInt (σ 1)) + 1 from (by omega))⟩, (by show va_P _ _ _ _; rw [ht]; exact hP)⟩, hS.F ht⟩) hS.2.2 dX1_add_12
set_option maxHeartbeats 4000000 in
set_option maxRecDepth 100000 in
theorem c_X1_isKept (l : Launch) (dC : Nat → ClassId) (dI : Nat → Nat → Nat) (a : Nat → Nat) (κ : Nat → ClassId) (σ : Nat → Int32) (φ : Nat → Nat → Int32) (γ : Nat → Int32) (ψ : Nat → Nat → Int32) (g1 g2 : Nat) (i : Int32) : Met l yX1_isKept wsX1_isKept ({ frames := 0, cells := 0, slots := 0, locals := 0 } : Room) (va_Pc [.ref (a 3), .int i] (cPre dC dI a κ (σ, φ, γ, ψ) g1 g2)) (va_Qi (QI (fun r S F => σ = S ∧ φ = F ∧ ((Int32.toInt r) = 0 ∨ (0 ≤ (Int32.toInt i) ∧ (Int32.toInt i) < 300)))) (cB dC dI a κ) (cA a)) 0 0 (cA a) := by
  refine Met.ofW (cc := cX1_isKept) (maxL := 2) (ret := (some .boolean)) (by decide) rfl ?_
  intro p e s m args below meth c s₁ B hml hv
  obtain ⟨rfl, hP, hK, hI, hN, hX⟩ := hv
  have hx := B.exec
  have hb := B.bytes
  have hr := B.returns
  have hts := atoms_spec (ws := wsX1_isKept) B.pre
  have hown : s.vm.findClass RX1 = some m.cls := findClass_of_methodNamed B.named
  have hlocks := B.notSynchronized
  have hS : va_S (cA a) s.heap s.heap [] := va_S.rf
  have hinX1 : ∀ w ∈ wsX10, w ∈ wsX1_isKept := fun _ h => List.mem_cons_of_mem _ (List.mem_append_right _ h)
  have hl := lv_entry ([.ref (a 3), .int i]) (n := 2) (Nat.le_of_ble_eq_true rfl)
  rw [lg_entry_eq]
  generalize (lg_sl ([.ref (a 3), .int i]) ++ List.replicate (2 - (lg_sl ([.ref (a 3), .int i])).length) Slot.unset).toArray = ls at hl ⊢
  have hl : lv_has ls 2 [(0, .ref (a 3)), (1, .int i)] := hl
  refine lv_iload_n hx hb dX1_isKept_0 rfl (lv_at hl 1 rfl) ?_
  refine lv_if_lt (tgt := 23) hx hb dX1_isKept_1 (by decide) (fun c_1 => ?_) (fun c_1 => ?_)
  · have kc_1 := bI_lt rfl L_0 c_1
    refine lv_iconst (v := 0) hx hb dX1_isKept_23 (by decide) ?_
    exact W.zret (v := 0) hx hb hr (by first | rfl | decide) (fun t ht hW => ⟨⟨0, (σ, φ, γ, ψ), rfl, ⟨rfl, rfl, (show (Int32.toInt 0) = 0 ∨ (0 ≤ (Int32.toInt i) ∧ (Int32.toInt i) < 300) from (by have := L_0; omega))⟩, (by show va_P _ _ _ _; rw [ht]; exact hP)⟩, hS.F ht⟩) hS.2.2 dX1_isKept_24
  · have kc_1 := bI_nlt rfl L_0 c_1
    refine lv_iload_n hx hb dX1_isKept_4 rfl (lv_at hl 1 rfl) ?_
    refine lv_aload_n hx hb dX1_isKept_5 rfl (lv_at hl 0 rfl) ?_
    refine cg_3_4 (v := (σ 1)) hx hb hts hinX1 hown hK hP (hts (.fieldLink RX1 26 "CensusDesk$Failures" "count" "I") (List.mem_of_getElem? (i := 1) rfl)) rfl dX1_isKept_6 ?_
    refine lv_icmp_ge (tgt := 23) hx hb dX1_isKept_9 (by decide) (fun c_2 => ?_) (fun c_2 => ?_)
    · have kc_2 := bI_le rfl rfl c_2
      refine lv_iconst (v := 0) hx hb dX1_isKept_23 (by decide) ?_
      exact W.zret (v := 0) hx hb hr (by first | rfl | decide) (fun t ht hW => ⟨⟨0, (σ, φ, γ, ψ), rfl, ⟨rfl, rfl, (show (Int32.toInt 0) = 0 ∨ (0 ≤ (Int32.toInt i) ∧ (Int32.toInt i) < 300) from (by have := L_0; omega))⟩, (by show va_P _ _ _ _; rw [ht]; exact hP)⟩, hS.F ht⟩) hS.2.2 dX1_isKept_24
    · have kc_2 := bI_nle rfl rfl c_2
      refine lv_iload_n hx hb dX1_isKept_12 rfl (lv_at hl 1 rfl) ?_
      refine lv_sipush (v := 300) hx hb dX1_isKept_13 (by decide) ?_
      refine lv_icmp_ge (tgt := 23) hx hb dX1_isKept_16 (by decide) (fun c_3 => ?_) (fun c_3 => ?_)
      · have kc_3 := bI_le L_300 rfl c_3
        refine lv_iconst (v := 0) hx hb dX1_isKept_23 (by decide) ?_
        exact W.zret (v := 0) hx hb hr (by first | rfl | decide) (fun t ht hW => ⟨⟨0, (σ, φ, γ, ψ), rfl, ⟨rfl, rfl, (show (Int32.toInt 0) = 0 ∨ (0 ≤ (Int32.toInt i) ∧ (Int32.toInt i) < 300) from (by have := L_0; omega))⟩, (by show va_P _ _ _ _; rw [ht]; exact hP)⟩, hS.F ht⟩) hS.2.2 dX1_isKept_24
      · have kc_3 := bI_nle L_300 rfl c_3
        refine lv_iconst (v := 1) hx hb dX1_isKept_19 (by decide) ?_
        refine lv_goto (tgt := 24) hx hb dX1_isKept_20 (by decide) ?_
        exact W.zret (v := 1) hx hb hr (by first | rfl | decide) (fun t ht hW => ⟨⟨1, (σ, φ, γ, ψ), rfl, ⟨rfl, rfl, (show (Int32.toInt 1) = 0 ∨ (0 ≤ (Int32.toInt i) ∧ (Int32.toInt i) < 300) from (by have := L_1; omega))⟩, (by show va_P _ _ _ _; rw [ht]; exact hP)⟩, hS.F ht⟩) hS.2.2 dX1_isKept_24
set_option maxHeartbeats 4000000 in
set_option maxRecDepth 100000 in
theorem c_X1_tell (l : Launch) (dC : Nat → ClassId) (dI : Nat → Nat → Nat) (a : Nat → Nat) (κ : Nat → ClassId) (σ : Nat → Int32) (φ : Nat → Nat → Int32) (γ : Nat → Int32) (ψ : Nat → Nat → Int32) (g1 g2 : Nat) (i : Int32) (what : Int32) : Met l yX1_tell wsX1_tell ({ frames := 1, cells := 0, slots := 0, locals := 21 } : Room) (va_Pc [.ref (a 3), .int i, .int what] (cPre dC dI a κ (σ, φ, γ, ψ) g1 g2)) (va_Qi (QI (fun r S F => σ = S ∧ φ = F ∧ True)) (cB dC dI a κ) (cA a)) 0 0 (cA a) := by
  refine Met.ofW (cc := cX1_tell) (maxL := 3) (ret := (some .int)) (by decide) rfl ?_
  intro p e s m args below meth c s₁ B hml hv
  obtain ⟨rfl, hP, hK, hI, hN, hX⟩ := hv
  have hx := B.exec
  have hb := B.bytes
  have hr := B.returns
  have hts := atoms_spec (ws := wsX1_tell) B.pre
  have hown : s.vm.findClass RX1 = some m.cls := findClass_of_methodNamed B.named
  have hlocks := B.notSynchronized
  have hS : va_S (cA a) s.heap s.heap [] := va_S.rf
  have hinX1 : ∀ w ∈ wsX10, w ∈ wsX1_tell := fun _ h => List.mem_cons_of_mem _ (List.mem_append_right _ h)
  have hl := lv_entry ([.ref (a 3), .int i, .int what]) (n := 3) (Nat.le_of_ble_eq_true rfl)
  rw [lg_entry_eq]
  generalize (lg_sl ([.ref (a 3), .int i, .int what]) ++ List.replicate (3 - (lg_sl ([.ref (a 3), .int i, .int what])).length) Slot.unset).toArray = ls at hl ⊢
  have hl : lv_has ls 3 [(0, .ref (a 3)), (1, .int i), (2, .int what)] := hl
  refine lv_aload_n hx hb dX1_tell_0 rfl (lv_at hl 0 rfl) ?_
  refine lv_iload_n hx hb dX1_tell_1 rfl (lv_at hl 1 rfl) ?_
  refine c_calli (va_runV (As := [.int i]) (rest := []) ⟨hx, hb, hml, hown, hts⟩ (c_X1_isKept l dC dI a κ σ φ γ ψ g1 g2 i ) (cwV 1 hts gX1_tell_X1_isKept rfl rfl rfl ⟨rfl, hd_X1_isKept⟩ ⟨Nat.le_of_ble_eq_true rfl, Nat.le_of_ble_eq_true rfl⟩) (cPreV hP hK hI hN hX hS (va_recv hK hP (ci := 1) (q0 := 3) rfl rfl)) rfl rfl hl.1 rfl (lv_room (Nat.le_of_ble_eq_true rfl)) dX1_tell_2 ⟨(by decide +kernel), (by decide +kernel)⟩) hS ?_
  clear hP hS; intro r_1 S_1 F_1 γ_1 ψ_1 H locs hw hP hS
  obtain ⟨rfl, rfl, (qk_1 : (Int32.toInt r_1) = 0 ∨ (0 ≤ (Int32.toInt i) ∧ (Int32.toInt i) < 300))⟩ := hw
  refine lv_if_eq (tgt := 17) hx hb dX1_tell_5 (by decide) (fun c_2 => ?_) (fun c_2 => ?_)
  · have kc_2 := bI_eq rfl L_0 c_2
    refine lv_iconst (v := (-1)) hx hb dX1_tell_17 (by decide) ?_
    exact W.iret (v := (-1)) hx hb hr (fun t ht hW => ⟨⟨(-1), (σ, φ, γ_1, ψ_1), rfl, ⟨rfl, rfl, trivial⟩, (by show va_P _ _ _ _; rw [ht]; exact hP)⟩, hS.F ht⟩) hS.2.2 dX1_tell_18
  · have kc_2 := bI_ne rfl L_0 c_2
    refine lv_iload_n hx hb dX1_tell_8 rfl (lv_at hl 2 rfl) ?_
    refine lv_if_lt (tgt := 17) hx hb dX1_tell_9 (by decide) (fun c_3 => ?_) (fun c_3 => ?_)
    · have kc_3 := bI_lt rfl L_0 c_3
      refine lv_iconst (v := (-1)) hx hb dX1_tell_17 (by decide) ?_
      exact W.iret (v := (-1)) hx hb hr (fun t ht hW => ⟨⟨(-1), (σ, φ, γ_1, ψ_1), rfl, ⟨rfl, rfl, trivial⟩, (by show va_P _ _ _ _; rw [ht]; exact hP)⟩, hS.F ht⟩) hS.2.2 dX1_tell_18
    · have kc_3 := bI_nlt rfl L_0 c_3
      refine lv_iload_n hx hb dX1_tell_12 rfl (lv_at hl 2 rfl) ?_
      refine lv_iconst (v := 5) hx hb dX1_tell_13 (by decide) ?_
      refine lv_icmp_lt (tgt := 19) hx hb dX1_tell_14 (by decide) (fun c_4 => ?_) (fun c_4 => ?_)
      · have kc_4 := bI_lt rfl L_5 c_4
        refine lv_aload_n hx hb dX1_tell_19 rfl (lv_at hl 0 rfl) ?_
        refine cg_3_0 hx hb hts hinX1 hown hK hP (hts (.fieldLink RX1 13 "CensusDesk$Failures" "facts" "[[I") (List.mem_of_getElem? (i := 1) rfl)) dX1_tell_20 ?_
        refine lv_iload_n hx hb dX1_tell_23 rfl (lv_at hl 2 rfl) ?_
        rcases (show (Int32.toInt what) = 0 ∨ (Int32.toInt what) = 1 ∨ (Int32.toInt what) = 2 ∨ (Int32.toInt what) = 3 ∨ (Int32.toInt what) = 4 from by omega) with ix_5 | ix_5 | ix_5 | ix_5 | ix_5
        · have eix_5 : what = 0 := Int32.toInt_inj.mp (ix_5.trans L_0.symm)
          rw [eix_5]
          refine cr_12_0 hx hb hK hP dX1_tell_24 ?_
          refine lv_iload_n hx hb dX1_tell_25 rfl (lv_at hl 1 rfl) ?_
          refine cl_13 (f := (ψ_1 2)) hx hb hK hP (i := i) (vin rfl (by omega)) rfl dX1_tell_26 ?_
          refine lv_topi (fun z_6 ez_6 => ?_)
          exact W.iret (v := z_6) hx hb hr (fun t ht hW => ⟨⟨z_6, (σ, φ, γ_1, ψ_1), rfl, ⟨rfl, rfl, trivial⟩, (by show va_P _ _ _ _; rw [ht]; exact hP)⟩, hS.F ht⟩) hS.2.2 dX1_tell_27
        · have eix_5 : what = 1 := Int32.toInt_inj.mp (ix_5.trans L_1.symm)
          rw [eix_5]
          refine cr_12_1 hx hb hK hP dX1_tell_24 ?_
          refine lv_iload_n hx hb dX1_tell_25 rfl (lv_at hl 1 rfl) ?_
          refine cl_14 (f := (ψ_1 3)) hx hb hK hP (i := i) (vin rfl (by omega)) rfl dX1_tell_26 ?_
          refine lv_topi (fun z_7 ez_7 => ?_)
          exact W.iret (v := z_7) hx hb hr (fun t ht hW => ⟨⟨z_7, (σ, φ, γ_1, ψ_1), rfl, ⟨rfl, rfl, trivial⟩, (by show va_P _ _ _ _; rw [ht]; exact hP)⟩, hS.F ht⟩) hS.2.2 dX1_tell_27
        · have eix_5 : what = 2 := Int32.toInt_inj.mp (ix_5.trans L_2.symm)
          rw [eix_5]
          refine cr_12_2 hx hb hK hP dX1_tell_24 ?_
          refine lv_iload_n hx hb dX1_tell_25 rfl (lv_at hl 1 rfl) ?_
          refine cl_15 (f := (ψ_1 4)) hx hb hK hP (i := i) (vin rfl (by omega)) rfl dX1_tell_26 ?_
          refine lv_topi (fun z_8 ez_8 => ?_)
          exact W.iret (v := z_8) hx hb hr (fun t ht hW => ⟨⟨z_8, (σ, φ, γ_1, ψ_1), rfl, ⟨rfl, rfl, trivial⟩, (by show va_P _ _ _ _; rw [ht]; exact hP)⟩, hS.F ht⟩) hS.2.2 dX1_tell_27
        · have eix_5 : what = 3 := Int32.toInt_inj.mp (ix_5.trans L_3.symm)
          rw [eix_5]
          refine cr_12_3 hx hb hK hP dX1_tell_24 ?_
          refine lv_iload_n hx hb dX1_tell_25 rfl (lv_at hl 1 rfl) ?_
          refine cl_16 (f := (ψ_1 5)) hx hb hK hP (i := i) (vin rfl (by omega)) rfl dX1_tell_26 ?_
          refine lv_topi (fun z_9 ez_9 => ?_)
          exact W.iret (v := z_9) hx hb hr (fun t ht hW => ⟨⟨z_9, (σ, φ, γ_1, ψ_1), rfl, ⟨rfl, rfl, trivial⟩, (by show va_P _ _ _ _; rw [ht]; exact hP)⟩, hS.F ht⟩) hS.2.2 dX1_tell_27
        · have eix_5 : what = 4 := Int32.toInt_inj.mp (ix_5.trans L_4.symm)
          rw [eix_5]
          refine cr_12_4 hx hb hK hP dX1_tell_24 ?_
          refine lv_iload_n hx hb dX1_tell_25 rfl (lv_at hl 1 rfl) ?_
          refine cl_17 (f := (ψ_1 6)) hx hb hK hP (i := i) (vin rfl (by omega)) rfl dX1_tell_26 ?_
          refine lv_topi (fun z_10 ez_10 => ?_)
          exact W.iret (v := z_10) hx hb hr (fun t ht hW => ⟨⟨z_10, (σ, φ, γ_1, ψ_1), rfl, ⟨rfl, rfl, trivial⟩, (by show va_P _ _ _ _; rw [ht]; exact hP)⟩, hS.F ht⟩) hS.2.2 dX1_tell_27
      · have kc_4 := bI_nlt rfl L_5 c_4
        refine lv_iconst (v := (-1)) hx hb dX1_tell_17 (by decide) ?_
        exact W.iret (v := (-1)) hx hb hr (fun t ht hW => ⟨⟨(-1), (σ, φ, γ_1, ψ_1), rfl, ⟨rfl, rfl, trivial⟩, (by show va_P _ _ _ _; rw [ht]; exact hP)⟩, hS.F ht⟩) hS.2.2 dX1_tell_18
set_option maxHeartbeats 4000000 in
set_option maxRecDepth 100000 in
theorem c_X1_ofKind (l : Launch) (dC : Nat → ClassId) (dI : Nat → Nat → Nat) (a : Nat → Nat) (κ : Nat → ClassId) (σ : Nat → Int32) (φ : Nat → Nat → Int32) (γ : Nat → Int32) (ψ : Nat → Nat → Int32) (g1 g2 : Nat) (kind : Int32) : Met l yX1_ofKind wsX1_ofKind ({ frames := 0, cells := 0, slots := 0, locals := 0 } : Room) (va_Pc [.ref (a 3), .int kind] (cPre dC dI a κ (σ, φ, γ, ψ) g1 g2)) (va_Qi (QI (fun r S F => σ = S ∧ φ = F ∧ True)) (cB dC dI a κ) (cA a)) 0 0 (cA a) := by
  refine Met.ofW (cc := cX1_ofKind) (maxL := 2) (ret := (some .int)) (by decide) rfl ?_
  intro p e s m args below meth c s₁ B hml hv
  obtain ⟨rfl, hP, hK, hI, hN, hX⟩ := hv
  have hx := B.exec
  have hb := B.bytes
  have hr := B.returns
  have hts := atoms_spec (ws := wsX1_ofKind) B.pre
  have hown : s.vm.findClass RX1 = some m.cls := findClass_of_methodNamed B.named
  have hlocks := B.notSynchronized
  have hS : va_S (cA a) s.heap s.heap [] := va_S.rf
  have hinX1 : ∀ w ∈ wsX10, w ∈ wsX1_ofKind := fun _ h => List.mem_cons_of_mem _ (List.mem_append_right _ h)
  have hl := lv_entry ([.ref (a 3), .int kind]) (n := 2) (Nat.le_of_ble_eq_true rfl)
  rw [lg_entry_eq]
  generalize (lg_sl ([.ref (a 3), .int kind]) ++ List.replicate (2 - (lg_sl ([.ref (a 3), .int kind])).length) Slot.unset).toArray = ls at hl ⊢
  have hl : lv_has ls 2 [(0, .ref (a 3)), (1, .int kind)] := hl
  refine lv_iload_n hx hb dX1_ofKind_0 rfl (lv_at hl 1 rfl) ?_
  refine lv_iconst (v := 1) hx hb dX1_ofKind_1 (by decide) ?_
  refine lv_icmp_lt (tgt := 20) hx hb dX1_ofKind_2 (by decide) (fun c_1 => ?_) (fun c_1 => ?_)
  · have kc_1 := bI_lt rfl L_1 c_1
    refine lv_iconst (v := 0) hx hb dX1_ofKind_20 (by decide) ?_
    exact W.iret (v := 0) hx hb hr (fun t ht hW => ⟨⟨0, (σ, φ, γ, ψ), rfl, ⟨rfl, rfl, trivial⟩, (by show va_P _ _ _ _; rw [ht]; exact hP)⟩, hS.F ht⟩) hS.2.2 dX1_ofKind_21
  · have kc_1 := bI_nlt rfl L_1 c_1
    refine lv_iload_n hx hb dX1_ofKind_5 rfl (lv_at hl 1 rfl) ?_
    refine lv_bipush (v := 21) hx hb dX1_ofKind_6 (by decide) ?_
    refine lv_icmp_gt (tgt := 20) hx hb dX1_ofKind_8 (by decide) (fun c_2 => ?_) (fun c_2 => ?_)
    · have kc_2 := bI_lt L_21 rfl c_2
      refine lv_iconst (v := 0) hx hb dX1_ofKind_20 (by decide) ?_
      exact W.iret (v := 0) hx hb hr (fun t ht hW => ⟨⟨0, (σ, φ, γ, ψ), rfl, ⟨rfl, rfl, trivial⟩, (by show va_P _ _ _ _; rw [ht]; exact hP)⟩, hS.F ht⟩) hS.2.2 dX1_ofKind_21
    · have kc_2 := bI_nlt L_21 rfl c_2
      refine lv_aload_n hx hb dX1_ofKind_11 rfl (lv_at hl 0 rfl) ?_
      refine cg_3_1 hx hb hts hinX1 hown hK hP (hts (.fieldLink RX1 16 "CensusDesk$Failures" "byKind" "[I") (List.mem_of_getElem? (i := 1) rfl)) dX1_ofKind_12 ?_
      refine lv_iload_n hx hb dX1_ofKind_15 rfl (lv_at hl 1 rfl) ?_
      refine cl_18 (f := (ψ 7)) hx hb hK hP (i := kind) (vin rfl (by omega)) rfl dX1_ofKind_16 ?_
      refine lv_topi (fun z_3 ez_3 => ?_)
      refine lv_goto (tgt := 21) hx hb dX1_ofKind_17 (by decide) ?_
      exact W.iret (v := z_3) hx hb hr (fun t ht hW => ⟨⟨z_3, (σ, φ, γ, ψ), rfl, ⟨rfl, rfl, trivial⟩, (by show va_P _ _ _ _; rw [ht]; exact hP)⟩, hS.F ht⟩) hS.2.2 dX1_ofKind_21
set_option maxHeartbeats 4000000 in
set_option maxRecDepth 100000 in
theorem c_X1_causesBelow (l : Launch) (dC : Nat → ClassId) (dI : Nat → Nat → Nat) (a : Nat → Nat) (κ : Nat → ClassId) (σ : Nat → Int32) (φ : Nat → Nat → Int32) (γ : Nat → Int32) (ψ : Nat → Nat → Int32) (g1 g2 : Nat) (i : Int32) : Met l yX1_causesBelow wsX1_causesBelow ({ frames := 1, cells := 0, slots := 0, locals := 21 } : Room) (va_Pc [.ref (a 3), .int i] (cPre dC dI a κ (σ, φ, γ, ψ) g1 g2)) (va_Qi (QI (fun r S F => σ = S ∧ φ = F ∧ True)) (cB dC dI a κ) (cA a)) 0 0 (cA a) := by
  refine Met.ofW (cc := cX1_causesBelow) (maxL := 4) (ret := (some .int)) (by decide) rfl ?_
  intro p e s m args below meth c s₁ B hml hv
  obtain ⟨rfl, hP, hK, hI, hN, hX⟩ := hv
  have hx := B.exec
  have hb := B.bytes
  have hr := B.returns
  have hts := atoms_spec (ws := wsX1_causesBelow) B.pre
  have hown : s.vm.findClass RX1 = some m.cls := findClass_of_methodNamed B.named
  have hlocks := B.notSynchronized
  have hS : va_S (cA a) s.heap s.heap [] := va_S.rf
  have hinX1 : ∀ w ∈ wsX10, w ∈ wsX1_causesBelow := fun _ h => List.mem_cons_of_mem _ (List.mem_append_right _ h)
  have hl := lv_entry ([.ref (a 3), .int i]) (n := 4) (Nat.le_of_ble_eq_true rfl)
  rw [lg_entry_eq]
  generalize (lg_sl ([.ref (a 3), .int i]) ++ List.replicate (4 - (lg_sl ([.ref (a 3), .int i])).length) Slot.unset).toArray = ls at hl ⊢
  have hl : lv_has ls 4 [(0, .ref (a 3)), (1, .int i)] := hl
  refine k_gen (fun QQ eQ => ?_)
  have J14 : ∀ (n14 : Nat), ∀ (at_ : Int32) (deep : Int32) (γ : Nat → Int32) (ψ : Nat → Nat → Int32) (H : Heap) (locs : List Loc) (ls : Array Slot), (0 ≤ (Int32.toInt deep)) → ((5 - (Int32.toInt deep)).toNat < n14) → va_P (dC, dI) vwCl (cw a κ (σ, φ, γ, ψ)) H → va_S (cA a) s.heap H locs → lv_has ls 4 [(0, .ref (a 3)), (2, .int at_), (3, .int deep)] → W p l e ({ frames := 1, cells := 0, slots := 0, locals := 21 } : Room) s m ([.ref (a 3), .int i] : List Value).toArray below meth c H locs 0 0 QQ (F0 m 14 ls []) := by
    intro n14
    induction n14 with
    | zero =>
      intro at_ deep γ ψ H locs ls v0 hm
      exact absurd hm (Nat.not_lt_zero _)
    | succ n14 ih14 =>
      intro at_ deep γ ψ H locs ls v0 hm hP hS hl
      refine lv_iload_n hx hb dX1_causesBelow_14 rfl (lv_at hl 2 rfl) ?_
      refine lv_iconst (v := 5) hx hb dX1_causesBelow_15 (by decide) ?_
      refine lv_icmp_ge (tgt := 56) hx hb dX1_causesBelow_16 (by decide) (fun c_1 => ?_) (fun c_1 => ?_)
      · have kc_1 := bI_le L_5 rfl c_1
        refine lv_iconst (v := 5) hx hb dX1_causesBelow_56 (by decide) ?_
        subst eQ
        exact W.iret (v := 5) hx hb hr (fun t ht hW => ⟨⟨5, (σ, φ, γ, ψ), rfl, ⟨rfl, rfl, trivial⟩, (by show va_P _ _ _ _; rw [ht]; exact hP)⟩, hS.F ht⟩) hS.2.2 dX1_causesBelow_57
      · have kc_1 := bI_nle L_5 rfl c_1
        refine lv_aload_n hx hb dX1_causesBelow_19 rfl (lv_at hl 0 rfl) ?_
        refine lv_iload_n hx hb dX1_causesBelow_20 rfl (lv_at hl 1 rfl) ?_
        refine c_calli (va_runV (As := [.int at_]) (rest := []) ⟨hx, hb, hml, hown, hts⟩ (c_X1_isKept l dC dI a κ σ φ γ ψ g1 g2 at_ ) (cwV 1 hts gX1_causesBelow_X1_isKept rfl rfl rfl ⟨rfl, hd_X1_isKept⟩ ⟨Nat.le_of_ble_eq_true rfl, Nat.le_of_ble_eq_true rfl⟩) (cPreV hP hK hI hN hX hS (va_recv hK hP (ci := 1) (q0 := 3) rfl rfl)) rfl rfl hl.1 rfl (lv_room (Nat.le_of_ble_eq_true rfl)) dX1_causesBelow_21 ⟨(by decide +kernel), (by decide +kernel)⟩) hS ?_
        clear hP hS; intro r_2 S_2 F_2 γ_2 ψ_2 H locs hw hP hS
        obtain ⟨rfl, rfl, (qk_2 : (Int32.toInt r_2) = 0 ∨ (0 ≤ (Int32.toInt at_) ∧ (Int32.toInt at_) < 300))⟩ := hw
        refine lv_if_eq (tgt := 39) hx hb dX1_causesBelow_24 (by decide) (fun c_3 => ?_) (fun c_3 => ?_)
        · have kc_3 := bI_eq rfl L_0 c_3
          refine lv_iload_n hx hb dX1_causesBelow_39 rfl (lv_at hl 2 rfl) ?_
          subst eQ
          exact W.iret (v := deep) hx hb hr (fun t ht hW => ⟨⟨deep, (σ, φ, γ_2, ψ_2), rfl, ⟨rfl, rfl, trivial⟩, (by show va_P _ _ _ _; rw [ht]; exact hP)⟩, hS.F ht⟩) hS.2.2 dX1_causesBelow_40
        · have kc_3 := bI_ne rfl L_0 c_3
          refine lv_aload_n hx hb dX1_causesBelow_27 rfl (lv_at hl 0 rfl) ?_
          refine cg_3_0 hx hb hts hinX1 hown hK hP (hts (.fieldLink RX1 13 "CensusDesk$Failures" "facts" "[[I") (List.mem_of_getElem? (i := 1) rfl)) dX1_causesBelow_28 ?_
          refine lv_iconst (v := 2) hx hb dX1_causesBelow_31 (by decide) ?_
          refine cr_12_2 hx hb hK hP dX1_causesBelow_32 ?_
          refine lv_iload_n hx hb dX1_causesBelow_33 rfl (lv_at hl 1 rfl) ?_
          refine cl_15 (f := (ψ_2 4)) hx hb hK hP (i := at_) (vin rfl (by omega)) rfl dX1_causesBelow_34 ?_
          refine lv_topi (fun z_4 ez_4 => ?_)
          refine lv_iconst (v := (-1)) hx hb dX1_causesBelow_35 (by decide) ?_
          refine lv_icmp_ne (tgt := 41) hx hb dX1_causesBelow_36 (by decide) (fun c_5 => ?_) (fun c_5 => ?_)
          · have kc_5 := bI_ne rfl L_m1 c_5
            refine lv_aload_n hx hb dX1_causesBelow_41 rfl (lv_at hl 0 rfl) ?_
            refine cg_3_0 hx hb hts hinX1 hown hK hP (hts (.fieldLink RX1 13 "CensusDesk$Failures" "facts" "[[I") (List.mem_of_getElem? (i := 1) rfl)) dX1_causesBelow_42 ?_
            refine lv_iconst (v := 2) hx hb dX1_causesBelow_45 (by decide) ?_
            refine cr_12_2 hx hb hK hP dX1_causesBelow_46 ?_
            refine lv_iload_n hx hb dX1_causesBelow_47 rfl (lv_at hl 1 rfl) ?_
            refine cl_15 (f := (ψ_2 4)) hx hb hK hP (i := at_) (vin rfl (by omega)) rfl dX1_causesBelow_48 ?_
            refine lv_topi (fun z_6 ez_6 => ?_)
            refine lv_istore_n (lv' := [(2, .int z_6), (0, .ref (a 3)), (3, .int deep)]) hx hb dX1_causesBelow_49 rfl hl (by decide) rfl ?_
            clear hl; intro ls hl
            obtain ⟨i_7, ei_7⟩ : ∃ z : Int32, z = deep + 1 := ⟨_, rfl⟩
            refine lv_iinc (v := i_7) (lv' := [(3, .int i_7), (2, .int z_6), (0, .ref (a 3))]) hx hb dX1_causesBelow_50 hl (k := 2) rfl (by rw [ei_7]; rfl) (by decide) rfl ?_
            clear hl; intro ls hl
            have ti_7 : (Int32.toInt i_7) = (Int32.toInt deep) + 1 := aI_add rfl L_1 ei_7 (by have := rng deep; omega)
            refine lv_goto (tgt := 14) hx hb dX1_causesBelow_53 (by decide) ?_
            exact ih14 z_6 i_7 γ_2 ψ_2 _ _ _ (show 0 ≤ (Int32.toInt i_7) from (by omega)) (by omega) hP hS (lv_sub hl [2, 1, 0] rfl)
          · have kc_5 := bI_eq rfl L_m1 c_5
            refine lv_iload_n hx hb dX1_causesBelow_39 rfl (lv_at hl 2 rfl) ?_
            subst eQ
            exact W.iret (v := deep) hx hb hr (fun t ht hW => ⟨⟨deep, (σ, φ, γ_2, ψ_2), rfl, ⟨rfl, rfl, trivial⟩, (by show va_P _ _ _ _; rw [ht]; exact hP)⟩, hS.F ht⟩) hS.2.2 dX1_causesBelow_40
  refine lv_aload_n hx hb dX1_causesBelow_0 rfl (lv_at hl 0 rfl) ?_
  refine lv_iload_n hx hb dX1_causesBelow_1 rfl (lv_at hl 1 rfl) ?_
  refine c_calli (va_runV (As := [.int i]) (rest := []) ⟨hx, hb, hml, hown, hts⟩ (c_X1_isKept l dC dI a κ σ φ γ ψ g1 g2 i ) (cwV 1 hts gX1_causesBelow_X1_isKept rfl rfl rfl ⟨rfl, hd_X1_isKept⟩ ⟨Nat.le_of_ble_eq_true rfl, Nat.le_of_ble_eq_true rfl⟩) (cPreV hP hK hI hN hX hS (va_recv hK hP (ci := 1) (q0 := 3) rfl rfl)) rfl rfl hl.1 rfl (lv_room (Nat.le_of_ble_eq_true rfl)) dX1_causesBelow_2 ⟨(by decide +kernel), (by decide +kernel)⟩) hS ?_
  clear hP hS; intro r_8 S_8 F_8 γ_8 ψ_8 H locs hw hP hS
  obtain ⟨rfl, rfl, (qk_8 : (Int32.toInt r_8) = 0 ∨ (0 ≤ (Int32.toInt i) ∧ (Int32.toInt i) < 300))⟩ := hw
  refine lv_if_ne (tgt := 10) hx hb dX1_causesBelow_5 (by decide) (fun c_9 => ?_) (fun c_9 => ?_)
  · have kc_9 := bI_ne rfl L_0 c_9
    refine lv_iload_n hx hb dX1_causesBelow_10 rfl (lv_at hl 1 rfl) ?_
    refine lv_istore_n (lv' := [(2, .int i), (0, .ref (a 3)), (1, .int i)]) hx hb dX1_causesBelow_11 rfl hl (by decide) rfl ?_
    clear hl; intro ls hl
    refine lv_iconst (v := 0) hx hb dX1_causesBelow_12 (by decide) ?_
    refine lv_istore_n (lv' := [(3, .int 0), (2, .int i), (0, .ref (a 3)), (1, .int i)]) hx hb dX1_causesBelow_13 rfl hl (by decide) rfl ?_
    clear hl; intro ls hl
    exact J14 (_ + 1) i 0 γ_8 ψ_8 _ _ _ (show 0 ≤ (Int32.toInt 0) from (by have := L_0; omega)) (Nat.lt_succ_self _) hP hS (lv_sub hl [2, 1, 0] rfl)
  · have kc_9 := bI_eq rfl L_0 c_9
    refine lv_iconst (v := (-1)) hx hb dX1_causesBelow_8 (by decide) ?_
    subst eQ
    exact W.iret (v := (-1)) hx hb hr (fun t ht hW => ⟨⟨(-1), (σ, φ, γ_8, ψ_8), rfl, ⟨rfl, rfl, trivial⟩, (by show va_P _ _ _ _; rw [ht]; exact hP)⟩, hS.F ht⟩) hS.2.2 dX1_causesBelow_9
set_option maxHeartbeats 4000000 in
set_option maxRecDepth 100000 in
theorem c_X3_addCell (l : Launch) (dC : Nat → ClassId) (dI : Nat → Nat → Nat) (a : Nat → Nat) (κ : Nat → ClassId) (σ : Nat → Int32) (φ : Nat → Nat → Int32) (γ : Nat → Int32) (ψ : Nat → Nat → Int32) (g1 g2 : Nat) (frm : Int32) (to : Int32) (p_line_cellStart : PtR 0 4000 (φ 1)) (p_line_cellEnd : PtR 0 4000 (φ 2)) (hc : 0 ≤ (Int32.toInt (σ 5)) ∧ (Int32.toInt (σ 5)) ≤ 1000000) (hf : 0 ≤ (Int32.toInt frm) ∧ (Int32.toInt frm) ≤ 4000 ∧ 0 ≤ (Int32.toInt to) ∧ (Int32.toInt to) ≤ 4000) : Met l yX3_addCell wsX3_addCell ({ frames := 0, cells := 0, slots := 0, locals := 0 } : Room) (va_Pc [.ref (a 6), .int frm, .int to] (cPre dC dI a κ (σ, φ, γ, ψ) g1 g2)) (va_Qv (QV (fun S F => ∃ (s5 : Int32) (f1 : Nat → Int32) (f2 : Nat → Int32), (up σ 5 s5) = S ∧ (up (up φ 1 f1) 2 f2) = F ∧ PtR 0 4000 f1 ∧ PtR 0 4000 f2 ∧ ((Int32.toInt s5) = (Int32.toInt (σ 5)) + 1))) (cB dC dI a κ) (cA a)) 0 0 (cA a) := by
  refine Met.ofW (cc := cX3_addCell) (maxL := 3) (ret := none) (by decide) rfl ?_
  intro p e s m args below meth c s₁ B hml hv
  obtain ⟨rfl, hP, hK, hI, hN, hX⟩ := hv
  have hx := B.exec
  have hb := B.bytes
  have hr := B.returns
  have hts := atoms_spec (ws := wsX3_addCell) B.pre
  have hown : s.vm.findClass RX3 = some m.cls := findClass_of_methodNamed B.named
  have hlocks := B.notSynchronized
  have hS : va_S (cA a) s.heap s.heap [] := va_S.rf
  have hinX3 : ∀ w ∈ wsX30, w ∈ wsX3_addCell := fun _ h => List.mem_cons_of_mem _ (List.mem_append_right _ h)
  have hl := lv_entry ([.ref (a 6), .int frm, .int to]) (n := 3) (Nat.le_of_ble_eq_true rfl)
  rw [lg_entry_eq]
  generalize (lg_sl ([.ref (a 6), .int frm, .int to]) ++ List.replicate (3 - (lg_sl ([.ref (a 6), .int frm, .int to])).length) Slot.unset).toArray = ls at hl ⊢
  have hl : lv_has ls 3 [(0, .ref (a 6)), (1, .int frm), (2, .int to)] := hl
  refine lv_aload_n hx hb dX3_addCell_0 rfl (lv_at hl 0 rfl) ?_
  refine cg_6_5 (v := (σ 5)) hx hb hts hinX3 hown hK hP (hts (.fieldLink RX3 43 "CensusDesk$Line" "cells" "I") (List.mem_of_getElem? (i := 1) rfl)) rfl dX3_addCell_1 ?_
  refine lv_iconst (v := 5) hx hb dX3_addCell_4 (by decide) ?_
  refine lv_icmp_ge (tgt := 28) hx hb dX3_addCell_5 (by decide) (fun c_1 => ?_) (fun c_1 => ?_)
  · have kc_1 := bI_le L_5 rfl c_1
    refine lv_aload_n hx hb dX3_addCell_28 rfl (lv_at hl 0 rfl) ?_
    refine lv_dup hx hb dX3_addCell_29 rfl ?_
    refine cg_6_5 (v := (σ 5)) hx hb hts hinX3 hown hK hP (hts (.fieldLink RX3 43 "CensusDesk$Line" "cells" "I") (List.mem_of_getElem? (i := 1) rfl)) rfl dX3_addCell_30 ?_
    refine lv_iconst (v := 1) hx hb dX3_addCell_33 (by decide) ?_
    refine lv_iadd hx hb dX3_addCell_34 ?_
    refine lv_topi (fun z_2 ez_2 => ?_)
    have tz_2 : (Int32.toInt z_2) = (Int32.toInt (σ 5)) + 1 := aI_add rfl L_1 ez_2 (by have := rng (σ 5); omega)
    refine cp_6_5 (v := z_2) hx hb hts hinX3 hown hK hP hI hS (hts (.fieldLink RX3 43 "CensusDesk$Line" "cells" "I") (List.mem_of_getElem? (i := 1) rfl)) dX3_addCell_35 ?_
    clear hP hS; intro H locs hP hS
    exact W.vret hx hb hr (fun t ht hW => ⟨⟨((up σ 5 z_2), (up (up φ 1 (φ 1)) 2 (φ 2)), γ, ψ), rfl, ⟨z_2, (φ 1), (φ 2), rfl, rfl, p_line_cellStart, p_line_cellEnd, (show (Int32.toInt z_2) = (Int32.toInt (σ 5)) + 1 from (by omega))⟩, (by show va_P _ _ _ _; rw [ht]; exact hP)⟩, hS.F ht⟩) hS.2.2 dX3_addCell_38
  · have kc_1 := bI_nle L_5 rfl c_1
    refine lv_aload_n hx hb dX3_addCell_8 rfl (lv_at hl 0 rfl) ?_
    refine cg_6_0 hx hb hts hinX3 hown hK hP (hts (.fieldLink RX3 11 "CensusDesk$Line" "cellStart" "[I") (List.mem_of_getElem? (i := 2) rfl)) dX3_addCell_9 ?_
    refine lv_aload_n hx hb dX3_addCell_12 rfl (lv_at hl 0 rfl) ?_
    refine cg_6_5 (v := (σ 5)) hx hb hts hinX3 hown hK hP (hts (.fieldLink RX3 43 "CensusDesk$Line" "cells" "I") (List.mem_of_getElem? (i := 1) rfl)) rfl dX3_addCell_13 ?_
    refine lv_iload_n hx hb dX3_addCell_16 rfl (lv_at hl 1 rfl) ?_
    refine cs_36 (f := (φ 1)) hx hb hK hP hI hS (i := (σ 5)) (x := frm) (vin rfl (by omega)) rfl dX3_addCell_17 ?_
    clear hP hS; intro H locs hP hS
    obtain ⟨f_3, ef_3⟩ : ∃ z : Nat → Int32, z = upd (φ 1) (Int32.toNatClampNeg (σ 5)) frm := ⟨_, rfl⟩
    rw [← ef_3] at hP
    have pf_3 : PtR 0 4000 f_3 := p_line_cellStart.set ef_3 (by omega) (by omega)
    refine lv_aload_n hx hb dX3_addCell_18 rfl (lv_at hl 0 rfl) ?_
    refine cg_6_1 hx hb hts hinX3 hown hK hP (hts (.fieldLink RX3 15 "CensusDesk$Line" "cellEnd" "[I") (List.mem_of_getElem? (i := 3) rfl)) dX3_addCell_19 ?_
    refine lv_aload_n hx hb dX3_addCell_22 rfl (lv_at hl 0 rfl) ?_
    refine cg_6_5 (v := (σ 5)) hx hb hts hinX3 hown hK hP (hts (.fieldLink RX3 43 "CensusDesk$Line" "cells" "I") (List.mem_of_getElem? (i := 1) rfl)) rfl dX3_addCell_23 ?_
    refine lv_iload_n hx hb dX3_addCell_26 rfl (lv_at hl 2 rfl) ?_
    refine cs_37 (f := (φ 2)) hx hb hK hP hI hS (i := (σ 5)) (x := to) (vin rfl (by omega)) rfl dX3_addCell_27 ?_
    clear hP hS; intro H locs hP hS
    obtain ⟨f_4, ef_4⟩ : ∃ z : Nat → Int32, z = upd (φ 2) (Int32.toNatClampNeg (σ 5)) to := ⟨_, rfl⟩
    rw [← ef_4] at hP
    have pf_4 : PtR 0 4000 f_4 := p_line_cellEnd.set ef_4 (by omega) (by omega)
    refine lv_aload_n hx hb dX3_addCell_28 rfl (lv_at hl 0 rfl) ?_
    refine lv_dup hx hb dX3_addCell_29 rfl ?_
    refine cg_6_5 (v := (σ 5)) hx hb hts hinX3 hown hK hP (hts (.fieldLink RX3 43 "CensusDesk$Line" "cells" "I") (List.mem_of_getElem? (i := 1) rfl)) rfl dX3_addCell_30 ?_
    refine lv_iconst (v := 1) hx hb dX3_addCell_33 (by decide) ?_
    refine lv_iadd hx hb dX3_addCell_34 ?_
    refine lv_topi (fun z_5 ez_5 => ?_)
    have tz_5 : (Int32.toInt z_5) = (Int32.toInt (σ 5)) + 1 := aI_add rfl L_1 ez_5 (by have := rng (σ 5); omega)
    refine cp_6_5 (v := z_5) hx hb hts hinX3 hown hK hP hI hS (hts (.fieldLink RX3 43 "CensusDesk$Line" "cells" "I") (List.mem_of_getElem? (i := 1) rfl)) dX3_addCell_35 ?_
    clear hP hS; intro H locs hP hS
    exact W.vret hx hb hr (fun t ht hW => ⟨⟨((up σ 5 z_5), (up (up φ 1 f_3) 2 f_4), γ, ψ), rfl, ⟨z_5, f_3, f_4, rfl, rfl, pf_3, pf_4, (show (Int32.toInt z_5) = (Int32.toInt (σ 5)) + 1 from (by omega))⟩, (by show va_P _ _ _ _; rw [ht]; exact hP)⟩, hS.F ht⟩) hS.2.2 dX3_addCell_38
