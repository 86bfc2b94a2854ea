set_option maxHeartbeats 4000000 in
set_option maxRecDepth 100000 in
theorem c_X2_takeNewcomer (l : Launch) (dC : Nat → ClassId) (dI : Nat → Nat → Nat) (a : Nat → Nat) (κ : Nat → ClassId) (σ : Nat → Int32) (φ : Nat → Nat → Int32) (γ : Nat → Int32) (ψ : Nat → Nat → Int32) (g1 g2 : Nat)  (p_hh_nameLength : PtR 0 30 (φ 3)) (hp : 0 ≤ (Int32.toInt (σ 9)) ∧ (Int32.toInt (σ 9)) ≤ 2000 ∧ 0 ≤ (Int32.toInt (σ 10)) ∧ (Int32.toInt (σ 10)) ≤ 30 * (Int32.toInt (σ 9))) : Met l yX2_takeNewcomer wsX2_takeNewcomer ({ frames := 0, cells := 0, slots := 0, locals := 0 } : Room) (va_Pc [.ref (a 8)] (cPre dC dI a κ (σ, φ, γ, ψ) g1 g2)) (va_Qv (QV (fun S F => ∃ (s10 : Int32) (s9 : Int32), (up (up σ 10 s10) 9 s9) = S ∧ φ = F ∧ (0 ≤ (Int32.toInt s9) ∧ (Int32.toInt s9) ≤ 2000 ∧ 0 ≤ (Int32.toInt s10) ∧ (Int32.toInt s10) ≤ 30 * (Int32.toInt s9)))) (cB dC dI a κ) (cA a)) 0 0 (cA a) := by
  refine Met.ofW (cc := cX2_takeNewcomer) (maxL := 1) (ret := none) (by decide) rfl ?_
  intro p e s m args below meth c s₁ B hml hv
  obtain ⟨rfl, hP, hK, hI, hN, hX⟩ := hv
  have hx := B.exec
  have hb := B.bytes
  have hr := B.returns
  have hts := atoms_spec (ws := wsX2_takeNewcomer) B.pre
  have hown : s.vm.findClass RX2 = some m.cls := findClass_of_methodNamed B.named
  have hlocks := B.notSynchronized
  have hS : va_S (cA a) s.heap s.heap [] := va_S.rf
  have hinX2 : ∀ w ∈ wsX20, w ∈ wsX2_takeNewcomer := fun _ h => List.mem_cons_of_mem _ (List.mem_append_right _ h)
  have hl := lv_entry ([.ref (a 8)]) (n := 1) (Nat.le_of_ble_eq_true rfl)
  rw [lg_entry_eq]
  generalize (lg_sl ([.ref (a 8)]) ++ List.replicate (1 - (lg_sl ([.ref (a 8)])).length) Slot.unset).toArray = ls at hl ⊢
  have hl : lv_has ls 1 [(0, .ref (a 8))] := hl
  refine lv_aload_n hx hb dX2_takeNewcomer_0 rfl (lv_at hl 0 rfl) ?_
  refine cg_8_11 (v := (σ 9)) hx hb hts hinX2 hown hK hP (hts (.fieldLink RX2 50 "CensusDesk$Household" "persons" "I") (List.mem_of_getElem? (i := 1) rfl)) rfl dX2_takeNewcomer_1 ?_
  refine lv_sipush (v := 2000) hx hb dX2_takeNewcomer_4 (by decide) ?_
  refine lv_icmp_lt (tgt := 11) hx hb dX2_takeNewcomer_7 (by decide) (fun c_1 => ?_) (fun c_1 => ?_)
  · have kc_1 := bI_lt rfl L_2000 c_1
    refine lv_aload_n hx hb dX2_takeNewcomer_11 rfl (lv_at hl 0 rfl) ?_
    refine lv_dup hx hb dX2_takeNewcomer_12 rfl ?_
    refine cg_8_12 (v := (σ 10)) hx hb hts hinX2 hown hK hP (hts (.fieldLink RX2 53 "CensusDesk$Household" "nameEnd" "I") (List.mem_of_getElem? (i := 2) rfl)) rfl dX2_takeNewcomer_13 ?_
    refine lv_aload_n hx hb dX2_takeNewcomer_16 rfl (lv_at hl 0 rfl) ?_
    refine cg_8_4 hx hb hts hinX2 hown hK hP (hts (.fieldLink RX2 26 "CensusDesk$Household" "nameLength" "[I") (List.mem_of_getElem? (i := 3) rfl)) dX2_takeNewcomer_17 ?_
    refine lv_aload_n hx hb dX2_takeNewcomer_20 rfl (lv_at hl 0 rfl) ?_
    refine cg_8_11 (v := (σ 9)) hx hb hts hinX2 hown hK hP (hts (.fieldLink RX2 50 "CensusDesk$Household" "persons" "I") (List.mem_of_getElem? (i := 1) rfl)) rfl dX2_takeNewcomer_21 ?_
    refine cl_44 (f := (φ 3)) hx hb hK hP (i := (σ 9)) (vin rfl (by omega)) rfl dX2_takeNewcomer_24 ?_
    refine lv_topi (fun z_2 ez_2 => ?_)
    have tz_2 : (Int32.toInt z_2) = Int32.toInt ((φ 3) (Int32.toNatClampNeg (σ 9))) := congrArg Int32.toInt ez_2
    have pz_2 : 0 ≤ (Int32.toInt z_2) ∧ (Int32.toInt z_2) ≤ 30 := p_hh_nameLength.of ez_2
    refine lv_iadd hx hb dX2_takeNewcomer_25 ?_
    refine lv_topi (fun z_3 ez_3 => ?_)
    have tz_3 : (Int32.toInt z_3) = (Int32.toInt (σ 10)) + (Int32.toInt z_2) := aI_add rfl rfl ez_3 (by have := rng (σ 10); have := rng z_2; omega)
    refine cp_8_12 (v := z_3) hx hb hts hinX2 hown hK hP hI hS (hts (.fieldLink RX2 53 "CensusDesk$Household" "nameEnd" "I") (List.mem_of_getElem? (i := 2) rfl)) dX2_takeNewcomer_26 ?_
    clear hP hS; intro H locs hP hS
    refine lv_aload_n hx hb dX2_takeNewcomer_29 rfl (lv_at hl 0 rfl) ?_
    refine lv_dup hx hb dX2_takeNewcomer_30 rfl ?_
    refine cg_8_11 (v := (σ 9)) hx hb hts hinX2 hown hK hP (hts (.fieldLink RX2 50 "CensusDesk$Household" "persons" "I") (List.mem_of_getElem? (i := 1) rfl)) rfl dX2_takeNewcomer_31 ?_
    refine lv_iconst (v := 1) hx hb dX2_takeNewcomer_34 (by decide) ?_
    refine lv_iadd hx hb dX2_takeNewcomer_35 ?_
    refine lv_topi (fun z_4 ez_4 => ?_)
    have tz_4 : (Int32.toInt z_4) = (Int32.toInt (σ 9)) + 1 := aI_add rfl L_1 ez_4 (by have := rng (σ 9); omega)
    refine cp_8_11 (v := z_4) hx hb hts hinX2 hown hK hP hI hS (hts (.fieldLink RX2 50 "CensusDesk$Household" "persons" "I") (List.mem_of_getElem? (i := 1) rfl)) dX2_takeNewcomer_36 ?_
    clear hP hS; intro H locs hP hS
    exact W.vret hx hb hr (fun t ht hW => ⟨⟨((up (up σ 10 z_3) 9 z_4), φ, γ, ψ), rfl, ⟨z_3, z_4, rfl, rfl, (show 0 ≤ (Int32.toInt z_4) ∧ (Int32.toInt z_4) ≤ 2000 ∧ 0 ≤ (Int32.toInt z_3) ∧ (Int32.toInt z_3) ≤ 30 * (Int32.toInt z_4) from (by omega))⟩, (by show va_P _ _ _ _; rw [ht]; exact hP)⟩, hS.F ht⟩) hS.2.2 dX2_takeNewcomer_39
  · have kc_1 := bI_nlt rfl L_2000 c_1
    exact W.vret hx hb hr (fun t ht hW => ⟨⟨((up (up σ 10 (σ 10)) 9 (σ 9)), φ, γ, ψ), rfl, ⟨(σ 10), (σ 9), rfl, rfl, (show 0 ≤ (Int32.toInt (σ 9)) ∧ (Int32.toInt (σ 9)) ≤ 2000 ∧ 0 ≤ (Int32.toInt (σ 10)) ∧ (Int32.toInt (σ 10)) ≤ 30 * (Int32.toInt (σ 9)) from (by omega))⟩, (by show va_P _ _ _ _; rw [ht]; exact hP)⟩, hS.F ht⟩) hS.2.2 dX2_takeNewcomer_10
set_option maxHeartbeats 4000000 in
set_option maxRecDepth 100000 in
theorem c_X0_tellHousehold (l : Launch) (dC : Nat → ClassId) (dI : Nat → Nat → Nat) (a : Nat → Nat) (κ : Nat → ClassId) (σ : Nat → Int32) (φ : Nat → Nat → Int32) (γ : Nat → Int32) (ψ : Nat → Nat → Int32) (g1 g2 : Nat) (i : Int32) (what : Int32) (hb : 0 ≤ (Int32.toInt (σ 11)) ∧ (Int32.toInt (σ 11)) ≤ 60 ∧ 0 ≤ (Int32.toInt (σ 12)) ∧ (Int32.toInt (σ 12)) ≤ 300) : Met l yX0_tellHousehold wsX0_tellHousehold ({ frames := 0, cells := 0, slots := 0, locals := 0 } : Room) (va_Pc [.ref (a 4), .int i, .int what] (cPre dC dI a κ (σ, φ, γ, ψ) g1 g2)) (va_Qi (QI (fun r S F => σ = S ∧ φ = F ∧ ((0 ≤ (Int32.toInt i) ∧ (Int32.toInt i) < (Int32.toInt (σ 11)) ∧ (Int32.toInt what) = 2) → r = (φ 5) (Int32.toNatClampNeg i)))) (cB dC dI a κ) (cA a)) 0 0 (cA a) := by
  refine Met.ofW (cc := cX0_tellHousehold) (maxL := 3) (ret := (some .int)) (by decide) rfl ?_
  intro p e s m args below meth c s₁ B hml hv
  obtain ⟨rfl, hP, hK, hI, hN, hX⟩ := hv
  have hx := B.exec
  have hb := B.bytes
  have hr := B.returns
  have hts := atoms_spec (ws := wsX0_tellHousehold) B.pre
  have hown : s.vm.findClass RX0 = some m.cls := findClass_of_methodNamed B.named
  have hlocks := B.notSynchronized
  have hS : va_S (cA a) s.heap s.heap [] := va_S.rf
  have hinX0 : ∀ w ∈ wsX00, w ∈ wsX0_tellHousehold := fun _ h => List.mem_cons_of_mem _ (List.mem_append_right _ h)
  have hl := lv_entry ([.ref (a 4), .int i, .int what]) (n := 3) (Nat.le_of_ble_eq_true rfl)
  rw [lg_entry_eq]
  generalize (lg_sl ([.ref (a 4), .int i, .int what]) ++ List.replicate (3 - (lg_sl ([.ref (a 4), .int i, .int what])).length) Slot.unset).toArray = ls at hl ⊢
  have hl : lv_has ls 3 [(0, .ref (a 4)), (1, .int i), (2, .int what)] := hl
  refine lv_iload_n hx hb dX0_tellHousehold_0 rfl (lv_at hl 1 rfl) ?_
  refine lv_if_lt (tgt := 18) hx hb dX0_tellHousehold_1 (by decide) (fun c_1 => ?_) (fun c_1 => ?_)
  · have kc_1 := bI_lt rfl L_0 c_1
    refine lv_iconst (v := (-1)) hx hb dX0_tellHousehold_18 (by decide) ?_
    exact W.iret (v := (-1)) hx hb hr (fun t ht hW => ⟨⟨(-1), (σ, φ, γ, ψ), rfl, ⟨rfl, rfl, (fun h => absurd h (by omega))⟩, (by show va_P _ _ _ _; rw [ht]; exact hP)⟩, hS.F ht⟩) hS.2.2 dX0_tellHousehold_19
  · have kc_1 := bI_nlt rfl L_0 c_1
    refine lv_iload_n hx hb dX0_tellHousehold_4 rfl (lv_at hl 1 rfl) ?_
    refine lv_aload_n hx hb dX0_tellHousehold_5 rfl (lv_at hl 0 rfl) ?_
    refine cg_4_4 (v := (σ 11)) hx hb hts hinX0 hown hK hP (hts (.fieldLink RX0 29 "CensusDesk$Book" "households" "I") (List.mem_of_getElem? (i := 1) rfl)) rfl dX0_tellHousehold_6 ?_
    refine lv_icmp_ge (tgt := 18) hx hb dX0_tellHousehold_9 (by decide) (fun c_2 => ?_) (fun c_2 => ?_)
    · have kc_2 := bI_le rfl rfl c_2
      refine lv_iconst (v := (-1)) hx hb dX0_tellHousehold_18 (by decide) ?_
      exact W.iret (v := (-1)) hx hb hr (fun t ht hW => ⟨⟨(-1), (σ, φ, γ, ψ), rfl, ⟨rfl, rfl, (fun h => absurd h (by omega))⟩, (by show va_P _ _ _ _; rw [ht]; exact hP)⟩, hS.F ht⟩) hS.2.2 dX0_tellHousehold_19
    · have kc_2 := bI_nle rfl rfl c_2
      refine lv_iload_n hx hb dX0_tellHousehold_12 rfl (lv_at hl 1 rfl) ?_
      refine lv_bipush (v := 60) hx hb dX0_tellHousehold_13 (by decide) ?_
      refine lv_icmp_lt (tgt := 20) hx hb dX0_tellHousehold_15 (by decide) (fun c_3 => ?_) (fun c_3 => ?_)
      · have kc_3 := bI_lt rfl L_60 c_3
        refine lv_iload_n hx hb dX0_tellHousehold_20 rfl (lv_at hl 2 rfl) ?_
        refine lv_if_lt (tgt := 40) hx hb dX0_tellHousehold_21 (by decide) (fun c_4 => ?_) (fun c_4 => ?_)
        · have kc_4 := bI_lt rfl L_0 c_4
          refine lv_iconst (v := (-1)) hx hb dX0_tellHousehold_40 (by decide) ?_
          exact W.iret (v := (-1)) hx hb hr (fun t ht hW => ⟨⟨(-1), (σ, φ, γ, ψ), rfl, ⟨rfl, rfl, (fun h => absurd h (by omega))⟩, (by show va_P _ _ _ _; rw [ht]; exact hP)⟩, hS.F ht⟩) hS.2.2 dX0_tellHousehold_41
        · have kc_4 := bI_nlt rfl L_0 c_4
          refine lv_iload_n hx hb dX0_tellHousehold_24 rfl (lv_at hl 2 rfl) ?_
          refine lv_iconst (v := 5) hx hb dX0_tellHousehold_25 (by decide) ?_
          refine lv_icmp_ge (tgt := 40) hx hb dX0_tellHousehold_26 (by decide) (fun c_5 => ?_) (fun c_5 => ?_)
          · have kc_5 := bI_le L_5 rfl c_5
            refine lv_iconst (v := (-1)) hx hb dX0_tellHousehold_40 (by decide) ?_
            exact W.iret (v := (-1)) hx hb hr (fun t ht hW => ⟨⟨(-1), (σ, φ, γ, ψ), rfl, ⟨rfl, rfl, (fun h => absurd h (by omega))⟩, (by show va_P _ _ _ _; rw [ht]; exact hP)⟩, hS.F ht⟩) hS.2.2 dX0_tellHousehold_41
          · have kc_5 := bI_nle L_5 rfl c_5
            refine lv_aload_n hx hb dX0_tellHousehold_29 rfl (lv_at hl 0 rfl) ?_
            refine cg_4_0 hx hb hts hinX0 hown hK hP (hts (.fieldLink RX0 13 "CensusDesk$Book" "householdFacts" "[[I") (List.mem_of_getElem? (i := 2) rfl)) dX0_tellHousehold_30 ?_
            refine lv_iload_n hx hb dX0_tellHousehold_33 rfl (lv_at hl 2 rfl) ?_
            rcases (show (Int32.toInt what) = 0 ∨ (Int32.toInt what) = 1 ∨ (Int32.toInt what) = 2 ∨ (Int32.toInt what) = 3 ∨ (Int32.toInt what) = 4 from by omega) with ix_6 | ix_6 | ix_6 | ix_6 | ix_6
            · have eix_6 : what = 0 := Int32.toInt_inj.mp (ix_6.trans L_0.symm)
              rw [eix_6]
              refine cr_21_0 hx hb hK hP dX0_tellHousehold_34 ?_
              refine lv_iload_n hx hb dX0_tellHousehold_35 rfl (lv_at hl 1 rfl) ?_
              refine cl_22 (f := (ψ 10)) hx hb hK hP (i := i) (vin rfl (by omega)) rfl dX0_tellHousehold_36 ?_
              refine lv_topi (fun z_7 ez_7 => ?_)
              refine lv_goto (tgt := 41) hx hb dX0_tellHousehold_37 (by decide) ?_
              exact W.iret (v := z_7) hx hb hr (fun t ht hW => ⟨⟨z_7, (σ, φ, γ, ψ), rfl, ⟨rfl, rfl, (fun h => absurd h (by have := L_0; omega))⟩, (by show va_P _ _ _ _; rw [ht]; exact hP)⟩, hS.F ht⟩) hS.2.2 dX0_tellHousehold_41
            · have eix_6 : what = 1 := Int32.toInt_inj.mp (ix_6.trans L_1.symm)
              rw [eix_6]
              refine cr_21_1 hx hb hK hP dX0_tellHousehold_34 ?_
              refine lv_iload_n hx hb dX0_tellHousehold_35 rfl (lv_at hl 1 rfl) ?_
              refine cl_23 (f := (ψ 11)) hx hb hK hP (i := i) (vin rfl (by omega)) rfl dX0_tellHousehold_36 ?_
              refine lv_topi (fun z_8 ez_8 => ?_)
              refine lv_goto (tgt := 41) hx hb dX0_tellHousehold_37 (by decide) ?_
              exact W.iret (v := z_8) hx hb hr (fun t ht hW => ⟨⟨z_8, (σ, φ, γ, ψ), rfl, ⟨rfl, rfl, (fun h => absurd h (by have := L_1; omega))⟩, (by show va_P _ _ _ _; rw [ht]; exact hP)⟩, hS.F ht⟩) hS.2.2 dX0_tellHousehold_41
            · have eix_6 : what = 2 := Int32.toInt_inj.mp (ix_6.trans L_2.symm)
              rw [eix_6]
              refine cr_21_2 hx hb hK hP dX0_tellHousehold_34 ?_
              refine lv_iload_n hx hb dX0_tellHousehold_35 rfl (lv_at hl 1 rfl) ?_
              refine cl_24 (f := (φ 5)) hx hb hK hP (i := i) (vin rfl (by omega)) rfl dX0_tellHousehold_36 ?_
              refine lv_topi (fun z_9 ez_9 => ?_)
              have tz_9 : (Int32.toInt z_9) = Int32.toInt ((φ 5) (Int32.toNatClampNeg i)) := congrArg Int32.toInt ez_9
              refine lv_goto (tgt := 41) hx hb dX0_tellHousehold_37 (by decide) ?_
              exact W.iret (v := z_9) hx hb hr (fun t ht hW => ⟨⟨z_9, (σ, φ, γ, ψ), rfl, ⟨rfl, rfl, (fun _ => ez_9)⟩, (by show va_P _ _ _ _; rw [ht]; exact hP)⟩, hS.F ht⟩) hS.2.2 dX0_tellHousehold_41
            · have eix_6 : what = 3 := Int32.toInt_inj.mp (ix_6.trans L_3.symm)
              rw [eix_6]
              refine cr_21_3 hx hb hK hP dX0_tellHousehold_34 ?_
              refine lv_iload_n hx hb dX0_tellHousehold_35 rfl (lv_at hl 1 rfl) ?_
              refine cl_25 (f := (ψ 12)) hx hb hK hP (i := i) (vin rfl (by omega)) rfl dX0_tellHousehold_36 ?_
              refine lv_topi (fun z_10 ez_10 => ?_)
              refine lv_goto (tgt := 41) hx hb dX0_tellHousehold_37 (by decide) ?_
              exact W.iret (v := z_10) hx hb hr (fun t ht hW => ⟨⟨z_10, (σ, φ, γ, ψ), rfl, ⟨rfl, rfl, (fun h => absurd h (by have := L_3; omega))⟩, (by show va_P _ _ _ _; rw [ht]; exact hP)⟩, hS.F ht⟩) hS.2.2 dX0_tellHousehold_41
            · have eix_6 : what = 4 := Int32.toInt_inj.mp (ix_6.trans L_4.symm)
              rw [eix_6]
              refine cr_21_4 hx hb hK hP dX0_tellHousehold_34 ?_
              refine lv_iload_n hx hb dX0_tellHousehold_35 rfl (lv_at hl 1 rfl) ?_
              refine cl_26 (f := (ψ 13)) hx hb hK hP (i := i) (vin rfl (by omega)) rfl dX0_tellHousehold_36 ?_
              refine lv_topi (fun z_11 ez_11 => ?_)
              refine lv_goto (tgt := 41) hx hb dX0_tellHousehold_37 (by decide) ?_
              exact W.iret (v := z_11) hx hb hr (fun t ht hW => ⟨⟨z_11, (σ, φ, γ, ψ), rfl, ⟨rfl, rfl, (fun h => absurd h (by have := L_4; omega))⟩, (by show va_P _ _ _ _; rw [ht]; exact hP)⟩, hS.F ht⟩) hS.2.2 dX0_tellHousehold_41
      · have kc_3 := bI_nlt rfl L_60 c_3
        refine lv_iconst (v := (-1)) hx hb dX0_tellHousehold_18 (by decide) ?_
        exact W.iret (v := (-1)) hx hb hr (fun t ht hW => ⟨⟨(-1), (σ, φ, γ, ψ), rfl, ⟨rfl, rfl, (fun h => absurd h (by omega))⟩, (by show va_P _ _ _ _; rw [ht]; exact hP)⟩, hS.F ht⟩) hS.2.2 dX0_tellHousehold_19
set_option maxHeartbeats 4000000 in
set_option maxRecDepth 100000 in
theorem c_X0_tellPerson (l : Launch) (dC : Nat → ClassId) (dI : Nat → Nat → Nat) (a : Nat → Nat) (κ : Nat → ClassId) (σ : Nat → Int32) (φ : Nat → Nat → Int32) (γ : Nat → Int32) (ψ : Nat → Nat → Int32) (g1 g2 : Nat) (i : Int32) (what : Int32) (hb : 0 ≤ (Int32.toInt (σ 11)) ∧ (Int32.toInt (σ 11)) ≤ 60 ∧ 0 ≤ (Int32.toInt (σ 12)) ∧ (Int32.toInt (σ 12)) ≤ 300) : Met l yX0_tellPerson wsX0_tellPerson ({ frames := 0, cells := 0, slots := 0, locals := 0 } : Room) (va_Pc [.ref (a 4), .int i, .int what] (cPre dC dI a κ (σ, φ, γ, ψ) g1 g2)) (va_Qi (QI (fun r S F => σ = S ∧ φ = F ∧ ((0 ≤ (Int32.toInt i) ∧ (Int32.toInt i) < (Int32.toInt (σ 12)) ∧ (Int32.toInt what) = 0) → r = (φ 6) (Int32.toNatClampNeg i)) ∧ ((0 ≤ (Int32.toInt i) ∧ (Int32.toInt i) < (Int32.toInt (σ 12)) ∧ (Int32.toInt what) = 1) → r = (φ 7) (Int32.toNatClampNeg i)) ∧ (((Int32.toInt i) < 0 ∨ (Int32.toInt (σ 12)) ≤ (Int32.toInt i)) → (Int32.toInt r) = -1))) (cB dC dI a κ) (cA a)) 0 0 (cA a) := by
  refine Met.ofW (cc := cX0_tellPerson) (maxL := 3) (ret := (some .int)) (by decide) rfl ?_
  intro p e s m args below meth c s₁ B hml hv
  obtain ⟨rfl, hP, hK, hI, hN, hX⟩ := hv
  have hx := B.exec
  have hb := B.bytes
  have hr := B.returns
  have hts := atoms_spec (ws := wsX0_tellPerson) B.pre
  have hown : s.vm.findClass RX0 = some m.cls := findClass_of_methodNamed B.named
  have hlocks := B.notSynchronized
  have hS : va_S (cA a) s.heap s.heap [] := va_S.rf
  have hinX0 : ∀ w ∈ wsX00, w ∈ wsX0_tellPerson := fun _ h => List.mem_cons_of_mem _ (List.mem_append_right _ h)
  have hl := lv_entry ([.ref (a 4), .int i, .int what]) (n := 3) (Nat.le_of_ble_eq_true rfl)
  rw [lg_entry_eq]
  generalize (lg_sl ([.ref (a 4), .int i, .int what]) ++ List.replicate (3 - (lg_sl ([.ref (a 4), .int i, .int what])).length) Slot.unset).toArray = ls at hl ⊢
  have hl : lv_has ls 3 [(0, .ref (a 4)), (1, .int i), (2, .int what)] := hl
  refine lv_iload_n hx hb dX0_tellPerson_0 rfl (lv_at hl 1 rfl) ?_
  refine lv_if_lt (tgt := 19) hx hb dX0_tellPerson_1 (by decide) (fun c_1 => ?_) (fun c_1 => ?_)
  · have kc_1 := bI_lt rfl L_0 c_1
    refine lv_iconst (v := (-1)) hx hb dX0_tellPerson_19 (by decide) ?_
    exact W.iret (v := (-1)) hx hb hr (fun t ht hW => ⟨⟨(-1), (σ, φ, γ, ψ), rfl, ⟨rfl, rfl, (fun h => absurd h (by omega)), (fun h => absurd h (by omega)), (show ((Int32.toInt i) < 0 ∨ (Int32.toInt (σ 12)) ≤ (Int32.toInt i)) → (Int32.toInt (-1)) = -1 from (by have := L_m1; omega))⟩, (by show va_P _ _ _ _; rw [ht]; exact hP)⟩, hS.F ht⟩) hS.2.2 dX0_tellPerson_20
  · have kc_1 := bI_nlt rfl L_0 c_1
    refine lv_iload_n hx hb dX0_tellPerson_4 rfl (lv_at hl 1 rfl) ?_
    refine lv_aload_n hx hb dX0_tellPerson_5 rfl (lv_at hl 0 rfl) ?_
    refine cg_4_5 (v := (σ 12)) hx hb hts hinX0 hown hK hP (hts (.fieldLink RX0 33 "CensusDesk$Book" "persons" "I") (List.mem_of_getElem? (i := 1) rfl)) rfl dX0_tellPerson_6 ?_
    refine lv_icmp_ge (tgt := 19) hx hb dX0_tellPerson_9 (by decide) (fun c_2 => ?_) (fun c_2 => ?_)
    · have kc_2 := bI_le rfl rfl c_2
      refine lv_iconst (v := (-1)) hx hb dX0_tellPerson_19 (by decide) ?_
      exact W.iret (v := (-1)) hx hb hr (fun t ht hW => ⟨⟨(-1), (σ, φ, γ, ψ), rfl, ⟨rfl, rfl, (fun h => absurd h (by omega)), (fun h => absurd h (by omega)), (show ((Int32.toInt i) < 0 ∨ (Int32.toInt (σ 12)) ≤ (Int32.toInt i)) → (Int32.toInt (-1)) = -1 from (by have := L_m1; omega))⟩, (by show va_P _ _ _ _; rw [ht]; exact hP)⟩, hS.F ht⟩) hS.2.2 dX0_tellPerson_20
    · have kc_2 := bI_nle rfl rfl c_2
      refine lv_iload_n hx hb dX0_tellPerson_12 rfl (lv_at hl 1 rfl) ?_
      refine lv_sipush (v := 300) hx hb dX0_tellPerson_13 (by decide) ?_
      refine lv_icmp_lt (tgt := 21) hx hb dX0_tellPerson_16 (by decide) (fun c_3 => ?_) (fun c_3 => ?_)
      · have kc_3 := bI_lt rfl L_300 c_3
        refine lv_iload_n hx hb dX0_tellPerson_21 rfl (lv_at hl 2 rfl) ?_
        refine lv_if_lt (tgt := 41) hx hb dX0_tellPerson_22 (by decide) (fun c_4 => ?_) (fun c_4 => ?_)
        · have kc_4 := bI_lt rfl L_0 c_4
          refine lv_iconst (v := (-1)) hx hb dX0_tellPerson_41 (by decide) ?_
          exact W.iret (v := (-1)) hx hb hr (fun t ht hW => ⟨⟨(-1), (σ, φ, γ, ψ), rfl, ⟨rfl, rfl, (fun h => absurd h (by omega)), (fun h => absurd h (by omega)), (show ((Int32.toInt i) < 0 ∨ (Int32.toInt (σ 12)) ≤ (Int32.toInt i)) → (Int32.toInt (-1)) = -1 from (by have := L_m1; omega))⟩, (by show va_P _ _ _ _; rw [ht]; exact hP)⟩, hS.F ht⟩) hS.2.2 dX0_tellPerson_42
        · have kc_4 := bI_nlt rfl L_0 c_4
          refine lv_iload_n hx hb dX0_tellPerson_25 rfl (lv_at hl 2 rfl) ?_
          refine lv_iconst (v := 5) hx hb dX0_tellPerson_26 (by decide) ?_
          refine lv_icmp_ge (tgt := 41) hx hb dX0_tellPerson_27 (by decide) (fun c_5 => ?_) (fun c_5 => ?_)
          · have kc_5 := bI_le L_5 rfl c_5
            refine lv_iconst (v := (-1)) hx hb dX0_tellPerson_41 (by decide) ?_
            exact W.iret (v := (-1)) hx hb hr (fun t ht hW => ⟨⟨(-1), (σ, φ, γ, ψ), rfl, ⟨rfl, rfl, (fun h => absurd h (by omega)), (fun h => absurd h (by omega)), (show ((Int32.toInt i) < 0 ∨ (Int32.toInt (σ 12)) ≤ (Int32.toInt i)) → (Int32.toInt (-1)) = -1 from (by have := L_m1; omega))⟩, (by show va_P _ _ _ _; rw [ht]; exact hP)⟩, hS.F ht⟩) hS.2.2 dX0_tellPerson_42
          · have kc_5 := bI_nle L_5 rfl c_5
            refine lv_aload_n hx hb dX0_tellPerson_30 rfl (lv_at hl 0 rfl) ?_
            refine cg_4_1 hx hb hts hinX0 hown hK hP (hts (.fieldLink RX0 16 "CensusDesk$Book" "personFacts" "[[I") (List.mem_of_getElem? (i := 2) rfl)) dX0_tellPerson_31 ?_
            refine lv_iload_n hx hb dX0_tellPerson_34 rfl (lv_at hl 2 rfl) ?_
            rcases (show (Int32.toInt what) = 0 ∨ (Int32.toInt what) = 1 ∨ (Int32.toInt what) = 2 ∨ (Int32.toInt what) = 3 ∨ (Int32.toInt what) = 4 from by omega) with ix_6 | ix_6 | ix_6 | ix_6 | ix_6
            · have eix_6 : what = 0 := Int32.toInt_inj.mp (ix_6.trans L_0.symm)
              rw [eix_6]
              refine cr_27_0 hx hb hK hP dX0_tellPerson_35 ?_
              refine lv_iload_n hx hb dX0_tellPerson_36 rfl (lv_at hl 1 rfl) ?_
              refine cl_28 (f := (φ 6)) hx hb hK hP (i := i) (vin rfl (by omega)) rfl dX0_tellPerson_37 ?_
              refine lv_topi (fun z_7 ez_7 => ?_)
              have tz_7 : (Int32.toInt z_7) = Int32.toInt ((φ 6) (Int32.toNatClampNeg i)) := congrArg Int32.toInt ez_7
              refine lv_goto (tgt := 42) hx hb dX0_tellPerson_38 (by decide) ?_
              exact W.iret (v := z_7) hx hb hr (fun t ht hW => ⟨⟨z_7, (σ, φ, γ, ψ), rfl, ⟨rfl, rfl, (fun _ => ez_7), (fun h => absurd h (by have := L_0; omega)), (show ((Int32.toInt i) < 0 ∨ (Int32.toInt (σ 12)) ≤ (Int32.toInt i)) → (Int32.toInt z_7) = -1 from (by omega))⟩, (by show va_P _ _ _ _; rw [ht]; exact hP)⟩, hS.F ht⟩) hS.2.2 dX0_tellPerson_42
            · have eix_6 : what = 1 := Int32.toInt_inj.mp (ix_6.trans L_1.symm)
              rw [eix_6]
              refine cr_27_1 hx hb hK hP dX0_tellPerson_35 ?_
              refine lv_iload_n hx hb dX0_tellPerson_36 rfl (lv_at hl 1 rfl) ?_
              refine cl_29 (f := (φ 7)) hx hb hK hP (i := i) (vin rfl (by omega)) rfl dX0_tellPerson_37 ?_
              refine lv_topi (fun z_8 ez_8 => ?_)
              have tz_8 : (Int32.toInt z_8) = Int32.toInt ((φ 7) (Int32.toNatClampNeg i)) := congrArg Int32.toInt ez_8
              refine lv_goto (tgt := 42) hx hb dX0_tellPerson_38 (by decide) ?_
              exact W.iret (v := z_8) hx hb hr (fun t ht hW => ⟨⟨z_8, (σ, φ, γ, ψ), rfl, ⟨rfl, rfl, (fun h => absurd h (by have := L_1; omega)), (fun _ => ez_8), (show ((Int32.toInt i) < 0 ∨ (Int32.toInt (σ 12)) ≤ (Int32.toInt i)) → (Int32.toInt z_8) = -1 from (by omega))⟩, (by show va_P _ _ _ _; rw [ht]; exact hP)⟩, hS.F ht⟩) hS.2.2 dX0_tellPerson_42
            · have eix_6 : what = 2 := Int32.toInt_inj.mp (ix_6.trans L_2.symm)
              rw [eix_6]
              refine cr_27_2 hx hb hK hP dX0_tellPerson_35 ?_
              refine lv_iload_n hx hb dX0_tellPerson_36 rfl (lv_at hl 1 rfl) ?_
              refine cl_30 (f := (ψ 14)) hx hb hK hP (i := i) (vin rfl (by omega)) rfl dX0_tellPerson_37 ?_
              refine lv_topi (fun z_9 ez_9 => ?_)
              refine lv_goto (tgt := 42) hx hb dX0_tellPerson_38 (by decide) ?_
              exact W.iret (v := z_9) hx hb hr (fun t ht hW => ⟨⟨z_9, (σ, φ, γ, ψ), rfl, ⟨rfl, rfl, (fun h => absurd h (by have := L_2; omega)), (fun h => absurd h (by have := L_2; omega)), (show ((Int32.toInt i) < 0 ∨ (Int32.toInt (σ 12)) ≤ (Int32.toInt i)) → (Int32.toInt z_9) = -1 from (by omega))⟩, (by show va_P _ _ _ _; rw [ht]; exact hP)⟩, hS.F ht⟩) hS.2.2 dX0_tellPerson_42
            · have eix_6 : what = 3 := Int32.toInt_inj.mp (ix_6.trans L_3.symm)
              rw [eix_6]
              refine cr_27_3 hx hb hK hP dX0_tellPerson_35 ?_
              refine lv_iload_n hx hb dX0_tellPerson_36 rfl (lv_at hl 1 rfl) ?_
              refine cl_31 (f := (ψ 15)) hx hb hK hP (i := i) (vin rfl (by omega)) rfl dX0_tellPerson_37 ?_
              refine lv_topi (fun z_10 ez_10 => ?_)
              refine lv_goto (tgt := 42) hx hb dX0_tellPerson_38 (by decide) ?_
              exact W.iret (v := z_10) hx hb hr (fun t ht hW => ⟨⟨z_10, (σ, φ, γ, ψ), rfl, ⟨rfl, rfl, (fun h => absurd h (by have := L_3; omega)), (fun h => absurd h (by have := L_3; omega)), (show ((Int32.toInt i) < 0 ∨ (Int32.toInt (σ 12)) ≤ (Int32.toInt i)) → (Int32.toInt z_10) = -1 from (by omega))⟩, (by show va_P _ _ _ _; rw [ht]; exact hP)⟩, hS.F ht⟩) hS.2.2 dX0_tellPerson_42
            · have eix_6 : what = 4 := Int32.toInt_inj.mp (ix_6.trans L_4.symm)
              rw [eix_6]
              refine cr_27_4 hx hb hK hP dX0_tellPerson_35 ?_
              refine lv_iload_n hx hb dX0_tellPerson_36 rfl (lv_at hl 1 rfl) ?_
              refine cl_32 (f := (ψ 16)) hx hb hK hP (i := i) (vin rfl (by omega)) rfl dX0_tellPerson_37 ?_
              refine lv_topi (fun z_11 ez_11 => ?_)
              refine lv_goto (tgt := 42) hx hb dX0_tellPerson_38 (by decide) ?_
              exact W.iret (v := z_11) hx hb hr (fun t ht hW => ⟨⟨z_11, (σ, φ, γ, ψ), rfl, ⟨rfl, rfl, (fun h => absurd h (by have := L_4; omega)), (fun h => absurd h (by have := L_4; omega)), (show ((Int32.toInt i) < 0 ∨ (Int32.toInt (σ 12)) ≤ (Int32.toInt i)) → (Int32.toInt z_11) = -1 from (by omega))⟩, (by show va_P _ _ _ _; rw [ht]; exact hP)⟩, hS.F ht⟩) hS.2.2 dX0_tellPerson_42
      · have kc_3 := bI_nlt rfl L_300 c_3
        refine lv_iconst (v := (-1)) hx hb dX0_tellPerson_19 (by decide) ?_
        exact W.iret (v := (-1)) hx hb hr (fun t ht hW => ⟨⟨(-1), (σ, φ, γ, ψ), rfl, ⟨rfl, rfl, (fun h => absurd h (by omega)), (fun h => absurd h (by omega)), (show ((Int32.toInt i) < 0 ∨ (Int32.toInt (σ 12)) ≤ (Int32.toInt i)) → (Int32.toInt (-1)) = -1 from (by have := L_m1; omega))⟩, (by show va_P _ _ _ _; rw [ht]; exact hP)⟩, hS.F ht⟩) hS.2.2 dX0_tellPerson_20
set_option maxHeartbeats 4000000 in
set_option maxRecDepth 100000 in
theorem c_X0_signOf (l : Launch) (dC : Nat → ClassId) (dI : Nat → Nat → Nat) (a : Nat → Nat) (κ : Nat → ClassId) (σ : Nat → Int32) (φ : Nat → Nat → Int32) (γ : Nat → Int32) (ψ : Nat → Nat → Int32) (g1 g2 : Nat) (i : Int32) (k : Int32) (hb : 0 ≤ (Int32.toInt (σ 11)) ∧ (Int32.toInt (σ 11)) ≤ 60 ∧ 0 ≤ (Int32.toInt (σ 12)) ∧ (Int32.toInt (σ 12)) ≤ 300) : Met l yX0_signOf wsX0_signOf ({ frames := 1, cells := 0, slots := 0, locals := 22 } : Room) (va_Pc [.ref (a 4), .int i, .int k] (cPre dC dI a κ (σ, φ, γ, ψ) g1 g2)) (va_Qi (QI (fun r S F => σ = S ∧ φ = F ∧ True)) (cB dC dI a κ) (cA a)) 0 0 (cA a) := by
  refine Met.ofW (cc := cX0_signOf) (maxL := 3) (ret := (some .int)) (by decide) rfl ?_
  intro p e s m args below meth c s₁ B hml hv
  obtain ⟨rfl, hP, hK, hI, hN, hX⟩ := hv
  have hx := B.exec
  have hb := B.bytes
  have hr := B.returns
  have hts := atoms_spec (ws := wsX0_signOf) B.pre
  have hown : s.vm.findClass RX0 = some m.cls := findClass_of_methodNamed B.named
  have hlocks := B.notSynchronized
  have hS : va_S (cA a) s.heap s.heap [] := va_S.rf
  have hinX0 : ∀ w ∈ wsX00, w ∈ wsX0_signOf := fun _ h => List.mem_cons_of_mem _ (List.mem_append_right _ h)
  have hl := lv_entry ([.ref (a 4), .int i, .int k]) (n := 3) (Nat.le_of_ble_eq_true rfl)
  rw [lg_entry_eq]
  generalize (lg_sl ([.ref (a 4), .int i, .int k]) ++ List.replicate (3 - (lg_sl ([.ref (a 4), .int i, .int k])).length) Slot.unset).toArray = ls at hl ⊢
  have hl : lv_has ls 3 [(0, .ref (a 4)), (1, .int i), (2, .int k)] := hl
  refine lv_iload_n hx hb dX0_signOf_0 rfl (lv_at hl 2 rfl) ?_
  refine lv_if_lt (tgt := 20) hx hb dX0_signOf_1 (by decide) (fun c_1 => ?_) (fun c_1 => ?_)
  · have kc_1 := bI_lt rfl L_0 c_1
    refine lv_iconst (v := 0) hx hb dX0_signOf_20 (by decide) ?_
    exact W.iret (v := 0) hx hb hr (fun t ht hW => ⟨⟨0, (σ, φ, γ, ψ), rfl, ⟨rfl, rfl, trivial⟩, (by show va_P _ _ _ _; rw [ht]; exact hP)⟩, hS.F ht⟩) hS.2.2 dX0_signOf_21
  · have kc_1 := bI_nlt rfl L_0 c_1
    refine lv_iload_n hx hb dX0_signOf_4 rfl (lv_at hl 2 rfl) ?_
    refine lv_bipush (v := 30) hx hb dX0_signOf_5 (by decide) ?_
    refine lv_icmp_ge (tgt := 20) hx hb dX0_signOf_7 (by decide) (fun c_2 => ?_) (fun c_2 => ?_)
    · have kc_2 := bI_le L_30 rfl c_2
      refine lv_iconst (v := 0) hx hb dX0_signOf_20 (by decide) ?_
      exact W.iret (v := 0) hx hb hr (fun t ht hW => ⟨⟨0, (σ, φ, γ, ψ), rfl, ⟨rfl, rfl, trivial⟩, (by show va_P _ _ _ _; rw [ht]; exact hP)⟩, hS.F ht⟩) hS.2.2 dX0_signOf_21
    · have kc_2 := bI_nle L_30 rfl c_2
      refine lv_iload_n hx hb dX0_signOf_10 rfl (lv_at hl 2 rfl) ?_
      refine lv_aload_n hx hb dX0_signOf_11 rfl (lv_at hl 0 rfl) ?_
      refine lv_iload_n hx hb dX0_signOf_12 rfl (lv_at hl 1 rfl) ?_
      refine lv_iconst (v := 3) hx hb dX0_signOf_13 (by decide) ?_
      refine c_calli (va_runV (As := [.int i, .int 3]) (rest := [.int k]) ⟨hx, hb, hml, hown, hts⟩ (c_X0_tellPerson l dC dI a κ σ φ γ ψ g1 g2 i 3 (show 0 ≤ (Int32.toInt (σ 11)) ∧ (Int32.toInt (σ 11)) ≤ 60 ∧ 0 ≤ (Int32.toInt (σ 12)) ∧ (Int32.toInt (σ 12)) ≤ 300 from (by omega))) (cwV 2 hts gX0_signOf_X0_tellPerson rfl rfl rfl ⟨rfl, hd_X0_tellPerson⟩ ⟨Nat.le_of_ble_eq_true rfl, Nat.le_of_ble_eq_true rfl⟩) (cPreV hP hK hI hN hX hS (va_recv hK hP (ci := 0) (q0 := 4) rfl rfl)) rfl rfl hl.1 rfl (lv_room (Nat.le_of_ble_eq_true rfl)) dX0_signOf_14 ⟨(by decide +kernel), (by decide +kernel)⟩) hS ?_
      clear hP hS; intro r_3 S_3 F_3 γ_3 ψ_3 H locs hw hP hS
      obtain ⟨rfl, rfl, (t0_3 : (0 ≤ (Int32.toInt i) ∧ (Int32.toInt i) < (Int32.toInt (σ 12)) ∧ (Int32.toInt 3) = 0) → r_3 = (φ 6) (Int32.toNatClampNeg i)), (t1_3 : (0 ≤ (Int32.toInt i) ∧ (Int32.toInt i) < (Int32.toInt (σ 12)) ∧ (Int32.toInt 3) = 1) → r_3 = (φ 7) (Int32.toNatClampNeg i)), (to_3 : ((Int32.toInt i) < 0 ∨ (Int32.toInt (σ 12)) ≤ (Int32.toInt i)) → (Int32.toInt r_3) = -1)⟩ := hw
      have hL3_3 := L_3
      refine lv_icmp_lt (tgt := 22) hx hb dX0_signOf_17 (by decide) (fun c_4 => ?_) (fun c_4 => ?_)
      · have kc_4 := bI_lt rfl rfl c_4
        refine lv_aload_n hx hb dX0_signOf_22 rfl (lv_at hl 0 rfl) ?_
        refine cg_4_2 hx hb hts hinX0 hown hK hP (hts (.fieldLink RX0 21 "CensusDesk$Book" "names" "[B") (List.mem_of_getElem? (i := 1) rfl)) dX0_signOf_23 ?_
        refine lv_iload_n hx hb dX0_signOf_26 rfl (lv_at hl 1 rfl) ?_
        refine lv_bipush (v := 30) hx hb dX0_signOf_27 (by decide) ?_
        refine lv_imul hx hb dX0_signOf_29 ?_
        refine lv_topi (fun z_5 ez_5 => ?_)
        have tz_5 : (Int32.toInt z_5) = (Int32.toInt i) * 30 := aI_mul rfl L_30 ez_5 (by have := rng i; omega)
        refine lv_iload_n hx hb dX0_signOf_30 rfl (lv_at hl 2 rfl) ?_
        refine lv_iadd hx hb dX0_signOf_31 ?_
        refine lv_topi (fun z_6 ez_6 => ?_)
        have tz_6 : (Int32.toInt z_6) = (Int32.toInt z_5) + (Int32.toInt k) := aI_add rfl rfl ez_6 (by have := rng z_5; have := rng k; omega)
        refine cl_33 (f := (ψ_3 17)) hx hb hK hP (i := z_6) (vin rfl (by omega)) rfl dX0_signOf_32 ?_
        refine lv_topi (fun z_7 ez_7 => ?_)
        refine lv_sipush (v := 255) hx hb dX0_signOf_33 (by decide) ?_
        refine lv_iand hx hb dX0_signOf_36 ?_
        refine lv_topi (fun z_8 ez_8 => ?_)
        exact W.iret (v := z_8) hx hb hr (fun t ht hW => ⟨⟨z_8, (σ, φ, γ_3, ψ_3), rfl, ⟨rfl, rfl, trivial⟩, (by show va_P _ _ _ _; rw [ht]; exact hP)⟩, hS.F ht⟩) hS.2.2 dX0_signOf_37
      · have kc_4 := bI_nlt rfl rfl c_4
        refine lv_iconst (v := 0) hx hb dX0_signOf_20 (by decide) ?_
        exact W.iret (v := 0) hx hb hr (fun t ht hW => ⟨⟨0, (σ, φ, γ_3, ψ_3), rfl, ⟨rfl, rfl, trivial⟩, (by show va_P _ _ _ _; rw [ht]; exact hP)⟩, hS.F ht⟩) hS.2.2 dX0_signOf_21
set_option maxHeartbeats 4000000 in
set_option maxRecDepth 100000 in
theorem c_X0_seek (l : Launch) (dC : Nat → ClassId) (dI : Nat → Nat → Nat) (a : Nat → Nat) (κ : Nat → ClassId) (σ : Nat → Int32) (φ : Nat → Nat → Int32) (γ : Nat → Int32) (ψ : Nat → Nat → Int32) (g1 g2 : Nat) (frm : Int32) (word : Int32) : Met l yX0_seek wsX0_seek ({ frames := 0, cells := 0, slots := 0, locals := 0 } : Room) (va_Pc [.ref (a 4), .int frm, .int word] (cPre dC dI a κ (σ, φ, γ, ψ) g1 g2)) (va_Qv (QV (fun S F => σ = S ∧ φ = F ∧ True)) (cB dC dI a κ) (cA a)) 0 0 (cA a) := by
  refine Met.ofW (cc := cX0_seek) (maxL := 5) (ret := none) (by decide) rfl ?_
  intro p e s m args below meth c s₁ B hml hv
  obtain ⟨rfl, hP, hK, hI, hN, hX⟩ := hv
  have hx := B.exec
  have hb := B.bytes
  have hr := B.returns
  have hts := atoms_spec (ws := wsX0_seek) B.pre
  have hown : s.vm.findClass RX0 = some m.cls := findClass_of_methodNamed B.named
  have hlocks := B.notSynchronized
  have hS : va_S (cA a) s.heap s.heap [] := va_S.rf
  have hinX0 : ∀ w ∈ wsX00, w ∈ wsX0_seek := fun _ h => List.mem_cons_of_mem _ (List.mem_append_right _ h)
  have hl := lv_entry ([.ref (a 4), .int frm, .int word]) (n := 5) (Nat.le_of_ble_eq_true rfl)
  rw [lg_entry_eq]
  generalize (lg_sl ([.ref (a 4), .int frm, .int word]) ++ List.replicate (5 - (lg_sl ([.ref (a 4), .int frm, .int word])).length) Slot.unset).toArray = ls at hl ⊢
  have hl : lv_has ls 5 [(0, .ref (a 4)), (1, .int frm), (2, .int word)] := hl
  refine k_gen (fun QQ eQ => ?_)
  have J2 : ∀ (n2 : Nat), ∀ (k : Int32) (γ : Nat → Int32) (ψ : Nat → Nat → Int32) (H : Heap) (locs : List Loc) (ls : Array Slot), (0 ≤ (Int32.toInt k)) → ((4 - (Int32.toInt k)).toNat < n2) → va_P (dC, dI) vwCl (cw a κ (σ, φ, γ, ψ)) H → va_S (cA a) s.heap H locs → lv_has ls 5 [(0, .ref (a 4)), (1, .int frm), (2, .int word), (3, .int k)] → W p l e ({ frames := 0, cells := 0, slots := 0, locals := 0 } : Room) s m ([.ref (a 4), .int frm, .int word] : List Value).toArray below meth c H locs 0 0 QQ (F0 m 2 ls []) := by
    intro n2
    induction n2 with
    | zero =>
      intro k γ ψ H locs ls v0 hm
      exact absurd hm (Nat.not_lt_zero _)
    | succ n2 ih2 =>
      intro k γ ψ H locs ls v0 hm hP hS hl
      refine lv_iload_n hx hb dX0_seek_2 rfl (lv_at hl 3 rfl) ?_
      refine lv_iconst (v := 4) hx hb dX0_seek_3 (by decide) ?_
      refine lv_icmp_ge (tgt := 50) hx hb dX0_seek_4 (by decide) (fun c_1 => ?_) (fun c_1 => ?_)
      · have kc_1 := bI_le L_4 rfl c_1
        subst eQ
        exact W.vret hx hb hr (fun t ht hW => ⟨⟨(σ, φ, γ, ψ), rfl, ⟨rfl, rfl, trivial⟩, (by show va_P _ _ _ _; rw [ht]; exact hP)⟩, hS.F ht⟩) hS.2.2 dX0_seek_50
      · have kc_1 := bI_nle L_4 rfl c_1
        refine lv_iload_n hx hb dX0_seek_7 rfl (lv_at hl 1 rfl) ?_
        refine lv_iload_n hx hb dX0_seek_8 rfl (lv_at hl 3 rfl) ?_
        refine lv_iadd hx hb dX0_seek_9 ?_
        refine lv_topi (fun z_2 ez_2 => ?_)
        refine lv_istore (lv' := [(4, .int z_2), (0, .ref (a 4)), (1, .int frm), (2, .int word), (3, .int k)]) hx hb dX0_seek_10 hl (by decide) rfl ?_
        clear hl; intro ls hl
        refine lv_iload hx hb dX0_seek_12 (lv_at hl 0 rfl) ?_
        refine lv_if_lt (tgt := 44) hx hb dX0_seek_14 (by decide) (fun c_3 => ?_) (fun c_3 => ?_)
        · have kc_3 := bI_lt rfl L_0 c_3
          obtain ⟨i_4, ei_4⟩ : ∃ z : Int32, z = k + 1 := ⟨_, rfl⟩
          refine lv_iinc (v := i_4) (lv' := [(3, .int i_4), (4, .int z_2), (0, .ref (a 4)), (1, .int frm), (2, .int word)]) hx hb dX0_seek_44 hl (k := 4) rfl (by rw [ei_4]; rfl) (by decide) rfl ?_
          clear hl; intro ls hl
          have ti_4 : (Int32.toInt i_4) = (Int32.toInt k) + 1 := aI_add rfl L_1 ei_4 (by have := rng k; omega)
          refine lv_goto (tgt := 2) hx hb dX0_seek_47 (by decide) ?_
          exact ih2 i_4 γ ψ _ _ _ (show 0 ≤ (Int32.toInt i_4) from (by omega)) (by omega) hP hS (lv_sub hl [2, 3, 4, 0] rfl)
        · have kc_3 := bI_nlt rfl L_0 c_3
          refine lv_iload hx hb dX0_seek_17 (lv_at hl 0 rfl) ?_
          refine lv_bipush (v := 16) hx hb dX0_seek_19 (by decide) ?_
          refine lv_icmp_ge (tgt := 44) hx hb dX0_seek_21 (by decide) (fun c_5 => ?_) (fun c_5 => ?_)
          · have kc_5 := bI_le L_16 rfl c_5
            obtain ⟨i_6, ei_6⟩ : ∃ z : Int32, z = k + 1 := ⟨_, rfl⟩
            refine lv_iinc (v := i_6) (lv' := [(3, .int i_6), (4, .int z_2), (0, .ref (a 4)), (1, .int frm), (2, .int word)]) hx hb dX0_seek_44 hl (k := 4) rfl (by rw [ei_6]; rfl) (by decide) rfl ?_
            clear hl; intro ls hl
            have ti_6 : (Int32.toInt i_6) = (Int32.toInt k) + 1 := aI_add rfl L_1 ei_6 (by have := rng k; omega)
            refine lv_goto (tgt := 2) hx hb dX0_seek_47 (by decide) ?_
            exact ih2 i_6 γ ψ _ _ _ (show 0 ≤ (Int32.toInt i_6) from (by omega)) (by omega) hP hS (lv_sub hl [2, 3, 4, 0] rfl)
          · have kc_5 := bI_nle L_16 rfl c_5
            refine lv_aload_n hx hb dX0_seek_24 rfl (lv_at hl 1 rfl) ?_
            refine cg_4_3 hx hb hts hinX0 hown hK hP (hts (.fieldLink RX0 25 "CensusDesk$Book" "sought" "[I") (List.mem_of_getElem? (i := 1) rfl)) dX0_seek_25 ?_
            refine lv_iload hx hb dX0_seek_28 (lv_at hl 0 rfl) ?_
            refine lv_iload_n hx hb dX0_seek_30 rfl (lv_at hl 3 rfl) ?_
            refine lv_bipush (v := 24) hx hb dX0_seek_31 (by decide) ?_
            refine lv_bipush (v := 8) hx hb dX0_seek_33 (by decide) ?_
            refine lv_iload_n hx hb dX0_seek_35 rfl (lv_at hl 4 rfl) ?_
            refine lv_imul hx hb dX0_seek_36 ?_
            refine lv_topi (fun z_7 ez_7 => ?_)
            refine lv_isub hx hb dX0_seek_37 ?_
            refine lv_topi (fun z_8 ez_8 => ?_)
            obtain ⟨z_9, ez_9⟩ : ∃ z : Int32, (Int32.toUInt32 word >>> (Int32.toUInt32 z_8 &&& Int32.toUInt32 31)).toInt32 = z := ⟨_, rfl⟩
            refine lv_iushr (v := z_9) hx hb dX0_seek_38 ez_9 ?_
            refine lv_sipush (v := 255) hx hb dX0_seek_39 (by decide) ?_
            refine lv_iand hx hb dX0_seek_42 ?_
            refine lv_topi (fun z_10 ez_10 => ?_)
            refine cs_34 (f := (ψ 18)) hx hb hK hP hI hS (i := z_2) (x := z_10) (vin rfl (by omega)) rfl dX0_seek_43 ?_
            clear hP hS; intro H locs hP hS
            obtain ⟨f_11, ef_11⟩ : ∃ z : Nat → Int32, z = upd (ψ 18) (Int32.toNatClampNeg z_2) z_10 := ⟨_, rfl⟩
            rw [← ef_11] at hP
            obtain ⟨i_12, ei_12⟩ : ∃ z : Int32, z = k + 1 := ⟨_, rfl⟩
            refine lv_iinc (v := i_12) (lv' := [(3, .int i_12), (4, .int z_2), (0, .ref (a 4)), (1, .int frm), (2, .int word)]) hx hb dX0_seek_44 hl (k := 4) rfl (by rw [ei_12]; rfl) (by decide) rfl ?_
            clear hl; intro ls hl
            have ti_12 : (Int32.toInt i_12) = (Int32.toInt k) + 1 := aI_add rfl L_1 ei_12 (by have := rng k; omega)
            refine lv_goto (tgt := 2) hx hb dX0_seek_47 (by decide) ?_
            exact ih2 i_12 γ (up ψ 18 f_11) _ _ _ (show 0 ≤ (Int32.toInt i_12) from (by omega)) (by omega) hP hS (lv_sub hl [2, 3, 4, 0] rfl)
  refine lv_iconst (v := 0) hx hb dX0_seek_0 (by decide) ?_
  refine lv_istore_n (lv' := [(3, .int 0), (0, .ref (a 4)), (1, .int frm), (2, .int word)]) hx hb dX0_seek_1 rfl hl (by decide) rfl ?_
  clear hl; intro ls hl
  exact J2 (_ + 1) 0 γ ψ _ _ _ (show 0 ≤ (Int32.toInt 0) from (by have := L_0; omega)) (Nat.lt_succ_self _) hP hS (lv_sub hl [1, 2, 3, 0] rfl)
set_option maxHeartbeats 4000000 in
set_option maxRecDepth 100000 in
theorem c_X0_soughtLength (l : Launch) (dC : Nat → ClassId) (dI : Nat → Nat → Nat) (a : Nat → Nat) (κ : Nat → ClassId) (σ : Nat → Int32) (φ : Nat → Nat → Int32) (γ : Nat → Int32) (ψ : Nat → Nat → Int32) (g1 g2 : Nat)  : Met l yX0_soughtLength wsX0_soughtLength ({ frames := 0, cells := 0, slots := 0, locals := 0 } : Room) (va_Pc [.ref (a 4)] (cPre dC dI a κ (σ, φ, γ, ψ) g1 g2)) (va_Qi (QI (fun r S F => σ = S ∧ φ = F ∧ True)) (cB dC dI a κ) (cA a)) 0 0 (cA a) := by
  refine Met.ofW (cc := cX0_soughtLength) (maxL := 2) (ret := (some .int)) (by decide) rfl ?_
  intro p e s m args below meth c s₁ B hml hv
  obtain ⟨rfl, hP, hK, hI, hN, hX⟩ := hv
  have hx := B.exec
  have hb := B.bytes
  have hr := B.returns
  have hts := atoms_spec (ws := wsX0_soughtLength) B.pre
  have hown : s.vm.findClass RX0 = some m.cls := findClass_of_methodNamed B.named
  have hlocks := B.notSynchronized
  have hS : va_S (cA a) s.heap s.heap [] := va_S.rf
  have hinX0 : ∀ w ∈ wsX00, w ∈ wsX0_soughtLength := fun _ h => List.mem_cons_of_mem _ (List.mem_append_right _ h)
  have hl := lv_entry ([.ref (a 4)]) (n := 2) (Nat.le_of_ble_eq_true rfl)
  rw [lg_entry_eq]
  generalize (lg_sl ([.ref (a 4)]) ++ List.replicate (2 - (lg_sl ([.ref (a 4)])).length) Slot.unset).toArray = ls at hl ⊢
  have hl : lv_has ls 2 [(0, .ref (a 4))] := hl
  refine k_gen (fun QQ eQ => ?_)
  have J2 : ∀ (n2 : Nat), ∀ (k : Int32) (γ : Nat → Int32) (ψ : Nat → Nat → Int32) (H : Heap) (locs : List Loc) (ls : Array Slot), (0 ≤ (Int32.toInt k)) → ((16 - (Int32.toInt k)).toNat < n2) → va_P (dC, dI) vwCl (cw a κ (σ, φ, γ, ψ)) H → va_S (cA a) s.heap H locs → lv_has ls 2 [(0, .ref (a 4)), (1, .int k)] → W p l e ({ frames := 0, cells := 0, slots := 0, locals := 0 } : Room) s m ([.ref (a 4)] : List Value).toArray below meth c H locs 0 0 QQ (F0 m 2 ls []) := by
    intro n2
    induction n2 with
    | zero =>
      intro k γ ψ H locs ls v0 hm
      exact absurd hm (Nat.not_lt_zero _)
    | succ n2 ih2 =>
      intro k γ ψ H locs ls v0 hm hP hS hl
      refine lv_iload_n hx hb dX0_soughtLength_2 rfl (lv_at hl 1 rfl) ?_
      refine lv_bipush (v := 16) hx hb dX0_soughtLength_3 (by decide) ?_
      refine lv_icmp_ge (tgt := 25) hx hb dX0_soughtLength_5 (by decide) (fun c_1 => ?_) (fun c_1 => ?_)
      · have kc_1 := bI_le L_16 rfl c_1
        refine lv_bipush (v := 16) hx hb dX0_soughtLength_25 (by decide) ?_
        subst eQ
        exact W.iret (v := 16) hx hb hr (fun t ht hW => ⟨⟨16, (σ, φ, γ, ψ), rfl, ⟨rfl, rfl, trivial⟩, (by show va_P _ _ _ _; rw [ht]; exact hP)⟩, hS.F ht⟩) hS.2.2 dX0_soughtLength_27
      · have kc_1 := bI_nle L_16 rfl c_1
        refine lv_aload_n hx hb dX0_soughtLength_8 rfl (lv_at hl 0 rfl) ?_
        refine cg_4_3 hx hb hts hinX0 hown hK hP (hts (.fieldLink RX0 25 "CensusDesk$Book" "sought" "[I") (List.mem_of_getElem? (i := 1) rfl)) dX0_soughtLength_9 ?_
        refine lv_iload_n hx hb dX0_soughtLength_12 rfl (lv_at hl 1 rfl) ?_
        refine cl_34 (f := (ψ 18)) hx hb hK hP (i := k) (vin rfl (by omega)) rfl dX0_soughtLength_13 ?_
        refine lv_topi (fun z_2 ez_2 => ?_)
        refine lv_if_ne (tgt := 19) hx hb dX0_soughtLength_14 (by decide) (fun c_3 => ?_) (fun c_3 => ?_)
        · have kc_3 := bI_ne rfl L_0 c_3
          obtain ⟨i_4, ei_4⟩ : ∃ z : Int32, z = k + 1 := ⟨_, rfl⟩
          refine lv_iinc (v := i_4) (lv' := [(1, .int i_4), (0, .ref (a 4))]) hx hb dX0_soughtLength_19 hl (k := 1) rfl (by rw [ei_4]; rfl) (by decide) rfl ?_
          clear hl; intro ls hl
          have ti_4 : (Int32.toInt i_4) = (Int32.toInt k) + 1 := aI_add rfl L_1 ei_4 (by have := rng k; omega)
          refine lv_goto (tgt := 2) hx hb dX0_soughtLength_22 (by decide) ?_
          exact ih2 i_4 γ ψ _ _ _ (show 0 ≤ (Int32.toInt i_4) from (by omega)) (by omega) hP hS (lv_sub hl [1, 0] rfl)
        · have kc_3 := bI_eq rfl L_0 c_3
          refine lv_iload_n hx hb dX0_soughtLength_17 rfl (lv_at hl 1 rfl) ?_
          subst eQ
          exact W.iret (v := k) hx hb hr (fun t ht hW => ⟨⟨k, (σ, φ, γ, ψ), rfl, ⟨rfl, rfl, trivial⟩, (by show va_P _ _ _ _; rw [ht]; exact hP)⟩, hS.F ht⟩) hS.2.2 dX0_soughtLength_18
  refine lv_iconst (v := 0) hx hb dX0_soughtLength_0 (by decide) ?_
  refine lv_istore_n (lv' := [(1, .int 0), (0, .ref (a 4))]) hx hb dX0_soughtLength_1 rfl hl (by decide) rfl ?_
  clear hl; intro ls hl
  exact J2 (_ + 1) 0 γ ψ _ _ _ (show 0 ≤ (Int32.toInt 0) from (by have := L_0; omega)) (Nat.lt_succ_self _) hP hS (lv_sub hl [1, 0] rfl)
set_option maxHeartbeats 4000000 in
set_option maxRecDepth 100000 in
theorem c_X0_beginsAsSought (l : Launch) (dC : Nat → ClassId) (dI : Nat → Nat → Nat) (a : Nat → Nat) (κ : Nat → ClassId) (σ : Nat → Int32) (φ : Nat → Nat → Int32) (γ : Nat → Int32) (ψ : Nat → Nat → Int32) (g1 g2 : Nat) (i : Int32) (length : Int32) (hb : 0 ≤ (Int32.toInt (σ 11)) ∧ (Int32.toInt (σ 11)) ≤ 60 ∧ 0 ≤ (Int32.toInt (σ 12)) ∧ (Int32.toInt (σ 12)) ≤ 300) : Met l yX0_beginsAsSought wsX0_beginsAsSought ({ frames := 2, cells := 0, slots := 0, locals := 44 } : Room) (va_Pc [.ref (a 4), .int i, .int length] (cPre dC dI a κ (σ, φ, γ, ψ) g1 g2)) (va_Qi (QI (fun r S F => σ = S ∧ φ = F ∧ True)) (cB dC dI a κ) (cA a)) 0 0 (cA a) := by
  refine Met.ofW (cc := cX0_beginsAsSought) (maxL := 4) (ret := (some .boolean)) (by decide) rfl ?_
  intro p e s m args below meth c s₁ B hml hv
  obtain ⟨rfl, hP, hK, hI, hN, hX⟩ := hv
  have hx := B.exec
  have hb := B.bytes
  have hr := B.returns
  have hts := atoms_spec (ws := wsX0_beginsAsSought) B.pre
  have hown : s.vm.findClass RX0 = some m.cls := findClass_of_methodNamed B.named
  have hlocks := B.notSynchronized
  have hS : va_S (cA a) s.heap s.heap [] := va_S.rf
  have hinX0 : ∀ w ∈ wsX00, w ∈ wsX0_beginsAsSought := fun _ h => List.mem_cons_of_mem _ (List.mem_append_right _ h)
  have hl := lv_entry ([.ref (a 4), .int i, .int length]) (n := 4) (Nat.le_of_ble_eq_true rfl)
  rw [lg_entry_eq]
  generalize (lg_sl ([.ref (a 4), .int i, .int length]) ++ List.replicate (4 - (lg_sl ([.ref (a 4), .int i, .int length])).length) Slot.unset).toArray = ls at hl ⊢
  have hl : lv_has ls 4 [(0, .ref (a 4)), (1, .int i), (2, .int length)] := hl
  refine k_gen (fun QQ eQ => ?_)
  have J2 : ∀ (n2 : Nat), ∀ (k : Int32) (γ : Nat → Int32) (ψ : Nat → Nat → Int32) (H : Heap) (locs : List Loc) (ls : Array Slot), (0 ≤ (Int32.toInt k)) → ((16 - (Int32.toInt k)).toNat < n2) → va_P (dC, dI) vwCl (cw a κ (σ, φ, γ, ψ)) H → va_S (cA a) s.heap H locs → lv_has ls 4 [(0, .ref (a 4)), (1, .int i), (2, .int length), (3, .int k)] → W p l e ({ frames := 2, cells := 0, slots := 0, locals := 44 } : Room) s m ([.ref (a 4), .int i, .int length] : List Value).toArray below meth c H locs 0 0 QQ (F0 m 2 ls []) := by
    intro n2
    induction n2 with
    | zero =>
      intro k γ ψ H locs ls v0 hm
      exact absurd hm (Nat.not_lt_zero _)
    | succ n2 ih2 =>
      intro k γ ψ H locs ls v0 hm hP hS hl
      refine lv_iload_n hx hb dX0_beginsAsSought_2 rfl (lv_at hl 3 rfl) ?_
      refine lv_iload_n hx hb dX0_beginsAsSought_3 rfl (lv_at hl 2 rfl) ?_
      refine lv_icmp_ge (tgt := 36) hx hb dX0_beginsAsSought_4 (by decide) (fun c_1 => ?_) (fun c_1 => ?_)
      · have kc_1 := bI_le rfl rfl c_1
        refine lv_iconst (v := 1) hx hb dX0_beginsAsSought_36 (by decide) ?_
        subst eQ
        exact W.zret (v := 1) hx hb hr (by first | rfl | decide) (fun t ht hW => ⟨⟨1, (σ, φ, γ, ψ), rfl, ⟨rfl, rfl, trivial⟩, (by show va_P _ _ _ _; rw [ht]; exact hP)⟩, hS.F ht⟩) hS.2.2 dX0_beginsAsSought_37
      · have kc_1 := bI_nle rfl rfl c_1
        refine lv_iload_n hx hb dX0_beginsAsSought_7 rfl (lv_at hl 3 rfl) ?_
        refine lv_bipush (v := 16) hx hb dX0_beginsAsSought_8 (by decide) ?_
        refine lv_icmp_ge (tgt := 36) hx hb dX0_beginsAsSought_10 (by decide) (fun c_2 => ?_) (fun c_2 => ?_)
        · have kc_2 := bI_le L_16 rfl c_2
          refine lv_iconst (v := 1) hx hb dX0_beginsAsSought_36 (by decide) ?_
          subst eQ
          exact W.zret (v := 1) hx hb hr (by first | rfl | decide) (fun t ht hW => ⟨⟨1, (σ, φ, γ, ψ), rfl, ⟨rfl, rfl, trivial⟩, (by show va_P _ _ _ _; rw [ht]; exact hP)⟩, hS.F ht⟩) hS.2.2 dX0_beginsAsSought_37
        · have kc_2 := bI_nle L_16 rfl c_2
          refine lv_aload_n hx hb dX0_beginsAsSought_13 rfl (lv_at hl 0 rfl) ?_
          refine lv_iload_n hx hb dX0_beginsAsSought_14 rfl (lv_at hl 1 rfl) ?_
          refine lv_iload_n hx hb dX0_beginsAsSought_15 rfl (lv_at hl 3 rfl) ?_
          refine c_calli (va_runV (As := [.int i, .int k]) (rest := []) ⟨hx, hb, hml, hown, hts⟩ (c_X0_signOf l dC dI a κ σ φ γ ψ g1 g2 i k (show 0 ≤ (Int32.toInt (σ 11)) ∧ (Int32.toInt (σ 11)) ≤ 60 ∧ 0 ≤ (Int32.toInt (σ 12)) ∧ (Int32.toInt (σ 12)) ≤ 300 from (by omega))) (cwV 2 hts gX0_beginsAsSought_X0_signOf rfl rfl rfl ⟨rfl, hd_X0_signOf⟩ ⟨Nat.le_of_ble_eq_true rfl, Nat.le_of_ble_eq_true rfl⟩) (cPreV hP hK hI hN hX hS (va_recv hK hP (ci := 0) (q0 := 4) rfl rfl)) rfl rfl hl.1 rfl (lv_room (Nat.le_of_ble_eq_true rfl)) dX0_beginsAsSought_16 ⟨(by decide +kernel), (by decide +kernel)⟩) hS ?_
          clear hP hS; intro r_3 S_3 F_3 γ_3 ψ_3 H locs hw hP hS
          obtain ⟨rfl, rfl, -⟩ := hw
          refine lv_aload_n hx hb dX0_beginsAsSought_19 rfl (lv_at hl 0 rfl) ?_
          refine cg_4_3 hx hb hts hinX0 hown hK hP (hts (.fieldLink RX0 25 "CensusDesk$Book" "sought" "[I") (List.mem_of_getElem? (i := 1) rfl)) dX0_beginsAsSought_20 ?_
          refine lv_iload_n hx hb dX0_beginsAsSought_23 rfl (lv_at hl 3 rfl) ?_
          refine cl_34 (f := (ψ_3 18)) hx hb hK hP (i := k) (vin rfl (by omega)) rfl dX0_beginsAsSought_24 ?_
          refine lv_topi (fun z_4 ez_4 => ?_)
          refine lv_icmp_eq (tgt := 30) hx hb dX0_beginsAsSought_25 (by decide) (fun c_5 => ?_) (fun c_5 => ?_)
          · have kc_5 := bI_eq rfl rfl c_5
            obtain ⟨i_6, ei_6⟩ : ∃ z : Int32, z = k + 1 := ⟨_, rfl⟩
            refine lv_iinc (v := i_6) (lv' := [(3, .int i_6), (0, .ref (a 4)), (1, .int i), (2, .int length)]) hx hb dX0_beginsAsSought_30 hl (k := 3) rfl (by rw [ei_6]; rfl) (by decide) rfl ?_
            clear hl; intro ls hl
            have ti_6 : (Int32.toInt i_6) = (Int32.toInt k) + 1 := aI_add rfl L_1 ei_6 (by have := rng k; have := rng length; omega)
            refine lv_goto (tgt := 2) hx hb dX0_beginsAsSought_33 (by decide) ?_
            exact ih2 i_6 γ_3 ψ_3 _ _ _ (show 0 ≤ (Int32.toInt i_6) from (by omega)) (by omega) hP hS (lv_sub hl [1, 2, 3, 0] rfl)
          · have kc_5 := bI_ne rfl rfl c_5
            refine lv_iconst (v := 0) hx hb dX0_beginsAsSought_28 (by decide) ?_
            subst eQ
            exact W.zret (v := 0) hx hb hr (by first | rfl | decide) (fun t ht hW => ⟨⟨0, (σ, φ, γ_3, ψ_3), rfl, ⟨rfl, rfl, trivial⟩, (by show va_P _ _ _ _; rw [ht]; exact hP)⟩, hS.F ht⟩) hS.2.2 dX0_beginsAsSought_29
  refine lv_iconst (v := 0) hx hb dX0_beginsAsSought_0 (by decide) ?_
  refine lv_istore_n (lv' := [(3, .int 0), (0, .ref (a 4)), (1, .int i), (2, .int length)]) hx hb dX0_beginsAsSought_1 rfl hl (by decide) rfl ?_
  clear hl; intro ls hl
  exact J2 (_ + 1) 0 γ ψ _ _ _ (show 0 ≤ (Int32.toInt 0) from (by have := L_0; omega)) (Nat.lt_succ_self _) hP hS (lv_sub hl [1, 2, 3, 0] rfl)
set_option maxHeartbeats 4000000 in
set_option maxRecDepth 100000 in
theorem c_X0_countNamed (l : Launch) (dC : Nat → ClassId) (dI : Nat → Nat → Nat) (a : Nat → Nat) (κ : Nat → ClassId) (σ : Nat → Int32) (φ : Nat → Nat → Int32) (γ : Nat → Int32) (ψ : Nat → Nat → Int32) (g1 g2 : Nat) (na : Int32) (nb : Int32) (nc : Int32) (nd : Int32) (hb : 0 ≤ (Int32.toInt (σ 11)) ∧ (Int32.toInt (σ 11)) ≤ 60 ∧ 0 ≤ (Int32.toInt (σ 12)) ∧ (Int32.toInt (σ 12)) ≤ 300) : Met l yX0_countNamed wsX0_countNamed ({ frames := 3, cells := 0, slots := 0, locals := 67 } : Room) (va_Pc [.ref (a 4), .int na, .int nb, .int nc, .int nd] (cPre dC dI a κ (σ, φ, γ, ψ) g1 g2)) (va_Qi (QI (fun r S F => σ = S ∧ φ = F ∧ True)) (cB dC dI a κ) (cA a)) 0 0 (cA a) := by
  refine Met.ofW (cc := cX0_countNamed) (maxL := 8) (ret := (some .int)) (by decide) rfl ?_
  intro p e s m args below meth c s₁ B hml hv
  obtain ⟨rfl, hP, hK, hI, hN, hX⟩ := hv
  have hx := B.exec
  have hb := B.bytes
  have hr := B.returns
  have hts := atoms_spec (ws := wsX0_countNamed) B.pre
  have hown : s.vm.findClass RX0 = some m.cls := findClass_of_methodNamed B.named
  have hlocks := B.notSynchronized
  have hS : va_S (cA a) s.heap s.heap [] := va_S.rf
  have hinX0 : ∀ w ∈ wsX00, w ∈ wsX0_countNamed := fun _ h => List.mem_cons_of_mem _ (List.mem_append_right _ h)
  have hl := lv_entry ([.ref (a 4), .int na, .int nb, .int nc, .int nd]) (n := 8) (Nat.le_of_ble_eq_true rfl)
  rw [lg_entry_eq]
  generalize (lg_sl ([.ref (a 4), .int na, .int nb, .int nc, .int nd]) ++ List.replicate (8 - (lg_sl ([.ref (a 4), .int na, .int nb, .int nc, .int nd])).length) Slot.unset).toArray = ls at hl ⊢
  have hl : lv_has ls 8 [(0, .ref (a 4)), (1, .int na), (2, .int nb), (3, .int nc), (4, .int nd)] := hl
  refine k_gen (fun QQ eQ => ?_)
  have J46 : ∀ (n46 : Nat), ∀ (len : Int32) (found : Int32) (i : Int32) (γ : Nat → Int32) (ψ : Nat → Nat → Int32) (H : Heap) (locs : List Loc) (ls : Array Slot), (0 ≤ (Int32.toInt i)) → (((Int32.toInt (σ 12)) - (Int32.toInt i)).toNat < n46) → va_P (dC, dI) vwCl (cw a κ (σ, φ, γ, ψ)) H → va_S (cA a) s.heap H locs → lv_has ls 8 [(0, .ref (a 4)), (5, .int len), (6, .int found), (7, .int i)] → W p l e ({ frames := 3, cells := 0, slots := 0, locals := 67 } : Room) s m ([.ref (a 4), .int na, .int nb, .int nc, .int nd] : List Value).toArray below meth c H locs 0 0 QQ (F0 m 46 ls []) := by
    intro n46
    induction n46 with
    | zero =>
      intro len found i γ ψ H locs ls v0 hm
      exact absurd hm (Nat.not_lt_zero _)
    | succ n46 ih46 =>
      intro len found i γ ψ H locs ls v0 hm hP hS hl
      refine lv_iload hx hb dX0_countNamed_46 (lv_at hl 3 rfl) ?_
      refine lv_aload_n hx hb dX0_countNamed_48 rfl (lv_at hl 0 rfl) ?_
      refine cg_4_5 (v := (σ 12)) hx hb hts hinX0 hown hK hP (hts (.fieldLink RX0 33 "CensusDesk$Book" "persons" "I") (List.mem_of_getElem? (i := 1) rfl)) rfl dX0_countNamed_49 ?_
      refine lv_icmp_ge (tgt := 87) hx hb dX0_countNamed_52 (by decide) (fun c_1 => ?_) (fun c_1 => ?_)
      · have kc_1 := bI_le rfl rfl c_1
        refine lv_iload hx hb dX0_countNamed_87 (lv_at hl 2 rfl) ?_
        subst eQ
        exact W.iret (v := found) hx hb hr (fun t ht hW => ⟨⟨found, (σ, φ, γ, ψ), rfl, ⟨rfl, rfl, trivial⟩, (by show va_P _ _ _ _; rw [ht]; exact hP)⟩, hS.F ht⟩) hS.2.2 dX0_countNamed_89
      · have kc_1 := bI_nle rfl rfl c_1
        refine lv_aload_n hx hb dX0_countNamed_55 rfl (lv_at hl 0 rfl) ?_
        refine lv_iload hx hb dX0_countNamed_56 (lv_at hl 3 rfl) ?_
        refine lv_iconst (v := 3) hx hb dX0_countNamed_58 (by decide) ?_
        refine c_calli (va_runV (As := [.int i, .int 3]) (rest := []) ⟨hx, hb, hml, hown, hts⟩ (c_X0_tellPerson l dC dI a κ σ φ γ ψ g1 g2 i 3 (show 0 ≤ (Int32.toInt (σ 11)) ∧ (Int32.toInt (σ 11)) ≤ 60 ∧ 0 ≤ (Int32.toInt (σ 12)) ∧ (Int32.toInt (σ 12)) ≤ 300 from (by omega))) (cwV 2 hts gX0_countNamed_X0_tellPerson rfl rfl rfl ⟨rfl, hd_X0_tellPerson⟩ ⟨Nat.le_of_ble_eq_true rfl, Nat.le_of_ble_eq_true rfl⟩) (cPreV hP hK hI hN hX hS (va_recv hK hP (ci := 0) (q0 := 4) rfl rfl)) rfl rfl hl.1 rfl (lv_room (Nat.le_of_ble_eq_true rfl)) dX0_countNamed_59 ⟨(by decide +kernel), (by decide +kernel)⟩) hS ?_
        clear hP hS; intro r_2 S_2 F_2 γ_2 ψ_2 H locs hw hP hS
        obtain ⟨rfl, rfl, (t0_2 : (0 ≤ (Int32.toInt i) ∧ (Int32.toInt i) < (Int32.toInt (σ 12)) ∧ (Int32.toInt 3) = 0) → r_2 = (φ 6) (Int32.toNatClampNeg i)), (t1_2 : (0 ≤ (Int32.toInt i) ∧ (Int32.toInt i) < (Int32.toInt (σ 12)) ∧ (Int32.toInt 3) = 1) → r_2 = (φ 7) (Int32.toNatClampNeg i)), (to_2 : ((Int32.toInt i) < 0 ∨ (Int32.toInt (σ 12)) ≤ (Int32.toInt i)) → (Int32.toInt r_2) = -1)⟩ := hw
        have hL3_2 := L_3
        refine lv_iload hx hb dX0_countNamed_62 (lv_at hl 1 rfl) ?_
        refine lv_icmp_ne (tgt := 81) hx hb dX0_countNamed_64 (by decide) (fun c_3 => ?_) (fun c_3 => ?_)
        · have kc_3 := bI_ne rfl rfl c_3
          obtain ⟨i_4, ei_4⟩ : ∃ z : Int32, z = i + 1 := ⟨_, rfl⟩
          refine lv_iinc (v := i_4) (lv' := [(7, .int i_4), (0, .ref (a 4)), (5, .int len), (6, .int found)]) hx hb dX0_countNamed_81 hl (k := 3) rfl (by rw [ei_4]; rfl) (by decide) rfl ?_
          clear hl; intro ls hl
          have ti_4 : (Int32.toInt i_4) = (Int32.toInt i) + 1 := aI_add rfl L_1 ei_4 (by have := rng i; have := rng (σ 12); omega)
          refine lv_goto (tgt := 46) hx hb dX0_countNamed_84 (by decide) ?_
          exact ih46 len found i_4 γ_2 ψ_2 _ _ _ (show 0 ≤ (Int32.toInt i_4) from (by omega)) (by omega) hP hS (lv_sub hl [1, 2, 3, 0] rfl)
        · have kc_3 := bI_eq rfl rfl c_3
          refine lv_aload_n hx hb dX0_countNamed_67 rfl (lv_at hl 0 rfl) ?_
          refine lv_iload hx hb dX0_countNamed_68 (lv_at hl 3 rfl) ?_
          refine lv_iload hx hb dX0_countNamed_70 (lv_at hl 1 rfl) ?_
          refine c_calli (va_runV (As := [.int i, .int len]) (rest := []) ⟨hx, hb, hml, hown, hts⟩ (c_X0_beginsAsSought l dC dI a κ σ φ γ_2 ψ_2 g1 g2 i len (show 0 ≤ (Int32.toInt (σ 11)) ∧ (Int32.toInt (σ 11)) ≤ 60 ∧ 0 ≤ (Int32.toInt (σ 12)) ∧ (Int32.toInt (σ 12)) ≤ 300 from (by omega))) (cwV 2 hts gX0_countNamed_X0_beginsAsSought rfl rfl rfl ⟨rfl, hd_X0_beginsAsSought⟩ ⟨Nat.le_of_ble_eq_true rfl, Nat.le_of_ble_eq_true rfl⟩) (cPreV hP hK hI hN hX hS (va_recv hK hP (ci := 0) (q0 := 4) rfl rfl)) rfl rfl hl.1 rfl (lv_room (Nat.le_of_ble_eq_true rfl)) dX0_countNamed_72 ⟨(by decide +kernel), (by decide +kernel)⟩) hS ?_
          clear hP hS; intro r_5 S_5 F_5 γ_5 ψ_5 H locs hw hP hS
          obtain ⟨rfl, rfl, -⟩ := hw
          refine lv_if_eq (tgt := 81) hx hb dX0_countNamed_75 (by decide) (fun c_6 => ?_) (fun c_6 => ?_)
          · have kc_6 := bI_eq rfl L_0 c_6
            obtain ⟨i_7, ei_7⟩ : ∃ z : Int32, z = i + 1 := ⟨_, rfl⟩
            refine lv_iinc (v := i_7) (lv' := [(7, .int i_7), (0, .ref (a 4)), (5, .int len), (6, .int found)]) hx hb dX0_countNamed_81 hl (k := 3) rfl (by rw [ei_7]; rfl) (by decide) rfl ?_
            clear hl; intro ls hl
            have ti_7 : (Int32.toInt i_7) = (Int32.toInt i) + 1 := aI_add rfl L_1 ei_7 (by have := rng i; have := rng (σ 12); omega)
            refine lv_goto (tgt := 46) hx hb dX0_countNamed_84 (by decide) ?_
            exact ih46 len found i_7 γ_5 ψ_5 _ _ _ (show 0 ≤ (Int32.toInt i_7) from (by omega)) (by omega) hP hS (lv_sub hl [1, 2, 3, 0] rfl)
          · have kc_6 := bI_ne rfl L_0 c_6
            obtain ⟨i_8, ei_8⟩ : ∃ z : Int32, z = found + 1 := ⟨_, rfl⟩
            refine lv_iinc (v := i_8) (lv' := [(6, .int i_8), (0, .ref (a 4)), (5, .int len), (7, .int i)]) hx hb dX0_countNamed_78 hl (k := 2) rfl (by rw [ei_8]; rfl) (by decide) rfl ?_
            clear hl; intro ls hl
            obtain ⟨i_9, ei_9⟩ : ∃ z : Int32, z = i + 1 := ⟨_, rfl⟩
            refine lv_iinc (v := i_9) (lv' := [(7, .int i_9), (6, .int i_8), (0, .ref (a 4)), (5, .int len)]) hx hb dX0_countNamed_81 hl (k := 3) rfl (by rw [ei_9]; rfl) (by decide) rfl ?_
            clear hl; intro ls hl
            have ti_9 : (Int32.toInt i_9) = (Int32.toInt i) + 1 := aI_add rfl L_1 ei_9 (by have := rng i; have := rng (σ 12); omega)
            refine lv_goto (tgt := 46) hx hb dX0_countNamed_84 (by decide) ?_
            exact ih46 len i_8 i_9 γ_5 ψ_5 _ _ _ (show 0 ≤ (Int32.toInt i_9) from (by omega)) (by omega) hP hS (lv_sub hl [2, 3, 1, 0] rfl)
  refine lv_aload_n hx hb dX0_countNamed_0 rfl (lv_at hl 0 rfl) ?_
  refine lv_iconst (v := 0) hx hb dX0_countNamed_1 (by decide) ?_
  refine lv_iload_n hx hb dX0_countNamed_2 rfl (lv_at hl 1 rfl) ?_
  refine c_callv (va_runV (As := [.int 0, .int na]) (rest := []) ⟨hx, hb, hml, hown, hts⟩ (c_X0_seek l dC dI a κ σ φ γ ψ g1 g2 0 na ) (cwV 2 hts gX0_countNamed_X0_seek rfl rfl rfl ⟨rfl, hd_X0_seek⟩ ⟨Nat.le_of_ble_eq_true rfl, Nat.le_of_ble_eq_true rfl⟩) (cPreV hP hK hI hN hX hS (va_recv hK hP (ci := 0) (q0 := 4) rfl rfl)) rfl rfl hl.1 rfl (lv_room (Nat.le_of_ble_eq_true rfl)) dX0_countNamed_3 ⟨(by decide +kernel), (by decide +kernel)⟩) hS ?_
  clear hP hS; intro S_10 F_10 γ_10 ψ_10 H locs hw hP hS
  obtain ⟨rfl, rfl, -⟩ := hw
  refine lv_aload_n hx hb dX0_countNamed_6 rfl (lv_at hl 0 rfl) ?_
  refine lv_iconst (v := 4) hx hb dX0_countNamed_7 (by decide) ?_
  refine lv_iload_n hx hb dX0_countNamed_8 rfl (lv_at hl 2 rfl) ?_
  refine c_callv (va_runV (As := [.int 4, .int nb]) (rest := []) ⟨hx, hb, hml, hown, hts⟩ (c_X0_seek l dC dI a κ σ φ γ_10 ψ_10 g1 g2 4 nb ) (cwV 2 hts gX0_countNamed_X0_seek rfl rfl rfl ⟨rfl, hd_X0_seek⟩ ⟨Nat.le_of_ble_eq_true rfl, Nat.le_of_ble_eq_true rfl⟩) (cPreV hP hK hI hN hX hS (va_recv hK hP (ci := 0) (q0 := 4) rfl rfl)) rfl rfl hl.1 rfl (lv_room (Nat.le_of_ble_eq_true rfl)) dX0_countNamed_9 ⟨(by decide +kernel), (by decide +kernel)⟩) hS ?_
  clear hP hS; intro S_11 F_11 γ_11 ψ_11 H locs hw hP hS
  obtain ⟨rfl, rfl, -⟩ := hw
  refine lv_aload_n hx hb dX0_countNamed_12 rfl (lv_at hl 0 rfl) ?_
  refine lv_bipush (v := 8) hx hb dX0_countNamed_13 (by decide) ?_
  refine lv_iload_n hx hb dX0_countNamed_15 rfl (lv_at hl 3 rfl) ?_
  refine c_callv (va_runV (As := [.int 8, .int nc]) (rest := []) ⟨hx, hb, hml, hown, hts⟩ (c_X0_seek l dC dI a κ σ φ γ_11 ψ_11 g1 g2 8 nc ) (cwV 2 hts gX0_countNamed_X0_seek rfl rfl rfl ⟨rfl, hd_X0_seek⟩ ⟨Nat.le_of_ble_eq_true rfl, Nat.le_of_ble_eq_true rfl⟩) (cPreV hP hK hI hN hX hS (va_recv hK hP (ci := 0) (q0 := 4) rfl rfl)) rfl rfl hl.1 rfl (lv_room (Nat.le_of_ble_eq_true rfl)) dX0_countNamed_16 ⟨(by decide +kernel), (by decide +kernel)⟩) hS ?_
  clear hP hS; intro S_12 F_12 γ_12 ψ_12 H locs hw hP hS
  obtain ⟨rfl, rfl, -⟩ := hw
  refine lv_aload_n hx hb dX0_countNamed_19 rfl (lv_at hl 0 rfl) ?_
  refine lv_bipush (v := 12) hx hb dX0_countNamed_20 (by decide) ?_
  refine lv_iload hx hb dX0_countNamed_22 (lv_at hl 4 rfl) ?_
  refine c_callv (va_runV (As := [.int 12, .int nd]) (rest := []) ⟨hx, hb, hml, hown, hts⟩ (c_X0_seek l dC dI a κ σ φ γ_12 ψ_12 g1 g2 12 nd ) (cwV 2 hts gX0_countNamed_X0_seek rfl rfl rfl ⟨rfl, hd_X0_seek⟩ ⟨Nat.le_of_ble_eq_true rfl, Nat.le_of_ble_eq_true rfl⟩) (cPreV hP hK hI hN hX hS (va_recv hK hP (ci := 0) (q0 := 4) rfl rfl)) rfl rfl hl.1 rfl (lv_room (Nat.le_of_ble_eq_true rfl)) dX0_countNamed_24 ⟨(by decide +kernel), (by decide +kernel)⟩) hS ?_
  clear hP hS; intro S_13 F_13 γ_13 ψ_13 H locs hw hP hS
  obtain ⟨rfl, rfl, -⟩ := hw
  refine lv_aload_n hx hb dX0_countNamed_27 rfl (lv_at hl 0 rfl) ?_
  refine c_calli (va_runV (As := []) (rest := []) ⟨hx, hb, hml, hown, hts⟩ (c_X0_soughtLength l dC dI a κ σ φ γ_13 ψ_13 g1 g2  ) (cwV 0 hts gX0_countNamed_X0_soughtLength rfl rfl rfl ⟨rfl, hd_X0_soughtLength⟩ ⟨Nat.le_of_ble_eq_true rfl, Nat.le_of_ble_eq_true rfl⟩) (cPreV hP hK hI hN hX hS (va_recv hK hP (ci := 0) (q0 := 4) rfl rfl)) rfl rfl hl.1 rfl (lv_room (Nat.le_of_ble_eq_true rfl)) dX0_countNamed_28 ⟨(by decide +kernel), (by decide +kernel)⟩) hS ?_
  clear hP hS; intro r_14 S_14 F_14 γ_14 ψ_14 H locs hw hP hS
  obtain ⟨rfl, rfl, -⟩ := hw
  refine lv_istore (lv' := [(5, .int r_14), (0, .ref (a 4)), (1, .int na), (2, .int nb), (3, .int nc), (4, .int nd)]) hx hb dX0_countNamed_31 hl (by decide) rfl ?_
  clear hl; intro ls hl
  refine lv_iload hx hb dX0_countNamed_33 (lv_at hl 0 rfl) ?_
  refine lv_if_ne (tgt := 40) hx hb dX0_countNamed_35 (by decide) (fun c_15 => ?_) (fun c_15 => ?_)
  · have kc_15 := bI_ne rfl L_0 c_15
    refine lv_iconst (v := 0) hx hb dX0_countNamed_40 (by decide) ?_
    refine lv_istore (lv' := [(6, .int 0), (5, .int r_14), (0, .ref (a 4)), (1, .int na), (2, .int nb), (3, .int nc), (4, .int nd)]) hx hb dX0_countNamed_41 hl (by decide) rfl ?_
    clear hl; intro ls hl
    refine lv_iconst (v := 0) hx hb dX0_countNamed_43 (by decide) ?_
    refine lv_istore (lv' := [(7, .int 0), (6, .int 0), (5, .int r_14), (0, .ref (a 4)), (1, .int na), (2, .int nb), (3, .int nc), (4, .int nd)]) hx hb dX0_countNamed_44 hl (by decide) rfl ?_
    clear hl; intro ls hl
    exact J46 (_ + 1) r_14 0 0 γ_14 ψ_14 _ _ _ (show 0 ≤ (Int32.toInt 0) from (by have := L_0; omega)) (Nat.lt_succ_self _) hP hS (lv_sub hl [3, 2, 1, 0] rfl)
  · have kc_15 := bI_eq rfl L_0 c_15
    refine lv_iconst (v := 0) hx hb dX0_countNamed_38 (by decide) ?_
    subst eQ
    exact W.iret (v := 0) hx hb hr (fun t ht hW => ⟨⟨0, (σ, φ, γ_14, ψ_14), rfl, ⟨rfl, rfl, trivial⟩, (by show va_P _ _ _ _; rw [ht]; exact hP)⟩, hS.F ht⟩) hS.2.2 dX0_countNamed_39
set_option maxHeartbeats 4000000 in
set_option maxRecDepth 100000 in
theorem c_X0_writePerson (l : Launch) (dC : Nat → ClassId) (dI : Nat → Nat → Nat) (a : Nat → Nat) (κ : Nat → ClassId) (σ : Nat → Int32) (φ : Nat → Nat → Int32) (γ : Nat → Int32) (ψ : Nat → Nat → Int32) (g1 g2 : Nat) (i : Int32) (row : Int32) (household : Int32) (p_hh_sex : PtR (-1) 1 (φ 4)) (p_book_personFacts0 : PtR (-1) 1 (φ 6)) (hb : 0 ≤ (Int32.toInt (σ 11)) ∧ (Int32.toInt (σ 11)) ≤ 60 ∧ 0 ≤ (Int32.toInt (σ 12)) ∧ (Int32.toInt (σ 12)) ≤ 300) (hbs : BS (σ 11) (σ 12) (σ 13) (σ 14) (σ 15) (φ 5) (φ 6) (φ 7)) (hi : 0 ≤ (Int32.toInt i) ∧ (Int32.toInt i) < 2000 ∧ (Int32.toInt (σ 12)) ≤ (Int32.toInt row)) : Met l yX0_writePerson wsX0_writePerson ({ frames := 1, cells := 0, slots := 0, locals := 23 } : Room) (va_Pc [.ref (a 4), .ref (a 8), .int i, .int row, .int household] (cPre dC dI a κ (σ, φ, γ, ψ) g1 g2)) (va_Qv (QV (fun S F => ∃ (f6 : Nat → Int32) (f7 : Nat → Int32), σ = S ∧ (up (up φ 6 f6) 7 f7) = F ∧ PtR (-1) 1 f6 ∧ (BS (σ 11) (σ 12) (σ 13) (σ 14) (σ 15) (φ 5) f6 f7))) (cB dC dI a κ) (cA a)) 0 0 (cA a) := by
  refine Met.ofW (cc := cX0_writePerson) (maxL := 6) (ret := none) (by decide) rfl ?_
  intro p e s m args below meth c s₁ B hml hv
  obtain ⟨rfl, hP, hK, hI, hN, hX⟩ := hv
  have hx := B.exec
  have hb := B.bytes
  have hr := B.returns
  have hts := atoms_spec (ws := wsX0_writePerson) B.pre
  have hown : s.vm.findClass RX0 = some m.cls := findClass_of_methodNamed B.named
  have hlocks := B.notSynchronized
  have hS : va_S (cA a) s.heap s.heap [] := va_S.rf
  have hinX0 : ∀ w ∈ wsX00, w ∈ wsX0_writePerson := fun _ h => List.mem_cons_of_mem _ (List.mem_append_left _ (List.mem_append_right _ h))
  have hinX2 : ∀ w ∈ wsX20, w ∈ wsX0_writePerson := fun _ h => List.mem_cons_of_mem _ (List.mem_append_right _ h)
  have hl := lv_entry ([.ref (a 4), .ref (a 8), .int i, .int row, .int household]) (n := 6) (Nat.le_of_ble_eq_true rfl)
  rw [lg_entry_eq]
  generalize (lg_sl ([.ref (a 4), .ref (a 8), .int i, .int row, .int household]) ++ List.replicate (6 - (lg_sl ([.ref (a 4), .ref (a 8), .int i, .int row, .int household])).length) Slot.unset).toArray = ls at hl ⊢
  have hl : lv_has ls 6 [(0, .ref (a 4)), (1, .ref (a 8)), (2, .int i), (3, .int row), (4, .int household)] := hl
  refine k_gen (fun QQ eQ => ?_)
  have J81 : ∀ (n81 : Nat), ∀ (k : Int32) (f6_c81 : Nat → Int32) (f7_c81 : Nat → Int32) (γ : Nat → Int32) (ψ : Nat → Nat → Int32) (H : Heap) (locs : List Loc) (ls : Array Slot), (PtR (-1) 1 f6_c81) → (BS (σ 11) (σ 12) (σ 13) (σ 14) (σ 15) (φ 5) f6_c81 f7_c81) → (0 ≤ (Int32.toInt k) ∧ 0 ≤ (Int32.toInt row) ∧ (Int32.toInt row) < 300) → ((30 - (Int32.toInt k)).toNat < n81) → va_P (dC, dI) vwCl (cw a κ (σ, (up (up φ 6 f6_c81) 7 f7_c81), γ, ψ)) H → va_S (cA a) s.heap H locs → lv_has ls 6 [(0, .ref (a 4)), (1, .ref (a 8)), (2, .int i), (3, .int row), (5, .int k)] → W p l e ({ frames := 1, cells := 0, slots := 0, locals := 23 } : Room) s m ([.ref (a 4), .ref (a 8), .int i, .int row, .int household] : List Value).toArray below meth c H locs 0 0 QQ (F0 m 81 ls []) := by
    intro n81
    induction n81 with
    | zero =>
      intro k f6_c81 f7_c81 γ ψ H locs ls pf6_c81 vb v0 hm
      exact absurd hm (Nat.not_lt_zero _)
    | succ n81 ih81 =>
      intro k f6_c81 f7_c81 γ ψ H locs ls pf6_c81 vb v0 hm hP hS hl
      refine lv_iload hx hb dX0_writePerson_81 (lv_at hl 4 rfl) ?_
      refine lv_aload_n hx hb dX0_writePerson_83 rfl (lv_at hl 1 rfl) ?_
      refine cgN_8_4 hx hb hts hinX2 hown hK hP (va_Nw.use rfl (hN.1 ("CensusDesk$Book", 58, "CensusDesk$Household", "nameLength", "[I") (List.mem_of_getElem? (i := 18) rfl))) dX0_writePerson_84 ?_
      refine lv_iload_n hx hb dX0_writePerson_87 rfl (lv_at hl 2 rfl) ?_
      refine cl_44 (f := (φ 3)) hx hb hK hP (i := i) (vin rfl (by omega)) rfl dX0_writePerson_88 ?_
      refine lv_topi (fun z_1 ez_1 => ?_)
      have tz_1 : (Int32.toInt z_1) = Int32.toInt ((φ 3) (Int32.toNatClampNeg i)) := congrArg Int32.toInt ez_1
      refine lv_icmp_ge (tgt := 125) hx hb dX0_writePerson_89 (by decide) (fun c_2 => ?_) (fun c_2 => ?_)
      · have kc_2 := bI_le rfl rfl c_2
        subst eQ
        exact W.vret hx hb hr (fun t ht hW => ⟨⟨(σ, (up (up φ 6 f6_c81) 7 f7_c81), γ, ψ), rfl, ⟨f6_c81, f7_c81, rfl, rfl, pf6_c81, (show BS (σ 11) (σ 12) (σ 13) (σ 14) (σ 15) (φ 5) f6_c81 f7_c81 from (by with_reducible assumption))⟩, (by show va_P _ _ _ _; rw [ht]; exact hP)⟩, hS.F ht⟩) hS.2.2 dX0_writePerson_125
      · have kc_2 := bI_nle rfl rfl c_2
        refine lv_iload hx hb dX0_writePerson_92 (lv_at hl 4 rfl) ?_
        refine lv_bipush (v := 30) hx hb dX0_writePerson_94 (by decide) ?_
        refine lv_icmp_ge (tgt := 125) hx hb dX0_writePerson_96 (by decide) (fun c_3 => ?_) (fun c_3 => ?_)
        · have kc_3 := bI_le L_30 rfl c_3
          subst eQ
          exact W.vret hx hb hr (fun t ht hW => ⟨⟨(σ, (up (up φ 6 f6_c81) 7 f7_c81), γ, ψ), rfl, ⟨f6_c81, f7_c81, rfl, rfl, pf6_c81, (show BS (σ 11) (σ 12) (σ 13) (σ 14) (σ 15) (φ 5) f6_c81 f7_c81 from (by with_reducible assumption))⟩, (by show va_P _ _ _ _; rw [ht]; exact hP)⟩, hS.F ht⟩) hS.2.2 dX0_writePerson_125
        · have kc_3 := bI_nle L_30 rfl c_3
          refine lv_aload_n hx hb dX0_writePerson_99 rfl (lv_at hl 0 rfl) ?_
          refine cg_4_2 hx hb hts hinX0 hown hK hP (hts (.fieldLink RX0 21 "CensusDesk$Book" "names" "[B") (List.mem_of_getElem? (i := 2) rfl)) dX0_writePerson_100 ?_
          refine lv_iload_n hx hb dX0_writePerson_103 rfl (lv_at hl 3 rfl) ?_
          refine lv_bipush (v := 30) hx hb dX0_writePerson_104 (by decide) ?_
          refine lv_imul hx hb dX0_writePerson_106 ?_
          refine lv_topi (fun z_4 ez_4 => ?_)
          have tz_4 : (Int32.toInt z_4) = (Int32.toInt row) * 30 := aI_mul rfl L_30 ez_4 (by have := rng row; omega)
          refine lv_iload hx hb dX0_writePerson_107 (lv_at hl 4 rfl) ?_
          refine lv_iadd hx hb dX0_writePerson_109 ?_
          refine lv_topi (fun z_5 ez_5 => ?_)
          have tz_5 : (Int32.toInt z_5) = (Int32.toInt z_4) + (Int32.toInt k) := aI_add rfl rfl ez_5 (by have := rng z_4; have := rng k; omega)
          refine lv_aload_n hx hb dX0_writePerson_110 rfl (lv_at hl 1 rfl) ?_
          refine lv_iload_n hx hb dX0_writePerson_111 rfl (lv_at hl 2 rfl) ?_
          refine lv_iload hx hb dX0_writePerson_112 (lv_at hl 4 rfl) ?_
          refine c_calli (va_runV (As := [.int i, .int k]) (rest := [.int z_5, .ref (a 33)]) ⟨hx, hb, hml, hown, hts⟩ (c_X2_signOf l dC dI a κ σ (up (up φ 6 f6_c81) 7 f7_c81) γ ψ g1 g2 i k ) (cwV 2 hts gX0_writePerson_X2_signOf rfl rfl rfl ⟨rfl, hd_X2_signOf⟩ ⟨Nat.le_of_ble_eq_true rfl, Nat.le_of_ble_eq_true rfl⟩) (cPreV hP hK hI hN hX hS (va_recv hK hP (ci := 2) (q0 := 8) rfl rfl)) rfl rfl hl.1 rfl (lv_room (Nat.le_of_ble_eq_true rfl)) dX0_writePerson_114 ⟨(by decide +kernel), (by decide +kernel)⟩) hS ?_
          clear hP hS; intro r_6 S_6 F_6 γ_6 ψ_6 H locs hw hP hS
          obtain ⟨rfl, rfl, -⟩ := hw
          obtain ⟨z_7, ez_7⟩ : ∃ z : Int32, (Int32.toInt8 r_6).toInt32 = z := ⟨_, rfl⟩
          refine lv_i2b (v := z_7) hx hb dX0_writePerson_117 ez_7 ?_
          refine cs_33 (f := (ψ_6 17)) hx hb hK hP hI hS (i := z_5) (x := z_7) (vin rfl (by omega)) rfl dX0_writePerson_118 ?_
          clear hP hS; intro H locs hP hS
          obtain ⟨f_8, ef_8⟩ : ∃ z : Nat → Int32, z = upd (ψ_6 17) (Int32.toNatClampNeg z_5) (vp_nar .byte z_7) := ⟨_, rfl⟩
          rw [← ef_8] at hP
          obtain ⟨i_9, ei_9⟩ : ∃ z : Int32, z = k + 1 := ⟨_, rfl⟩
          refine lv_iinc (v := i_9) (lv' := [(5, .int i_9), (0, .ref (a 4)), (1, .ref (a 8)), (2, .int i), (3, .int row)]) hx hb dX0_writePerson_119 hl (k := 4) rfl (by rw [ei_9]; rfl) (by decide) rfl ?_
          clear hl; intro ls hl
          have ti_9 : (Int32.toInt i_9) = (Int32.toInt k) + 1 := aI_add rfl L_1 ei_9 (by have := rng k; have := rng z_1; omega)
          refine lv_goto (tgt := 81) hx hb dX0_writePerson_122 (by decide) ?_
          exact ih81 i_9 f6_c81 f7_c81 γ_6 (up ψ_6 17 f_8) _ _ _ pf6_c81 (show BS (σ 11) (σ 12) (σ 13) (σ 14) (σ 15) (φ 5) f6_c81 f7_c81 from (by with_reducible assumption)) (show 0 ≤ (Int32.toInt i_9) ∧ 0 ≤ (Int32.toInt row) ∧ (Int32.toInt row) < 300 from (by omega)) (by omega) hP hS (lv_sub hl [1, 2, 3, 4, 0] rfl)
  refine lv_iload_n hx hb dX0_writePerson_0 rfl (lv_at hl 3 rfl) ?_
  refine lv_if_lt (tgt := 11) hx hb dX0_writePerson_1 (by decide) (fun c_10 => ?_) (fun c_10 => ?_)
  · have kc_10 := bI_lt rfl L_0 c_10
    subst eQ
    exact W.vret hx hb hr (fun t ht hW => ⟨⟨(σ, (up (up φ 6 (φ 6)) 7 (φ 7)), γ, ψ), rfl, ⟨(φ 6), (φ 7), rfl, rfl, p_book_personFacts0, (show BS (σ 11) (σ 12) (σ 13) (σ 14) (σ 15) (φ 5) (φ 6) (φ 7) from (by with_reducible assumption))⟩, (by show va_P _ _ _ _; rw [ht]; exact hP)⟩, hS.F ht⟩) hS.2.2 dX0_writePerson_11
  · have kc_10 := bI_nlt rfl L_0 c_10
    refine lv_iload_n hx hb dX0_writePerson_4 rfl (lv_at hl 3 rfl) ?_
    refine lv_sipush (v := 300) hx hb dX0_writePerson_5 (by decide) ?_
    refine lv_icmp_lt (tgt := 12) hx hb dX0_writePerson_8 (by decide) (fun c_11 => ?_) (fun c_11 => ?_)
    · have kc_11 := bI_lt rfl L_300 c_11
      refine lv_aload_n hx hb dX0_writePerson_12 rfl (lv_at hl 0 rfl) ?_
      refine cg_4_1 hx hb hts hinX0 hown hK hP (hts (.fieldLink RX0 16 "CensusDesk$Book" "personFacts" "[[I") (List.mem_of_getElem? (i := 1) rfl)) dX0_writePerson_13 ?_
      refine lv_iconst (v := 0) hx hb dX0_writePerson_16 (by decide) ?_
      refine cr_27_0 hx hb hK hP dX0_writePerson_17 ?_
      refine lv_iload_n hx hb dX0_writePerson_18 rfl (lv_at hl 3 rfl) ?_
      refine lv_aload_n hx hb dX0_writePerson_19 rfl (lv_at hl 1 rfl) ?_
      refine cgN_8_0 hx hb hts hinX2 hown hK hP (va_Nw.use rfl (hN.1 ("CensusDesk$Book", 49, "CensusDesk$Household", "sex", "[I") (List.mem_of_getElem? (i := 15) rfl))) dX0_writePerson_20 ?_
      refine lv_iload_n hx hb dX0_writePerson_23 rfl (lv_at hl 2 rfl) ?_
      refine cl_40 (f := (φ 4)) hx hb hK hP (i := i) (vin rfl (by omega)) rfl dX0_writePerson_24 ?_
      refine lv_topi (fun z_12 ez_12 => ?_)
      have tz_12 : (Int32.toInt z_12) = Int32.toInt ((φ 4) (Int32.toNatClampNeg i)) := congrArg Int32.toInt ez_12
      have pz_12 : -1 ≤ (Int32.toInt z_12) ∧ (Int32.toInt z_12) ≤ 1 := p_hh_sex.of ez_12
      refine cs_28 (f := (φ 6)) hx hb hK hP hI hS (i := row) (x := z_12) (vin rfl (by omega)) rfl dX0_writePerson_25 ?_
      clear hP hS; intro H locs hP hS
      obtain ⟨f_13, ef_13⟩ : ∃ z : Nat → Int32, z = upd (φ 6) (Int32.toNatClampNeg row) z_12 := ⟨_, rfl⟩
      rw [← ef_13] at hP
      have pf_13 : PtR (-1) 1 f_13 := p_book_personFacts0.set ef_13 (by omega) (by omega)
      have hbs : BS (σ 11) (σ 12) (σ 13) (σ 14) (σ 15) (φ 5) f_13 (φ 7) := hbs.p0 ef_13 (by omega) (by omega)
      refine lv_aload_n hx hb dX0_writePerson_26 rfl (lv_at hl 0 rfl) ?_
      refine cg_4_1 hx hb hts hinX0 hown hK hP (hts (.fieldLink RX0 16 "CensusDesk$Book" "personFacts" "[[I") (List.mem_of_getElem? (i := 1) rfl)) dX0_writePerson_27 ?_
      refine lv_iconst (v := 1) hx hb dX0_writePerson_30 (by decide) ?_
      refine cr_27_1 hx hb hK hP dX0_writePerson_31 ?_
      refine lv_iload_n hx hb dX0_writePerson_32 rfl (lv_at hl 3 rfl) ?_
      refine lv_aload_n hx hb dX0_writePerson_33 rfl (lv_at hl 1 rfl) ?_
      refine cgN_8_1 hx hb hts hinX2 hown hK hP (va_Nw.use rfl (hN.1 ("CensusDesk$Book", 52, "CensusDesk$Household", "age", "[I") (List.mem_of_getElem? (i := 16) rfl))) dX0_writePerson_34 ?_
      refine lv_iload_n hx hb dX0_writePerson_37 rfl (lv_at hl 2 rfl) ?_
      refine cl_41 (f := (ψ 21)) hx hb hK hP (i := i) (vin rfl (by omega)) rfl dX0_writePerson_38 ?_
      refine lv_topi (fun z_14 ez_14 => ?_)
      refine cs_29 (f := (φ 7)) hx hb hK hP hI hS (i := row) (x := z_14) (vin rfl (by omega)) rfl dX0_writePerson_39 ?_
      clear hP hS; intro H locs hP hS
      obtain ⟨f_15, ef_15⟩ : ∃ z : Nat → Int32, z = upd (φ 7) (Int32.toNatClampNeg row) z_14 := ⟨_, rfl⟩
      rw [← ef_15] at hP
      have hbs : BS (σ 11) (σ 12) (σ 13) (σ 14) (σ 15) (φ 5) f_13 f_15 := hbs.p1 ef_15 (by omega) (by omega)
      refine lv_aload_n hx hb dX0_writePerson_40 rfl (lv_at hl 0 rfl) ?_
      refine cg_4_1 hx hb hts hinX0 hown hK hP (hts (.fieldLink RX0 16 "CensusDesk$Book" "personFacts" "[[I") (List.mem_of_getElem? (i := 1) rfl)) dX0_writePerson_41 ?_
      refine lv_iconst (v := 2) hx hb dX0_writePerson_44 (by decide) ?_
      refine cr_27_2 hx hb hK hP dX0_writePerson_45 ?_
      refine lv_iload_n hx hb dX0_writePerson_46 rfl (lv_at hl 3 rfl) ?_
      refine lv_aload_n hx hb dX0_writePerson_47 rfl (lv_at hl 1 rfl) ?_
      refine cgN_8_2 hx hb hts hinX2 hown hK hP (va_Nw.use rfl (hN.1 ("CensusDesk$Book", 55, "CensusDesk$Household", "trade", "[I") (List.mem_of_getElem? (i := 17) rfl))) dX0_writePerson_48 ?_
      refine lv_iload_n hx hb dX0_writePerson_51 rfl (lv_at hl 2 rfl) ?_
      refine cl_42 (f := (ψ 22)) hx hb hK hP (i := i) (vin rfl (by omega)) rfl dX0_writePerson_52 ?_
      refine lv_topi (fun z_16 ez_16 => ?_)
      refine cs_30 (f := (ψ 14)) hx hb hK hP hI hS (i := row) (x := z_16) (vin rfl (by omega)) rfl dX0_writePerson_53 ?_
      clear hP hS; intro H locs hP hS
      obtain ⟨f_17, ef_17⟩ : ∃ z : Nat → Int32, z = upd (ψ 14) (Int32.toNatClampNeg row) z_16 := ⟨_, rfl⟩
      rw [← ef_17] at hP
      refine lv_aload_n hx hb dX0_writePerson_54 rfl (lv_at hl 0 rfl) ?_
      refine cg_4_1 hx hb hts hinX0 hown hK hP (hts (.fieldLink RX0 16 "CensusDesk$Book" "personFacts" "[[I") (List.mem_of_getElem? (i := 1) rfl)) dX0_writePerson_55 ?_
      refine lv_iconst (v := 3) hx hb dX0_writePerson_58 (by decide) ?_
      refine cr_27_3 hx hb hK hP dX0_writePerson_59 ?_
      refine lv_iload_n hx hb dX0_writePerson_60 rfl (lv_at hl 3 rfl) ?_
      refine lv_aload_n hx hb dX0_writePerson_61 rfl (lv_at hl 1 rfl) ?_
      refine cgN_8_4 hx hb hts hinX2 hown hK hP (va_Nw.use rfl (hN.1 ("CensusDesk$Book", 58, "CensusDesk$Household", "nameLength", "[I") (List.mem_of_getElem? (i := 18) rfl))) dX0_writePerson_62 ?_
      refine lv_iload_n hx hb dX0_writePerson_65 rfl (lv_at hl 2 rfl) ?_
      refine cl_44 (f := (φ 3)) hx hb hK hP (i := i) (vin rfl (by omega)) rfl dX0_writePerson_66 ?_
      refine lv_topi (fun z_18 ez_18 => ?_)
      have tz_18 : (Int32.toInt z_18) = Int32.toInt ((φ 3) (Int32.toNatClampNeg i)) := congrArg Int32.toInt ez_18
      refine cs_31 (f := (ψ 15)) hx hb hK hP hI hS (i := row) (x := z_18) (vin rfl (by omega)) rfl dX0_writePerson_67 ?_
      clear hP hS; intro H locs hP hS
      obtain ⟨f_19, ef_19⟩ : ∃ z : Nat → Int32, z = upd (ψ 15) (Int32.toNatClampNeg row) z_18 := ⟨_, rfl⟩
      rw [← ef_19] at hP
      refine lv_aload_n hx hb dX0_writePerson_68 rfl (lv_at hl 0 rfl) ?_
      refine cg_4_1 hx hb hts hinX0 hown hK hP (hts (.fieldLink RX0 16 "CensusDesk$Book" "personFacts" "[[I") (List.mem_of_getElem? (i := 1) rfl)) dX0_writePerson_69 ?_
      refine lv_iconst (v := 4) hx hb dX0_writePerson_72 (by decide) ?_
      refine cr_27_4 hx hb hK hP dX0_writePerson_73 ?_
      refine lv_iload_n hx hb dX0_writePerson_74 rfl (lv_at hl 3 rfl) ?_
      refine lv_iload hx hb dX0_writePerson_75 (lv_at hl 4 rfl) ?_
      refine cs_32 (f := (ψ 16)) hx hb hK hP hI hS (i := row) (x := household) (vin rfl (by omega)) rfl dX0_writePerson_77 ?_
      clear hP hS; intro H locs hP hS
      obtain ⟨f_20, ef_20⟩ : ∃ z : Nat → Int32, z = upd (ψ 16) (Int32.toNatClampNeg row) household := ⟨_, rfl⟩
      rw [← ef_20] at hP
      refine lv_iconst (v := 0) hx hb dX0_writePerson_78 (by decide) ?_
      refine lv_istore (lv' := [(5, .int 0), (0, .ref (a 4)), (1, .ref (a 8)), (2, .int i), (3, .int row), (4, .int household)]) hx hb dX0_writePerson_79 hl (by decide) rfl ?_
      clear hl; intro ls hl
      exact J81 (_ + 1) 0 f_13 f_15 γ (up (up (up ψ 14 f_17) 15 f_19) 16 f_20) _ _ _ pf_13 (show BS (σ 11) (σ 12) (σ 13) (σ 14) (σ 15) (φ 5) f_13 f_15 from (by with_reducible assumption)) (show 0 ≤ (Int32.toInt 0) ∧ 0 ≤ (Int32.toInt row) ∧ (Int32.toInt row) < 300 from (by have := L_0; omega)) (Nat.lt_succ_self _) hP hS (lv_sub hl [1, 2, 3, 4, 0] rfl)
    · have kc_11 := bI_nlt rfl L_300 c_11
      subst eQ
      exact W.vret hx hb hr (fun t ht hW => ⟨⟨(σ, (up (up φ 6 (φ 6)) 7 (φ 7)), γ, ψ), rfl, ⟨(φ 6), (φ 7), rfl, rfl, p_book_personFacts0, (show BS (σ 11) (σ 12) (σ 13) (σ 14) (σ 15) (φ 5) (φ 6) (φ 7) from (by with_reducible assumption))⟩, (by show va_P _ _ _ _; rw [ht]; exact hP)⟩, hS.F ht⟩) hS.2.2 dX0_writePerson_11
