set_option maxHeartbeats 4000000 in
set_option maxRecDepth 100000 in
theorem c_X4_takePerson (l : Launch) (dC : Nat → ClassId) (dI : Nat → Nat → Nat) (a : Nat → Nat) (κ : Nat → ClassId) (σ : Nat → Int32) (φ : Nat → Nat → Int32) (γ : Nat → Int32) (ψ : Nat → Nat → Int32) (g1 g2 : Nat)  (p_hh_nameLength : PtR 0 30 (φ 3)) (p_hh_sex : PtR (-1) 1 (φ 4)) (hc : 0 ≤ (Int32.toInt (σ 1)) ∧ (Int32.toInt (σ 1)) ≤ 1000000000) (hp : 0 ≤ (Int32.toInt (σ 9)) ∧ (Int32.toInt (σ 9)) ≤ 2000 ∧ 0 ≤ (Int32.toInt (σ 10)) ∧ (Int32.toInt (σ 10)) ≤ 30 * (Int32.toInt (σ 9))) (hv : -1 ≤ Int32.toInt ((φ 8) 2) ∧ Int32.toInt ((φ 8) 2) ≤ 1) : Met l yX4_takePerson wsX4_takePerson ({ frames := 3, cells := 0, slots := 0, locals := 74 } : Room) (va_Pc [.ref (a 5)] (cPre dC dI a κ (σ, φ, γ, ψ) g1 g2)) (va_Qv (QV (fun S F => ∃ (s1 : Int32) (f4 : Nat → Int32) (s10 : Int32) (s9 : Int32), (up (up (up σ 1 s1) 10 s10) 9 s9) = S ∧ (up φ 4 f4) = F ∧ PtR (-1) 1 f4 ∧ ((Int32.toInt (σ 1)) ≤ (Int32.toInt s1) ∧ (Int32.toInt s1) ≤ (Int32.toInt (σ 1)) + 3) ∧ (0 ≤ (Int32.toInt s9) ∧ (Int32.toInt s9) ≤ 2000 ∧ 0 ≤ (Int32.toInt s10) ∧ (Int32.toInt s10) ≤ 30 * (Int32.toInt s9)))) (cB dC dI a κ) (cA a)) 0 0 (cA a) := by
  refine Met.ofW (cc := cX4_takePerson) (maxL := 2) (ret := none) (by decide) rfl ?_
  intro p e s m args below meth c s₁ B hml hv
  obtain ⟨rfl, hP, hK, hI, hN, hX⟩ := hv
  have hx := B.exec
  have hb := B.bytes
  have hr := B.returns
  have hts := atoms_spec (ws := wsX4_takePerson) B.pre
  have hown : s.vm.findClass RX4 = some m.cls := findClass_of_methodNamed B.named
  have hlocks := B.notSynchronized
  have hS : va_S (cA a) s.heap s.heap [] := va_S.rf
  have hinX4 : ∀ w ∈ wsX40, w ∈ wsX4_takePerson := fun _ h => List.mem_cons_of_mem _ (List.mem_append_left _ (List.mem_append_left _ (List.mem_append_left _ (List.mem_append_left _ (List.mem_append_right _ h)))))
  have hinX3 : ∀ w ∈ wsX30, w ∈ wsX4_takePerson := fun _ h => List.mem_cons_of_mem _ (List.mem_append_left _ (List.mem_append_left _ (List.mem_append_left _ (List.mem_append_right _ h))))
  have hinX2 : ∀ w ∈ wsX20, w ∈ wsX4_takePerson := fun _ h => List.mem_cons_of_mem _ (List.mem_append_left _ (List.mem_append_left _ (List.mem_append_right _ h)))
  have hinX5 : ∀ w ∈ wsX50, w ∈ wsX4_takePerson := fun _ h => List.mem_cons_of_mem _ (List.mem_append_left _ (List.mem_append_right _ h))
  have hinX1 : ∀ w ∈ wsX10, w ∈ wsX4_takePerson := fun _ h => List.mem_cons_of_mem _ (List.mem_append_right _ h)
  have hl := lv_entry ([.ref (a 5)]) (n := 2) (Nat.le_of_ble_eq_true rfl)
  rw [lg_entry_eq]
  generalize (lg_sl ([.ref (a 5)]) ++ List.replicate (2 - (lg_sl ([.ref (a 5)])).length) Slot.unset).toArray = ls at hl ⊢
  have hl : lv_has ls 2 [(0, .ref (a 5))] := hl
  refine lv_aload_n hx hb dX4_takePerson_0 rfl (lv_at hl 0 rfl) ?_
  refine cg_5_6 hx hb hts hinX4 hown hK hP (hts (.fieldLink RX4 28 "CensusDesk$Reader" "household" "LCensusDesk$Household;") (List.mem_of_getElem? (i := 1) rfl)) dX4_takePerson_1 ?_
  refine lv_aload_n hx hb dX4_takePerson_4 rfl (lv_at hl 0 rfl) ?_
  refine cg_5_7 hx hb hts hinX4 hown hK hP (hts (.fieldLink RX4 32 "CensusDesk$Reader" "values" "[I") (List.mem_of_getElem? (i := 2) rfl)) dX4_takePerson_5 ?_
  refine lv_iconst (v := 2) hx hb dX4_takePerson_8 (by decide) ?_
  refine cl_35 (f := (φ 8)) hx hb hK hP (i := 2) (vp_in_nI (n := 2) (by decide) (by decide)) rfl dX4_takePerson_9 ?_
  refine lv_topi (fun z_1 ez_1 => ?_)
  have tz_1 : (Int32.toInt z_1) = Int32.toInt ((φ 8) 2) := congrArg Int32.toInt ez_1
  have hz9 : (Int32.toInt z_1) = Int32.toInt ((φ 8) 2) := by rw [ez_1]; rfl
  refine lv_aload_n hx hb dX4_takePerson_10 rfl (lv_at hl 0 rfl) ?_
  refine cg_5_7 hx hb hts hinX4 hown hK hP (hts (.fieldLink RX4 32 "CensusDesk$Reader" "values" "[I") (List.mem_of_getElem? (i := 2) rfl)) dX4_takePerson_11 ?_
  refine lv_iconst (v := 3) hx hb dX4_takePerson_14 (by decide) ?_
  refine cl_35 (f := (φ 8)) hx hb hK hP (i := 3) (vp_in_nI (n := 3) (by decide) (by decide)) rfl dX4_takePerson_15 ?_
  refine lv_topi (fun z_2 ez_2 => ?_)
  have tz_2 : (Int32.toInt z_2) = Int32.toInt ((φ 8) 3) := congrArg Int32.toInt ez_2
  refine lv_aload_n hx hb dX4_takePerson_16 rfl (lv_at hl 0 rfl) ?_
  refine cg_5_7 hx hb hts hinX4 hown hK hP (hts (.fieldLink RX4 32 "CensusDesk$Reader" "values" "[I") (List.mem_of_getElem? (i := 2) rfl)) dX4_takePerson_17 ?_
  refine lv_iconst (v := 4) hx hb dX4_takePerson_20 (by decide) ?_
  refine cl_35 (f := (φ 8)) hx hb hK hP (i := 4) (vp_in_nI (n := 4) (by decide) (by decide)) rfl dX4_takePerson_21 ?_
  refine lv_topi (fun z_3 ez_3 => ?_)
  have tz_3 : (Int32.toInt z_3) = Int32.toInt ((φ 8) 4) := congrArg Int32.toInt ez_3
  refine c_callv (va_runV (As := [.int z_1, .int z_2, .int z_3]) (rest := []) ⟨hx, hb, hml, hown, hts⟩ (c_X2_describeNewcomer l dC dI a κ σ φ γ ψ g1 g2 z_1 z_2 z_3 p_hh_sex (show 0 ≤ (Int32.toInt (σ 9)) ∧ (Int32.toInt (σ 9)) ≤ 2000 ∧ 0 ≤ (Int32.toInt (σ 10)) ∧ (Int32.toInt (σ 10)) ≤ 30 * (Int32.toInt (σ 9)) from (by omega)) (show -1 ≤ (Int32.toInt z_1) ∧ (Int32.toInt z_1) ≤ 1 from (by omega))) (cwV 3 hts gX4_takePerson_X2_describeNewcomer rfl rfl rfl ⟨rfl, hd_X2_describeNewcomer⟩ ⟨Nat.le_of_ble_eq_true rfl, Nat.le_of_ble_eq_true rfl⟩) (cPreV hP hK hI hN hX hS (va_recv hK hP (ci := 2) (q0 := 8) rfl rfl)) rfl rfl hl.1 rfl (lv_room (Nat.le_of_ble_eq_true rfl)) dX4_takePerson_22 ⟨(by decide +kernel), (by decide +kernel)⟩) hS ?_
  clear hP hS; intro S_4 F_4 γ_4 ψ_4 H locs hw hP hS
  obtain ⟨f4_4, rfl, rfl, pf4_4⟩ := hw
  refine lv_iconst (v := (-1)) hx hb dX4_takePerson_25 (by decide) ?_
  refine lv_istore_n (lv' := [(1, .int (-1)), (0, .ref (a 5))]) hx hb dX4_takePerson_26 rfl hl (by decide) rfl ?_
  clear hl; intro ls hl
  refine lv_aload_n hx hb dX4_takePerson_27 rfl (lv_at hl 1 rfl) ?_
  refine cg_5_6 hx hb hts hinX4 hown hK hP (hts (.fieldLink RX4 28 "CensusDesk$Reader" "household" "LCensusDesk$Household;") (List.mem_of_getElem? (i := 1) rfl)) dX4_takePerson_28 ?_
  refine c_calli (va_runV (As := []) (rest := []) ⟨hx, hb, hml, hown, hts⟩ (c_X2_hasLikeOfNewcomer l dC dI a κ σ (up φ 4 f4_4) γ_4 ψ_4 g1 g2  p_hh_nameLength (show 0 ≤ (Int32.toInt (σ 9)) ∧ (Int32.toInt (σ 9)) ≤ 2000 ∧ 0 ≤ (Int32.toInt (σ 10)) ∧ (Int32.toInt (σ 10)) ≤ 30 * (Int32.toInt (σ 9)) from (by omega))) (cwV 0 hts gX4_takePerson_X2_hasLikeOfNewcomer rfl rfl rfl ⟨rfl, hd_X2_hasLikeOfNewcomer⟩ ⟨Nat.le_of_ble_eq_true rfl, Nat.le_of_ble_eq_true rfl⟩) (cPreV hP hK hI hN hX hS (va_recv hK hP (ci := 2) (q0 := 8) rfl rfl)) rfl rfl hl.1 rfl (lv_room (Nat.le_of_ble_eq_true rfl)) dX4_takePerson_31 ⟨(by decide +kernel), (by decide +kernel)⟩) hS ?_
  clear hP hS; intro r_5 S_5 F_5 γ_5 ψ_5 H locs hw hP hS
  obtain ⟨rfl, rfl, -⟩ := hw
  refine lv_if_eq (tgt := 52) hx hb dX4_takePerson_34 (by decide) (fun c_6 => ?_) (fun c_6 => ?_)
  · have kc_6 := bI_eq rfl L_0 c_6
    refine lv_iload_n hx hb dX4_takePerson_52 rfl (lv_at hl 0 rfl) ?_
    refine lv_iconst (v := (-1)) hx hb dX4_takePerson_53 (by decide) ?_
    refine lv_icmp_ne (tgt := 64) hx hb dX4_takePerson_54 (by decide) (fun c_7 => absurd c_7 (by decide)) (fun c_7 => ?_)
    refine lv_aload_n hx hb dX4_takePerson_57 rfl (lv_at hl 1 rfl) ?_
    refine cg_5_6 hx hb hts hinX4 hown hK hP (hts (.fieldLink RX4 28 "CensusDesk$Reader" "household" "LCensusDesk$Household;") (List.mem_of_getElem? (i := 1) rfl)) dX4_takePerson_58 ?_
    refine c_callv (va_runV (As := []) (rest := []) ⟨hx, hb, hml, hown, hts⟩ (c_X2_takeNewcomer l dC dI a κ σ (up φ 4 f4_4) γ_5 ψ_5 g1 g2  p_hh_nameLength (show 0 ≤ (Int32.toInt (σ 9)) ∧ (Int32.toInt (σ 9)) ≤ 2000 ∧ 0 ≤ (Int32.toInt (σ 10)) ∧ (Int32.toInt (σ 10)) ≤ 30 * (Int32.toInt (σ 9)) from (by omega))) (cwV 0 hts gX4_takePerson_X2_takeNewcomer rfl rfl rfl ⟨rfl, hd_X2_takeNewcomer⟩ ⟨Nat.le_of_ble_eq_true rfl, Nat.le_of_ble_eq_true rfl⟩) (cPreV hP hK hI hN hX hS (va_recv hK hP (ci := 2) (q0 := 8) rfl rfl)) rfl rfl hl.1 rfl (lv_room (Nat.le_of_ble_eq_true rfl)) dX4_takePerson_61 ⟨(by decide +kernel), (by decide +kernel)⟩) hS ?_
    clear hP hS; intro S_8 F_8 γ_8 ψ_8 H locs hw hP hS
    obtain ⟨s10_8, s9_8, rfl, rfl, (qp_8 : 0 ≤ (Int32.toInt s9_8) ∧ (Int32.toInt s9_8) ≤ 2000 ∧ 0 ≤ (Int32.toInt s10_8) ∧ (Int32.toInt s10_8) ≤ 30 * (Int32.toInt s9_8))⟩ := hw
    refine lv_iload_n hx hb dX4_takePerson_64 rfl (lv_at hl 0 rfl) ?_
    refine lv_if_lt (tgt := 86) hx hb dX4_takePerson_65 (by decide) (fun c_9 => ?_) (fun c_9 => absurd c_9 (by decide))
    exact W.vret hx hb hr (fun t ht hW => ⟨⟨((up (up (up σ 1 (σ 1)) 10 s10_8) 9 s9_8), (up φ 4 f4_4), γ_8, ψ_8), rfl, ⟨(σ 1), f4_4, s10_8, s9_8, rfl, rfl, pf4_4, (show (Int32.toInt (σ 1)) ≤ (Int32.toInt (σ 1)) ∧ (Int32.toInt (σ 1)) ≤ (Int32.toInt (σ 1)) + 3 from (by omega)), (show 0 ≤ (Int32.toInt s9_8) ∧ (Int32.toInt s9_8) ≤ 2000 ∧ 0 ≤ (Int32.toInt s10_8) ∧ (Int32.toInt s10_8) ≤ 30 * (Int32.toInt s9_8) from (by omega))⟩, (by show va_P _ _ _ _; rw [ht]; exact hP)⟩, hS.F ht⟩) hS.2.2 dX4_takePerson_86
  · have kc_6 := bI_ne rfl L_0 c_6
    refine lv_aload_n hx hb dX4_takePerson_37 rfl (lv_at hl 1 rfl) ?_
    refine lv_bipush (v := 17) hx hb dX4_takePerson_38 (by decide) ?_
    refine lv_aload_n hx hb dX4_takePerson_40 rfl (lv_at hl 1 rfl) ?_
    refine cg_5_4 hx hb hts hinX4 hown hK hP (hts (.fieldLink RX4 12 "CensusDesk$Reader" "line" "LCensusDesk$Line;") (List.mem_of_getElem? (i := 3) rfl)) dX4_takePerson_41 ?_
    refine cgN_6_2 (v := (σ 2)) hx hb hts hinX3 hown hK hP (va_Nw.use rfl (hN.1 ("CensusDesk$Reader", 124, "CensusDesk$Line", "start", "I") (List.mem_of_getElem? (i := 10) rfl))) rfl dX4_takePerson_44 ?_
    refine lv_iconst (v := (-1)) hx hb dX4_takePerson_47 (by decide) ?_
    refine c_calli (va_runV (As := [.int 17, .int (σ 2), .int (-1)]) (rest := []) ⟨hx, hb, hml, hown, hts⟩ (c_X4_fail l dC dI a κ σ (up φ 4 f4_4) γ_5 ψ_5 g1 g2 17 (σ 2) (-1) (show 0 ≤ (Int32.toInt (σ 1)) ∧ (Int32.toInt (σ 1)) ≤ 2000000000 from (by omega))) (cwV 3 hts gX4_takePerson_X4_fail rfl rfl rfl ⟨rfl, hd_X4_fail⟩ ⟨Nat.le_of_ble_eq_true rfl, Nat.le_of_ble_eq_true rfl⟩) (cPreV hP hK hI hN hX hS (va_recv hK hP (ci := 4) (q0 := 5) rfl rfl)) rfl rfl hl.1 rfl (lv_room (Nat.le_of_ble_eq_true rfl)) dX4_takePerson_48 ⟨(by decide +kernel), (by decide +kernel)⟩) hS ?_
    clear hP hS; intro r_10 S_10 F_10 γ_10 ψ_10 H locs hw hP hS
    obtain ⟨s1_10, rfl, rfl, (qc_10 : (Int32.toInt (σ 1)) ≤ (Int32.toInt s1_10) ∧ (Int32.toInt s1_10) ≤ (Int32.toInt (σ 1)) + 1)⟩ := hw
    have hLm1_10 := L_m1
    have hL17_10 := L_17
    refine lv_istore_n (lv' := [(1, .int r_10), (0, .ref (a 5))]) hx hb dX4_takePerson_51 rfl hl (by decide) rfl ?_
    clear hl; intro ls hl
    refine lv_iload_n hx hb dX4_takePerson_52 rfl (lv_at hl 0 rfl) ?_
    refine lv_iconst (v := (-1)) hx hb dX4_takePerson_53 (by decide) ?_
    refine lv_icmp_ne (tgt := 64) hx hb dX4_takePerson_54 (by decide) (fun c_11 => ?_) (fun c_11 => ?_)
    · have kc_11 := bI_ne rfl L_m1 c_11
      refine lv_iload_n hx hb dX4_takePerson_64 rfl (lv_at hl 0 rfl) ?_
      refine lv_if_lt (tgt := 86) hx hb dX4_takePerson_65 (by decide) (fun c_12 => ?_) (fun c_12 => ?_)
      · have kc_12 := bI_lt rfl L_0 c_12
        exact W.vret hx hb hr (fun t ht hW => ⟨⟨((up (up (up σ 1 s1_10) 10 (σ 10)) 9 (σ 9)), (up φ 4 f4_4), γ_10, ψ_10), rfl, ⟨s1_10, f4_4, (σ 10), (σ 9), rfl, rfl, pf4_4, (show (Int32.toInt (σ 1)) ≤ (Int32.toInt s1_10) ∧ (Int32.toInt s1_10) ≤ (Int32.toInt (σ 1)) + 3 from (by omega)), (show 0 ≤ (Int32.toInt (σ 9)) ∧ (Int32.toInt (σ 9)) ≤ 2000 ∧ 0 ≤ (Int32.toInt (σ 10)) ∧ (Int32.toInt (σ 10)) ≤ 30 * (Int32.toInt (σ 9)) from (by omega))⟩, (by show va_P _ _ _ _; rw [ht]; exact hP)⟩, hS.F ht⟩) hS.2.2 dX4_takePerson_86
      · have kc_12 := bI_nlt rfl L_0 c_12
        refine lv_aload_n hx hb dX4_takePerson_68 rfl (lv_at hl 1 rfl) ?_
        refine lv_aload_n hx hb dX4_takePerson_69 rfl (lv_at hl 1 rfl) ?_
        refine lv_bipush (v := 18) hx hb dX4_takePerson_70 (by decide) ?_
        refine lv_aload_n hx hb dX4_takePerson_72 rfl (lv_at hl 1 rfl) ?_
        refine cg_5_4 hx hb hts hinX4 hown hK hP (hts (.fieldLink RX4 12 "CensusDesk$Reader" "line" "LCensusDesk$Line;") (List.mem_of_getElem? (i := 3) rfl)) dX4_takePerson_73 ?_
        refine cgN_6_2 (v := (σ 2)) hx hb hts hinX3 hown hK hP (va_Nw.use rfl (hN.1 ("CensusDesk$Reader", 124, "CensusDesk$Line", "start", "I") (List.mem_of_getElem? (i := 10) rfl))) rfl dX4_takePerson_76 ?_
        refine lv_iload_n hx hb dX4_takePerson_79 rfl (lv_at hl 0 rfl) ?_
        refine c_calli (va_runV (As := [.int 18, .int (σ 2), .int r_10]) (rest := [.ref (a 5)]) ⟨hx, hb, hml, hown, hts⟩ (c_X4_fail l dC dI a κ (up σ 1 s1_10) (up φ 4 f4_4) γ_10 ψ_10 g1 g2 18 (σ 2) r_10 (show 0 ≤ (Int32.toInt s1_10) ∧ (Int32.toInt s1_10) ≤ 2000000000 from (by omega))) (cwV 3 hts gX4_takePerson_X4_fail rfl rfl rfl ⟨rfl, hd_X4_fail⟩ ⟨Nat.le_of_ble_eq_true rfl, Nat.le_of_ble_eq_true rfl⟩) (cPreV hP hK hI hN hX hS (va_recv hK hP (ci := 4) (q0 := 5) rfl rfl)) rfl rfl hl.1 rfl (lv_room (Nat.le_of_ble_eq_true rfl)) dX4_takePerson_80 ⟨(by decide +kernel), (by decide +kernel)⟩) hS ?_
        clear hP hS; intro r_13 S_13 F_13 γ_13 ψ_13 H locs hw hP hS
        obtain ⟨s1_13, rfl, rfl, (qc_13 : (Int32.toInt s1_10) ≤ (Int32.toInt s1_13) ∧ (Int32.toInt s1_13) ≤ (Int32.toInt s1_10) + 1)⟩ := hw
        have hL18_13 := L_18
        refine c_callv (va_runV (As := [.int r_13]) (rest := []) ⟨hx, hb, hml, hown, hts⟩ (c_X4_loseHousehold l dC dI a κ (up (up σ 1 s1_10) 1 s1_13) (up φ 4 f4_4) γ_13 ψ_13 g1 g2 r_13 (show 0 ≤ (Int32.toInt s1_13) ∧ (Int32.toInt s1_13) ≤ 2000000000 from (by omega))) (cwV 1 hts gX4_takePerson_X4_loseHousehold rfl rfl rfl ⟨rfl, hd_X4_loseHousehold⟩ ⟨Nat.le_of_ble_eq_true rfl, Nat.le_of_ble_eq_true rfl⟩) (cPreV hP hK hI hN hX hS (va_recv hK hP (ci := 4) (q0 := 5) rfl rfl)) rfl rfl hl.1 rfl (lv_room (Nat.le_of_ble_eq_true rfl)) dX4_takePerson_83 ⟨(by decide +kernel), (by decide +kernel)⟩) hS ?_
        clear hP hS; intro S_14 F_14 γ_14 ψ_14 H locs hw hP hS
        obtain ⟨s1_14, rfl, rfl, (qc_14 : (Int32.toInt s1_13) ≤ (Int32.toInt s1_14) ∧ (Int32.toInt s1_14) ≤ (Int32.toInt s1_13) + 1)⟩ := hw
        exact W.vret hx hb hr (fun t ht hW => ⟨⟨((up (up (up σ 1 s1_14) 10 (σ 10)) 9 (σ 9)), (up φ 4 f4_4), γ_14, ψ_14), rfl, ⟨s1_14, f4_4, (σ 10), (σ 9), rfl, rfl, pf4_4, (show (Int32.toInt (σ 1)) ≤ (Int32.toInt s1_14) ∧ (Int32.toInt s1_14) ≤ (Int32.toInt (σ 1)) + 3 from (by omega)), (show 0 ≤ (Int32.toInt (σ 9)) ∧ (Int32.toInt (σ 9)) ≤ 2000 ∧ 0 ≤ (Int32.toInt (σ 10)) ∧ (Int32.toInt (σ 10)) ≤ 30 * (Int32.toInt (σ 9)) from (by omega))⟩, (by show va_P _ _ _ _; rw [ht]; exact hP)⟩, hS.F ht⟩) hS.2.2 dX4_takePerson_86
    · have kc_11 := bI_eq rfl L_m1 c_11
      refine lv_aload_n hx hb dX4_takePerson_57 rfl (lv_at hl 1 rfl) ?_
      refine cg_5_6 hx hb hts hinX4 hown hK hP (hts (.fieldLink RX4 28 "CensusDesk$Reader" "household" "LCensusDesk$Household;") (List.mem_of_getElem? (i := 1) rfl)) dX4_takePerson_58 ?_
      refine c_callv (va_runV (As := []) (rest := []) ⟨hx, hb, hml, hown, hts⟩ (c_X2_takeNewcomer l dC dI a κ (up σ 1 s1_10) (up φ 4 f4_4) γ_10 ψ_10 g1 g2  p_hh_nameLength (show 0 ≤ (Int32.toInt (σ 9)) ∧ (Int32.toInt (σ 9)) ≤ 2000 ∧ 0 ≤ (Int32.toInt (σ 10)) ∧ (Int32.toInt (σ 10)) ≤ 30 * (Int32.toInt (σ 9)) from (by omega))) (cwV 0 hts gX4_takePerson_X2_takeNewcomer rfl rfl rfl ⟨rfl, hd_X2_takeNewcomer⟩ ⟨Nat.le_of_ble_eq_true rfl, Nat.le_of_ble_eq_true rfl⟩) (cPreV hP hK hI hN hX hS (va_recv hK hP (ci := 2) (q0 := 8) rfl rfl)) rfl rfl hl.1 rfl (lv_room (Nat.le_of_ble_eq_true rfl)) dX4_takePerson_61 ⟨(by decide +kernel), (by decide +kernel)⟩) hS ?_
      clear hP hS; intro S_15 F_15 γ_15 ψ_15 H locs hw hP hS
      obtain ⟨s10_15, s9_15, rfl, rfl, (qp_15 : 0 ≤ (Int32.toInt s9_15) ∧ (Int32.toInt s9_15) ≤ 2000 ∧ 0 ≤ (Int32.toInt s10_15) ∧ (Int32.toInt s10_15) ≤ 30 * (Int32.toInt s9_15))⟩ := hw
      refine lv_iload_n hx hb dX4_takePerson_64 rfl (lv_at hl 0 rfl) ?_
      refine lv_if_lt (tgt := 86) hx hb dX4_takePerson_65 (by decide) (fun c_16 => ?_) (fun c_16 => ?_)
      · have kc_16 := bI_lt rfl L_0 c_16
        exact W.vret hx hb hr (fun t ht hW => ⟨⟨((up (up (up σ 1 s1_10) 10 s10_15) 9 s9_15), (up φ 4 f4_4), γ_15, ψ_15), rfl, ⟨s1_10, f4_4, s10_15, s9_15, rfl, rfl, pf4_4, (show (Int32.toInt (σ 1)) ≤ (Int32.toInt s1_10) ∧ (Int32.toInt s1_10) ≤ (Int32.toInt (σ 1)) + 3 from (by omega)), (show 0 ≤ (Int32.toInt s9_15) ∧ (Int32.toInt s9_15) ≤ 2000 ∧ 0 ≤ (Int32.toInt s10_15) ∧ (Int32.toInt s10_15) ≤ 30 * (Int32.toInt s9_15) from (by omega))⟩, (by show va_P _ _ _ _; rw [ht]; exact hP)⟩, hS.F ht⟩) hS.2.2 dX4_takePerson_86
      · have kc_16 := bI_nlt rfl L_0 c_16
        refine lv_aload_n hx hb dX4_takePerson_68 rfl (lv_at hl 1 rfl) ?_
        refine lv_aload_n hx hb dX4_takePerson_69 rfl (lv_at hl 1 rfl) ?_
        refine lv_bipush (v := 18) hx hb dX4_takePerson_70 (by decide) ?_
        refine lv_aload_n hx hb dX4_takePerson_72 rfl (lv_at hl 1 rfl) ?_
        refine cg_5_4 hx hb hts hinX4 hown hK hP (hts (.fieldLink RX4 12 "CensusDesk$Reader" "line" "LCensusDesk$Line;") (List.mem_of_getElem? (i := 3) rfl)) dX4_takePerson_73 ?_
        refine cgN_6_2 (v := (σ 2)) hx hb hts hinX3 hown hK hP (va_Nw.use rfl (hN.1 ("CensusDesk$Reader", 124, "CensusDesk$Line", "start", "I") (List.mem_of_getElem? (i := 10) rfl))) rfl dX4_takePerson_76 ?_
        refine lv_iload_n hx hb dX4_takePerson_79 rfl (lv_at hl 0 rfl) ?_
        refine c_calli (va_runV (As := [.int 18, .int (σ 2), .int r_10]) (rest := [.ref (a 5)]) ⟨hx, hb, hml, hown, hts⟩ (c_X4_fail l dC dI a κ (up (up (up σ 1 s1_10) 10 s10_15) 9 s9_15) (up φ 4 f4_4) γ_15 ψ_15 g1 g2 18 (σ 2) r_10 (show 0 ≤ (Int32.toInt s1_10) ∧ (Int32.toInt s1_10) ≤ 2000000000 from (by omega))) (cwV 3 hts gX4_takePerson_X4_fail rfl rfl rfl ⟨rfl, hd_X4_fail⟩ ⟨Nat.le_of_ble_eq_true rfl, Nat.le_of_ble_eq_true rfl⟩) (cPreV hP hK hI hN hX hS (va_recv hK hP (ci := 4) (q0 := 5) rfl rfl)) rfl rfl hl.1 rfl (lv_room (Nat.le_of_ble_eq_true rfl)) dX4_takePerson_80 ⟨(by decide +kernel), (by decide +kernel)⟩) hS ?_
        clear hP hS; intro r_17 S_17 F_17 γ_17 ψ_17 H locs hw hP hS
        obtain ⟨s1_17, rfl, rfl, (qc_17 : (Int32.toInt s1_10) ≤ (Int32.toInt s1_17) ∧ (Int32.toInt s1_17) ≤ (Int32.toInt s1_10) + 1)⟩ := hw
        have hL18_17 := L_18
        refine c_callv (va_runV (As := [.int r_17]) (rest := []) ⟨hx, hb, hml, hown, hts⟩ (c_X4_loseHousehold l dC dI a κ (up (up (up (up σ 1 s1_10) 10 s10_15) 9 s9_15) 1 s1_17) (up φ 4 f4_4) γ_17 ψ_17 g1 g2 r_17 (show 0 ≤ (Int32.toInt s1_17) ∧ (Int32.toInt s1_17) ≤ 2000000000 from (by omega))) (cwV 1 hts gX4_takePerson_X4_loseHousehold rfl rfl rfl ⟨rfl, hd_X4_loseHousehold⟩ ⟨Nat.le_of_ble_eq_true rfl, Nat.le_of_ble_eq_true rfl⟩) (cPreV hP hK hI hN hX hS (va_recv hK hP (ci := 4) (q0 := 5) rfl rfl)) rfl rfl hl.1 rfl (lv_room (Nat.le_of_ble_eq_true rfl)) dX4_takePerson_83 ⟨(by decide +kernel), (by decide +kernel)⟩) hS ?_
        clear hP hS; intro S_18 F_18 γ_18 ψ_18 H locs hw hP hS
        obtain ⟨s1_18, rfl, rfl, (qc_18 : (Int32.toInt s1_17) ≤ (Int32.toInt s1_18) ∧ (Int32.toInt s1_18) ≤ (Int32.toInt s1_17) + 1)⟩ := hw
        exact W.vret hx hb hr (fun t ht hW => ⟨⟨((up (up (up σ 1 s1_18) 10 s10_15) 9 s9_15), (up φ 4 f4_4), γ_18, ψ_18), rfl, ⟨s1_18, f4_4, s10_15, s9_15, rfl, rfl, pf4_4, (show (Int32.toInt (σ 1)) ≤ (Int32.toInt s1_18) ∧ (Int32.toInt s1_18) ≤ (Int32.toInt (σ 1)) + 3 from (by omega)), (show 0 ≤ (Int32.toInt s9_15) ∧ (Int32.toInt s9_15) ≤ 2000 ∧ 0 ≤ (Int32.toInt s10_15) ∧ (Int32.toInt s10_15) ≤ 30 * (Int32.toInt s9_15) from (by omega))⟩, (by show va_P _ _ _ _; rw [ht]; exact hP)⟩, hS.F ht⟩) hS.2.2 dX4_takePerson_86
set_option maxHeartbeats 4000000 in
set_option maxRecDepth 100000 in
theorem c_X4_placeLine (l : Launch) (dC : Nat → ClassId) (dI : Nat → Nat → Nat) (a : Nat → Nat) (κ : Nat → ClassId) (σ : Nat → Int32) (φ : Nat → Nat → Int32) (γ : Nat → Int32) (ψ : Nat → Nat → Int32) (g1 g2 : Nat) (fate : Int32) (p_hh_nameLength : PtR 0 30 (φ 3)) (p_hh_sex : PtR (-1) 1 (φ 4)) (hc : 0 ≤ (Int32.toInt (σ 1)) ∧ (Int32.toInt (σ 1)) ≤ 1000000000) (hp : 0 ≤ (Int32.toInt (σ 9)) ∧ (Int32.toInt (σ 9)) ≤ 2000 ∧ 0 ≤ (Int32.toInt (σ 10)) ∧ (Int32.toInt (σ 10)) ≤ 30 * (Int32.toInt (σ 9))) (hv : (Int32.toInt fate) ≠ -1 ∨ (Int32.toInt (σ 8)) = 0 ∨ (Int32.toInt (σ 6)) = 72 ∨ (-1 ≤ Int32.toInt ((φ 8) 2) ∧ Int32.toInt ((φ 8) 2) ≤ 1)) : Met l yX4_placeLine wsX4_placeLine ({ frames := 4, cells := 0, slots := 0, locals := 95 } : Room) (va_Pc [.ref (a 5), .int fate] (cPre dC dI a κ (σ, φ, γ, ψ) g1 g2)) (va_Qv (QV (fun S F => ∃ (s1 : Int32) (f4 : Nat → Int32) (s10 : Int32) (s9 : Int32), (up (up (up σ 1 s1) 10 s10) 9 s9) = S ∧ (up φ 4 f4) = F ∧ PtR (-1) 1 f4 ∧ ((Int32.toInt (σ 1)) ≤ (Int32.toInt s1) ∧ (Int32.toInt s1) ≤ (Int32.toInt (σ 1)) + 3) ∧ (0 ≤ (Int32.toInt s9) ∧ (Int32.toInt s9) ≤ 2000 ∧ 0 ≤ (Int32.toInt s10) ∧ (Int32.toInt s10) ≤ 30 * (Int32.toInt s9)))) (cB dC dI a κ) (cA a)) 0 0 (cA a) := by
  refine Met.ofW (cc := cX4_placeLine) (maxL := 2) (ret := none) (by decide) rfl ?_
  intro p e s m args below meth c s₁ B hml hv
  obtain ⟨rfl, hP, hK, hI, hN, hX⟩ := hv
  have hx := B.exec
  have hb := B.bytes
  have hr := B.returns
  have hts := atoms_spec (ws := wsX4_placeLine) B.pre
  have hown : s.vm.findClass RX4 = some m.cls := findClass_of_methodNamed B.named
  have hlocks := B.notSynchronized
  have hS : va_S (cA a) s.heap s.heap [] := va_S.rf
  have hinX4 : ∀ w ∈ wsX40, w ∈ wsX4_placeLine := fun _ h => List.mem_cons_of_mem _ (List.mem_append_left _ (List.mem_append_left _ (List.mem_append_left _ (List.mem_append_left _ (List.mem_append_right _ h)))))
  have hinX2 : ∀ w ∈ wsX20, w ∈ wsX4_placeLine := fun _ h => List.mem_cons_of_mem _ (List.mem_append_left _ (List.mem_append_left _ (List.mem_append_left _ (List.mem_append_right _ h))))
  have hinX3 : ∀ w ∈ wsX30, w ∈ wsX4_placeLine := fun _ h => List.mem_cons_of_mem _ (List.mem_append_left _ (List.mem_append_left _ (List.mem_append_right _ h)))
  have hinX5 : ∀ w ∈ wsX50, w ∈ wsX4_placeLine := fun _ h => List.mem_cons_of_mem _ (List.mem_append_left _ (List.mem_append_right _ h))
  have hinX1 : ∀ w ∈ wsX10, w ∈ wsX4_placeLine := fun _ h => List.mem_cons_of_mem _ (List.mem_append_right _ h)
  have hl := lv_entry ([.ref (a 5), .int fate]) (n := 2) (Nat.le_of_ble_eq_true rfl)
  rw [lg_entry_eq]
  generalize (lg_sl ([.ref (a 5), .int fate]) ++ List.replicate (2 - (lg_sl ([.ref (a 5), .int fate])).length) Slot.unset).toArray = ls at hl ⊢
  have hl : lv_has ls 2 [(0, .ref (a 5)), (1, .int fate)] := hl
  refine lv_aload_n hx hb dX4_placeLine_0 rfl (lv_at hl 0 rfl) ?_
  refine cg_5_6 hx hb hts hinX4 hown hK hP (hts (.fieldLink RX4 28 "CensusDesk$Reader" "household" "LCensusDesk$Household;") (List.mem_of_getElem? (i := 1) rfl)) dX4_placeLine_1 ?_
  refine cgN_8_6 (v := (σ 8)) hx hb hts hinX2 hown hK hP (va_Nw.use rfl (hN.1 ("CensusDesk$Reader", 81, "CensusDesk$Household", "open", "Z") (List.mem_of_getElem? (i := 19) rfl))) rfl dX4_placeLine_4 ?_
  refine lv_if_ne (tgt := 18) hx hb dX4_placeLine_7 (by decide) (fun c_1 => ?_) (fun c_1 => ?_)
  · have kc_1 := bI_ne rfl L_0 c_1
    refine lv_iload_n hx hb dX4_placeLine_18 rfl (lv_at hl 1 rfl) ?_
    refine lv_if_lt (tgt := 43) hx hb dX4_placeLine_19 (by decide) (fun c_2 => ?_) (fun c_2 => ?_)
    · have kc_2 := bI_lt rfl L_0 c_2
      refine lv_iload_n hx hb dX4_placeLine_43 rfl (lv_at hl 1 rfl) ?_
      refine lv_iconst (v := (-1)) hx hb dX4_placeLine_44 (by decide) ?_
      refine lv_icmp_ne (tgt := 89) hx hb dX4_placeLine_45 (by decide) (fun c_3 => ?_) (fun c_3 => ?_)
      · have kc_3 := bI_ne rfl L_m1 c_3
        refine lv_iload_n hx hb dX4_placeLine_89 rfl (lv_at hl 1 rfl) ?_
        refine lv_iconst (v := (-1)) hx hb dX4_placeLine_90 (by decide) ?_
        refine lv_icmp_ne (tgt := 98) hx hb dX4_placeLine_91 (by decide) (fun c_4 => ?_) (fun c_4 => ?_)
        · have kc_4 := bI_ne rfl L_m1 c_4
          exact W.vret hx hb hr (fun t ht hW => ⟨⟨((up (up (up σ 1 (σ 1)) 10 (σ 10)) 9 (σ 9)), (up φ 4 (φ 4)), γ, ψ), rfl, ⟨(σ 1), (φ 4), (σ 10), (σ 9), rfl, rfl, p_hh_sex, (show (Int32.toInt (σ 1)) ≤ (Int32.toInt (σ 1)) ∧ (Int32.toInt (σ 1)) ≤ (Int32.toInt (σ 1)) + 3 from (by omega)), (show 0 ≤ (Int32.toInt (σ 9)) ∧ (Int32.toInt (σ 9)) ≤ 2000 ∧ 0 ≤ (Int32.toInt (σ 10)) ∧ (Int32.toInt (σ 10)) ≤ 30 * (Int32.toInt (σ 9)) from (by omega))⟩, (by show va_P _ _ _ _; rw [ht]; exact hP)⟩, hS.F ht⟩) hS.2.2 dX4_placeLine_98
        · have kc_4 := bI_eq rfl L_m1 c_4
          refine lv_aload_n hx hb dX4_placeLine_94 rfl (lv_at hl 0 rfl) ?_
          refine c_callv (va_runV (As := []) (rest := []) ⟨hx, hb, hml, hown, hts⟩ (c_X4_takePerson l dC dI a κ σ φ γ ψ g1 g2  p_hh_nameLength p_hh_sex (show 0 ≤ (Int32.toInt (σ 1)) ∧ (Int32.toInt (σ 1)) ≤ 1000000000 from (by omega)) (show 0 ≤ (Int32.toInt (σ 9)) ∧ (Int32.toInt (σ 9)) ≤ 2000 ∧ 0 ≤ (Int32.toInt (σ 10)) ∧ (Int32.toInt (σ 10)) ≤ 30 * (Int32.toInt (σ 9)) from (by omega)) (show -1 ≤ Int32.toInt ((φ 8) 2) ∧ Int32.toInt ((φ 8) 2) ≤ 1 from (by omega))) (cwV 0 hts gX4_placeLine_X4_takePerson rfl rfl rfl ⟨rfl, hd_X4_takePerson⟩ ⟨Nat.le_of_ble_eq_true rfl, Nat.le_of_ble_eq_true rfl⟩) (cPreV hP hK hI hN hX hS (va_recv hK hP (ci := 4) (q0 := 5) rfl rfl)) rfl rfl hl.1 rfl (lv_room (Nat.le_of_ble_eq_true rfl)) dX4_placeLine_95 ⟨(by decide +kernel), (by decide +kernel)⟩) hS ?_
          clear hP hS; intro S_5 F_5 γ_5 ψ_5 H locs hw hP hS
          obtain ⟨s1_5, f4_5, s10_5, s9_5, rfl, rfl, pf4_5, (qc_5 : (Int32.toInt (σ 1)) ≤ (Int32.toInt s1_5) ∧ (Int32.toInt s1_5) ≤ (Int32.toInt (σ 1)) + 3), (qp_5 : 0 ≤ (Int32.toInt s9_5) ∧ (Int32.toInt s9_5) ≤ 2000 ∧ 0 ≤ (Int32.toInt s10_5) ∧ (Int32.toInt s10_5) ≤ 30 * (Int32.toInt s9_5))⟩ := hw
          exact W.vret hx hb hr (fun t ht hW => ⟨⟨((up (up (up σ 1 s1_5) 10 s10_5) 9 s9_5), (up φ 4 f4_5), γ_5, ψ_5), rfl, ⟨s1_5, f4_5, s10_5, s9_5, rfl, rfl, pf4_5, (show (Int32.toInt (σ 1)) ≤ (Int32.toInt s1_5) ∧ (Int32.toInt s1_5) ≤ (Int32.toInt (σ 1)) + 3 from (by omega)), (show 0 ≤ (Int32.toInt s9_5) ∧ (Int32.toInt s9_5) ≤ 2000 ∧ 0 ≤ (Int32.toInt s10_5) ∧ (Int32.toInt s10_5) ≤ 30 * (Int32.toInt s9_5) from (by omega))⟩, (by show va_P _ _ _ _; rw [ht]; exact hP)⟩, hS.F ht⟩) hS.2.2 dX4_placeLine_98
      · have kc_3 := bI_eq rfl L_m1 c_3
        refine lv_aload_n hx hb dX4_placeLine_48 rfl (lv_at hl 0 rfl) ?_
        refine cg_5_4 hx hb hts hinX4 hown hK hP (hts (.fieldLink RX4 12 "CensusDesk$Reader" "line" "LCensusDesk$Line;") (List.mem_of_getElem? (i := 2) rfl)) dX4_placeLine_49 ?_
        refine cgN_6_6 (v := (σ 6)) hx hb hts hinX3 hown hK hP (va_Nw.use rfl (hN.1 ("CensusDesk$Reader", 121, "CensusDesk$Line", "sort", "I") (List.mem_of_getElem? (i := 13) rfl))) rfl dX4_placeLine_52 ?_
        refine lv_bipush (v := 72) hx hb dX4_placeLine_55 (by decide) ?_
        refine lv_icmp_ne (tgt := 89) hx hb dX4_placeLine_57 (by decide) (fun c_6 => ?_) (fun c_6 => ?_)
        · have kc_6 := bI_ne rfl L_72 c_6
          refine lv_iload_n hx hb dX4_placeLine_89 rfl (lv_at hl 1 rfl) ?_
          refine lv_iconst (v := (-1)) hx hb dX4_placeLine_90 (by decide) ?_
          refine lv_icmp_ne (tgt := 98) hx hb dX4_placeLine_91 (by decide) (fun c_7 => ?_) (fun c_7 => ?_)
          · have kc_7 := bI_ne rfl L_m1 c_7
            exact W.vret hx hb hr (fun t ht hW => ⟨⟨((up (up (up σ 1 (σ 1)) 10 (σ 10)) 9 (σ 9)), (up φ 4 (φ 4)), γ, ψ), rfl, ⟨(σ 1), (φ 4), (σ 10), (σ 9), rfl, rfl, p_hh_sex, (show (Int32.toInt (σ 1)) ≤ (Int32.toInt (σ 1)) ∧ (Int32.toInt (σ 1)) ≤ (Int32.toInt (σ 1)) + 3 from (by omega)), (show 0 ≤ (Int32.toInt (σ 9)) ∧ (Int32.toInt (σ 9)) ≤ 2000 ∧ 0 ≤ (Int32.toInt (σ 10)) ∧ (Int32.toInt (σ 10)) ≤ 30 * (Int32.toInt (σ 9)) from (by omega))⟩, (by show va_P _ _ _ _; rw [ht]; exact hP)⟩, hS.F ht⟩) hS.2.2 dX4_placeLine_98
          · have kc_7 := bI_eq rfl L_m1 c_7
            refine lv_aload_n hx hb dX4_placeLine_94 rfl (lv_at hl 0 rfl) ?_
            refine c_callv (va_runV (As := []) (rest := []) ⟨hx, hb, hml, hown, hts⟩ (c_X4_takePerson l dC dI a κ σ φ γ ψ g1 g2  p_hh_nameLength p_hh_sex (show 0 ≤ (Int32.toInt (σ 1)) ∧ (Int32.toInt (σ 1)) ≤ 1000000000 from (by omega)) (show 0 ≤ (Int32.toInt (σ 9)) ∧ (Int32.toInt (σ 9)) ≤ 2000 ∧ 0 ≤ (Int32.toInt (σ 10)) ∧ (Int32.toInt (σ 10)) ≤ 30 * (Int32.toInt (σ 9)) from (by omega)) (show -1 ≤ Int32.toInt ((φ 8) 2) ∧ Int32.toInt ((φ 8) 2) ≤ 1 from (by omega))) (cwV 0 hts gX4_placeLine_X4_takePerson rfl rfl rfl ⟨rfl, hd_X4_takePerson⟩ ⟨Nat.le_of_ble_eq_true rfl, Nat.le_of_ble_eq_true rfl⟩) (cPreV hP hK hI hN hX hS (va_recv hK hP (ci := 4) (q0 := 5) rfl rfl)) rfl rfl hl.1 rfl (lv_room (Nat.le_of_ble_eq_true rfl)) dX4_placeLine_95 ⟨(by decide +kernel), (by decide +kernel)⟩) hS ?_
            clear hP hS; intro S_8 F_8 γ_8 ψ_8 H locs hw hP hS
            obtain ⟨s1_8, f4_8, s10_8, s9_8, rfl, rfl, pf4_8, (qc_8 : (Int32.toInt (σ 1)) ≤ (Int32.toInt s1_8) ∧ (Int32.toInt s1_8) ≤ (Int32.toInt (σ 1)) + 3), (qp_8 : 0 ≤ (Int32.toInt s9_8) ∧ (Int32.toInt s9_8) ≤ 2000 ∧ 0 ≤ (Int32.toInt s10_8) ∧ (Int32.toInt s10_8) ≤ 30 * (Int32.toInt s9_8))⟩ := hw
            exact W.vret hx hb hr (fun t ht hW => ⟨⟨((up (up (up σ 1 s1_8) 10 s10_8) 9 s9_8), (up φ 4 f4_8), γ_8, ψ_8), rfl, ⟨s1_8, f4_8, s10_8, s9_8, rfl, rfl, pf4_8, (show (Int32.toInt (σ 1)) ≤ (Int32.toInt s1_8) ∧ (Int32.toInt s1_8) ≤ (Int32.toInt (σ 1)) + 3 from (by omega)), (show 0 ≤ (Int32.toInt s9_8) ∧ (Int32.toInt s9_8) ≤ 2000 ∧ 0 ≤ (Int32.toInt s10_8) ∧ (Int32.toInt s10_8) ≤ 30 * (Int32.toInt s9_8) from (by omega))⟩, (by show va_P _ _ _ _; rw [ht]; exact hP)⟩, hS.F ht⟩) hS.2.2 dX4_placeLine_98
        · have kc_6 := bI_eq rfl L_72 c_6
          refine lv_aload_n hx hb dX4_placeLine_60 rfl (lv_at hl 0 rfl) ?_
          refine cg_5_6 hx hb hts hinX4 hown hK hP (hts (.fieldLink RX4 28 "CensusDesk$Reader" "household" "LCensusDesk$Household;") (List.mem_of_getElem? (i := 1) rfl)) dX4_placeLine_61 ?_
          refine lv_aload_n hx hb dX4_placeLine_64 rfl (lv_at hl 0 rfl) ?_
          refine cg_5_7 hx hb hts hinX4 hown hK hP (hts (.fieldLink RX4 32 "CensusDesk$Reader" "values" "[I") (List.mem_of_getElem? (i := 3) rfl)) dX4_placeLine_65 ?_
          refine lv_iconst (v := 1) hx hb dX4_placeLine_68 (by decide) ?_
          refine cl_35 (f := (φ 8)) hx hb hK hP (i := 1) (vp_in_nI (n := 1) (by decide) (by decide)) rfl dX4_placeLine_69 ?_
          refine lv_topi (fun z_9 ez_9 => ?_)
          have tz_9 : (Int32.toInt z_9) = Int32.toInt ((φ 8) 1) := congrArg Int32.toInt ez_9
          refine cpN_8_9 (v := z_9) hx hb hts hinX2 hown hK hP hI hS (va_Nw.use rfl (hN.1 ("CensusDesk$Reader", 222, "CensusDesk$Household", "number", "I") (List.mem_of_getElem? (i := 23) rfl))) dX4_placeLine_70 ?_
          clear hP hS; intro H locs hP hS
          refine lv_aload_n hx hb dX4_placeLine_73 rfl (lv_at hl 0 rfl) ?_
          refine cg_5_6 hx hb hts hinX4 hown hK hP (hts (.fieldLink RX4 28 "CensusDesk$Reader" "household" "LCensusDesk$Household;") (List.mem_of_getElem? (i := 1) rfl)) dX4_placeLine_74 ?_
          refine lv_aload_n hx hb dX4_placeLine_77 rfl (lv_at hl 0 rfl) ?_
          refine cg_5_7 hx hb hts hinX4 hown hK hP (hts (.fieldLink RX4 32 "CensusDesk$Reader" "values" "[I") (List.mem_of_getElem? (i := 3) rfl)) dX4_placeLine_78 ?_
          refine lv_iconst (v := 2) hx hb dX4_placeLine_81 (by decide) ?_
          refine cl_35 (f := (φ 8)) hx hb hK hP (i := 2) (vp_in_nI (n := 2) (by decide) (by decide)) rfl dX4_placeLine_82 ?_
          refine lv_topi (fun z_10 ez_10 => ?_)
          have tz_10 : (Int32.toInt z_10) = Int32.toInt ((φ 8) 2) := congrArg Int32.toInt ez_10
          refine cpN_8_10 (v := z_10) hx hb hts hinX2 hown hK hP hI hS (va_Nw.use rfl (hN.1 ("CensusDesk$Reader", 223, "CensusDesk$Household", "told", "I") (List.mem_of_getElem? (i := 25) rfl))) dX4_placeLine_83 ?_
          clear hP hS; intro H locs hP hS
          refine lv_goto (tgt := 98) hx hb dX4_placeLine_86 (by decide) ?_
          exact W.vret hx hb hr (fun t ht hW => ⟨⟨((up (up (up σ 1 (σ 1)) 10 (σ 10)) 9 (σ 9)), (up φ 4 (φ 4)), (up (up γ 11 z_9) 12 z_10), ψ), rfl, ⟨(σ 1), (φ 4), (σ 10), (σ 9), rfl, rfl, p_hh_sex, (show (Int32.toInt (σ 1)) ≤ (Int32.toInt (σ 1)) ∧ (Int32.toInt (σ 1)) ≤ (Int32.toInt (σ 1)) + 3 from (by omega)), (show 0 ≤ (Int32.toInt (σ 9)) ∧ (Int32.toInt (σ 9)) ≤ 2000 ∧ 0 ≤ (Int32.toInt (σ 10)) ∧ (Int32.toInt (σ 10)) ≤ 30 * (Int32.toInt (σ 9)) from (by omega))⟩, (by show va_P _ _ _ _; rw [ht]; exact hP)⟩, hS.F ht⟩) hS.2.2 dX4_placeLine_98
    · have kc_2 := bI_nlt rfl L_0 c_2
      refine lv_aload_n hx hb dX4_placeLine_22 rfl (lv_at hl 0 rfl) ?_
      refine lv_aload_n hx hb dX4_placeLine_23 rfl (lv_at hl 0 rfl) ?_
      refine lv_bipush (v := 18) hx hb dX4_placeLine_24 (by decide) ?_
      refine lv_aload_n hx hb dX4_placeLine_26 rfl (lv_at hl 0 rfl) ?_
      refine cg_5_4 hx hb hts hinX4 hown hK hP (hts (.fieldLink RX4 12 "CensusDesk$Reader" "line" "LCensusDesk$Line;") (List.mem_of_getElem? (i := 2) rfl)) dX4_placeLine_27 ?_
      refine cgN_6_2 (v := (σ 2)) hx hb hts hinX3 hown hK hP (va_Nw.use rfl (hN.1 ("CensusDesk$Reader", 124, "CensusDesk$Line", "start", "I") (List.mem_of_getElem? (i := 10) rfl))) rfl dX4_placeLine_30 ?_
      refine lv_iload_n hx hb dX4_placeLine_33 rfl (lv_at hl 1 rfl) ?_
      refine c_calli (va_runV (As := [.int 18, .int (σ 2), .int fate]) (rest := [.ref (a 5)]) ⟨hx, hb, hml, hown, hts⟩ (c_X4_fail l dC dI a κ σ φ γ ψ g1 g2 18 (σ 2) fate (show 0 ≤ (Int32.toInt (σ 1)) ∧ (Int32.toInt (σ 1)) ≤ 2000000000 from (by omega))) (cwV 3 hts gX4_placeLine_X4_fail rfl rfl rfl ⟨rfl, hd_X4_fail⟩ ⟨Nat.le_of_ble_eq_true rfl, Nat.le_of_ble_eq_true rfl⟩) (cPreV hP hK hI hN hX hS (va_recv hK hP (ci := 4) (q0 := 5) rfl rfl)) rfl rfl hl.1 rfl (lv_room (Nat.le_of_ble_eq_true rfl)) dX4_placeLine_34 ⟨(by decide +kernel), (by decide +kernel)⟩) hS ?_
      clear hP hS; intro r_11 S_11 F_11 γ_11 ψ_11 H locs hw hP hS
      obtain ⟨s1_11, rfl, rfl, (qc_11 : (Int32.toInt (σ 1)) ≤ (Int32.toInt s1_11) ∧ (Int32.toInt s1_11) ≤ (Int32.toInt (σ 1)) + 1)⟩ := hw
      have hL18_11 := L_18
      refine c_callv (va_runV (As := [.int r_11]) (rest := []) ⟨hx, hb, hml, hown, hts⟩ (c_X4_loseHousehold l dC dI a κ (up σ 1 s1_11) φ γ_11 ψ_11 g1 g2 r_11 (show 0 ≤ (Int32.toInt s1_11) ∧ (Int32.toInt s1_11) ≤ 2000000000 from (by omega))) (cwV 1 hts gX4_placeLine_X4_loseHousehold rfl rfl rfl ⟨rfl, hd_X4_loseHousehold⟩ ⟨Nat.le_of_ble_eq_true rfl, Nat.le_of_ble_eq_true rfl⟩) (cPreV hP hK hI hN hX hS (va_recv hK hP (ci := 4) (q0 := 5) rfl rfl)) rfl rfl hl.1 rfl (lv_room (Nat.le_of_ble_eq_true rfl)) dX4_placeLine_37 ⟨(by decide +kernel), (by decide +kernel)⟩) hS ?_
      clear hP hS; intro S_12 F_12 γ_12 ψ_12 H locs hw hP hS
      obtain ⟨s1_12, rfl, rfl, (qc_12 : (Int32.toInt s1_11) ≤ (Int32.toInt s1_12) ∧ (Int32.toInt s1_12) ≤ (Int32.toInt s1_11) + 1)⟩ := hw
      refine lv_goto (tgt := 98) hx hb dX4_placeLine_40 (by decide) ?_
      exact W.vret hx hb hr (fun t ht hW => ⟨⟨((up (up (up σ 1 s1_12) 10 (σ 10)) 9 (σ 9)), (up φ 4 (φ 4)), γ_12, ψ_12), rfl, ⟨s1_12, (φ 4), (σ 10), (σ 9), rfl, rfl, p_hh_sex, (show (Int32.toInt (σ 1)) ≤ (Int32.toInt s1_12) ∧ (Int32.toInt s1_12) ≤ (Int32.toInt (σ 1)) + 3 from (by omega)), (show 0 ≤ (Int32.toInt (σ 9)) ∧ (Int32.toInt (σ 9)) ≤ 2000 ∧ 0 ≤ (Int32.toInt (σ 10)) ∧ (Int32.toInt (σ 10)) ≤ 30 * (Int32.toInt (σ 9)) from (by omega))⟩, (by show va_P _ _ _ _; rw [ht]; exact hP)⟩, hS.F ht⟩) hS.2.2 dX4_placeLine_98
  · have kc_1 := bI_eq rfl L_0 c_1
    refine lv_aload_n hx hb dX4_placeLine_10 rfl (lv_at hl 0 rfl) ?_
    refine lv_iload_n hx hb dX4_placeLine_11 rfl (lv_at hl 1 rfl) ?_
    refine c_callv (va_runV (As := [.int fate]) (rest := []) ⟨hx, hb, hml, hown, hts⟩ (c_X4_settleOutside l dC dI a κ σ φ γ ψ g1 g2 fate (show 0 ≤ (Int32.toInt (σ 1)) ∧ (Int32.toInt (σ 1)) ≤ 1000000000 from (by omega))) (cwV 1 hts gX4_placeLine_X4_settleOutside rfl rfl rfl ⟨rfl, hd_X4_settleOutside⟩ ⟨Nat.le_of_ble_eq_true rfl, Nat.le_of_ble_eq_true rfl⟩) (cPreV hP hK hI hN hX hS (va_recv hK hP (ci := 4) (q0 := 5) rfl rfl)) rfl rfl hl.1 rfl (lv_room (Nat.le_of_ble_eq_true rfl)) dX4_placeLine_12 ⟨(by decide +kernel), (by decide +kernel)⟩) hS ?_
    clear hP hS; intro S_13 F_13 γ_13 ψ_13 H locs hw hP hS
    obtain ⟨s1_13, rfl, rfl, (qc_13 : (Int32.toInt (σ 1)) ≤ (Int32.toInt s1_13) ∧ (Int32.toInt s1_13) ≤ (Int32.toInt (σ 1)) + 2)⟩ := hw
    refine lv_goto (tgt := 98) hx hb dX4_placeLine_15 (by decide) ?_
    exact W.vret hx hb hr (fun t ht hW => ⟨⟨((up (up (up σ 1 s1_13) 10 (σ 10)) 9 (σ 9)), (up φ 4 (φ 4)), γ_13, ψ_13), rfl, ⟨s1_13, (φ 4), (σ 10), (σ 9), rfl, rfl, p_hh_sex, (show (Int32.toInt (σ 1)) ≤ (Int32.toInt s1_13) ∧ (Int32.toInt s1_13) ≤ (Int32.toInt (σ 1)) + 3 from (by omega)), (show 0 ≤ (Int32.toInt (σ 9)) ∧ (Int32.toInt (σ 9)) ≤ 2000 ∧ 0 ≤ (Int32.toInt (σ 10)) ∧ (Int32.toInt (σ 10)) ≤ 30 * (Int32.toInt (σ 9)) from (by omega))⟩, (by show va_P _ _ _ _; rw [ht]; exact hP)⟩, hS.F ht⟩) hS.2.2 dX4_placeLine_98
