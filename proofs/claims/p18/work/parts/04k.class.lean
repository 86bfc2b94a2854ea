set_option maxHeartbeats 4000000 in
set_option maxRecDepth 100000 in
theorem c_X4_askOfHousehold (l : Launch) (dC : Nat → ClassId) (dI : Nat → Nat → Nat) (a : Nat → Nat) (κ : Nat → ClassId) (σ : Nat → Int32) (φ : Nat → Nat → Int32) (γ : Nat → Int32) (ψ : Nat → Nat → Int32) (g1 g2 : Nat)  (hc : 0 ≤ (Int32.toInt (σ 1)) ∧ (Int32.toInt (σ 1)) ≤ 1000000000) : Met l yX4_askOfHousehold wsX4_askOfHousehold ({ frames := 3, cells := 0, slots := 0, locals := 74 } : Room) (va_Pc [.ref (a 5)] (cPre dC dI a κ (σ, φ, γ, ψ) g1 g2)) (va_Qv (QV (fun S F => ∃ (s1 : Int32), (up σ 1 s1) = S ∧ φ = F ∧ ((Int32.toInt (σ 1)) ≤ (Int32.toInt s1) ∧ (Int32.toInt s1) ≤ (Int32.toInt (σ 1)) + 6))) (cB dC dI a κ) (cA a)) 0 0 (cA a) := by
  refine Met.ofW (cc := cX4_askOfHousehold) (maxL := 4) (ret := none) (by decide) rfl ?_
  intro p e s m args below meth c s₁ B hml hv
  obtain ⟨rfl, hP, hK, hI, hN, hX⟩ := hv
  have hx := B.exec
  have hb := B.bytes
  have hr := B.returns
  have hts := atoms_spec (ws := wsX4_askOfHousehold) B.pre
  have hown : s.vm.findClass RX4 = some m.cls := findClass_of_methodNamed B.named
  have hlocks := B.notSynchronized
  have hS : va_S (cA a) s.heap s.heap [] := va_S.rf
  have hinX4 : ∀ w ∈ wsX40, w ∈ wsX4_askOfHousehold := fun _ h => List.mem_cons_of_mem _ (List.mem_append_left _ (List.mem_append_left _ (List.mem_append_left _ (List.mem_append_right _ h))))
  have hinX2 : ∀ w ∈ wsX20, w ∈ wsX4_askOfHousehold := fun _ h => List.mem_cons_of_mem _ (List.mem_append_left _ (List.mem_append_left _ (List.mem_append_right _ h)))
  have hinX5 : ∀ w ∈ wsX50, w ∈ wsX4_askOfHousehold := fun _ h => List.mem_cons_of_mem _ (List.mem_append_left _ (List.mem_append_right _ h))
  have hinX1 : ∀ w ∈ wsX10, w ∈ wsX4_askOfHousehold := fun _ h => List.mem_cons_of_mem _ (List.mem_append_right _ h)
  have hl := lv_entry ([.ref (a 5)]) (n := 4) (Nat.le_of_ble_eq_true rfl)
  rw [lg_entry_eq]
  generalize (lg_sl ([.ref (a 5)]) ++ List.replicate (4 - (lg_sl ([.ref (a 5)])).length) Slot.unset).toArray = ls at hl ⊢
  have hl : lv_has ls 4 [(0, .ref (a 5))] := hl
  refine lv_aload_n hx hb dX4_askOfHousehold_0 rfl (lv_at hl 0 rfl) ?_
  refine cg_5_6 hx hb hts hinX4 hown hK hP (hts (.fieldLink RX4 28 "CensusDesk$Reader" "household" "LCensusDesk$Household;") (List.mem_of_getElem? (i := 1) rfl)) dX4_askOfHousehold_1 ?_
  refine cgN_8_8 (v := (γ 10)) hx hb hts hinX2 hown hK hP (va_Nw.use rfl (hN.1 ("CensusDesk$Reader", 239, "CensusDesk$Household", "start", "I") (List.mem_of_getElem? (i := 21) rfl))) rfl dX4_askOfHousehold_4 ?_
  refine lv_istore_n (lv' := [(1, .int (γ 10)), (0, .ref (a 5))]) hx hb dX4_askOfHousehold_7 rfl hl (by decide) rfl ?_
  clear hl; intro ls hl
  refine lv_aload_n hx hb dX4_askOfHousehold_8 rfl (lv_at hl 1 rfl) ?_
  refine cg_5_6 hx hb hts hinX4 hown hK hP (hts (.fieldLink RX4 28 "CensusDesk$Reader" "household" "LCensusDesk$Household;") (List.mem_of_getElem? (i := 1) rfl)) dX4_askOfHousehold_9 ?_
  refine cgN_8_10 (v := (γ 12)) hx hb hts hinX2 hown hK hP (va_Nw.use rfl (hN.1 ("CensusDesk$Reader", 223, "CensusDesk$Household", "told", "I") (List.mem_of_getElem? (i := 25) rfl))) rfl dX4_askOfHousehold_12 ?_
  refine lv_istore_n (lv' := [(2, .int (γ 12)), (1, .int (γ 10)), (0, .ref (a 5))]) hx hb dX4_askOfHousehold_15 rfl hl (by decide) rfl ?_
  clear hl; intro ls hl
  refine lv_aload_n hx hb dX4_askOfHousehold_16 rfl (lv_at hl 2 rfl) ?_
  refine cg_5_6 hx hb hts hinX4 hown hK hP (hts (.fieldLink RX4 28 "CensusDesk$Reader" "household" "LCensusDesk$Household;") (List.mem_of_getElem? (i := 1) rfl)) dX4_askOfHousehold_17 ?_
  refine cgN_8_11 (v := (σ 9)) hx hb hts hinX2 hown hK hP (va_Nw.use rfl (hN.1 ("CensusDesk$Reader", 246, "CensusDesk$Household", "persons", "I") (List.mem_of_getElem? (i := 27) rfl))) rfl dX4_askOfHousehold_20 ?_
  refine lv_if_ne (tgt := 38) hx hb dX4_askOfHousehold_23 (by decide) (fun c_1 => ?_) (fun c_1 => ?_)
  · have kc_1 := bI_ne rfl L_0 c_1
    refine lv_aload_n hx hb dX4_askOfHousehold_38 rfl (lv_at hl 2 rfl) ?_
    refine cg_5_6 hx hb hts hinX4 hown hK hP (hts (.fieldLink RX4 28 "CensusDesk$Reader" "household" "LCensusDesk$Household;") (List.mem_of_getElem? (i := 1) rfl)) dX4_askOfHousehold_39 ?_
    refine cgN_8_7 (v := (γ 9)) hx hb hts hinX2 hown hK hP (va_Nw.use rfl (hN.1 ("CensusDesk$Reader", 135, "CensusDesk$Household", "lost", "Z") (List.mem_of_getElem? (i := 20) rfl))) rfl dX4_askOfHousehold_42 ?_
    refine lv_if_eq (tgt := 49) hx hb dX4_askOfHousehold_45 (by decide) (fun c_2 => ?_) (fun c_2 => ?_)
    · have kc_2 := bI_eq rfl L_0 c_2
      refine lv_iload_n hx hb dX4_askOfHousehold_49 rfl (lv_at hl 0 rfl) ?_
      refine lv_iconst (v := (-1)) hx hb dX4_askOfHousehold_50 (by decide) ?_
      refine lv_icmp_eq (tgt := 77) hx hb dX4_askOfHousehold_51 (by decide) (fun c_3 => ?_) (fun c_3 => ?_)
      · have kc_3 := bI_eq rfl L_m1 c_3
        refine lv_aload_n hx hb dX4_askOfHousehold_77 rfl (lv_at hl 2 rfl) ?_
        refine cg_5_6 hx hb hts hinX4 hown hK hP (hts (.fieldLink RX4 28 "CensusDesk$Reader" "household" "LCensusDesk$Household;") (List.mem_of_getElem? (i := 1) rfl)) dX4_askOfHousehold_78 ?_
        refine cgN_8_7 (v := (γ 9)) hx hb hts hinX2 hown hK hP (va_Nw.use rfl (hN.1 ("CensusDesk$Reader", 135, "CensusDesk$Household", "lost", "Z") (List.mem_of_getElem? (i := 20) rfl))) rfl dX4_askOfHousehold_81 ?_
        refine lv_if_eq (tgt := 88) hx hb dX4_askOfHousehold_84 (by decide) (fun c_4 => ?_) (fun c_4 => ?_)
        · have kc_4 := bI_eq rfl L_0 c_4
          refine lv_aload_n hx hb dX4_askOfHousehold_88 rfl (lv_at hl 2 rfl) ?_
          refine cg_5_6 hx hb hts hinX4 hown hK hP (hts (.fieldLink RX4 28 "CensusDesk$Reader" "household" "LCensusDesk$Household;") (List.mem_of_getElem? (i := 1) rfl)) dX4_askOfHousehold_89 ?_
          refine cgN_8_9 (v := (γ 11)) hx hb hts hinX2 hown hK hP (va_Nw.use rfl (hN.1 ("CensusDesk$Reader", 222, "CensusDesk$Household", "number", "I") (List.mem_of_getElem? (i := 23) rfl))) rfl dX4_askOfHousehold_92 ?_
          refine lv_iconst (v := (-1)) hx hb dX4_askOfHousehold_95 (by decide) ?_
          refine lv_icmp_eq (tgt := 111) hx hb dX4_askOfHousehold_96 (by decide) (fun c_5 => ?_) (fun c_5 => ?_)
          · have kc_5 := bI_eq rfl L_m1 c_5
            refine lv_iconst (v := 0) hx hb dX4_askOfHousehold_111 (by decide) ?_
            refine lv_istore_n (lv' := [(3, .int 0), (2, .int (γ 12)), (1, .int (γ 10)), (0, .ref (a 5))]) hx hb dX4_askOfHousehold_112 rfl hl (by decide) rfl ?_
            clear hl; intro ls hl
            refine lv_iload_n hx hb dX4_askOfHousehold_113 rfl (lv_at hl 0 rfl) ?_
            refine lv_if_eq (tgt := 143) hx hb dX4_askOfHousehold_114 (by decide) (fun c_6 => ?_) (fun c_6 => absurd c_6 (by decide))
            exact W.vret hx hb hr (fun t ht hW => ⟨⟨((up σ 1 (σ 1)), φ, γ, ψ), rfl, ⟨(σ 1), rfl, rfl, (show (Int32.toInt (σ 1)) ≤ (Int32.toInt (σ 1)) ∧ (Int32.toInt (σ 1)) ≤ (Int32.toInt (σ 1)) + 6 from (by omega))⟩, (by show va_P _ _ _ _; rw [ht]; exact hP)⟩, hS.F ht⟩) hS.2.2 dX4_askOfHousehold_143
          · have kc_5 := bI_ne rfl L_m1 c_5
            refine lv_aload_n hx hb dX4_askOfHousehold_99 rfl (lv_at hl 2 rfl) ?_
            refine cg_5_13 (v := (γ 3)) hx hb hts hinX4 hown hK hP (hts (.fieldLink RX4 68 "CensusDesk$Reader" "latestNumber" "I") (List.mem_of_getElem? (i := 2) rfl)) rfl dX4_askOfHousehold_100 ?_
            refine lv_iconst (v := (-1)) hx hb dX4_askOfHousehold_103 (by decide) ?_
            refine lv_icmp_eq (tgt := 111) hx hb dX4_askOfHousehold_104 (by decide) (fun c_7 => ?_) (fun c_7 => ?_)
            · have kc_7 := bI_eq rfl L_m1 c_7
              refine lv_iconst (v := 0) hx hb dX4_askOfHousehold_111 (by decide) ?_
              refine lv_istore_n (lv' := [(3, .int 0), (2, .int (γ 12)), (1, .int (γ 10)), (0, .ref (a 5))]) hx hb dX4_askOfHousehold_112 rfl hl (by decide) rfl ?_
              clear hl; intro ls hl
              refine lv_iload_n hx hb dX4_askOfHousehold_113 rfl (lv_at hl 0 rfl) ?_
              refine lv_if_eq (tgt := 143) hx hb dX4_askOfHousehold_114 (by decide) (fun c_8 => ?_) (fun c_8 => absurd c_8 (by decide))
              exact W.vret hx hb hr (fun t ht hW => ⟨⟨((up σ 1 (σ 1)), φ, γ, ψ), rfl, ⟨(σ 1), rfl, rfl, (show (Int32.toInt (σ 1)) ≤ (Int32.toInt (σ 1)) ∧ (Int32.toInt (σ 1)) ≤ (Int32.toInt (σ 1)) + 6 from (by omega))⟩, (by show va_P _ _ _ _; rw [ht]; exact hP)⟩, hS.F ht⟩) hS.2.2 dX4_askOfHousehold_143
            · have kc_7 := bI_ne rfl L_m1 c_7
              refine lv_iconst (v := 1) hx hb dX4_askOfHousehold_107 (by decide) ?_
              refine lv_goto (tgt := 112) hx hb dX4_askOfHousehold_108 (by decide) ?_
              refine lv_istore_n (lv' := [(3, .int 1), (2, .int (γ 12)), (1, .int (γ 10)), (0, .ref (a 5))]) hx hb dX4_askOfHousehold_112 rfl hl (by decide) rfl ?_
              clear hl; intro ls hl
              refine lv_iload_n hx hb dX4_askOfHousehold_113 rfl (lv_at hl 0 rfl) ?_
              refine lv_if_eq (tgt := 143) hx hb dX4_askOfHousehold_114 (by decide) (fun c_9 => absurd c_9 (by decide)) (fun c_9 => ?_)
              refine lv_aload_n hx hb dX4_askOfHousehold_117 rfl (lv_at hl 3 rfl) ?_
              refine cg_5_6 hx hb hts hinX4 hown hK hP (hts (.fieldLink RX4 28 "CensusDesk$Reader" "household" "LCensusDesk$Household;") (List.mem_of_getElem? (i := 1) rfl)) dX4_askOfHousehold_118 ?_
              refine cgN_8_9 (v := (γ 11)) hx hb hts hinX2 hown hK hP (va_Nw.use rfl (hN.1 ("CensusDesk$Reader", 222, "CensusDesk$Household", "number", "I") (List.mem_of_getElem? (i := 23) rfl))) rfl dX4_askOfHousehold_121 ?_
              refine lv_aload_n hx hb dX4_askOfHousehold_124 rfl (lv_at hl 3 rfl) ?_
              refine cg_5_13 (v := (γ 3)) hx hb hts hinX4 hown hK hP (hts (.fieldLink RX4 68 "CensusDesk$Reader" "latestNumber" "I") (List.mem_of_getElem? (i := 2) rfl)) rfl dX4_askOfHousehold_125 ?_
              refine lv_icmp_gt (tgt := 143) hx hb dX4_askOfHousehold_128 (by decide) (fun c_10 => ?_) (fun c_10 => ?_)
              · have kc_10 := bI_lt rfl rfl c_10
                exact W.vret hx hb hr (fun t ht hW => ⟨⟨((up σ 1 (σ 1)), φ, γ, ψ), rfl, ⟨(σ 1), rfl, rfl, (show (Int32.toInt (σ 1)) ≤ (Int32.toInt (σ 1)) ∧ (Int32.toInt (σ 1)) ≤ (Int32.toInt (σ 1)) + 6 from (by omega))⟩, (by show va_P _ _ _ _; rw [ht]; exact hP)⟩, hS.F ht⟩) hS.2.2 dX4_askOfHousehold_143
              · have kc_10 := bI_nlt rfl rfl c_10
                refine lv_aload_n hx hb dX4_askOfHousehold_131 rfl (lv_at hl 3 rfl) ?_
                refine lv_aload_n hx hb dX4_askOfHousehold_132 rfl (lv_at hl 3 rfl) ?_
                refine lv_bipush (v := 16) hx hb dX4_askOfHousehold_133 (by decide) ?_
                refine lv_iload_n hx hb dX4_askOfHousehold_135 rfl (lv_at hl 2 rfl) ?_
                refine lv_iconst (v := (-1)) hx hb dX4_askOfHousehold_136 (by decide) ?_
                refine c_calli (va_runV (As := [.int 16, .int (γ 10), .int (-1)]) (rest := [.ref (a 5)]) ⟨hx, hb, hml, hown, hts⟩ (c_X4_fail l dC dI a κ σ φ γ ψ g1 g2 16 (γ 10) (-1) (show 0 ≤ (Int32.toInt (σ 1)) ∧ (Int32.toInt (σ 1)) ≤ 2000000000 from (by omega))) (cwV 3 hts gX4_askOfHousehold_X4_fail rfl rfl rfl ⟨rfl, hd_X4_fail⟩ ⟨Nat.le_of_ble_eq_true rfl, Nat.le_of_ble_eq_true rfl⟩) (cPreV hP hK hI hN hX hS (va_recv hK hP (ci := 4) (q0 := 5) rfl rfl)) rfl rfl hl.1 rfl (lv_room (Nat.le_of_ble_eq_true rfl)) dX4_askOfHousehold_137 ⟨(by decide +kernel), (by decide +kernel)⟩) hS ?_
                clear hP hS; intro r_11 S_11 F_11 γ_11 ψ_11 H locs hw hP hS
                obtain ⟨s1_11, rfl, rfl, (qc_11 : (Int32.toInt (σ 1)) ≤ (Int32.toInt s1_11) ∧ (Int32.toInt s1_11) ≤ (Int32.toInt (σ 1)) + 1)⟩ := hw
                have hLm1_11 := L_m1
                have hL16_11 := L_16
                refine c_callv (va_runV (As := [.int r_11]) (rest := []) ⟨hx, hb, hml, hown, hts⟩ (c_X4_loseHousehold l dC dI a κ (up σ 1 s1_11) φ γ_11 ψ_11 g1 g2 r_11 (show 0 ≤ (Int32.toInt s1_11) ∧ (Int32.toInt s1_11) ≤ 2000000000 from (by omega))) (cwV 1 hts gX4_askOfHousehold_X4_loseHousehold rfl rfl rfl ⟨rfl, hd_X4_loseHousehold⟩ ⟨Nat.le_of_ble_eq_true rfl, Nat.le_of_ble_eq_true rfl⟩) (cPreV hP hK hI hN hX hS (va_recv hK hP (ci := 4) (q0 := 5) rfl rfl)) rfl rfl hl.1 rfl (lv_room (Nat.le_of_ble_eq_true rfl)) dX4_askOfHousehold_140 ⟨(by decide +kernel), (by decide +kernel)⟩) hS ?_
                clear hP hS; intro S_12 F_12 γ_12 ψ_12 H locs hw hP hS
                obtain ⟨s1_12, rfl, rfl, (qc_12 : (Int32.toInt s1_11) ≤ (Int32.toInt s1_12) ∧ (Int32.toInt s1_12) ≤ (Int32.toInt s1_11) + 1)⟩ := hw
                exact W.vret hx hb hr (fun t ht hW => ⟨⟨((up σ 1 s1_12), φ, γ_12, ψ_12), rfl, ⟨s1_12, rfl, rfl, (show (Int32.toInt (σ 1)) ≤ (Int32.toInt s1_12) ∧ (Int32.toInt s1_12) ≤ (Int32.toInt (σ 1)) + 6 from (by omega))⟩, (by show va_P _ _ _ _; rw [ht]; exact hP)⟩, hS.F ht⟩) hS.2.2 dX4_askOfHousehold_143
        · have kc_4 := bI_ne rfl L_0 c_4
          exact W.vret hx hb hr (fun t ht hW => ⟨⟨((up σ 1 (σ 1)), φ, γ, ψ), rfl, ⟨(σ 1), rfl, rfl, (show (Int32.toInt (σ 1)) ≤ (Int32.toInt (σ 1)) ∧ (Int32.toInt (σ 1)) ≤ (Int32.toInt (σ 1)) + 6 from (by omega))⟩, (by show va_P _ _ _ _; rw [ht]; exact hP)⟩, hS.F ht⟩) hS.2.2 dX4_askOfHousehold_87
      · have kc_3 := bI_ne rfl L_m1 c_3
        refine lv_iload_n hx hb dX4_askOfHousehold_54 rfl (lv_at hl 0 rfl) ?_
        refine lv_aload_n hx hb dX4_askOfHousehold_55 rfl (lv_at hl 2 rfl) ?_
        refine cg_5_6 hx hb hts hinX4 hown hK hP (hts (.fieldLink RX4 28 "CensusDesk$Reader" "household" "LCensusDesk$Household;") (List.mem_of_getElem? (i := 1) rfl)) dX4_askOfHousehold_56 ?_
        refine cgN_8_11 (v := (σ 9)) hx hb hts hinX2 hown hK hP (va_Nw.use rfl (hN.1 ("CensusDesk$Reader", 246, "CensusDesk$Household", "persons", "I") (List.mem_of_getElem? (i := 27) rfl))) rfl dX4_askOfHousehold_59 ?_
        refine lv_icmp_eq (tgt := 77) hx hb dX4_askOfHousehold_62 (by decide) (fun c_13 => ?_) (fun c_13 => ?_)
        · have kc_13 := bI_eq rfl rfl c_13
          refine lv_aload_n hx hb dX4_askOfHousehold_77 rfl (lv_at hl 2 rfl) ?_
          refine cg_5_6 hx hb hts hinX4 hown hK hP (hts (.fieldLink RX4 28 "CensusDesk$Reader" "household" "LCensusDesk$Household;") (List.mem_of_getElem? (i := 1) rfl)) dX4_askOfHousehold_78 ?_
          refine cgN_8_7 (v := (γ 9)) hx hb hts hinX2 hown hK hP (va_Nw.use rfl (hN.1 ("CensusDesk$Reader", 135, "CensusDesk$Household", "lost", "Z") (List.mem_of_getElem? (i := 20) rfl))) rfl dX4_askOfHousehold_81 ?_
          refine lv_if_eq (tgt := 88) hx hb dX4_askOfHousehold_84 (by decide) (fun c_14 => ?_) (fun c_14 => ?_)
          · have kc_14 := bI_eq rfl L_0 c_14
            refine lv_aload_n hx hb dX4_askOfHousehold_88 rfl (lv_at hl 2 rfl) ?_
            refine cg_5_6 hx hb hts hinX4 hown hK hP (hts (.fieldLink RX4 28 "CensusDesk$Reader" "household" "LCensusDesk$Household;") (List.mem_of_getElem? (i := 1) rfl)) dX4_askOfHousehold_89 ?_
            refine cgN_8_9 (v := (γ 11)) hx hb hts hinX2 hown hK hP (va_Nw.use rfl (hN.1 ("CensusDesk$Reader", 222, "CensusDesk$Household", "number", "I") (List.mem_of_getElem? (i := 23) rfl))) rfl dX4_askOfHousehold_92 ?_
            refine lv_iconst (v := (-1)) hx hb dX4_askOfHousehold_95 (by decide) ?_
            refine lv_icmp_eq (tgt := 111) hx hb dX4_askOfHousehold_96 (by decide) (fun c_15 => ?_) (fun c_15 => ?_)
            · have kc_15 := bI_eq rfl L_m1 c_15
              refine lv_iconst (v := 0) hx hb dX4_askOfHousehold_111 (by decide) ?_
              refine lv_istore_n (lv' := [(3, .int 0), (2, .int (γ 12)), (1, .int (γ 10)), (0, .ref (a 5))]) hx hb dX4_askOfHousehold_112 rfl hl (by decide) rfl ?_
              clear hl; intro ls hl
              refine lv_iload_n hx hb dX4_askOfHousehold_113 rfl (lv_at hl 0 rfl) ?_
              refine lv_if_eq (tgt := 143) hx hb dX4_askOfHousehold_114 (by decide) (fun c_16 => ?_) (fun c_16 => absurd c_16 (by decide))
              exact W.vret hx hb hr (fun t ht hW => ⟨⟨((up σ 1 (σ 1)), φ, γ, ψ), rfl, ⟨(σ 1), rfl, rfl, (show (Int32.toInt (σ 1)) ≤ (Int32.toInt (σ 1)) ∧ (Int32.toInt (σ 1)) ≤ (Int32.toInt (σ 1)) + 6 from (by omega))⟩, (by show va_P _ _ _ _; rw [ht]; exact hP)⟩, hS.F ht⟩) hS.2.2 dX4_askOfHousehold_143
            · have kc_15 := bI_ne rfl L_m1 c_15
              refine lv_aload_n hx hb dX4_askOfHousehold_99 rfl (lv_at hl 2 rfl) ?_
              refine cg_5_13 (v := (γ 3)) hx hb hts hinX4 hown hK hP (hts (.fieldLink RX4 68 "CensusDesk$Reader" "latestNumber" "I") (List.mem_of_getElem? (i := 2) rfl)) rfl dX4_askOfHousehold_100 ?_
              refine lv_iconst (v := (-1)) hx hb dX4_askOfHousehold_103 (by decide) ?_
              refine lv_icmp_eq (tgt := 111) hx hb dX4_askOfHousehold_104 (by decide) (fun c_17 => ?_) (fun c_17 => ?_)
              · have kc_17 := bI_eq rfl L_m1 c_17
                refine lv_iconst (v := 0) hx hb dX4_askOfHousehold_111 (by decide) ?_
                refine lv_istore_n (lv' := [(3, .int 0), (2, .int (γ 12)), (1, .int (γ 10)), (0, .ref (a 5))]) hx hb dX4_askOfHousehold_112 rfl hl (by decide) rfl ?_
                clear hl; intro ls hl
                refine lv_iload_n hx hb dX4_askOfHousehold_113 rfl (lv_at hl 0 rfl) ?_
                refine lv_if_eq (tgt := 143) hx hb dX4_askOfHousehold_114 (by decide) (fun c_18 => ?_) (fun c_18 => absurd c_18 (by decide))
                exact W.vret hx hb hr (fun t ht hW => ⟨⟨((up σ 1 (σ 1)), φ, γ, ψ), rfl, ⟨(σ 1), rfl, rfl, (show (Int32.toInt (σ 1)) ≤ (Int32.toInt (σ 1)) ∧ (Int32.toInt (σ 1)) ≤ (Int32.toInt (σ 1)) + 6 from (by omega))⟩, (by show va_P _ _ _ _; rw [ht]; exact hP)⟩, hS.F ht⟩) hS.2.2 dX4_askOfHousehold_143
              · have kc_17 := bI_ne rfl L_m1 c_17
                refine lv_iconst (v := 1) hx hb dX4_askOfHousehold_107 (by decide) ?_
                refine lv_goto (tgt := 112) hx hb dX4_askOfHousehold_108 (by decide) ?_
                refine lv_istore_n (lv' := [(3, .int 1), (2, .int (γ 12)), (1, .int (γ 10)), (0, .ref (a 5))]) hx hb dX4_askOfHousehold_112 rfl hl (by decide) rfl ?_
                clear hl; intro ls hl
                refine lv_iload_n hx hb dX4_askOfHousehold_113 rfl (lv_at hl 0 rfl) ?_
                refine lv_if_eq (tgt := 143) hx hb dX4_askOfHousehold_114 (by decide) (fun c_19 => absurd c_19 (by decide)) (fun c_19 => ?_)
                refine lv_aload_n hx hb dX4_askOfHousehold_117 rfl (lv_at hl 3 rfl) ?_
                refine cg_5_6 hx hb hts hinX4 hown hK hP (hts (.fieldLink RX4 28 "CensusDesk$Reader" "household" "LCensusDesk$Household;") (List.mem_of_getElem? (i := 1) rfl)) dX4_askOfHousehold_118 ?_
                refine cgN_8_9 (v := (γ 11)) hx hb hts hinX2 hown hK hP (va_Nw.use rfl (hN.1 ("CensusDesk$Reader", 222, "CensusDesk$Household", "number", "I") (List.mem_of_getElem? (i := 23) rfl))) rfl dX4_askOfHousehold_121 ?_
                refine lv_aload_n hx hb dX4_askOfHousehold_124 rfl (lv_at hl 3 rfl) ?_
                refine cg_5_13 (v := (γ 3)) hx hb hts hinX4 hown hK hP (hts (.fieldLink RX4 68 "CensusDesk$Reader" "latestNumber" "I") (List.mem_of_getElem? (i := 2) rfl)) rfl dX4_askOfHousehold_125 ?_
                refine lv_icmp_gt (tgt := 143) hx hb dX4_askOfHousehold_128 (by decide) (fun c_20 => ?_) (fun c_20 => ?_)
                · have kc_20 := bI_lt rfl rfl c_20
                  exact W.vret hx hb hr (fun t ht hW => ⟨⟨((up σ 1 (σ 1)), φ, γ, ψ), rfl, ⟨(σ 1), rfl, rfl, (show (Int32.toInt (σ 1)) ≤ (Int32.toInt (σ 1)) ∧ (Int32.toInt (σ 1)) ≤ (Int32.toInt (σ 1)) + 6 from (by omega))⟩, (by show va_P _ _ _ _; rw [ht]; exact hP)⟩, hS.F ht⟩) hS.2.2 dX4_askOfHousehold_143
                · have kc_20 := bI_nlt rfl rfl c_20
                  refine lv_aload_n hx hb dX4_askOfHousehold_131 rfl (lv_at hl 3 rfl) ?_
                  refine lv_aload_n hx hb dX4_askOfHousehold_132 rfl (lv_at hl 3 rfl) ?_
                  refine lv_bipush (v := 16) hx hb dX4_askOfHousehold_133 (by decide) ?_
                  refine lv_iload_n hx hb dX4_askOfHousehold_135 rfl (lv_at hl 2 rfl) ?_
                  refine lv_iconst (v := (-1)) hx hb dX4_askOfHousehold_136 (by decide) ?_
                  refine c_calli (va_runV (As := [.int 16, .int (γ 10), .int (-1)]) (rest := [.ref (a 5)]) ⟨hx, hb, hml, hown, hts⟩ (c_X4_fail l dC dI a κ σ φ γ ψ g1 g2 16 (γ 10) (-1) (show 0 ≤ (Int32.toInt (σ 1)) ∧ (Int32.toInt (σ 1)) ≤ 2000000000 from (by omega))) (cwV 3 hts gX4_askOfHousehold_X4_fail rfl rfl rfl ⟨rfl, hd_X4_fail⟩ ⟨Nat.le_of_ble_eq_true rfl, Nat.le_of_ble_eq_true rfl⟩) (cPreV hP hK hI hN hX hS (va_recv hK hP (ci := 4) (q0 := 5) rfl rfl)) rfl rfl hl.1 rfl (lv_room (Nat.le_of_ble_eq_true rfl)) dX4_askOfHousehold_137 ⟨(by decide +kernel), (by decide +kernel)⟩) hS ?_
                  clear hP hS; intro r_21 S_21 F_21 γ_21 ψ_21 H locs hw hP hS
                  obtain ⟨s1_21, rfl, rfl, (qc_21 : (Int32.toInt (σ 1)) ≤ (Int32.toInt s1_21) ∧ (Int32.toInt s1_21) ≤ (Int32.toInt (σ 1)) + 1)⟩ := hw
                  have hLm1_21 := L_m1
                  have hL16_21 := L_16
                  refine c_callv (va_runV (As := [.int r_21]) (rest := []) ⟨hx, hb, hml, hown, hts⟩ (c_X4_loseHousehold l dC dI a κ (up σ 1 s1_21) φ γ_21 ψ_21 g1 g2 r_21 (show 0 ≤ (Int32.toInt s1_21) ∧ (Int32.toInt s1_21) ≤ 2000000000 from (by omega))) (cwV 1 hts gX4_askOfHousehold_X4_loseHousehold rfl rfl rfl ⟨rfl, hd_X4_loseHousehold⟩ ⟨Nat.le_of_ble_eq_true rfl, Nat.le_of_ble_eq_true rfl⟩) (cPreV hP hK hI hN hX hS (va_recv hK hP (ci := 4) (q0 := 5) rfl rfl)) rfl rfl hl.1 rfl (lv_room (Nat.le_of_ble_eq_true rfl)) dX4_askOfHousehold_140 ⟨(by decide +kernel), (by decide +kernel)⟩) hS ?_
                  clear hP hS; intro S_22 F_22 γ_22 ψ_22 H locs hw hP hS
                  obtain ⟨s1_22, rfl, rfl, (qc_22 : (Int32.toInt s1_21) ≤ (Int32.toInt s1_22) ∧ (Int32.toInt s1_22) ≤ (Int32.toInt s1_21) + 1)⟩ := hw
                  exact W.vret hx hb hr (fun t ht hW => ⟨⟨((up σ 1 s1_22), φ, γ_22, ψ_22), rfl, ⟨s1_22, rfl, rfl, (show (Int32.toInt (σ 1)) ≤ (Int32.toInt s1_22) ∧ (Int32.toInt s1_22) ≤ (Int32.toInt (σ 1)) + 6 from (by omega))⟩, (by show va_P _ _ _ _; rw [ht]; exact hP)⟩, hS.F ht⟩) hS.2.2 dX4_askOfHousehold_143
          · have kc_14 := bI_ne rfl L_0 c_14
            exact W.vret hx hb hr (fun t ht hW => ⟨⟨((up σ 1 (σ 1)), φ, γ, ψ), rfl, ⟨(σ 1), rfl, rfl, (show (Int32.toInt (σ 1)) ≤ (Int32.toInt (σ 1)) ∧ (Int32.toInt (σ 1)) ≤ (Int32.toInt (σ 1)) + 6 from (by omega))⟩, (by show va_P _ _ _ _; rw [ht]; exact hP)⟩, hS.F ht⟩) hS.2.2 dX4_askOfHousehold_87
        · have kc_13 := bI_ne rfl rfl c_13
          refine lv_aload_n hx hb dX4_askOfHousehold_65 rfl (lv_at hl 2 rfl) ?_
          refine lv_aload_n hx hb dX4_askOfHousehold_66 rfl (lv_at hl 2 rfl) ?_
          refine lv_bipush (v := 15) hx hb dX4_askOfHousehold_67 (by decide) ?_
          refine lv_iload_n hx hb dX4_askOfHousehold_69 rfl (lv_at hl 1 rfl) ?_
          refine lv_iconst (v := (-1)) hx hb dX4_askOfHousehold_70 (by decide) ?_
          refine c_calli (va_runV (As := [.int 15, .int (γ 10), .int (-1)]) (rest := [.ref (a 5)]) ⟨hx, hb, hml, hown, hts⟩ (c_X4_fail l dC dI a κ σ φ γ ψ g1 g2 15 (γ 10) (-1) (show 0 ≤ (Int32.toInt (σ 1)) ∧ (Int32.toInt (σ 1)) ≤ 2000000000 from (by omega))) (cwV 3 hts gX4_askOfHousehold_X4_fail rfl rfl rfl ⟨rfl, hd_X4_fail⟩ ⟨Nat.le_of_ble_eq_true rfl, Nat.le_of_ble_eq_true rfl⟩) (cPreV hP hK hI hN hX hS (va_recv hK hP (ci := 4) (q0 := 5) rfl rfl)) rfl rfl hl.1 rfl (lv_room (Nat.le_of_ble_eq_true rfl)) dX4_askOfHousehold_71 ⟨(by decide +kernel), (by decide +kernel)⟩) hS ?_
          clear hP hS; intro r_23 S_23 F_23 γ_23 ψ_23 H locs hw hP hS
          obtain ⟨s1_23, rfl, rfl, (qc_23 : (Int32.toInt (σ 1)) ≤ (Int32.toInt s1_23) ∧ (Int32.toInt s1_23) ≤ (Int32.toInt (σ 1)) + 1)⟩ := hw
          have hLm1_23 := L_m1
          have hL15_23 := L_15
          refine c_callv (va_runV (As := [.int r_23]) (rest := []) ⟨hx, hb, hml, hown, hts⟩ (c_X4_loseHousehold l dC dI a κ (up σ 1 s1_23) φ γ_23 ψ_23 g1 g2 r_23 (show 0 ≤ (Int32.toInt s1_23) ∧ (Int32.toInt s1_23) ≤ 2000000000 from (by omega))) (cwV 1 hts gX4_askOfHousehold_X4_loseHousehold rfl rfl rfl ⟨rfl, hd_X4_loseHousehold⟩ ⟨Nat.le_of_ble_eq_true rfl, Nat.le_of_ble_eq_true rfl⟩) (cPreV hP hK hI hN hX hS (va_recv hK hP (ci := 4) (q0 := 5) rfl rfl)) rfl rfl hl.1 rfl (lv_room (Nat.le_of_ble_eq_true rfl)) dX4_askOfHousehold_74 ⟨(by decide +kernel), (by decide +kernel)⟩) hS ?_
          clear hP hS; intro S_24 F_24 γ_24 ψ_24 H locs hw hP hS
          obtain ⟨s1_24, rfl, rfl, (qc_24 : (Int32.toInt s1_23) ≤ (Int32.toInt s1_24) ∧ (Int32.toInt s1_24) ≤ (Int32.toInt s1_23) + 1)⟩ := hw
          refine lv_aload_n hx hb dX4_askOfHousehold_77 rfl (lv_at hl 2 rfl) ?_
          refine cg_5_6 hx hb hts hinX4 hown hK hP (hts (.fieldLink RX4 28 "CensusDesk$Reader" "household" "LCensusDesk$Household;") (List.mem_of_getElem? (i := 1) rfl)) dX4_askOfHousehold_78 ?_
          refine cgN_8_7 (v := (γ_24 9)) hx hb hts hinX2 hown hK hP (va_Nw.use rfl (hN.1 ("CensusDesk$Reader", 135, "CensusDesk$Household", "lost", "Z") (List.mem_of_getElem? (i := 20) rfl))) rfl dX4_askOfHousehold_81 ?_
          refine lv_if_eq (tgt := 88) hx hb dX4_askOfHousehold_84 (by decide) (fun c_25 => ?_) (fun c_25 => ?_)
          · have kc_25 := bI_eq rfl L_0 c_25
            refine lv_aload_n hx hb dX4_askOfHousehold_88 rfl (lv_at hl 2 rfl) ?_
            refine cg_5_6 hx hb hts hinX4 hown hK hP (hts (.fieldLink RX4 28 "CensusDesk$Reader" "household" "LCensusDesk$Household;") (List.mem_of_getElem? (i := 1) rfl)) dX4_askOfHousehold_89 ?_
            refine cgN_8_9 (v := (γ_24 11)) hx hb hts hinX2 hown hK hP (va_Nw.use rfl (hN.1 ("CensusDesk$Reader", 222, "CensusDesk$Household", "number", "I") (List.mem_of_getElem? (i := 23) rfl))) rfl dX4_askOfHousehold_92 ?_
            refine lv_iconst (v := (-1)) hx hb dX4_askOfHousehold_95 (by decide) ?_
            refine lv_icmp_eq (tgt := 111) hx hb dX4_askOfHousehold_96 (by decide) (fun c_26 => ?_) (fun c_26 => ?_)
            · have kc_26 := bI_eq rfl L_m1 c_26
              refine lv_iconst (v := 0) hx hb dX4_askOfHousehold_111 (by decide) ?_
              refine lv_istore_n (lv' := [(3, .int 0), (2, .int (γ 12)), (1, .int (γ 10)), (0, .ref (a 5))]) hx hb dX4_askOfHousehold_112 rfl hl (by decide) rfl ?_
              clear hl; intro ls hl
              refine lv_iload_n hx hb dX4_askOfHousehold_113 rfl (lv_at hl 0 rfl) ?_
              refine lv_if_eq (tgt := 143) hx hb dX4_askOfHousehold_114 (by decide) (fun c_27 => ?_) (fun c_27 => absurd c_27 (by decide))
              exact W.vret hx hb hr (fun t ht hW => ⟨⟨((up σ 1 s1_24), φ, γ_24, ψ_24), rfl, ⟨s1_24, rfl, rfl, (show (Int32.toInt (σ 1)) ≤ (Int32.toInt s1_24) ∧ (Int32.toInt s1_24) ≤ (Int32.toInt (σ 1)) + 6 from (by omega))⟩, (by show va_P _ _ _ _; rw [ht]; exact hP)⟩, hS.F ht⟩) hS.2.2 dX4_askOfHousehold_143
            · have kc_26 := bI_ne rfl L_m1 c_26
              refine lv_aload_n hx hb dX4_askOfHousehold_99 rfl (lv_at hl 2 rfl) ?_
              refine cg_5_13 (v := (γ_24 3)) hx hb hts hinX4 hown hK hP (hts (.fieldLink RX4 68 "CensusDesk$Reader" "latestNumber" "I") (List.mem_of_getElem? (i := 2) rfl)) rfl dX4_askOfHousehold_100 ?_
              refine lv_iconst (v := (-1)) hx hb dX4_askOfHousehold_103 (by decide) ?_
              refine lv_icmp_eq (tgt := 111) hx hb dX4_askOfHousehold_104 (by decide) (fun c_28 => ?_) (fun c_28 => ?_)
              · have kc_28 := bI_eq rfl L_m1 c_28
                refine lv_iconst (v := 0) hx hb dX4_askOfHousehold_111 (by decide) ?_
                refine lv_istore_n (lv' := [(3, .int 0), (2, .int (γ 12)), (1, .int (γ 10)), (0, .ref (a 5))]) hx hb dX4_askOfHousehold_112 rfl hl (by decide) rfl ?_
                clear hl; intro ls hl
                refine lv_iload_n hx hb dX4_askOfHousehold_113 rfl (lv_at hl 0 rfl) ?_
                refine lv_if_eq (tgt := 143) hx hb dX4_askOfHousehold_114 (by decide) (fun c_29 => ?_) (fun c_29 => absurd c_29 (by decide))
                exact W.vret hx hb hr (fun t ht hW => ⟨⟨((up σ 1 s1_24), φ, γ_24, ψ_24), rfl, ⟨s1_24, rfl, rfl, (show (Int32.toInt (σ 1)) ≤ (Int32.toInt s1_24) ∧ (Int32.toInt s1_24) ≤ (Int32.toInt (σ 1)) + 6 from (by omega))⟩, (by show va_P _ _ _ _; rw [ht]; exact hP)⟩, hS.F ht⟩) hS.2.2 dX4_askOfHousehold_143
              · have kc_28 := bI_ne rfl L_m1 c_28
                refine lv_iconst (v := 1) hx hb dX4_askOfHousehold_107 (by decide) ?_
                refine lv_goto (tgt := 112) hx hb dX4_askOfHousehold_108 (by decide) ?_
                refine lv_istore_n (lv' := [(3, .int 1), (2, .int (γ 12)), (1, .int (γ 10)), (0, .ref (a 5))]) hx hb dX4_askOfHousehold_112 rfl hl (by decide) rfl ?_
                clear hl; intro ls hl
                refine lv_iload_n hx hb dX4_askOfHousehold_113 rfl (lv_at hl 0 rfl) ?_
                refine lv_if_eq (tgt := 143) hx hb dX4_askOfHousehold_114 (by decide) (fun c_30 => absurd c_30 (by decide)) (fun c_30 => ?_)
                refine lv_aload_n hx hb dX4_askOfHousehold_117 rfl (lv_at hl 3 rfl) ?_
                refine cg_5_6 hx hb hts hinX4 hown hK hP (hts (.fieldLink RX4 28 "CensusDesk$Reader" "household" "LCensusDesk$Household;") (List.mem_of_getElem? (i := 1) rfl)) dX4_askOfHousehold_118 ?_
                refine cgN_8_9 (v := (γ_24 11)) hx hb hts hinX2 hown hK hP (va_Nw.use rfl (hN.1 ("CensusDesk$Reader", 222, "CensusDesk$Household", "number", "I") (List.mem_of_getElem? (i := 23) rfl))) rfl dX4_askOfHousehold_121 ?_
                refine lv_aload_n hx hb dX4_askOfHousehold_124 rfl (lv_at hl 3 rfl) ?_
                refine cg_5_13 (v := (γ_24 3)) hx hb hts hinX4 hown hK hP (hts (.fieldLink RX4 68 "CensusDesk$Reader" "latestNumber" "I") (List.mem_of_getElem? (i := 2) rfl)) rfl dX4_askOfHousehold_125 ?_
                refine lv_icmp_gt (tgt := 143) hx hb dX4_askOfHousehold_128 (by decide) (fun c_31 => ?_) (fun c_31 => ?_)
                · have kc_31 := bI_lt rfl rfl c_31
                  exact W.vret hx hb hr (fun t ht hW => ⟨⟨((up σ 1 s1_24), φ, γ_24, ψ_24), rfl, ⟨s1_24, rfl, rfl, (show (Int32.toInt (σ 1)) ≤ (Int32.toInt s1_24) ∧ (Int32.toInt s1_24) ≤ (Int32.toInt (σ 1)) + 6 from (by omega))⟩, (by show va_P _ _ _ _; rw [ht]; exact hP)⟩, hS.F ht⟩) hS.2.2 dX4_askOfHousehold_143
                · have kc_31 := bI_nlt rfl rfl c_31
                  refine lv_aload_n hx hb dX4_askOfHousehold_131 rfl (lv_at hl 3 rfl) ?_
                  refine lv_aload_n hx hb dX4_askOfHousehold_132 rfl (lv_at hl 3 rfl) ?_
                  refine lv_bipush (v := 16) hx hb dX4_askOfHousehold_133 (by decide) ?_
                  refine lv_iload_n hx hb dX4_askOfHousehold_135 rfl (lv_at hl 2 rfl) ?_
                  refine lv_iconst (v := (-1)) hx hb dX4_askOfHousehold_136 (by decide) ?_
                  refine c_calli (va_runV (As := [.int 16, .int (γ 10), .int (-1)]) (rest := [.ref (a 5)]) ⟨hx, hb, hml, hown, hts⟩ (c_X4_fail l dC dI a κ (up (up σ 1 s1_23) 1 s1_24) φ γ_24 ψ_24 g1 g2 16 (γ 10) (-1) (show 0 ≤ (Int32.toInt s1_24) ∧ (Int32.toInt s1_24) ≤ 2000000000 from (by omega))) (cwV 3 hts gX4_askOfHousehold_X4_fail rfl rfl rfl ⟨rfl, hd_X4_fail⟩ ⟨Nat.le_of_ble_eq_true rfl, Nat.le_of_ble_eq_true rfl⟩) (cPreV hP hK hI hN hX hS (va_recv hK hP (ci := 4) (q0 := 5) rfl rfl)) rfl rfl hl.1 rfl (lv_room (Nat.le_of_ble_eq_true rfl)) dX4_askOfHousehold_137 ⟨(by decide +kernel), (by decide +kernel)⟩) hS ?_
                  clear hP hS; intro r_32 S_32 F_32 γ_32 ψ_32 H locs hw hP hS
                  obtain ⟨s1_32, rfl, rfl, (qc_32 : (Int32.toInt s1_24) ≤ (Int32.toInt s1_32) ∧ (Int32.toInt s1_32) ≤ (Int32.toInt s1_24) + 1)⟩ := hw
                  have hLm1_32 := L_m1
                  have hL16_32 := L_16
                  refine c_callv (va_runV (As := [.int r_32]) (rest := []) ⟨hx, hb, hml, hown, hts⟩ (c_X4_loseHousehold l dC dI a κ (up (up (up σ 1 s1_23) 1 s1_24) 1 s1_32) φ γ_32 ψ_32 g1 g2 r_32 (show 0 ≤ (Int32.toInt s1_32) ∧ (Int32.toInt s1_32) ≤ 2000000000 from (by omega))) (cwV 1 hts gX4_askOfHousehold_X4_loseHousehold rfl rfl rfl ⟨rfl, hd_X4_loseHousehold⟩ ⟨Nat.le_of_ble_eq_true rfl, Nat.le_of_ble_eq_true rfl⟩) (cPreV hP hK hI hN hX hS (va_recv hK hP (ci := 4) (q0 := 5) rfl rfl)) rfl rfl hl.1 rfl (lv_room (Nat.le_of_ble_eq_true rfl)) dX4_askOfHousehold_140 ⟨(by decide +kernel), (by decide +kernel)⟩) hS ?_
                  clear hP hS; intro S_33 F_33 γ_33 ψ_33 H locs hw hP hS
                  obtain ⟨s1_33, rfl, rfl, (qc_33 : (Int32.toInt s1_32) ≤ (Int32.toInt s1_33) ∧ (Int32.toInt s1_33) ≤ (Int32.toInt s1_32) + 1)⟩ := hw
                  exact W.vret hx hb hr (fun t ht hW => ⟨⟨((up σ 1 s1_33), φ, γ_33, ψ_33), rfl, ⟨s1_33, rfl, rfl, (show (Int32.toInt (σ 1)) ≤ (Int32.toInt s1_33) ∧ (Int32.toInt s1_33) ≤ (Int32.toInt (σ 1)) + 6 from (by omega))⟩, (by show va_P _ _ _ _; rw [ht]; exact hP)⟩, hS.F ht⟩) hS.2.2 dX4_askOfHousehold_143
          · have kc_25 := bI_ne rfl L_0 c_25
            exact W.vret hx hb hr (fun t ht hW => ⟨⟨((up σ 1 s1_24), φ, γ_24, ψ_24), rfl, ⟨s1_24, rfl, rfl, (show (Int32.toInt (σ 1)) ≤ (Int32.toInt s1_24) ∧ (Int32.toInt s1_24) ≤ (Int32.toInt (σ 1)) + 6 from (by omega))⟩, (by show va_P _ _ _ _; rw [ht]; exact hP)⟩, hS.F ht⟩) hS.2.2 dX4_askOfHousehold_87
    · have kc_2 := bI_ne rfl L_0 c_2
      exact W.vret hx hb hr (fun t ht hW => ⟨⟨((up σ 1 (σ 1)), φ, γ, ψ), rfl, ⟨(σ 1), rfl, rfl, (show (Int32.toInt (σ 1)) ≤ (Int32.toInt (σ 1)) ∧ (Int32.toInt (σ 1)) ≤ (Int32.toInt (σ 1)) + 6 from (by omega))⟩, (by show va_P _ _ _ _; rw [ht]; exact hP)⟩, hS.F ht⟩) hS.2.2 dX4_askOfHousehold_48
  · have kc_1 := bI_eq rfl L_0 c_1
    refine lv_aload_n hx hb dX4_askOfHousehold_26 rfl (lv_at hl 2 rfl) ?_
    refine lv_aload_n hx hb dX4_askOfHousehold_27 rfl (lv_at hl 2 rfl) ?_
    refine lv_bipush (v := 14) hx hb dX4_askOfHousehold_28 (by decide) ?_
    refine lv_iload_n hx hb dX4_askOfHousehold_30 rfl (lv_at hl 1 rfl) ?_
    refine lv_iconst (v := (-1)) hx hb dX4_askOfHousehold_31 (by decide) ?_
    refine c_calli (va_runV (As := [.int 14, .int (γ 10), .int (-1)]) (rest := [.ref (a 5)]) ⟨hx, hb, hml, hown, hts⟩ (c_X4_fail l dC dI a κ σ φ γ ψ g1 g2 14 (γ 10) (-1) (show 0 ≤ (Int32.toInt (σ 1)) ∧ (Int32.toInt (σ 1)) ≤ 2000000000 from (by omega))) (cwV 3 hts gX4_askOfHousehold_X4_fail rfl rfl rfl ⟨rfl, hd_X4_fail⟩ ⟨Nat.le_of_ble_eq_true rfl, Nat.le_of_ble_eq_true rfl⟩) (cPreV hP hK hI hN hX hS (va_recv hK hP (ci := 4) (q0 := 5) rfl rfl)) rfl rfl hl.1 rfl (lv_room (Nat.le_of_ble_eq_true rfl)) dX4_askOfHousehold_32 ⟨(by decide +kernel), (by decide +kernel)⟩) hS ?_
    clear hP hS; intro r_34 S_34 F_34 γ_34 ψ_34 H locs hw hP hS
    obtain ⟨s1_34, rfl, rfl, (qc_34 : (Int32.toInt (σ 1)) ≤ (Int32.toInt s1_34) ∧ (Int32.toInt s1_34) ≤ (Int32.toInt (σ 1)) + 1)⟩ := hw
    have hLm1_34 := L_m1
    have hL14_34 := L_14
    refine c_callv (va_runV (As := [.int r_34]) (rest := []) ⟨hx, hb, hml, hown, hts⟩ (c_X4_loseHousehold l dC dI a κ (up σ 1 s1_34) φ γ_34 ψ_34 g1 g2 r_34 (show 0 ≤ (Int32.toInt s1_34) ∧ (Int32.toInt s1_34) ≤ 2000000000 from (by omega))) (cwV 1 hts gX4_askOfHousehold_X4_loseHousehold rfl rfl rfl ⟨rfl, hd_X4_loseHousehold⟩ ⟨Nat.le_of_ble_eq_true rfl, Nat.le_of_ble_eq_true rfl⟩) (cPreV hP hK hI hN hX hS (va_recv hK hP (ci := 4) (q0 := 5) rfl rfl)) rfl rfl hl.1 rfl (lv_room (Nat.le_of_ble_eq_true rfl)) dX4_askOfHousehold_35 ⟨(by decide +kernel), (by decide +kernel)⟩) hS ?_
    clear hP hS; intro S_35 F_35 γ_35 ψ_35 H locs hw hP hS
    obtain ⟨s1_35, rfl, rfl, (qc_35 : (Int32.toInt s1_34) ≤ (Int32.toInt s1_35) ∧ (Int32.toInt s1_35) ≤ (Int32.toInt s1_34) + 1)⟩ := hw
    refine lv_aload_n hx hb dX4_askOfHousehold_38 rfl (lv_at hl 2 rfl) ?_
    refine cg_5_6 hx hb hts hinX4 hown hK hP (hts (.fieldLink RX4 28 "CensusDesk$Reader" "household" "LCensusDesk$Household;") (List.mem_of_getElem? (i := 1) rfl)) dX4_askOfHousehold_39 ?_
    refine cgN_8_7 (v := (γ_35 9)) hx hb hts hinX2 hown hK hP (va_Nw.use rfl (hN.1 ("CensusDesk$Reader", 135, "CensusDesk$Household", "lost", "Z") (List.mem_of_getElem? (i := 20) rfl))) rfl dX4_askOfHousehold_42 ?_
    refine lv_if_eq (tgt := 49) hx hb dX4_askOfHousehold_45 (by decide) (fun c_36 => ?_) (fun c_36 => ?_)
    · have kc_36 := bI_eq rfl L_0 c_36
      refine lv_iload_n hx hb dX4_askOfHousehold_49 rfl (lv_at hl 0 rfl) ?_
      refine lv_iconst (v := (-1)) hx hb dX4_askOfHousehold_50 (by decide) ?_
      refine lv_icmp_eq (tgt := 77) hx hb dX4_askOfHousehold_51 (by decide) (fun c_37 => ?_) (fun c_37 => ?_)
      · have kc_37 := bI_eq rfl L_m1 c_37
        refine lv_aload_n hx hb dX4_askOfHousehold_77 rfl (lv_at hl 2 rfl) ?_
        refine cg_5_6 hx hb hts hinX4 hown hK hP (hts (.fieldLink RX4 28 "CensusDesk$Reader" "household" "LCensusDesk$Household;") (List.mem_of_getElem? (i := 1) rfl)) dX4_askOfHousehold_78 ?_
        refine cgN_8_7 (v := (γ_35 9)) hx hb hts hinX2 hown hK hP (va_Nw.use rfl (hN.1 ("CensusDesk$Reader", 135, "CensusDesk$Household", "lost", "Z") (List.mem_of_getElem? (i := 20) rfl))) rfl dX4_askOfHousehold_81 ?_
        refine lv_if_eq (tgt := 88) hx hb dX4_askOfHousehold_84 (by decide) (fun c_38 => ?_) (fun c_38 => ?_)
        · have kc_38 := bI_eq rfl L_0 c_38
          refine lv_aload_n hx hb dX4_askOfHousehold_88 rfl (lv_at hl 2 rfl) ?_
          refine cg_5_6 hx hb hts hinX4 hown hK hP (hts (.fieldLink RX4 28 "CensusDesk$Reader" "household" "LCensusDesk$Household;") (List.mem_of_getElem? (i := 1) rfl)) dX4_askOfHousehold_89 ?_
          refine cgN_8_9 (v := (γ_35 11)) hx hb hts hinX2 hown hK hP (va_Nw.use rfl (hN.1 ("CensusDesk$Reader", 222, "CensusDesk$Household", "number", "I") (List.mem_of_getElem? (i := 23) rfl))) rfl dX4_askOfHousehold_92 ?_
          refine lv_iconst (v := (-1)) hx hb dX4_askOfHousehold_95 (by decide) ?_
          refine lv_icmp_eq (tgt := 111) hx hb dX4_askOfHousehold_96 (by decide) (fun c_39 => ?_) (fun c_39 => ?_)
          · have kc_39 := bI_eq rfl L_m1 c_39
            refine lv_iconst (v := 0) hx hb dX4_askOfHousehold_111 (by decide) ?_
            refine lv_istore_n (lv' := [(3, .int 0), (2, .int (γ 12)), (1, .int (γ 10)), (0, .ref (a 5))]) hx hb dX4_askOfHousehold_112 rfl hl (by decide) rfl ?_
            clear hl; intro ls hl
            refine lv_iload_n hx hb dX4_askOfHousehold_113 rfl (lv_at hl 0 rfl) ?_
            refine lv_if_eq (tgt := 143) hx hb dX4_askOfHousehold_114 (by decide) (fun c_40 => ?_) (fun c_40 => absurd c_40 (by decide))
            exact W.vret hx hb hr (fun t ht hW => ⟨⟨((up σ 1 s1_35), φ, γ_35, ψ_35), rfl, ⟨s1_35, rfl, rfl, (show (Int32.toInt (σ 1)) ≤ (Int32.toInt s1_35) ∧ (Int32.toInt s1_35) ≤ (Int32.toInt (σ 1)) + 6 from (by omega))⟩, (by show va_P _ _ _ _; rw [ht]; exact hP)⟩, hS.F ht⟩) hS.2.2 dX4_askOfHousehold_143
          · have kc_39 := bI_ne rfl L_m1 c_39
            refine lv_aload_n hx hb dX4_askOfHousehold_99 rfl (lv_at hl 2 rfl) ?_
            refine cg_5_13 (v := (γ_35 3)) hx hb hts hinX4 hown hK hP (hts (.fieldLink RX4 68 "CensusDesk$Reader" "latestNumber" "I") (List.mem_of_getElem? (i := 2) rfl)) rfl dX4_askOfHousehold_100 ?_
            refine lv_iconst (v := (-1)) hx hb dX4_askOfHousehold_103 (by decide) ?_
            refine lv_icmp_eq (tgt := 111) hx hb dX4_askOfHousehold_104 (by decide) (fun c_41 => ?_) (fun c_41 => ?_)
            · have kc_41 := bI_eq rfl L_m1 c_41
              refine lv_iconst (v := 0) hx hb dX4_askOfHousehold_111 (by decide) ?_
              refine lv_istore_n (lv' := [(3, .int 0), (2, .int (γ 12)), (1, .int (γ 10)), (0, .ref (a 5))]) hx hb dX4_askOfHousehold_112 rfl hl (by decide) rfl ?_
              clear hl; intro ls hl
              refine lv_iload_n hx hb dX4_askOfHousehold_113 rfl (lv_at hl 0 rfl) ?_
              refine lv_if_eq (tgt := 143) hx hb dX4_askOfHousehold_114 (by decide) (fun c_42 => ?_) (fun c_42 => absurd c_42 (by decide))
              exact W.vret hx hb hr (fun t ht hW => ⟨⟨((up σ 1 s1_35), φ, γ_35, ψ_35), rfl, ⟨s1_35, rfl, rfl, (show (Int32.toInt (σ 1)) ≤ (Int32.toInt s1_35) ∧ (Int32.toInt s1_35) ≤ (Int32.toInt (σ 1)) + 6 from (by omega))⟩, (by show va_P _ _ _ _; rw [ht]; exact hP)⟩, hS.F ht⟩) hS.2.2 dX4_askOfHousehold_143
            · have kc_41 := bI_ne rfl L_m1 c_41
              refine lv_iconst (v := 1) hx hb dX4_askOfHousehold_107 (by decide) ?_
              refine lv_goto (tgt := 112) hx hb dX4_askOfHousehold_108 (by decide) ?_
              refine lv_istore_n (lv' := [(3, .int 1), (2, .int (γ 12)), (1, .int (γ 10)), (0, .ref (a 5))]) hx hb dX4_askOfHousehold_112 rfl hl (by decide) rfl ?_
              clear hl; intro ls hl
              refine lv_iload_n hx hb dX4_askOfHousehold_113 rfl (lv_at hl 0 rfl) ?_
              refine lv_if_eq (tgt := 143) hx hb dX4_askOfHousehold_114 (by decide) (fun c_43 => absurd c_43 (by decide)) (fun c_43 => ?_)
              refine lv_aload_n hx hb dX4_askOfHousehold_117 rfl (lv_at hl 3 rfl) ?_
              refine cg_5_6 hx hb hts hinX4 hown hK hP (hts (.fieldLink RX4 28 "CensusDesk$Reader" "household" "LCensusDesk$Household;") (List.mem_of_getElem? (i := 1) rfl)) dX4_askOfHousehold_118 ?_
              refine cgN_8_9 (v := (γ_35 11)) hx hb hts hinX2 hown hK hP (va_Nw.use rfl (hN.1 ("CensusDesk$Reader", 222, "CensusDesk$Household", "number", "I") (List.mem_of_getElem? (i := 23) rfl))) rfl dX4_askOfHousehold_121 ?_
              refine lv_aload_n hx hb dX4_askOfHousehold_124 rfl (lv_at hl 3 rfl) ?_
              refine cg_5_13 (v := (γ_35 3)) hx hb hts hinX4 hown hK hP (hts (.fieldLink RX4 68 "CensusDesk$Reader" "latestNumber" "I") (List.mem_of_getElem? (i := 2) rfl)) rfl dX4_askOfHousehold_125 ?_
              refine lv_icmp_gt (tgt := 143) hx hb dX4_askOfHousehold_128 (by decide) (fun c_44 => ?_) (fun c_44 => ?_)
              · have kc_44 := bI_lt rfl rfl c_44
                exact W.vret hx hb hr (fun t ht hW => ⟨⟨((up σ 1 s1_35), φ, γ_35, ψ_35), rfl, ⟨s1_35, rfl, rfl, (show (Int32.toInt (σ 1)) ≤ (Int32.toInt s1_35) ∧ (Int32.toInt s1_35) ≤ (Int32.toInt (σ 1)) + 6 from (by omega))⟩, (by show va_P _ _ _ _; rw [ht]; exact hP)⟩, hS.F ht⟩) hS.2.2 dX4_askOfHousehold_143
              · have kc_44 := bI_nlt rfl rfl c_44
                refine lv_aload_n hx hb dX4_askOfHousehold_131 rfl (lv_at hl 3 rfl) ?_
                refine lv_aload_n hx hb dX4_askOfHousehold_132 rfl (lv_at hl 3 rfl) ?_
                refine lv_bipush (v := 16) hx hb dX4_askOfHousehold_133 (by decide) ?_
                refine lv_iload_n hx hb dX4_askOfHousehold_135 rfl (lv_at hl 2 rfl) ?_
                refine lv_iconst (v := (-1)) hx hb dX4_askOfHousehold_136 (by decide) ?_
                refine c_calli (va_runV (As := [.int 16, .int (γ 10), .int (-1)]) (rest := [.ref (a 5)]) ⟨hx, hb, hml, hown, hts⟩ (c_X4_fail l dC dI a κ (up (up σ 1 s1_34) 1 s1_35) φ γ_35 ψ_35 g1 g2 16 (γ 10) (-1) (show 0 ≤ (Int32.toInt s1_35) ∧ (Int32.toInt s1_35) ≤ 2000000000 from (by omega))) (cwV 3 hts gX4_askOfHousehold_X4_fail rfl rfl rfl ⟨rfl, hd_X4_fail⟩ ⟨Nat.le_of_ble_eq_true rfl, Nat.le_of_ble_eq_true rfl⟩) (cPreV hP hK hI hN hX hS (va_recv hK hP (ci := 4) (q0 := 5) rfl rfl)) rfl rfl hl.1 rfl (lv_room (Nat.le_of_ble_eq_true rfl)) dX4_askOfHousehold_137 ⟨(by decide +kernel), (by decide +kernel)⟩) hS ?_
                clear hP hS; intro r_45 S_45 F_45 γ_45 ψ_45 H locs hw hP hS
                obtain ⟨s1_45, rfl, rfl, (qc_45 : (Int32.toInt s1_35) ≤ (Int32.toInt s1_45) ∧ (Int32.toInt s1_45) ≤ (Int32.toInt s1_35) + 1)⟩ := hw
                have hLm1_45 := L_m1
                have hL16_45 := L_16
                refine c_callv (va_runV (As := [.int r_45]) (rest := []) ⟨hx, hb, hml, hown, hts⟩ (c_X4_loseHousehold l dC dI a κ (up (up (up σ 1 s1_34) 1 s1_35) 1 s1_45) φ γ_45 ψ_45 g1 g2 r_45 (show 0 ≤ (Int32.toInt s1_45) ∧ (Int32.toInt s1_45) ≤ 2000000000 from (by omega))) (cwV 1 hts gX4_askOfHousehold_X4_loseHousehold rfl rfl rfl ⟨rfl, hd_X4_loseHousehold⟩ ⟨Nat.le_of_ble_eq_true rfl, Nat.le_of_ble_eq_true rfl⟩) (cPreV hP hK hI hN hX hS (va_recv hK hP (ci := 4) (q0 := 5) rfl rfl)) rfl rfl hl.1 rfl (lv_room (Nat.le_of_ble_eq_true rfl)) dX4_askOfHousehold_140 ⟨(by decide +kernel), (by decide +kernel)⟩) hS ?_
                clear hP hS; intro S_46 F_46 γ_46 ψ_46 H locs hw hP hS
                obtain ⟨s1_46, rfl, rfl, (qc_46 : (Int32.toInt s1_45) ≤ (Int32.toInt s1_46) ∧ (Int32.toInt s1_46) ≤ (Int32.toInt s1_45) + 1)⟩ := hw
                exact W.vret hx hb hr (fun t ht hW => ⟨⟨((up σ 1 s1_46), φ, γ_46, ψ_46), rfl, ⟨s1_46, rfl, rfl, (show (Int32.toInt (σ 1)) ≤ (Int32.toInt s1_46) ∧ (Int32.toInt s1_46) ≤ (Int32.toInt (σ 1)) + 6 from (by omega))⟩, (by show va_P _ _ _ _; rw [ht]; exact hP)⟩, hS.F ht⟩) hS.2.2 dX4_askOfHousehold_143
        · have kc_38 := bI_ne rfl L_0 c_38
          exact W.vret hx hb hr (fun t ht hW => ⟨⟨((up σ 1 s1_35), φ, γ_35, ψ_35), rfl, ⟨s1_35, rfl, rfl, (show (Int32.toInt (σ 1)) ≤ (Int32.toInt s1_35) ∧ (Int32.toInt s1_35) ≤ (Int32.toInt (σ 1)) + 6 from (by omega))⟩, (by show va_P _ _ _ _; rw [ht]; exact hP)⟩, hS.F ht⟩) hS.2.2 dX4_askOfHousehold_87
      · have kc_37 := bI_ne rfl L_m1 c_37
        refine lv_iload_n hx hb dX4_askOfHousehold_54 rfl (lv_at hl 0 rfl) ?_
        refine lv_aload_n hx hb dX4_askOfHousehold_55 rfl (lv_at hl 2 rfl) ?_
        refine cg_5_6 hx hb hts hinX4 hown hK hP (hts (.fieldLink RX4 28 "CensusDesk$Reader" "household" "LCensusDesk$Household;") (List.mem_of_getElem? (i := 1) rfl)) dX4_askOfHousehold_56 ?_
        refine cgN_8_11 (v := (σ 9)) hx hb hts hinX2 hown hK hP (va_Nw.use rfl (hN.1 ("CensusDesk$Reader", 246, "CensusDesk$Household", "persons", "I") (List.mem_of_getElem? (i := 27) rfl))) rfl dX4_askOfHousehold_59 ?_
        refine lv_icmp_eq (tgt := 77) hx hb dX4_askOfHousehold_62 (by decide) (fun c_47 => ?_) (fun c_47 => ?_)
        · have kc_47 := bI_eq rfl rfl c_47
          refine lv_aload_n hx hb dX4_askOfHousehold_77 rfl (lv_at hl 2 rfl) ?_
          refine cg_5_6 hx hb hts hinX4 hown hK hP (hts (.fieldLink RX4 28 "CensusDesk$Reader" "household" "LCensusDesk$Household;") (List.mem_of_getElem? (i := 1) rfl)) dX4_askOfHousehold_78 ?_
          refine cgN_8_7 (v := (γ_35 9)) hx hb hts hinX2 hown hK hP (va_Nw.use rfl (hN.1 ("CensusDesk$Reader", 135, "CensusDesk$Household", "lost", "Z") (List.mem_of_getElem? (i := 20) rfl))) rfl dX4_askOfHousehold_81 ?_
          refine lv_if_eq (tgt := 88) hx hb dX4_askOfHousehold_84 (by decide) (fun c_48 => ?_) (fun c_48 => ?_)
          · have kc_48 := bI_eq rfl L_0 c_48
            refine lv_aload_n hx hb dX4_askOfHousehold_88 rfl (lv_at hl 2 rfl) ?_
            refine cg_5_6 hx hb hts hinX4 hown hK hP (hts (.fieldLink RX4 28 "CensusDesk$Reader" "household" "LCensusDesk$Household;") (List.mem_of_getElem? (i := 1) rfl)) dX4_askOfHousehold_89 ?_
            refine cgN_8_9 (v := (γ_35 11)) hx hb hts hinX2 hown hK hP (va_Nw.use rfl (hN.1 ("CensusDesk$Reader", 222, "CensusDesk$Household", "number", "I") (List.mem_of_getElem? (i := 23) rfl))) rfl dX4_askOfHousehold_92 ?_
            refine lv_iconst (v := (-1)) hx hb dX4_askOfHousehold_95 (by decide) ?_
            refine lv_icmp_eq (tgt := 111) hx hb dX4_askOfHousehold_96 (by decide) (fun c_49 => ?_) (fun c_49 => ?_)
            · have kc_49 := bI_eq rfl L_m1 c_49
              refine lv_iconst (v := 0) hx hb dX4_askOfHousehold_111 (by decide) ?_
              refine lv_istore_n (lv' := [(3, .int 0), (2, .int (γ 12)), (1, .int (γ 10)), (0, .ref (a 5))]) hx hb dX4_askOfHousehold_112 rfl hl (by decide) rfl ?_
              clear hl; intro ls hl
              refine lv_iload_n hx hb dX4_askOfHousehold_113 rfl (lv_at hl 0 rfl) ?_
              refine lv_if_eq (tgt := 143) hx hb dX4_askOfHousehold_114 (by decide) (fun c_50 => ?_) (fun c_50 => absurd c_50 (by decide))
              exact W.vret hx hb hr (fun t ht hW => ⟨⟨((up σ 1 s1_35), φ, γ_35, ψ_35), rfl, ⟨s1_35, rfl, rfl, (show (Int32.toInt (σ 1)) ≤ (Int32.toInt s1_35) ∧ (Int32.toInt s1_35) ≤ (Int32.toInt (σ 1)) + 6 from (by omega))⟩, (by show va_P _ _ _ _; rw [ht]; exact hP)⟩, hS.F ht⟩) hS.2.2 dX4_askOfHousehold_143
            · have kc_49 := bI_ne rfl L_m1 c_49
              refine lv_aload_n hx hb dX4_askOfHousehold_99 rfl (lv_at hl 2 rfl) ?_
              refine cg_5_13 (v := (γ_35 3)) hx hb hts hinX4 hown hK hP (hts (.fieldLink RX4 68 "CensusDesk$Reader" "latestNumber" "I") (List.mem_of_getElem? (i := 2) rfl)) rfl dX4_askOfHousehold_100 ?_
              refine lv_iconst (v := (-1)) hx hb dX4_askOfHousehold_103 (by decide) ?_
              refine lv_icmp_eq (tgt := 111) hx hb dX4_askOfHousehold_104 (by decide) (fun c_51 => ?_) (fun c_51 => ?_)
              · have kc_51 := bI_eq rfl L_m1 c_51
                refine lv_iconst (v := 0) hx hb dX4_askOfHousehold_111 (by decide) ?_
                refine lv_istore_n (lv' := [(3, .int 0), (2, .int (γ 12)), (1, .int (γ 10)), (0, .ref (a 5))]) hx hb dX4_askOfHousehold_112 rfl hl (by decide) rfl ?_
                clear hl; intro ls hl
                refine lv_iload_n hx hb dX4_askOfHousehold_113 rfl (lv_at hl 0 rfl) ?_
                refine lv_if_eq (tgt := 143) hx hb dX4_askOfHousehold_114 (by decide) (fun c_52 => ?_) (fun c_52 => absurd c_52 (by decide))
                exact W.vret hx hb hr (fun t ht hW => ⟨⟨((up σ 1 s1_35), φ, γ_35, ψ_35), rfl, ⟨s1_35, rfl, rfl, (show (Int32.toInt (σ 1)) ≤ (Int32.toInt s1_35) ∧ (Int32.toInt s1_35) ≤ (Int32.toInt (σ 1)) + 6 from (by omega))⟩, (by show va_P _ _ _ _; rw [ht]; exact hP)⟩, hS.F ht⟩) hS.2.2 dX4_askOfHousehold_143
              · have kc_51 := bI_ne rfl L_m1 c_51
                refine lv_iconst (v := 1) hx hb dX4_askOfHousehold_107 (by decide) ?_
                refine lv_goto (tgt := 112) hx hb dX4_askOfHousehold_108 (by decide) ?_
                refine lv_istore_n (lv' := [(3, .int 1), (2, .int (γ 12)), (1, .int (γ 10)), (0, .ref (a 5))]) hx hb dX4_askOfHousehold_112 rfl hl (by decide) rfl ?_
                clear hl; intro ls hl
                refine lv_iload_n hx hb dX4_askOfHousehold_113 rfl (lv_at hl 0 rfl) ?_
                refine lv_if_eq (tgt := 143) hx hb dX4_askOfHousehold_114 (by decide) (fun c_53 => absurd c_53 (by decide)) (fun c_53 => ?_)
                refine lv_aload_n hx hb dX4_askOfHousehold_117 rfl (lv_at hl 3 rfl) ?_
                refine cg_5_6 hx hb hts hinX4 hown hK hP (hts (.fieldLink RX4 28 "CensusDesk$Reader" "household" "LCensusDesk$Household;") (List.mem_of_getElem? (i := 1) rfl)) dX4_askOfHousehold_118 ?_
                refine cgN_8_9 (v := (γ_35 11)) hx hb hts hinX2 hown hK hP (va_Nw.use rfl (hN.1 ("CensusDesk$Reader", 222, "CensusDesk$Household", "number", "I") (List.mem_of_getElem? (i := 23) rfl))) rfl dX4_askOfHousehold_121 ?_
                refine lv_aload_n hx hb dX4_askOfHousehold_124 rfl (lv_at hl 3 rfl) ?_
                refine cg_5_13 (v := (γ_35 3)) hx hb hts hinX4 hown hK hP (hts (.fieldLink RX4 68 "CensusDesk$Reader" "latestNumber" "I") (List.mem_of_getElem? (i := 2) rfl)) rfl dX4_askOfHousehold_125 ?_
                refine lv_icmp_gt (tgt := 143) hx hb dX4_askOfHousehold_128 (by decide) (fun c_54 => ?_) (fun c_54 => ?_)
                · have kc_54 := bI_lt rfl rfl c_54
                  exact W.vret hx hb hr (fun t ht hW => ⟨⟨((up σ 1 s1_35), φ, γ_35, ψ_35), rfl, ⟨s1_35, rfl, rfl, (show (Int32.toInt (σ 1)) ≤ (Int32.toInt s1_35) ∧ (Int32.toInt s1_35) ≤ (Int32.toInt (σ 1)) + 6 from (by omega))⟩, (by show va_P _ _ _ _; rw [ht]; exact hP)⟩, hS.F ht⟩) hS.2.2 dX4_askOfHousehold_143
                · have kc_54 := bI_nlt rfl rfl c_54
                  refine lv_aload_n hx hb dX4_askOfHousehold_131 rfl (lv_at hl 3 rfl) ?_
                  refine lv_aload_n hx hb dX4_askOfHousehold_132 rfl (lv_at hl 3 rfl) ?_
                  refine lv_bipush (v := 16) hx hb dX4_askOfHousehold_133 (by decide) ?_
                  refine lv_iload_n hx hb dX4_askOfHousehold_135 rfl (lv_at hl 2 rfl) ?_
                  refine lv_iconst (v := (-1)) hx hb dX4_askOfHousehold_136 (by decide) ?_
                  refine c_calli (va_runV (As := [.int 16, .int (γ 10), .int (-1)]) (rest := [.ref (a 5)]) ⟨hx, hb, hml, hown, hts⟩ (c_X4_fail l dC dI a κ (up (up σ 1 s1_34) 1 s1_35) φ γ_35 ψ_35 g1 g2 16 (γ 10) (-1) (show 0 ≤ (Int32.toInt s1_35) ∧ (Int32.toInt s1_35) ≤ 2000000000 from (by omega))) (cwV 3 hts gX4_askOfHousehold_X4_fail rfl rfl rfl ⟨rfl, hd_X4_fail⟩ ⟨Nat.le_of_ble_eq_true rfl, Nat.le_of_ble_eq_true rfl⟩) (cPreV hP hK hI hN hX hS (va_recv hK hP (ci := 4) (q0 := 5) rfl rfl)) rfl rfl hl.1 rfl (lv_room (Nat.le_of_ble_eq_true rfl)) dX4_askOfHousehold_137 ⟨(by decide +kernel), (by decide +kernel)⟩) hS ?_
                  clear hP hS; intro r_55 S_55 F_55 γ_55 ψ_55 H locs hw hP hS
                  obtain ⟨s1_55, rfl, rfl, (qc_55 : (Int32.toInt s1_35) ≤ (Int32.toInt s1_55) ∧ (Int32.toInt s1_55) ≤ (Int32.toInt s1_35) + 1)⟩ := hw
                  have hLm1_55 := L_m1
                  have hL16_55 := L_16
                  refine c_callv (va_runV (As := [.int r_55]) (rest := []) ⟨hx, hb, hml, hown, hts⟩ (c_X4_loseHousehold l dC dI a κ (up (up (up σ 1 s1_34) 1 s1_35) 1 s1_55) φ γ_55 ψ_55 g1 g2 r_55 (show 0 ≤ (Int32.toInt s1_55) ∧ (Int32.toInt s1_55) ≤ 2000000000 from (by omega))) (cwV 1 hts gX4_askOfHousehold_X4_loseHousehold rfl rfl rfl ⟨rfl, hd_X4_loseHousehold⟩ ⟨Nat.le_of_ble_eq_true rfl, Nat.le_of_ble_eq_true rfl⟩) (cPreV hP hK hI hN hX hS (va_recv hK hP (ci := 4) (q0 := 5) rfl rfl)) rfl rfl hl.1 rfl (lv_room (Nat.le_of_ble_eq_true rfl)) dX4_askOfHousehold_140 ⟨(by decide +kernel), (by decide +kernel)⟩) hS ?_
                  clear hP hS; intro S_56 F_56 γ_56 ψ_56 H locs hw hP hS
                  obtain ⟨s1_56, rfl, rfl, (qc_56 : (Int32.toInt s1_55) ≤ (Int32.toInt s1_56) ∧ (Int32.toInt s1_56) ≤ (Int32.toInt s1_55) + 1)⟩ := hw
                  exact W.vret hx hb hr (fun t ht hW => ⟨⟨((up σ 1 s1_56), φ, γ_56, ψ_56), rfl, ⟨s1_56, rfl, rfl, (show (Int32.toInt (σ 1)) ≤ (Int32.toInt s1_56) ∧ (Int32.toInt s1_56) ≤ (Int32.toInt (σ 1)) + 6 from (by omega))⟩, (by show va_P _ _ _ _; rw [ht]; exact hP)⟩, hS.F ht⟩) hS.2.2 dX4_askOfHousehold_143
          · have kc_48 := bI_ne rfl L_0 c_48
            exact W.vret hx hb hr (fun t ht hW => ⟨⟨((up σ 1 s1_35), φ, γ_35, ψ_35), rfl, ⟨s1_35, rfl, rfl, (show (Int32.toInt (σ 1)) ≤ (Int32.toInt s1_35) ∧ (Int32.toInt s1_35) ≤ (Int32.toInt (σ 1)) + 6 from (by omega))⟩, (by show va_P _ _ _ _; rw [ht]; exact hP)⟩, hS.F ht⟩) hS.2.2 dX4_askOfHousehold_87
        · have kc_47 := bI_ne rfl rfl c_47
          refine lv_aload_n hx hb dX4_askOfHousehold_65 rfl (lv_at hl 2 rfl) ?_
          refine lv_aload_n hx hb dX4_askOfHousehold_66 rfl (lv_at hl 2 rfl) ?_
          refine lv_bipush (v := 15) hx hb dX4_askOfHousehold_67 (by decide) ?_
          refine lv_iload_n hx hb dX4_askOfHousehold_69 rfl (lv_at hl 1 rfl) ?_
          refine lv_iconst (v := (-1)) hx hb dX4_askOfHousehold_70 (by decide) ?_
          refine c_calli (va_runV (As := [.int 15, .int (γ 10), .int (-1)]) (rest := [.ref (a 5)]) ⟨hx, hb, hml, hown, hts⟩ (c_X4_fail l dC dI a κ (up (up σ 1 s1_34) 1 s1_35) φ γ_35 ψ_35 g1 g2 15 (γ 10) (-1) (show 0 ≤ (Int32.toInt s1_35) ∧ (Int32.toInt s1_35) ≤ 2000000000 from (by omega))) (cwV 3 hts gX4_askOfHousehold_X4_fail rfl rfl rfl ⟨rfl, hd_X4_fail⟩ ⟨Nat.le_of_ble_eq_true rfl, Nat.le_of_ble_eq_true rfl⟩) (cPreV hP hK hI hN hX hS (va_recv hK hP (ci := 4) (q0 := 5) rfl rfl)) rfl rfl hl.1 rfl (lv_room (Nat.le_of_ble_eq_true rfl)) dX4_askOfHousehold_71 ⟨(by decide +kernel), (by decide +kernel)⟩) hS ?_
          clear hP hS; intro r_57 S_57 F_57 γ_57 ψ_57 H locs hw hP hS
          obtain ⟨s1_57, rfl, rfl, (qc_57 : (Int32.toInt s1_35) ≤ (Int32.toInt s1_57) ∧ (Int32.toInt s1_57) ≤ (Int32.toInt s1_35) + 1)⟩ := hw
          have hLm1_57 := L_m1
          have hL15_57 := L_15
          refine c_callv (va_runV (As := [.int r_57]) (rest := []) ⟨hx, hb, hml, hown, hts⟩ (c_X4_loseHousehold l dC dI a κ (up (up (up σ 1 s1_34) 1 s1_35) 1 s1_57) φ γ_57 ψ_57 g1 g2 r_57 (show 0 ≤ (Int32.toInt s1_57) ∧ (Int32.toInt s1_57) ≤ 2000000000 from (by omega))) (cwV 1 hts gX4_askOfHousehold_X4_loseHousehold rfl rfl rfl ⟨rfl, hd_X4_loseHousehold⟩ ⟨Nat.le_of_ble_eq_true rfl, Nat.le_of_ble_eq_true rfl⟩) (cPreV hP hK hI hN hX hS (va_recv hK hP (ci := 4) (q0 := 5) rfl rfl)) rfl rfl hl.1 rfl (lv_room (Nat.le_of_ble_eq_true rfl)) dX4_askOfHousehold_74 ⟨(by decide +kernel), (by decide +kernel)⟩) hS ?_
          clear hP hS; intro S_58 F_58 γ_58 ψ_58 H locs hw hP hS
          obtain ⟨s1_58, rfl, rfl, (qc_58 : (Int32.toInt s1_57) ≤ (Int32.toInt s1_58) ∧ (Int32.toInt s1_58) ≤ (Int32.toInt s1_57) + 1)⟩ := hw
          refine lv_aload_n hx hb dX4_askOfHousehold_77 rfl (lv_at hl 2 rfl) ?_
          refine cg_5_6 hx hb hts hinX4 hown hK hP (hts (.fieldLink RX4 28 "CensusDesk$Reader" "household" "LCensusDesk$Household;") (List.mem_of_getElem? (i := 1) rfl)) dX4_askOfHousehold_78 ?_
          refine cgN_8_7 (v := (γ_58 9)) hx hb hts hinX2 hown hK hP (va_Nw.use rfl (hN.1 ("CensusDesk$Reader", 135, "CensusDesk$Household", "lost", "Z") (List.mem_of_getElem? (i := 20) rfl))) rfl dX4_askOfHousehold_81 ?_
          refine lv_if_eq (tgt := 88) hx hb dX4_askOfHousehold_84 (by decide) (fun c_59 => ?_) (fun c_59 => ?_)
          · have kc_59 := bI_eq rfl L_0 c_59
            refine lv_aload_n hx hb dX4_askOfHousehold_88 rfl (lv_at hl 2 rfl) ?_
            refine cg_5_6 hx hb hts hinX4 hown hK hP (hts (.fieldLink RX4 28 "CensusDesk$Reader" "household" "LCensusDesk$Household;") (List.mem_of_getElem? (i := 1) rfl)) dX4_askOfHousehold_89 ?_
            refine cgN_8_9 (v := (γ_58 11)) hx hb hts hinX2 hown hK hP (va_Nw.use rfl (hN.1 ("CensusDesk$Reader", 222, "CensusDesk$Household", "number", "I") (List.mem_of_getElem? (i := 23) rfl))) rfl dX4_askOfHousehold_92 ?_
            refine lv_iconst (v := (-1)) hx hb dX4_askOfHousehold_95 (by decide) ?_
            refine lv_icmp_eq (tgt := 111) hx hb dX4_askOfHousehold_96 (by decide) (fun c_60 => ?_) (fun c_60 => ?_)
            · have kc_60 := bI_eq rfl L_m1 c_60
              refine lv_iconst (v := 0) hx hb dX4_askOfHousehold_111 (by decide) ?_
              refine lv_istore_n (lv' := [(3, .int 0), (2, .int (γ 12)), (1, .int (γ 10)), (0, .ref (a 5))]) hx hb dX4_askOfHousehold_112 rfl hl (by decide) rfl ?_
              clear hl; intro ls hl
              refine lv_iload_n hx hb dX4_askOfHousehold_113 rfl (lv_at hl 0 rfl) ?_
              refine lv_if_eq (tgt := 143) hx hb dX4_askOfHousehold_114 (by decide) (fun c_61 => ?_) (fun c_61 => absurd c_61 (by decide))
              exact W.vret hx hb hr (fun t ht hW => ⟨⟨((up σ 1 s1_58), φ, γ_58, ψ_58), rfl, ⟨s1_58, rfl, rfl, (show (Int32.toInt (σ 1)) ≤ (Int32.toInt s1_58) ∧ (Int32.toInt s1_58) ≤ (Int32.toInt (σ 1)) + 6 from (by omega))⟩, (by show va_P _ _ _ _; rw [ht]; exact hP)⟩, hS.F ht⟩) hS.2.2 dX4_askOfHousehold_143
            · have kc_60 := bI_ne rfl L_m1 c_60
              refine lv_aload_n hx hb dX4_askOfHousehold_99 rfl (lv_at hl 2 rfl) ?_
              refine cg_5_13 (v := (γ_58 3)) hx hb hts hinX4 hown hK hP (hts (.fieldLink RX4 68 "CensusDesk$Reader" "latestNumber" "I") (List.mem_of_getElem? (i := 2) rfl)) rfl dX4_askOfHousehold_100 ?_
              refine lv_iconst (v := (-1)) hx hb dX4_askOfHousehold_103 (by decide) ?_
              refine lv_icmp_eq (tgt := 111) hx hb dX4_askOfHousehold_104 (by decide) (fun c_62 => ?_) (fun c_62 => ?_)
              · have kc_62 := bI_eq rfl L_m1 c_62
                refine lv_iconst (v := 0) hx hb dX4_askOfHousehold_111 (by decide) ?_
                refine lv_istore_n (lv' := [(3, .int 0), (2, .int (γ 12)), (1, .int (γ 10)), (0, .ref (a 5))]) hx hb dX4_askOfHousehold_112 rfl hl (by decide) rfl ?_
                clear hl; intro ls hl
                refine lv_iload_n hx hb dX4_askOfHousehold_113 rfl (lv_at hl 0 rfl) ?_
                refine lv_if_eq (tgt := 143) hx hb dX4_askOfHousehold_114 (by decide) (fun c_63 => ?_) (fun c_63 => absurd c_63 (by decide))
                exact W.vret hx hb hr (fun t ht hW => ⟨⟨((up σ 1 s1_58), φ, γ_58, ψ_58), rfl, ⟨s1_58, rfl, rfl, (show (Int32.toInt (σ 1)) ≤ (Int32.toInt s1_58) ∧ (Int32.toInt s1_58) ≤ (Int32.toInt (σ 1)) + 6 from (by omega))⟩, (by show va_P _ _ _ _; rw [ht]; exact hP)⟩, hS.F ht⟩) hS.2.2 dX4_askOfHousehold_143
              · have kc_62 := bI_ne rfl L_m1 c_62
                refine lv_iconst (v := 1) hx hb dX4_askOfHousehold_107 (by decide) ?_
                refine lv_goto (tgt := 112) hx hb dX4_askOfHousehold_108 (by decide) ?_
                refine lv_istore_n (lv' := [(3, .int 1), (2, .int (γ 12)), (1, .int (γ 10)), (0, .ref (a 5))]) hx hb dX4_askOfHousehold_112 rfl hl (by decide) rfl ?_
                clear hl; intro ls hl
                refine lv_iload_n hx hb dX4_askOfHousehold_113 rfl (lv_at hl 0 rfl) ?_
                refine lv_if_eq (tgt := 143) hx hb dX4_askOfHousehold_114 (by decide) (fun c_64 => absurd c_64 (by decide)) (fun c_64 => ?_)
                refine lv_aload_n hx hb dX4_askOfHousehold_117 rfl (lv_at hl 3 rfl) ?_
                refine cg_5_6 hx hb hts hinX4 hown hK hP (hts (.fieldLink RX4 28 "CensusDesk$Reader" "household" "LCensusDesk$Household;") (List.mem_of_getElem? (i := 1) rfl)) dX4_askOfHousehold_118 ?_
                refine cgN_8_9 (v := (γ_58 11)) hx hb hts hinX2 hown hK hP (va_Nw.use rfl (hN.1 ("CensusDesk$Reader", 222, "CensusDesk$Household", "number", "I") (List.mem_of_getElem? (i := 23) rfl))) rfl dX4_askOfHousehold_121 ?_
                refine lv_aload_n hx hb dX4_askOfHousehold_124 rfl (lv_at hl 3 rfl) ?_
                refine cg_5_13 (v := (γ_58 3)) hx hb hts hinX4 hown hK hP (hts (.fieldLink RX4 68 "CensusDesk$Reader" "latestNumber" "I") (List.mem_of_getElem? (i := 2) rfl)) rfl dX4_askOfHousehold_125 ?_
                refine lv_icmp_gt (tgt := 143) hx hb dX4_askOfHousehold_128 (by decide) (fun c_65 => ?_) (fun c_65 => ?_)
                · have kc_65 := bI_lt rfl rfl c_65
                  exact W.vret hx hb hr (fun t ht hW => ⟨⟨((up σ 1 s1_58), φ, γ_58, ψ_58), rfl, ⟨s1_58, rfl, rfl, (show (Int32.toInt (σ 1)) ≤ (Int32.toInt s1_58) ∧ (Int32.toInt s1_58) ≤ (Int32.toInt (σ 1)) + 6 from (by omega))⟩, (by show va_P _ _ _ _; rw [ht]; exact hP)⟩, hS.F ht⟩) hS.2.2 dX4_askOfHousehold_143
                · have kc_65 := bI_nlt rfl rfl c_65
                  refine lv_aload_n hx hb dX4_askOfHousehold_131 rfl (lv_at hl 3 rfl) ?_
                  refine lv_aload_n hx hb dX4_askOfHousehold_132 rfl (lv_at hl 3 rfl) ?_
                  refine lv_bipush (v := 16) hx hb dX4_askOfHousehold_133 (by decide) ?_
                  refine lv_iload_n hx hb dX4_askOfHousehold_135 rfl (lv_at hl 2 rfl) ?_
                  refine lv_iconst (v := (-1)) hx hb dX4_askOfHousehold_136 (by decide) ?_
                  refine c_calli (va_runV (As := [.int 16, .int (γ 10), .int (-1)]) (rest := [.ref (a 5)]) ⟨hx, hb, hml, hown, hts⟩ (c_X4_fail l dC dI a κ (up (up (up (up σ 1 s1_34) 1 s1_35) 1 s1_57) 1 s1_58) φ γ_58 ψ_58 g1 g2 16 (γ 10) (-1) (show 0 ≤ (Int32.toInt s1_58) ∧ (Int32.toInt s1_58) ≤ 2000000000 from (by omega))) (cwV 3 hts gX4_askOfHousehold_X4_fail rfl rfl rfl ⟨rfl, hd_X4_fail⟩ ⟨Nat.le_of_ble_eq_true rfl, Nat.le_of_ble_eq_true rfl⟩) (cPreV hP hK hI hN hX hS (va_recv hK hP (ci := 4) (q0 := 5) rfl rfl)) rfl rfl hl.1 rfl (lv_room (Nat.le_of_ble_eq_true rfl)) dX4_askOfHousehold_137 ⟨(by decide +kernel), (by decide +kernel)⟩) hS ?_
                  clear hP hS; intro r_66 S_66 F_66 γ_66 ψ_66 H locs hw hP hS
                  obtain ⟨s1_66, rfl, rfl, (qc_66 : (Int32.toInt s1_58) ≤ (Int32.toInt s1_66) ∧ (Int32.toInt s1_66) ≤ (Int32.toInt s1_58) + 1)⟩ := hw
                  have hLm1_66 := L_m1
                  have hL16_66 := L_16
                  refine c_callv (va_runV (As := [.int r_66]) (rest := []) ⟨hx, hb, hml, hown, hts⟩ (c_X4_loseHousehold l dC dI a κ (up (up (up (up (up σ 1 s1_34) 1 s1_35) 1 s1_57) 1 s1_58) 1 s1_66) φ γ_66 ψ_66 g1 g2 r_66 (show 0 ≤ (Int32.toInt s1_66) ∧ (Int32.toInt s1_66) ≤ 2000000000 from (by omega))) (cwV 1 hts gX4_askOfHousehold_X4_loseHousehold rfl rfl rfl ⟨rfl, hd_X4_loseHousehold⟩ ⟨Nat.le_of_ble_eq_true rfl, Nat.le_of_ble_eq_true rfl⟩) (cPreV hP hK hI hN hX hS (va_recv hK hP (ci := 4) (q0 := 5) rfl rfl)) rfl rfl hl.1 rfl (lv_room (Nat.le_of_ble_eq_true rfl)) dX4_askOfHousehold_140 ⟨(by decide +kernel), (by decide +kernel)⟩) hS ?_
                  clear hP hS; intro S_67 F_67 γ_67 ψ_67 H locs hw hP hS
                  obtain ⟨s1_67, rfl, rfl, (qc_67 : (Int32.toInt s1_66) ≤ (Int32.toInt s1_67) ∧ (Int32.toInt s1_67) ≤ (Int32.toInt s1_66) + 1)⟩ := hw
                  exact W.vret hx hb hr (fun t ht hW => ⟨⟨((up σ 1 s1_67), φ, γ_67, ψ_67), rfl, ⟨s1_67, rfl, rfl, (show (Int32.toInt (σ 1)) ≤ (Int32.toInt s1_67) ∧ (Int32.toInt s1_67) ≤ (Int32.toInt (σ 1)) + 6 from (by omega))⟩, (by show va_P _ _ _ _; rw [ht]; exact hP)⟩, hS.F ht⟩) hS.2.2 dX4_askOfHousehold_143
          · have kc_59 := bI_ne rfl L_0 c_59
            exact W.vret hx hb hr (fun t ht hW => ⟨⟨((up σ 1 s1_58), φ, γ_58, ψ_58), rfl, ⟨s1_58, rfl, rfl, (show (Int32.toInt (σ 1)) ≤ (Int32.toInt s1_58) ∧ (Int32.toInt s1_58) ≤ (Int32.toInt (σ 1)) + 6 from (by omega))⟩, (by show va_P _ _ _ _; rw [ht]; exact hP)⟩, hS.F ht⟩) hS.2.2 dX4_askOfHousehold_87
    · have kc_36 := bI_ne rfl L_0 c_36
      exact W.vret hx hb hr (fun t ht hW => ⟨⟨((up σ 1 s1_35), φ, γ_35, ψ_35), rfl, ⟨s1_35, rfl, rfl, (show (Int32.toInt (σ 1)) ≤ (Int32.toInt s1_35) ∧ (Int32.toInt s1_35) ≤ (Int32.toInt (σ 1)) + 6 from (by omega))⟩, (by show va_P _ _ _ _; rw [ht]; exact hP)⟩, hS.F ht⟩) hS.2.2 dX4_askOfHousehold_48
set_option maxHeartbeats 4000000 in
set_option maxRecDepth 100000 in
theorem c_X4_takeHousehold (l : Launch) (dC : Nat → ClassId) (dI : Nat → Nat → Nat) (a : Nat → Nat) (κ : Nat → ClassId) (σ : Nat → Int32) (φ : Nat → Nat → Int32) (γ : Nat → Int32) (ψ : Nat → Nat → Int32) (g1 g2 : Nat)  (p_hh_sex : PtR (-1) 1 (φ 4)) (p_book_personFacts0 : PtR (-1) 1 (φ 6)) (hb : 0 ≤ (Int32.toInt (σ 11)) ∧ (Int32.toInt (σ 11)) ≤ 60 ∧ 0 ≤ (Int32.toInt (σ 12)) ∧ (Int32.toInt (σ 12)) ≤ 300) (hbs : BS (σ 11) (σ 12) (σ 13) (σ 14) (σ 15) (φ 5) (φ 6) (φ 7)) (hbp : BP (σ 11) (σ 12) (σ 16) (σ 17) (φ 5)) (ht : 0 ≤ (Int32.toInt (σ 16)) ∧ (Int32.toInt (σ 16)) ≤ 4000 ∧ 0 ≤ (Int32.toInt (σ 17)) ∧ (Int32.toInt (σ 17)) ≤ 2000 * (Int32.toInt (σ 16))) (hp : 0 ≤ (Int32.toInt (σ 9)) ∧ (Int32.toInt (σ 9)) ≤ 2000 ∧ 0 ≤ (Int32.toInt (σ 10)) ∧ (Int32.toInt (σ 10)) ≤ 30 * (Int32.toInt (σ 9))) : Met l yX4_takeHousehold wsX4_takeHousehold ({ frames := 3, cells := 0, slots := 0, locals := 74 } : Room) (va_Pc [.ref (a 5)] (cPre dC dI a κ (σ, φ, γ, ψ) g1 g2)) (va_Qv (QV (fun S F => ∃ (f5 : Nat → Int32) (f6 : Nat → Int32) (f7 : Nat → Int32) (s16 : Int32) (s17 : Int32), (up (up σ 16 s16) 17 s17) = S ∧ (up (up (up φ 5 f5) 6 f6) 7 f7) = F ∧ PtR (-1) 1 f6 ∧ (BS (σ 11) (σ 12) (σ 13) (σ 14) (σ 15) f5 f6 f7) ∧ (BP (σ 11) (σ 12) s16 s17 f5) ∧ ((Int32.toInt (σ 16)) ≤ (Int32.toInt s16) ∧ (Int32.toInt s16) ≤ (Int32.toInt (σ 16)) + 1 ∧ 0 ≤ (Int32.toInt s17) ∧ (Int32.toInt s17) ≤ 2000 * (Int32.toInt s16)))) (cB dC dI a κ) (cA a)) 0 0 (cA a) := by
  refine Met.ofW (cc := cX4_takeHousehold) (maxL := 1) (ret := none) (by decide) rfl ?_
  intro p e s m args below meth c s₁ B hml hv
  obtain ⟨rfl, hP, hK, hI, hN, hX⟩ := hv
  have hx := B.exec
  have hb := B.bytes
  have hr := B.returns
  have hts := atoms_spec (ws := wsX4_takeHousehold) B.pre
  have hown : s.vm.findClass RX4 = some m.cls := findClass_of_methodNamed B.named
  have hlocks := B.notSynchronized
  have hS : va_S (cA a) s.heap s.heap [] := va_S.rf
  have hinX4 : ∀ w ∈ wsX40, w ∈ wsX4_takeHousehold := fun _ h => List.mem_cons_of_mem _ (List.mem_append_left _ (List.mem_append_left _ (List.mem_append_right _ h)))
  have hinX2 : ∀ w ∈ wsX20, w ∈ wsX4_takeHousehold := fun _ h => List.mem_cons_of_mem _ (List.mem_append_left _ (List.mem_append_right _ h))
  have hinX0 : ∀ w ∈ wsX00, w ∈ wsX4_takeHousehold := fun _ h => List.mem_cons_of_mem _ (List.mem_append_right _ h)
  have hl := lv_entry ([.ref (a 5)]) (n := 1) (Nat.le_of_ble_eq_true rfl)
  rw [lg_entry_eq]
  generalize (lg_sl ([.ref (a 5)]) ++ List.replicate (1 - (lg_sl ([.ref (a 5)])).length) Slot.unset).toArray = ls at hl ⊢
  have hl : lv_has ls 1 [(0, .ref (a 5))] := hl
  refine lv_aload_n hx hb dX4_takeHousehold_0 rfl (lv_at hl 0 rfl) ?_
  refine cg_5_3 hx hb hts hinX4 hown hK hP (hts (.fieldLink RX4 48 "CensusDesk$Reader" "book" "LCensusDesk$Book;") (List.mem_of_getElem? (i := 1) rfl)) dX4_takeHousehold_1 ?_
  refine lv_aload_n hx hb dX4_takeHousehold_4 rfl (lv_at hl 0 rfl) ?_
  refine cg_5_6 hx hb hts hinX4 hown hK hP (hts (.fieldLink RX4 28 "CensusDesk$Reader" "household" "LCensusDesk$Household;") (List.mem_of_getElem? (i := 2) rfl)) dX4_takeHousehold_5 ?_
  refine lv_aload_n hx hb dX4_takeHousehold_8 rfl (lv_at hl 0 rfl) ?_
  refine cg_5_9 (v := (σ 16)) hx hb hts hinX4 hown hK hP (hts (.fieldLink RX4 56 "CensusDesk$Reader" "taken" "I") (List.mem_of_getElem? (i := 3) rfl)) rfl dX4_takeHousehold_9 ?_
  refine lv_aload_n hx hb dX4_takeHousehold_12 rfl (lv_at hl 0 rfl) ?_
  refine cg_5_11 (v := (σ 17)) hx hb hts hinX4 hown hK hP (hts (.fieldLink RX4 62 "CensusDesk$Reader" "personsTaken" "I") (List.mem_of_getElem? (i := 4) rfl)) rfl dX4_takeHousehold_13 ?_
  refine c_callv (va_runV (As := [.ref (a 8), .int (σ 16), .int (σ 17)]) (rest := []) ⟨hx, hb, hml, hown, hts⟩ (c_X0_write l dC dI a κ σ φ γ ψ g1 g2 (σ 16) (σ 17) p_hh_sex p_book_personFacts0 (show 0 ≤ (Int32.toInt (σ 11)) ∧ (Int32.toInt (σ 11)) ≤ 60 ∧ 0 ≤ (Int32.toInt (σ 12)) ∧ (Int32.toInt (σ 12)) ≤ 300 from (by omega)) (show BS (σ 11) (σ 12) (σ 13) (σ 14) (σ 15) (φ 5) (φ 6) (φ 7) from (by with_reducible assumption)) (show BP (σ 11) (σ 12) (σ 16) (σ 17) (φ 5) from (by with_reducible assumption)) (show 0 ≤ (Int32.toInt (σ 16)) ∧ (Int32.toInt (σ 16)) ≤ 4000 ∧ 0 ≤ (Int32.toInt (σ 17)) ∧ (Int32.toInt (σ 17)) ≤ 8000000 from (by omega)) (show 0 ≤ (Int32.toInt (σ 9)) ∧ (Int32.toInt (σ 9)) ≤ 2000 ∧ 0 ≤ (Int32.toInt (σ 10)) ∧ (Int32.toInt (σ 10)) ≤ 30 * (Int32.toInt (σ 9)) from (by omega))) (cwV 3 hts gX4_takeHousehold_X0_write rfl rfl rfl ⟨rfl, hd_X0_write⟩ ⟨Nat.le_of_ble_eq_true rfl, Nat.le_of_ble_eq_true rfl⟩) (cPreV hP hK hI hN hX hS (va_recv hK hP (ci := 0) (q0 := 4) rfl rfl)) rfl rfl hl.1 rfl (lv_room (Nat.le_of_ble_eq_true rfl)) dX4_takeHousehold_16 ⟨(by decide +kernel), (by decide +kernel)⟩) hS ?_
  clear hP hS; intro S_1 F_1 γ_1 ψ_1 H locs hw hP hS
  obtain ⟨f5_1, f6_1, f7_1, rfl, rfl, pf6_1, (qb_1 : BS (σ 11) (σ 12) (σ 13) (σ 14) (σ 15) f5_1 f6_1 f7_1), (qn_1 : ∀ (t q : Int32), t = (σ 16) + 1 → q = (σ 17) + (σ 9) → BP (σ 11) (σ 12) t q f5_1)⟩ := hw
  refine lv_aload_n hx hb dX4_takeHousehold_19 rfl (lv_at hl 0 rfl) ?_
  refine lv_dup hx hb dX4_takeHousehold_20 rfl ?_
  refine cg_5_9 (v := (σ 16)) hx hb hts hinX4 hown hK hP (hts (.fieldLink RX4 56 "CensusDesk$Reader" "taken" "I") (List.mem_of_getElem? (i := 3) rfl)) rfl dX4_takeHousehold_21 ?_
  refine lv_iconst (v := 1) hx hb dX4_takeHousehold_24 (by decide) ?_
  refine lv_iadd hx hb dX4_takeHousehold_25 ?_
  refine lv_topi (fun z_2 ez_2 => ?_)
  have tz_2 : (Int32.toInt z_2) = (Int32.toInt (σ 16)) + 1 := aI_add rfl L_1 ez_2 (by have := rng (σ 16); omega)
  refine cp_5_9 (v := z_2) hx hb hts hinX4 hown hK hP hI hS (hts (.fieldLink RX4 56 "CensusDesk$Reader" "taken" "I") (List.mem_of_getElem? (i := 3) rfl)) dX4_takeHousehold_26 ?_
  clear hP hS; intro H locs hP hS
  refine lv_aload_n hx hb dX4_takeHousehold_29 rfl (lv_at hl 0 rfl) ?_
  refine lv_dup hx hb dX4_takeHousehold_30 rfl ?_
  refine cg_5_11 (v := (σ 17)) hx hb hts hinX4 hown hK hP (hts (.fieldLink RX4 62 "CensusDesk$Reader" "personsTaken" "I") (List.mem_of_getElem? (i := 4) rfl)) rfl dX4_takeHousehold_31 ?_
  refine lv_aload_n hx hb dX4_takeHousehold_34 rfl (lv_at hl 0 rfl) ?_
  refine cg_5_6 hx hb hts hinX4 hown hK hP (hts (.fieldLink RX4 28 "CensusDesk$Reader" "household" "LCensusDesk$Household;") (List.mem_of_getElem? (i := 2) rfl)) dX4_takeHousehold_35 ?_
  refine cgN_8_11 (v := (σ 9)) hx hb hts hinX2 hown hK hP (va_Nw.use rfl (hN.1 ("CensusDesk$Reader", 246, "CensusDesk$Household", "persons", "I") (List.mem_of_getElem? (i := 27) rfl))) rfl dX4_takeHousehold_38 ?_
  refine lv_iadd hx hb dX4_takeHousehold_41 ?_
  refine lv_topi (fun z_3 ez_3 => ?_)
  have tz_3 : (Int32.toInt z_3) = (Int32.toInt (σ 17)) + (Int32.toInt (σ 9)) := aI_add rfl rfl ez_3 (by have := rng (σ 17); have := rng (σ 9); omega)
  refine cp_5_11 (v := z_3) hx hb hts hinX4 hown hK hP hI hS (hts (.fieldLink RX4 62 "CensusDesk$Reader" "personsTaken" "I") (List.mem_of_getElem? (i := 4) rfl)) dX4_takeHousehold_42 ?_
  clear hP hS; intro H locs hP hS
  have hbn : BP (σ 11) (σ 12) z_2 z_3 f5_1 := qn_1 _ _ ez_2 ez_3
  refine lv_aload_n hx hb dX4_takeHousehold_45 rfl (lv_at hl 0 rfl) ?_
  refine cg_5_6 hx hb hts hinX4 hown hK hP (hts (.fieldLink RX4 28 "CensusDesk$Reader" "household" "LCensusDesk$Household;") (List.mem_of_getElem? (i := 2) rfl)) dX4_takeHousehold_46 ?_
  refine cgN_8_9 (v := (γ_1 11)) hx hb hts hinX2 hown hK hP (va_Nw.use rfl (hN.1 ("CensusDesk$Reader", 222, "CensusDesk$Household", "number", "I") (List.mem_of_getElem? (i := 23) rfl))) rfl dX4_takeHousehold_49 ?_
  refine lv_iconst (v := (-1)) hx hb dX4_takeHousehold_52 (by decide) ?_
  refine lv_icmp_eq (tgt := 67) hx hb dX4_takeHousehold_53 (by decide) (fun c_4 => ?_) (fun c_4 => ?_)
  · have kc_4 := bI_eq rfl L_m1 c_4
    exact W.vret hx hb hr (fun t ht hW => ⟨⟨((up (up σ 16 z_2) 17 z_3), (up (up (up φ 5 f5_1) 6 f6_1) 7 f7_1), γ_1, ψ_1), rfl, ⟨f5_1, f6_1, f7_1, z_2, z_3, rfl, rfl, pf6_1, (show BS (σ 11) (σ 12) (σ 13) (σ 14) (σ 15) f5_1 f6_1 f7_1 from (by with_reducible assumption)), (show BP (σ 11) (σ 12) z_2 z_3 f5_1 from (by with_reducible assumption)), (show (Int32.toInt (σ 16)) ≤ (Int32.toInt z_2) ∧ (Int32.toInt z_2) ≤ (Int32.toInt (σ 16)) + 1 ∧ 0 ≤ (Int32.toInt z_3) ∧ (Int32.toInt z_3) ≤ 2000 * (Int32.toInt z_2) from (by omega))⟩, (by show va_P _ _ _ _; rw [ht]; exact hP)⟩, hS.F ht⟩) hS.2.2 dX4_takeHousehold_67
  · have kc_4 := bI_ne rfl L_m1 c_4
    refine lv_aload_n hx hb dX4_takeHousehold_56 rfl (lv_at hl 0 rfl) ?_
    refine lv_aload_n hx hb dX4_takeHousehold_57 rfl (lv_at hl 0 rfl) ?_
    refine cg_5_6 hx hb hts hinX4 hown hK hP (hts (.fieldLink RX4 28 "CensusDesk$Reader" "household" "LCensusDesk$Household;") (List.mem_of_getElem? (i := 2) rfl)) dX4_takeHousehold_58 ?_
    refine cgN_8_9 (v := (γ_1 11)) hx hb hts hinX2 hown hK hP (va_Nw.use rfl (hN.1 ("CensusDesk$Reader", 222, "CensusDesk$Household", "number", "I") (List.mem_of_getElem? (i := 23) rfl))) rfl dX4_takeHousehold_61 ?_
    refine cp_5_13 (v := (γ_1 11)) hx hb hts hinX4 hown hK hP hI hS (hts (.fieldLink RX4 68 "CensusDesk$Reader" "latestNumber" "I") (List.mem_of_getElem? (i := 5) rfl)) dX4_takeHousehold_64 ?_
    clear hP hS; intro H locs hP hS
    exact W.vret hx hb hr (fun t ht hW => ⟨⟨((up (up σ 16 z_2) 17 z_3), (up (up (up φ 5 f5_1) 6 f6_1) 7 f7_1), (up γ_1 3 (γ_1 11)), ψ_1), rfl, ⟨f5_1, f6_1, f7_1, z_2, z_3, rfl, rfl, pf6_1, (show BS (σ 11) (σ 12) (σ 13) (σ 14) (σ 15) f5_1 f6_1 f7_1 from (by with_reducible assumption)), (show BP (σ 11) (σ 12) z_2 z_3 f5_1 from (by with_reducible assumption)), (show (Int32.toInt (σ 16)) ≤ (Int32.toInt z_2) ∧ (Int32.toInt z_2) ≤ (Int32.toInt (σ 16)) + 1 ∧ 0 ≤ (Int32.toInt z_3) ∧ (Int32.toInt z_3) ≤ 2000 * (Int32.toInt z_2) from (by omega))⟩, (by show va_P _ _ _ _; rw [ht]; exact hP)⟩, hS.F ht⟩) hS.2.2 dX4_takeHousehold_67
