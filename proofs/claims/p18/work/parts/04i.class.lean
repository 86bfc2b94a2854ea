set_option maxHeartbeats 4000000 in
set_option maxRecDepth 100000 in
theorem c_X4_readForm (l : Launch) (dC : Nat → ClassId) (dI : Nat → Nat → Nat) (a : Nat → Nat) (κ : Nat → ClassId) (σ : Nat → Int32) (φ : Nat → Nat → Int32) (γ : Nat → Int32) (ψ : Nat → Nat → Int32) (g1 g2 : Nat)  (hlen : 0 ≤ (Int32.toInt (σ 0)) ∧ (Int32.toInt (σ 0)) ≤ 4000) (hc : 0 ≤ (Int32.toInt (σ 1)) ∧ (Int32.toInt (σ 1)) ≤ 2000000000) : Met l yX4_readForm wsX4_readForm ({ frames := 2, cells := 0, slots := 0, locals := 53 } : Room) (va_Pc [.ref (a 5)] (cPre dC dI a κ (σ, φ, γ, ψ) g1 g2)) (va_Qi (QI (fun r S F => ∃ (s1 : Int32), (up σ 1 s1) = S ∧ φ = F ∧ ((Int32.toInt (σ 1)) ≤ (Int32.toInt s1) ∧ (Int32.toInt s1) ≤ (Int32.toInt (σ 1)) + 1) ∧ ((Int32.toInt r) ≠ -1 ∨ (Int32.toInt (σ 6)) = 72 ∨ (Int32.toInt (σ 6)) = 80 ∨ (Int32.toInt (σ 6)) = 83))) (cB dC dI a κ) (cA a)) 0 0 (cA a) := by
  refine Met.ofW (cc := cX4_readForm) (maxL := 2) (ret := (some .int)) (by decide) rfl ?_
  intro p e s m args below meth c s₁ B hml hv
  obtain ⟨rfl, hP, hK, hI, hN, hX⟩ := hv
  have hx := B.exec
  have hb := B.bytes
  have hr := B.returns
  have hts := atoms_spec (ws := wsX4_readForm) B.pre
  have hown : s.vm.findClass RX4 = some m.cls := findClass_of_methodNamed B.named
  have hlocks := B.notSynchronized
  have hS : va_S (cA a) s.heap s.heap [] := va_S.rf
  have hinX4 : ∀ w ∈ wsX40, w ∈ wsX4_readForm := fun _ h => List.mem_cons_of_mem _ (List.mem_append_left _ (List.mem_append_left _ (List.mem_append_left _ (List.mem_append_left _ (List.mem_append_left _ (List.mem_append_right _ h))))))
  have hinX3 : ∀ w ∈ wsX30, w ∈ wsX4_readForm := fun _ h => List.mem_cons_of_mem _ (List.mem_append_left _ (List.mem_append_left _ (List.mem_append_left _ (List.mem_append_left _ (List.mem_append_right _ h)))))
  have hinX2 : ∀ w ∈ wsX20, w ∈ wsX4_readForm := fun _ h => List.mem_cons_of_mem _ (List.mem_append_left _ (List.mem_append_left _ (List.mem_append_left _ (List.mem_append_right _ h))))
  have hinX7 : ∀ w ∈ wsX70, w ∈ wsX4_readForm := fun _ h => List.mem_cons_of_mem _ (List.mem_append_left _ (List.mem_append_left _ (List.mem_append_right _ h)))
  have hinX5 : ∀ w ∈ wsX50, w ∈ wsX4_readForm := fun _ h => List.mem_cons_of_mem _ (List.mem_append_left _ (List.mem_append_right _ h))
  have hinX1 : ∀ w ∈ wsX10, w ∈ wsX4_readForm := fun _ h => List.mem_cons_of_mem _ (List.mem_append_right _ h)
  have hl := lv_entry ([.ref (a 5)]) (n := 2) (Nat.le_of_ble_eq_true rfl)
  rw [lg_entry_eq]
  generalize (lg_sl ([.ref (a 5)]) ++ List.replicate (2 - (lg_sl ([.ref (a 5)])).length) Slot.unset).toArray = ls at hl ⊢
  have hl : lv_has ls 2 [(0, .ref (a 5))] := hl
  refine lv_aload_n hx hb dX4_readForm_0 rfl (lv_at hl 0 rfl) ?_
  refine cg_5_4 hx hb hts hinX4 hown hK hP (hts (.fieldLink RX4 12 "CensusDesk$Reader" "line" "LCensusDesk$Line;") (List.mem_of_getElem? (i := 1) rfl)) dX4_readForm_1 ?_
  refine lv_aload_n hx hb dX4_readForm_4 rfl (lv_at hl 0 rfl) ?_
  refine cg_5_0 hx hb hts hinX4 hown hK hP (hts (.fieldLink RX4 36 "CensusDesk$Reader" "tape" "LCensusDesk$Tape;") (List.mem_of_getElem? (i := 2) rfl)) dX4_readForm_5 ?_
  refine c_calli (va_runV (As := [.ref (a 1)]) (rest := []) ⟨hx, hb, hml, hown, hts⟩ (c_X3_isOdd l dC dI a κ σ φ γ ψ g1 g2  (show 0 ≤ (Int32.toInt (σ 0)) ∧ (Int32.toInt (σ 0)) ≤ 4000 from (by omega))) (cwV 1 hts gX4_readForm_X3_isOdd rfl rfl rfl ⟨rfl, hd_X3_isOdd⟩ ⟨Nat.le_of_ble_eq_true rfl, Nat.le_of_ble_eq_true rfl⟩) (cPreV hP hK hI hN hX hS (va_recv hK hP (ci := 3) (q0 := 6) rfl rfl)) rfl rfl hl.1 rfl (lv_room (Nat.le_of_ble_eq_true rfl)) dX4_readForm_8 ⟨(by decide +kernel), (by decide +kernel)⟩) hS ?_
  clear hP hS; intro r_1 S_1 F_1 γ_1 ψ_1 H locs hw hP hS
  obtain ⟨rfl, rfl, (qo_1 : (Int32.toInt r_1) ≠ 0 ∨ (Int32.toInt (σ 6)) = 72 ∨ (Int32.toInt (σ 6)) = 80 ∨ (Int32.toInt (σ 6)) = 83)⟩ := hw
  refine lv_if_eq (tgt := 41) hx hb dX4_readForm_11 (by decide) (fun c_2 => ?_) (fun c_2 => ?_)
  · have kc_2 := bI_eq rfl L_0 c_2
    refine lv_aload_n hx hb dX4_readForm_41 rfl (lv_at hl 0 rfl) ?_
    refine cg_5_6 hx hb hts hinX4 hown hK hP (hts (.fieldLink RX4 28 "CensusDesk$Reader" "household" "LCensusDesk$Household;") (List.mem_of_getElem? (i := 3) rfl)) dX4_readForm_42 ?_
    refine cgN_8_6 (v := (σ 8)) hx hb hts hinX2 hown hK hP (va_Nw.use rfl (hN.1 ("CensusDesk$Reader", 81, "CensusDesk$Household", "open", "Z") (List.mem_of_getElem? (i := 19) rfl))) rfl dX4_readForm_45 ?_
    refine lv_if_ne (tgt := 81) hx hb dX4_readForm_48 (by decide) (fun c_3 => ?_) (fun c_3 => ?_)
    · have kc_3 := bI_ne rfl L_0 c_3
      refine lv_aload_n hx hb dX4_readForm_81 rfl (lv_at hl 0 rfl) ?_
      refine cg_5_4 hx hb hts hinX4 hown hK hP (hts (.fieldLink RX4 12 "CensusDesk$Reader" "line" "LCensusDesk$Line;") (List.mem_of_getElem? (i := 1) rfl)) dX4_readForm_82 ?_
      refine c_calli (va_runV (As := []) (rest := []) ⟨hx, hb, hml, hown, hts⟩ (c_X3_cellsDue l dC dI a κ σ φ γ_1 ψ_1 g1 g2  ) (cwV 0 hts gX4_readForm_X3_cellsDue rfl rfl rfl ⟨rfl, hd_X3_cellsDue⟩ ⟨Nat.le_of_ble_eq_true rfl, Nat.le_of_ble_eq_true rfl⟩) (cPreV hP hK hI hN hX hS (va_recv hK hP (ci := 3) (q0 := 6) rfl rfl)) rfl rfl hl.1 rfl (lv_room (Nat.le_of_ble_eq_true rfl)) dX4_readForm_85 ⟨(by decide +kernel), (by decide +kernel)⟩) hS ?_
      clear hP hS; intro r_4 S_4 F_4 γ_4 ψ_4 H locs hw hP hS
      obtain ⟨rfl, rfl, (qd_4 : ((Int32.toInt (σ 6)) = 72 ∧ (Int32.toInt r_4) = 3) ∨ ((Int32.toInt (σ 6)) = 80 ∧ (Int32.toInt r_4) = 5) ∨ ((Int32.toInt (σ 6)) = 83 ∧ (Int32.toInt r_4) = 2) ∨ ((Int32.toInt r_4) = 0 ∧ (Int32.toInt (σ 6)) ≠ 72 ∧ (Int32.toInt (σ 6)) ≠ 80 ∧ (Int32.toInt (σ 6)) ≠ 83))⟩ := hw
      refine lv_istore_n (lv' := [(1, .int r_4), (0, .ref (a 5))]) hx hb dX4_readForm_88 rfl hl (by decide) rfl ?_
      clear hl; intro ls hl
      refine lv_aload_n hx hb dX4_readForm_89 rfl (lv_at hl 1 rfl) ?_
      refine cg_5_4 hx hb hts hinX4 hown hK hP (hts (.fieldLink RX4 12 "CensusDesk$Reader" "line" "LCensusDesk$Line;") (List.mem_of_getElem? (i := 1) rfl)) dX4_readForm_90 ?_
      refine cgN_6_5 (v := (σ 5)) hx hb hts hinX3 hown hK hP (va_Nw.use rfl (hN.1 ("CensusDesk$Reader", 163, "CensusDesk$Line", "cells", "I") (List.mem_of_getElem? (i := 12) rfl))) rfl dX4_readForm_93 ?_
      refine lv_iload_n hx hb dX4_readForm_96 rfl (lv_at hl 0 rfl) ?_
      refine lv_icmp_ge (tgt := 115) hx hb dX4_readForm_97 (by decide) (fun c_5 => ?_) (fun c_5 => ?_)
      · have kc_5 := bI_le rfl rfl c_5
        refine lv_aload_n hx hb dX4_readForm_115 rfl (lv_at hl 1 rfl) ?_
        refine cg_5_4 hx hb hts hinX4 hown hK hP (hts (.fieldLink RX4 12 "CensusDesk$Reader" "line" "LCensusDesk$Line;") (List.mem_of_getElem? (i := 1) rfl)) dX4_readForm_116 ?_
        refine cgN_6_5 (v := (σ 5)) hx hb hts hinX3 hown hK hP (va_Nw.use rfl (hN.1 ("CensusDesk$Reader", 163, "CensusDesk$Line", "cells", "I") (List.mem_of_getElem? (i := 12) rfl))) rfl dX4_readForm_119 ?_
        refine lv_iload_n hx hb dX4_readForm_122 rfl (lv_at hl 0 rfl) ?_
        refine lv_icmp_le (tgt := 141) hx hb dX4_readForm_123 (by decide) (fun c_6 => ?_) (fun c_6 => ?_)
        · have kc_6 := bI_le rfl rfl c_6
          refine lv_iconst (v := (-1)) hx hb dX4_readForm_141 (by decide) ?_
          exact W.iret (v := (-1)) hx hb hr (fun t ht hW => ⟨⟨(-1), ((up σ 1 (σ 1)), φ, γ_4, ψ_4), rfl, ⟨(σ 1), rfl, rfl, (show (Int32.toInt (σ 1)) ≤ (Int32.toInt (σ 1)) ∧ (Int32.toInt (σ 1)) ≤ (Int32.toInt (σ 1)) + 1 from (by omega)), (show (Int32.toInt (-1)) ≠ -1 ∨ (Int32.toInt (σ 6)) = 72 ∨ (Int32.toInt (σ 6)) = 80 ∨ (Int32.toInt (σ 6)) = 83 from (by have := L_m1; omega))⟩, (by show va_P _ _ _ _; rw [ht]; exact hP)⟩, hS.F ht⟩) hS.2.2 dX4_readForm_142
        · have kc_6 := bI_nle rfl rfl c_6
          refine lv_aload_n hx hb dX4_readForm_126 rfl (lv_at hl 1 rfl) ?_
          refine lv_bipush (v := 11) hx hb dX4_readForm_127 (by decide) ?_
          refine lv_aload_n hx hb dX4_readForm_129 rfl (lv_at hl 1 rfl) ?_
          refine cg_5_4 hx hb hts hinX4 hown hK hP (hts (.fieldLink RX4 12 "CensusDesk$Reader" "line" "LCensusDesk$Line;") (List.mem_of_getElem? (i := 1) rfl)) dX4_readForm_130 ?_
          refine cgN_6_2 (v := (σ 2)) hx hb hts hinX3 hown hK hP (va_Nw.use rfl (hN.1 ("CensusDesk$Reader", 124, "CensusDesk$Line", "start", "I") (List.mem_of_getElem? (i := 10) rfl))) rfl dX4_readForm_133 ?_
          refine lv_iconst (v := (-1)) hx hb dX4_readForm_136 (by decide) ?_
          refine c_calli (va_runV (As := [.int 11, .int (σ 2), .int (-1)]) (rest := []) ⟨hx, hb, hml, hown, hts⟩ (c_X4_fail l dC dI a κ σ φ γ_4 ψ_4 g1 g2 11 (σ 2) (-1) (show 0 ≤ (Int32.toInt (σ 1)) ∧ (Int32.toInt (σ 1)) ≤ 2000000000 from (by omega))) (cwV 3 hts gX4_readForm_X4_fail rfl rfl rfl ⟨rfl, hd_X4_fail⟩ ⟨Nat.le_of_ble_eq_true rfl, Nat.le_of_ble_eq_true rfl⟩) (cPreV hP hK hI hN hX hS (va_recv hK hP (ci := 4) (q0 := 5) rfl rfl)) rfl rfl hl.1 rfl (lv_room (Nat.le_of_ble_eq_true rfl)) dX4_readForm_137 ⟨(by decide +kernel), (by decide +kernel)⟩) hS ?_
          clear hP hS; intro r_7 S_7 F_7 γ_7 ψ_7 H locs hw hP hS
          obtain ⟨s1_7, rfl, rfl, (qc_7 : (Int32.toInt (σ 1)) ≤ (Int32.toInt s1_7) ∧ (Int32.toInt s1_7) ≤ (Int32.toInt (σ 1)) + 1)⟩ := hw
          have hLm1_7 := L_m1
          have hL11_7 := L_11
          exact W.iret (v := r_7) hx hb hr (fun t ht hW => ⟨⟨r_7, ((up σ 1 s1_7), φ, γ_7, ψ_7), rfl, ⟨s1_7, rfl, rfl, (show (Int32.toInt (σ 1)) ≤ (Int32.toInt s1_7) ∧ (Int32.toInt s1_7) ≤ (Int32.toInt (σ 1)) + 1 from (by omega)), (show (Int32.toInt r_7) ≠ -1 ∨ (Int32.toInt (σ 6)) = 72 ∨ (Int32.toInt (σ 6)) = 80 ∨ (Int32.toInt (σ 6)) = 83 from (by omega))⟩, (by show va_P _ _ _ _; rw [ht]; exact hP)⟩, hS.F ht⟩) hS.2.2 dX4_readForm_140
      · have kc_5 := bI_nle rfl rfl c_5
        refine lv_aload_n hx hb dX4_readForm_100 rfl (lv_at hl 1 rfl) ?_
        refine lv_bipush (v := 10) hx hb dX4_readForm_101 (by decide) ?_
        refine lv_aload_n hx hb dX4_readForm_103 rfl (lv_at hl 1 rfl) ?_
        refine cg_5_4 hx hb hts hinX4 hown hK hP (hts (.fieldLink RX4 12 "CensusDesk$Reader" "line" "LCensusDesk$Line;") (List.mem_of_getElem? (i := 1) rfl)) dX4_readForm_104 ?_
        refine cgN_6_2 (v := (σ 2)) hx hb hts hinX3 hown hK hP (va_Nw.use rfl (hN.1 ("CensusDesk$Reader", 124, "CensusDesk$Line", "start", "I") (List.mem_of_getElem? (i := 10) rfl))) rfl dX4_readForm_107 ?_
        refine lv_iconst (v := (-1)) hx hb dX4_readForm_110 (by decide) ?_
        refine c_calli (va_runV (As := [.int 10, .int (σ 2), .int (-1)]) (rest := []) ⟨hx, hb, hml, hown, hts⟩ (c_X4_fail l dC dI a κ σ φ γ_4 ψ_4 g1 g2 10 (σ 2) (-1) (show 0 ≤ (Int32.toInt (σ 1)) ∧ (Int32.toInt (σ 1)) ≤ 2000000000 from (by omega))) (cwV 3 hts gX4_readForm_X4_fail rfl rfl rfl ⟨rfl, hd_X4_fail⟩ ⟨Nat.le_of_ble_eq_true rfl, Nat.le_of_ble_eq_true rfl⟩) (cPreV hP hK hI hN hX hS (va_recv hK hP (ci := 4) (q0 := 5) rfl rfl)) rfl rfl hl.1 rfl (lv_room (Nat.le_of_ble_eq_true rfl)) dX4_readForm_111 ⟨(by decide +kernel), (by decide +kernel)⟩) hS ?_
        clear hP hS; intro r_8 S_8 F_8 γ_8 ψ_8 H locs hw hP hS
        obtain ⟨s1_8, rfl, rfl, (qc_8 : (Int32.toInt (σ 1)) ≤ (Int32.toInt s1_8) ∧ (Int32.toInt s1_8) ≤ (Int32.toInt (σ 1)) + 1)⟩ := hw
        have hLm1_8 := L_m1
        have hL10_8 := L_10
        exact W.iret (v := r_8) hx hb hr (fun t ht hW => ⟨⟨r_8, ((up σ 1 s1_8), φ, γ_8, ψ_8), rfl, ⟨s1_8, rfl, rfl, (show (Int32.toInt (σ 1)) ≤ (Int32.toInt s1_8) ∧ (Int32.toInt s1_8) ≤ (Int32.toInt (σ 1)) + 1 from (by omega)), (show (Int32.toInt r_8) ≠ -1 ∨ (Int32.toInt (σ 6)) = 72 ∨ (Int32.toInt (σ 6)) = 80 ∨ (Int32.toInt (σ 6)) = 83 from (by omega))⟩, (by show va_P _ _ _ _; rw [ht]; exact hP)⟩, hS.F ht⟩) hS.2.2 dX4_readForm_114
    · have kc_3 := bI_eq rfl L_0 c_3
      refine lv_aload_n hx hb dX4_readForm_51 rfl (lv_at hl 0 rfl) ?_
      refine cg_5_4 hx hb hts hinX4 hown hK hP (hts (.fieldLink RX4 12 "CensusDesk$Reader" "line" "LCensusDesk$Line;") (List.mem_of_getElem? (i := 1) rfl)) dX4_readForm_52 ?_
      refine cgN_6_6 (v := (σ 6)) hx hb hts hinX3 hown hK hP (va_Nw.use rfl (hN.1 ("CensusDesk$Reader", 121, "CensusDesk$Line", "sort", "I") (List.mem_of_getElem? (i := 13) rfl))) rfl dX4_readForm_55 ?_
      refine lv_bipush (v := 80) hx hb dX4_readForm_58 (by decide) ?_
      refine lv_icmp_ne (tgt := 81) hx hb dX4_readForm_60 (by decide) (fun c_9 => ?_) (fun c_9 => ?_)
      · have kc_9 := bI_ne rfl L_80 c_9
        refine lv_aload_n hx hb dX4_readForm_81 rfl (lv_at hl 0 rfl) ?_
        refine cg_5_4 hx hb hts hinX4 hown hK hP (hts (.fieldLink RX4 12 "CensusDesk$Reader" "line" "LCensusDesk$Line;") (List.mem_of_getElem? (i := 1) rfl)) dX4_readForm_82 ?_
        refine c_calli (va_runV (As := []) (rest := []) ⟨hx, hb, hml, hown, hts⟩ (c_X3_cellsDue l dC dI a κ σ φ γ_1 ψ_1 g1 g2  ) (cwV 0 hts gX4_readForm_X3_cellsDue rfl rfl rfl ⟨rfl, hd_X3_cellsDue⟩ ⟨Nat.le_of_ble_eq_true rfl, Nat.le_of_ble_eq_true rfl⟩) (cPreV hP hK hI hN hX hS (va_recv hK hP (ci := 3) (q0 := 6) rfl rfl)) rfl rfl hl.1 rfl (lv_room (Nat.le_of_ble_eq_true rfl)) dX4_readForm_85 ⟨(by decide +kernel), (by decide +kernel)⟩) hS ?_
        clear hP hS; intro r_10 S_10 F_10 γ_10 ψ_10 H locs hw hP hS
        obtain ⟨rfl, rfl, (qd_10 : ((Int32.toInt (σ 6)) = 72 ∧ (Int32.toInt r_10) = 3) ∨ ((Int32.toInt (σ 6)) = 80 ∧ (Int32.toInt r_10) = 5) ∨ ((Int32.toInt (σ 6)) = 83 ∧ (Int32.toInt r_10) = 2) ∨ ((Int32.toInt r_10) = 0 ∧ (Int32.toInt (σ 6)) ≠ 72 ∧ (Int32.toInt (σ 6)) ≠ 80 ∧ (Int32.toInt (σ 6)) ≠ 83))⟩ := hw
        refine lv_istore_n (lv' := [(1, .int r_10), (0, .ref (a 5))]) hx hb dX4_readForm_88 rfl hl (by decide) rfl ?_
        clear hl; intro ls hl
        refine lv_aload_n hx hb dX4_readForm_89 rfl (lv_at hl 1 rfl) ?_
        refine cg_5_4 hx hb hts hinX4 hown hK hP (hts (.fieldLink RX4 12 "CensusDesk$Reader" "line" "LCensusDesk$Line;") (List.mem_of_getElem? (i := 1) rfl)) dX4_readForm_90 ?_
        refine cgN_6_5 (v := (σ 5)) hx hb hts hinX3 hown hK hP (va_Nw.use rfl (hN.1 ("CensusDesk$Reader", 163, "CensusDesk$Line", "cells", "I") (List.mem_of_getElem? (i := 12) rfl))) rfl dX4_readForm_93 ?_
        refine lv_iload_n hx hb dX4_readForm_96 rfl (lv_at hl 0 rfl) ?_
        refine lv_icmp_ge (tgt := 115) hx hb dX4_readForm_97 (by decide) (fun c_11 => ?_) (fun c_11 => ?_)
        · have kc_11 := bI_le rfl rfl c_11
          refine lv_aload_n hx hb dX4_readForm_115 rfl (lv_at hl 1 rfl) ?_
          refine cg_5_4 hx hb hts hinX4 hown hK hP (hts (.fieldLink RX4 12 "CensusDesk$Reader" "line" "LCensusDesk$Line;") (List.mem_of_getElem? (i := 1) rfl)) dX4_readForm_116 ?_
          refine cgN_6_5 (v := (σ 5)) hx hb hts hinX3 hown hK hP (va_Nw.use rfl (hN.1 ("CensusDesk$Reader", 163, "CensusDesk$Line", "cells", "I") (List.mem_of_getElem? (i := 12) rfl))) rfl dX4_readForm_119 ?_
          refine lv_iload_n hx hb dX4_readForm_122 rfl (lv_at hl 0 rfl) ?_
          refine lv_icmp_le (tgt := 141) hx hb dX4_readForm_123 (by decide) (fun c_12 => ?_) (fun c_12 => ?_)
          · have kc_12 := bI_le rfl rfl c_12
            refine lv_iconst (v := (-1)) hx hb dX4_readForm_141 (by decide) ?_
            exact W.iret (v := (-1)) hx hb hr (fun t ht hW => ⟨⟨(-1), ((up σ 1 (σ 1)), φ, γ_10, ψ_10), rfl, ⟨(σ 1), rfl, rfl, (show (Int32.toInt (σ 1)) ≤ (Int32.toInt (σ 1)) ∧ (Int32.toInt (σ 1)) ≤ (Int32.toInt (σ 1)) + 1 from (by omega)), (show (Int32.toInt (-1)) ≠ -1 ∨ (Int32.toInt (σ 6)) = 72 ∨ (Int32.toInt (σ 6)) = 80 ∨ (Int32.toInt (σ 6)) = 83 from (by have := L_m1; omega))⟩, (by show va_P _ _ _ _; rw [ht]; exact hP)⟩, hS.F ht⟩) hS.2.2 dX4_readForm_142
          · have kc_12 := bI_nle rfl rfl c_12
            refine lv_aload_n hx hb dX4_readForm_126 rfl (lv_at hl 1 rfl) ?_
            refine lv_bipush (v := 11) hx hb dX4_readForm_127 (by decide) ?_
            refine lv_aload_n hx hb dX4_readForm_129 rfl (lv_at hl 1 rfl) ?_
            refine cg_5_4 hx hb hts hinX4 hown hK hP (hts (.fieldLink RX4 12 "CensusDesk$Reader" "line" "LCensusDesk$Line;") (List.mem_of_getElem? (i := 1) rfl)) dX4_readForm_130 ?_
            refine cgN_6_2 (v := (σ 2)) hx hb hts hinX3 hown hK hP (va_Nw.use rfl (hN.1 ("CensusDesk$Reader", 124, "CensusDesk$Line", "start", "I") (List.mem_of_getElem? (i := 10) rfl))) rfl dX4_readForm_133 ?_
            refine lv_iconst (v := (-1)) hx hb dX4_readForm_136 (by decide) ?_
            refine c_calli (va_runV (As := [.int 11, .int (σ 2), .int (-1)]) (rest := []) ⟨hx, hb, hml, hown, hts⟩ (c_X4_fail l dC dI a κ σ φ γ_10 ψ_10 g1 g2 11 (σ 2) (-1) (show 0 ≤ (Int32.toInt (σ 1)) ∧ (Int32.toInt (σ 1)) ≤ 2000000000 from (by omega))) (cwV 3 hts gX4_readForm_X4_fail rfl rfl rfl ⟨rfl, hd_X4_fail⟩ ⟨Nat.le_of_ble_eq_true rfl, Nat.le_of_ble_eq_true rfl⟩) (cPreV hP hK hI hN hX hS (va_recv hK hP (ci := 4) (q0 := 5) rfl rfl)) rfl rfl hl.1 rfl (lv_room (Nat.le_of_ble_eq_true rfl)) dX4_readForm_137 ⟨(by decide +kernel), (by decide +kernel)⟩) hS ?_
            clear hP hS; intro r_13 S_13 F_13 γ_13 ψ_13 H locs hw hP hS
            obtain ⟨s1_13, rfl, rfl, (qc_13 : (Int32.toInt (σ 1)) ≤ (Int32.toInt s1_13) ∧ (Int32.toInt s1_13) ≤ (Int32.toInt (σ 1)) + 1)⟩ := hw
            have hLm1_13 := L_m1
            have hL11_13 := L_11
            exact W.iret (v := r_13) hx hb hr (fun t ht hW => ⟨⟨r_13, ((up σ 1 s1_13), φ, γ_13, ψ_13), rfl, ⟨s1_13, rfl, rfl, (show (Int32.toInt (σ 1)) ≤ (Int32.toInt s1_13) ∧ (Int32.toInt s1_13) ≤ (Int32.toInt (σ 1)) + 1 from (by omega)), (show (Int32.toInt r_13) ≠ -1 ∨ (Int32.toInt (σ 6)) = 72 ∨ (Int32.toInt (σ 6)) = 80 ∨ (Int32.toInt (σ 6)) = 83 from (by omega))⟩, (by show va_P _ _ _ _; rw [ht]; exact hP)⟩, hS.F ht⟩) hS.2.2 dX4_readForm_140
        · have kc_11 := bI_nle rfl rfl c_11
          refine lv_aload_n hx hb dX4_readForm_100 rfl (lv_at hl 1 rfl) ?_
          refine lv_bipush (v := 10) hx hb dX4_readForm_101 (by decide) ?_
          refine lv_aload_n hx hb dX4_readForm_103 rfl (lv_at hl 1 rfl) ?_
          refine cg_5_4 hx hb hts hinX4 hown hK hP (hts (.fieldLink RX4 12 "CensusDesk$Reader" "line" "LCensusDesk$Line;") (List.mem_of_getElem? (i := 1) rfl)) dX4_readForm_104 ?_
          refine cgN_6_2 (v := (σ 2)) hx hb hts hinX3 hown hK hP (va_Nw.use rfl (hN.1 ("CensusDesk$Reader", 124, "CensusDesk$Line", "start", "I") (List.mem_of_getElem? (i := 10) rfl))) rfl dX4_readForm_107 ?_
          refine lv_iconst (v := (-1)) hx hb dX4_readForm_110 (by decide) ?_
          refine c_calli (va_runV (As := [.int 10, .int (σ 2), .int (-1)]) (rest := []) ⟨hx, hb, hml, hown, hts⟩ (c_X4_fail l dC dI a κ σ φ γ_10 ψ_10 g1 g2 10 (σ 2) (-1) (show 0 ≤ (Int32.toInt (σ 1)) ∧ (Int32.toInt (σ 1)) ≤ 2000000000 from (by omega))) (cwV 3 hts gX4_readForm_X4_fail rfl rfl rfl ⟨rfl, hd_X4_fail⟩ ⟨Nat.le_of_ble_eq_true rfl, Nat.le_of_ble_eq_true rfl⟩) (cPreV hP hK hI hN hX hS (va_recv hK hP (ci := 4) (q0 := 5) rfl rfl)) rfl rfl hl.1 rfl (lv_room (Nat.le_of_ble_eq_true rfl)) dX4_readForm_111 ⟨(by decide +kernel), (by decide +kernel)⟩) hS ?_
          clear hP hS; intro r_14 S_14 F_14 γ_14 ψ_14 H locs hw hP hS
          obtain ⟨s1_14, rfl, rfl, (qc_14 : (Int32.toInt (σ 1)) ≤ (Int32.toInt s1_14) ∧ (Int32.toInt s1_14) ≤ (Int32.toInt (σ 1)) + 1)⟩ := hw
          have hLm1_14 := L_m1
          have hL10_14 := L_10
          exact W.iret (v := r_14) hx hb hr (fun t ht hW => ⟨⟨r_14, ((up σ 1 s1_14), φ, γ_14, ψ_14), rfl, ⟨s1_14, rfl, rfl, (show (Int32.toInt (σ 1)) ≤ (Int32.toInt s1_14) ∧ (Int32.toInt s1_14) ≤ (Int32.toInt (σ 1)) + 1 from (by omega)), (show (Int32.toInt r_14) ≠ -1 ∨ (Int32.toInt (σ 6)) = 72 ∨ (Int32.toInt (σ 6)) = 80 ∨ (Int32.toInt (σ 6)) = 83 from (by omega))⟩, (by show va_P _ _ _ _; rw [ht]; exact hP)⟩, hS.F ht⟩) hS.2.2 dX4_readForm_114
      · have kc_9 := bI_eq rfl L_80 c_9
        refine lv_aload_n hx hb dX4_readForm_63 rfl (lv_at hl 0 rfl) ?_
        refine lv_bipush (v := 19) hx hb dX4_readForm_64 (by decide) ?_
        refine lv_aload_n hx hb dX4_readForm_66 rfl (lv_at hl 0 rfl) ?_
        refine cg_5_4 hx hb hts hinX4 hown hK hP (hts (.fieldLink RX4 12 "CensusDesk$Reader" "line" "LCensusDesk$Line;") (List.mem_of_getElem? (i := 1) rfl)) dX4_readForm_67 ?_
        refine cgN_6_2 (v := (σ 2)) hx hb hts hinX3 hown hK hP (va_Nw.use rfl (hN.1 ("CensusDesk$Reader", 124, "CensusDesk$Line", "start", "I") (List.mem_of_getElem? (i := 10) rfl))) rfl dX4_readForm_70 ?_
        refine lv_iconst (v := (-1)) hx hb dX4_readForm_73 (by decide) ?_
        refine c_calli (va_runV (As := [.int 19, .int (σ 2), .int (-1)]) (rest := []) ⟨hx, hb, hml, hown, hts⟩ (c_X4_fail l dC dI a κ σ φ γ_1 ψ_1 g1 g2 19 (σ 2) (-1) (show 0 ≤ (Int32.toInt (σ 1)) ∧ (Int32.toInt (σ 1)) ≤ 2000000000 from (by omega))) (cwV 3 hts gX4_readForm_X4_fail rfl rfl rfl ⟨rfl, hd_X4_fail⟩ ⟨Nat.le_of_ble_eq_true rfl, Nat.le_of_ble_eq_true rfl⟩) (cPreV hP hK hI hN hX hS (va_recv hK hP (ci := 4) (q0 := 5) rfl rfl)) rfl rfl hl.1 rfl (lv_room (Nat.le_of_ble_eq_true rfl)) dX4_readForm_74 ⟨(by decide +kernel), (by decide +kernel)⟩) hS ?_
        clear hP hS; intro r_15 S_15 F_15 γ_15 ψ_15 H locs hw hP hS
        obtain ⟨s1_15, rfl, rfl, (qc_15 : (Int32.toInt (σ 1)) ≤ (Int32.toInt s1_15) ∧ (Int32.toInt s1_15) ≤ (Int32.toInt (σ 1)) + 1)⟩ := hw
        have hLm1_15 := L_m1
        have hL19_15 := L_19
        refine lv_pop hx hb dX4_readForm_77 rfl ?_
        refine lv_bipush (v := (-2)) hx hb dX4_readForm_78 (by decide) ?_
        exact W.iret (v := (-2)) hx hb hr (fun t ht hW => ⟨⟨(-2), ((up σ 1 s1_15), φ, γ_15, ψ_15), rfl, ⟨s1_15, rfl, rfl, (show (Int32.toInt (σ 1)) ≤ (Int32.toInt s1_15) ∧ (Int32.toInt s1_15) ≤ (Int32.toInt (σ 1)) + 1 from (by omega)), (show (Int32.toInt (-2)) ≠ -1 ∨ (Int32.toInt (σ 6)) = 72 ∨ (Int32.toInt (σ 6)) = 80 ∨ (Int32.toInt (σ 6)) = 83 from (by have := L_m2; omega))⟩, (by show va_P _ _ _ _; rw [ht]; exact hP)⟩, hS.F ht⟩) hS.2.2 dX4_readForm_80
  · have kc_2 := bI_ne rfl L_0 c_2
    refine lv_aload_n hx hb dX4_readForm_14 rfl (lv_at hl 0 rfl) ?_
    refine lv_bipush (v := 9) hx hb dX4_readForm_15 (by decide) ?_
    refine lv_aload_n hx hb dX4_readForm_17 rfl (lv_at hl 0 rfl) ?_
    refine cg_5_4 hx hb hts hinX4 hown hK hP (hts (.fieldLink RX4 12 "CensusDesk$Reader" "line" "LCensusDesk$Line;") (List.mem_of_getElem? (i := 1) rfl)) dX4_readForm_18 ?_
    refine cgN_6_2 (v := (σ 2)) hx hb hts hinX3 hown hK hP (va_Nw.use rfl (hN.1 ("CensusDesk$Reader", 124, "CensusDesk$Line", "start", "I") (List.mem_of_getElem? (i := 10) rfl))) rfl dX4_readForm_21 ?_
    refine lv_iconst (v := (-1)) hx hb dX4_readForm_24 (by decide) ?_
    refine c_calli (va_runV (As := [.int 9, .int (σ 2), .int (-1)]) (rest := []) ⟨hx, hb, hml, hown, hts⟩ (c_X4_fail l dC dI a κ σ φ γ_1 ψ_1 g1 g2 9 (σ 2) (-1) (show 0 ≤ (Int32.toInt (σ 1)) ∧ (Int32.toInt (σ 1)) ≤ 2000000000 from (by omega))) (cwV 3 hts gX4_readForm_X4_fail rfl rfl rfl ⟨rfl, hd_X4_fail⟩ ⟨Nat.le_of_ble_eq_true rfl, Nat.le_of_ble_eq_true rfl⟩) (cPreV hP hK hI hN hX hS (va_recv hK hP (ci := 4) (q0 := 5) rfl rfl)) rfl rfl hl.1 rfl (lv_room (Nat.le_of_ble_eq_true rfl)) dX4_readForm_25 ⟨(by decide +kernel), (by decide +kernel)⟩) hS ?_
    clear hP hS; intro r_16 S_16 F_16 γ_16 ψ_16 H locs hw hP hS
    obtain ⟨s1_16, rfl, rfl, (qc_16 : (Int32.toInt (σ 1)) ≤ (Int32.toInt s1_16) ∧ (Int32.toInt s1_16) ≤ (Int32.toInt (σ 1)) + 1)⟩ := hw
    have hLm1_16 := L_m1
    have hL9_16 := L_9
    refine lv_istore_n (lv' := [(1, .int r_16), (0, .ref (a 5))]) hx hb dX4_readForm_28 rfl hl (by decide) rfl ?_
    clear hl; intro ls hl
    refine lv_iload_n hx hb dX4_readForm_29 rfl (lv_at hl 0 rfl) ?_
    refine lv_iconst (v := (-1)) hx hb dX4_readForm_30 (by decide) ?_
    refine lv_icmp_ne (tgt := 39) hx hb dX4_readForm_31 (by decide) (fun c_17 => ?_) (fun c_17 => ?_)
    · have kc_17 := bI_ne rfl L_m1 c_17
      refine lv_iload_n hx hb dX4_readForm_39 rfl (lv_at hl 0 rfl) ?_
      exact W.iret (v := r_16) hx hb hr (fun t ht hW => ⟨⟨r_16, ((up σ 1 s1_16), φ, γ_16, ψ_16), rfl, ⟨s1_16, rfl, rfl, (show (Int32.toInt (σ 1)) ≤ (Int32.toInt s1_16) ∧ (Int32.toInt s1_16) ≤ (Int32.toInt (σ 1)) + 1 from (by omega)), (show (Int32.toInt r_16) ≠ -1 ∨ (Int32.toInt (σ 6)) = 72 ∨ (Int32.toInt (σ 6)) = 80 ∨ (Int32.toInt (σ 6)) = 83 from (by omega))⟩, (by show va_P _ _ _ _; rw [ht]; exact hP)⟩, hS.F ht⟩) hS.2.2 dX4_readForm_40
    · have kc_17 := bI_eq rfl L_m1 c_17
      refine lv_bipush (v := (-2)) hx hb dX4_readForm_34 (by decide) ?_
      refine lv_goto (tgt := 40) hx hb dX4_readForm_36 (by decide) ?_
      exact W.iret (v := (-2)) hx hb hr (fun t ht hW => ⟨⟨(-2), ((up σ 1 s1_16), φ, γ_16, ψ_16), rfl, ⟨s1_16, rfl, rfl, (show (Int32.toInt (σ 1)) ≤ (Int32.toInt s1_16) ∧ (Int32.toInt s1_16) ≤ (Int32.toInt (σ 1)) + 1 from (by omega)), (show (Int32.toInt (-2)) ≠ -1 ∨ (Int32.toInt (σ 6)) = 72 ∨ (Int32.toInt (σ 6)) = 80 ∨ (Int32.toInt (σ 6)) = 83 from (by have := L_m2; omega))⟩, (by show va_P _ _ _ _; rw [ht]; exact hP)⟩, hS.F ht⟩) hS.2.2 dX4_readForm_40
set_option maxHeartbeats 4000000 in
set_option maxRecDepth 100000 in
theorem c_X4_readLine (l : Launch) (dC : Nat → ClassId) (dI : Nat → Nat → Nat) (a : Nat → Nat) (κ : Nat → ClassId) (σ : Nat → Int32) (φ : Nat → Nat → Int32) (γ : Nat → Int32) (ψ : Nat → Nat → Int32) (g1 g2 : Nat)  (p_line_cellStart : PtR 0 4000 (φ 1)) (p_line_cellEnd : PtR 0 4000 (φ 2)) (p_hh_nameLength : PtR 0 30 (φ 3)) (hlen : 0 ≤ (Int32.toInt (σ 0)) ∧ (Int32.toInt (σ 0)) ≤ 4000) (hc : 0 ≤ (Int32.toInt (σ 1)) ∧ (Int32.toInt (σ 1)) ≤ 1000000000) (he : 0 ≤ (Int32.toInt (σ 3)) ∧ (Int32.toInt (σ 3)) ≤ 4000) (hp : 0 ≤ (Int32.toInt (σ 9)) ∧ (Int32.toInt (σ 9)) ≤ 2000 ∧ 0 ≤ (Int32.toInt (σ 10)) ∧ (Int32.toInt (σ 10)) ≤ 30 * (Int32.toInt (σ 9))) : Met l yX4_readLine wsX4_readLine ({ frames := 4, cells := 0, slots := 0, locals := 102 } : Room) (va_Pc [.ref (a 5)] (cPre dC dI a κ (σ, φ, γ, ψ) g1 g2)) (va_Qi (QI (fun r S F => ∃ (s1 : Int32) (s7 : Int32) (f3 : Nat → Int32) (f8 : Nat → Int32), (up (up σ 1 s1) 7 s7) = S ∧ (up (up φ 3 f3) 8 f8) = F ∧ PtR 0 30 f3 ∧ ((Int32.toInt (σ 1)) ≤ (Int32.toInt s1) ∧ (Int32.toInt s1) ≤ (Int32.toInt (σ 1)) + 40000) ∧ ((Int32.toInt r) ≠ -1 ∨ (Int32.toInt (σ 6)) = 72 ∨ (Int32.toInt (σ 6)) = 80 ∨ (Int32.toInt (σ 6)) = 83) ∧ ((Int32.toInt r) ≠ -1 ∨ (Int32.toInt (σ 6)) ≠ 80 ∨ (-1 ≤ Int32.toInt (f8 2) ∧ Int32.toInt (f8 2) ≤ 1)))) (cB dC dI a κ) (cA a)) 0 0 (cA a) := by
  refine Met.ofW (cc := cX4_readLine) (maxL := 5) (ret := (some .int)) (by decide) rfl ?_
  intro p e s m args below meth c s₁ B hml hv
  obtain ⟨rfl, hP, hK, hI, hN, hX⟩ := hv
  have hx := B.exec
  have hb := B.bytes
  have hr := B.returns
  have hts := atoms_spec (ws := wsX4_readLine) B.pre
  have hown : s.vm.findClass RX4 = some m.cls := findClass_of_methodNamed B.named
  have hlocks := B.notSynchronized
  have hS : va_S (cA a) s.heap s.heap [] := va_S.rf
  have hinX4 : ∀ w ∈ wsX40, w ∈ wsX4_readLine := fun _ h => List.mem_cons_of_mem _ (List.mem_append_left _ (List.mem_append_left _ (List.mem_append_left _ (List.mem_append_left _ (List.mem_append_left _ (List.mem_append_left _ (List.mem_append_right _ h)))))))
  have hinX3 : ∀ w ∈ wsX30, w ∈ wsX4_readLine := fun _ h => List.mem_cons_of_mem _ (List.mem_append_left _ (List.mem_append_left _ (List.mem_append_left _ (List.mem_append_left _ (List.mem_append_left _ (List.mem_append_right _ h))))))
  have hinX2 : ∀ w ∈ wsX20, w ∈ wsX4_readLine := fun _ h => List.mem_cons_of_mem _ (List.mem_append_left _ (List.mem_append_left _ (List.mem_append_left _ (List.mem_append_left _ (List.mem_append_right _ h)))))
  have hinX7 : ∀ w ∈ wsX70, w ∈ wsX4_readLine := fun _ h => List.mem_cons_of_mem _ (List.mem_append_left _ (List.mem_append_left _ (List.mem_append_left _ (List.mem_append_right _ h))))
  have hinX5 : ∀ w ∈ wsX50, w ∈ wsX4_readLine := fun _ h => List.mem_cons_of_mem _ (List.mem_append_left _ (List.mem_append_left _ (List.mem_append_right _ h)))
  have hinX1 : ∀ w ∈ wsX10, w ∈ wsX4_readLine := fun _ h => List.mem_cons_of_mem _ (List.mem_append_left _ (List.mem_append_right _ h))
  have hinX6 : ∀ w ∈ wsX60, w ∈ wsX4_readLine := fun _ h => List.mem_cons_of_mem _ (List.mem_append_right _ h)
  have hl := lv_entry ([.ref (a 5)]) (n := 5) (Nat.le_of_ble_eq_true rfl)
  rw [lg_entry_eq]
  generalize (lg_sl ([.ref (a 5)]) ++ List.replicate (5 - (lg_sl ([.ref (a 5)])).length) Slot.unset).toArray = ls at hl ⊢
  have hl : lv_has ls 5 [(0, .ref (a 5))] := hl
  refine k_gen (fun QQ eQ => ?_)
  have J15 : ∀ (n15 : Nat), ∀ (fate : Int32) (due : Int32) (cell : Int32) (s1_c15 : Int32) (s7_c15 : Int32) (f3_c15 : Nat → Int32) (f8_c15 : Nat → Int32) (γ : Nat → Int32) (ψ : Nat → Nat → Int32) (H : Heap) (locs : List Loc) (ls : Array Slot), (PtR 0 30 f3_c15) → (1 ≤ (Int32.toInt cell) ∧ (Int32.toInt cell) ≤ 5 ∧ (Int32.toInt (σ 1)) ≤ (Int32.toInt s1_c15) ∧ (Int32.toInt s1_c15) ≤ (Int32.toInt (σ 1)) + 1 + 8002 * ((Int32.toInt cell) - 1)) → (((Int32.toInt (σ 6)) = 72 ∧ (Int32.toInt due) = 3) ∨ ((Int32.toInt (σ 6)) = 80 ∧ (Int32.toInt due) = 5) ∨ ((Int32.toInt (σ 6)) = 83 ∧ (Int32.toInt due) = 2) ∨ ((Int32.toInt due) = 0 ∧ (Int32.toInt (σ 6)) ≠ 72 ∧ (Int32.toInt (σ 6)) ≠ 80 ∧ (Int32.toInt (σ 6)) ≠ 83)) → ((Int32.toInt fate) ≠ -1 ∨ (Int32.toInt (σ 6)) = 72 ∨ (Int32.toInt (σ 6)) = 80 ∨ (Int32.toInt (σ 6)) = 83) → ((Int32.toInt cell) ≤ 2 ∨ (Int32.toInt (σ 6)) ≠ 80 ∨ (Int32.toInt fate) ≠ -1 ∨ (-1 ≤ Int32.toInt (f8_c15 2) ∧ Int32.toInt (f8_c15 2) ≤ 1)) → ((5 - (Int32.toInt cell)).toNat < n15) → va_P (dC, dI) vwCl (cw a κ ((up (up σ 1 s1_c15) 7 s7_c15), (up (up φ 3 f3_c15) 8 f8_c15), γ, ψ)) H → va_S (cA a) s.heap H locs → lv_has ls 5 [(0, .ref (a 5)), (1, .int fate), (2, .int due), (3, .int cell)] → W p l e ({ frames := 4, cells := 0, slots := 0, locals := 102 } : Room) s m ([.ref (a 5)] : List Value).toArray below meth c H locs 0 0 QQ (F0 m 15 ls []) := by
    intro n15
    induction n15 with
    | zero =>
      intro fate due cell s1_c15 s7_c15 f3_c15 f8_c15 γ ψ H locs ls pf3_c15 v0 vd vs vv hm
      exact absurd hm (Nat.not_lt_zero _)
    | succ n15 ih15 =>
      intro fate due cell s1_c15 s7_c15 f3_c15 f8_c15 γ ψ H locs ls pf3_c15 v0 vd vs vv hm hP hS hl
      refine lv_iload_n hx hb dX4_readLine_15 rfl (lv_at hl 3 rfl) ?_
      refine lv_iload_n hx hb dX4_readLine_16 rfl (lv_at hl 2 rfl) ?_
      refine lv_icmp_ge (tgt := 84) hx hb dX4_readLine_17 (by decide) (fun c_1 => ?_) (fun c_1 => ?_)
      · have kc_1 := bI_le rfl rfl c_1
        refine lv_iload_n hx hb dX4_readLine_84 rfl (lv_at hl 1 rfl) ?_
        refine lv_iconst (v := (-1)) hx hb dX4_readLine_85 (by decide) ?_
        refine lv_icmp_ne (tgt := 111) hx hb dX4_readLine_86 (by decide) (fun c_2 => ?_) (fun c_2 => ?_)
        · have kc_2 := bI_ne rfl L_m1 c_2
          refine lv_iload_n hx hb dX4_readLine_111 rfl (lv_at hl 1 rfl) ?_
          subst eQ
          exact W.iret (v := fate) hx hb hr (fun t ht hW => ⟨⟨fate, ((up (up σ 1 s1_c15) 7 s7_c15), (up (up φ 3 f3_c15) 8 f8_c15), γ, ψ), rfl, ⟨s1_c15, s7_c15, f3_c15, f8_c15, rfl, rfl, pf3_c15, (show (Int32.toInt (σ 1)) ≤ (Int32.toInt s1_c15) ∧ (Int32.toInt s1_c15) ≤ (Int32.toInt (σ 1)) + 40000 from (by omega)), (show (Int32.toInt fate) ≠ -1 ∨ (Int32.toInt (σ 6)) = 72 ∨ (Int32.toInt (σ 6)) = 80 ∨ (Int32.toInt (σ 6)) = 83 from (by omega)), (show (Int32.toInt fate) ≠ -1 ∨ (Int32.toInt (σ 6)) ≠ 80 ∨ (-1 ≤ Int32.toInt (f8_c15 2) ∧ Int32.toInt (f8_c15 2) ≤ 1) from (by omega))⟩, (by show va_P _ _ _ _; rw [ht]; exact hP)⟩, hS.F ht⟩) hS.2.2 dX4_readLine_112
        · have kc_2 := bI_eq rfl L_m1 c_2
          refine lv_aload_n hx hb dX4_readLine_89 rfl (lv_at hl 0 rfl) ?_
          refine c_calli (va_runV (As := []) (rest := []) ⟨hx, hb, hml, hown, hts⟩ (c_X4_isWorkingChild l dC dI a κ (up (up σ 1 s1_c15) 7 s7_c15) (up (up φ 3 f3_c15) 8 f8_c15) γ ψ g1 g2  ) (cwV 0 hts gX4_readLine_X4_isWorkingChild rfl rfl rfl ⟨rfl, hd_X4_isWorkingChild⟩ ⟨Nat.le_of_ble_eq_true rfl, Nat.le_of_ble_eq_true rfl⟩) (cPreV hP hK hI hN hX hS (va_recv hK hP (ci := 4) (q0 := 5) rfl rfl)) rfl rfl hl.1 rfl (lv_room (Nat.le_of_ble_eq_true rfl)) dX4_readLine_90 ⟨(by decide +kernel), (by decide +kernel)⟩) hS ?_
          clear hP hS; intro r_3 S_3 F_3 γ_3 ψ_3 H locs hw hP hS
          obtain ⟨rfl, rfl, -⟩ := hw
          refine lv_if_eq (tgt := 111) hx hb dX4_readLine_93 (by decide) (fun c_4 => ?_) (fun c_4 => ?_)
          · have kc_4 := bI_eq rfl L_0 c_4
            refine lv_iload_n hx hb dX4_readLine_111 rfl (lv_at hl 1 rfl) ?_
            subst eQ
            exact W.iret (v := fate) hx hb hr (fun t ht hW => ⟨⟨fate, ((up (up σ 1 s1_c15) 7 s7_c15), (up (up φ 3 f3_c15) 8 f8_c15), γ_3, ψ_3), rfl, ⟨s1_c15, s7_c15, f3_c15, f8_c15, rfl, rfl, pf3_c15, (show (Int32.toInt (σ 1)) ≤ (Int32.toInt s1_c15) ∧ (Int32.toInt s1_c15) ≤ (Int32.toInt (σ 1)) + 40000 from (by omega)), (show (Int32.toInt fate) ≠ -1 ∨ (Int32.toInt (σ 6)) = 72 ∨ (Int32.toInt (σ 6)) = 80 ∨ (Int32.toInt (σ 6)) = 83 from (by omega)), (show (Int32.toInt fate) ≠ -1 ∨ (Int32.toInt (σ 6)) ≠ 80 ∨ (-1 ≤ Int32.toInt (f8_c15 2) ∧ Int32.toInt (f8_c15 2) ≤ 1) from (by omega))⟩, (by show va_P _ _ _ _; rw [ht]; exact hP)⟩, hS.F ht⟩) hS.2.2 dX4_readLine_112
          · have kc_4 := bI_ne rfl L_0 c_4
            refine lv_aload_n hx hb dX4_readLine_96 rfl (lv_at hl 0 rfl) ?_
            refine lv_bipush (v := 12) hx hb dX4_readLine_97 (by decide) ?_
            refine lv_aload_n hx hb dX4_readLine_99 rfl (lv_at hl 0 rfl) ?_
            refine cg_5_4 hx hb hts hinX4 hown hK hP (hts (.fieldLink RX4 12 "CensusDesk$Reader" "line" "LCensusDesk$Line;") (List.mem_of_getElem? (i := 1) rfl)) dX4_readLine_100 ?_
            refine cgN_6_2 (v := (σ 2)) hx hb hts hinX3 hown hK hP (va_Nw.use rfl (hN.1 ("CensusDesk$Reader", 124, "CensusDesk$Line", "start", "I") (List.mem_of_getElem? (i := 10) rfl))) rfl dX4_readLine_103 ?_
            refine lv_iconst (v := (-1)) hx hb dX4_readLine_106 (by decide) ?_
            refine c_calli (va_runV (As := [.int 12, .int (σ 2), .int (-1)]) (rest := []) ⟨hx, hb, hml, hown, hts⟩ (c_X4_fail l dC dI a κ (up (up σ 1 s1_c15) 7 s7_c15) (up (up φ 3 f3_c15) 8 f8_c15) γ_3 ψ_3 g1 g2 12 (σ 2) (-1) (show 0 ≤ (Int32.toInt s1_c15) ∧ (Int32.toInt s1_c15) ≤ 2000000000 from (by omega))) (cwV 3 hts gX4_readLine_X4_fail rfl rfl rfl ⟨rfl, hd_X4_fail⟩ ⟨Nat.le_of_ble_eq_true rfl, Nat.le_of_ble_eq_true rfl⟩) (cPreV hP hK hI hN hX hS (va_recv hK hP (ci := 4) (q0 := 5) rfl rfl)) rfl rfl hl.1 rfl (lv_room (Nat.le_of_ble_eq_true rfl)) dX4_readLine_107 ⟨(by decide +kernel), (by decide +kernel)⟩) hS ?_
            clear hP hS; intro r_5 S_5 F_5 γ_5 ψ_5 H locs hw hP hS
            obtain ⟨s1_5, rfl, rfl, (qc_5 : (Int32.toInt s1_c15) ≤ (Int32.toInt s1_5) ∧ (Int32.toInt s1_5) ≤ (Int32.toInt s1_c15) + 1)⟩ := hw
            have hLm1_5 := L_m1
            have hL12_5 := L_12
            refine lv_istore_n (lv' := [(1, .int r_5), (0, .ref (a 5)), (2, .int due), (3, .int cell)]) hx hb dX4_readLine_110 rfl hl (by decide) rfl ?_
            clear hl; intro ls hl
            refine lv_iload_n hx hb dX4_readLine_111 rfl (lv_at hl 0 rfl) ?_
            subst eQ
            exact W.iret (v := r_5) hx hb hr (fun t ht hW => ⟨⟨r_5, ((up (up σ 1 s1_5) 7 s7_c15), (up (up φ 3 f3_c15) 8 f8_c15), γ_5, ψ_5), rfl, ⟨s1_5, s7_c15, f3_c15, f8_c15, rfl, rfl, pf3_c15, (show (Int32.toInt (σ 1)) ≤ (Int32.toInt s1_5) ∧ (Int32.toInt s1_5) ≤ (Int32.toInt (σ 1)) + 40000 from (by omega)), (show (Int32.toInt r_5) ≠ -1 ∨ (Int32.toInt (σ 6)) = 72 ∨ (Int32.toInt (σ 6)) = 80 ∨ (Int32.toInt (σ 6)) = 83 from (by omega)), (show (Int32.toInt r_5) ≠ -1 ∨ (Int32.toInt (σ 6)) ≠ 80 ∨ (-1 ≤ Int32.toInt (f8_c15 2) ∧ Int32.toInt (f8_c15 2) ≤ 1) from (by omega))⟩, (by show va_P _ _ _ _; rw [ht]; exact hP)⟩, hS.F ht⟩) hS.2.2 dX4_readLine_112
      · have kc_1 := bI_nle rfl rfl c_1
        refine lv_iload_n hx hb dX4_readLine_20 rfl (lv_at hl 3 rfl) ?_
        refine lv_iconst (v := 5) hx hb dX4_readLine_21 (by decide) ?_
        refine lv_icmp_ge (tgt := 84) hx hb dX4_readLine_22 (by decide) (fun c_6 => ?_) (fun c_6 => ?_)
        · have kc_6 := bI_le L_5 rfl c_6
          refine lv_iload_n hx hb dX4_readLine_84 rfl (lv_at hl 1 rfl) ?_
          refine lv_iconst (v := (-1)) hx hb dX4_readLine_85 (by decide) ?_
          refine lv_icmp_ne (tgt := 111) hx hb dX4_readLine_86 (by decide) (fun c_7 => ?_) (fun c_7 => ?_)
          · have kc_7 := bI_ne rfl L_m1 c_7
            refine lv_iload_n hx hb dX4_readLine_111 rfl (lv_at hl 1 rfl) ?_
            subst eQ
            exact W.iret (v := fate) hx hb hr (fun t ht hW => ⟨⟨fate, ((up (up σ 1 s1_c15) 7 s7_c15), (up (up φ 3 f3_c15) 8 f8_c15), γ, ψ), rfl, ⟨s1_c15, s7_c15, f3_c15, f8_c15, rfl, rfl, pf3_c15, (show (Int32.toInt (σ 1)) ≤ (Int32.toInt s1_c15) ∧ (Int32.toInt s1_c15) ≤ (Int32.toInt (σ 1)) + 40000 from (by omega)), (show (Int32.toInt fate) ≠ -1 ∨ (Int32.toInt (σ 6)) = 72 ∨ (Int32.toInt (σ 6)) = 80 ∨ (Int32.toInt (σ 6)) = 83 from (by omega)), (show (Int32.toInt fate) ≠ -1 ∨ (Int32.toInt (σ 6)) ≠ 80 ∨ (-1 ≤ Int32.toInt (f8_c15 2) ∧ Int32.toInt (f8_c15 2) ≤ 1) from (by omega))⟩, (by show va_P _ _ _ _; rw [ht]; exact hP)⟩, hS.F ht⟩) hS.2.2 dX4_readLine_112
          · have kc_7 := bI_eq rfl L_m1 c_7
            refine lv_aload_n hx hb dX4_readLine_89 rfl (lv_at hl 0 rfl) ?_
            refine c_calli (va_runV (As := []) (rest := []) ⟨hx, hb, hml, hown, hts⟩ (c_X4_isWorkingChild l dC dI a κ (up (up σ 1 s1_c15) 7 s7_c15) (up (up φ 3 f3_c15) 8 f8_c15) γ ψ g1 g2  ) (cwV 0 hts gX4_readLine_X4_isWorkingChild rfl rfl rfl ⟨rfl, hd_X4_isWorkingChild⟩ ⟨Nat.le_of_ble_eq_true rfl, Nat.le_of_ble_eq_true rfl⟩) (cPreV hP hK hI hN hX hS (va_recv hK hP (ci := 4) (q0 := 5) rfl rfl)) rfl rfl hl.1 rfl (lv_room (Nat.le_of_ble_eq_true rfl)) dX4_readLine_90 ⟨(by decide +kernel), (by decide +kernel)⟩) hS ?_
            clear hP hS; intro r_8 S_8 F_8 γ_8 ψ_8 H locs hw hP hS
            obtain ⟨rfl, rfl, -⟩ := hw
            refine lv_if_eq (tgt := 111) hx hb dX4_readLine_93 (by decide) (fun c_9 => ?_) (fun c_9 => ?_)
            · have kc_9 := bI_eq rfl L_0 c_9
              refine lv_iload_n hx hb dX4_readLine_111 rfl (lv_at hl 1 rfl) ?_
              subst eQ
              exact W.iret (v := fate) hx hb hr (fun t ht hW => ⟨⟨fate, ((up (up σ 1 s1_c15) 7 s7_c15), (up (up φ 3 f3_c15) 8 f8_c15), γ_8, ψ_8), rfl, ⟨s1_c15, s7_c15, f3_c15, f8_c15, rfl, rfl, pf3_c15, (show (Int32.toInt (σ 1)) ≤ (Int32.toInt s1_c15) ∧ (Int32.toInt s1_c15) ≤ (Int32.toInt (σ 1)) + 40000 from (by omega)), (show (Int32.toInt fate) ≠ -1 ∨ (Int32.toInt (σ 6)) = 72 ∨ (Int32.toInt (σ 6)) = 80 ∨ (Int32.toInt (σ 6)) = 83 from (by omega)), (show (Int32.toInt fate) ≠ -1 ∨ (Int32.toInt (σ 6)) ≠ 80 ∨ (-1 ≤ Int32.toInt (f8_c15 2) ∧ Int32.toInt (f8_c15 2) ≤ 1) from (by omega))⟩, (by show va_P _ _ _ _; rw [ht]; exact hP)⟩, hS.F ht⟩) hS.2.2 dX4_readLine_112
            · have kc_9 := bI_ne rfl L_0 c_9
              refine lv_aload_n hx hb dX4_readLine_96 rfl (lv_at hl 0 rfl) ?_
              refine lv_bipush (v := 12) hx hb dX4_readLine_97 (by decide) ?_
              refine lv_aload_n hx hb dX4_readLine_99 rfl (lv_at hl 0 rfl) ?_
              refine cg_5_4 hx hb hts hinX4 hown hK hP (hts (.fieldLink RX4 12 "CensusDesk$Reader" "line" "LCensusDesk$Line;") (List.mem_of_getElem? (i := 1) rfl)) dX4_readLine_100 ?_
              refine cgN_6_2 (v := (σ 2)) hx hb hts hinX3 hown hK hP (va_Nw.use rfl (hN.1 ("CensusDesk$Reader", 124, "CensusDesk$Line", "start", "I") (List.mem_of_getElem? (i := 10) rfl))) rfl dX4_readLine_103 ?_
              refine lv_iconst (v := (-1)) hx hb dX4_readLine_106 (by decide) ?_
              refine c_calli (va_runV (As := [.int 12, .int (σ 2), .int (-1)]) (rest := []) ⟨hx, hb, hml, hown, hts⟩ (c_X4_fail l dC dI a κ (up (up σ 1 s1_c15) 7 s7_c15) (up (up φ 3 f3_c15) 8 f8_c15) γ_8 ψ_8 g1 g2 12 (σ 2) (-1) (show 0 ≤ (Int32.toInt s1_c15) ∧ (Int32.toInt s1_c15) ≤ 2000000000 from (by omega))) (cwV 3 hts gX4_readLine_X4_fail rfl rfl rfl ⟨rfl, hd_X4_fail⟩ ⟨Nat.le_of_ble_eq_true rfl, Nat.le_of_ble_eq_true rfl⟩) (cPreV hP hK hI hN hX hS (va_recv hK hP (ci := 4) (q0 := 5) rfl rfl)) rfl rfl hl.1 rfl (lv_room (Nat.le_of_ble_eq_true rfl)) dX4_readLine_107 ⟨(by decide +kernel), (by decide +kernel)⟩) hS ?_
              clear hP hS; intro r_10 S_10 F_10 γ_10 ψ_10 H locs hw hP hS
              obtain ⟨s1_10, rfl, rfl, (qc_10 : (Int32.toInt s1_c15) ≤ (Int32.toInt s1_10) ∧ (Int32.toInt s1_10) ≤ (Int32.toInt s1_c15) + 1)⟩ := hw
              have hLm1_10 := L_m1
              have hL12_10 := L_12
              refine lv_istore_n (lv' := [(1, .int r_10), (0, .ref (a 5)), (2, .int due), (3, .int cell)]) hx hb dX4_readLine_110 rfl hl (by decide) rfl ?_
              clear hl; intro ls hl
              refine lv_iload_n hx hb dX4_readLine_111 rfl (lv_at hl 0 rfl) ?_
              subst eQ
              exact W.iret (v := r_10) hx hb hr (fun t ht hW => ⟨⟨r_10, ((up (up σ 1 s1_10) 7 s7_c15), (up (up φ 3 f3_c15) 8 f8_c15), γ_10, ψ_10), rfl, ⟨s1_10, s7_c15, f3_c15, f8_c15, rfl, rfl, pf3_c15, (show (Int32.toInt (σ 1)) ≤ (Int32.toInt s1_10) ∧ (Int32.toInt s1_10) ≤ (Int32.toInt (σ 1)) + 40000 from (by omega)), (show (Int32.toInt r_10) ≠ -1 ∨ (Int32.toInt (σ 6)) = 72 ∨ (Int32.toInt (σ 6)) = 80 ∨ (Int32.toInt (σ 6)) = 83 from (by omega)), (show (Int32.toInt r_10) ≠ -1 ∨ (Int32.toInt (σ 6)) ≠ 80 ∨ (-1 ≤ Int32.toInt (f8_c15 2) ∧ Int32.toInt (f8_c15 2) ≤ 1) from (by omega))⟩, (by show va_P _ _ _ _; rw [ht]; exact hP)⟩, hS.F ht⟩) hS.2.2 dX4_readLine_112
        · have kc_6 := bI_nle L_5 rfl c_6
          refine lv_iload_n hx hb dX4_readLine_25 rfl (lv_at hl 1 rfl) ?_
          refine lv_iconst (v := (-1)) hx hb dX4_readLine_26 (by decide) ?_
          refine lv_icmp_ne (tgt := 84) hx hb dX4_readLine_27 (by decide) (fun c_11 => ?_) (fun c_11 => ?_)
          · have kc_11 := bI_ne rfl L_m1 c_11
            refine lv_iload_n hx hb dX4_readLine_84 rfl (lv_at hl 1 rfl) ?_
            refine lv_iconst (v := (-1)) hx hb dX4_readLine_85 (by decide) ?_
            refine lv_icmp_ne (tgt := 111) hx hb dX4_readLine_86 (by decide) (fun c_12 => ?_) (fun c_12 => ?_)
            · have kc_12 := bI_ne rfl L_m1 c_12
              refine lv_iload_n hx hb dX4_readLine_111 rfl (lv_at hl 1 rfl) ?_
              subst eQ
              exact W.iret (v := fate) hx hb hr (fun t ht hW => ⟨⟨fate, ((up (up σ 1 s1_c15) 7 s7_c15), (up (up φ 3 f3_c15) 8 f8_c15), γ, ψ), rfl, ⟨s1_c15, s7_c15, f3_c15, f8_c15, rfl, rfl, pf3_c15, (show (Int32.toInt (σ 1)) ≤ (Int32.toInt s1_c15) ∧ (Int32.toInt s1_c15) ≤ (Int32.toInt (σ 1)) + 40000 from (by omega)), (show (Int32.toInt fate) ≠ -1 ∨ (Int32.toInt (σ 6)) = 72 ∨ (Int32.toInt (σ 6)) = 80 ∨ (Int32.toInt (σ 6)) = 83 from (by omega)), (show (Int32.toInt fate) ≠ -1 ∨ (Int32.toInt (σ 6)) ≠ 80 ∨ (-1 ≤ Int32.toInt (f8_c15 2) ∧ Int32.toInt (f8_c15 2) ≤ 1) from (by omega))⟩, (by show va_P _ _ _ _; rw [ht]; exact hP)⟩, hS.F ht⟩) hS.2.2 dX4_readLine_112
            · have kc_12 := bI_eq rfl L_m1 c_12
              refine lv_aload_n hx hb dX4_readLine_89 rfl (lv_at hl 0 rfl) ?_
              refine c_calli (va_runV (As := []) (rest := []) ⟨hx, hb, hml, hown, hts⟩ (c_X4_isWorkingChild l dC dI a κ (up (up σ 1 s1_c15) 7 s7_c15) (up (up φ 3 f3_c15) 8 f8_c15) γ ψ g1 g2  ) (cwV 0 hts gX4_readLine_X4_isWorkingChild rfl rfl rfl ⟨rfl, hd_X4_isWorkingChild⟩ ⟨Nat.le_of_ble_eq_true rfl, Nat.le_of_ble_eq_true rfl⟩) (cPreV hP hK hI hN hX hS (va_recv hK hP (ci := 4) (q0 := 5) rfl rfl)) rfl rfl hl.1 rfl (lv_room (Nat.le_of_ble_eq_true rfl)) dX4_readLine_90 ⟨(by decide +kernel), (by decide +kernel)⟩) hS ?_
              clear hP hS; intro r_13 S_13 F_13 γ_13 ψ_13 H locs hw hP hS
              obtain ⟨rfl, rfl, -⟩ := hw
              refine lv_if_eq (tgt := 111) hx hb dX4_readLine_93 (by decide) (fun c_14 => ?_) (fun c_14 => ?_)
              · have kc_14 := bI_eq rfl L_0 c_14
                refine lv_iload_n hx hb dX4_readLine_111 rfl (lv_at hl 1 rfl) ?_
                subst eQ
                exact W.iret (v := fate) hx hb hr (fun t ht hW => ⟨⟨fate, ((up (up σ 1 s1_c15) 7 s7_c15), (up (up φ 3 f3_c15) 8 f8_c15), γ_13, ψ_13), rfl, ⟨s1_c15, s7_c15, f3_c15, f8_c15, rfl, rfl, pf3_c15, (show (Int32.toInt (σ 1)) ≤ (Int32.toInt s1_c15) ∧ (Int32.toInt s1_c15) ≤ (Int32.toInt (σ 1)) + 40000 from (by omega)), (show (Int32.toInt fate) ≠ -1 ∨ (Int32.toInt (σ 6)) = 72 ∨ (Int32.toInt (σ 6)) = 80 ∨ (Int32.toInt (σ 6)) = 83 from (by omega)), (show (Int32.toInt fate) ≠ -1 ∨ (Int32.toInt (σ 6)) ≠ 80 ∨ (-1 ≤ Int32.toInt (f8_c15 2) ∧ Int32.toInt (f8_c15 2) ≤ 1) from (by omega))⟩, (by show va_P _ _ _ _; rw [ht]; exact hP)⟩, hS.F ht⟩) hS.2.2 dX4_readLine_112
              · have kc_14 := bI_ne rfl L_0 c_14
                refine lv_aload_n hx hb dX4_readLine_96 rfl (lv_at hl 0 rfl) ?_
                refine lv_bipush (v := 12) hx hb dX4_readLine_97 (by decide) ?_
                refine lv_aload_n hx hb dX4_readLine_99 rfl (lv_at hl 0 rfl) ?_
                refine cg_5_4 hx hb hts hinX4 hown hK hP (hts (.fieldLink RX4 12 "CensusDesk$Reader" "line" "LCensusDesk$Line;") (List.mem_of_getElem? (i := 1) rfl)) dX4_readLine_100 ?_
                refine cgN_6_2 (v := (σ 2)) hx hb hts hinX3 hown hK hP (va_Nw.use rfl (hN.1 ("CensusDesk$Reader", 124, "CensusDesk$Line", "start", "I") (List.mem_of_getElem? (i := 10) rfl))) rfl dX4_readLine_103 ?_
                refine lv_iconst (v := (-1)) hx hb dX4_readLine_106 (by decide) ?_
                refine c_calli (va_runV (As := [.int 12, .int (σ 2), .int (-1)]) (rest := []) ⟨hx, hb, hml, hown, hts⟩ (c_X4_fail l dC dI a κ (up (up σ 1 s1_c15) 7 s7_c15) (up (up φ 3 f3_c15) 8 f8_c15) γ_13 ψ_13 g1 g2 12 (σ 2) (-1) (show 0 ≤ (Int32.toInt s1_c15) ∧ (Int32.toInt s1_c15) ≤ 2000000000 from (by omega))) (cwV 3 hts gX4_readLine_X4_fail rfl rfl rfl ⟨rfl, hd_X4_fail⟩ ⟨Nat.le_of_ble_eq_true rfl, Nat.le_of_ble_eq_true rfl⟩) (cPreV hP hK hI hN hX hS (va_recv hK hP (ci := 4) (q0 := 5) rfl rfl)) rfl rfl hl.1 rfl (lv_room (Nat.le_of_ble_eq_true rfl)) dX4_readLine_107 ⟨(by decide +kernel), (by decide +kernel)⟩) hS ?_
                clear hP hS; intro r_15 S_15 F_15 γ_15 ψ_15 H locs hw hP hS
                obtain ⟨s1_15, rfl, rfl, (qc_15 : (Int32.toInt s1_c15) ≤ (Int32.toInt s1_15) ∧ (Int32.toInt s1_15) ≤ (Int32.toInt s1_c15) + 1)⟩ := hw
                have hLm1_15 := L_m1
                have hL12_15 := L_12
                refine lv_istore_n (lv' := [(1, .int r_15), (0, .ref (a 5)), (2, .int due), (3, .int cell)]) hx hb dX4_readLine_110 rfl hl (by decide) rfl ?_
                clear hl; intro ls hl
                refine lv_iload_n hx hb dX4_readLine_111 rfl (lv_at hl 0 rfl) ?_
                subst eQ
                exact W.iret (v := r_15) hx hb hr (fun t ht hW => ⟨⟨r_15, ((up (up σ 1 s1_15) 7 s7_c15), (up (up φ 3 f3_c15) 8 f8_c15), γ_15, ψ_15), rfl, ⟨s1_15, s7_c15, f3_c15, f8_c15, rfl, rfl, pf3_c15, (show (Int32.toInt (σ 1)) ≤ (Int32.toInt s1_15) ∧ (Int32.toInt s1_15) ≤ (Int32.toInt (σ 1)) + 40000 from (by omega)), (show (Int32.toInt r_15) ≠ -1 ∨ (Int32.toInt (σ 6)) = 72 ∨ (Int32.toInt (σ 6)) = 80 ∨ (Int32.toInt (σ 6)) = 83 from (by omega)), (show (Int32.toInt r_15) ≠ -1 ∨ (Int32.toInt (σ 6)) ≠ 80 ∨ (-1 ≤ Int32.toInt (f8_c15 2) ∧ Int32.toInt (f8_c15 2) ≤ 1) from (by omega))⟩, (by show va_P _ _ _ _; rw [ht]; exact hP)⟩, hS.F ht⟩) hS.2.2 dX4_readLine_112
          · have kc_11 := bI_eq rfl L_m1 c_11
            refine lv_aload_n hx hb dX4_readLine_30 rfl (lv_at hl 0 rfl) ?_
            refine cg_5_7 hx hb hts hinX4 hown hK hP (hts (.fieldLink RX4 32 "CensusDesk$Reader" "values" "[I") (List.mem_of_getElem? (i := 2) rfl)) dX4_readLine_31 ?_
            refine lv_iload_n hx hb dX4_readLine_34 rfl (lv_at hl 3 rfl) ?_
            refine lv_iconst (v := (-1)) hx hb dX4_readLine_35 (by decide) ?_
            refine cs_35 (f := f8_c15) hx hb hK hP hI hS (i := cell) (x := (-1)) (vin rfl (by omega)) rfl dX4_readLine_36 ?_
            clear hP hS; intro H locs hP hS
            obtain ⟨f_16, ef_16⟩ : ∃ z : Nat → Int32, z = upd f8_c15 (Int32.toNatClampNeg cell) (-1) := ⟨_, rfl⟩
            rw [← ef_16] at hP
            have hcn := tn_eq (x := cell) (by omega)
            have hva : Int32.toInt cell ≠ 2 → Int32.toInt (f_16 2) = Int32.toInt (f8_c15 2) := fun h => by rw [ef_16, pk_un (by omega)]
            have hvb : Int32.toInt cell = 2 → Int32.toInt (f_16 2) = -1 := fun h => by rw [ef_16, show Int32.toNatClampNeg cell = 2 by omega, pk_us]; exact L_m1
            refine lv_aload_n hx hb dX4_readLine_37 rfl (lv_at hl 0 rfl) ?_
            refine lv_iload_n hx hb dX4_readLine_38 rfl (lv_at hl 3 rfl) ?_
            refine c_calli (va_runV (As := [.int cell]) (rest := []) ⟨hx, hb, hml, hown, hts⟩ (c_X4_readSigns l dC dI a κ (up (up σ 1 s1_c15) 7 s7_c15) (up (up (up φ 3 f3_c15) 8 f8_c15) 8 f_16) γ ψ g1 g2 cell p_line_cellStart p_line_cellEnd (show 0 ≤ (Int32.toInt (σ 0)) ∧ (Int32.toInt (σ 0)) ≤ 4000 from (by omega)) (show 0 ≤ (Int32.toInt s1_c15) ∧ (Int32.toInt s1_c15) ≤ 1500000000 from (by omega)) (show 0 ≤ (Int32.toInt (σ 3)) ∧ (Int32.toInt (σ 3)) ≤ 4000 from (by omega))) (cwV 1 hts gX4_readLine_X4_readSigns rfl rfl rfl ⟨rfl, hd_X4_readSigns⟩ ⟨Nat.le_of_ble_eq_true rfl, Nat.le_of_ble_eq_true rfl⟩) (cPreV hP hK hI hN hX hS (va_recv hK hP (ci := 4) (q0 := 5) rfl rfl)) rfl rfl hl.1 rfl (lv_room (Nat.le_of_ble_eq_true rfl)) dX4_readLine_39 ⟨(by decide +kernel), (by decide +kernel)⟩) hS ?_
            clear hP hS; intro r_17 S_17 F_17 γ_17 ψ_17 H locs hw hP hS
            obtain ⟨s1_17, s7_17, rfl, rfl, (qc_17 : (Int32.toInt s1_c15) ≤ (Int32.toInt s1_17) ∧ (Int32.toInt s1_17) ≤ (Int32.toInt s1_c15) + 8000), (qs_17 : 0 ≤ (Int32.toInt s7_17) ∧ (Int32.toInt s7_17) ≤ 31)⟩ := hw
            refine lv_istore (lv' := [(4, .int r_17), (0, .ref (a 5)), (1, .int fate), (2, .int due), (3, .int cell)]) hx hb dX4_readLine_42 hl (by decide) rfl ?_
            clear hl; intro ls hl
            refine lv_iload hx hb dX4_readLine_44 (lv_at hl 0 rfl) ?_
            refine lv_iconst (v := (-1)) hx hb dX4_readLine_46 (by decide) ?_
            refine lv_icmp_ne (tgt := 57) hx hb dX4_readLine_47 (by decide) (fun c_18 => ?_) (fun c_18 => ?_)
            · have kc_18 := bI_ne rfl L_m1 c_18
              refine lv_iload hx hb dX4_readLine_57 (lv_at hl 0 rfl) ?_
              refine lv_if_lt (tgt := 78) hx hb dX4_readLine_59 (by decide) (fun c_19 => ?_) (fun c_19 => ?_)
              · have kc_19 := bI_lt rfl L_0 c_19
                obtain ⟨i_20, ei_20⟩ : ∃ z : Int32, z = cell + 1 := ⟨_, rfl⟩
                refine lv_iinc (v := i_20) (lv' := [(3, .int i_20), (4, .int r_17), (0, .ref (a 5)), (1, .int fate), (2, .int due)]) hx hb dX4_readLine_78 hl (k := 4) rfl (by rw [ei_20]; rfl) (by decide) rfl ?_
                clear hl; intro ls hl
                have ti_20 : (Int32.toInt i_20) = (Int32.toInt cell) + 1 := aI_add rfl L_1 ei_20 (by have := rng cell; have := rng due; omega)
                refine lv_goto (tgt := 15) hx hb dX4_readLine_81 (by decide) ?_
                exact ih15 fate due i_20 s1_17 s7_17 f3_c15 f_16 γ_17 ψ_17 _ _ _ pf3_c15 (show 1 ≤ (Int32.toInt i_20) ∧ (Int32.toInt i_20) ≤ 5 ∧ (Int32.toInt (σ 1)) ≤ (Int32.toInt s1_17) ∧ (Int32.toInt s1_17) ≤ (Int32.toInt (σ 1)) + 1 + 8002 * ((Int32.toInt i_20) - 1) from (by omega)) (show ((Int32.toInt (σ 6)) = 72 ∧ (Int32.toInt due) = 3) ∨ ((Int32.toInt (σ 6)) = 80 ∧ (Int32.toInt due) = 5) ∨ ((Int32.toInt (σ 6)) = 83 ∧ (Int32.toInt due) = 2) ∨ ((Int32.toInt due) = 0 ∧ (Int32.toInt (σ 6)) ≠ 72 ∧ (Int32.toInt (σ 6)) ≠ 80 ∧ (Int32.toInt (σ 6)) ≠ 83) from (by omega)) (show (Int32.toInt fate) ≠ -1 ∨ (Int32.toInt (σ 6)) = 72 ∨ (Int32.toInt (σ 6)) = 80 ∨ (Int32.toInt (σ 6)) = 83 from (by omega)) (show (Int32.toInt i_20) ≤ 2 ∨ (Int32.toInt (σ 6)) ≠ 80 ∨ (Int32.toInt fate) ≠ -1 ∨ (-1 ≤ Int32.toInt (f_16 2) ∧ Int32.toInt (f_16 2) ≤ 1) from (by omega)) (by omega) hP hS (lv_sub hl [2, 3, 4, 0] rfl)
              · have kc_19 := bI_nlt rfl L_0 c_19
                refine lv_aload_n hx hb dX4_readLine_62 rfl (lv_at hl 1 rfl) ?_
                refine lv_bipush (v := 13) hx hb dX4_readLine_63 (by decide) ?_
                refine lv_aload_n hx hb dX4_readLine_65 rfl (lv_at hl 1 rfl) ?_
                refine cg_5_4 hx hb hts hinX4 hown hK hP (hts (.fieldLink RX4 12 "CensusDesk$Reader" "line" "LCensusDesk$Line;") (List.mem_of_getElem? (i := 1) rfl)) dX4_readLine_66 ?_
                refine cgN_6_2 (v := (σ 2)) hx hb hts hinX3 hown hK hP (va_Nw.use rfl (hN.1 ("CensusDesk$Reader", 124, "CensusDesk$Line", "start", "I") (List.mem_of_getElem? (i := 10) rfl))) rfl dX4_readLine_69 ?_
                refine lv_iload hx hb dX4_readLine_72 (lv_at hl 0 rfl) ?_
                refine c_calli (va_runV (As := [.int 13, .int (σ 2), .int r_17]) (rest := []) ⟨hx, hb, hml, hown, hts⟩ (c_X4_fail l dC dI a κ (up (up (up (up σ 1 s1_c15) 7 s7_c15) 1 s1_17) 7 s7_17) (up (up (up φ 3 f3_c15) 8 f8_c15) 8 f_16) γ_17 ψ_17 g1 g2 13 (σ 2) r_17 (show 0 ≤ (Int32.toInt s1_17) ∧ (Int32.toInt s1_17) ≤ 2000000000 from (by omega))) (cwV 3 hts gX4_readLine_X4_fail rfl rfl rfl ⟨rfl, hd_X4_fail⟩ ⟨Nat.le_of_ble_eq_true rfl, Nat.le_of_ble_eq_true rfl⟩) (cPreV hP hK hI hN hX hS (va_recv hK hP (ci := 4) (q0 := 5) rfl rfl)) rfl rfl hl.1 rfl (lv_room (Nat.le_of_ble_eq_true rfl)) dX4_readLine_74 ⟨(by decide +kernel), (by decide +kernel)⟩) hS ?_
                clear hP hS; intro r_21 S_21 F_21 γ_21 ψ_21 H locs hw hP hS
                obtain ⟨s1_21, rfl, rfl, (qc_21 : (Int32.toInt s1_17) ≤ (Int32.toInt s1_21) ∧ (Int32.toInt s1_21) ≤ (Int32.toInt s1_17) + 1)⟩ := hw
                have hL13_21 := L_13
                refine lv_istore_n (lv' := [(1, .int r_21), (4, .int r_17), (0, .ref (a 5)), (2, .int due), (3, .int cell)]) hx hb dX4_readLine_77 rfl hl (by decide) rfl ?_
                clear hl; intro ls hl
                obtain ⟨i_22, ei_22⟩ : ∃ z : Int32, z = cell + 1 := ⟨_, rfl⟩
                refine lv_iinc (v := i_22) (lv' := [(3, .int i_22), (1, .int r_21), (4, .int r_17), (0, .ref (a 5)), (2, .int due)]) hx hb dX4_readLine_78 hl (k := 4) rfl (by rw [ei_22]; rfl) (by decide) rfl ?_
                clear hl; intro ls hl
                have ti_22 : (Int32.toInt i_22) = (Int32.toInt cell) + 1 := aI_add rfl L_1 ei_22 (by have := rng cell; have := rng due; omega)
                refine lv_goto (tgt := 15) hx hb dX4_readLine_81 (by decide) ?_
                exact ih15 r_21 due i_22 s1_21 s7_17 f3_c15 f_16 γ_21 ψ_21 _ _ _ pf3_c15 (show 1 ≤ (Int32.toInt i_22) ∧ (Int32.toInt i_22) ≤ 5 ∧ (Int32.toInt (σ 1)) ≤ (Int32.toInt s1_21) ∧ (Int32.toInt s1_21) ≤ (Int32.toInt (σ 1)) + 1 + 8002 * ((Int32.toInt i_22) - 1) from (by omega)) (show ((Int32.toInt (σ 6)) = 72 ∧ (Int32.toInt due) = 3) ∨ ((Int32.toInt (σ 6)) = 80 ∧ (Int32.toInt due) = 5) ∨ ((Int32.toInt (σ 6)) = 83 ∧ (Int32.toInt due) = 2) ∨ ((Int32.toInt due) = 0 ∧ (Int32.toInt (σ 6)) ≠ 72 ∧ (Int32.toInt (σ 6)) ≠ 80 ∧ (Int32.toInt (σ 6)) ≠ 83) from (by omega)) (show (Int32.toInt r_21) ≠ -1 ∨ (Int32.toInt (σ 6)) = 72 ∨ (Int32.toInt (σ 6)) = 80 ∨ (Int32.toInt (σ 6)) = 83 from (by omega)) (show (Int32.toInt i_22) ≤ 2 ∨ (Int32.toInt (σ 6)) ≠ 80 ∨ (Int32.toInt r_21) ≠ -1 ∨ (-1 ≤ Int32.toInt (f_16 2) ∧ Int32.toInt (f_16 2) ≤ 1) from (by omega)) (by omega) hP hS (lv_sub hl [3, 1, 4, 0] rfl)
            · have kc_18 := bI_eq rfl L_m1 c_18
              refine lv_aload_n hx hb dX4_readLine_50 rfl (lv_at hl 1 rfl) ?_
              refine lv_iload_n hx hb dX4_readLine_51 rfl (lv_at hl 4 rfl) ?_
              refine c_calli (va_runV (As := [.int cell]) (rest := []) ⟨hx, hb, hml, hown, hts⟩ (c_X4_readValue l dC dI a κ (up (up (up (up σ 1 s1_c15) 7 s7_c15) 1 s1_17) 7 s7_17) (up (up (up φ 3 f3_c15) 8 f8_c15) 8 f_16) γ_17 ψ_17 g1 g2 cell p_line_cellStart p_line_cellEnd pf3_c15 (show 0 ≤ (Int32.toInt s1_17) ∧ (Int32.toInt s1_17) ≤ 2000000000 from (by omega)) (show 0 ≤ (Int32.toInt (σ 3)) ∧ (Int32.toInt (σ 3)) ≤ 4000 from (by omega)) (show 0 ≤ (Int32.toInt (σ 9)) ∧ (Int32.toInt (σ 9)) ≤ 2000 ∧ 0 ≤ (Int32.toInt (σ 10)) ∧ (Int32.toInt (σ 10)) ≤ 30 * (Int32.toInt (σ 9)) from (by omega))) (cwV 1 hts gX4_readLine_X4_readValue rfl rfl rfl ⟨rfl, hd_X4_readValue⟩ ⟨Nat.le_of_ble_eq_true rfl, Nat.le_of_ble_eq_true rfl⟩) (cPreV hP hK hI hN hX hS (va_recv hK hP (ci := 4) (q0 := 5) rfl rfl)) rfl rfl hl.1 rfl (lv_room (Nat.le_of_ble_eq_true rfl)) dX4_readLine_52 ⟨(by decide +kernel), (by decide +kernel)⟩) hS ?_
              clear hP hS; intro r_23 S_23 F_23 γ_23 ψ_23 H locs hw hP hS
              obtain ⟨s1_23, f3_23, f8_23, rfl, rfl, pf3_23, (qc_23 : (Int32.toInt s1_17) ≤ (Int32.toInt s1_23) ∧ (Int32.toInt s1_23) ≤ (Int32.toInt s1_17) + 1), (qa_23 : ((Int32.toInt cell) = 2 ∧ (Int32.toInt (σ 6)) = 80 ∧ -1 ≤ Int32.toInt (f_16 2) ∧ Int32.toInt (f_16 2) ≤ 1) → (-1 ≤ Int32.toInt (f8_23 2) ∧ Int32.toInt (f8_23 2) ≤ 1)), (qb_23 : (Int32.toInt cell) ≠ 2 → Int32.toInt (f8_23 2) = Int32.toInt (f_16 2))⟩ := hw
              refine lv_istore (lv' := [(4, .int r_23), (0, .ref (a 5)), (1, .int fate), (2, .int due), (3, .int cell)]) hx hb dX4_readLine_55 hl (by decide) rfl ?_
              clear hl; intro ls hl
              refine lv_iload hx hb dX4_readLine_57 (lv_at hl 0 rfl) ?_
              refine lv_if_lt (tgt := 78) hx hb dX4_readLine_59 (by decide) (fun c_24 => ?_) (fun c_24 => ?_)
              · have kc_24 := bI_lt rfl L_0 c_24
                obtain ⟨i_25, ei_25⟩ : ∃ z : Int32, z = cell + 1 := ⟨_, rfl⟩
                refine lv_iinc (v := i_25) (lv' := [(3, .int i_25), (4, .int r_23), (0, .ref (a 5)), (1, .int fate), (2, .int due)]) hx hb dX4_readLine_78 hl (k := 4) rfl (by rw [ei_25]; rfl) (by decide) rfl ?_
                clear hl; intro ls hl
                have ti_25 : (Int32.toInt i_25) = (Int32.toInt cell) + 1 := aI_add rfl L_1 ei_25 (by have := rng cell; have := rng due; omega)
                refine lv_goto (tgt := 15) hx hb dX4_readLine_81 (by decide) ?_
                exact ih15 fate due i_25 s1_23 s7_17 f3_23 f8_23 γ_23 ψ_23 _ _ _ pf3_23 (show 1 ≤ (Int32.toInt i_25) ∧ (Int32.toInt i_25) ≤ 5 ∧ (Int32.toInt (σ 1)) ≤ (Int32.toInt s1_23) ∧ (Int32.toInt s1_23) ≤ (Int32.toInt (σ 1)) + 1 + 8002 * ((Int32.toInt i_25) - 1) from (by omega)) (show ((Int32.toInt (σ 6)) = 72 ∧ (Int32.toInt due) = 3) ∨ ((Int32.toInt (σ 6)) = 80 ∧ (Int32.toInt due) = 5) ∨ ((Int32.toInt (σ 6)) = 83 ∧ (Int32.toInt due) = 2) ∨ ((Int32.toInt due) = 0 ∧ (Int32.toInt (σ 6)) ≠ 72 ∧ (Int32.toInt (σ 6)) ≠ 80 ∧ (Int32.toInt (σ 6)) ≠ 83) from (by omega)) (show (Int32.toInt fate) ≠ -1 ∨ (Int32.toInt (σ 6)) = 72 ∨ (Int32.toInt (σ 6)) = 80 ∨ (Int32.toInt (σ 6)) = 83 from (by omega)) (show (Int32.toInt i_25) ≤ 2 ∨ (Int32.toInt (σ 6)) ≠ 80 ∨ (Int32.toInt fate) ≠ -1 ∨ (-1 ≤ Int32.toInt (f8_23 2) ∧ Int32.toInt (f8_23 2) ≤ 1) from (by omega)) (by omega) hP hS (lv_sub hl [2, 3, 4, 0] rfl)
              · have kc_24 := bI_nlt rfl L_0 c_24
                refine lv_aload_n hx hb dX4_readLine_62 rfl (lv_at hl 1 rfl) ?_
                refine lv_bipush (v := 13) hx hb dX4_readLine_63 (by decide) ?_
                refine lv_aload_n hx hb dX4_readLine_65 rfl (lv_at hl 1 rfl) ?_
                refine cg_5_4 hx hb hts hinX4 hown hK hP (hts (.fieldLink RX4 12 "CensusDesk$Reader" "line" "LCensusDesk$Line;") (List.mem_of_getElem? (i := 1) rfl)) dX4_readLine_66 ?_
                refine cgN_6_2 (v := (σ 2)) hx hb hts hinX3 hown hK hP (va_Nw.use rfl (hN.1 ("CensusDesk$Reader", 124, "CensusDesk$Line", "start", "I") (List.mem_of_getElem? (i := 10) rfl))) rfl dX4_readLine_69 ?_
                refine lv_iload hx hb dX4_readLine_72 (lv_at hl 0 rfl) ?_
                refine c_calli (va_runV (As := [.int 13, .int (σ 2), .int r_23]) (rest := []) ⟨hx, hb, hml, hown, hts⟩ (c_X4_fail l dC dI a κ (up (up (up (up (up σ 1 s1_c15) 7 s7_c15) 1 s1_17) 7 s7_17) 1 s1_23) (up (up (up (up (up φ 3 f3_c15) 8 f8_c15) 8 f_16) 3 f3_23) 8 f8_23) γ_23 ψ_23 g1 g2 13 (σ 2) r_23 (show 0 ≤ (Int32.toInt s1_23) ∧ (Int32.toInt s1_23) ≤ 2000000000 from (by omega))) (cwV 3 hts gX4_readLine_X4_fail rfl rfl rfl ⟨rfl, hd_X4_fail⟩ ⟨Nat.le_of_ble_eq_true rfl, Nat.le_of_ble_eq_true rfl⟩) (cPreV hP hK hI hN hX hS (va_recv hK hP (ci := 4) (q0 := 5) rfl rfl)) rfl rfl hl.1 rfl (lv_room (Nat.le_of_ble_eq_true rfl)) dX4_readLine_74 ⟨(by decide +kernel), (by decide +kernel)⟩) hS ?_
                clear hP hS; intro r_26 S_26 F_26 γ_26 ψ_26 H locs hw hP hS
                obtain ⟨s1_26, rfl, rfl, (qc_26 : (Int32.toInt s1_23) ≤ (Int32.toInt s1_26) ∧ (Int32.toInt s1_26) ≤ (Int32.toInt s1_23) + 1)⟩ := hw
                have hL13_26 := L_13
                refine lv_istore_n (lv' := [(1, .int r_26), (4, .int r_23), (0, .ref (a 5)), (2, .int due), (3, .int cell)]) hx hb dX4_readLine_77 rfl hl (by decide) rfl ?_
                clear hl; intro ls hl
                obtain ⟨i_27, ei_27⟩ : ∃ z : Int32, z = cell + 1 := ⟨_, rfl⟩
                refine lv_iinc (v := i_27) (lv' := [(3, .int i_27), (1, .int r_26), (4, .int r_23), (0, .ref (a 5)), (2, .int due)]) hx hb dX4_readLine_78 hl (k := 4) rfl (by rw [ei_27]; rfl) (by decide) rfl ?_
                clear hl; intro ls hl
                have ti_27 : (Int32.toInt i_27) = (Int32.toInt cell) + 1 := aI_add rfl L_1 ei_27 (by have := rng cell; have := rng due; omega)
                refine lv_goto (tgt := 15) hx hb dX4_readLine_81 (by decide) ?_
                exact ih15 r_26 due i_27 s1_26 s7_17 f3_23 f8_23 γ_26 ψ_26 _ _ _ pf3_23 (show 1 ≤ (Int32.toInt i_27) ∧ (Int32.toInt i_27) ≤ 5 ∧ (Int32.toInt (σ 1)) ≤ (Int32.toInt s1_26) ∧ (Int32.toInt s1_26) ≤ (Int32.toInt (σ 1)) + 1 + 8002 * ((Int32.toInt i_27) - 1) from (by omega)) (show ((Int32.toInt (σ 6)) = 72 ∧ (Int32.toInt due) = 3) ∨ ((Int32.toInt (σ 6)) = 80 ∧ (Int32.toInt due) = 5) ∨ ((Int32.toInt (σ 6)) = 83 ∧ (Int32.toInt due) = 2) ∨ ((Int32.toInt due) = 0 ∧ (Int32.toInt (σ 6)) ≠ 72 ∧ (Int32.toInt (σ 6)) ≠ 80 ∧ (Int32.toInt (σ 6)) ≠ 83) from (by omega)) (show (Int32.toInt r_26) ≠ -1 ∨ (Int32.toInt (σ 6)) = 72 ∨ (Int32.toInt (σ 6)) = 80 ∨ (Int32.toInt (σ 6)) = 83 from (by omega)) (show (Int32.toInt i_27) ≤ 2 ∨ (Int32.toInt (σ 6)) ≠ 80 ∨ (Int32.toInt r_26) ≠ -1 ∨ (-1 ≤ Int32.toInt (f8_23 2) ∧ Int32.toInt (f8_23 2) ≤ 1) from (by omega)) (by omega) hP hS (lv_sub hl [3, 1, 4, 0] rfl)
  refine lv_aload_n hx hb dX4_readLine_0 rfl (lv_at hl 0 rfl) ?_
  refine c_calli (va_runV (As := []) (rest := []) ⟨hx, hb, hml, hown, hts⟩ (c_X4_readForm l dC dI a κ σ φ γ ψ g1 g2  (show 0 ≤ (Int32.toInt (σ 0)) ∧ (Int32.toInt (σ 0)) ≤ 4000 from (by omega)) (show 0 ≤ (Int32.toInt (σ 1)) ∧ (Int32.toInt (σ 1)) ≤ 2000000000 from (by omega))) (cwV 0 hts gX4_readLine_X4_readForm rfl rfl rfl ⟨rfl, hd_X4_readForm⟩ ⟨Nat.le_of_ble_eq_true rfl, Nat.le_of_ble_eq_true rfl⟩) (cPreV hP hK hI hN hX hS (va_recv hK hP (ci := 4) (q0 := 5) rfl rfl)) rfl rfl hl.1 rfl (lv_room (Nat.le_of_ble_eq_true rfl)) dX4_readLine_1 ⟨(by decide +kernel), (by decide +kernel)⟩) hS ?_
  clear hP hS; intro r_28 S_28 F_28 γ_28 ψ_28 H locs hw hP hS
  obtain ⟨s1_28, rfl, rfl, (qc_28 : (Int32.toInt (σ 1)) ≤ (Int32.toInt s1_28) ∧ (Int32.toInt s1_28) ≤ (Int32.toInt (σ 1)) + 1), (qs_28 : (Int32.toInt r_28) ≠ -1 ∨ (Int32.toInt (σ 6)) = 72 ∨ (Int32.toInt (σ 6)) = 80 ∨ (Int32.toInt (σ 6)) = 83)⟩ := hw
  refine lv_istore_n (lv' := [(1, .int r_28), (0, .ref (a 5))]) hx hb dX4_readLine_4 rfl hl (by decide) rfl ?_
  clear hl; intro ls hl
  refine lv_aload_n hx hb dX4_readLine_5 rfl (lv_at hl 1 rfl) ?_
  refine cg_5_4 hx hb hts hinX4 hown hK hP (hts (.fieldLink RX4 12 "CensusDesk$Reader" "line" "LCensusDesk$Line;") (List.mem_of_getElem? (i := 1) rfl)) dX4_readLine_6 ?_
  refine c_calli (va_runV (As := []) (rest := []) ⟨hx, hb, hml, hown, hts⟩ (c_X3_cellsDue l dC dI a κ (up σ 1 s1_28) φ γ_28 ψ_28 g1 g2  ) (cwV 0 hts gX4_readLine_X3_cellsDue rfl rfl rfl ⟨rfl, hd_X3_cellsDue⟩ ⟨Nat.le_of_ble_eq_true rfl, Nat.le_of_ble_eq_true rfl⟩) (cPreV hP hK hI hN hX hS (va_recv hK hP (ci := 3) (q0 := 6) rfl rfl)) rfl rfl hl.1 rfl (lv_room (Nat.le_of_ble_eq_true rfl)) dX4_readLine_9 ⟨(by decide +kernel), (by decide +kernel)⟩) hS ?_
  clear hP hS; intro r_29 S_29 F_29 γ_29 ψ_29 H locs hw hP hS
  obtain ⟨rfl, rfl, (qd_29 : ((Int32.toInt (σ 6)) = 72 ∧ (Int32.toInt r_29) = 3) ∨ ((Int32.toInt (σ 6)) = 80 ∧ (Int32.toInt r_29) = 5) ∨ ((Int32.toInt (σ 6)) = 83 ∧ (Int32.toInt r_29) = 2) ∨ ((Int32.toInt r_29) = 0 ∧ (Int32.toInt (σ 6)) ≠ 72 ∧ (Int32.toInt (σ 6)) ≠ 80 ∧ (Int32.toInt (σ 6)) ≠ 83))⟩ := hw
  refine lv_istore_n (lv' := [(2, .int r_29), (1, .int r_28), (0, .ref (a 5))]) hx hb dX4_readLine_12 rfl hl (by decide) rfl ?_
  clear hl; intro ls hl
  refine lv_iconst (v := 1) hx hb dX4_readLine_13 (by decide) ?_
  refine lv_istore_n (lv' := [(3, .int 1), (2, .int r_29), (1, .int r_28), (0, .ref (a 5))]) hx hb dX4_readLine_14 rfl hl (by decide) rfl ?_
  clear hl; intro ls hl
  exact J15 (_ + 1) r_28 r_29 1 s1_28 (σ 7) (φ 3) (φ 8) γ_29 ψ_29 _ _ _ p_hh_nameLength (show 1 ≤ (Int32.toInt 1) ∧ (Int32.toInt 1) ≤ 5 ∧ (Int32.toInt (σ 1)) ≤ (Int32.toInt s1_28) ∧ (Int32.toInt s1_28) ≤ (Int32.toInt (σ 1)) + 1 + 8002 * ((Int32.toInt 1) - 1) from (by have := L_1; omega)) (show ((Int32.toInt (σ 6)) = 72 ∧ (Int32.toInt r_29) = 3) ∨ ((Int32.toInt (σ 6)) = 80 ∧ (Int32.toInt r_29) = 5) ∨ ((Int32.toInt (σ 6)) = 83 ∧ (Int32.toInt r_29) = 2) ∨ ((Int32.toInt r_29) = 0 ∧ (Int32.toInt (σ 6)) ≠ 72 ∧ (Int32.toInt (σ 6)) ≠ 80 ∧ (Int32.toInt (σ 6)) ≠ 83) from (by omega)) (show (Int32.toInt r_28) ≠ -1 ∨ (Int32.toInt (σ 6)) = 72 ∨ (Int32.toInt (σ 6)) = 80 ∨ (Int32.toInt (σ 6)) = 83 from (by omega)) (show (Int32.toInt 1) ≤ 2 ∨ (Int32.toInt (σ 6)) ≠ 80 ∨ (Int32.toInt r_28) ≠ -1 ∨ (-1 ≤ Int32.toInt ((φ 8) 2) ∧ Int32.toInt ((φ 8) 2) ≤ 1) from (by have := L_1; omega)) (Nat.lt_succ_self _) hP hS (lv_sub hl [3, 2, 1, 0] rfl)
set_option maxHeartbeats 4000000 in
set_option maxRecDepth 100000 in
theorem c_X4_settleOutside (l : Launch) (dC : Nat → ClassId) (dI : Nat → Nat → Nat) (a : Nat → Nat) (κ : Nat → ClassId) (σ : Nat → Int32) (φ : Nat → Nat → Int32) (γ : Nat → Int32) (ψ : Nat → Nat → Int32) (g1 g2 : Nat) (fate : Int32) (hc : 0 ≤ (Int32.toInt (σ 1)) ∧ (Int32.toInt (σ 1)) ≤ 1000000000) : Met l yX4_settleOutside wsX4_settleOutside ({ frames := 2, cells := 0, slots := 0, locals := 53 } : Room) (va_Pc [.ref (a 5), .int fate] (cPre dC dI a κ (σ, φ, γ, ψ) g1 g2)) (va_Qv (QV (fun S F => ∃ (s1 : Int32), (up σ 1 s1) = S ∧ φ = F ∧ ((Int32.toInt (σ 1)) ≤ (Int32.toInt s1) ∧ (Int32.toInt s1) ≤ (Int32.toInt (σ 1)) + 2))) (cB dC dI a κ) (cA a)) 0 0 (cA a) := by
  refine Met.ofW (cc := cX4_settleOutside) (maxL := 2) (ret := none) (by decide) rfl ?_
  intro p e s m args below meth c s₁ B hml hv
  obtain ⟨rfl, hP, hK, hI, hN, hX⟩ := hv
  have hx := B.exec
  have hb := B.bytes
  have hr := B.returns
  have hts := atoms_spec (ws := wsX4_settleOutside) B.pre
  have hown : s.vm.findClass RX4 = some m.cls := findClass_of_methodNamed B.named
  have hlocks := B.notSynchronized
  have hS : va_S (cA a) s.heap s.heap [] := va_S.rf
  have hinX4 : ∀ w ∈ wsX40, w ∈ wsX4_settleOutside := fun _ h => List.mem_cons_of_mem _ (List.mem_append_left _ (List.mem_append_left _ (List.mem_append_left _ (List.mem_append_left _ (List.mem_append_right _ h)))))
  have hinX3 : ∀ w ∈ wsX30, w ∈ wsX4_settleOutside := fun _ h => List.mem_cons_of_mem _ (List.mem_append_left _ (List.mem_append_left _ (List.mem_append_left _ (List.mem_append_right _ h))))
  have hinX2 : ∀ w ∈ wsX20, w ∈ wsX4_settleOutside := fun _ h => List.mem_cons_of_mem _ (List.mem_append_left _ (List.mem_append_left _ (List.mem_append_right _ h)))
  have hinX5 : ∀ w ∈ wsX50, w ∈ wsX4_settleOutside := fun _ h => List.mem_cons_of_mem _ (List.mem_append_left _ (List.mem_append_right _ h))
  have hinX1 : ∀ w ∈ wsX10, w ∈ wsX4_settleOutside := fun _ h => List.mem_cons_of_mem _ (List.mem_append_right _ h)
  have hl := lv_entry ([.ref (a 5), .int fate]) (n := 2) (Nat.le_of_ble_eq_true rfl)
  rw [lg_entry_eq]
  generalize (lg_sl ([.ref (a 5), .int fate]) ++ List.replicate (2 - (lg_sl ([.ref (a 5), .int fate])).length) Slot.unset).toArray = ls at hl ⊢
  have hl : lv_has ls 2 [(0, .ref (a 5)), (1, .int fate)] := hl
  refine lv_iload_n hx hb dX4_settleOutside_0 rfl (lv_at hl 1 rfl) ?_
  refine lv_if_lt (tgt := 19) hx hb dX4_settleOutside_1 (by decide) (fun c_1 => ?_) (fun c_1 => ?_)
  · have kc_1 := bI_lt rfl L_0 c_1
    refine lv_iload_n hx hb dX4_settleOutside_19 rfl (lv_at hl 1 rfl) ?_
    refine lv_iconst (v := (-1)) hx hb dX4_settleOutside_20 (by decide) ?_
    refine lv_icmp_eq (tgt := 25) hx hb dX4_settleOutside_21 (by decide) (fun c_2 => ?_) (fun c_2 => ?_)
    · have kc_2 := bI_eq rfl L_m1 c_2
      refine lv_aload_n hx hb dX4_settleOutside_25 rfl (lv_at hl 0 rfl) ?_
      refine cg_5_7 hx hb hts hinX4 hown hK hP (hts (.fieldLink RX4 32 "CensusDesk$Reader" "values" "[I") (List.mem_of_getElem? (i := 2) rfl)) dX4_settleOutside_26 ?_
      refine lv_iconst (v := 1) hx hb dX4_settleOutside_29 (by decide) ?_
      refine cl_35 (f := (φ 8)) hx hb hK hP (i := 1) (vp_in_nI (n := 1) (by decide) (by decide)) rfl dX4_settleOutside_30 ?_
      refine lv_topi (fun z_3 ez_3 => ?_)
      have tz_3 : (Int32.toInt z_3) = Int32.toInt ((φ 8) 1) := congrArg Int32.toInt ez_3
      refine lv_iconst (v := (-1)) hx hb dX4_settleOutside_31 (by decide) ?_
      refine lv_icmp_eq (tgt := 63) hx hb dX4_settleOutside_32 (by decide) (fun c_4 => ?_) (fun c_4 => ?_)
      · have kc_4 := bI_eq rfl L_m1 c_4
        exact W.vret hx hb hr (fun t ht hW => ⟨⟨((up σ 1 (σ 1)), φ, γ, ψ), rfl, ⟨(σ 1), rfl, rfl, (show (Int32.toInt (σ 1)) ≤ (Int32.toInt (σ 1)) ∧ (Int32.toInt (σ 1)) ≤ (Int32.toInt (σ 1)) + 2 from (by omega))⟩, (by show va_P _ _ _ _; rw [ht]; exact hP)⟩, hS.F ht⟩) hS.2.2 dX4_settleOutside_63
      · have kc_4 := bI_ne rfl L_m1 c_4
        refine lv_aload_n hx hb dX4_settleOutside_35 rfl (lv_at hl 0 rfl) ?_
        refine cg_5_7 hx hb hts hinX4 hown hK hP (hts (.fieldLink RX4 32 "CensusDesk$Reader" "values" "[I") (List.mem_of_getElem? (i := 2) rfl)) dX4_settleOutside_36 ?_
        refine lv_iconst (v := 1) hx hb dX4_settleOutside_39 (by decide) ?_
        refine cl_35 (f := (φ 8)) hx hb hK hP (i := 1) (vp_in_nI (n := 1) (by decide) (by decide)) rfl dX4_settleOutside_40 ?_
        refine lv_topi (fun z_5 ez_5 => ?_)
        have tz_5 : (Int32.toInt z_5) = Int32.toInt ((φ 8) 1) := congrArg Int32.toInt ez_5
        refine lv_aload_n hx hb dX4_settleOutside_41 rfl (lv_at hl 0 rfl) ?_
        refine cg_5_9 (v := (σ 16)) hx hb hts hinX4 hown hK hP (hts (.fieldLink RX4 56 "CensusDesk$Reader" "taken" "I") (List.mem_of_getElem? (i := 3) rfl)) rfl dX4_settleOutside_42 ?_
        refine lv_icmp_eq (tgt := 63) hx hb dX4_settleOutside_45 (by decide) (fun c_6 => ?_) (fun c_6 => ?_)
        · have kc_6 := bI_eq rfl rfl c_6
          exact W.vret hx hb hr (fun t ht hW => ⟨⟨((up σ 1 (σ 1)), φ, γ, ψ), rfl, ⟨(σ 1), rfl, rfl, (show (Int32.toInt (σ 1)) ≤ (Int32.toInt (σ 1)) ∧ (Int32.toInt (σ 1)) ≤ (Int32.toInt (σ 1)) + 2 from (by omega))⟩, (by show va_P _ _ _ _; rw [ht]; exact hP)⟩, hS.F ht⟩) hS.2.2 dX4_settleOutside_63
        · have kc_6 := bI_ne rfl rfl c_6
          refine lv_aload_n hx hb dX4_settleOutside_48 rfl (lv_at hl 0 rfl) ?_
          refine lv_bipush (v := 20) hx hb dX4_settleOutside_49 (by decide) ?_
          refine lv_aload_n hx hb dX4_settleOutside_51 rfl (lv_at hl 0 rfl) ?_
          refine cg_5_4 hx hb hts hinX4 hown hK hP (hts (.fieldLink RX4 12 "CensusDesk$Reader" "line" "LCensusDesk$Line;") (List.mem_of_getElem? (i := 1) rfl)) dX4_settleOutside_52 ?_
          refine cgN_6_2 (v := (σ 2)) hx hb hts hinX3 hown hK hP (va_Nw.use rfl (hN.1 ("CensusDesk$Reader", 124, "CensusDesk$Line", "start", "I") (List.mem_of_getElem? (i := 10) rfl))) rfl dX4_settleOutside_55 ?_
          refine lv_iconst (v := (-1)) hx hb dX4_settleOutside_58 (by decide) ?_
          refine c_calli (va_runV (As := [.int 20, .int (σ 2), .int (-1)]) (rest := []) ⟨hx, hb, hml, hown, hts⟩ (c_X4_fail l dC dI a κ σ φ γ ψ g1 g2 20 (σ 2) (-1) (show 0 ≤ (Int32.toInt (σ 1)) ∧ (Int32.toInt (σ 1)) ≤ 2000000000 from (by omega))) (cwV 3 hts gX4_settleOutside_X4_fail rfl rfl rfl ⟨rfl, hd_X4_fail⟩ ⟨Nat.le_of_ble_eq_true rfl, Nat.le_of_ble_eq_true rfl⟩) (cPreV hP hK hI hN hX hS (va_recv hK hP (ci := 4) (q0 := 5) rfl rfl)) rfl rfl hl.1 rfl (lv_room (Nat.le_of_ble_eq_true rfl)) dX4_settleOutside_59 ⟨(by decide +kernel), (by decide +kernel)⟩) hS ?_
          clear hP hS; intro r_7 S_7 F_7 γ_7 ψ_7 H locs hw hP hS
          obtain ⟨s1_7, rfl, rfl, (qc_7 : (Int32.toInt (σ 1)) ≤ (Int32.toInt s1_7) ∧ (Int32.toInt s1_7) ≤ (Int32.toInt (σ 1)) + 1)⟩ := hw
          have hLm1_7 := L_m1
          have hL20_7 := L_20
          refine lv_pop hx hb dX4_settleOutside_62 rfl ?_
          exact W.vret hx hb hr (fun t ht hW => ⟨⟨((up σ 1 s1_7), φ, γ_7, ψ_7), rfl, ⟨s1_7, rfl, rfl, (show (Int32.toInt (σ 1)) ≤ (Int32.toInt s1_7) ∧ (Int32.toInt s1_7) ≤ (Int32.toInt (σ 1)) + 2 from (by omega))⟩, (by show va_P _ _ _ _; rw [ht]; exact hP)⟩, hS.F ht⟩) hS.2.2 dX4_settleOutside_63
    · have kc_2 := bI_ne rfl L_m1 c_2
      exact W.vret hx hb hr (fun t ht hW => ⟨⟨((up σ 1 (σ 1)), φ, γ, ψ), rfl, ⟨(σ 1), rfl, rfl, (show (Int32.toInt (σ 1)) ≤ (Int32.toInt (σ 1)) ∧ (Int32.toInt (σ 1)) ≤ (Int32.toInt (σ 1)) + 2 from (by omega))⟩, (by show va_P _ _ _ _; rw [ht]; exact hP)⟩, hS.F ht⟩) hS.2.2 dX4_settleOutside_24
  · have kc_1 := bI_nlt rfl L_0 c_1
    refine lv_aload_n hx hb dX4_settleOutside_4 rfl (lv_at hl 0 rfl) ?_
    refine lv_bipush (v := 21) hx hb dX4_settleOutside_5 (by decide) ?_
    refine lv_aload_n hx hb dX4_settleOutside_7 rfl (lv_at hl 0 rfl) ?_
    refine cg_5_4 hx hb hts hinX4 hown hK hP (hts (.fieldLink RX4 12 "CensusDesk$Reader" "line" "LCensusDesk$Line;") (List.mem_of_getElem? (i := 1) rfl)) dX4_settleOutside_8 ?_
    refine cgN_6_2 (v := (σ 2)) hx hb hts hinX3 hown hK hP (va_Nw.use rfl (hN.1 ("CensusDesk$Reader", 124, "CensusDesk$Line", "start", "I") (List.mem_of_getElem? (i := 10) rfl))) rfl dX4_settleOutside_11 ?_
    refine lv_iload_n hx hb dX4_settleOutside_14 rfl (lv_at hl 1 rfl) ?_
    refine c_calli (va_runV (As := [.int 21, .int (σ 2), .int fate]) (rest := []) ⟨hx, hb, hml, hown, hts⟩ (c_X4_fail l dC dI a κ σ φ γ ψ g1 g2 21 (σ 2) fate (show 0 ≤ (Int32.toInt (σ 1)) ∧ (Int32.toInt (σ 1)) ≤ 2000000000 from (by omega))) (cwV 3 hts gX4_settleOutside_X4_fail rfl rfl rfl ⟨rfl, hd_X4_fail⟩ ⟨Nat.le_of_ble_eq_true rfl, Nat.le_of_ble_eq_true rfl⟩) (cPreV hP hK hI hN hX hS (va_recv hK hP (ci := 4) (q0 := 5) rfl rfl)) rfl rfl hl.1 rfl (lv_room (Nat.le_of_ble_eq_true rfl)) dX4_settleOutside_15 ⟨(by decide +kernel), (by decide +kernel)⟩) hS ?_
    clear hP hS; intro r_8 S_8 F_8 γ_8 ψ_8 H locs hw hP hS
    obtain ⟨s1_8, rfl, rfl, (qc_8 : (Int32.toInt (σ 1)) ≤ (Int32.toInt s1_8) ∧ (Int32.toInt s1_8) ≤ (Int32.toInt (σ 1)) + 1)⟩ := hw
    have hL21_8 := L_21
    refine lv_pop hx hb dX4_settleOutside_18 rfl ?_
    refine lv_iload_n hx hb dX4_settleOutside_19 rfl (lv_at hl 1 rfl) ?_
    refine lv_iconst (v := (-1)) hx hb dX4_settleOutside_20 (by decide) ?_
    refine lv_icmp_eq (tgt := 25) hx hb dX4_settleOutside_21 (by decide) (fun c_9 => ?_) (fun c_9 => ?_)
    · have kc_9 := bI_eq rfl L_m1 c_9
      refine lv_aload_n hx hb dX4_settleOutside_25 rfl (lv_at hl 0 rfl) ?_
      refine cg_5_7 hx hb hts hinX4 hown hK hP (hts (.fieldLink RX4 32 "CensusDesk$Reader" "values" "[I") (List.mem_of_getElem? (i := 2) rfl)) dX4_settleOutside_26 ?_
      refine lv_iconst (v := 1) hx hb dX4_settleOutside_29 (by decide) ?_
      refine cl_35 (f := (φ 8)) hx hb hK hP (i := 1) (vp_in_nI (n := 1) (by decide) (by decide)) rfl dX4_settleOutside_30 ?_
      refine lv_topi (fun z_10 ez_10 => ?_)
      have tz_10 : (Int32.toInt z_10) = Int32.toInt ((φ 8) 1) := congrArg Int32.toInt ez_10
      refine lv_iconst (v := (-1)) hx hb dX4_settleOutside_31 (by decide) ?_
      refine lv_icmp_eq (tgt := 63) hx hb dX4_settleOutside_32 (by decide) (fun c_11 => ?_) (fun c_11 => ?_)
      · have kc_11 := bI_eq rfl L_m1 c_11
        exact W.vret hx hb hr (fun t ht hW => ⟨⟨((up σ 1 s1_8), φ, γ_8, ψ_8), rfl, ⟨s1_8, rfl, rfl, (show (Int32.toInt (σ 1)) ≤ (Int32.toInt s1_8) ∧ (Int32.toInt s1_8) ≤ (Int32.toInt (σ 1)) + 2 from (by omega))⟩, (by show va_P _ _ _ _; rw [ht]; exact hP)⟩, hS.F ht⟩) hS.2.2 dX4_settleOutside_63
      · have kc_11 := bI_ne rfl L_m1 c_11
        refine lv_aload_n hx hb dX4_settleOutside_35 rfl (lv_at hl 0 rfl) ?_
        refine cg_5_7 hx hb hts hinX4 hown hK hP (hts (.fieldLink RX4 32 "CensusDesk$Reader" "values" "[I") (List.mem_of_getElem? (i := 2) rfl)) dX4_settleOutside_36 ?_
        refine lv_iconst (v := 1) hx hb dX4_settleOutside_39 (by decide) ?_
        refine cl_35 (f := (φ 8)) hx hb hK hP (i := 1) (vp_in_nI (n := 1) (by decide) (by decide)) rfl dX4_settleOutside_40 ?_
        refine lv_topi (fun z_12 ez_12 => ?_)
        have tz_12 : (Int32.toInt z_12) = Int32.toInt ((φ 8) 1) := congrArg Int32.toInt ez_12
        refine lv_aload_n hx hb dX4_settleOutside_41 rfl (lv_at hl 0 rfl) ?_
        refine cg_5_9 (v := (σ 16)) hx hb hts hinX4 hown hK hP (hts (.fieldLink RX4 56 "CensusDesk$Reader" "taken" "I") (List.mem_of_getElem? (i := 3) rfl)) rfl dX4_settleOutside_42 ?_
        refine lv_icmp_eq (tgt := 63) hx hb dX4_settleOutside_45 (by decide) (fun c_13 => ?_) (fun c_13 => ?_)
        · have kc_13 := bI_eq rfl rfl c_13
          exact W.vret hx hb hr (fun t ht hW => ⟨⟨((up σ 1 s1_8), φ, γ_8, ψ_8), rfl, ⟨s1_8, rfl, rfl, (show (Int32.toInt (σ 1)) ≤ (Int32.toInt s1_8) ∧ (Int32.toInt s1_8) ≤ (Int32.toInt (σ 1)) + 2 from (by omega))⟩, (by show va_P _ _ _ _; rw [ht]; exact hP)⟩, hS.F ht⟩) hS.2.2 dX4_settleOutside_63
        · have kc_13 := bI_ne rfl rfl c_13
          refine lv_aload_n hx hb dX4_settleOutside_48 rfl (lv_at hl 0 rfl) ?_
          refine lv_bipush (v := 20) hx hb dX4_settleOutside_49 (by decide) ?_
          refine lv_aload_n hx hb dX4_settleOutside_51 rfl (lv_at hl 0 rfl) ?_
          refine cg_5_4 hx hb hts hinX4 hown hK hP (hts (.fieldLink RX4 12 "CensusDesk$Reader" "line" "LCensusDesk$Line;") (List.mem_of_getElem? (i := 1) rfl)) dX4_settleOutside_52 ?_
          refine cgN_6_2 (v := (σ 2)) hx hb hts hinX3 hown hK hP (va_Nw.use rfl (hN.1 ("CensusDesk$Reader", 124, "CensusDesk$Line", "start", "I") (List.mem_of_getElem? (i := 10) rfl))) rfl dX4_settleOutside_55 ?_
          refine lv_iconst (v := (-1)) hx hb dX4_settleOutside_58 (by decide) ?_
          refine c_calli (va_runV (As := [.int 20, .int (σ 2), .int (-1)]) (rest := []) ⟨hx, hb, hml, hown, hts⟩ (c_X4_fail l dC dI a κ (up σ 1 s1_8) φ γ_8 ψ_8 g1 g2 20 (σ 2) (-1) (show 0 ≤ (Int32.toInt s1_8) ∧ (Int32.toInt s1_8) ≤ 2000000000 from (by omega))) (cwV 3 hts gX4_settleOutside_X4_fail rfl rfl rfl ⟨rfl, hd_X4_fail⟩ ⟨Nat.le_of_ble_eq_true rfl, Nat.le_of_ble_eq_true rfl⟩) (cPreV hP hK hI hN hX hS (va_recv hK hP (ci := 4) (q0 := 5) rfl rfl)) rfl rfl hl.1 rfl (lv_room (Nat.le_of_ble_eq_true rfl)) dX4_settleOutside_59 ⟨(by decide +kernel), (by decide +kernel)⟩) hS ?_
          clear hP hS; intro r_14 S_14 F_14 γ_14 ψ_14 H locs hw hP hS
          obtain ⟨s1_14, rfl, rfl, (qc_14 : (Int32.toInt s1_8) ≤ (Int32.toInt s1_14) ∧ (Int32.toInt s1_14) ≤ (Int32.toInt s1_8) + 1)⟩ := hw
          have hLm1_14 := L_m1
          have hL20_14 := L_20
          refine lv_pop hx hb dX4_settleOutside_62 rfl ?_
          exact W.vret hx hb hr (fun t ht hW => ⟨⟨((up σ 1 s1_14), φ, γ_14, ψ_14), rfl, ⟨s1_14, rfl, rfl, (show (Int32.toInt (σ 1)) ≤ (Int32.toInt s1_14) ∧ (Int32.toInt s1_14) ≤ (Int32.toInt (σ 1)) + 2 from (by omega))⟩, (by show va_P _ _ _ _; rw [ht]; exact hP)⟩, hS.F ht⟩) hS.2.2 dX4_settleOutside_63
    · have kc_9 := bI_ne rfl L_m1 c_9
      exact W.vret hx hb hr (fun t ht hW => ⟨⟨((up σ 1 s1_8), φ, γ_8, ψ_8), rfl, ⟨s1_8, rfl, rfl, (show (Int32.toInt (σ 1)) ≤ (Int32.toInt s1_8) ∧ (Int32.toInt s1_8) ≤ (Int32.toInt (σ 1)) + 2 from (by omega))⟩, (by show va_P _ _ _ _; rw [ht]; exact hP)⟩, hS.F ht⟩) hS.2.2 dX4_settleOutside_24
