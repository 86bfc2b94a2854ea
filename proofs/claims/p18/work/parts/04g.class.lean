set_option maxHeartbeats 4000000 in
set_option maxRecDepth 100000 in
theorem c_X4_fail (l : Launch) (dC : Nat → ClassId) (dI : Nat → Nat → Nat) (a : Nat → Nat) (κ : Nat → ClassId) (σ : Nat → Int32) (φ : Nat → Nat → Int32) (γ : Nat → Int32) (ψ : Nat → Nat → Int32) (g1 g2 : Nat) (kind : Int32) (place : Int32) (cause : Int32) (hc : 0 ≤ (Int32.toInt (σ 1)) ∧ (Int32.toInt (σ 1)) ≤ 2000000000) : Met l yX4_fail wsX4_fail ({ frames := 1, cells := 0, slots := 0, locals := 28 } : Room) (va_Pc [.ref (a 5), .int kind, .int place, .int cause] (cPre dC dI a κ (σ, φ, γ, ψ) g1 g2)) (va_Qi (QI (fun r S F => ∃ (s1 : Int32), (up σ 1 s1) = S ∧ φ = F ∧ ((Int32.toInt (σ 1)) ≤ (Int32.toInt s1) ∧ (Int32.toInt s1) ≤ (Int32.toInt (σ 1)) + 1))) (cB dC dI a κ) (cA a)) 0 0 (cA a) := by
  refine Met.ofW (cc := cX4_fail) (maxL := 6) (ret := (some .int)) (by decide) rfl ?_
  intro p e s m args below meth c s₁ B hml hv
  obtain ⟨rfl, hP, hK, hI, hN, hX⟩ := hv
  have hx := B.exec
  have hb := B.bytes
  have hr := B.returns
  have hts := atoms_spec (ws := wsX4_fail) B.pre
  have hown : s.vm.findClass RX4 = some m.cls := findClass_of_methodNamed B.named
  have hlocks := B.notSynchronized
  have hS : va_S (cA a) s.heap s.heap [] := va_S.rf
  have hinX4 : ∀ w ∈ wsX40, w ∈ wsX4_fail := fun _ h => List.mem_cons_of_mem _ (List.mem_append_left _ (List.mem_append_left _ (List.mem_append_left _ (List.mem_append_right _ h))))
  have hinX2 : ∀ w ∈ wsX20, w ∈ wsX4_fail := fun _ h => List.mem_cons_of_mem _ (List.mem_append_left _ (List.mem_append_left _ (List.mem_append_right _ h)))
  have hinX5 : ∀ w ∈ wsX50, w ∈ wsX4_fail := fun _ h => List.mem_cons_of_mem _ (List.mem_append_left _ (List.mem_append_right _ h))
  have hinX1 : ∀ w ∈ wsX10, w ∈ wsX4_fail := fun _ h => List.mem_cons_of_mem _ (List.mem_append_right _ h)
  have hl := lv_entry ([.ref (a 5), .int kind, .int place, .int cause]) (n := 6) (Nat.le_of_ble_eq_true rfl)
  rw [lg_entry_eq]
  generalize (lg_sl ([.ref (a 5), .int kind, .int place, .int cause]) ++ List.replicate (6 - (lg_sl ([.ref (a 5), .int kind, .int place, .int cause])).length) Slot.unset).toArray = ls at hl ⊢
  have hl : lv_has ls 6 [(0, .ref (a 5)), (1, .int kind), (2, .int place), (3, .int cause)] := hl
  refine lv_aload_n hx hb dX4_fail_0 rfl (lv_at hl 0 rfl) ?_
  refine cg_5_1 hx hb hts hinX4 hown hK hP (hts (.fieldLink RX4 40 "CensusDesk$Reader" "rules" "LCensusDesk$Rules;") (List.mem_of_getElem? (i := 1) rfl)) dX4_fail_1 ?_
  refine lv_iload_n hx hb dX4_fail_4 rfl (lv_at hl 1 rfl) ?_
  refine c_calli (va_runV (As := [.int kind]) (rest := []) ⟨hx, hb, hml, hown, hts⟩ (c_X5_rowFor l dC dI a κ σ φ γ ψ g1 g2 kind ) (cwV 1 hts gX4_fail_X5_rowFor rfl rfl rfl ⟨rfl, hd_X5_rowFor⟩ ⟨Nat.le_of_ble_eq_true rfl, Nat.le_of_ble_eq_true rfl⟩) (cPreV hP hK hI hN hX hS (va_recv hK hP (ci := 5) (q0 := 2) rfl rfl)) rfl rfl hl.1 rfl (lv_room (Nat.le_of_ble_eq_true rfl)) dX4_fail_5 ⟨(by decide +kernel), (by decide +kernel)⟩) hS ?_
  clear hP hS; intro r_1 S_1 F_1 γ_1 ψ_1 H locs hw hP hS
  obtain ⟨rfl, rfl, -⟩ := hw
  refine lv_istore (lv' := [(4, .int r_1), (0, .ref (a 5)), (1, .int kind), (2, .int place), (3, .int cause)]) hx hb dX4_fail_8 hl (by decide) rfl ?_
  clear hl; intro ls hl
  refine lv_aload_n hx hb dX4_fail_10 rfl (lv_at hl 1 rfl) ?_
  refine lv_aload_n hx hb dX4_fail_11 rfl (lv_at hl 1 rfl) ?_
  refine cg_5_1 hx hb hts hinX4 hown hK hP (hts (.fieldLink RX4 40 "CensusDesk$Reader" "rules" "LCensusDesk$Rules;") (List.mem_of_getElem? (i := 1) rfl)) dX4_fail_12 ?_
  refine lv_iload hx hb dX4_fail_15 (lv_at hl 0 rfl) ?_
  refine c_calli (va_runV (As := [.int r_1]) (rest := [.ref (a 5)]) ⟨hx, hb, hml, hown, hts⟩ (c_X5_wayAt l dC dI a κ σ φ γ_1 ψ_1 g1 g2 r_1 ) (cwV 1 hts gX4_fail_X5_wayAt rfl rfl rfl ⟨rfl, hd_X5_wayAt⟩ ⟨Nat.le_of_ble_eq_true rfl, Nat.le_of_ble_eq_true rfl⟩) (cPreV hP hK hI hN hX hS (va_recv hK hP (ci := 5) (q0 := 2) rfl rfl)) rfl rfl hl.1 rfl (lv_room (Nat.le_of_ble_eq_true rfl)) dX4_fail_17 ⟨(by decide +kernel), (by decide +kernel)⟩) hS ?_
  clear hP hS; intro r_2 S_2 F_2 γ_2 ψ_2 H locs hw hP hS
  obtain ⟨rfl, rfl, -⟩ := hw
  refine cp_5_17 (v := r_2) hx hb hts hinX4 hown hK hP hI hS (hts (.fieldLink RX4 182 "CensusDesk$Reader" "way" "I") (List.mem_of_getElem? (i := 2) rfl)) dX4_fail_20 ?_
  clear hP hS; intro H locs hP hS
  refine lv_aload_n hx hb dX4_fail_23 rfl (lv_at hl 1 rfl) ?_
  refine lv_aload_n hx hb dX4_fail_24 rfl (lv_at hl 1 rfl) ?_
  refine cg_5_1 hx hb hts hinX4 hown hK hP (hts (.fieldLink RX4 40 "CensusDesk$Reader" "rules" "LCensusDesk$Rules;") (List.mem_of_getElem? (i := 1) rfl)) dX4_fail_25 ?_
  refine lv_iload hx hb dX4_fail_28 (lv_at hl 0 rfl) ?_
  refine c_calli (va_runV (As := [.int r_1]) (rest := [.ref (a 5)]) ⟨hx, hb, hml, hown, hts⟩ (c_X5_numberAt l dC dI a κ σ φ (up γ_2 7 r_2) ψ_2 g1 g2 r_1 ) (cwV 1 hts gX4_fail_X5_numberAt rfl rfl rfl ⟨rfl, hd_X5_numberAt⟩ ⟨Nat.le_of_ble_eq_true rfl, Nat.le_of_ble_eq_true rfl⟩) (cPreV hP hK hI hN hX hS (va_recv hK hP (ci := 5) (q0 := 2) rfl rfl)) rfl rfl hl.1 rfl (lv_room (Nat.le_of_ble_eq_true rfl)) dX4_fail_30 ⟨(by decide +kernel), (by decide +kernel)⟩) hS ?_
  clear hP hS; intro r_3 S_3 F_3 γ_3 ψ_3 H locs hw hP hS
  obtain ⟨rfl, rfl, -⟩ := hw
  refine cp_5_18 (v := r_3) hx hb hts hinX4 hown hK hP hI hS (hts (.fieldLink RX4 185 "CensusDesk$Reader" "number" "I") (List.mem_of_getElem? (i := 3) rfl)) dX4_fail_33 ?_
  clear hP hS; intro H locs hP hS
  refine lv_aload_n hx hb dX4_fail_36 rfl (lv_at hl 1 rfl) ?_
  refine cg_5_2 hx hb hts hinX4 hown hK hP (hts (.fieldLink RX4 44 "CensusDesk$Reader" "log" "LCensusDesk$Failures;") (List.mem_of_getElem? (i := 4) rfl)) dX4_fail_37 ?_
  refine lv_iload_n hx hb dX4_fail_40 rfl (lv_at hl 2 rfl) ?_
  refine lv_iload_n hx hb dX4_fail_41 rfl (lv_at hl 3 rfl) ?_
  refine lv_iload_n hx hb dX4_fail_42 rfl (lv_at hl 4 rfl) ?_
  refine lv_aload_n hx hb dX4_fail_43 rfl (lv_at hl 1 rfl) ?_
  refine cg_5_17 (v := (γ_3 7)) hx hb hts hinX4 hown hK hP (hts (.fieldLink RX4 182 "CensusDesk$Reader" "way" "I") (List.mem_of_getElem? (i := 2) rfl)) rfl dX4_fail_44 ?_
  refine lv_aload_n hx hb dX4_fail_47 rfl (lv_at hl 1 rfl) ?_
  refine cg_5_6 hx hb hts hinX4 hown hK hP (hts (.fieldLink RX4 28 "CensusDesk$Reader" "household" "LCensusDesk$Household;") (List.mem_of_getElem? (i := 5) rfl)) dX4_fail_48 ?_
  refine cgN_8_6 (v := (σ 8)) hx hb hts hinX2 hown hK hP (va_Nw.use rfl (hN.1 ("CensusDesk$Reader", 81, "CensusDesk$Household", "open", "Z") (List.mem_of_getElem? (i := 19) rfl))) rfl dX4_fail_51 ?_
  refine c_calli (va_runV (As := [.int kind, .int place, .int cause, .int (γ_3 7), .int (σ 8)]) (rest := []) ⟨hx, hb, hml, hown, hts⟩ (c_X1_add l dC dI a κ σ φ (up γ_3 8 r_3) ψ_3 g1 g2 kind place cause (γ_3 7) (σ 8) (show 0 ≤ (Int32.toInt (σ 1)) ∧ (Int32.toInt (σ 1)) ≤ 2000000000 from (by omega))) (cwV 5 hts gX4_fail_X1_add rfl rfl rfl ⟨rfl, hd_X1_add⟩ ⟨Nat.le_of_ble_eq_true rfl, Nat.le_of_ble_eq_true rfl⟩) (cPreV hP hK hI hN hX hS (va_recv hK hP (ci := 1) (q0 := 3) rfl rfl)) rfl rfl hl.1 rfl (lv_room (Nat.le_of_ble_eq_true rfl)) dX4_fail_54 ⟨(by decide +kernel), (by decide +kernel)⟩) hS ?_
  clear hP hS; intro r_4 S_4 F_4 γ_4 ψ_4 H locs hw hP hS
  obtain ⟨s1_4, rfl, rfl, (qc_4 : (Int32.toInt (σ 1)) ≤ (Int32.toInt s1_4) ∧ (Int32.toInt s1_4) ≤ (Int32.toInt (σ 1)) + 1)⟩ := hw
  refine lv_istore (lv' := [(5, .int r_4), (4, .int r_1), (0, .ref (a 5)), (1, .int kind), (2, .int place), (3, .int cause)]) hx hb dX4_fail_57 hl (by decide) rfl ?_
  clear hl; intro ls hl
  refine lv_aload_n hx hb dX4_fail_59 rfl (lv_at hl 2 rfl) ?_
  refine cg_5_17 (v := (γ_4 7)) hx hb hts hinX4 hown hK hP (hts (.fieldLink RX4 182 "CensusDesk$Reader" "way" "I") (List.mem_of_getElem? (i := 2) rfl)) rfl dX4_fail_60 ?_
  refine lv_iconst (v := 4) hx hb dX4_fail_63 (by decide) ?_
  refine lv_icmp_ne (tgt := 72) hx hb dX4_fail_64 (by decide) (fun c_5 => ?_) (fun c_5 => ?_)
  · have kc_5 := bI_ne rfl L_4 c_5
    refine lv_iload_n hx hb dX4_fail_72 rfl (lv_at hl 3 rfl) ?_
    refine lv_bipush (v := 19) hx hb dX4_fail_73 (by decide) ?_
    refine lv_icmp_lt (tgt := 98) hx hb dX4_fail_75 (by decide) (fun c_6 => ?_) (fun c_6 => ?_)
    · have kc_6 := bI_lt rfl L_19 c_6
      refine lv_aload_n hx hb dX4_fail_98 rfl (lv_at hl 2 rfl) ?_
      refine cg_5_17 (v := (γ_4 7)) hx hb hts hinX4 hown hK hP (hts (.fieldLink RX4 182 "CensusDesk$Reader" "way" "I") (List.mem_of_getElem? (i := 2) rfl)) rfl dX4_fail_99 ?_
      refine lv_iconst (v := 1) hx hb dX4_fail_102 (by decide) ?_
      refine lv_icmp_eq (tgt := 114) hx hb dX4_fail_103 (by decide) (fun c_7 => ?_) (fun c_7 => ?_)
      · have kc_7 := bI_eq rfl L_1 c_7
        refine lv_iconst (v := (-1)) hx hb dX4_fail_114 (by decide) ?_
        exact W.iret (v := (-1)) hx hb hr (fun t ht hW => ⟨⟨(-1), ((up σ 1 s1_4), φ, γ_4, ψ_4), rfl, ⟨s1_4, rfl, rfl, (show (Int32.toInt (σ 1)) ≤ (Int32.toInt s1_4) ∧ (Int32.toInt s1_4) ≤ (Int32.toInt (σ 1)) + 1 from (by omega))⟩, (by show va_P _ _ _ _; rw [ht]; exact hP)⟩, hS.F ht⟩) hS.2.2 dX4_fail_115
      · have kc_7 := bI_ne rfl L_1 c_7
        refine lv_aload_n hx hb dX4_fail_106 rfl (lv_at hl 2 rfl) ?_
        refine cg_5_17 (v := (γ_4 7)) hx hb hts hinX4 hown hK hP (hts (.fieldLink RX4 182 "CensusDesk$Reader" "way" "I") (List.mem_of_getElem? (i := 2) rfl)) rfl dX4_fail_107 ?_
        refine lv_iconst (v := 2) hx hb dX4_fail_110 (by decide) ?_
        refine lv_icmp_ne (tgt := 116) hx hb dX4_fail_111 (by decide) (fun c_8 => ?_) (fun c_8 => ?_)
        · have kc_8 := bI_ne rfl L_2 c_8
          refine lv_aload_n hx hb dX4_fail_116 rfl (lv_at hl 2 rfl) ?_
          refine cg_5_17 (v := (γ_4 7)) hx hb hts hinX4 hown hK hP (hts (.fieldLink RX4 182 "CensusDesk$Reader" "way" "I") (List.mem_of_getElem? (i := 2) rfl)) rfl dX4_fail_117 ?_
          refine lv_if_ne (tgt := 128) hx hb dX4_fail_120 (by decide) (fun c_9 => ?_) (fun c_9 => ?_)
          · have kc_9 := bI_ne rfl L_0 c_9
            refine lv_bipush (v := (-2)) hx hb dX4_fail_128 (by decide) ?_
            exact W.iret (v := (-2)) hx hb hr (fun t ht hW => ⟨⟨(-2), ((up σ 1 s1_4), φ, γ_4, ψ_4), rfl, ⟨s1_4, rfl, rfl, (show (Int32.toInt (σ 1)) ≤ (Int32.toInt s1_4) ∧ (Int32.toInt s1_4) ≤ (Int32.toInt (σ 1)) + 1 from (by omega))⟩, (by show va_P _ _ _ _; rw [ht]; exact hP)⟩, hS.F ht⟩) hS.2.2 dX4_fail_130
          · have kc_9 := bI_eq rfl L_0 c_9
            refine lv_iload hx hb dX4_fail_123 (lv_at hl 0 rfl) ?_
            refine lv_goto (tgt := 130) hx hb dX4_fail_125 (by decide) ?_
            exact W.iret (v := r_4) hx hb hr (fun t ht hW => ⟨⟨r_4, ((up σ 1 s1_4), φ, γ_4, ψ_4), rfl, ⟨s1_4, rfl, rfl, (show (Int32.toInt (σ 1)) ≤ (Int32.toInt s1_4) ∧ (Int32.toInt s1_4) ≤ (Int32.toInt (σ 1)) + 1 from (by omega))⟩, (by show va_P _ _ _ _; rw [ht]; exact hP)⟩, hS.F ht⟩) hS.2.2 dX4_fail_130
        · have kc_8 := bI_eq rfl L_2 c_8
          refine lv_iconst (v := (-1)) hx hb dX4_fail_114 (by decide) ?_
          exact W.iret (v := (-1)) hx hb hr (fun t ht hW => ⟨⟨(-1), ((up σ 1 s1_4), φ, γ_4, ψ_4), rfl, ⟨s1_4, rfl, rfl, (show (Int32.toInt (σ 1)) ≤ (Int32.toInt s1_4) ∧ (Int32.toInt s1_4) ≤ (Int32.toInt (σ 1)) + 1 from (by omega))⟩, (by show va_P _ _ _ _; rw [ht]; exact hP)⟩, hS.F ht⟩) hS.2.2 dX4_fail_115
    · have kc_6 := bI_nlt rfl L_19 c_6
      refine lv_aload_n hx hb dX4_fail_78 rfl (lv_at hl 2 rfl) ?_
      refine cg_5_17 (v := (γ_4 7)) hx hb hts hinX4 hown hK hP (hts (.fieldLink RX4 182 "CensusDesk$Reader" "way" "I") (List.mem_of_getElem? (i := 2) rfl)) rfl dX4_fail_79 ?_
      refine lv_if_eq (tgt := 93) hx hb dX4_fail_82 (by decide) (fun c_10 => ?_) (fun c_10 => ?_)
      · have kc_10 := bI_eq rfl L_0 c_10
        refine lv_aload_n hx hb dX4_fail_93 rfl (lv_at hl 2 rfl) ?_
        refine lv_iconst (v := 1) hx hb dX4_fail_94 (by decide) ?_
        refine cp_5_14 (v := 1) hx hb hts hinX4 hown hK hP hI hS (hts (.fieldLink RX4 71 "CensusDesk$Reader" "rejected" "Z") (List.mem_of_getElem? (i := 6) rfl)) (by first | rfl | decide) (by first | rfl | decide) dX4_fail_95 ?_
        clear hP hS; intro H locs hP hS
        refine lv_aload_n hx hb dX4_fail_98 rfl (lv_at hl 2 rfl) ?_
        refine cg_5_17 (v := (γ_4 7)) hx hb hts hinX4 hown hK hP (hts (.fieldLink RX4 182 "CensusDesk$Reader" "way" "I") (List.mem_of_getElem? (i := 2) rfl)) rfl dX4_fail_99 ?_
        refine lv_iconst (v := 1) hx hb dX4_fail_102 (by decide) ?_
        refine lv_icmp_eq (tgt := 114) hx hb dX4_fail_103 (by decide) (fun c_11 => ?_) (fun c_11 => ?_)
        · have kc_11 := bI_eq rfl L_1 c_11
          refine lv_iconst (v := (-1)) hx hb dX4_fail_114 (by decide) ?_
          exact W.iret (v := (-1)) hx hb hr (fun t ht hW => ⟨⟨(-1), ((up σ 1 s1_4), φ, (up γ_4 4 1), ψ_4), rfl, ⟨s1_4, rfl, rfl, (show (Int32.toInt (σ 1)) ≤ (Int32.toInt s1_4) ∧ (Int32.toInt s1_4) ≤ (Int32.toInt (σ 1)) + 1 from (by omega))⟩, (by show va_P _ _ _ _; rw [ht]; exact hP)⟩, hS.F ht⟩) hS.2.2 dX4_fail_115
        · have kc_11 := bI_ne rfl L_1 c_11
          refine lv_aload_n hx hb dX4_fail_106 rfl (lv_at hl 2 rfl) ?_
          refine cg_5_17 (v := (γ_4 7)) hx hb hts hinX4 hown hK hP (hts (.fieldLink RX4 182 "CensusDesk$Reader" "way" "I") (List.mem_of_getElem? (i := 2) rfl)) rfl dX4_fail_107 ?_
          refine lv_iconst (v := 2) hx hb dX4_fail_110 (by decide) ?_
          refine lv_icmp_ne (tgt := 116) hx hb dX4_fail_111 (by decide) (fun c_12 => ?_) (fun c_12 => ?_)
          · have kc_12 := bI_ne rfl L_2 c_12
            refine lv_aload_n hx hb dX4_fail_116 rfl (lv_at hl 2 rfl) ?_
            refine cg_5_17 (v := (γ_4 7)) hx hb hts hinX4 hown hK hP (hts (.fieldLink RX4 182 "CensusDesk$Reader" "way" "I") (List.mem_of_getElem? (i := 2) rfl)) rfl dX4_fail_117 ?_
            refine lv_if_ne (tgt := 128) hx hb dX4_fail_120 (by decide) (fun c_13 => ?_) (fun c_13 => ?_)
            · have kc_13 := bI_ne rfl L_0 c_13
              refine lv_bipush (v := (-2)) hx hb dX4_fail_128 (by decide) ?_
              exact W.iret (v := (-2)) hx hb hr (fun t ht hW => ⟨⟨(-2), ((up σ 1 s1_4), φ, (up γ_4 4 1), ψ_4), rfl, ⟨s1_4, rfl, rfl, (show (Int32.toInt (σ 1)) ≤ (Int32.toInt s1_4) ∧ (Int32.toInt s1_4) ≤ (Int32.toInt (σ 1)) + 1 from (by omega))⟩, (by show va_P _ _ _ _; rw [ht]; exact hP)⟩, hS.F ht⟩) hS.2.2 dX4_fail_130
            · have kc_13 := bI_eq rfl L_0 c_13
              refine lv_iload hx hb dX4_fail_123 (lv_at hl 0 rfl) ?_
              refine lv_goto (tgt := 130) hx hb dX4_fail_125 (by decide) ?_
              exact W.iret (v := r_4) hx hb hr (fun t ht hW => ⟨⟨r_4, ((up σ 1 s1_4), φ, (up γ_4 4 1), ψ_4), rfl, ⟨s1_4, rfl, rfl, (show (Int32.toInt (σ 1)) ≤ (Int32.toInt s1_4) ∧ (Int32.toInt s1_4) ≤ (Int32.toInt (σ 1)) + 1 from (by omega))⟩, (by show va_P _ _ _ _; rw [ht]; exact hP)⟩, hS.F ht⟩) hS.2.2 dX4_fail_130
          · have kc_12 := bI_eq rfl L_2 c_12
            refine lv_iconst (v := (-1)) hx hb dX4_fail_114 (by decide) ?_
            exact W.iret (v := (-1)) hx hb hr (fun t ht hW => ⟨⟨(-1), ((up σ 1 s1_4), φ, (up γ_4 4 1), ψ_4), rfl, ⟨s1_4, rfl, rfl, (show (Int32.toInt (σ 1)) ≤ (Int32.toInt s1_4) ∧ (Int32.toInt s1_4) ≤ (Int32.toInt (σ 1)) + 1 from (by omega))⟩, (by show va_P _ _ _ _; rw [ht]; exact hP)⟩, hS.F ht⟩) hS.2.2 dX4_fail_115
      · have kc_10 := bI_ne rfl L_0 c_10
        refine lv_aload_n hx hb dX4_fail_85 rfl (lv_at hl 2 rfl) ?_
        refine cg_5_17 (v := (γ_4 7)) hx hb hts hinX4 hown hK hP (hts (.fieldLink RX4 182 "CensusDesk$Reader" "way" "I") (List.mem_of_getElem? (i := 2) rfl)) rfl dX4_fail_86 ?_
        refine lv_iconst (v := 3) hx hb dX4_fail_89 (by decide) ?_
        refine lv_icmp_ne (tgt := 98) hx hb dX4_fail_90 (by decide) (fun c_14 => ?_) (fun c_14 => ?_)
        · have kc_14 := bI_ne rfl L_3 c_14
          refine lv_aload_n hx hb dX4_fail_98 rfl (lv_at hl 2 rfl) ?_
          refine cg_5_17 (v := (γ_4 7)) hx hb hts hinX4 hown hK hP (hts (.fieldLink RX4 182 "CensusDesk$Reader" "way" "I") (List.mem_of_getElem? (i := 2) rfl)) rfl dX4_fail_99 ?_
          refine lv_iconst (v := 1) hx hb dX4_fail_102 (by decide) ?_
          refine lv_icmp_eq (tgt := 114) hx hb dX4_fail_103 (by decide) (fun c_15 => ?_) (fun c_15 => ?_)
          · have kc_15 := bI_eq rfl L_1 c_15
            refine lv_iconst (v := (-1)) hx hb dX4_fail_114 (by decide) ?_
            exact W.iret (v := (-1)) hx hb hr (fun t ht hW => ⟨⟨(-1), ((up σ 1 s1_4), φ, γ_4, ψ_4), rfl, ⟨s1_4, rfl, rfl, (show (Int32.toInt (σ 1)) ≤ (Int32.toInt s1_4) ∧ (Int32.toInt s1_4) ≤ (Int32.toInt (σ 1)) + 1 from (by omega))⟩, (by show va_P _ _ _ _; rw [ht]; exact hP)⟩, hS.F ht⟩) hS.2.2 dX4_fail_115
          · have kc_15 := bI_ne rfl L_1 c_15
            refine lv_aload_n hx hb dX4_fail_106 rfl (lv_at hl 2 rfl) ?_
            refine cg_5_17 (v := (γ_4 7)) hx hb hts hinX4 hown hK hP (hts (.fieldLink RX4 182 "CensusDesk$Reader" "way" "I") (List.mem_of_getElem? (i := 2) rfl)) rfl dX4_fail_107 ?_
            refine lv_iconst (v := 2) hx hb dX4_fail_110 (by decide) ?_
            refine lv_icmp_ne (tgt := 116) hx hb dX4_fail_111 (by decide) (fun c_16 => ?_) (fun c_16 => ?_)
            · have kc_16 := bI_ne rfl L_2 c_16
              refine lv_aload_n hx hb dX4_fail_116 rfl (lv_at hl 2 rfl) ?_
              refine cg_5_17 (v := (γ_4 7)) hx hb hts hinX4 hown hK hP (hts (.fieldLink RX4 182 "CensusDesk$Reader" "way" "I") (List.mem_of_getElem? (i := 2) rfl)) rfl dX4_fail_117 ?_
              refine lv_if_ne (tgt := 128) hx hb dX4_fail_120 (by decide) (fun c_17 => ?_) (fun c_17 => ?_)
              · have kc_17 := bI_ne rfl L_0 c_17
                refine lv_bipush (v := (-2)) hx hb dX4_fail_128 (by decide) ?_
                exact W.iret (v := (-2)) hx hb hr (fun t ht hW => ⟨⟨(-2), ((up σ 1 s1_4), φ, γ_4, ψ_4), rfl, ⟨s1_4, rfl, rfl, (show (Int32.toInt (σ 1)) ≤ (Int32.toInt s1_4) ∧ (Int32.toInt s1_4) ≤ (Int32.toInt (σ 1)) + 1 from (by omega))⟩, (by show va_P _ _ _ _; rw [ht]; exact hP)⟩, hS.F ht⟩) hS.2.2 dX4_fail_130
              · have kc_17 := bI_eq rfl L_0 c_17
                refine lv_iload hx hb dX4_fail_123 (lv_at hl 0 rfl) ?_
                refine lv_goto (tgt := 130) hx hb dX4_fail_125 (by decide) ?_
                exact W.iret (v := r_4) hx hb hr (fun t ht hW => ⟨⟨r_4, ((up σ 1 s1_4), φ, γ_4, ψ_4), rfl, ⟨s1_4, rfl, rfl, (show (Int32.toInt (σ 1)) ≤ (Int32.toInt s1_4) ∧ (Int32.toInt s1_4) ≤ (Int32.toInt (σ 1)) + 1 from (by omega))⟩, (by show va_P _ _ _ _; rw [ht]; exact hP)⟩, hS.F ht⟩) hS.2.2 dX4_fail_130
            · have kc_16 := bI_eq rfl L_2 c_16
              refine lv_iconst (v := (-1)) hx hb dX4_fail_114 (by decide) ?_
              exact W.iret (v := (-1)) hx hb hr (fun t ht hW => ⟨⟨(-1), ((up σ 1 s1_4), φ, γ_4, ψ_4), rfl, ⟨s1_4, rfl, rfl, (show (Int32.toInt (σ 1)) ≤ (Int32.toInt s1_4) ∧ (Int32.toInt s1_4) ≤ (Int32.toInt (σ 1)) + 1 from (by omega))⟩, (by show va_P _ _ _ _; rw [ht]; exact hP)⟩, hS.F ht⟩) hS.2.2 dX4_fail_115
        · have kc_14 := bI_eq rfl L_3 c_14
          refine lv_aload_n hx hb dX4_fail_93 rfl (lv_at hl 2 rfl) ?_
          refine lv_iconst (v := 1) hx hb dX4_fail_94 (by decide) ?_
          refine cp_5_14 (v := 1) hx hb hts hinX4 hown hK hP hI hS (hts (.fieldLink RX4 71 "CensusDesk$Reader" "rejected" "Z") (List.mem_of_getElem? (i := 6) rfl)) (by first | rfl | decide) (by first | rfl | decide) dX4_fail_95 ?_
          clear hP hS; intro H locs hP hS
          refine lv_aload_n hx hb dX4_fail_98 rfl (lv_at hl 2 rfl) ?_
          refine cg_5_17 (v := (γ_4 7)) hx hb hts hinX4 hown hK hP (hts (.fieldLink RX4 182 "CensusDesk$Reader" "way" "I") (List.mem_of_getElem? (i := 2) rfl)) rfl dX4_fail_99 ?_
          refine lv_iconst (v := 1) hx hb dX4_fail_102 (by decide) ?_
          refine lv_icmp_eq (tgt := 114) hx hb dX4_fail_103 (by decide) (fun c_18 => ?_) (fun c_18 => ?_)
          · have kc_18 := bI_eq rfl L_1 c_18
            refine lv_iconst (v := (-1)) hx hb dX4_fail_114 (by decide) ?_
            exact W.iret (v := (-1)) hx hb hr (fun t ht hW => ⟨⟨(-1), ((up σ 1 s1_4), φ, (up γ_4 4 1), ψ_4), rfl, ⟨s1_4, rfl, rfl, (show (Int32.toInt (σ 1)) ≤ (Int32.toInt s1_4) ∧ (Int32.toInt s1_4) ≤ (Int32.toInt (σ 1)) + 1 from (by omega))⟩, (by show va_P _ _ _ _; rw [ht]; exact hP)⟩, hS.F ht⟩) hS.2.2 dX4_fail_115
          · have kc_18 := bI_ne rfl L_1 c_18
            refine lv_aload_n hx hb dX4_fail_106 rfl (lv_at hl 2 rfl) ?_
            refine cg_5_17 (v := (γ_4 7)) hx hb hts hinX4 hown hK hP (hts (.fieldLink RX4 182 "CensusDesk$Reader" "way" "I") (List.mem_of_getElem? (i := 2) rfl)) rfl dX4_fail_107 ?_
            refine lv_iconst (v := 2) hx hb dX4_fail_110 (by decide) ?_
            refine lv_icmp_ne (tgt := 116) hx hb dX4_fail_111 (by decide) (fun c_19 => ?_) (fun c_19 => ?_)
            · have kc_19 := bI_ne rfl L_2 c_19
              refine lv_aload_n hx hb dX4_fail_116 rfl (lv_at hl 2 rfl) ?_
              refine cg_5_17 (v := (γ_4 7)) hx hb hts hinX4 hown hK hP (hts (.fieldLink RX4 182 "CensusDesk$Reader" "way" "I") (List.mem_of_getElem? (i := 2) rfl)) rfl dX4_fail_117 ?_
              refine lv_if_ne (tgt := 128) hx hb dX4_fail_120 (by decide) (fun c_20 => ?_) (fun c_20 => ?_)
              · have kc_20 := bI_ne rfl L_0 c_20
                refine lv_bipush (v := (-2)) hx hb dX4_fail_128 (by decide) ?_
                exact W.iret (v := (-2)) hx hb hr (fun t ht hW => ⟨⟨(-2), ((up σ 1 s1_4), φ, (up γ_4 4 1), ψ_4), rfl, ⟨s1_4, rfl, rfl, (show (Int32.toInt (σ 1)) ≤ (Int32.toInt s1_4) ∧ (Int32.toInt s1_4) ≤ (Int32.toInt (σ 1)) + 1 from (by omega))⟩, (by show va_P _ _ _ _; rw [ht]; exact hP)⟩, hS.F ht⟩) hS.2.2 dX4_fail_130
              · have kc_20 := bI_eq rfl L_0 c_20
                refine lv_iload hx hb dX4_fail_123 (lv_at hl 0 rfl) ?_
                refine lv_goto (tgt := 130) hx hb dX4_fail_125 (by decide) ?_
                exact W.iret (v := r_4) hx hb hr (fun t ht hW => ⟨⟨r_4, ((up σ 1 s1_4), φ, (up γ_4 4 1), ψ_4), rfl, ⟨s1_4, rfl, rfl, (show (Int32.toInt (σ 1)) ≤ (Int32.toInt s1_4) ∧ (Int32.toInt s1_4) ≤ (Int32.toInt (σ 1)) + 1 from (by omega))⟩, (by show va_P _ _ _ _; rw [ht]; exact hP)⟩, hS.F ht⟩) hS.2.2 dX4_fail_130
            · have kc_19 := bI_eq rfl L_2 c_19
              refine lv_iconst (v := (-1)) hx hb dX4_fail_114 (by decide) ?_
              exact W.iret (v := (-1)) hx hb hr (fun t ht hW => ⟨⟨(-1), ((up σ 1 s1_4), φ, (up γ_4 4 1), ψ_4), rfl, ⟨s1_4, rfl, rfl, (show (Int32.toInt (σ 1)) ≤ (Int32.toInt s1_4) ∧ (Int32.toInt s1_4) ≤ (Int32.toInt (σ 1)) + 1 from (by omega))⟩, (by show va_P _ _ _ _; rw [ht]; exact hP)⟩, hS.F ht⟩) hS.2.2 dX4_fail_115
  · have kc_5 := bI_eq rfl L_4 c_5
    refine lv_aload_n hx hb dX4_fail_67 rfl (lv_at hl 2 rfl) ?_
    refine lv_iload_n hx hb dX4_fail_68 rfl (lv_at hl 3 rfl) ?_
    refine c_callv (va_runV (As := [.int kind]) (rest := []) ⟨hx, hb, hml, hown, hts⟩ (c_X4_stop l dC dI a κ (up σ 1 s1_4) φ γ_4 ψ_4 g1 g2 kind ) (cwV 1 hts gX4_fail_X4_stop rfl rfl rfl ⟨rfl, hd_X4_stop⟩ ⟨Nat.le_of_ble_eq_true rfl, Nat.le_of_ble_eq_true rfl⟩) (cPreV hP hK hI hN hX hS (va_recv hK hP (ci := 4) (q0 := 5) rfl rfl)) rfl rfl hl.1 rfl (lv_room (Nat.le_of_ble_eq_true rfl)) dX4_fail_69 ⟨(by decide +kernel), (by decide +kernel)⟩) hS ?_
    clear hP hS; intro S_21 F_21 γ_21 ψ_21 H locs hw hP hS
    obtain ⟨rfl, rfl, -⟩ := hw
    refine lv_iload_n hx hb dX4_fail_72 rfl (lv_at hl 3 rfl) ?_
    refine lv_bipush (v := 19) hx hb dX4_fail_73 (by decide) ?_
    refine lv_icmp_lt (tgt := 98) hx hb dX4_fail_75 (by decide) (fun c_22 => ?_) (fun c_22 => ?_)
    · have kc_22 := bI_lt rfl L_19 c_22
      refine lv_aload_n hx hb dX4_fail_98 rfl (lv_at hl 2 rfl) ?_
      refine cg_5_17 (v := (γ_21 7)) hx hb hts hinX4 hown hK hP (hts (.fieldLink RX4 182 "CensusDesk$Reader" "way" "I") (List.mem_of_getElem? (i := 2) rfl)) rfl dX4_fail_99 ?_
      refine lv_iconst (v := 1) hx hb dX4_fail_102 (by decide) ?_
      refine lv_icmp_eq (tgt := 114) hx hb dX4_fail_103 (by decide) (fun c_23 => ?_) (fun c_23 => ?_)
      · have kc_23 := bI_eq rfl L_1 c_23
        refine lv_iconst (v := (-1)) hx hb dX4_fail_114 (by decide) ?_
        exact W.iret (v := (-1)) hx hb hr (fun t ht hW => ⟨⟨(-1), ((up σ 1 s1_4), φ, γ_21, ψ_21), rfl, ⟨s1_4, rfl, rfl, (show (Int32.toInt (σ 1)) ≤ (Int32.toInt s1_4) ∧ (Int32.toInt s1_4) ≤ (Int32.toInt (σ 1)) + 1 from (by omega))⟩, (by show va_P _ _ _ _; rw [ht]; exact hP)⟩, hS.F ht⟩) hS.2.2 dX4_fail_115
      · have kc_23 := bI_ne rfl L_1 c_23
        refine lv_aload_n hx hb dX4_fail_106 rfl (lv_at hl 2 rfl) ?_
        refine cg_5_17 (v := (γ_21 7)) hx hb hts hinX4 hown hK hP (hts (.fieldLink RX4 182 "CensusDesk$Reader" "way" "I") (List.mem_of_getElem? (i := 2) rfl)) rfl dX4_fail_107 ?_
        refine lv_iconst (v := 2) hx hb dX4_fail_110 (by decide) ?_
        refine lv_icmp_ne (tgt := 116) hx hb dX4_fail_111 (by decide) (fun c_24 => ?_) (fun c_24 => ?_)
        · have kc_24 := bI_ne rfl L_2 c_24
          refine lv_aload_n hx hb dX4_fail_116 rfl (lv_at hl 2 rfl) ?_
          refine cg_5_17 (v := (γ_21 7)) hx hb hts hinX4 hown hK hP (hts (.fieldLink RX4 182 "CensusDesk$Reader" "way" "I") (List.mem_of_getElem? (i := 2) rfl)) rfl dX4_fail_117 ?_
          refine lv_if_ne (tgt := 128) hx hb dX4_fail_120 (by decide) (fun c_25 => ?_) (fun c_25 => ?_)
          · have kc_25 := bI_ne rfl L_0 c_25
            refine lv_bipush (v := (-2)) hx hb dX4_fail_128 (by decide) ?_
            exact W.iret (v := (-2)) hx hb hr (fun t ht hW => ⟨⟨(-2), ((up σ 1 s1_4), φ, γ_21, ψ_21), rfl, ⟨s1_4, rfl, rfl, (show (Int32.toInt (σ 1)) ≤ (Int32.toInt s1_4) ∧ (Int32.toInt s1_4) ≤ (Int32.toInt (σ 1)) + 1 from (by omega))⟩, (by show va_P _ _ _ _; rw [ht]; exact hP)⟩, hS.F ht⟩) hS.2.2 dX4_fail_130
          · have kc_25 := bI_eq rfl L_0 c_25
            refine lv_iload hx hb dX4_fail_123 (lv_at hl 0 rfl) ?_
            refine lv_goto (tgt := 130) hx hb dX4_fail_125 (by decide) ?_
            exact W.iret (v := r_4) hx hb hr (fun t ht hW => ⟨⟨r_4, ((up σ 1 s1_4), φ, γ_21, ψ_21), rfl, ⟨s1_4, rfl, rfl, (show (Int32.toInt (σ 1)) ≤ (Int32.toInt s1_4) ∧ (Int32.toInt s1_4) ≤ (Int32.toInt (σ 1)) + 1 from (by omega))⟩, (by show va_P _ _ _ _; rw [ht]; exact hP)⟩, hS.F ht⟩) hS.2.2 dX4_fail_130
        · have kc_24 := bI_eq rfl L_2 c_24
          refine lv_iconst (v := (-1)) hx hb dX4_fail_114 (by decide) ?_
          exact W.iret (v := (-1)) hx hb hr (fun t ht hW => ⟨⟨(-1), ((up σ 1 s1_4), φ, γ_21, ψ_21), rfl, ⟨s1_4, rfl, rfl, (show (Int32.toInt (σ 1)) ≤ (Int32.toInt s1_4) ∧ (Int32.toInt s1_4) ≤ (Int32.toInt (σ 1)) + 1 from (by omega))⟩, (by show va_P _ _ _ _; rw [ht]; exact hP)⟩, hS.F ht⟩) hS.2.2 dX4_fail_115
    · have kc_22 := bI_nlt rfl L_19 c_22
      refine lv_aload_n hx hb dX4_fail_78 rfl (lv_at hl 2 rfl) ?_
      refine cg_5_17 (v := (γ_21 7)) hx hb hts hinX4 hown hK hP (hts (.fieldLink RX4 182 "CensusDesk$Reader" "way" "I") (List.mem_of_getElem? (i := 2) rfl)) rfl dX4_fail_79 ?_
      refine lv_if_eq (tgt := 93) hx hb dX4_fail_82 (by decide) (fun c_26 => ?_) (fun c_26 => ?_)
      · have kc_26 := bI_eq rfl L_0 c_26
        refine lv_aload_n hx hb dX4_fail_93 rfl (lv_at hl 2 rfl) ?_
        refine lv_iconst (v := 1) hx hb dX4_fail_94 (by decide) ?_
        refine cp_5_14 (v := 1) hx hb hts hinX4 hown hK hP hI hS (hts (.fieldLink RX4 71 "CensusDesk$Reader" "rejected" "Z") (List.mem_of_getElem? (i := 6) rfl)) (by first | rfl | decide) (by first | rfl | decide) dX4_fail_95 ?_
        clear hP hS; intro H locs hP hS
        refine lv_aload_n hx hb dX4_fail_98 rfl (lv_at hl 2 rfl) ?_
        refine cg_5_17 (v := (γ_21 7)) hx hb hts hinX4 hown hK hP (hts (.fieldLink RX4 182 "CensusDesk$Reader" "way" "I") (List.mem_of_getElem? (i := 2) rfl)) rfl dX4_fail_99 ?_
        refine lv_iconst (v := 1) hx hb dX4_fail_102 (by decide) ?_
        refine lv_icmp_eq (tgt := 114) hx hb dX4_fail_103 (by decide) (fun c_27 => ?_) (fun c_27 => ?_)
        · have kc_27 := bI_eq rfl L_1 c_27
          refine lv_iconst (v := (-1)) hx hb dX4_fail_114 (by decide) ?_
          exact W.iret (v := (-1)) hx hb hr (fun t ht hW => ⟨⟨(-1), ((up σ 1 s1_4), φ, (up γ_21 4 1), ψ_21), rfl, ⟨s1_4, rfl, rfl, (show (Int32.toInt (σ 1)) ≤ (Int32.toInt s1_4) ∧ (Int32.toInt s1_4) ≤ (Int32.toInt (σ 1)) + 1 from (by omega))⟩, (by show va_P _ _ _ _; rw [ht]; exact hP)⟩, hS.F ht⟩) hS.2.2 dX4_fail_115
        · have kc_27 := bI_ne rfl L_1 c_27
          refine lv_aload_n hx hb dX4_fail_106 rfl (lv_at hl 2 rfl) ?_
          refine cg_5_17 (v := (γ_21 7)) hx hb hts hinX4 hown hK hP (hts (.fieldLink RX4 182 "CensusDesk$Reader" "way" "I") (List.mem_of_getElem? (i := 2) rfl)) rfl dX4_fail_107 ?_
          refine lv_iconst (v := 2) hx hb dX4_fail_110 (by decide) ?_
          refine lv_icmp_ne (tgt := 116) hx hb dX4_fail_111 (by decide) (fun c_28 => ?_) (fun c_28 => ?_)
          · have kc_28 := bI_ne rfl L_2 c_28
            refine lv_aload_n hx hb dX4_fail_116 rfl (lv_at hl 2 rfl) ?_
            refine cg_5_17 (v := (γ_21 7)) hx hb hts hinX4 hown hK hP (hts (.fieldLink RX4 182 "CensusDesk$Reader" "way" "I") (List.mem_of_getElem? (i := 2) rfl)) rfl dX4_fail_117 ?_
            refine lv_if_ne (tgt := 128) hx hb dX4_fail_120 (by decide) (fun c_29 => ?_) (fun c_29 => ?_)
            · have kc_29 := bI_ne rfl L_0 c_29
              refine lv_bipush (v := (-2)) hx hb dX4_fail_128 (by decide) ?_
              exact W.iret (v := (-2)) hx hb hr (fun t ht hW => ⟨⟨(-2), ((up σ 1 s1_4), φ, (up γ_21 4 1), ψ_21), rfl, ⟨s1_4, rfl, rfl, (show (Int32.toInt (σ 1)) ≤ (Int32.toInt s1_4) ∧ (Int32.toInt s1_4) ≤ (Int32.toInt (σ 1)) + 1 from (by omega))⟩, (by show va_P _ _ _ _; rw [ht]; exact hP)⟩, hS.F ht⟩) hS.2.2 dX4_fail_130
            · have kc_29 := bI_eq rfl L_0 c_29
              refine lv_iload hx hb dX4_fail_123 (lv_at hl 0 rfl) ?_
              refine lv_goto (tgt := 130) hx hb dX4_fail_125 (by decide) ?_
              exact W.iret (v := r_4) hx hb hr (fun t ht hW => ⟨⟨r_4, ((up σ 1 s1_4), φ, (up γ_21 4 1), ψ_21), rfl, ⟨s1_4, rfl, rfl, (show (Int32.toInt (σ 1)) ≤ (Int32.toInt s1_4) ∧ (Int32.toInt s1_4) ≤ (Int32.toInt (σ 1)) + 1 from (by omega))⟩, (by show va_P _ _ _ _; rw [ht]; exact hP)⟩, hS.F ht⟩) hS.2.2 dX4_fail_130
          · have kc_28 := bI_eq rfl L_2 c_28
            refine lv_iconst (v := (-1)) hx hb dX4_fail_114 (by decide) ?_
            exact W.iret (v := (-1)) hx hb hr (fun t ht hW => ⟨⟨(-1), ((up σ 1 s1_4), φ, (up γ_21 4 1), ψ_21), rfl, ⟨s1_4, rfl, rfl, (show (Int32.toInt (σ 1)) ≤ (Int32.toInt s1_4) ∧ (Int32.toInt s1_4) ≤ (Int32.toInt (σ 1)) + 1 from (by omega))⟩, (by show va_P _ _ _ _; rw [ht]; exact hP)⟩, hS.F ht⟩) hS.2.2 dX4_fail_115
      · have kc_26 := bI_ne rfl L_0 c_26
        refine lv_aload_n hx hb dX4_fail_85 rfl (lv_at hl 2 rfl) ?_
        refine cg_5_17 (v := (γ_21 7)) hx hb hts hinX4 hown hK hP (hts (.fieldLink RX4 182 "CensusDesk$Reader" "way" "I") (List.mem_of_getElem? (i := 2) rfl)) rfl dX4_fail_86 ?_
        refine lv_iconst (v := 3) hx hb dX4_fail_89 (by decide) ?_
        refine lv_icmp_ne (tgt := 98) hx hb dX4_fail_90 (by decide) (fun c_30 => ?_) (fun c_30 => ?_)
        · have kc_30 := bI_ne rfl L_3 c_30
          refine lv_aload_n hx hb dX4_fail_98 rfl (lv_at hl 2 rfl) ?_
          refine cg_5_17 (v := (γ_21 7)) hx hb hts hinX4 hown hK hP (hts (.fieldLink RX4 182 "CensusDesk$Reader" "way" "I") (List.mem_of_getElem? (i := 2) rfl)) rfl dX4_fail_99 ?_
          refine lv_iconst (v := 1) hx hb dX4_fail_102 (by decide) ?_
          refine lv_icmp_eq (tgt := 114) hx hb dX4_fail_103 (by decide) (fun c_31 => ?_) (fun c_31 => ?_)
          · have kc_31 := bI_eq rfl L_1 c_31
            refine lv_iconst (v := (-1)) hx hb dX4_fail_114 (by decide) ?_
            exact W.iret (v := (-1)) hx hb hr (fun t ht hW => ⟨⟨(-1), ((up σ 1 s1_4), φ, γ_21, ψ_21), rfl, ⟨s1_4, rfl, rfl, (show (Int32.toInt (σ 1)) ≤ (Int32.toInt s1_4) ∧ (Int32.toInt s1_4) ≤ (Int32.toInt (σ 1)) + 1 from (by omega))⟩, (by show va_P _ _ _ _; rw [ht]; exact hP)⟩, hS.F ht⟩) hS.2.2 dX4_fail_115
          · have kc_31 := bI_ne rfl L_1 c_31
            refine lv_aload_n hx hb dX4_fail_106 rfl (lv_at hl 2 rfl) ?_
            refine cg_5_17 (v := (γ_21 7)) hx hb hts hinX4 hown hK hP (hts (.fieldLink RX4 182 "CensusDesk$Reader" "way" "I") (List.mem_of_getElem? (i := 2) rfl)) rfl dX4_fail_107 ?_
            refine lv_iconst (v := 2) hx hb dX4_fail_110 (by decide) ?_
            refine lv_icmp_ne (tgt := 116) hx hb dX4_fail_111 (by decide) (fun c_32 => ?_) (fun c_32 => ?_)
            · have kc_32 := bI_ne rfl L_2 c_32
              refine lv_aload_n hx hb dX4_fail_116 rfl (lv_at hl 2 rfl) ?_
              refine cg_5_17 (v := (γ_21 7)) hx hb hts hinX4 hown hK hP (hts (.fieldLink RX4 182 "CensusDesk$Reader" "way" "I") (List.mem_of_getElem? (i := 2) rfl)) rfl dX4_fail_117 ?_
              refine lv_if_ne (tgt := 128) hx hb dX4_fail_120 (by decide) (fun c_33 => ?_) (fun c_33 => ?_)
              · have kc_33 := bI_ne rfl L_0 c_33
                refine lv_bipush (v := (-2)) hx hb dX4_fail_128 (by decide) ?_
                exact W.iret (v := (-2)) hx hb hr (fun t ht hW => ⟨⟨(-2), ((up σ 1 s1_4), φ, γ_21, ψ_21), rfl, ⟨s1_4, rfl, rfl, (show (Int32.toInt (σ 1)) ≤ (Int32.toInt s1_4) ∧ (Int32.toInt s1_4) ≤ (Int32.toInt (σ 1)) + 1 from (by omega))⟩, (by show va_P _ _ _ _; rw [ht]; exact hP)⟩, hS.F ht⟩) hS.2.2 dX4_fail_130
              · have kc_33 := bI_eq rfl L_0 c_33
                refine lv_iload hx hb dX4_fail_123 (lv_at hl 0 rfl) ?_
                refine lv_goto (tgt := 130) hx hb dX4_fail_125 (by decide) ?_
                exact W.iret (v := r_4) hx hb hr (fun t ht hW => ⟨⟨r_4, ((up σ 1 s1_4), φ, γ_21, ψ_21), rfl, ⟨s1_4, rfl, rfl, (show (Int32.toInt (σ 1)) ≤ (Int32.toInt s1_4) ∧ (Int32.toInt s1_4) ≤ (Int32.toInt (σ 1)) + 1 from (by omega))⟩, (by show va_P _ _ _ _; rw [ht]; exact hP)⟩, hS.F ht⟩) hS.2.2 dX4_fail_130
            · have kc_32 := bI_eq rfl L_2 c_32
              refine lv_iconst (v := (-1)) hx hb dX4_fail_114 (by decide) ?_
              exact W.iret (v := (-1)) hx hb hr (fun t ht hW => ⟨⟨(-1), ((up σ 1 s1_4), φ, γ_21, ψ_21), rfl, ⟨s1_4, rfl, rfl, (show (Int32.toInt (σ 1)) ≤ (Int32.toInt s1_4) ∧ (Int32.toInt s1_4) ≤ (Int32.toInt (σ 1)) + 1 from (by omega))⟩, (by show va_P _ _ _ _; rw [ht]; exact hP)⟩, hS.F ht⟩) hS.2.2 dX4_fail_115
        · have kc_30 := bI_eq rfl L_3 c_30
          refine lv_aload_n hx hb dX4_fail_93 rfl (lv_at hl 2 rfl) ?_
          refine lv_iconst (v := 1) hx hb dX4_fail_94 (by decide) ?_
          refine cp_5_14 (v := 1) hx hb hts hinX4 hown hK hP hI hS (hts (.fieldLink RX4 71 "CensusDesk$Reader" "rejected" "Z") (List.mem_of_getElem? (i := 6) rfl)) (by first | rfl | decide) (by first | rfl | decide) dX4_fail_95 ?_
          clear hP hS; intro H locs hP hS
          refine lv_aload_n hx hb dX4_fail_98 rfl (lv_at hl 2 rfl) ?_
          refine cg_5_17 (v := (γ_21 7)) hx hb hts hinX4 hown hK hP (hts (.fieldLink RX4 182 "CensusDesk$Reader" "way" "I") (List.mem_of_getElem? (i := 2) rfl)) rfl dX4_fail_99 ?_
          refine lv_iconst (v := 1) hx hb dX4_fail_102 (by decide) ?_
          refine lv_icmp_eq (tgt := 114) hx hb dX4_fail_103 (by decide) (fun c_34 => ?_) (fun c_34 => ?_)
          · have kc_34 := bI_eq rfl L_1 c_34
            refine lv_iconst (v := (-1)) hx hb dX4_fail_114 (by decide) ?_
            exact W.iret (v := (-1)) hx hb hr (fun t ht hW => ⟨⟨(-1), ((up σ 1 s1_4), φ, (up γ_21 4 1), ψ_21), rfl, ⟨s1_4, rfl, rfl, (show (Int32.toInt (σ 1)) ≤ (Int32.toInt s1_4) ∧ (Int32.toInt s1_4) ≤ (Int32.toInt (σ 1)) + 1 from (by omega))⟩, (by show va_P _ _ _ _; rw [ht]; exact hP)⟩, hS.F ht⟩) hS.2.2 dX4_fail_115
          · have kc_34 := bI_ne rfl L_1 c_34
            refine lv_aload_n hx hb dX4_fail_106 rfl (lv_at hl 2 rfl) ?_
            refine cg_5_17 (v := (γ_21 7)) hx hb hts hinX4 hown hK hP (hts (.fieldLink RX4 182 "CensusDesk$Reader" "way" "I") (List.mem_of_getElem? (i := 2) rfl)) rfl dX4_fail_107 ?_
            refine lv_iconst (v := 2) hx hb dX4_fail_110 (by decide) ?_
            refine lv_icmp_ne (tgt := 116) hx hb dX4_fail_111 (by decide) (fun c_35 => ?_) (fun c_35 => ?_)
            · have kc_35 := bI_ne rfl L_2 c_35
              refine lv_aload_n hx hb dX4_fail_116 rfl (lv_at hl 2 rfl) ?_
              refine cg_5_17 (v := (γ_21 7)) hx hb hts hinX4 hown hK hP (hts (.fieldLink RX4 182 "CensusDesk$Reader" "way" "I") (List.mem_of_getElem? (i := 2) rfl)) rfl dX4_fail_117 ?_
              refine lv_if_ne (tgt := 128) hx hb dX4_fail_120 (by decide) (fun c_36 => ?_) (fun c_36 => ?_)
              · have kc_36 := bI_ne rfl L_0 c_36
                refine lv_bipush (v := (-2)) hx hb dX4_fail_128 (by decide) ?_
                exact W.iret (v := (-2)) hx hb hr (fun t ht hW => ⟨⟨(-2), ((up σ 1 s1_4), φ, (up γ_21 4 1), ψ_21), rfl, ⟨s1_4, rfl, rfl, (show (Int32.toInt (σ 1)) ≤ (Int32.toInt s1_4) ∧ (Int32.toInt s1_4) ≤ (Int32.toInt (σ 1)) + 1 from (by omega))⟩, (by show va_P _ _ _ _; rw [ht]; exact hP)⟩, hS.F ht⟩) hS.2.2 dX4_fail_130
              · have kc_36 := bI_eq rfl L_0 c_36
                refine lv_iload hx hb dX4_fail_123 (lv_at hl 0 rfl) ?_
                refine lv_goto (tgt := 130) hx hb dX4_fail_125 (by decide) ?_
                exact W.iret (v := r_4) hx hb hr (fun t ht hW => ⟨⟨r_4, ((up σ 1 s1_4), φ, (up γ_21 4 1), ψ_21), rfl, ⟨s1_4, rfl, rfl, (show (Int32.toInt (σ 1)) ≤ (Int32.toInt s1_4) ∧ (Int32.toInt s1_4) ≤ (Int32.toInt (σ 1)) + 1 from (by omega))⟩, (by show va_P _ _ _ _; rw [ht]; exact hP)⟩, hS.F ht⟩) hS.2.2 dX4_fail_130
            · have kc_35 := bI_eq rfl L_2 c_35
              refine lv_iconst (v := (-1)) hx hb dX4_fail_114 (by decide) ?_
              exact W.iret (v := (-1)) hx hb hr (fun t ht hW => ⟨⟨(-1), ((up σ 1 s1_4), φ, (up γ_21 4 1), ψ_21), rfl, ⟨s1_4, rfl, rfl, (show (Int32.toInt (σ 1)) ≤ (Int32.toInt s1_4) ∧ (Int32.toInt s1_4) ≤ (Int32.toInt (σ 1)) + 1 from (by omega))⟩, (by show va_P _ _ _ _; rw [ht]; exact hP)⟩, hS.F ht⟩) hS.2.2 dX4_fail_115
set_option maxHeartbeats 4000000 in
set_option maxRecDepth 100000 in
theorem c_X4_loseHousehold (l : Launch) (dC : Nat → ClassId) (dI : Nat → Nat → Nat) (a : Nat → Nat) (κ : Nat → ClassId) (σ : Nat → Int32) (φ : Nat → Nat → Int32) (γ : Nat → Int32) (ψ : Nat → Nat → Int32) (g1 g2 : Nat) (fate : Int32) (hc : 0 ≤ (Int32.toInt (σ 1)) ∧ (Int32.toInt (σ 1)) ≤ 2000000000) : Met l yX4_loseHousehold wsX4_loseHousehold ({ frames := 2, cells := 0, slots := 0, locals := 53 } : Room) (va_Pc [.ref (a 5), .int fate] (cPre dC dI a κ (σ, φ, γ, ψ) g1 g2)) (va_Qv (QV (fun S F => ∃ (s1 : Int32), (up σ 1 s1) = S ∧ φ = F ∧ ((Int32.toInt (σ 1)) ≤ (Int32.toInt s1) ∧ (Int32.toInt s1) ≤ (Int32.toInt (σ 1)) + 1))) (cB dC dI a κ) (cA a)) 0 0 (cA a) := by
  refine Met.ofW (cc := cX4_loseHousehold) (maxL := 2) (ret := none) (by decide) rfl ?_
  intro p e s m args below meth c s₁ B hml hv
  obtain ⟨rfl, hP, hK, hI, hN, hX⟩ := hv
  have hx := B.exec
  have hb := B.bytes
  have hr := B.returns
  have hts := atoms_spec (ws := wsX4_loseHousehold) B.pre
  have hown : s.vm.findClass RX4 = some m.cls := findClass_of_methodNamed B.named
  have hlocks := B.notSynchronized
  have hS : va_S (cA a) s.heap s.heap [] := va_S.rf
  have hinX4 : ∀ w ∈ wsX40, w ∈ wsX4_loseHousehold := fun _ h => List.mem_cons_of_mem _ (List.mem_append_left _ (List.mem_append_left _ (List.mem_append_left _ (List.mem_append_right _ h))))
  have hinX2 : ∀ w ∈ wsX20, w ∈ wsX4_loseHousehold := fun _ h => List.mem_cons_of_mem _ (List.mem_append_left _ (List.mem_append_left _ (List.mem_append_right _ h)))
  have hinX5 : ∀ w ∈ wsX50, w ∈ wsX4_loseHousehold := fun _ h => List.mem_cons_of_mem _ (List.mem_append_left _ (List.mem_append_right _ h))
  have hinX1 : ∀ w ∈ wsX10, w ∈ wsX4_loseHousehold := fun _ h => List.mem_cons_of_mem _ (List.mem_append_right _ h)
  have hl := lv_entry ([.ref (a 5), .int fate]) (n := 2) (Nat.le_of_ble_eq_true rfl)
  rw [lg_entry_eq]
  generalize (lg_sl ([.ref (a 5), .int fate]) ++ List.replicate (2 - (lg_sl ([.ref (a 5), .int fate])).length) Slot.unset).toArray = ls at hl ⊢
  have hl : lv_has ls 2 [(0, .ref (a 5)), (1, .int fate)] := hl
  refine lv_iload_n hx hb dX4_loseHousehold_0 rfl (lv_at hl 1 rfl) ?_
  refine lv_iconst (v := (-1)) hx hb dX4_loseHousehold_1 (by decide) ?_
  refine lv_icmp_ne (tgt := 6) hx hb dX4_loseHousehold_2 (by decide) (fun c_1 => ?_) (fun c_1 => ?_)
  · have kc_1 := bI_ne rfl L_m1 c_1
    refine lv_aload_n hx hb dX4_loseHousehold_6 rfl (lv_at hl 0 rfl) ?_
    refine cg_5_6 hx hb hts hinX4 hown hK hP (hts (.fieldLink RX4 28 "CensusDesk$Reader" "household" "LCensusDesk$Household;") (List.mem_of_getElem? (i := 1) rfl)) dX4_loseHousehold_7 ?_
    refine lv_iconst (v := 1) hx hb dX4_loseHousehold_10 (by decide) ?_
    refine cpN_8_7 (v := 1) hx hb hts hinX2 hown hK hP hI hS (va_Nw.use rfl (hN.1 ("CensusDesk$Reader", 135, "CensusDesk$Household", "lost", "Z") (List.mem_of_getElem? (i := 20) rfl))) (by first | rfl | decide) (by first | rfl | decide) dX4_loseHousehold_11 ?_
    clear hP hS; intro H locs hP hS
    refine lv_aload_n hx hb dX4_loseHousehold_14 rfl (lv_at hl 0 rfl) ?_
    refine lv_dup hx hb dX4_loseHousehold_15 rfl ?_
    refine cg_5_10 (v := (γ 2)) hx hb hts hinX4 hown hK hP (hts (.fieldLink RX4 59 "CensusDesk$Reader" "lost" "I") (List.mem_of_getElem? (i := 2) rfl)) rfl dX4_loseHousehold_16 ?_
    refine lv_iconst (v := 1) hx hb dX4_loseHousehold_19 (by decide) ?_
    refine lv_iadd hx hb dX4_loseHousehold_20 ?_
    refine lv_topi (fun z_2 ez_2 => ?_)
    refine cp_5_10 (v := z_2) hx hb hts hinX4 hown hK hP hI hS (hts (.fieldLink RX4 59 "CensusDesk$Reader" "lost" "I") (List.mem_of_getElem? (i := 2) rfl)) dX4_loseHousehold_21 ?_
    clear hP hS; intro H locs hP hS
    refine lv_iload_n hx hb dX4_loseHousehold_24 rfl (lv_at hl 1 rfl) ?_
    refine lv_if_lt (tgt := 43) hx hb dX4_loseHousehold_25 (by decide) (fun c_3 => ?_) (fun c_3 => ?_)
    · have kc_3 := bI_lt rfl L_0 c_3
      exact W.vret hx hb hr (fun t ht hW => ⟨⟨((up σ 1 (σ 1)), φ, (up (up γ 9 1) 2 z_2), ψ), rfl, ⟨(σ 1), rfl, rfl, (show (Int32.toInt (σ 1)) ≤ (Int32.toInt (σ 1)) ∧ (Int32.toInt (σ 1)) ≤ (Int32.toInt (σ 1)) + 1 from (by omega))⟩, (by show va_P _ _ _ _; rw [ht]; exact hP)⟩, hS.F ht⟩) hS.2.2 dX4_loseHousehold_43
    · have kc_3 := bI_nlt rfl L_0 c_3
      refine lv_aload_n hx hb dX4_loseHousehold_28 rfl (lv_at hl 0 rfl) ?_
      refine lv_bipush (v := 21) hx hb dX4_loseHousehold_29 (by decide) ?_
      refine lv_aload_n hx hb dX4_loseHousehold_31 rfl (lv_at hl 0 rfl) ?_
      refine cg_5_6 hx hb hts hinX4 hown hK hP (hts (.fieldLink RX4 28 "CensusDesk$Reader" "household" "LCensusDesk$Household;") (List.mem_of_getElem? (i := 1) rfl)) dX4_loseHousehold_32 ?_
      refine cgN_8_8 (v := (γ 10)) hx hb hts hinX2 hown hK hP (va_Nw.use rfl (hN.1 ("CensusDesk$Reader", 239, "CensusDesk$Household", "start", "I") (List.mem_of_getElem? (i := 21) rfl))) rfl dX4_loseHousehold_35 ?_
      refine lv_iload_n hx hb dX4_loseHousehold_38 rfl (lv_at hl 1 rfl) ?_
      refine c_calli (va_runV (As := [.int 21, .int (γ 10), .int fate]) (rest := []) ⟨hx, hb, hml, hown, hts⟩ (c_X4_fail l dC dI a κ σ φ (up (up γ 9 1) 2 z_2) ψ g1 g2 21 (γ 10) fate (show 0 ≤ (Int32.toInt (σ 1)) ∧ (Int32.toInt (σ 1)) ≤ 2000000000 from (by omega))) (cwV 3 hts gX4_loseHousehold_X4_fail rfl rfl rfl ⟨rfl, hd_X4_fail⟩ ⟨Nat.le_of_ble_eq_true rfl, Nat.le_of_ble_eq_true rfl⟩) (cPreV hP hK hI hN hX hS (va_recv hK hP (ci := 4) (q0 := 5) rfl rfl)) rfl rfl hl.1 rfl (lv_room (Nat.le_of_ble_eq_true rfl)) dX4_loseHousehold_39 ⟨(by decide +kernel), (by decide +kernel)⟩) hS ?_
      clear hP hS; intro r_4 S_4 F_4 γ_4 ψ_4 H locs hw hP hS
      obtain ⟨s1_4, rfl, rfl, (qc_4 : (Int32.toInt (σ 1)) ≤ (Int32.toInt s1_4) ∧ (Int32.toInt s1_4) ≤ (Int32.toInt (σ 1)) + 1)⟩ := hw
      have hL21_4 := L_21
      refine lv_pop hx hb dX4_loseHousehold_42 rfl ?_
      exact W.vret hx hb hr (fun t ht hW => ⟨⟨((up σ 1 s1_4), φ, γ_4, ψ_4), rfl, ⟨s1_4, rfl, rfl, (show (Int32.toInt (σ 1)) ≤ (Int32.toInt s1_4) ∧ (Int32.toInt s1_4) ≤ (Int32.toInt (σ 1)) + 1 from (by omega))⟩, (by show va_P _ _ _ _; rw [ht]; exact hP)⟩, hS.F ht⟩) hS.2.2 dX4_loseHousehold_43
  · have kc_1 := bI_eq rfl L_m1 c_1
    exact W.vret hx hb hr (fun t ht hW => ⟨⟨((up σ 1 (σ 1)), φ, γ, ψ), rfl, ⟨(σ 1), rfl, rfl, (show (Int32.toInt (σ 1)) ≤ (Int32.toInt (σ 1)) ∧ (Int32.toInt (σ 1)) ≤ (Int32.toInt (σ 1)) + 1 from (by omega))⟩, (by show va_P _ _ _ _; rw [ht]; exact hP)⟩, hS.F ht⟩) hS.2.2 dX4_loseHousehold_5
set_option maxHeartbeats 4000000 in
set_option maxRecDepth 100000 in
theorem c_X4_isOwn (l : Launch) (dC : Nat → ClassId) (dI : Nat → Nat → Nat) (a : Nat → Nat) (κ : Nat → ClassId) (σ : Nat → Int32) (φ : Nat → Nat → Int32) (γ : Nat → Int32) (ψ : Nat → Nat → Int32) (g1 g2 : Nat) (sign : Int32) : Met l yX4_isOwn wsX4_isOwn ({ frames := 0, cells := 0, slots := 0, locals := 0 } : Room) (va_Pc [.int sign] (cPre dC dI a κ (σ, φ, γ, ψ) g1 g2)) (va_Qi (QI (fun r S F => σ = S ∧ φ = F ∧ True)) (cB dC dI a κ) (cA a)) 0 0 (cA a) := by
  refine Met.ofW (cc := cX4_isOwn) (maxL := 1) (ret := (some .boolean)) (by decide) rfl ?_
  intro p e s m args below meth c s₁ B hml hv
  obtain ⟨rfl, hP, hK, hI, hN, hX⟩ := hv
  have hx := B.exec
  have hb := B.bytes
  have hr := B.returns
  have hts := atoms_spec (ws := wsX4_isOwn) B.pre
  have hown : s.vm.findClass RX4 = some m.cls := findClass_of_methodNamed B.named
  have hlocks := B.notSynchronized
  have hS : va_S (cA a) s.heap s.heap [] := va_S.rf
  have hl := lv_entry ([.int sign]) (n := 1) (Nat.le_of_ble_eq_true rfl)
  rw [lg_entry_eq]
  generalize (lg_sl ([.int sign]) ++ List.replicate (1 - (lg_sl ([.int sign])).length) Slot.unset).toArray = ls at hl ⊢
  have hl : lv_has ls 1 [(0, .int sign)] := hl
  refine lv_iload_n hx hb dX4_isOwn_0 rfl (lv_at hl 0 rfl) ?_
  refine lv_bipush (v := 32) hx hb dX4_isOwn_1 (by decide) ?_
  refine lv_icmp_lt (tgt := 16) hx hb dX4_isOwn_3 (by decide) (fun c_1 => ?_) (fun c_1 => ?_)
  · have kc_1 := bI_lt rfl L_32 c_1
    refine lv_iconst (v := 0) hx hb dX4_isOwn_16 (by decide) ?_
    exact W.zret (v := 0) hx hb hr (by first | rfl | decide) (fun t ht hW => ⟨⟨0, (σ, φ, γ, ψ), rfl, ⟨rfl, rfl, trivial⟩, (by show va_P _ _ _ _; rw [ht]; exact hP)⟩, hS.F ht⟩) hS.2.2 dX4_isOwn_17
  · have kc_1 := bI_nlt rfl L_32 c_1
    refine lv_iload_n hx hb dX4_isOwn_6 rfl (lv_at hl 0 rfl) ?_
    refine lv_bipush (v := 126) hx hb dX4_isOwn_7 (by decide) ?_
    refine lv_icmp_gt (tgt := 16) hx hb dX4_isOwn_9 (by decide) (fun c_2 => ?_) (fun c_2 => ?_)
    · have kc_2 := bI_lt L_126 rfl c_2
      refine lv_iconst (v := 0) hx hb dX4_isOwn_16 (by decide) ?_
      exact W.zret (v := 0) hx hb hr (by first | rfl | decide) (fun t ht hW => ⟨⟨0, (σ, φ, γ, ψ), rfl, ⟨rfl, rfl, trivial⟩, (by show va_P _ _ _ _; rw [ht]; exact hP)⟩, hS.F ht⟩) hS.2.2 dX4_isOwn_17
    · have kc_2 := bI_nlt L_126 rfl c_2
      refine lv_iconst (v := 1) hx hb dX4_isOwn_12 (by decide) ?_
      refine lv_goto (tgt := 17) hx hb dX4_isOwn_13 (by decide) ?_
      exact W.zret (v := 1) hx hb hr (by first | rfl | decide) (fun t ht hW => ⟨⟨1, (σ, φ, γ, ψ), rfl, ⟨rfl, rfl, trivial⟩, (by show va_P _ _ _ _; rw [ht]; exact hP)⟩, hS.F ht⟩) hS.2.2 dX4_isOwn_17
set_option maxHeartbeats 4000000 in
set_option maxRecDepth 100000 in
theorem c_X4_isHouseholdsEnd (l : Launch) (dC : Nat → ClassId) (dI : Nat → Nat → Nat) (a : Nat → Nat) (κ : Nat → ClassId) (σ : Nat → Int32) (φ : Nat → Nat → Int32) (γ : Nat → Int32) (ψ : Nat → Nat → Int32) (g1 g2 : Nat)  (hlen : 0 ≤ (Int32.toInt (σ 0)) ∧ (Int32.toInt (σ 0)) ≤ 4000) : Met l yX4_isHouseholdsEnd wsX4_isHouseholdsEnd ({ frames := 1, cells := 0, slots := 0, locals := 21 } : Room) (va_Pc [.ref (a 5)] (cPre dC dI a κ (σ, φ, γ, ψ) g1 g2)) (va_Qi (QI (fun r S F => σ = S ∧ φ = F ∧ ((Int32.toInt r) ≠ 0 ∨ (Int32.toInt (tat (σ 0) (φ 0) (σ 18))) ≠ 83))) (cB dC dI a κ) (cA a)) 0 0 (cA a) := by
  refine Met.ofW (cc := cX4_isHouseholdsEnd) (maxL := 2) (ret := (some .boolean)) (by decide) rfl ?_
  intro p e s m args below meth c s₁ B hml hv
  obtain ⟨rfl, hP, hK, hI, hN, hX⟩ := hv
  have hx := B.exec
  have hb := B.bytes
  have hr := B.returns
  have hts := atoms_spec (ws := wsX4_isHouseholdsEnd) B.pre
  have hown : s.vm.findClass RX4 = some m.cls := findClass_of_methodNamed B.named
  have hlocks := B.notSynchronized
  have hS : va_S (cA a) s.heap s.heap [] := va_S.rf
  have hinX4 : ∀ w ∈ wsX40, w ∈ wsX4_isHouseholdsEnd := fun _ h => List.mem_cons_of_mem _ (List.mem_append_left _ (List.mem_append_right _ h))
  have hinX7 : ∀ w ∈ wsX70, w ∈ wsX4_isHouseholdsEnd := fun _ h => List.mem_cons_of_mem _ (List.mem_append_right _ h)
  have hl := lv_entry ([.ref (a 5)]) (n := 2) (Nat.le_of_ble_eq_true rfl)
  rw [lg_entry_eq]
  generalize (lg_sl ([.ref (a 5)]) ++ List.replicate (2 - (lg_sl ([.ref (a 5)])).length) Slot.unset).toArray = ls at hl ⊢
  have hl : lv_has ls 2 [(0, .ref (a 5))] := hl
  refine lv_aload_n hx hb dX4_isHouseholdsEnd_0 rfl (lv_at hl 0 rfl) ?_
  refine cg_5_0 hx hb hts hinX4 hown hK hP (hts (.fieldLink RX4 36 "CensusDesk$Reader" "tape" "LCensusDesk$Tape;") (List.mem_of_getElem? (i := 1) rfl)) dX4_isHouseholdsEnd_1 ?_
  refine lv_aload_n hx hb dX4_isHouseholdsEnd_4 rfl (lv_at hl 0 rfl) ?_
  refine cg_5_12 (v := (σ 18)) hx hb hts hinX4 hown hK hP (hts (.fieldLink RX4 65 "CensusDesk$Reader" "position" "I") (List.mem_of_getElem? (i := 2) rfl)) rfl dX4_isHouseholdsEnd_5 ?_
  refine c_calli (va_runV (As := [.int (σ 18)]) (rest := []) ⟨hx, hb, hml, hown, hts⟩ (c_X7_at l dC dI a κ σ φ γ ψ g1 g2 (σ 18) (show 0 ≤ (Int32.toInt (σ 0)) ∧ (Int32.toInt (σ 0)) ≤ 4000 from (by omega))) (cwV 1 hts gX4_isHouseholdsEnd_X7_at rfl rfl rfl ⟨rfl, hd_X7_at⟩ ⟨Nat.le_of_ble_eq_true rfl, Nat.le_of_ble_eq_true rfl⟩) (cPreV hP hK hI hN hX hS (va_recv hK hP (ci := 7) (q0 := 1) rfl rfl)) rfl rfl hl.1 rfl (lv_room (Nat.le_of_ble_eq_true rfl)) dX4_isHouseholdsEnd_8 ⟨(by decide +kernel), (by decide +kernel)⟩) hS ?_
  clear hP hS; intro r_1 S_1 F_1 γ_1 ψ_1 H locs hw hP hS
  obtain ⟨rfl, rfl, (ra_1 : r_1 = tat (σ 0) (φ 0) (σ 18))⟩ := hw
  have et : Int32.toInt r_1 = (Int32.toInt (tat (σ 0) (φ 0) (σ 18))) := congrArg Int32.toInt ra_1
  refine lv_istore_n (lv' := [(1, .int r_1), (0, .ref (a 5))]) hx hb dX4_isHouseholdsEnd_11 rfl hl (by decide) rfl ?_
  clear hl; intro ls hl
  refine lv_iload_n hx hb dX4_isHouseholdsEnd_12 rfl (lv_at hl 0 rfl) ?_
  refine lv_if_lt (tgt := 28) hx hb dX4_isHouseholdsEnd_13 (by decide) (fun c_2 => ?_) (fun c_2 => ?_)
  · have kc_2 := bI_lt rfl L_0 c_2
    refine lv_iconst (v := 1) hx hb dX4_isHouseholdsEnd_28 (by decide) ?_
    refine lv_goto (tgt := 33) hx hb dX4_isHouseholdsEnd_29 (by decide) ?_
    exact W.zret (v := 1) hx hb hr (by first | rfl | decide) (fun t ht hW => ⟨⟨1, (σ, φ, γ_1, ψ_1), rfl, ⟨rfl, rfl, (show (Int32.toInt 1) ≠ 0 ∨ (Int32.toInt (tat (σ 0) (φ 0) (σ 18))) ≠ 83 from (by have := L_1; omega))⟩, (by show va_P _ _ _ _; rw [ht]; exact hP)⟩, hS.F ht⟩) hS.2.2 dX4_isHouseholdsEnd_33
  · have kc_2 := bI_nlt rfl L_0 c_2
    refine lv_iload_n hx hb dX4_isHouseholdsEnd_16 rfl (lv_at hl 0 rfl) ?_
    refine lv_bipush (v := 72) hx hb dX4_isHouseholdsEnd_17 (by decide) ?_
    refine lv_icmp_eq (tgt := 28) hx hb dX4_isHouseholdsEnd_19 (by decide) (fun c_3 => ?_) (fun c_3 => ?_)
    · have kc_3 := bI_eq rfl L_72 c_3
      refine lv_iconst (v := 1) hx hb dX4_isHouseholdsEnd_28 (by decide) ?_
      refine lv_goto (tgt := 33) hx hb dX4_isHouseholdsEnd_29 (by decide) ?_
      exact W.zret (v := 1) hx hb hr (by first | rfl | decide) (fun t ht hW => ⟨⟨1, (σ, φ, γ_1, ψ_1), rfl, ⟨rfl, rfl, (show (Int32.toInt 1) ≠ 0 ∨ (Int32.toInt (tat (σ 0) (φ 0) (σ 18))) ≠ 83 from (by have := L_1; omega))⟩, (by show va_P _ _ _ _; rw [ht]; exact hP)⟩, hS.F ht⟩) hS.2.2 dX4_isHouseholdsEnd_33
    · have kc_3 := bI_ne rfl L_72 c_3
      refine lv_iload_n hx hb dX4_isHouseholdsEnd_22 rfl (lv_at hl 0 rfl) ?_
      refine lv_bipush (v := 83) hx hb dX4_isHouseholdsEnd_23 (by decide) ?_
      refine lv_icmp_ne (tgt := 32) hx hb dX4_isHouseholdsEnd_25 (by decide) (fun c_4 => ?_) (fun c_4 => ?_)
      · have kc_4 := bI_ne rfl L_83 c_4
        refine lv_iconst (v := 0) hx hb dX4_isHouseholdsEnd_32 (by decide) ?_
        exact W.zret (v := 0) hx hb hr (by first | rfl | decide) (fun t ht hW => ⟨⟨0, (σ, φ, γ_1, ψ_1), rfl, ⟨rfl, rfl, (show (Int32.toInt 0) ≠ 0 ∨ (Int32.toInt (tat (σ 0) (φ 0) (σ 18))) ≠ 83 from (by have := L_0; omega))⟩, (by show va_P _ _ _ _; rw [ht]; exact hP)⟩, hS.F ht⟩) hS.2.2 dX4_isHouseholdsEnd_33
      · have kc_4 := bI_eq rfl L_83 c_4
        refine lv_iconst (v := 1) hx hb dX4_isHouseholdsEnd_28 (by decide) ?_
        refine lv_goto (tgt := 33) hx hb dX4_isHouseholdsEnd_29 (by decide) ?_
        exact W.zret (v := 1) hx hb hr (by first | rfl | decide) (fun t ht hW => ⟨⟨1, (σ, φ, γ_1, ψ_1), rfl, ⟨rfl, rfl, (show (Int32.toInt 1) ≠ 0 ∨ (Int32.toInt (tat (σ 0) (φ 0) (σ 18))) ≠ 83 from (by have := L_1; omega))⟩, (by show va_P _ _ _ _; rw [ht]; exact hP)⟩, hS.F ht⟩) hS.2.2 dX4_isHouseholdsEnd_33
set_option maxHeartbeats 4000000 in
set_option maxRecDepth 100000 in
theorem c_X4_findNextLine (l : Launch) (dC : Nat → ClassId) (dI : Nat → Nat → Nat) (a : Nat → Nat) (κ : Nat → ClassId) (σ : Nat → Int32) (φ : Nat → Nat → Int32) (γ : Nat → Int32) (ψ : Nat → Nat → Int32) (g1 g2 : Nat)  (p_line_cellStart : PtR 0 4000 (φ 1)) (p_line_cellEnd : PtR 0 4000 (φ 2)) (p_hh_nameLength : PtR 0 30 (φ 3)) (hlen : 0 ≤ (Int32.toInt (σ 0)) ∧ (Int32.toInt (σ 0)) ≤ 4000) (hpos : 0 ≤ (Int32.toInt (σ 18)) ∧ (Int32.toInt (σ 18)) < (Int32.toInt (σ 0))) (hp : 0 ≤ (Int32.toInt (σ 9)) ∧ (Int32.toInt (σ 9)) ≤ 2000 ∧ 0 ≤ (Int32.toInt (σ 10)) ∧ (Int32.toInt (σ 10)) ≤ 30 * (Int32.toInt (σ 9))) : Met l yX4_findNextLine wsX4_findNextLine ({ frames := 3, cells := 0, slots := 0, locals := 67 } : Room) (va_Pc [.ref (a 5)] (cPre dC dI a κ (σ, φ, γ, ψ) g1 g2)) (va_Qi (QI (fun r S F => ∃ (s2 : Int32) (s3 : Int32) (s4 : Int32) (s5 : Int32) (s6 : Int32) (f1 : Nat → Int32) (f2 : Nat → Int32) (s18 : Int32) (s8 : Int32) (s9 : Int32) (s10 : Int32) (f3 : Nat → Int32), (up (up (up (up (up (up (up (up (up σ 2 s2) 3 s3) 4 s4) 5 s5) 6 s6) 18 s18) 8 s8) 9 s9) 10 s10) = S ∧ (up (up (up φ 1 f1) 2 f2) 3 f3) = F ∧ PtR 0 4000 f1 ∧ PtR 0 4000 f2 ∧ PtR 0 30 f3 ∧ ((Int32.toInt (σ 18)) + 1 ≤ (Int32.toInt s18) ∧ (Int32.toInt s18) ≤ (Int32.toInt (σ 0)) ∧ 0 ≤ (Int32.toInt s3) ∧ (Int32.toInt s3) ≤ 4000) ∧ (0 ≤ (Int32.toInt s9) ∧ (Int32.toInt s9) ≤ 2000 ∧ 0 ≤ (Int32.toInt s10) ∧ (Int32.toInt s10) ≤ 30 * (Int32.toInt s9)) ∧ (((Int32.toInt s6) = 72 ∧ (Int32.toInt s8) ≠ 0) ∨ ((Int32.toInt s6) ≠ 72 ∧ (Int32.toInt s8) = (Int32.toInt (σ 8)))) ∧ ((Int32.toInt s6) = (Int32.toInt (tat (σ 0) (φ 0) (σ 18)))))) (cB dC dI a κ) (cA a)) 0 0 (cA a) := by
  refine Met.ofW (cc := cX4_findNextLine) (maxL := 1) (ret := (some .boolean)) (by decide) rfl ?_
  intro p e s m args below meth c s₁ B hml hv
  obtain ⟨rfl, hP, hK, hI, hN, hX⟩ := hv
  have hx := B.exec
  have hb := B.bytes
  have hr := B.returns
  have hts := atoms_spec (ws := wsX4_findNextLine) B.pre
  have hown : s.vm.findClass RX4 = some m.cls := findClass_of_methodNamed B.named
  have hlocks := B.notSynchronized
  have hS : va_S (cA a) s.heap s.heap [] := va_S.rf
  have hinX4 : ∀ w ∈ wsX40, w ∈ wsX4_findNextLine := fun _ h => List.mem_cons_of_mem _ (List.mem_append_left _ (List.mem_append_left _ (List.mem_append_left _ (List.mem_append_left _ (List.mem_append_right _ h)))))
  have hinX3 : ∀ w ∈ wsX30, w ∈ wsX4_findNextLine := fun _ h => List.mem_cons_of_mem _ (List.mem_append_left _ (List.mem_append_left _ (List.mem_append_left _ (List.mem_append_right _ h))))
  have hinX2 : ∀ w ∈ wsX20, w ∈ wsX4_findNextLine := fun _ h => List.mem_cons_of_mem _ (List.mem_append_left _ (List.mem_append_left _ (List.mem_append_right _ h)))
  have hinX7 : ∀ w ∈ wsX70, w ∈ wsX4_findNextLine := fun _ h => List.mem_cons_of_mem _ (List.mem_append_left _ (List.mem_append_right _ h))
  have hinX1 : ∀ w ∈ wsX10, w ∈ wsX4_findNextLine := fun _ h => List.mem_cons_of_mem _ (List.mem_append_right _ h)
  have hl := lv_entry ([.ref (a 5)]) (n := 1) (Nat.le_of_ble_eq_true rfl)
  rw [lg_entry_eq]
  generalize (lg_sl ([.ref (a 5)]) ++ List.replicate (1 - (lg_sl ([.ref (a 5)])).length) Slot.unset).toArray = ls at hl ⊢
  have hl : lv_has ls 1 [(0, .ref (a 5))] := hl
  refine lv_aload_n hx hb dX4_findNextLine_0 rfl (lv_at hl 0 rfl) ?_
  refine cg_5_4 hx hb hts hinX4 hown hK hP (hts (.fieldLink RX4 12 "CensusDesk$Reader" "line" "LCensusDesk$Line;") (List.mem_of_getElem? (i := 1) rfl)) dX4_findNextLine_1 ?_
  refine lv_aload_n hx hb dX4_findNextLine_4 rfl (lv_at hl 0 rfl) ?_
  refine cg_5_0 hx hb hts hinX4 hown hK hP (hts (.fieldLink RX4 36 "CensusDesk$Reader" "tape" "LCensusDesk$Tape;") (List.mem_of_getElem? (i := 2) rfl)) dX4_findNextLine_5 ?_
  refine lv_aload_n hx hb dX4_findNextLine_8 rfl (lv_at hl 0 rfl) ?_
  refine cg_5_12 (v := (σ 18)) hx hb hts hinX4 hown hK hP (hts (.fieldLink RX4 65 "CensusDesk$Reader" "position" "I") (List.mem_of_getElem? (i := 3) rfl)) rfl dX4_findNextLine_9 ?_
  refine c_callv (va_runV (As := [.ref (a 1), .int (σ 18)]) (rest := []) ⟨hx, hb, hml, hown, hts⟩ (c_X3_find l dC dI a κ σ φ γ ψ g1 g2 (σ 18) p_line_cellStart p_line_cellEnd (show 0 ≤ (Int32.toInt (σ 0)) ∧ (Int32.toInt (σ 0)) ≤ 4000 from (by omega)) (show 0 ≤ (Int32.toInt (σ 18)) ∧ (Int32.toInt (σ 18)) < (Int32.toInt (σ 0)) from (by omega))) (cwV 2 hts gX4_findNextLine_X3_find rfl rfl rfl ⟨rfl, hd_X3_find⟩ ⟨Nat.le_of_ble_eq_true rfl, Nat.le_of_ble_eq_true rfl⟩) (cPreV hP hK hI hN hX hS (va_recv hK hP (ci := 3) (q0 := 6) rfl rfl)) rfl rfl hl.1 rfl (lv_room (Nat.le_of_ble_eq_true rfl)) dX4_findNextLine_12 ⟨(by decide +kernel), (by decide +kernel)⟩) hS ?_
  clear hP hS; intro S_1 F_1 γ_1 ψ_1 H locs hw hP hS
  obtain ⟨s2_1, s3_1, s4_1, s5_1, s6_1, f1_1, f2_1, rfl, rfl, pf1_1, pf2_1, (ql_1 : (Int32.toInt s2_1) = (Int32.toInt (σ 18)) ∧ (Int32.toInt (σ 18)) ≤ (Int32.toInt s3_1) ∧ (Int32.toInt s3_1) ≤ (Int32.toInt (σ 0)) ∧ (Int32.toInt (σ 18)) + 1 ≤ (Int32.toInt s4_1) ∧ (Int32.toInt s4_1) ≤ (Int32.toInt (σ 0))), (qs_1 : s6_1 = tat (σ 0) (φ 0) (σ 18))⟩ := hw
  have et : (Int32.toInt s6_1) = (Int32.toInt (tat (σ 0) (φ 0) (σ 18))) := congrArg Int32.toInt qs_1
  refine lv_aload_n hx hb dX4_findNextLine_15 rfl (lv_at hl 0 rfl) ?_
  refine lv_aload_n hx hb dX4_findNextLine_16 rfl (lv_at hl 0 rfl) ?_
  refine cg_5_4 hx hb hts hinX4 hown hK hP (hts (.fieldLink RX4 12 "CensusDesk$Reader" "line" "LCensusDesk$Line;") (List.mem_of_getElem? (i := 1) rfl)) dX4_findNextLine_17 ?_
  refine cgN_6_4 (v := s4_1) hx hb hts hinX3 hown hK hP (va_Nw.use rfl (hN.1 ("CensusDesk$Reader", 118, "CensusDesk$Line", "behind", "I") (List.mem_of_getElem? (i := 11) rfl))) rfl dX4_findNextLine_20 ?_
  refine cp_5_12 (v := s4_1) hx hb hts hinX4 hown hK hP hI hS (hts (.fieldLink RX4 65 "CensusDesk$Reader" "position" "I") (List.mem_of_getElem? (i := 3) rfl)) dX4_findNextLine_23 ?_
  clear hP hS; intro H locs hP hS
  refine lv_aload_n hx hb dX4_findNextLine_26 rfl (lv_at hl 0 rfl) ?_
  refine cg_5_4 hx hb hts hinX4 hown hK hP (hts (.fieldLink RX4 12 "CensusDesk$Reader" "line" "LCensusDesk$Line;") (List.mem_of_getElem? (i := 1) rfl)) dX4_findNextLine_27 ?_
  refine cgN_6_6 (v := s6_1) hx hb hts hinX3 hown hK hP (va_Nw.use rfl (hN.1 ("CensusDesk$Reader", 121, "CensusDesk$Line", "sort", "I") (List.mem_of_getElem? (i := 13) rfl))) rfl dX4_findNextLine_30 ?_
  refine lv_bipush (v := 72) hx hb dX4_findNextLine_33 (by decide) ?_
  refine lv_icmp_ne (tgt := 59) hx hb dX4_findNextLine_35 (by decide) (fun c_2 => ?_) (fun c_2 => ?_)
  · have kc_2 := bI_ne rfl L_72 c_2
    refine lv_aload_n hx hb dX4_findNextLine_59 rfl (lv_at hl 0 rfl) ?_
    refine cg_5_6 hx hb hts hinX4 hown hK hP (hts (.fieldLink RX4 28 "CensusDesk$Reader" "household" "LCensusDesk$Household;") (List.mem_of_getElem? (i := 4) rfl)) dX4_findNextLine_60 ?_
    refine cgN_8_6 (v := (σ 8)) hx hb hts hinX2 hown hK hP (va_Nw.use rfl (hN.1 ("CensusDesk$Reader", 81, "CensusDesk$Household", "open", "Z") (List.mem_of_getElem? (i := 19) rfl))) rfl dX4_findNextLine_63 ?_
    refine lv_if_eq (tgt := 81) hx hb dX4_findNextLine_66 (by decide) (fun c_3 => ?_) (fun c_3 => ?_)
    · have kc_3 := bI_eq rfl L_0 c_3
      refine lv_aload_n hx hb dX4_findNextLine_81 rfl (lv_at hl 0 rfl) ?_
      refine cg_5_6 hx hb hts hinX4 hown hK hP (hts (.fieldLink RX4 28 "CensusDesk$Reader" "household" "LCensusDesk$Household;") (List.mem_of_getElem? (i := 4) rfl)) dX4_findNextLine_82 ?_
      refine c_callv (va_runV (As := []) (rest := []) ⟨hx, hb, hml, hown, hts⟩ (c_X2_forgetNewcomer l dC dI a κ (up (up (up (up (up (up σ 2 s2_1) 3 s3_1) 4 s4_1) 5 s5_1) 6 s6_1) 18 s4_1) (up (up φ 1 f1_1) 2 f2_1) γ_1 ψ_1 g1 g2  p_hh_nameLength (show 0 ≤ (Int32.toInt (σ 9)) ∧ (Int32.toInt (σ 9)) ≤ 2000 ∧ 0 ≤ (Int32.toInt (σ 10)) ∧ (Int32.toInt (σ 10)) ≤ 30 * (Int32.toInt (σ 9)) from (by omega))) (cwV 0 hts gX4_findNextLine_X2_forgetNewcomer rfl rfl rfl ⟨rfl, hd_X2_forgetNewcomer⟩ ⟨Nat.le_of_ble_eq_true rfl, Nat.le_of_ble_eq_true rfl⟩) (cPreV hP hK hI hN hX hS (va_recv hK hP (ci := 2) (q0 := 8) rfl rfl)) rfl rfl hl.1 rfl (lv_room (Nat.le_of_ble_eq_true rfl)) dX4_findNextLine_85 ⟨(by decide +kernel), (by decide +kernel)⟩) hS ?_
      clear hP hS; intro S_4 F_4 γ_4 ψ_4 H locs hw hP hS
      obtain ⟨f3_4, rfl, rfl, pf3_4⟩ := hw
      refine lv_aload_n hx hb dX4_findNextLine_88 rfl (lv_at hl 0 rfl) ?_
      refine lv_dup hx hb dX4_findNextLine_89 rfl ?_
      refine cg_5_8 (v := (γ_4 1)) hx hb hts hinX4 hown hK hP (hts (.fieldLink RX4 52 "CensusDesk$Reader" "linesRead" "I") (List.mem_of_getElem? (i := 6) rfl)) rfl dX4_findNextLine_90 ?_
      refine lv_iconst (v := 1) hx hb dX4_findNextLine_93 (by decide) ?_
      refine lv_iadd hx hb dX4_findNextLine_94 ?_
      refine lv_topi (fun z_5 ez_5 => ?_)
      refine cp_5_8 (v := z_5) hx hb hts hinX4 hown hK hP hI hS (hts (.fieldLink RX4 52 "CensusDesk$Reader" "linesRead" "I") (List.mem_of_getElem? (i := 6) rfl)) dX4_findNextLine_95 ?_
      clear hP hS; intro H locs hP hS
      refine lv_iconst (v := 1) hx hb dX4_findNextLine_98 (by decide) ?_
      exact W.zret (v := 1) hx hb hr (by first | rfl | decide) (fun t ht hW => ⟨⟨1, ((up (up (up (up (up (up (up (up (up σ 2 s2_1) 3 s3_1) 4 s4_1) 5 s5_1) 6 s6_1) 18 s4_1) 8 (σ 8)) 9 (σ 9)) 10 (σ 10)), (up (up (up φ 1 f1_1) 2 f2_1) 3 f3_4), (up γ_4 1 z_5), ψ_4), rfl, ⟨s2_1, s3_1, s4_1, s5_1, s6_1, f1_1, f2_1, s4_1, (σ 8), (σ 9), (σ 10), f3_4, rfl, rfl, pf1_1, pf2_1, pf3_4, (show (Int32.toInt (σ 18)) + 1 ≤ (Int32.toInt s4_1) ∧ (Int32.toInt s4_1) ≤ (Int32.toInt (σ 0)) ∧ 0 ≤ (Int32.toInt s3_1) ∧ (Int32.toInt s3_1) ≤ 4000 from (by omega)), (show 0 ≤ (Int32.toInt (σ 9)) ∧ (Int32.toInt (σ 9)) ≤ 2000 ∧ 0 ≤ (Int32.toInt (σ 10)) ∧ (Int32.toInt (σ 10)) ≤ 30 * (Int32.toInt (σ 9)) from (by omega)), (show ((Int32.toInt s6_1) = 72 ∧ (Int32.toInt (σ 8)) ≠ 0) ∨ ((Int32.toInt s6_1) ≠ 72 ∧ (Int32.toInt (σ 8)) = (Int32.toInt (σ 8))) from (by omega)), (show (Int32.toInt s6_1) = (Int32.toInt (tat (σ 0) (φ 0) (σ 18))) from (by omega))⟩, (by show va_P _ _ _ _; rw [ht]; exact hP)⟩, hS.F ht⟩) hS.2.2 dX4_findNextLine_99
    · have kc_3 := bI_ne rfl L_0 c_3
      refine lv_aload_n hx hb dX4_findNextLine_69 rfl (lv_at hl 0 rfl) ?_
      refine cg_5_6 hx hb hts hinX4 hown hK hP (hts (.fieldLink RX4 28 "CensusDesk$Reader" "household" "LCensusDesk$Household;") (List.mem_of_getElem? (i := 4) rfl)) dX4_findNextLine_70 ?_
      refine cgN_8_7 (v := (γ_1 9)) hx hb hts hinX2 hown hK hP (va_Nw.use rfl (hN.1 ("CensusDesk$Reader", 135, "CensusDesk$Household", "lost", "Z") (List.mem_of_getElem? (i := 20) rfl))) rfl dX4_findNextLine_73 ?_
      refine lv_if_eq (tgt := 81) hx hb dX4_findNextLine_76 (by decide) (fun c_6 => ?_) (fun c_6 => ?_)
      · have kc_6 := bI_eq rfl L_0 c_6
        refine lv_aload_n hx hb dX4_findNextLine_81 rfl (lv_at hl 0 rfl) ?_
        refine cg_5_6 hx hb hts hinX4 hown hK hP (hts (.fieldLink RX4 28 "CensusDesk$Reader" "household" "LCensusDesk$Household;") (List.mem_of_getElem? (i := 4) rfl)) dX4_findNextLine_82 ?_
        refine c_callv (va_runV (As := []) (rest := []) ⟨hx, hb, hml, hown, hts⟩ (c_X2_forgetNewcomer l dC dI a κ (up (up (up (up (up (up σ 2 s2_1) 3 s3_1) 4 s4_1) 5 s5_1) 6 s6_1) 18 s4_1) (up (up φ 1 f1_1) 2 f2_1) γ_1 ψ_1 g1 g2  p_hh_nameLength (show 0 ≤ (Int32.toInt (σ 9)) ∧ (Int32.toInt (σ 9)) ≤ 2000 ∧ 0 ≤ (Int32.toInt (σ 10)) ∧ (Int32.toInt (σ 10)) ≤ 30 * (Int32.toInt (σ 9)) from (by omega))) (cwV 0 hts gX4_findNextLine_X2_forgetNewcomer rfl rfl rfl ⟨rfl, hd_X2_forgetNewcomer⟩ ⟨Nat.le_of_ble_eq_true rfl, Nat.le_of_ble_eq_true rfl⟩) (cPreV hP hK hI hN hX hS (va_recv hK hP (ci := 2) (q0 := 8) rfl rfl)) rfl rfl hl.1 rfl (lv_room (Nat.le_of_ble_eq_true rfl)) dX4_findNextLine_85 ⟨(by decide +kernel), (by decide +kernel)⟩) hS ?_
        clear hP hS; intro S_7 F_7 γ_7 ψ_7 H locs hw hP hS
        obtain ⟨f3_7, rfl, rfl, pf3_7⟩ := hw
        refine lv_aload_n hx hb dX4_findNextLine_88 rfl (lv_at hl 0 rfl) ?_
        refine lv_dup hx hb dX4_findNextLine_89 rfl ?_
        refine cg_5_8 (v := (γ_7 1)) hx hb hts hinX4 hown hK hP (hts (.fieldLink RX4 52 "CensusDesk$Reader" "linesRead" "I") (List.mem_of_getElem? (i := 6) rfl)) rfl dX4_findNextLine_90 ?_
        refine lv_iconst (v := 1) hx hb dX4_findNextLine_93 (by decide) ?_
        refine lv_iadd hx hb dX4_findNextLine_94 ?_
        refine lv_topi (fun z_8 ez_8 => ?_)
        refine cp_5_8 (v := z_8) hx hb hts hinX4 hown hK hP hI hS (hts (.fieldLink RX4 52 "CensusDesk$Reader" "linesRead" "I") (List.mem_of_getElem? (i := 6) rfl)) dX4_findNextLine_95 ?_
        clear hP hS; intro H locs hP hS
        refine lv_iconst (v := 1) hx hb dX4_findNextLine_98 (by decide) ?_
        exact W.zret (v := 1) hx hb hr (by first | rfl | decide) (fun t ht hW => ⟨⟨1, ((up (up (up (up (up (up (up (up (up σ 2 s2_1) 3 s3_1) 4 s4_1) 5 s5_1) 6 s6_1) 18 s4_1) 8 (σ 8)) 9 (σ 9)) 10 (σ 10)), (up (up (up φ 1 f1_1) 2 f2_1) 3 f3_7), (up γ_7 1 z_8), ψ_7), rfl, ⟨s2_1, s3_1, s4_1, s5_1, s6_1, f1_1, f2_1, s4_1, (σ 8), (σ 9), (σ 10), f3_7, rfl, rfl, pf1_1, pf2_1, pf3_7, (show (Int32.toInt (σ 18)) + 1 ≤ (Int32.toInt s4_1) ∧ (Int32.toInt s4_1) ≤ (Int32.toInt (σ 0)) ∧ 0 ≤ (Int32.toInt s3_1) ∧ (Int32.toInt s3_1) ≤ 4000 from (by omega)), (show 0 ≤ (Int32.toInt (σ 9)) ∧ (Int32.toInt (σ 9)) ≤ 2000 ∧ 0 ≤ (Int32.toInt (σ 10)) ∧ (Int32.toInt (σ 10)) ≤ 30 * (Int32.toInt (σ 9)) from (by omega)), (show ((Int32.toInt s6_1) = 72 ∧ (Int32.toInt (σ 8)) ≠ 0) ∨ ((Int32.toInt s6_1) ≠ 72 ∧ (Int32.toInt (σ 8)) = (Int32.toInt (σ 8))) from (by omega)), (show (Int32.toInt s6_1) = (Int32.toInt (tat (σ 0) (φ 0) (σ 18))) from (by omega))⟩, (by show va_P _ _ _ _; rw [ht]; exact hP)⟩, hS.F ht⟩) hS.2.2 dX4_findNextLine_99
      · have kc_6 := bI_ne rfl L_0 c_6
        refine lv_iconst (v := 0) hx hb dX4_findNextLine_79 (by decide) ?_
        exact W.zret (v := 0) hx hb hr (by first | rfl | decide) (fun t ht hW => ⟨⟨0, ((up (up (up (up (up (up (up (up (up σ 2 s2_1) 3 s3_1) 4 s4_1) 5 s5_1) 6 s6_1) 18 s4_1) 8 (σ 8)) 9 (σ 9)) 10 (σ 10)), (up (up (up φ 1 f1_1) 2 f2_1) 3 (φ 3)), γ_1, ψ_1), rfl, ⟨s2_1, s3_1, s4_1, s5_1, s6_1, f1_1, f2_1, s4_1, (σ 8), (σ 9), (σ 10), (φ 3), rfl, rfl, pf1_1, pf2_1, p_hh_nameLength, (show (Int32.toInt (σ 18)) + 1 ≤ (Int32.toInt s4_1) ∧ (Int32.toInt s4_1) ≤ (Int32.toInt (σ 0)) ∧ 0 ≤ (Int32.toInt s3_1) ∧ (Int32.toInt s3_1) ≤ 4000 from (by omega)), (show 0 ≤ (Int32.toInt (σ 9)) ∧ (Int32.toInt (σ 9)) ≤ 2000 ∧ 0 ≤ (Int32.toInt (σ 10)) ∧ (Int32.toInt (σ 10)) ≤ 30 * (Int32.toInt (σ 9)) from (by omega)), (show ((Int32.toInt s6_1) = 72 ∧ (Int32.toInt (σ 8)) ≠ 0) ∨ ((Int32.toInt s6_1) ≠ 72 ∧ (Int32.toInt (σ 8)) = (Int32.toInt (σ 8))) from (by omega)), (show (Int32.toInt s6_1) = (Int32.toInt (tat (σ 0) (φ 0) (σ 18))) from (by omega))⟩, (by show va_P _ _ _ _; rw [ht]; exact hP)⟩, hS.F ht⟩) hS.2.2 dX4_findNextLine_80
  · have kc_2 := bI_eq rfl L_72 c_2
    refine lv_aload_n hx hb dX4_findNextLine_38 rfl (lv_at hl 0 rfl) ?_
    refine cg_5_6 hx hb hts hinX4 hown hK hP (hts (.fieldLink RX4 28 "CensusDesk$Reader" "household" "LCensusDesk$Household;") (List.mem_of_getElem? (i := 4) rfl)) dX4_findNextLine_39 ?_
    refine lv_aload_n hx hb dX4_findNextLine_42 rfl (lv_at hl 0 rfl) ?_
    refine cg_5_4 hx hb hts hinX4 hown hK hP (hts (.fieldLink RX4 12 "CensusDesk$Reader" "line" "LCensusDesk$Line;") (List.mem_of_getElem? (i := 1) rfl)) dX4_findNextLine_43 ?_
    refine cgN_6_2 (v := s2_1) hx hb hts hinX3 hown hK hP (va_Nw.use rfl (hN.1 ("CensusDesk$Reader", 124, "CensusDesk$Line", "start", "I") (List.mem_of_getElem? (i := 10) rfl))) rfl dX4_findNextLine_46 ?_
    refine c_callv (va_runV (As := [.int s2_1]) (rest := []) ⟨hx, hb, hml, hown, hts⟩ (c_X2_begin l dC dI a κ (up (up (up (up (up (up σ 2 s2_1) 3 s3_1) 4 s4_1) 5 s5_1) 6 s6_1) 18 s4_1) (up (up φ 1 f1_1) 2 f2_1) γ_1 ψ_1 g1 g2 s2_1 ) (cwV 1 hts gX4_findNextLine_X2_begin rfl rfl rfl ⟨rfl, hd_X2_begin⟩ ⟨Nat.le_of_ble_eq_true rfl, Nat.le_of_ble_eq_true rfl⟩) (cPreV hP hK hI hN hX hS (va_recv hK hP (ci := 2) (q0 := 8) rfl rfl)) rfl rfl hl.1 rfl (lv_room (Nat.le_of_ble_eq_true rfl)) dX4_findNextLine_49 ⟨(by decide +kernel), (by decide +kernel)⟩) hS ?_
    clear hP hS; intro S_9 F_9 γ_9 ψ_9 H locs hw hP hS
    obtain ⟨s8_9, s9_9, s10_9, rfl, rfl, (qo_9 : (Int32.toInt s8_9) = 1 ∧ (Int32.toInt s9_9) = 0 ∧ (Int32.toInt s10_9) = 0)⟩ := hw
    refine lv_aload_n hx hb dX4_findNextLine_52 rfl (lv_at hl 0 rfl) ?_
    refine cg_5_2 hx hb hts hinX4 hown hK hP (hts (.fieldLink RX4 44 "CensusDesk$Reader" "log" "LCensusDesk$Failures;") (List.mem_of_getElem? (i := 5) rfl)) dX4_findNextLine_53 ?_
    refine c_callv (va_runV (As := []) (rest := []) ⟨hx, hb, hml, hown, hts⟩ (c_X1_forgetHousehold l dC dI a κ (up (up (up (up (up (up (up (up (up σ 2 s2_1) 3 s3_1) 4 s4_1) 5 s5_1) 6 s6_1) 18 s4_1) 8 s8_9) 9 s9_9) 10 s10_9) (up (up φ 1 f1_1) 2 f2_1) γ_9 ψ_9 g1 g2  ) (cwV 0 hts gX4_findNextLine_X1_forgetHousehold rfl rfl rfl ⟨rfl, hd_X1_forgetHousehold⟩ ⟨Nat.le_of_ble_eq_true rfl, Nat.le_of_ble_eq_true rfl⟩) (cPreV hP hK hI hN hX hS (va_recv hK hP (ci := 1) (q0 := 3) rfl rfl)) rfl rfl hl.1 rfl (lv_room (Nat.le_of_ble_eq_true rfl)) dX4_findNextLine_56 ⟨(by decide +kernel), (by decide +kernel)⟩) hS ?_
    clear hP hS; intro S_10 F_10 γ_10 ψ_10 H locs hw hP hS
    obtain ⟨rfl, rfl, -⟩ := hw
    refine lv_aload_n hx hb dX4_findNextLine_59 rfl (lv_at hl 0 rfl) ?_
    refine cg_5_6 hx hb hts hinX4 hown hK hP (hts (.fieldLink RX4 28 "CensusDesk$Reader" "household" "LCensusDesk$Household;") (List.mem_of_getElem? (i := 4) rfl)) dX4_findNextLine_60 ?_
    refine cgN_8_6 (v := s8_9) hx hb hts hinX2 hown hK hP (va_Nw.use rfl (hN.1 ("CensusDesk$Reader", 81, "CensusDesk$Household", "open", "Z") (List.mem_of_getElem? (i := 19) rfl))) rfl dX4_findNextLine_63 ?_
    refine lv_if_eq (tgt := 81) hx hb dX4_findNextLine_66 (by decide) (fun c_11 => ?_) (fun c_11 => ?_)
    · have kc_11 := bI_eq rfl L_0 c_11
      refine lv_aload_n hx hb dX4_findNextLine_81 rfl (lv_at hl 0 rfl) ?_
      refine cg_5_6 hx hb hts hinX4 hown hK hP (hts (.fieldLink RX4 28 "CensusDesk$Reader" "household" "LCensusDesk$Household;") (List.mem_of_getElem? (i := 4) rfl)) dX4_findNextLine_82 ?_
      refine c_callv (va_runV (As := []) (rest := []) ⟨hx, hb, hml, hown, hts⟩ (c_X2_forgetNewcomer l dC dI a κ (up (up (up (up (up (up (up (up (up σ 2 s2_1) 3 s3_1) 4 s4_1) 5 s5_1) 6 s6_1) 18 s4_1) 8 s8_9) 9 s9_9) 10 s10_9) (up (up φ 1 f1_1) 2 f2_1) γ_10 ψ_10 g1 g2  p_hh_nameLength (show 0 ≤ (Int32.toInt s9_9) ∧ (Int32.toInt s9_9) ≤ 2000 ∧ 0 ≤ (Int32.toInt s10_9) ∧ (Int32.toInt s10_9) ≤ 30 * (Int32.toInt s9_9) from (by omega))) (cwV 0 hts gX4_findNextLine_X2_forgetNewcomer rfl rfl rfl ⟨rfl, hd_X2_forgetNewcomer⟩ ⟨Nat.le_of_ble_eq_true rfl, Nat.le_of_ble_eq_true rfl⟩) (cPreV hP hK hI hN hX hS (va_recv hK hP (ci := 2) (q0 := 8) rfl rfl)) rfl rfl hl.1 rfl (lv_room (Nat.le_of_ble_eq_true rfl)) dX4_findNextLine_85 ⟨(by decide +kernel), (by decide +kernel)⟩) hS ?_
      clear hP hS; intro S_12 F_12 γ_12 ψ_12 H locs hw hP hS
      obtain ⟨f3_12, rfl, rfl, pf3_12⟩ := hw
      refine lv_aload_n hx hb dX4_findNextLine_88 rfl (lv_at hl 0 rfl) ?_
      refine lv_dup hx hb dX4_findNextLine_89 rfl ?_
      refine cg_5_8 (v := (γ_12 1)) hx hb hts hinX4 hown hK hP (hts (.fieldLink RX4 52 "CensusDesk$Reader" "linesRead" "I") (List.mem_of_getElem? (i := 6) rfl)) rfl dX4_findNextLine_90 ?_
      refine lv_iconst (v := 1) hx hb dX4_findNextLine_93 (by decide) ?_
      refine lv_iadd hx hb dX4_findNextLine_94 ?_
      refine lv_topi (fun z_13 ez_13 => ?_)
      refine cp_5_8 (v := z_13) hx hb hts hinX4 hown hK hP hI hS (hts (.fieldLink RX4 52 "CensusDesk$Reader" "linesRead" "I") (List.mem_of_getElem? (i := 6) rfl)) dX4_findNextLine_95 ?_
      clear hP hS; intro H locs hP hS
      refine lv_iconst (v := 1) hx hb dX4_findNextLine_98 (by decide) ?_
      exact W.zret (v := 1) hx hb hr (by first | rfl | decide) (fun t ht hW => ⟨⟨1, ((up (up (up (up (up (up (up (up (up σ 2 s2_1) 3 s3_1) 4 s4_1) 5 s5_1) 6 s6_1) 18 s4_1) 8 s8_9) 9 s9_9) 10 s10_9), (up (up (up φ 1 f1_1) 2 f2_1) 3 f3_12), (up γ_12 1 z_13), ψ_12), rfl, ⟨s2_1, s3_1, s4_1, s5_1, s6_1, f1_1, f2_1, s4_1, s8_9, s9_9, s10_9, f3_12, rfl, rfl, pf1_1, pf2_1, pf3_12, (show (Int32.toInt (σ 18)) + 1 ≤ (Int32.toInt s4_1) ∧ (Int32.toInt s4_1) ≤ (Int32.toInt (σ 0)) ∧ 0 ≤ (Int32.toInt s3_1) ∧ (Int32.toInt s3_1) ≤ 4000 from (by omega)), (show 0 ≤ (Int32.toInt s9_9) ∧ (Int32.toInt s9_9) ≤ 2000 ∧ 0 ≤ (Int32.toInt s10_9) ∧ (Int32.toInt s10_9) ≤ 30 * (Int32.toInt s9_9) from (by omega)), (show ((Int32.toInt s6_1) = 72 ∧ (Int32.toInt s8_9) ≠ 0) ∨ ((Int32.toInt s6_1) ≠ 72 ∧ (Int32.toInt s8_9) = (Int32.toInt (σ 8))) from (by omega)), (show (Int32.toInt s6_1) = (Int32.toInt (tat (σ 0) (φ 0) (σ 18))) from (by omega))⟩, (by show va_P _ _ _ _; rw [ht]; exact hP)⟩, hS.F ht⟩) hS.2.2 dX4_findNextLine_99
    · have kc_11 := bI_ne rfl L_0 c_11
      refine lv_aload_n hx hb dX4_findNextLine_69 rfl (lv_at hl 0 rfl) ?_
      refine cg_5_6 hx hb hts hinX4 hown hK hP (hts (.fieldLink RX4 28 "CensusDesk$Reader" "household" "LCensusDesk$Household;") (List.mem_of_getElem? (i := 4) rfl)) dX4_findNextLine_70 ?_
      refine cgN_8_7 (v := (γ_10 9)) hx hb hts hinX2 hown hK hP (va_Nw.use rfl (hN.1 ("CensusDesk$Reader", 135, "CensusDesk$Household", "lost", "Z") (List.mem_of_getElem? (i := 20) rfl))) rfl dX4_findNextLine_73 ?_
      refine lv_if_eq (tgt := 81) hx hb dX4_findNextLine_76 (by decide) (fun c_14 => ?_) (fun c_14 => ?_)
      · have kc_14 := bI_eq rfl L_0 c_14
        refine lv_aload_n hx hb dX4_findNextLine_81 rfl (lv_at hl 0 rfl) ?_
        refine cg_5_6 hx hb hts hinX4 hown hK hP (hts (.fieldLink RX4 28 "CensusDesk$Reader" "household" "LCensusDesk$Household;") (List.mem_of_getElem? (i := 4) rfl)) dX4_findNextLine_82 ?_
        refine c_callv (va_runV (As := []) (rest := []) ⟨hx, hb, hml, hown, hts⟩ (c_X2_forgetNewcomer l dC dI a κ (up (up (up (up (up (up (up (up (up σ 2 s2_1) 3 s3_1) 4 s4_1) 5 s5_1) 6 s6_1) 18 s4_1) 8 s8_9) 9 s9_9) 10 s10_9) (up (up φ 1 f1_1) 2 f2_1) γ_10 ψ_10 g1 g2  p_hh_nameLength (show 0 ≤ (Int32.toInt s9_9) ∧ (Int32.toInt s9_9) ≤ 2000 ∧ 0 ≤ (Int32.toInt s10_9) ∧ (Int32.toInt s10_9) ≤ 30 * (Int32.toInt s9_9) from (by omega))) (cwV 0 hts gX4_findNextLine_X2_forgetNewcomer rfl rfl rfl ⟨rfl, hd_X2_forgetNewcomer⟩ ⟨Nat.le_of_ble_eq_true rfl, Nat.le_of_ble_eq_true rfl⟩) (cPreV hP hK hI hN hX hS (va_recv hK hP (ci := 2) (q0 := 8) rfl rfl)) rfl rfl hl.1 rfl (lv_room (Nat.le_of_ble_eq_true rfl)) dX4_findNextLine_85 ⟨(by decide +kernel), (by decide +kernel)⟩) hS ?_
        clear hP hS; intro S_15 F_15 γ_15 ψ_15 H locs hw hP hS
        obtain ⟨f3_15, rfl, rfl, pf3_15⟩ := hw
        refine lv_aload_n hx hb dX4_findNextLine_88 rfl (lv_at hl 0 rfl) ?_
        refine lv_dup hx hb dX4_findNextLine_89 rfl ?_
        refine cg_5_8 (v := (γ_15 1)) hx hb hts hinX4 hown hK hP (hts (.fieldLink RX4 52 "CensusDesk$Reader" "linesRead" "I") (List.mem_of_getElem? (i := 6) rfl)) rfl dX4_findNextLine_90 ?_
        refine lv_iconst (v := 1) hx hb dX4_findNextLine_93 (by decide) ?_
        refine lv_iadd hx hb dX4_findNextLine_94 ?_
        refine lv_topi (fun z_16 ez_16 => ?_)
        refine cp_5_8 (v := z_16) hx hb hts hinX4 hown hK hP hI hS (hts (.fieldLink RX4 52 "CensusDesk$Reader" "linesRead" "I") (List.mem_of_getElem? (i := 6) rfl)) dX4_findNextLine_95 ?_
        clear hP hS; intro H locs hP hS
        refine lv_iconst (v := 1) hx hb dX4_findNextLine_98 (by decide) ?_
        exact W.zret (v := 1) hx hb hr (by first | rfl | decide) (fun t ht hW => ⟨⟨1, ((up (up (up (up (up (up (up (up (up σ 2 s2_1) 3 s3_1) 4 s4_1) 5 s5_1) 6 s6_1) 18 s4_1) 8 s8_9) 9 s9_9) 10 s10_9), (up (up (up φ 1 f1_1) 2 f2_1) 3 f3_15), (up γ_15 1 z_16), ψ_15), rfl, ⟨s2_1, s3_1, s4_1, s5_1, s6_1, f1_1, f2_1, s4_1, s8_9, s9_9, s10_9, f3_15, rfl, rfl, pf1_1, pf2_1, pf3_15, (show (Int32.toInt (σ 18)) + 1 ≤ (Int32.toInt s4_1) ∧ (Int32.toInt s4_1) ≤ (Int32.toInt (σ 0)) ∧ 0 ≤ (Int32.toInt s3_1) ∧ (Int32.toInt s3_1) ≤ 4000 from (by omega)), (show 0 ≤ (Int32.toInt s9_9) ∧ (Int32.toInt s9_9) ≤ 2000 ∧ 0 ≤ (Int32.toInt s10_9) ∧ (Int32.toInt s10_9) ≤ 30 * (Int32.toInt s9_9) from (by omega)), (show ((Int32.toInt s6_1) = 72 ∧ (Int32.toInt s8_9) ≠ 0) ∨ ((Int32.toInt s6_1) ≠ 72 ∧ (Int32.toInt s8_9) = (Int32.toInt (σ 8))) from (by omega)), (show (Int32.toInt s6_1) = (Int32.toInt (tat (σ 0) (φ 0) (σ 18))) from (by omega))⟩, (by show va_P _ _ _ _; rw [ht]; exact hP)⟩, hS.F ht⟩) hS.2.2 dX4_findNextLine_99
      · have kc_14 := bI_ne rfl L_0 c_14
        refine lv_iconst (v := 0) hx hb dX4_findNextLine_79 (by decide) ?_
        exact W.zret (v := 0) hx hb hr (by first | rfl | decide) (fun t ht hW => ⟨⟨0, ((up (up (up (up (up (up (up (up (up σ 2 s2_1) 3 s3_1) 4 s4_1) 5 s5_1) 6 s6_1) 18 s4_1) 8 s8_9) 9 s9_9) 10 s10_9), (up (up (up φ 1 f1_1) 2 f2_1) 3 (φ 3)), γ_10, ψ_10), rfl, ⟨s2_1, s3_1, s4_1, s5_1, s6_1, f1_1, f2_1, s4_1, s8_9, s9_9, s10_9, (φ 3), rfl, rfl, pf1_1, pf2_1, p_hh_nameLength, (show (Int32.toInt (σ 18)) + 1 ≤ (Int32.toInt s4_1) ∧ (Int32.toInt s4_1) ≤ (Int32.toInt (σ 0)) ∧ 0 ≤ (Int32.toInt s3_1) ∧ (Int32.toInt s3_1) ≤ 4000 from (by omega)), (show 0 ≤ (Int32.toInt s9_9) ∧ (Int32.toInt s9_9) ≤ 2000 ∧ 0 ≤ (Int32.toInt s10_9) ∧ (Int32.toInt s10_9) ≤ 30 * (Int32.toInt s9_9) from (by omega)), (show ((Int32.toInt s6_1) = 72 ∧ (Int32.toInt s8_9) ≠ 0) ∨ ((Int32.toInt s6_1) ≠ 72 ∧ (Int32.toInt s8_9) = (Int32.toInt (σ 8))) from (by omega)), (show (Int32.toInt s6_1) = (Int32.toInt (tat (σ 0) (φ 0) (σ 18))) from (by omega))⟩, (by show va_P _ _ _ _; rw [ht]; exact hP)⟩, hS.F ht⟩) hS.2.2 dX4_findNextLine_80
