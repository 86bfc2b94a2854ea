set_option maxHeartbeats 4000000 in
set_option maxRecDepth 100000 in
theorem c_X4_readSign (l : Launch) (dC : Nat → ClassId) (dI : Nat → Nat → Nat) (a : Nat → Nat) (κ : Nat → ClassId) (σ : Nat → Int32) (φ : Nat → Nat → Int32) (γ : Nat → Int32) (ψ : Nat → Nat → Int32) (g1 g2 : Nat) (place : Int32) (hlen : 0 ≤ (Int32.toInt (σ 0)) ∧ (Int32.toInt (σ 0)) ≤ 4000) (hc : 0 ≤ (Int32.toInt (σ 1)) ∧ (Int32.toInt (σ 1)) ≤ 2000000000) (hs : 0 ≤ (Int32.toInt (σ 7)) ∧ (Int32.toInt (σ 7)) ≤ 31) : Met l yX4_readSign wsX4_readSign ({ frames := 2, cells := 0, slots := 0, locals := 53 } : Room) (va_Pc [.ref (a 5), .int place] (cPre dC dI a κ (σ, φ, γ, ψ) g1 g2)) (va_Qi (QI (fun r S F => ∃ (s1 : Int32) (s7 : Int32), (up (up σ 1 s1) 7 s7) = S ∧ φ = F ∧ ((Int32.toInt (σ 1)) ≤ (Int32.toInt s1) ∧ (Int32.toInt s1) ≤ (Int32.toInt (σ 1)) + 1) ∧ (0 ≤ (Int32.toInt s7) ∧ (Int32.toInt s7) ≤ 31))) (cB dC dI a κ) (cA a)) 0 0 (cA a) := by
  refine Met.ofW (cc := cX4_readSign) (maxL := 4) (ret := (some .int)) (by decide) rfl ?_
  intro p e s m args below meth c s₁ B hml hv
  obtain ⟨rfl, hP, hK, hI, hN, hX⟩ := hv
  have hx := B.exec
  have hb := B.bytes
  have hr := B.returns
  have hts := atoms_spec (ws := wsX4_readSign) B.pre
  have hown : s.vm.findClass RX4 = some m.cls := findClass_of_methodNamed B.named
  have hlocks := B.notSynchronized
  have hS : va_S (cA a) s.heap s.heap [] := va_S.rf
  have hinX4 : ∀ w ∈ wsX40, w ∈ wsX4_readSign := fun _ h => List.mem_cons_of_mem _ (List.mem_append_left _ (List.mem_append_left _ (List.mem_append_left _ (List.mem_append_left _ (List.mem_append_left _ (List.mem_append_right _ h))))))
  have hinX7 : ∀ w ∈ wsX70, w ∈ wsX4_readSign := fun _ h => List.mem_cons_of_mem _ (List.mem_append_left _ (List.mem_append_left _ (List.mem_append_left _ (List.mem_append_left _ (List.mem_append_right _ h)))))
  have hinX2 : ∀ w ∈ wsX20, w ∈ wsX4_readSign := fun _ h => List.mem_cons_of_mem _ (List.mem_append_left _ (List.mem_append_left _ (List.mem_append_left _ (List.mem_append_right _ h))))
  have hinX5 : ∀ w ∈ wsX50, w ∈ wsX4_readSign := fun _ h => List.mem_cons_of_mem _ (List.mem_append_left _ (List.mem_append_left _ (List.mem_append_right _ h)))
  have hinX1 : ∀ w ∈ wsX10, w ∈ wsX4_readSign := fun _ h => List.mem_cons_of_mem _ (List.mem_append_left _ (List.mem_append_right _ h))
  have hinX6 : ∀ w ∈ wsX60, w ∈ wsX4_readSign := fun _ h => List.mem_cons_of_mem _ (List.mem_append_right _ h)
  have hl := lv_entry ([.ref (a 5), .int place]) (n := 4) (Nat.le_of_ble_eq_true rfl)
  rw [lg_entry_eq]
  generalize (lg_sl ([.ref (a 5), .int place]) ++ List.replicate (4 - (lg_sl ([.ref (a 5), .int place])).length) Slot.unset).toArray = ls at hl ⊢
  have hl : lv_has ls 4 [(0, .ref (a 5)), (1, .int place)] := hl
  refine lv_aload_n hx hb dX4_readSign_0 rfl (lv_at hl 0 rfl) ?_
  refine cg_5_0 hx hb hts hinX4 hown hK hP (hts (.fieldLink RX4 36 "CensusDesk$Reader" "tape" "LCensusDesk$Tape;") (List.mem_of_getElem? (i := 1) rfl)) dX4_readSign_1 ?_
  refine lv_iload_n hx hb dX4_readSign_4 rfl (lv_at hl 1 rfl) ?_
  refine c_calli (va_runV (As := [.int place]) (rest := []) ⟨hx, hb, hml, hown, hts⟩ (c_X7_at l dC dI a κ σ φ γ ψ g1 g2 place (show 0 ≤ (Int32.toInt (σ 0)) ∧ (Int32.toInt (σ 0)) ≤ 4000 from (by omega))) (cwV 1 hts gX4_readSign_X7_at rfl rfl rfl ⟨rfl, hd_X7_at⟩ ⟨Nat.le_of_ble_eq_true rfl, Nat.le_of_ble_eq_true rfl⟩) (cPreV hP hK hI hN hX hS (va_recv hK hP (ci := 7) (q0 := 1) rfl rfl)) rfl rfl hl.1 rfl (lv_room (Nat.le_of_ble_eq_true rfl)) dX4_readSign_5 ⟨(by decide +kernel), (by decide +kernel)⟩) hS ?_
  clear hP hS; intro r_1 S_1 F_1 γ_1 ψ_1 H locs hw hP hS
  obtain ⟨rfl, rfl, (ra_1 : r_1 = tat (σ 0) (φ 0) place)⟩ := hw
  refine lv_istore_n (lv' := [(2, .int r_1), (0, .ref (a 5)), (1, .int place)]) hx hb dX4_readSign_8 rfl hl (by decide) rfl ?_
  clear hl; intro ls hl
  refine lv_iconst (v := (-1)) hx hb dX4_readSign_9 (by decide) ?_
  refine lv_istore_n (lv' := [(3, .int (-1)), (2, .int r_1), (0, .ref (a 5)), (1, .int place)]) hx hb dX4_readSign_10 rfl hl (by decide) rfl ?_
  clear hl; intro ls hl
  refine lv_iload_n hx hb dX4_readSign_11 rfl (lv_at hl 1 rfl) ?_
  refine c_calli (va_runS (As := [.int r_1]) (rest := []) ⟨hx, hb, hml, hown, hts⟩ (c_X4_isOwn l dC dI a κ σ φ γ_1 ψ_1 g1 g2 r_1 ) (va_cwS 1 hts gX4_readSign_X4_isOwn rfl rfl rfl hd_X4_isOwn ⟨Nat.le_of_ble_eq_true rfl, Nat.le_of_ble_eq_true rfl⟩) (cPreS hP hK hI hN hX hS) rfl rfl hl.1 rfl (lv_room (Nat.le_of_ble_eq_true rfl)) dX4_readSign_12 ⟨(by decide +kernel), (by decide +kernel)⟩) hS ?_
  clear hP hS; intro r_2 S_2 F_2 γ_2 ψ_2 H locs hw hP hS
  obtain ⟨rfl, rfl, -⟩ := hw
  refine lv_if_ne (tgt := 54) hx hb dX4_readSign_15 (by decide) (fun c_3 => ?_) (fun c_3 => ?_)
  · have kc_3 := bI_ne rfl L_0 c_3
    refine lv_iload_n hx hb dX4_readSign_54 rfl (lv_at hl 0 rfl) ?_
    refine lv_iconst (v := (-1)) hx hb dX4_readSign_55 (by decide) ?_
    refine lv_icmp_ne (tgt := 68) hx hb dX4_readSign_56 (by decide) (fun c_4 => absurd c_4 (by decide)) (fun c_4 => ?_)
    refine lv_aload_n hx hb dX4_readSign_59 rfl (lv_at hl 2 rfl) ?_
    refine cg_5_5 hx hb hts hinX4 hown hK hP (hts (.fieldLink RX4 21 "CensusDesk$Reader" "signs" "LCensusDesk$Signs;") (List.mem_of_getElem? (i := 4) rfl)) dX4_readSign_60 ?_
    refine lv_iload_n hx hb dX4_readSign_63 rfl (lv_at hl 1 rfl) ?_
    refine lv_iload_n hx hb dX4_readSign_64 rfl (lv_at hl 3 rfl) ?_
    refine c_callv (va_runV (As := [.int r_1, .int place]) (rest := []) ⟨hx, hb, hml, hown, hts⟩ (c_X6_add l dC dI a κ σ φ γ_2 ψ_2 g1 g2 r_1 place (show 0 ≤ (Int32.toInt (σ 7)) ∧ (Int32.toInt (σ 7)) ≤ 31 from (by omega))) (cwV 2 hts gX4_readSign_X6_add rfl rfl rfl ⟨rfl, hd_X6_add⟩ ⟨Nat.le_of_ble_eq_true rfl, Nat.le_of_ble_eq_true rfl⟩) (cPreV hP hK hI hN hX hS (va_recv hK hP (ci := 6) (q0 := 7) rfl rfl)) rfl rfl hl.1 rfl (lv_room (Nat.le_of_ble_eq_true rfl)) dX4_readSign_65 ⟨(by decide +kernel), (by decide +kernel)⟩) hS ?_
    clear hP hS; intro S_5 F_5 γ_5 ψ_5 H locs hw hP hS
    obtain ⟨s7_5, rfl, rfl, (qc_5 : 0 ≤ (Int32.toInt s7_5) ∧ (Int32.toInt s7_5) ≤ 31)⟩ := hw
    refine lv_iload_n hx hb dX4_readSign_68 rfl (lv_at hl 0 rfl) ?_
    exact W.iret (v := (-1)) hx hb hr (fun t ht hW => ⟨⟨(-1), ((up (up σ 1 (σ 1)) 7 s7_5), φ, γ_5, ψ_5), rfl, ⟨(σ 1), s7_5, rfl, rfl, (show (Int32.toInt (σ 1)) ≤ (Int32.toInt (σ 1)) ∧ (Int32.toInt (σ 1)) ≤ (Int32.toInt (σ 1)) + 1 from (by omega)), (show 0 ≤ (Int32.toInt s7_5) ∧ (Int32.toInt s7_5) ≤ 31 from (by omega))⟩, (by show va_P _ _ _ _; rw [ht]; exact hP)⟩, hS.F ht⟩) hS.2.2 dX4_readSign_69
  · have kc_3 := bI_eq rfl L_0 c_3
    refine lv_aload_n hx hb dX4_readSign_18 rfl (lv_at hl 2 rfl) ?_
    refine lv_iconst (v := 1) hx hb dX4_readSign_19 (by decide) ?_
    refine lv_iload_n hx hb dX4_readSign_20 rfl (lv_at hl 3 rfl) ?_
    refine lv_iconst (v := (-1)) hx hb dX4_readSign_21 (by decide) ?_
    refine c_calli (va_runV (As := [.int 1, .int place, .int (-1)]) (rest := []) ⟨hx, hb, hml, hown, hts⟩ (c_X4_fail l dC dI a κ σ φ γ_2 ψ_2 g1 g2 1 place (-1) (show 0 ≤ (Int32.toInt (σ 1)) ∧ (Int32.toInt (σ 1)) ≤ 2000000000 from (by omega))) (cwV 3 hts gX4_readSign_X4_fail rfl rfl rfl ⟨rfl, hd_X4_fail⟩ ⟨Nat.le_of_ble_eq_true rfl, Nat.le_of_ble_eq_true rfl⟩) (cPreV hP hK hI hN hX hS (va_recv hK hP (ci := 4) (q0 := 5) rfl rfl)) rfl rfl hl.1 rfl (lv_room (Nat.le_of_ble_eq_true rfl)) dX4_readSign_22 ⟨(by decide +kernel), (by decide +kernel)⟩) hS ?_
    clear hP hS; intro r_6 S_6 F_6 γ_6 ψ_6 H locs hw hP hS
    obtain ⟨s1_6, rfl, rfl, (qc_6 : (Int32.toInt (σ 1)) ≤ (Int32.toInt s1_6) ∧ (Int32.toInt s1_6) ≤ (Int32.toInt (σ 1)) + 1)⟩ := hw
    have hLm1_6 := L_m1
    have hL1_6 := L_1
    refine lv_istore_n (lv' := [(3, .int r_6), (2, .int r_1), (0, .ref (a 5)), (1, .int place)]) hx hb dX4_readSign_25 rfl hl (by decide) rfl ?_
    clear hl; intro ls hl
    refine lv_aload_n hx hb dX4_readSign_26 rfl (lv_at hl 2 rfl) ?_
    refine cg_5_17 (v := (γ_6 7)) hx hb hts hinX4 hown hK hP (hts (.fieldLink RX4 182 "CensusDesk$Reader" "way" "I") (List.mem_of_getElem? (i := 2) rfl)) rfl dX4_readSign_27 ?_
    refine lv_iconst (v := 2) hx hb dX4_readSign_30 (by decide) ?_
    refine lv_icmp_ne (tgt := 54) hx hb dX4_readSign_31 (by decide) (fun c_7 => ?_) (fun c_7 => ?_)
    · have kc_7 := bI_ne rfl L_2 c_7
      refine lv_iload_n hx hb dX4_readSign_54 rfl (lv_at hl 0 rfl) ?_
      refine lv_iconst (v := (-1)) hx hb dX4_readSign_55 (by decide) ?_
      refine lv_icmp_ne (tgt := 68) hx hb dX4_readSign_56 (by decide) (fun c_8 => ?_) (fun c_8 => ?_)
      · have kc_8 := bI_ne rfl L_m1 c_8
        refine lv_iload_n hx hb dX4_readSign_68 rfl (lv_at hl 0 rfl) ?_
        exact W.iret (v := r_6) hx hb hr (fun t ht hW => ⟨⟨r_6, ((up (up σ 1 s1_6) 7 (σ 7)), φ, γ_6, ψ_6), rfl, ⟨s1_6, (σ 7), rfl, rfl, (show (Int32.toInt (σ 1)) ≤ (Int32.toInt s1_6) ∧ (Int32.toInt s1_6) ≤ (Int32.toInt (σ 1)) + 1 from (by omega)), (show 0 ≤ (Int32.toInt (σ 7)) ∧ (Int32.toInt (σ 7)) ≤ 31 from (by omega))⟩, (by show va_P _ _ _ _; rw [ht]; exact hP)⟩, hS.F ht⟩) hS.2.2 dX4_readSign_69
      · have kc_8 := bI_eq rfl L_m1 c_8
        refine lv_aload_n hx hb dX4_readSign_59 rfl (lv_at hl 2 rfl) ?_
        refine cg_5_5 hx hb hts hinX4 hown hK hP (hts (.fieldLink RX4 21 "CensusDesk$Reader" "signs" "LCensusDesk$Signs;") (List.mem_of_getElem? (i := 4) rfl)) dX4_readSign_60 ?_
        refine lv_iload_n hx hb dX4_readSign_63 rfl (lv_at hl 1 rfl) ?_
        refine lv_iload_n hx hb dX4_readSign_64 rfl (lv_at hl 3 rfl) ?_
        refine c_callv (va_runV (As := [.int r_1, .int place]) (rest := []) ⟨hx, hb, hml, hown, hts⟩ (c_X6_add l dC dI a κ (up σ 1 s1_6) φ γ_6 ψ_6 g1 g2 r_1 place (show 0 ≤ (Int32.toInt (σ 7)) ∧ (Int32.toInt (σ 7)) ≤ 31 from (by omega))) (cwV 2 hts gX4_readSign_X6_add rfl rfl rfl ⟨rfl, hd_X6_add⟩ ⟨Nat.le_of_ble_eq_true rfl, Nat.le_of_ble_eq_true rfl⟩) (cPreV hP hK hI hN hX hS (va_recv hK hP (ci := 6) (q0 := 7) rfl rfl)) rfl rfl hl.1 rfl (lv_room (Nat.le_of_ble_eq_true rfl)) dX4_readSign_65 ⟨(by decide +kernel), (by decide +kernel)⟩) hS ?_
        clear hP hS; intro S_9 F_9 γ_9 ψ_9 H locs hw hP hS
        obtain ⟨s7_9, rfl, rfl, (qc_9 : 0 ≤ (Int32.toInt s7_9) ∧ (Int32.toInt s7_9) ≤ 31)⟩ := hw
        refine lv_iload_n hx hb dX4_readSign_68 rfl (lv_at hl 0 rfl) ?_
        exact W.iret (v := r_6) hx hb hr (fun t ht hW => ⟨⟨r_6, ((up (up σ 1 s1_6) 7 s7_9), φ, γ_9, ψ_9), rfl, ⟨s1_6, s7_9, rfl, rfl, (show (Int32.toInt (σ 1)) ≤ (Int32.toInt s1_6) ∧ (Int32.toInt s1_6) ≤ (Int32.toInt (σ 1)) + 1 from (by omega)), (show 0 ≤ (Int32.toInt s7_9) ∧ (Int32.toInt s7_9) ≤ 31 from (by omega))⟩, (by show va_P _ _ _ _; rw [ht]; exact hP)⟩, hS.F ht⟩) hS.2.2 dX4_readSign_69
    · have kc_7 := bI_eq rfl L_2 c_7
      refine lv_aload_n hx hb dX4_readSign_34 rfl (lv_at hl 2 rfl) ?_
      refine cg_5_18 (v := (γ_6 8)) hx hb hts hinX4 hown hK hP (hts (.fieldLink RX4 185 "CensusDesk$Reader" "number" "I") (List.mem_of_getElem? (i := 3) rfl)) rfl dX4_readSign_35 ?_
      refine c_calli (va_runS (As := [.int (γ_6 8)]) (rest := []) ⟨hx, hb, hml, hown, hts⟩ (c_X4_isOwn l dC dI a κ (up σ 1 s1_6) φ γ_6 ψ_6 g1 g2 (γ_6 8) ) (va_cwS 1 hts gX4_readSign_X4_isOwn rfl rfl rfl hd_X4_isOwn ⟨Nat.le_of_ble_eq_true rfl, Nat.le_of_ble_eq_true rfl⟩) (cPreS hP hK hI hN hX hS) rfl rfl hl.1 rfl (lv_room (Nat.le_of_ble_eq_true rfl)) dX4_readSign_38 ⟨(by decide +kernel), (by decide +kernel)⟩) hS ?_
      clear hP hS; intro r_10 S_10 F_10 γ_10 ψ_10 H locs hw hP hS
      obtain ⟨rfl, rfl, -⟩ := hw
      refine lv_if_eq (tgt := 51) hx hb dX4_readSign_41 (by decide) (fun c_11 => ?_) (fun c_11 => ?_)
      · have kc_11 := bI_eq rfl L_0 c_11
        refine lv_bipush (v := 63) hx hb dX4_readSign_51 (by decide) ?_
        refine lv_istore_n (lv' := [(2, .int 63), (3, .int r_6), (0, .ref (a 5)), (1, .int place)]) hx hb dX4_readSign_53 rfl hl (by decide) rfl ?_
        clear hl; intro ls hl
        refine lv_iload_n hx hb dX4_readSign_54 rfl (lv_at hl 1 rfl) ?_
        refine lv_iconst (v := (-1)) hx hb dX4_readSign_55 (by decide) ?_
        refine lv_icmp_ne (tgt := 68) hx hb dX4_readSign_56 (by decide) (fun c_12 => ?_) (fun c_12 => ?_)
        · have kc_12 := bI_ne rfl L_m1 c_12
          refine lv_iload_n hx hb dX4_readSign_68 rfl (lv_at hl 1 rfl) ?_
          exact W.iret (v := r_6) hx hb hr (fun t ht hW => ⟨⟨r_6, ((up (up σ 1 s1_6) 7 (σ 7)), φ, γ_10, ψ_10), rfl, ⟨s1_6, (σ 7), rfl, rfl, (show (Int32.toInt (σ 1)) ≤ (Int32.toInt s1_6) ∧ (Int32.toInt s1_6) ≤ (Int32.toInt (σ 1)) + 1 from (by omega)), (show 0 ≤ (Int32.toInt (σ 7)) ∧ (Int32.toInt (σ 7)) ≤ 31 from (by omega))⟩, (by show va_P _ _ _ _; rw [ht]; exact hP)⟩, hS.F ht⟩) hS.2.2 dX4_readSign_69
        · have kc_12 := bI_eq rfl L_m1 c_12
          refine lv_aload_n hx hb dX4_readSign_59 rfl (lv_at hl 2 rfl) ?_
          refine cg_5_5 hx hb hts hinX4 hown hK hP (hts (.fieldLink RX4 21 "CensusDesk$Reader" "signs" "LCensusDesk$Signs;") (List.mem_of_getElem? (i := 4) rfl)) dX4_readSign_60 ?_
          refine lv_iload_n hx hb dX4_readSign_63 rfl (lv_at hl 0 rfl) ?_
          refine lv_iload_n hx hb dX4_readSign_64 rfl (lv_at hl 3 rfl) ?_
          refine c_callv (va_runV (As := [.int 63, .int place]) (rest := []) ⟨hx, hb, hml, hown, hts⟩ (c_X6_add l dC dI a κ (up σ 1 s1_6) φ γ_10 ψ_10 g1 g2 63 place (show 0 ≤ (Int32.toInt (σ 7)) ∧ (Int32.toInt (σ 7)) ≤ 31 from (by omega))) (cwV 2 hts gX4_readSign_X6_add rfl rfl rfl ⟨rfl, hd_X6_add⟩ ⟨Nat.le_of_ble_eq_true rfl, Nat.le_of_ble_eq_true rfl⟩) (cPreV hP hK hI hN hX hS (va_recv hK hP (ci := 6) (q0 := 7) rfl rfl)) rfl rfl hl.1 rfl (lv_room (Nat.le_of_ble_eq_true rfl)) dX4_readSign_65 ⟨(by decide +kernel), (by decide +kernel)⟩) hS ?_
          clear hP hS; intro S_13 F_13 γ_13 ψ_13 H locs hw hP hS
          obtain ⟨s7_13, rfl, rfl, (qc_13 : 0 ≤ (Int32.toInt s7_13) ∧ (Int32.toInt s7_13) ≤ 31)⟩ := hw
          have hL63_13 := L_63
          refine lv_iload_n hx hb dX4_readSign_68 rfl (lv_at hl 1 rfl) ?_
          exact W.iret (v := r_6) hx hb hr (fun t ht hW => ⟨⟨r_6, ((up (up σ 1 s1_6) 7 s7_13), φ, γ_13, ψ_13), rfl, ⟨s1_6, s7_13, rfl, rfl, (show (Int32.toInt (σ 1)) ≤ (Int32.toInt s1_6) ∧ (Int32.toInt s1_6) ≤ (Int32.toInt (σ 1)) + 1 from (by omega)), (show 0 ≤ (Int32.toInt s7_13) ∧ (Int32.toInt s7_13) ≤ 31 from (by omega))⟩, (by show va_P _ _ _ _; rw [ht]; exact hP)⟩, hS.F ht⟩) hS.2.2 dX4_readSign_69
      · have kc_11 := bI_ne rfl L_0 c_11
        refine lv_aload_n hx hb dX4_readSign_44 rfl (lv_at hl 2 rfl) ?_
        refine cg_5_18 (v := (γ_10 8)) hx hb hts hinX4 hown hK hP (hts (.fieldLink RX4 185 "CensusDesk$Reader" "number" "I") (List.mem_of_getElem? (i := 3) rfl)) rfl dX4_readSign_45 ?_
        refine lv_goto (tgt := 53) hx hb dX4_readSign_48 (by decide) ?_
        refine lv_istore_n (lv' := [(2, .int (γ_10 8)), (3, .int r_6), (0, .ref (a 5)), (1, .int place)]) hx hb dX4_readSign_53 rfl hl (by decide) rfl ?_
        clear hl; intro ls hl
        refine lv_iload_n hx hb dX4_readSign_54 rfl (lv_at hl 1 rfl) ?_
        refine lv_iconst (v := (-1)) hx hb dX4_readSign_55 (by decide) ?_
        refine lv_icmp_ne (tgt := 68) hx hb dX4_readSign_56 (by decide) (fun c_14 => ?_) (fun c_14 => ?_)
        · have kc_14 := bI_ne rfl L_m1 c_14
          refine lv_iload_n hx hb dX4_readSign_68 rfl (lv_at hl 1 rfl) ?_
          exact W.iret (v := r_6) hx hb hr (fun t ht hW => ⟨⟨r_6, ((up (up σ 1 s1_6) 7 (σ 7)), φ, γ_10, ψ_10), rfl, ⟨s1_6, (σ 7), rfl, rfl, (show (Int32.toInt (σ 1)) ≤ (Int32.toInt s1_6) ∧ (Int32.toInt s1_6) ≤ (Int32.toInt (σ 1)) + 1 from (by omega)), (show 0 ≤ (Int32.toInt (σ 7)) ∧ (Int32.toInt (σ 7)) ≤ 31 from (by omega))⟩, (by show va_P _ _ _ _; rw [ht]; exact hP)⟩, hS.F ht⟩) hS.2.2 dX4_readSign_69
        · have kc_14 := bI_eq rfl L_m1 c_14
          refine lv_aload_n hx hb dX4_readSign_59 rfl (lv_at hl 2 rfl) ?_
          refine cg_5_5 hx hb hts hinX4 hown hK hP (hts (.fieldLink RX4 21 "CensusDesk$Reader" "signs" "LCensusDesk$Signs;") (List.mem_of_getElem? (i := 4) rfl)) dX4_readSign_60 ?_
          refine lv_iload_n hx hb dX4_readSign_63 rfl (lv_at hl 0 rfl) ?_
          refine lv_iload_n hx hb dX4_readSign_64 rfl (lv_at hl 3 rfl) ?_
          refine c_callv (va_runV (As := [.int (γ_10 8), .int place]) (rest := []) ⟨hx, hb, hml, hown, hts⟩ (c_X6_add l dC dI a κ (up σ 1 s1_6) φ γ_10 ψ_10 g1 g2 (γ_10 8) place (show 0 ≤ (Int32.toInt (σ 7)) ∧ (Int32.toInt (σ 7)) ≤ 31 from (by omega))) (cwV 2 hts gX4_readSign_X6_add rfl rfl rfl ⟨rfl, hd_X6_add⟩ ⟨Nat.le_of_ble_eq_true rfl, Nat.le_of_ble_eq_true rfl⟩) (cPreV hP hK hI hN hX hS (va_recv hK hP (ci := 6) (q0 := 7) rfl rfl)) rfl rfl hl.1 rfl (lv_room (Nat.le_of_ble_eq_true rfl)) dX4_readSign_65 ⟨(by decide +kernel), (by decide +kernel)⟩) hS ?_
          clear hP hS; intro S_15 F_15 γ_15 ψ_15 H locs hw hP hS
          obtain ⟨s7_15, rfl, rfl, (qc_15 : 0 ≤ (Int32.toInt s7_15) ∧ (Int32.toInt s7_15) ≤ 31)⟩ := hw
          refine lv_iload_n hx hb dX4_readSign_68 rfl (lv_at hl 1 rfl) ?_
          exact W.iret (v := r_6) hx hb hr (fun t ht hW => ⟨⟨r_6, ((up (up σ 1 s1_6) 7 s7_15), φ, γ_15, ψ_15), rfl, ⟨s1_6, s7_15, rfl, rfl, (show (Int32.toInt (σ 1)) ≤ (Int32.toInt s1_6) ∧ (Int32.toInt s1_6) ≤ (Int32.toInt (σ 1)) + 1 from (by omega)), (show 0 ≤ (Int32.toInt s7_15) ∧ (Int32.toInt s7_15) ≤ 31 from (by omega))⟩, (by show va_P _ _ _ _; rw [ht]; exact hP)⟩, hS.F ht⟩) hS.2.2 dX4_readSign_69
set_option maxHeartbeats 4000000 in
set_option maxRecDepth 100000 in
theorem c_X4_readSigns (l : Launch) (dC : Nat → ClassId) (dI : Nat → Nat → Nat) (a : Nat → Nat) (κ : Nat → ClassId) (σ : Nat → Int32) (φ : Nat → Nat → Int32) (γ : Nat → Int32) (ψ : Nat → Nat → Int32) (g1 g2 : Nat) (cell : Int32) (p_line_cellStart : PtR 0 4000 (φ 1)) (p_line_cellEnd : PtR 0 4000 (φ 2)) (hlen : 0 ≤ (Int32.toInt (σ 0)) ∧ (Int32.toInt (σ 0)) ≤ 4000) (hc : 0 ≤ (Int32.toInt (σ 1)) ∧ (Int32.toInt (σ 1)) ≤ 1500000000) (he : 0 ≤ (Int32.toInt (σ 3)) ∧ (Int32.toInt (σ 3)) ≤ 4000) : Met l yX4_readSigns wsX4_readSigns ({ frames := 3, cells := 0, slots := 0, locals := 76 } : Room) (va_Pc [.ref (a 5), .int cell] (cPre dC dI a κ (σ, φ, γ, ψ) g1 g2)) (va_Qi (QI (fun r S F => ∃ (s1 : Int32) (s7 : Int32), (up (up σ 1 s1) 7 s7) = S ∧ φ = F ∧ ((Int32.toInt (σ 1)) ≤ (Int32.toInt s1) ∧ (Int32.toInt s1) ≤ (Int32.toInt (σ 1)) + 8000) ∧ (0 ≤ (Int32.toInt s7) ∧ (Int32.toInt s7) ≤ 31))) (cB dC dI a κ) (cA a)) 0 0 (cA a) := by
  refine Met.ofW (cc := cX4_readSigns) (maxL := 7) (ret := (some .int)) (by decide) rfl ?_
  intro p e s m args below meth c s₁ B hml hv
  obtain ⟨rfl, hP, hK, hI, hN, hX⟩ := hv
  have hx := B.exec
  have hb := B.bytes
  have hr := B.returns
  have hts := atoms_spec (ws := wsX4_readSigns) B.pre
  have hown : s.vm.findClass RX4 = some m.cls := findClass_of_methodNamed B.named
  have hlocks := B.notSynchronized
  have hS : va_S (cA a) s.heap s.heap [] := va_S.rf
  have hinX4 : ∀ w ∈ wsX40, w ∈ wsX4_readSigns := fun _ h => List.mem_cons_of_mem _ (List.mem_append_left _ (List.mem_append_left _ (List.mem_append_left _ (List.mem_append_left _ (List.mem_append_left _ (List.mem_append_left _ (List.mem_append_right _ h)))))))
  have hinX6 : ∀ w ∈ wsX60, w ∈ wsX4_readSigns := fun _ h => List.mem_cons_of_mem _ (List.mem_append_left _ (List.mem_append_left _ (List.mem_append_left _ (List.mem_append_left _ (List.mem_append_left _ (List.mem_append_right _ h))))))
  have hinX3 : ∀ w ∈ wsX30, w ∈ wsX4_readSigns := fun _ h => List.mem_cons_of_mem _ (List.mem_append_left _ (List.mem_append_left _ (List.mem_append_left _ (List.mem_append_left _ (List.mem_append_right _ h)))))
  have hinX7 : ∀ w ∈ wsX70, w ∈ wsX4_readSigns := fun _ h => List.mem_cons_of_mem _ (List.mem_append_left _ (List.mem_append_left _ (List.mem_append_left _ (List.mem_append_right _ h))))
  have hinX2 : ∀ w ∈ wsX20, w ∈ wsX4_readSigns := fun _ h => List.mem_cons_of_mem _ (List.mem_append_left _ (List.mem_append_left _ (List.mem_append_right _ h)))
  have hinX5 : ∀ w ∈ wsX50, w ∈ wsX4_readSigns := fun _ h => List.mem_cons_of_mem _ (List.mem_append_left _ (List.mem_append_right _ h))
  have hinX1 : ∀ w ∈ wsX10, w ∈ wsX4_readSigns := fun _ h => List.mem_cons_of_mem _ (List.mem_append_right _ h)
  have hl := lv_entry ([.ref (a 5), .int cell]) (n := 7) (Nat.le_of_ble_eq_true rfl)
  rw [lg_entry_eq]
  generalize (lg_sl ([.ref (a 5), .int cell]) ++ List.replicate (7 - (lg_sl ([.ref (a 5), .int cell])).length) Slot.unset).toArray = ls at hl ⊢
  have hl : lv_has ls 7 [(0, .ref (a 5)), (1, .int cell)] := hl
  refine k_gen (fun QQ eQ => ?_)
  have J31 : ∀ (n31 : Nat), ∀ (st : Int32) (en : Int32) (fate : Int32) (q : Int32) (s1_c31 : Int32) (s7_c31 : Int32) (γ : Nat → Int32) (ψ : Nat → Nat → Int32) (H : Heap) (locs : List Loc) (ls : Array Slot), (0 ≤ (Int32.toInt st) ∧ (Int32.toInt st) ≤ 4000 ∧ 0 ≤ (Int32.toInt en) ∧ (Int32.toInt en) ≤ 4000 ∧ (Int32.toInt st) ≤ (Int32.toInt q) ∧ ((Int32.toInt q) ≤ (Int32.toInt en) ∨ (Int32.toInt q) = (Int32.toInt st)) ∧ (Int32.toInt (σ 1)) ≤ (Int32.toInt s1_c31) ∧ (Int32.toInt s1_c31) ≤ (Int32.toInt (σ 1)) + 2 * ((Int32.toInt q) - (Int32.toInt st))) → (0 ≤ (Int32.toInt s7_c31) ∧ (Int32.toInt s7_c31) ≤ 31) → (((Int32.toInt en) - (Int32.toInt q)).toNat < n31) → va_P (dC, dI) vwCl (cw a κ ((up (up σ 1 s1_c31) 7 s7_c31), φ, γ, ψ)) H → va_S (cA a) s.heap H locs → lv_has ls 7 [(0, .ref (a 5)), (2, .int st), (3, .int en), (4, .int fate), (5, .int q)] → W p l e ({ frames := 3, cells := 0, slots := 0, locals := 76 } : Room) s m ([.ref (a 5), .int cell] : List Value).toArray below meth c H locs 0 0 QQ (F0 m 31 ls []) := by
    intro n31
    induction n31 with
    | zero =>
      intro st en fate q s1_c31 s7_c31 γ ψ H locs ls v0 vs hm
      exact absurd hm (Nat.not_lt_zero _)
    | succ n31 ih31 =>
      intro st en fate q s1_c31 s7_c31 γ ψ H locs ls v0 vs hm hP hS hl
      refine lv_iload hx hb dX4_readSigns_31 (lv_at hl 4 rfl) ?_
      refine lv_iload_n hx hb dX4_readSigns_33 rfl (lv_at hl 2 rfl) ?_
      refine lv_icmp_ge (tgt := 73) hx hb dX4_readSigns_34 (by decide) (fun c_1 => ?_) (fun c_1 => ?_)
      · have kc_1 := bI_le rfl rfl c_1
        refine lv_iload hx hb dX4_readSigns_73 (lv_at hl 3 rfl) ?_
        subst eQ
        exact W.iret (v := fate) hx hb hr (fun t ht hW => ⟨⟨fate, ((up (up σ 1 s1_c31) 7 s7_c31), φ, γ, ψ), rfl, ⟨s1_c31, s7_c31, rfl, rfl, (show (Int32.toInt (σ 1)) ≤ (Int32.toInt s1_c31) ∧ (Int32.toInt s1_c31) ≤ (Int32.toInt (σ 1)) + 8000 from (by omega)), (show 0 ≤ (Int32.toInt s7_c31) ∧ (Int32.toInt s7_c31) ≤ 31 from (by omega))⟩, (by show va_P _ _ _ _; rw [ht]; exact hP)⟩, hS.F ht⟩) hS.2.2 dX4_readSigns_75
      · have kc_1 := bI_nle rfl rfl c_1
        refine lv_iload hx hb dX4_readSigns_37 (lv_at hl 3 rfl) ?_
        refine lv_iconst (v := (-1)) hx hb dX4_readSigns_39 (by decide) ?_
        refine lv_icmp_ne (tgt := 73) hx hb dX4_readSigns_40 (by decide) (fun c_2 => ?_) (fun c_2 => ?_)
        · have kc_2 := bI_ne rfl L_m1 c_2
          refine lv_iload hx hb dX4_readSigns_73 (lv_at hl 3 rfl) ?_
          subst eQ
          exact W.iret (v := fate) hx hb hr (fun t ht hW => ⟨⟨fate, ((up (up σ 1 s1_c31) 7 s7_c31), φ, γ, ψ), rfl, ⟨s1_c31, s7_c31, rfl, rfl, (show (Int32.toInt (σ 1)) ≤ (Int32.toInt s1_c31) ∧ (Int32.toInt s1_c31) ≤ (Int32.toInt (σ 1)) + 8000 from (by omega)), (show 0 ≤ (Int32.toInt s7_c31) ∧ (Int32.toInt s7_c31) ≤ 31 from (by omega))⟩, (by show va_P _ _ _ _; rw [ht]; exact hP)⟩, hS.F ht⟩) hS.2.2 dX4_readSigns_75
        · have kc_2 := bI_eq rfl L_m1 c_2
          refine lv_aload_n hx hb dX4_readSigns_43 rfl (lv_at hl 0 rfl) ?_
          refine lv_iload hx hb dX4_readSigns_44 (lv_at hl 4 rfl) ?_
          refine c_calli (va_runV (As := [.int q]) (rest := []) ⟨hx, hb, hml, hown, hts⟩ (c_X4_readSign l dC dI a κ (up (up σ 1 s1_c31) 7 s7_c31) φ γ ψ g1 g2 q (show 0 ≤ (Int32.toInt (σ 0)) ∧ (Int32.toInt (σ 0)) ≤ 4000 from (by omega)) (show 0 ≤ (Int32.toInt s1_c31) ∧ (Int32.toInt s1_c31) ≤ 2000000000 from (by omega)) (show 0 ≤ (Int32.toInt s7_c31) ∧ (Int32.toInt s7_c31) ≤ 31 from (by omega))) (cwV 1 hts gX4_readSigns_X4_readSign rfl rfl rfl ⟨rfl, hd_X4_readSign⟩ ⟨Nat.le_of_ble_eq_true rfl, Nat.le_of_ble_eq_true rfl⟩) (cPreV hP hK hI hN hX hS (va_recv hK hP (ci := 4) (q0 := 5) rfl rfl)) rfl rfl hl.1 rfl (lv_room (Nat.le_of_ble_eq_true rfl)) dX4_readSigns_46 ⟨(by decide +kernel), (by decide +kernel)⟩) hS ?_
          clear hP hS; intro r_3 S_3 F_3 γ_3 ψ_3 H locs hw hP hS
          obtain ⟨s1_3, s7_3, rfl, rfl, (qc_3 : (Int32.toInt s1_c31) ≤ (Int32.toInt s1_3) ∧ (Int32.toInt s1_3) ≤ (Int32.toInt s1_c31) + 1), (qs_3 : 0 ≤ (Int32.toInt s7_3) ∧ (Int32.toInt s7_3) ≤ 31)⟩ := hw
          refine lv_istore (lv' := [(6, .int r_3), (0, .ref (a 5)), (2, .int st), (3, .int en), (4, .int fate), (5, .int q)]) hx hb dX4_readSigns_49 hl (by decide) rfl ?_
          clear hl; intro ls hl
          refine lv_iload hx hb dX4_readSigns_51 (lv_at hl 0 rfl) ?_
          refine lv_if_lt (tgt := 67) hx hb dX4_readSigns_53 (by decide) (fun c_4 => ?_) (fun c_4 => ?_)
          · have kc_4 := bI_lt rfl L_0 c_4
            obtain ⟨i_5, ei_5⟩ : ∃ z : Int32, z = q + 1 := ⟨_, rfl⟩
            refine lv_iinc (v := i_5) (lv' := [(5, .int i_5), (6, .int r_3), (0, .ref (a 5)), (2, .int st), (3, .int en), (4, .int fate)]) hx hb dX4_readSigns_67 hl (k := 5) rfl (by rw [ei_5]; rfl) (by decide) rfl ?_
            clear hl; intro ls hl
            have ti_5 : (Int32.toInt i_5) = (Int32.toInt q) + 1 := aI_add rfl L_1 ei_5 (by have := rng en; have := rng q; omega)
            refine lv_goto (tgt := 31) hx hb dX4_readSigns_70 (by decide) ?_
            exact ih31 st en fate i_5 s1_3 s7_3 γ_3 ψ_3 _ _ _ (show 0 ≤ (Int32.toInt st) ∧ (Int32.toInt st) ≤ 4000 ∧ 0 ≤ (Int32.toInt en) ∧ (Int32.toInt en) ≤ 4000 ∧ (Int32.toInt st) ≤ (Int32.toInt i_5) ∧ ((Int32.toInt i_5) ≤ (Int32.toInt en) ∨ (Int32.toInt i_5) = (Int32.toInt st)) ∧ (Int32.toInt (σ 1)) ≤ (Int32.toInt s1_3) ∧ (Int32.toInt s1_3) ≤ (Int32.toInt (σ 1)) + 2 * ((Int32.toInt i_5) - (Int32.toInt st)) from (by omega)) (show 0 ≤ (Int32.toInt s7_3) ∧ (Int32.toInt s7_3) ≤ 31 from (by omega)) (by omega) hP hS (lv_sub hl [2, 3, 4, 5, 0] rfl)
          · have kc_4 := bI_nlt rfl L_0 c_4
            refine lv_aload_n hx hb dX4_readSigns_56 rfl (lv_at hl 1 rfl) ?_
            refine lv_bipush (v := 8) hx hb dX4_readSigns_57 (by decide) ?_
            refine lv_iload_n hx hb dX4_readSigns_59 rfl (lv_at hl 2 rfl) ?_
            refine lv_iload hx hb dX4_readSigns_60 (lv_at hl 0 rfl) ?_
            refine c_calli (va_runV (As := [.int 8, .int st, .int r_3]) (rest := []) ⟨hx, hb, hml, hown, hts⟩ (c_X4_fail l dC dI a κ (up (up (up (up σ 1 s1_c31) 7 s7_c31) 1 s1_3) 7 s7_3) φ γ_3 ψ_3 g1 g2 8 st r_3 (show 0 ≤ (Int32.toInt s1_3) ∧ (Int32.toInt s1_3) ≤ 2000000000 from (by omega))) (cwV 3 hts gX4_readSigns_X4_fail rfl rfl rfl ⟨rfl, hd_X4_fail⟩ ⟨Nat.le_of_ble_eq_true rfl, Nat.le_of_ble_eq_true rfl⟩) (cPreV hP hK hI hN hX hS (va_recv hK hP (ci := 4) (q0 := 5) rfl rfl)) rfl rfl hl.1 rfl (lv_room (Nat.le_of_ble_eq_true rfl)) dX4_readSigns_62 ⟨(by decide +kernel), (by decide +kernel)⟩) hS ?_
            clear hP hS; intro r_6 S_6 F_6 γ_6 ψ_6 H locs hw hP hS
            obtain ⟨s1_6, rfl, rfl, (qc_6 : (Int32.toInt s1_3) ≤ (Int32.toInt s1_6) ∧ (Int32.toInt s1_6) ≤ (Int32.toInt s1_3) + 1)⟩ := hw
            have hL8_6 := L_8
            refine lv_istore (lv' := [(4, .int r_6), (6, .int r_3), (0, .ref (a 5)), (2, .int st), (3, .int en), (5, .int q)]) hx hb dX4_readSigns_65 hl (by decide) rfl ?_
            clear hl; intro ls hl
            obtain ⟨i_7, ei_7⟩ : ∃ z : Int32, z = q + 1 := ⟨_, rfl⟩
            refine lv_iinc (v := i_7) (lv' := [(5, .int i_7), (4, .int r_6), (6, .int r_3), (0, .ref (a 5)), (2, .int st), (3, .int en)]) hx hb dX4_readSigns_67 hl (k := 5) rfl (by rw [ei_7]; rfl) (by decide) rfl ?_
            clear hl; intro ls hl
            have ti_7 : (Int32.toInt i_7) = (Int32.toInt q) + 1 := aI_add rfl L_1 ei_7 (by have := rng en; have := rng q; omega)
            refine lv_goto (tgt := 31) hx hb dX4_readSigns_70 (by decide) ?_
            exact ih31 st en r_6 i_7 s1_6 s7_3 γ_6 ψ_6 _ _ _ (show 0 ≤ (Int32.toInt st) ∧ (Int32.toInt st) ≤ 4000 ∧ 0 ≤ (Int32.toInt en) ∧ (Int32.toInt en) ≤ 4000 ∧ (Int32.toInt st) ≤ (Int32.toInt i_7) ∧ ((Int32.toInt i_7) ≤ (Int32.toInt en) ∨ (Int32.toInt i_7) = (Int32.toInt st)) ∧ (Int32.toInt (σ 1)) ≤ (Int32.toInt s1_6) ∧ (Int32.toInt s1_6) ≤ (Int32.toInt (σ 1)) + 2 * ((Int32.toInt i_7) - (Int32.toInt st)) from (by omega)) (show 0 ≤ (Int32.toInt s7_3) ∧ (Int32.toInt s7_3) ≤ 31 from (by omega)) (by omega) hP hS (lv_sub hl [3, 4, 5, 1, 0] rfl)
  refine lv_aload_n hx hb dX4_readSigns_0 rfl (lv_at hl 0 rfl) ?_
  refine cg_5_5 hx hb hts hinX4 hown hK hP (hts (.fieldLink RX4 21 "CensusDesk$Reader" "signs" "LCensusDesk$Signs;") (List.mem_of_getElem? (i := 1) rfl)) dX4_readSigns_1 ?_
  refine c_callv (va_runV (As := []) (rest := []) ⟨hx, hb, hml, hown, hts⟩ (c_X6_clear l dC dI a κ σ φ γ ψ g1 g2  ) (cwV 0 hts gX4_readSigns_X6_clear rfl rfl rfl ⟨rfl, hd_X6_clear⟩ ⟨Nat.le_of_ble_eq_true rfl, Nat.le_of_ble_eq_true rfl⟩) (cPreV hP hK hI hN hX hS (va_recv hK hP (ci := 6) (q0 := 7) rfl rfl)) rfl rfl hl.1 rfl (lv_room (Nat.le_of_ble_eq_true rfl)) dX4_readSigns_4 ⟨(by decide +kernel), (by decide +kernel)⟩) hS ?_
  clear hP hS; intro S_8 F_8 γ_8 ψ_8 H locs hw hP hS
  obtain ⟨s7_8, rfl, rfl, (qc_8 : (Int32.toInt s7_8) = 0)⟩ := hw
  refine lv_aload_n hx hb dX4_readSigns_7 rfl (lv_at hl 0 rfl) ?_
  refine cg_5_4 hx hb hts hinX4 hown hK hP (hts (.fieldLink RX4 12 "CensusDesk$Reader" "line" "LCensusDesk$Line;") (List.mem_of_getElem? (i := 2) rfl)) dX4_readSigns_8 ?_
  refine lv_iload_n hx hb dX4_readSigns_11 rfl (lv_at hl 1 rfl) ?_
  refine c_calli (va_runV (As := [.int cell]) (rest := []) ⟨hx, hb, hml, hown, hts⟩ (c_X3_startOf l dC dI a κ (up σ 7 s7_8) φ γ_8 ψ_8 g1 g2 cell p_line_cellStart p_line_cellEnd (show 0 ≤ (Int32.toInt (σ 3)) ∧ (Int32.toInt (σ 3)) ≤ 4000 from (by omega))) (cwV 1 hts gX4_readSigns_X3_startOf rfl rfl rfl ⟨rfl, hd_X3_startOf⟩ ⟨Nat.le_of_ble_eq_true rfl, Nat.le_of_ble_eq_true rfl⟩) (cPreV hP hK hI hN hX hS (va_recv hK hP (ci := 3) (q0 := 6) rfl rfl)) rfl rfl hl.1 rfl (lv_room (Nat.le_of_ble_eq_true rfl)) dX4_readSigns_12 ⟨(by decide +kernel), (by decide +kernel)⟩) hS ?_
  clear hP hS; intro r_9 S_9 F_9 γ_9 ψ_9 H locs hw hP hS
  obtain ⟨rfl, rfl, (qr_9 : 0 ≤ (Int32.toInt r_9) ∧ (Int32.toInt r_9) ≤ 4000)⟩ := hw
  refine lv_istore_n (lv' := [(2, .int r_9), (0, .ref (a 5)), (1, .int cell)]) hx hb dX4_readSigns_15 rfl hl (by decide) rfl ?_
  clear hl; intro ls hl
  refine lv_aload_n hx hb dX4_readSigns_16 rfl (lv_at hl 1 rfl) ?_
  refine cg_5_4 hx hb hts hinX4 hown hK hP (hts (.fieldLink RX4 12 "CensusDesk$Reader" "line" "LCensusDesk$Line;") (List.mem_of_getElem? (i := 2) rfl)) dX4_readSigns_17 ?_
  refine lv_iload_n hx hb dX4_readSigns_20 rfl (lv_at hl 2 rfl) ?_
  refine c_calli (va_runV (As := [.int cell]) (rest := []) ⟨hx, hb, hml, hown, hts⟩ (c_X3_endOf l dC dI a κ (up σ 7 s7_8) φ γ_9 ψ_9 g1 g2 cell p_line_cellStart p_line_cellEnd (show 0 ≤ (Int32.toInt (σ 3)) ∧ (Int32.toInt (σ 3)) ≤ 4000 from (by omega))) (cwV 1 hts gX4_readSigns_X3_endOf rfl rfl rfl ⟨rfl, hd_X3_endOf⟩ ⟨Nat.le_of_ble_eq_true rfl, Nat.le_of_ble_eq_true rfl⟩) (cPreV hP hK hI hN hX hS (va_recv hK hP (ci := 3) (q0 := 6) rfl rfl)) rfl rfl hl.1 rfl (lv_room (Nat.le_of_ble_eq_true rfl)) dX4_readSigns_21 ⟨(by decide +kernel), (by decide +kernel)⟩) hS ?_
  clear hP hS; intro r_10 S_10 F_10 γ_10 ψ_10 H locs hw hP hS
  obtain ⟨rfl, rfl, (qr_10 : 0 ≤ (Int32.toInt r_10) ∧ (Int32.toInt r_10) ≤ 4000)⟩ := hw
  refine lv_istore_n (lv' := [(3, .int r_10), (2, .int r_9), (0, .ref (a 5)), (1, .int cell)]) hx hb dX4_readSigns_24 rfl hl (by decide) rfl ?_
  clear hl; intro ls hl
  refine lv_iconst (v := (-1)) hx hb dX4_readSigns_25 (by decide) ?_
  refine lv_istore (lv' := [(4, .int (-1)), (3, .int r_10), (2, .int r_9), (0, .ref (a 5)), (1, .int cell)]) hx hb dX4_readSigns_26 hl (by decide) rfl ?_
  clear hl; intro ls hl
  refine lv_iload_n hx hb dX4_readSigns_28 rfl (lv_at hl 2 rfl) ?_
  refine lv_istore (lv' := [(5, .int r_9), (4, .int (-1)), (3, .int r_10), (2, .int r_9), (0, .ref (a 5)), (1, .int cell)]) hx hb dX4_readSigns_29 hl (by decide) rfl ?_
  clear hl; intro ls hl
  exact J31 (_ + 1) r_9 r_10 (-1) r_9 (σ 1) s7_8 γ_10 ψ_10 _ _ _ (show 0 ≤ (Int32.toInt r_9) ∧ (Int32.toInt r_9) ≤ 4000 ∧ 0 ≤ (Int32.toInt r_10) ∧ (Int32.toInt r_10) ≤ 4000 ∧ (Int32.toInt r_9) ≤ (Int32.toInt r_9) ∧ ((Int32.toInt r_9) ≤ (Int32.toInt r_10) ∨ (Int32.toInt r_9) = (Int32.toInt r_9)) ∧ (Int32.toInt (σ 1)) ≤ (Int32.toInt (σ 1)) ∧ (Int32.toInt (σ 1)) ≤ (Int32.toInt (σ 1)) + 2 * ((Int32.toInt r_9) - (Int32.toInt r_9)) from (by omega)) (show 0 ≤ (Int32.toInt s7_8) ∧ (Int32.toInt s7_8) ≤ 31 from (by omega)) (Nat.lt_succ_self _) hP hS (lv_sub hl [4, 3, 2, 1, 0] rfl)
set_option maxHeartbeats 4000000 in
set_option maxRecDepth 100000 in
theorem c_X4_mended (l : Launch) (dC : Nat → ClassId) (dI : Nat → Nat → Nat) (a : Nat → Nat) (κ : Nat → ClassId) (σ : Nat → Int32) (φ : Nat → Nat → Int32) (γ : Nat → Int32) (ψ : Nat → Nat → Int32) (g1 g2 : Nat) (fault : Int32) : Met l yX4_mended wsX4_mended ({ frames := 2, cells := 0, slots := 0, locals := 43 } : Room) (va_Pc [.ref (a 5), .int fault] (cPre dC dI a κ (σ, φ, γ, ψ) g1 g2)) (va_Qi (QI (fun r S F => σ = S ∧ φ = F ∧ ((Int32.toInt fault) = 6 → (-1 ≤ (Int32.toInt r) ∧ (Int32.toInt r) ≤ 1)))) (cB dC dI a κ) (cA a)) 0 0 (cA a) := by
  refine Met.ofW (cc := cX4_mended) (maxL := 2) (ret := (some .int)) (by decide) rfl ?_
  intro p e s m args below meth c s₁ B hml hv
  obtain ⟨rfl, hP, hK, hI, hN, hX⟩ := hv
  have hx := B.exec
  have hb := B.bytes
  have hr := B.returns
  have hts := atoms_spec (ws := wsX4_mended) B.pre
  have hown : s.vm.findClass RX4 = some m.cls := findClass_of_methodNamed B.named
  have hlocks := B.notSynchronized
  have hS : va_S (cA a) s.heap s.heap [] := va_S.rf
  have hinX4 : ∀ w ∈ wsX40, w ∈ wsX4_mended := fun _ h => List.mem_cons_of_mem _ (List.mem_append_left _ (List.mem_append_right _ h))
  have hinX6 : ∀ w ∈ wsX60, w ∈ wsX4_mended := fun _ h => List.mem_cons_of_mem _ (List.mem_append_right _ h)
  have hl := lv_entry ([.ref (a 5), .int fault]) (n := 2) (Nat.le_of_ble_eq_true rfl)
  rw [lg_entry_eq]
  generalize (lg_sl ([.ref (a 5), .int fault]) ++ List.replicate (2 - (lg_sl ([.ref (a 5), .int fault])).length) Slot.unset).toArray = ls at hl ⊢
  have hl : lv_has ls 2 [(0, .ref (a 5)), (1, .int fault)] := hl
  refine lv_iload_n hx hb dX4_mended_0 rfl (lv_at hl 1 rfl) ?_
  refine lv_bipush (v := 6) hx hb dX4_mended_1 (by decide) ?_
  refine lv_icmp_ne (tgt := 38) hx hb dX4_mended_3 (by decide) (fun c_1 => ?_) (fun c_1 => ?_)
  · have kc_1 := bI_ne rfl L_6 c_1
    refine lv_aload_n hx hb dX4_mended_38 rfl (lv_at hl 0 rfl) ?_
    refine cg_5_17 (v := (γ 7)) hx hb hts hinX4 hown hK hP (hts (.fieldLink RX4 182 "CensusDesk$Reader" "way" "I") (List.mem_of_getElem? (i := 1) rfl)) rfl dX4_mended_39 ?_
    refine lv_iconst (v := 2) hx hb dX4_mended_42 (by decide) ?_
    refine lv_icmp_ne (tgt := 51) hx hb dX4_mended_43 (by decide) (fun c_2 => ?_) (fun c_2 => ?_)
    · have kc_2 := bI_ne rfl L_2 c_2
      refine lv_iload_n hx hb dX4_mended_51 rfl (lv_at hl 1 rfl) ?_
      refine lv_bipush (v := 7) hx hb dX4_mended_52 (by decide) ?_
      refine lv_icmp_ne (tgt := 61) hx hb dX4_mended_54 (by decide) (fun c_3 => ?_) (fun c_3 => ?_)
      · have kc_3 := bI_ne rfl L_7 c_3
        refine lv_aload_n hx hb dX4_mended_61 rfl (lv_at hl 0 rfl) ?_
        refine cg_5_5 hx hb hts hinX4 hown hK hP (hts (.fieldLink RX4 21 "CensusDesk$Reader" "signs" "LCensusDesk$Signs;") (List.mem_of_getElem? (i := 3) rfl)) dX4_mended_62 ?_
        refine c_calli (va_runV (As := []) (rest := []) ⟨hx, hb, hml, hown, hts⟩ (c_X6_number l dC dI a κ σ φ γ ψ g1 g2  ) (cwV 0 hts gX4_mended_X6_number rfl rfl rfl ⟨rfl, hd_X6_number⟩ ⟨Nat.le_of_ble_eq_true rfl, Nat.le_of_ble_eq_true rfl⟩) (cPreV hP hK hI hN hX hS (va_recv hK hP (ci := 6) (q0 := 7) rfl rfl)) rfl rfl hl.1 rfl (lv_room (Nat.le_of_ble_eq_true rfl)) dX4_mended_65 ⟨(by decide +kernel), (by decide +kernel)⟩) hS ?_
        clear hP hS; intro r_4 S_4 F_4 γ_4 ψ_4 H locs hw hP hS
        obtain ⟨rfl, rfl, -⟩ := hw
        exact W.iret (v := r_4) hx hb hr (fun t ht hW => ⟨⟨r_4, (σ, φ, γ_4, ψ_4), rfl, ⟨rfl, rfl, (show (Int32.toInt fault) = 6 → (-1 ≤ (Int32.toInt r_4) ∧ (Int32.toInt r_4) ≤ 1) from (by omega))⟩, (by show va_P _ _ _ _; rw [ht]; exact hP)⟩, hS.F ht⟩) hS.2.2 dX4_mended_68
      · have kc_3 := bI_eq rfl L_7 c_3
        refine lv_iconst (v := (-1)) hx hb dX4_mended_57 (by decide) ?_
        refine lv_goto (tgt := 68) hx hb dX4_mended_58 (by decide) ?_
        exact W.iret (v := (-1)) hx hb hr (fun t ht hW => ⟨⟨(-1), (σ, φ, γ, ψ), rfl, ⟨rfl, rfl, (show (Int32.toInt fault) = 6 → (-1 ≤ (Int32.toInt (-1)) ∧ (Int32.toInt (-1)) ≤ 1) from (by have := L_m1; omega))⟩, (by show va_P _ _ _ _; rw [ht]; exact hP)⟩, hS.F ht⟩) hS.2.2 dX4_mended_68
    · have kc_2 := bI_eq rfl L_2 c_2
      refine lv_aload_n hx hb dX4_mended_46 rfl (lv_at hl 0 rfl) ?_
      refine cg_5_18 (v := (γ 8)) hx hb hts hinX4 hown hK hP (hts (.fieldLink RX4 185 "CensusDesk$Reader" "number" "I") (List.mem_of_getElem? (i := 2) rfl)) rfl dX4_mended_47 ?_
      exact W.iret (v := (γ 8)) hx hb hr (fun t ht hW => ⟨⟨(γ 8), (σ, φ, γ, ψ), rfl, ⟨rfl, rfl, (show (Int32.toInt fault) = 6 → (-1 ≤ (Int32.toInt (γ 8)) ∧ (Int32.toInt (γ 8)) ≤ 1) from (by omega))⟩, (by show va_P _ _ _ _; rw [ht]; exact hP)⟩, hS.F ht⟩) hS.2.2 dX4_mended_50
  · have kc_1 := bI_eq rfl L_6 c_1
    refine lv_aload_n hx hb dX4_mended_6 rfl (lv_at hl 0 rfl) ?_
    refine cg_5_17 (v := (γ 7)) hx hb hts hinX4 hown hK hP (hts (.fieldLink RX4 182 "CensusDesk$Reader" "way" "I") (List.mem_of_getElem? (i := 1) rfl)) rfl dX4_mended_7 ?_
    refine lv_iconst (v := 2) hx hb dX4_mended_10 (by decide) ?_
    refine lv_icmp_ne (tgt := 36) hx hb dX4_mended_11 (by decide) (fun c_5 => ?_) (fun c_5 => ?_)
    · have kc_5 := bI_ne rfl L_2 c_5
      refine lv_iconst (v := (-1)) hx hb dX4_mended_36 (by decide) ?_
      exact W.iret (v := (-1)) hx hb hr (fun t ht hW => ⟨⟨(-1), (σ, φ, γ, ψ), rfl, ⟨rfl, rfl, (show (Int32.toInt fault) = 6 → (-1 ≤ (Int32.toInt (-1)) ∧ (Int32.toInt (-1)) ≤ 1) from (by have := L_m1; omega))⟩, (by show va_P _ _ _ _; rw [ht]; exact hP)⟩, hS.F ht⟩) hS.2.2 dX4_mended_37
    · have kc_5 := bI_eq rfl L_2 c_5
      refine lv_aload_n hx hb dX4_mended_14 rfl (lv_at hl 0 rfl) ?_
      refine cg_5_18 (v := (γ 8)) hx hb hts hinX4 hown hK hP (hts (.fieldLink RX4 185 "CensusDesk$Reader" "number" "I") (List.mem_of_getElem? (i := 2) rfl)) rfl dX4_mended_15 ?_
      refine lv_if_eq (tgt := 29) hx hb dX4_mended_18 (by decide) (fun c_6 => ?_) (fun c_6 => ?_)
      · have kc_6 := bI_eq rfl L_0 c_6
        refine lv_aload_n hx hb dX4_mended_29 rfl (lv_at hl 0 rfl) ?_
        refine cg_5_18 (v := (γ 8)) hx hb hts hinX4 hown hK hP (hts (.fieldLink RX4 185 "CensusDesk$Reader" "number" "I") (List.mem_of_getElem? (i := 2) rfl)) rfl dX4_mended_30 ?_
        refine lv_goto (tgt := 37) hx hb dX4_mended_33 (by decide) ?_
        exact W.iret (v := (γ 8)) hx hb hr (fun t ht hW => ⟨⟨(γ 8), (σ, φ, γ, ψ), rfl, ⟨rfl, rfl, (show (Int32.toInt fault) = 6 → (-1 ≤ (Int32.toInt (γ 8)) ∧ (Int32.toInt (γ 8)) ≤ 1) from (by omega))⟩, (by show va_P _ _ _ _; rw [ht]; exact hP)⟩, hS.F ht⟩) hS.2.2 dX4_mended_37
      · have kc_6 := bI_ne rfl L_0 c_6
        refine lv_aload_n hx hb dX4_mended_21 rfl (lv_at hl 0 rfl) ?_
        refine cg_5_18 (v := (γ 8)) hx hb hts hinX4 hown hK hP (hts (.fieldLink RX4 185 "CensusDesk$Reader" "number" "I") (List.mem_of_getElem? (i := 2) rfl)) rfl dX4_mended_22 ?_
        refine lv_iconst (v := 1) hx hb dX4_mended_25 (by decide) ?_
        refine lv_icmp_ne (tgt := 36) hx hb dX4_mended_26 (by decide) (fun c_7 => ?_) (fun c_7 => ?_)
        · have kc_7 := bI_ne rfl L_1 c_7
          refine lv_iconst (v := (-1)) hx hb dX4_mended_36 (by decide) ?_
          exact W.iret (v := (-1)) hx hb hr (fun t ht hW => ⟨⟨(-1), (σ, φ, γ, ψ), rfl, ⟨rfl, rfl, (show (Int32.toInt fault) = 6 → (-1 ≤ (Int32.toInt (-1)) ∧ (Int32.toInt (-1)) ≤ 1) from (by have := L_m1; omega))⟩, (by show va_P _ _ _ _; rw [ht]; exact hP)⟩, hS.F ht⟩) hS.2.2 dX4_mended_37
        · have kc_7 := bI_eq rfl L_1 c_7
          refine lv_aload_n hx hb dX4_mended_29 rfl (lv_at hl 0 rfl) ?_
          refine cg_5_18 (v := (γ 8)) hx hb hts hinX4 hown hK hP (hts (.fieldLink RX4 185 "CensusDesk$Reader" "number" "I") (List.mem_of_getElem? (i := 2) rfl)) rfl dX4_mended_30 ?_
          refine lv_goto (tgt := 37) hx hb dX4_mended_33 (by decide) ?_
          exact W.iret (v := (γ 8)) hx hb hr (fun t ht hW => ⟨⟨(γ 8), (σ, φ, γ, ψ), rfl, ⟨rfl, rfl, (show (Int32.toInt fault) = 6 → (-1 ≤ (Int32.toInt (γ 8)) ∧ (Int32.toInt (γ 8)) ≤ 1) from (by omega))⟩, (by show va_P _ _ _ _; rw [ht]; exact hP)⟩, hS.F ht⟩) hS.2.2 dX4_mended_37
set_option maxHeartbeats 4000000 in
set_option maxRecDepth 100000 in
theorem c_X4_readValue (l : Launch) (dC : Nat → ClassId) (dI : Nat → Nat → Nat) (a : Nat → Nat) (κ : Nat → ClassId) (σ : Nat → Int32) (φ : Nat → Nat → Int32) (γ : Nat → Int32) (ψ : Nat → Nat → Int32) (g1 g2 : Nat) (cell : Int32) (p_line_cellStart : PtR 0 4000 (φ 1)) (p_line_cellEnd : PtR 0 4000 (φ 2)) (p_hh_nameLength : PtR 0 30 (φ 3)) (hc : 0 ≤ (Int32.toInt (σ 1)) ∧ (Int32.toInt (σ 1)) ≤ 2000000000) (he : 0 ≤ (Int32.toInt (σ 3)) ∧ (Int32.toInt (σ 3)) ≤ 4000) (hp : 0 ≤ (Int32.toInt (σ 9)) ∧ (Int32.toInt (σ 9)) ≤ 2000 ∧ 0 ≤ (Int32.toInt (σ 10)) ∧ (Int32.toInt (σ 10)) ≤ 30 * (Int32.toInt (σ 9))) : Met l yX4_readValue wsX4_readValue ({ frames := 3, cells := 0, slots := 0, locals := 64 } : Room) (va_Pc [.ref (a 5), .int cell] (cPre dC dI a κ (σ, φ, γ, ψ) g1 g2)) (va_Qi (QI (fun r S F => ∃ (s1 : Int32) (f3 : Nat → Int32) (f8 : Nat → Int32), (up σ 1 s1) = S ∧ (up (up φ 3 f3) 8 f8) = F ∧ PtR 0 30 f3 ∧ ((Int32.toInt (σ 1)) ≤ (Int32.toInt s1) ∧ (Int32.toInt s1) ≤ (Int32.toInt (σ 1)) + 1) ∧ (((Int32.toInt cell) = 2 ∧ (Int32.toInt (σ 6)) = 80 ∧ -1 ≤ Int32.toInt ((φ 8) 2) ∧ Int32.toInt ((φ 8) 2) ≤ 1) → (-1 ≤ Int32.toInt (f8 2) ∧ Int32.toInt (f8 2) ≤ 1)) ∧ ((Int32.toInt cell) ≠ 2 → Int32.toInt (f8 2) = Int32.toInt ((φ 8) 2)))) (cB dC dI a κ) (cA a)) 0 0 (cA a) := by
  refine Met.ofW (cc := cX4_readValue) (maxL := 6) (ret := (some .int)) (by decide) rfl ?_
  intro p e s m args below meth c s₁ B hml hv
  obtain ⟨rfl, hP, hK, hI, hN, hX⟩ := hv
  have hx := B.exec
  have hb := B.bytes
  have hr := B.returns
  have hts := atoms_spec (ws := wsX4_readValue) B.pre
  have hown : s.vm.findClass RX4 = some m.cls := findClass_of_methodNamed B.named
  have hlocks := B.notSynchronized
  have hS : va_S (cA a) s.heap s.heap [] := va_S.rf
  have hinX4 : ∀ w ∈ wsX40, w ∈ wsX4_readValue := fun _ h => List.mem_cons_of_mem _ (List.mem_append_left _ (List.mem_append_left _ (List.mem_append_left _ (List.mem_append_left _ (List.mem_append_left _ (List.mem_append_right _ h))))))
  have hinX3 : ∀ w ∈ wsX30, w ∈ wsX4_readValue := fun _ h => List.mem_cons_of_mem _ (List.mem_append_left _ (List.mem_append_left _ (List.mem_append_left _ (List.mem_append_left _ (List.mem_append_right _ h)))))
  have hinX6 : ∀ w ∈ wsX60, w ∈ wsX4_readValue := fun _ h => List.mem_cons_of_mem _ (List.mem_append_left _ (List.mem_append_left _ (List.mem_append_left _ (List.mem_append_right _ h))))
  have hinX2 : ∀ w ∈ wsX20, w ∈ wsX4_readValue := fun _ h => List.mem_cons_of_mem _ (List.mem_append_left _ (List.mem_append_left _ (List.mem_append_right _ h)))
  have hinX5 : ∀ w ∈ wsX50, w ∈ wsX4_readValue := fun _ h => List.mem_cons_of_mem _ (List.mem_append_left _ (List.mem_append_right _ h))
  have hinX1 : ∀ w ∈ wsX10, w ∈ wsX4_readValue := fun _ h => List.mem_cons_of_mem _ (List.mem_append_right _ h)
  have hl := lv_entry ([.ref (a 5), .int cell]) (n := 6) (Nat.le_of_ble_eq_true rfl)
  rw [lg_entry_eq]
  generalize (lg_sl ([.ref (a 5), .int cell]) ++ List.replicate (6 - (lg_sl ([.ref (a 5), .int cell])).length) Slot.unset).toArray = ls at hl ⊢
  have hl : lv_has ls 6 [(0, .ref (a 5)), (1, .int cell)] := hl
  refine lv_iload_n hx hb dX4_readValue_0 rfl (lv_at hl 1 rfl) ?_
  refine lv_if_lt (tgt := 9) hx hb dX4_readValue_1 (by decide) (fun c_1 => ?_) (fun c_1 => ?_)
  · have kc_1 := bI_lt rfl L_0 c_1
    refine lv_iconst (v := (-1)) hx hb dX4_readValue_9 (by decide) ?_
    exact W.iret (v := (-1)) hx hb hr (fun t ht hW => ⟨⟨(-1), ((up σ 1 (σ 1)), (up (up φ 3 (φ 3)) 8 (φ 8)), γ, ψ), rfl, ⟨(σ 1), (φ 3), (φ 8), rfl, rfl, p_hh_nameLength, (show (Int32.toInt (σ 1)) ≤ (Int32.toInt (σ 1)) ∧ (Int32.toInt (σ 1)) ≤ (Int32.toInt (σ 1)) + 1 from (by omega)), (show ((Int32.toInt cell) = 2 ∧ (Int32.toInt (σ 6)) = 80 ∧ -1 ≤ Int32.toInt ((φ 8) 2) ∧ Int32.toInt ((φ 8) 2) ≤ 1) → (-1 ≤ Int32.toInt ((φ 8) 2) ∧ Int32.toInt ((φ 8) 2) ≤ 1) from (by omega)), (show (Int32.toInt cell) ≠ 2 → Int32.toInt ((φ 8) 2) = Int32.toInt ((φ 8) 2) from (by omega))⟩, (by show va_P _ _ _ _; rw [ht]; exact hP)⟩, hS.F ht⟩) hS.2.2 dX4_readValue_10
  · have kc_1 := bI_nlt rfl L_0 c_1
    refine lv_iload_n hx hb dX4_readValue_4 rfl (lv_at hl 1 rfl) ?_
    refine lv_iconst (v := 5) hx hb dX4_readValue_5 (by decide) ?_
    refine lv_icmp_lt (tgt := 11) hx hb dX4_readValue_6 (by decide) (fun c_2 => ?_) (fun c_2 => ?_)
    · have kc_2 := bI_lt rfl L_5 c_2
      refine lv_aload_n hx hb dX4_readValue_11 rfl (lv_at hl 0 rfl) ?_
      refine cg_5_4 hx hb hts hinX4 hown hK hP (hts (.fieldLink RX4 12 "CensusDesk$Reader" "line" "LCensusDesk$Line;") (List.mem_of_getElem? (i := 1) rfl)) dX4_readValue_12 ?_
      refine lv_iload_n hx hb dX4_readValue_15 rfl (lv_at hl 1 rfl) ?_
      refine c_calli (va_runV (As := [.int cell]) (rest := []) ⟨hx, hb, hml, hown, hts⟩ (c_X3_fieldIn l dC dI a κ σ φ γ ψ g1 g2 cell ) (cwV 1 hts gX4_readValue_X3_fieldIn rfl rfl rfl ⟨rfl, hd_X3_fieldIn⟩ ⟨Nat.le_of_ble_eq_true rfl, Nat.le_of_ble_eq_true rfl⟩) (cPreV hP hK hI hN hX hS (va_recv hK hP (ci := 3) (q0 := 6) rfl rfl)) rfl rfl hl.1 rfl (lv_room (Nat.le_of_ble_eq_true rfl)) dX4_readValue_16 ⟨(by decide +kernel), (by decide +kernel)⟩) hS ?_
      clear hP hS; intro r_3 S_3 F_3 γ_3 ψ_3 H locs hw hP hS
      obtain ⟨rfl, rfl, (qf_3 : ((Int32.toInt cell) = 2 ∧ (Int32.toInt (σ 6)) = 80) → (Int32.toInt r_3) = 2)⟩ := hw
      refine lv_istore_n (lv' := [(2, .int r_3), (0, .ref (a 5)), (1, .int cell)]) hx hb dX4_readValue_19 rfl hl (by decide) rfl ?_
      clear hl; intro ls hl
      refine lv_aload_n hx hb dX4_readValue_20 rfl (lv_at hl 1 rfl) ?_
      refine cg_5_5 hx hb hts hinX4 hown hK hP (hts (.fieldLink RX4 21 "CensusDesk$Reader" "signs" "LCensusDesk$Signs;") (List.mem_of_getElem? (i := 2) rfl)) dX4_readValue_21 ?_
      refine lv_iload_n hx hb dX4_readValue_24 rfl (lv_at hl 0 rfl) ?_
      refine c_calli (va_runV (As := [.int r_3]) (rest := []) ⟨hx, hb, hml, hown, hts⟩ (c_X6_faultAs l dC dI a κ σ φ γ_3 ψ_3 g1 g2 r_3 ) (cwV 1 hts gX4_readValue_X6_faultAs rfl rfl rfl ⟨rfl, hd_X6_faultAs⟩ ⟨Nat.le_of_ble_eq_true rfl, Nat.le_of_ble_eq_true rfl⟩) (cPreV hP hK hI hN hX hS (va_recv hK hP (ci := 6) (q0 := 7) rfl rfl)) rfl rfl hl.1 rfl (lv_room (Nat.le_of_ble_eq_true rfl)) dX4_readValue_25 ⟨(by decide +kernel), (by decide +kernel)⟩) hS ?_
      clear hP hS; intro r_4 S_4 F_4 γ_4 ψ_4 H locs hw hP hS
      obtain ⟨rfl, rfl, (qf_4 : (Int32.toInt r_3) = 2 → ((Int32.toInt r_4) = 0 ∨ (Int32.toInt r_4) = 6))⟩ := hw
      refine lv_istore_n (lv' := [(3, .int r_4), (2, .int r_3), (0, .ref (a 5)), (1, .int cell)]) hx hb dX4_readValue_28 rfl hl (by decide) rfl ?_
      clear hl; intro ls hl
      refine lv_iconst (v := (-1)) hx hb dX4_readValue_29 (by decide) ?_
      refine lv_istore (lv' := [(4, .int (-1)), (3, .int r_4), (2, .int r_3), (0, .ref (a 5)), (1, .int cell)]) hx hb dX4_readValue_30 hl (by decide) rfl ?_
      clear hl; intro ls hl
      refine lv_iload_n hx hb dX4_readValue_32 rfl (lv_at hl 1 rfl) ?_
      refine lv_if_eq (tgt := 78) hx hb dX4_readValue_33 (by decide) (fun c_5 => ?_) (fun c_5 => ?_)
      · have kc_5 := bI_eq rfl L_0 c_5
        refine lv_iload hx hb dX4_readValue_78 (lv_at hl 0 rfl) ?_
        refine lv_iconst (v := (-1)) hx hb dX4_readValue_80 (by decide) ?_
        refine lv_icmp_eq (tgt := 87) hx hb dX4_readValue_81 (by decide) (fun c_6 => ?_) (fun c_6 => absurd c_6 (by decide))
        refine lv_iload_n hx hb dX4_readValue_87 rfl (lv_at hl 2 rfl) ?_
        refine lv_iconst (v := 1) hx hb dX4_readValue_88 (by decide) ?_
        refine lv_icmp_ne (tgt := 106) hx hb dX4_readValue_89 (by decide) (fun c_7 => ?_) (fun c_7 => ?_)
        · have kc_7 := bI_ne rfl L_1 c_7
          refine lv_aload_n hx hb dX4_readValue_106 rfl (lv_at hl 3 rfl) ?_
          refine cg_5_7 hx hb hts hinX4 hown hK hP (hts (.fieldLink RX4 32 "CensusDesk$Reader" "values" "[I") (List.mem_of_getElem? (i := 4) rfl)) dX4_readValue_107 ?_
          refine lv_iload_n hx hb dX4_readValue_110 rfl (lv_at hl 4 rfl) ?_
          refine lv_iload_n hx hb dX4_readValue_111 rfl (lv_at hl 1 rfl) ?_
          refine lv_if_ne (tgt := 126) hx hb dX4_readValue_112 (by decide) (fun c_8 => ?_) (fun c_8 => ?_)
          · have kc_8 := bI_ne rfl L_0 c_8
            refine lv_aload_n hx hb dX4_readValue_126 rfl (lv_at hl 3 rfl) ?_
            refine lv_iload_n hx hb dX4_readValue_127 rfl (lv_at hl 1 rfl) ?_
            refine c_calli (va_runV (As := [.int r_4]) (rest := [.int cell, .ref (a 35)]) ⟨hx, hb, hml, hown, hts⟩ (c_X4_mended l dC dI a κ σ φ γ_4 ψ_4 g1 g2 r_4 ) (cwV 1 hts gX4_readValue_X4_mended rfl rfl rfl ⟨rfl, hd_X4_mended⟩ ⟨Nat.le_of_ble_eq_true rfl, Nat.le_of_ble_eq_true rfl⟩) (cPreV hP hK hI hN hX hS (va_recv hK hP (ci := 4) (q0 := 5) rfl rfl)) rfl rfl hl.1 rfl (lv_room (Nat.le_of_ble_eq_true rfl)) dX4_readValue_128 ⟨(by decide +kernel), (by decide +kernel)⟩) hS ?_
            clear hP hS; intro r_9 S_9 F_9 γ_9 ψ_9 H locs hw hP hS
            obtain ⟨rfl, rfl, (qm_9 : (Int32.toInt r_4) = 6 → (-1 ≤ (Int32.toInt r_9) ∧ (Int32.toInt r_9) ≤ 1))⟩ := hw
            refine cs_35 (f := (φ 8)) hx hb hK hP hI hS (i := cell) (x := r_9) (vin rfl (by omega)) rfl dX4_readValue_131 ?_
            clear hP hS; intro H locs hP hS
            obtain ⟨f_10, ef_10⟩ : ∃ z : Nat → Int32, z = upd (φ 8) (Int32.toNatClampNeg cell) r_9 := ⟨_, rfl⟩
            rw [← ef_10] at hP
            have hcn := tn_eq (x := cell) (by omega)
            have hva : Int32.toInt cell ≠ 2 → Int32.toInt (f_10 2) = Int32.toInt (φ 8 2) := fun h => by rw [ef_10, pk_un (by omega)]
            have hvb : Int32.toInt cell = 2 → Int32.toInt (f_10 2) = (Int32.toInt r_9) := fun h => by rw [ef_10, show Int32.toNatClampNeg cell = 2 by omega, pk_us]
            refine lv_iconst (v := (-1)) hx hb dX4_readValue_132 (by decide) ?_
            exact W.iret (v := (-1)) hx hb hr (fun t ht hW => ⟨⟨(-1), ((up σ 1 (σ 1)), (up (up φ 3 (φ 3)) 8 f_10), γ_9, ψ_9), rfl, ⟨(σ 1), (φ 3), f_10, rfl, rfl, p_hh_nameLength, (show (Int32.toInt (σ 1)) ≤ (Int32.toInt (σ 1)) ∧ (Int32.toInt (σ 1)) ≤ (Int32.toInt (σ 1)) + 1 from (by omega)), (show ((Int32.toInt cell) = 2 ∧ (Int32.toInt (σ 6)) = 80 ∧ -1 ≤ Int32.toInt ((φ 8) 2) ∧ Int32.toInt ((φ 8) 2) ≤ 1) → (-1 ≤ Int32.toInt (f_10 2) ∧ Int32.toInt (f_10 2) ≤ 1) from (by omega)), (show (Int32.toInt cell) ≠ 2 → Int32.toInt (f_10 2) = Int32.toInt ((φ 8) 2) from (by omega))⟩, (by show va_P _ _ _ _; rw [ht]; exact hP)⟩, hS.F ht⟩) hS.2.2 dX4_readValue_133
          · have kc_8 := bI_eq rfl L_0 c_8
            refine lv_aload_n hx hb dX4_readValue_115 rfl (lv_at hl 3 rfl) ?_
            refine cg_5_5 hx hb hts hinX4 hown hK hP (hts (.fieldLink RX4 21 "CensusDesk$Reader" "signs" "LCensusDesk$Signs;") (List.mem_of_getElem? (i := 2) rfl)) dX4_readValue_116 ?_
            refine lv_iload_n hx hb dX4_readValue_119 rfl (lv_at hl 2 rfl) ?_
            refine c_calli (va_runV (As := [.int r_3]) (rest := [.int cell, .ref (a 35)]) ⟨hx, hb, hml, hown, hts⟩ (c_X6_valueAs l dC dI a κ σ φ γ_4 ψ_4 g1 g2 r_3 ) (cwV 1 hts gX4_readValue_X6_valueAs rfl rfl rfl ⟨rfl, hd_X6_valueAs⟩ ⟨Nat.le_of_ble_eq_true rfl, Nat.le_of_ble_eq_true rfl⟩) (cPreV hP hK hI hN hX hS (va_recv hK hP (ci := 6) (q0 := 7) rfl rfl)) rfl rfl hl.1 rfl (lv_room (Nat.le_of_ble_eq_true rfl)) dX4_readValue_120 ⟨(by decide +kernel), (by decide +kernel)⟩) hS ?_
            clear hP hS; intro r_11 S_11 F_11 γ_11 ψ_11 H locs hw hP hS
            obtain ⟨rfl, rfl, (qf_11 : (Int32.toInt r_3) = 2 → (0 ≤ (Int32.toInt r_11) ∧ (Int32.toInt r_11) ≤ 1))⟩ := hw
            refine lv_goto (tgt := 131) hx hb dX4_readValue_123 (by decide) ?_
            refine cs_35 (f := (φ 8)) hx hb hK hP hI hS (i := cell) (x := r_11) (vin rfl (by omega)) rfl dX4_readValue_131 ?_
            clear hP hS; intro H locs hP hS
            obtain ⟨f_12, ef_12⟩ : ∃ z : Nat → Int32, z = upd (φ 8) (Int32.toNatClampNeg cell) r_11 := ⟨_, rfl⟩
            rw [← ef_12] at hP
            have hcn := tn_eq (x := cell) (by omega)
            have hva : Int32.toInt cell ≠ 2 → Int32.toInt (f_12 2) = Int32.toInt (φ 8 2) := fun h => by rw [ef_12, pk_un (by omega)]
            have hvb : Int32.toInt cell = 2 → Int32.toInt (f_12 2) = (Int32.toInt r_11) := fun h => by rw [ef_12, show Int32.toNatClampNeg cell = 2 by omega, pk_us]
            refine lv_iconst (v := (-1)) hx hb dX4_readValue_132 (by decide) ?_
            exact W.iret (v := (-1)) hx hb hr (fun t ht hW => ⟨⟨(-1), ((up σ 1 (σ 1)), (up (up φ 3 (φ 3)) 8 f_12), γ_11, ψ_11), rfl, ⟨(σ 1), (φ 3), f_12, rfl, rfl, p_hh_nameLength, (show (Int32.toInt (σ 1)) ≤ (Int32.toInt (σ 1)) ∧ (Int32.toInt (σ 1)) ≤ (Int32.toInt (σ 1)) + 1 from (by omega)), (show ((Int32.toInt cell) = 2 ∧ (Int32.toInt (σ 6)) = 80 ∧ -1 ≤ Int32.toInt ((φ 8) 2) ∧ Int32.toInt ((φ 8) 2) ≤ 1) → (-1 ≤ Int32.toInt (f_12 2) ∧ Int32.toInt (f_12 2) ≤ 1) from (by omega)), (show (Int32.toInt cell) ≠ 2 → Int32.toInt (f_12 2) = Int32.toInt ((φ 8) 2) from (by omega))⟩, (by show va_P _ _ _ _; rw [ht]; exact hP)⟩, hS.F ht⟩) hS.2.2 dX4_readValue_133
        · have kc_7 := bI_eq rfl L_1 c_7
          refine lv_aload_n hx hb dX4_readValue_92 rfl (lv_at hl 3 rfl) ?_
          refine cg_5_6 hx hb hts hinX4 hown hK hP (hts (.fieldLink RX4 28 "CensusDesk$Reader" "household" "LCensusDesk$Household;") (List.mem_of_getElem? (i := 3) rfl)) dX4_readValue_93 ?_
          refine lv_aload_n hx hb dX4_readValue_96 rfl (lv_at hl 3 rfl) ?_
          refine cg_5_5 hx hb hts hinX4 hown hK hP (hts (.fieldLink RX4 21 "CensusDesk$Reader" "signs" "LCensusDesk$Signs;") (List.mem_of_getElem? (i := 2) rfl)) dX4_readValue_97 ?_
          refine c_callv (va_runV (As := [.ref (a 7)]) (rest := []) ⟨hx, hb, hml, hown, hts⟩ (c_X2_nameNewcomer l dC dI a κ σ φ γ_4 ψ_4 g1 g2  p_hh_nameLength (show 0 ≤ (Int32.toInt (σ 9)) ∧ (Int32.toInt (σ 9)) ≤ 2000 ∧ 0 ≤ (Int32.toInt (σ 10)) ∧ (Int32.toInt (σ 10)) ≤ 30 * (Int32.toInt (σ 9)) from (by omega))) (cwV 1 hts gX4_readValue_X2_nameNewcomer rfl rfl rfl ⟨rfl, hd_X2_nameNewcomer⟩ ⟨Nat.le_of_ble_eq_true rfl, Nat.le_of_ble_eq_true rfl⟩) (cPreV hP hK hI hN hX hS (va_recv hK hP (ci := 2) (q0 := 8) rfl rfl)) rfl rfl hl.1 rfl (lv_room (Nat.le_of_ble_eq_true rfl)) dX4_readValue_100 ⟨(by decide +kernel), (by decide +kernel)⟩) hS ?_
          clear hP hS; intro S_13 F_13 γ_13 ψ_13 H locs hw hP hS
          obtain ⟨f3_13, rfl, rfl, pf3_13⟩ := hw
          refine lv_goto (tgt := 132) hx hb dX4_readValue_103 (by decide) ?_
          refine lv_iconst (v := (-1)) hx hb dX4_readValue_132 (by decide) ?_
          exact W.iret (v := (-1)) hx hb hr (fun t ht hW => ⟨⟨(-1), ((up σ 1 (σ 1)), (up (up φ 3 f3_13) 8 (φ 8)), γ_13, ψ_13), rfl, ⟨(σ 1), f3_13, (φ 8), rfl, rfl, pf3_13, (show (Int32.toInt (σ 1)) ≤ (Int32.toInt (σ 1)) ∧ (Int32.toInt (σ 1)) ≤ (Int32.toInt (σ 1)) + 1 from (by omega)), (show ((Int32.toInt cell) = 2 ∧ (Int32.toInt (σ 6)) = 80 ∧ -1 ≤ Int32.toInt ((φ 8) 2) ∧ Int32.toInt ((φ 8) 2) ≤ 1) → (-1 ≤ Int32.toInt ((φ 8) 2) ∧ Int32.toInt ((φ 8) 2) ≤ 1) from (by omega)), (show (Int32.toInt cell) ≠ 2 → Int32.toInt ((φ 8) 2) = Int32.toInt ((φ 8) 2) from (by omega))⟩, (by show va_P _ _ _ _; rw [ht]; exact hP)⟩, hS.F ht⟩) hS.2.2 dX4_readValue_133
      · have kc_5 := bI_ne rfl L_0 c_5
        refine lv_iload_n hx hb dX4_readValue_36 rfl (lv_at hl 1 rfl) ?_
        refine lv_iconst (v := 3) hx hb dX4_readValue_37 (by decide) ?_
        refine lv_icmp_ne (tgt := 58) hx hb dX4_readValue_38 (by decide) (fun c_14 => ?_) (fun c_14 => ?_)
        · have kc_14 := bI_ne rfl L_3 c_14
          refine lv_aload_n hx hb dX4_readValue_58 rfl (lv_at hl 3 rfl) ?_
          refine cg_5_4 hx hb hts hinX4 hown hK hP (hts (.fieldLink RX4 12 "CensusDesk$Reader" "line" "LCensusDesk$Line;") (List.mem_of_getElem? (i := 1) rfl)) dX4_readValue_59 ?_
          refine lv_iload_n hx hb dX4_readValue_62 rfl (lv_at hl 4 rfl) ?_
          refine c_calli (va_runV (As := [.int cell]) (rest := []) ⟨hx, hb, hml, hown, hts⟩ (c_X3_startOf l dC dI a κ σ φ γ_4 ψ_4 g1 g2 cell p_line_cellStart p_line_cellEnd (show 0 ≤ (Int32.toInt (σ 3)) ∧ (Int32.toInt (σ 3)) ≤ 4000 from (by omega))) (cwV 1 hts gX4_readValue_X3_startOf rfl rfl rfl ⟨rfl, hd_X3_startOf⟩ ⟨Nat.le_of_ble_eq_true rfl, Nat.le_of_ble_eq_true rfl⟩) (cPreV hP hK hI hN hX hS (va_recv hK hP (ci := 3) (q0 := 6) rfl rfl)) rfl rfl hl.1 rfl (lv_room (Nat.le_of_ble_eq_true rfl)) dX4_readValue_63 ⟨(by decide +kernel), (by decide +kernel)⟩) hS ?_
          clear hP hS; intro r_15 S_15 F_15 γ_15 ψ_15 H locs hw hP hS
          obtain ⟨rfl, rfl, (qr_15 : 0 ≤ (Int32.toInt r_15) ∧ (Int32.toInt r_15) ≤ 4000)⟩ := hw
          refine lv_istore (lv' := [(5, .int r_15), (4, .int (-1)), (3, .int r_4), (2, .int r_3), (0, .ref (a 5)), (1, .int cell)]) hx hb dX4_readValue_66 hl (by decide) rfl ?_
          clear hl; intro ls hl
          refine lv_aload_n hx hb dX4_readValue_68 rfl (lv_at hl 4 rfl) ?_
          refine lv_iload_n hx hb dX4_readValue_69 rfl (lv_at hl 2 rfl) ?_
          refine lv_iload hx hb dX4_readValue_70 (lv_at hl 0 rfl) ?_
          refine lv_iconst (v := (-1)) hx hb dX4_readValue_72 (by decide) ?_
          refine c_calli (va_runV (As := [.int r_4, .int r_15, .int (-1)]) (rest := []) ⟨hx, hb, hml, hown, hts⟩ (c_X4_fail l dC dI a κ σ φ γ_15 ψ_15 g1 g2 r_4 r_15 (-1) (show 0 ≤ (Int32.toInt (σ 1)) ∧ (Int32.toInt (σ 1)) ≤ 2000000000 from (by omega))) (cwV 3 hts gX4_readValue_X4_fail rfl rfl rfl ⟨rfl, hd_X4_fail⟩ ⟨Nat.le_of_ble_eq_true rfl, Nat.le_of_ble_eq_true rfl⟩) (cPreV hP hK hI hN hX hS (va_recv hK hP (ci := 4) (q0 := 5) rfl rfl)) rfl rfl hl.1 rfl (lv_room (Nat.le_of_ble_eq_true rfl)) dX4_readValue_73 ⟨(by decide +kernel), (by decide +kernel)⟩) hS ?_
          clear hP hS; intro r_16 S_16 F_16 γ_16 ψ_16 H locs hw hP hS
          obtain ⟨s1_16, rfl, rfl, (qc_16 : (Int32.toInt (σ 1)) ≤ (Int32.toInt s1_16) ∧ (Int32.toInt s1_16) ≤ (Int32.toInt (σ 1)) + 1)⟩ := hw
          have hLm1_16 := L_m1
          refine lv_istore (lv' := [(4, .int r_16), (5, .int r_15), (3, .int r_4), (2, .int r_3), (0, .ref (a 5)), (1, .int cell)]) hx hb dX4_readValue_76 hl (by decide) rfl ?_
          clear hl; intro ls hl
          refine lv_iload hx hb dX4_readValue_78 (lv_at hl 0 rfl) ?_
          refine lv_iconst (v := (-1)) hx hb dX4_readValue_80 (by decide) ?_
          refine lv_icmp_eq (tgt := 87) hx hb dX4_readValue_81 (by decide) (fun c_17 => ?_) (fun c_17 => ?_)
          · have kc_17 := bI_eq rfl L_m1 c_17
            refine lv_iload_n hx hb dX4_readValue_87 rfl (lv_at hl 3 rfl) ?_
            refine lv_iconst (v := 1) hx hb dX4_readValue_88 (by decide) ?_
            refine lv_icmp_ne (tgt := 106) hx hb dX4_readValue_89 (by decide) (fun c_18 => ?_) (fun c_18 => ?_)
            · have kc_18 := bI_ne rfl L_1 c_18
              refine lv_aload_n hx hb dX4_readValue_106 rfl (lv_at hl 4 rfl) ?_
              refine cg_5_7 hx hb hts hinX4 hown hK hP (hts (.fieldLink RX4 32 "CensusDesk$Reader" "values" "[I") (List.mem_of_getElem? (i := 4) rfl)) dX4_readValue_107 ?_
              refine lv_iload_n hx hb dX4_readValue_110 rfl (lv_at hl 5 rfl) ?_
              refine lv_iload_n hx hb dX4_readValue_111 rfl (lv_at hl 2 rfl) ?_
              refine lv_if_ne (tgt := 126) hx hb dX4_readValue_112 (by decide) (fun c_19 => ?_) (fun c_19 => ?_)
              · have kc_19 := bI_ne rfl L_0 c_19
                refine lv_aload_n hx hb dX4_readValue_126 rfl (lv_at hl 4 rfl) ?_
                refine lv_iload_n hx hb dX4_readValue_127 rfl (lv_at hl 2 rfl) ?_
                refine c_calli (va_runV (As := [.int r_4]) (rest := [.int cell, .ref (a 35)]) ⟨hx, hb, hml, hown, hts⟩ (c_X4_mended l dC dI a κ (up σ 1 s1_16) φ γ_16 ψ_16 g1 g2 r_4 ) (cwV 1 hts gX4_readValue_X4_mended rfl rfl rfl ⟨rfl, hd_X4_mended⟩ ⟨Nat.le_of_ble_eq_true rfl, Nat.le_of_ble_eq_true rfl⟩) (cPreV hP hK hI hN hX hS (va_recv hK hP (ci := 4) (q0 := 5) rfl rfl)) rfl rfl hl.1 rfl (lv_room (Nat.le_of_ble_eq_true rfl)) dX4_readValue_128 ⟨(by decide +kernel), (by decide +kernel)⟩) hS ?_
                clear hP hS; intro r_20 S_20 F_20 γ_20 ψ_20 H locs hw hP hS
                obtain ⟨rfl, rfl, (qm_20 : (Int32.toInt r_4) = 6 → (-1 ≤ (Int32.toInt r_20) ∧ (Int32.toInt r_20) ≤ 1))⟩ := hw
                refine cs_35 (f := (φ 8)) hx hb hK hP hI hS (i := cell) (x := r_20) (vin rfl (by omega)) rfl dX4_readValue_131 ?_
                clear hP hS; intro H locs hP hS
                obtain ⟨f_21, ef_21⟩ : ∃ z : Nat → Int32, z = upd (φ 8) (Int32.toNatClampNeg cell) r_20 := ⟨_, rfl⟩
                rw [← ef_21] at hP
                have hcn := tn_eq (x := cell) (by omega)
                have hva : Int32.toInt cell ≠ 2 → Int32.toInt (f_21 2) = Int32.toInt (φ 8 2) := fun h => by rw [ef_21, pk_un (by omega)]
                have hvb : Int32.toInt cell = 2 → Int32.toInt (f_21 2) = (Int32.toInt r_20) := fun h => by rw [ef_21, show Int32.toNatClampNeg cell = 2 by omega, pk_us]
                refine lv_iconst (v := (-1)) hx hb dX4_readValue_132 (by decide) ?_
                exact W.iret (v := (-1)) hx hb hr (fun t ht hW => ⟨⟨(-1), ((up σ 1 s1_16), (up (up φ 3 (φ 3)) 8 f_21), γ_20, ψ_20), rfl, ⟨s1_16, (φ 3), f_21, rfl, rfl, p_hh_nameLength, (show (Int32.toInt (σ 1)) ≤ (Int32.toInt s1_16) ∧ (Int32.toInt s1_16) ≤ (Int32.toInt (σ 1)) + 1 from (by omega)), (show ((Int32.toInt cell) = 2 ∧ (Int32.toInt (σ 6)) = 80 ∧ -1 ≤ Int32.toInt ((φ 8) 2) ∧ Int32.toInt ((φ 8) 2) ≤ 1) → (-1 ≤ Int32.toInt (f_21 2) ∧ Int32.toInt (f_21 2) ≤ 1) from (by omega)), (show (Int32.toInt cell) ≠ 2 → Int32.toInt (f_21 2) = Int32.toInt ((φ 8) 2) from (by omega))⟩, (by show va_P _ _ _ _; rw [ht]; exact hP)⟩, hS.F ht⟩) hS.2.2 dX4_readValue_133
              · have kc_19 := bI_eq rfl L_0 c_19
                refine lv_aload_n hx hb dX4_readValue_115 rfl (lv_at hl 4 rfl) ?_
                refine cg_5_5 hx hb hts hinX4 hown hK hP (hts (.fieldLink RX4 21 "CensusDesk$Reader" "signs" "LCensusDesk$Signs;") (List.mem_of_getElem? (i := 2) rfl)) dX4_readValue_116 ?_
                refine lv_iload_n hx hb dX4_readValue_119 rfl (lv_at hl 3 rfl) ?_
                refine c_calli (va_runV (As := [.int r_3]) (rest := [.int cell, .ref (a 35)]) ⟨hx, hb, hml, hown, hts⟩ (c_X6_valueAs l dC dI a κ (up σ 1 s1_16) φ γ_16 ψ_16 g1 g2 r_3 ) (cwV 1 hts gX4_readValue_X6_valueAs rfl rfl rfl ⟨rfl, hd_X6_valueAs⟩ ⟨Nat.le_of_ble_eq_true rfl, Nat.le_of_ble_eq_true rfl⟩) (cPreV hP hK hI hN hX hS (va_recv hK hP (ci := 6) (q0 := 7) rfl rfl)) rfl rfl hl.1 rfl (lv_room (Nat.le_of_ble_eq_true rfl)) dX4_readValue_120 ⟨(by decide +kernel), (by decide +kernel)⟩) hS ?_
                clear hP hS; intro r_22 S_22 F_22 γ_22 ψ_22 H locs hw hP hS
                obtain ⟨rfl, rfl, (qf_22 : (Int32.toInt r_3) = 2 → (0 ≤ (Int32.toInt r_22) ∧ (Int32.toInt r_22) ≤ 1))⟩ := hw
                refine lv_goto (tgt := 131) hx hb dX4_readValue_123 (by decide) ?_
                refine cs_35 (f := (φ 8)) hx hb hK hP hI hS (i := cell) (x := r_22) (vin rfl (by omega)) rfl dX4_readValue_131 ?_
                clear hP hS; intro H locs hP hS
                obtain ⟨f_23, ef_23⟩ : ∃ z : Nat → Int32, z = upd (φ 8) (Int32.toNatClampNeg cell) r_22 := ⟨_, rfl⟩
                rw [← ef_23] at hP
                have hcn := tn_eq (x := cell) (by omega)
                have hva : Int32.toInt cell ≠ 2 → Int32.toInt (f_23 2) = Int32.toInt (φ 8 2) := fun h => by rw [ef_23, pk_un (by omega)]
                have hvb : Int32.toInt cell = 2 → Int32.toInt (f_23 2) = (Int32.toInt r_22) := fun h => by rw [ef_23, show Int32.toNatClampNeg cell = 2 by omega, pk_us]
                refine lv_iconst (v := (-1)) hx hb dX4_readValue_132 (by decide) ?_
                exact W.iret (v := (-1)) hx hb hr (fun t ht hW => ⟨⟨(-1), ((up σ 1 s1_16), (up (up φ 3 (φ 3)) 8 f_23), γ_22, ψ_22), rfl, ⟨s1_16, (φ 3), f_23, rfl, rfl, p_hh_nameLength, (show (Int32.toInt (σ 1)) ≤ (Int32.toInt s1_16) ∧ (Int32.toInt s1_16) ≤ (Int32.toInt (σ 1)) + 1 from (by omega)), (show ((Int32.toInt cell) = 2 ∧ (Int32.toInt (σ 6)) = 80 ∧ -1 ≤ Int32.toInt ((φ 8) 2) ∧ Int32.toInt ((φ 8) 2) ≤ 1) → (-1 ≤ Int32.toInt (f_23 2) ∧ Int32.toInt (f_23 2) ≤ 1) from (by omega)), (show (Int32.toInt cell) ≠ 2 → Int32.toInt (f_23 2) = Int32.toInt ((φ 8) 2) from (by omega))⟩, (by show va_P _ _ _ _; rw [ht]; exact hP)⟩, hS.F ht⟩) hS.2.2 dX4_readValue_133
            · have kc_18 := bI_eq rfl L_1 c_18
              refine lv_aload_n hx hb dX4_readValue_92 rfl (lv_at hl 4 rfl) ?_
              refine cg_5_6 hx hb hts hinX4 hown hK hP (hts (.fieldLink RX4 28 "CensusDesk$Reader" "household" "LCensusDesk$Household;") (List.mem_of_getElem? (i := 3) rfl)) dX4_readValue_93 ?_
              refine lv_aload_n hx hb dX4_readValue_96 rfl (lv_at hl 4 rfl) ?_
              refine cg_5_5 hx hb hts hinX4 hown hK hP (hts (.fieldLink RX4 21 "CensusDesk$Reader" "signs" "LCensusDesk$Signs;") (List.mem_of_getElem? (i := 2) rfl)) dX4_readValue_97 ?_
              refine c_callv (va_runV (As := [.ref (a 7)]) (rest := []) ⟨hx, hb, hml, hown, hts⟩ (c_X2_nameNewcomer l dC dI a κ (up σ 1 s1_16) φ γ_16 ψ_16 g1 g2  p_hh_nameLength (show 0 ≤ (Int32.toInt (σ 9)) ∧ (Int32.toInt (σ 9)) ≤ 2000 ∧ 0 ≤ (Int32.toInt (σ 10)) ∧ (Int32.toInt (σ 10)) ≤ 30 * (Int32.toInt (σ 9)) from (by omega))) (cwV 1 hts gX4_readValue_X2_nameNewcomer rfl rfl rfl ⟨rfl, hd_X2_nameNewcomer⟩ ⟨Nat.le_of_ble_eq_true rfl, Nat.le_of_ble_eq_true rfl⟩) (cPreV hP hK hI hN hX hS (va_recv hK hP (ci := 2) (q0 := 8) rfl rfl)) rfl rfl hl.1 rfl (lv_room (Nat.le_of_ble_eq_true rfl)) dX4_readValue_100 ⟨(by decide +kernel), (by decide +kernel)⟩) hS ?_
              clear hP hS; intro S_24 F_24 γ_24 ψ_24 H locs hw hP hS
              obtain ⟨f3_24, rfl, rfl, pf3_24⟩ := hw
              refine lv_goto (tgt := 132) hx hb dX4_readValue_103 (by decide) ?_
              refine lv_iconst (v := (-1)) hx hb dX4_readValue_132 (by decide) ?_
              exact W.iret (v := (-1)) hx hb hr (fun t ht hW => ⟨⟨(-1), ((up σ 1 s1_16), (up (up φ 3 f3_24) 8 (φ 8)), γ_24, ψ_24), rfl, ⟨s1_16, f3_24, (φ 8), rfl, rfl, pf3_24, (show (Int32.toInt (σ 1)) ≤ (Int32.toInt s1_16) ∧ (Int32.toInt s1_16) ≤ (Int32.toInt (σ 1)) + 1 from (by omega)), (show ((Int32.toInt cell) = 2 ∧ (Int32.toInt (σ 6)) = 80 ∧ -1 ≤ Int32.toInt ((φ 8) 2) ∧ Int32.toInt ((φ 8) 2) ≤ 1) → (-1 ≤ Int32.toInt ((φ 8) 2) ∧ Int32.toInt ((φ 8) 2) ≤ 1) from (by omega)), (show (Int32.toInt cell) ≠ 2 → Int32.toInt ((φ 8) 2) = Int32.toInt ((φ 8) 2) from (by omega))⟩, (by show va_P _ _ _ _; rw [ht]; exact hP)⟩, hS.F ht⟩) hS.2.2 dX4_readValue_133
          · have kc_17 := bI_ne rfl L_m1 c_17
            refine lv_iload hx hb dX4_readValue_84 (lv_at hl 0 rfl) ?_
            exact W.iret (v := r_16) hx hb hr (fun t ht hW => ⟨⟨r_16, ((up σ 1 s1_16), (up (up φ 3 (φ 3)) 8 (φ 8)), γ_16, ψ_16), rfl, ⟨s1_16, (φ 3), (φ 8), rfl, rfl, p_hh_nameLength, (show (Int32.toInt (σ 1)) ≤ (Int32.toInt s1_16) ∧ (Int32.toInt s1_16) ≤ (Int32.toInt (σ 1)) + 1 from (by omega)), (show ((Int32.toInt cell) = 2 ∧ (Int32.toInt (σ 6)) = 80 ∧ -1 ≤ Int32.toInt ((φ 8) 2) ∧ Int32.toInt ((φ 8) 2) ≤ 1) → (-1 ≤ Int32.toInt ((φ 8) 2) ∧ Int32.toInt ((φ 8) 2) ≤ 1) from (by omega)), (show (Int32.toInt cell) ≠ 2 → Int32.toInt ((φ 8) 2) = Int32.toInt ((φ 8) 2) from (by omega))⟩, (by show va_P _ _ _ _; rw [ht]; exact hP)⟩, hS.F ht⟩) hS.2.2 dX4_readValue_86
        · have kc_14 := bI_eq rfl L_3 c_14
          refine lv_aload_n hx hb dX4_readValue_41 rfl (lv_at hl 3 rfl) ?_
          refine cg_5_5 hx hb hts hinX4 hown hK hP (hts (.fieldLink RX4 21 "CensusDesk$Reader" "signs" "LCensusDesk$Signs;") (List.mem_of_getElem? (i := 2) rfl)) dX4_readValue_42 ?_
          refine lv_aload_n hx hb dX4_readValue_45 rfl (lv_at hl 3 rfl) ?_
          refine cg_5_5 hx hb hts hinX4 hown hK hP (hts (.fieldLink RX4 21 "CensusDesk$Reader" "signs" "LCensusDesk$Signs;") (List.mem_of_getElem? (i := 2) rfl)) dX4_readValue_46 ?_
          refine c_calli (va_runV (As := []) (rest := [.ref (a 7)]) ⟨hx, hb, hml, hown, hts⟩ (c_X6_firstBadOfName l dC dI a κ σ φ γ_4 ψ_4 g1 g2  ) (cwV 0 hts gX4_readValue_X6_firstBadOfName rfl rfl rfl ⟨rfl, hd_X6_firstBadOfName⟩ ⟨Nat.le_of_ble_eq_true rfl, Nat.le_of_ble_eq_true rfl⟩) (cPreV hP hK hI hN hX hS (va_recv hK hP (ci := 6) (q0 := 7) rfl rfl)) rfl rfl hl.1 rfl (lv_room (Nat.le_of_ble_eq_true rfl)) dX4_readValue_49 ⟨(by decide +kernel), (by decide +kernel)⟩) hS ?_
          clear hP hS; intro r_25 S_25 F_25 γ_25 ψ_25 H locs hw hP hS
          obtain ⟨rfl, rfl, -⟩ := hw
          refine c_calli (va_runV (As := [.int r_25]) (rest := []) ⟨hx, hb, hml, hown, hts⟩ (c_X6_placeOf l dC dI a κ σ φ γ_25 ψ_25 g1 g2 r_25 ) (cwV 1 hts gX4_readValue_X6_placeOf rfl rfl rfl ⟨rfl, hd_X6_placeOf⟩ ⟨Nat.le_of_ble_eq_true rfl, Nat.le_of_ble_eq_true rfl⟩) (cPreV hP hK hI hN hX hS (va_recv hK hP (ci := 6) (q0 := 7) rfl rfl)) rfl rfl hl.1 rfl (lv_room (Nat.le_of_ble_eq_true rfl)) dX4_readValue_52 ⟨(by decide +kernel), (by decide +kernel)⟩) hS ?_
          clear hP hS; intro r_26 S_26 F_26 γ_26 ψ_26 H locs hw hP hS
          obtain ⟨rfl, rfl, -⟩ := hw
          refine lv_goto (tgt := 66) hx hb dX4_readValue_55 (by decide) ?_
          refine lv_istore (lv' := [(5, .int r_26), (4, .int (-1)), (3, .int r_4), (2, .int r_3), (0, .ref (a 5)), (1, .int cell)]) hx hb dX4_readValue_66 hl (by decide) rfl ?_
          clear hl; intro ls hl
          refine lv_aload_n hx hb dX4_readValue_68 rfl (lv_at hl 4 rfl) ?_
          refine lv_iload_n hx hb dX4_readValue_69 rfl (lv_at hl 2 rfl) ?_
          refine lv_iload hx hb dX4_readValue_70 (lv_at hl 0 rfl) ?_
          refine lv_iconst (v := (-1)) hx hb dX4_readValue_72 (by decide) ?_
          refine c_calli (va_runV (As := [.int r_4, .int r_26, .int (-1)]) (rest := []) ⟨hx, hb, hml, hown, hts⟩ (c_X4_fail l dC dI a κ σ φ γ_26 ψ_26 g1 g2 r_4 r_26 (-1) (show 0 ≤ (Int32.toInt (σ 1)) ∧ (Int32.toInt (σ 1)) ≤ 2000000000 from (by omega))) (cwV 3 hts gX4_readValue_X4_fail rfl rfl rfl ⟨rfl, hd_X4_fail⟩ ⟨Nat.le_of_ble_eq_true rfl, Nat.le_of_ble_eq_true rfl⟩) (cPreV hP hK hI hN hX hS (va_recv hK hP (ci := 4) (q0 := 5) rfl rfl)) rfl rfl hl.1 rfl (lv_room (Nat.le_of_ble_eq_true rfl)) dX4_readValue_73 ⟨(by decide +kernel), (by decide +kernel)⟩) hS ?_
          clear hP hS; intro r_27 S_27 F_27 γ_27 ψ_27 H locs hw hP hS
          obtain ⟨s1_27, rfl, rfl, (qc_27 : (Int32.toInt (σ 1)) ≤ (Int32.toInt s1_27) ∧ (Int32.toInt s1_27) ≤ (Int32.toInt (σ 1)) + 1)⟩ := hw
          have hLm1_27 := L_m1
          refine lv_istore (lv' := [(4, .int r_27), (5, .int r_26), (3, .int r_4), (2, .int r_3), (0, .ref (a 5)), (1, .int cell)]) hx hb dX4_readValue_76 hl (by decide) rfl ?_
          clear hl; intro ls hl
          refine lv_iload hx hb dX4_readValue_78 (lv_at hl 0 rfl) ?_
          refine lv_iconst (v := (-1)) hx hb dX4_readValue_80 (by decide) ?_
          refine lv_icmp_eq (tgt := 87) hx hb dX4_readValue_81 (by decide) (fun c_28 => ?_) (fun c_28 => ?_)
          · have kc_28 := bI_eq rfl L_m1 c_28
            refine lv_iload_n hx hb dX4_readValue_87 rfl (lv_at hl 3 rfl) ?_
            refine lv_iconst (v := 1) hx hb dX4_readValue_88 (by decide) ?_
            refine lv_icmp_ne (tgt := 106) hx hb dX4_readValue_89 (by decide) (fun c_29 => ?_) (fun c_29 => ?_)
            · have kc_29 := bI_ne rfl L_1 c_29
              refine lv_aload_n hx hb dX4_readValue_106 rfl (lv_at hl 4 rfl) ?_
              refine cg_5_7 hx hb hts hinX4 hown hK hP (hts (.fieldLink RX4 32 "CensusDesk$Reader" "values" "[I") (List.mem_of_getElem? (i := 4) rfl)) dX4_readValue_107 ?_
              refine lv_iload_n hx hb dX4_readValue_110 rfl (lv_at hl 5 rfl) ?_
              refine lv_iload_n hx hb dX4_readValue_111 rfl (lv_at hl 2 rfl) ?_
              refine lv_if_ne (tgt := 126) hx hb dX4_readValue_112 (by decide) (fun c_30 => ?_) (fun c_30 => ?_)
              · have kc_30 := bI_ne rfl L_0 c_30
                refine lv_aload_n hx hb dX4_readValue_126 rfl (lv_at hl 4 rfl) ?_
                refine lv_iload_n hx hb dX4_readValue_127 rfl (lv_at hl 2 rfl) ?_
                refine c_calli (va_runV (As := [.int r_4]) (rest := [.int cell, .ref (a 35)]) ⟨hx, hb, hml, hown, hts⟩ (c_X4_mended l dC dI a κ (up σ 1 s1_27) φ γ_27 ψ_27 g1 g2 r_4 ) (cwV 1 hts gX4_readValue_X4_mended rfl rfl rfl ⟨rfl, hd_X4_mended⟩ ⟨Nat.le_of_ble_eq_true rfl, Nat.le_of_ble_eq_true rfl⟩) (cPreV hP hK hI hN hX hS (va_recv hK hP (ci := 4) (q0 := 5) rfl rfl)) rfl rfl hl.1 rfl (lv_room (Nat.le_of_ble_eq_true rfl)) dX4_readValue_128 ⟨(by decide +kernel), (by decide +kernel)⟩) hS ?_
                clear hP hS; intro r_31 S_31 F_31 γ_31 ψ_31 H locs hw hP hS
                obtain ⟨rfl, rfl, (qm_31 : (Int32.toInt r_4) = 6 → (-1 ≤ (Int32.toInt r_31) ∧ (Int32.toInt r_31) ≤ 1))⟩ := hw
                refine cs_35 (f := (φ 8)) hx hb hK hP hI hS (i := cell) (x := r_31) (vin rfl (by omega)) rfl dX4_readValue_131 ?_
                clear hP hS; intro H locs hP hS
                obtain ⟨f_32, ef_32⟩ : ∃ z : Nat → Int32, z = upd (φ 8) (Int32.toNatClampNeg cell) r_31 := ⟨_, rfl⟩
                rw [← ef_32] at hP
                have hcn := tn_eq (x := cell) (by omega)
                have hva : Int32.toInt cell ≠ 2 → Int32.toInt (f_32 2) = Int32.toInt (φ 8 2) := fun h => by rw [ef_32, pk_un (by omega)]
                have hvb : Int32.toInt cell = 2 → Int32.toInt (f_32 2) = (Int32.toInt r_31) := fun h => by rw [ef_32, show Int32.toNatClampNeg cell = 2 by omega, pk_us]
                refine lv_iconst (v := (-1)) hx hb dX4_readValue_132 (by decide) ?_
                exact W.iret (v := (-1)) hx hb hr (fun t ht hW => ⟨⟨(-1), ((up σ 1 s1_27), (up (up φ 3 (φ 3)) 8 f_32), γ_31, ψ_31), rfl, ⟨s1_27, (φ 3), f_32, rfl, rfl, p_hh_nameLength, (show (Int32.toInt (σ 1)) ≤ (Int32.toInt s1_27) ∧ (Int32.toInt s1_27) ≤ (Int32.toInt (σ 1)) + 1 from (by omega)), (show ((Int32.toInt cell) = 2 ∧ (Int32.toInt (σ 6)) = 80 ∧ -1 ≤ Int32.toInt ((φ 8) 2) ∧ Int32.toInt ((φ 8) 2) ≤ 1) → (-1 ≤ Int32.toInt (f_32 2) ∧ Int32.toInt (f_32 2) ≤ 1) from (by omega)), (show (Int32.toInt cell) ≠ 2 → Int32.toInt (f_32 2) = Int32.toInt ((φ 8) 2) from (by omega))⟩, (by show va_P _ _ _ _; rw [ht]; exact hP)⟩, hS.F ht⟩) hS.2.2 dX4_readValue_133
              · have kc_30 := bI_eq rfl L_0 c_30
                refine lv_aload_n hx hb dX4_readValue_115 rfl (lv_at hl 4 rfl) ?_
                refine cg_5_5 hx hb hts hinX4 hown hK hP (hts (.fieldLink RX4 21 "CensusDesk$Reader" "signs" "LCensusDesk$Signs;") (List.mem_of_getElem? (i := 2) rfl)) dX4_readValue_116 ?_
                refine lv_iload_n hx hb dX4_readValue_119 rfl (lv_at hl 3 rfl) ?_
                refine c_calli (va_runV (As := [.int r_3]) (rest := [.int cell, .ref (a 35)]) ⟨hx, hb, hml, hown, hts⟩ (c_X6_valueAs l dC dI a κ (up σ 1 s1_27) φ γ_27 ψ_27 g1 g2 r_3 ) (cwV 1 hts gX4_readValue_X6_valueAs rfl rfl rfl ⟨rfl, hd_X6_valueAs⟩ ⟨Nat.le_of_ble_eq_true rfl, Nat.le_of_ble_eq_true rfl⟩) (cPreV hP hK hI hN hX hS (va_recv hK hP (ci := 6) (q0 := 7) rfl rfl)) rfl rfl hl.1 rfl (lv_room (Nat.le_of_ble_eq_true rfl)) dX4_readValue_120 ⟨(by decide +kernel), (by decide +kernel)⟩) hS ?_
                clear hP hS; intro r_33 S_33 F_33 γ_33 ψ_33 H locs hw hP hS
                obtain ⟨rfl, rfl, (qf_33 : (Int32.toInt r_3) = 2 → (0 ≤ (Int32.toInt r_33) ∧ (Int32.toInt r_33) ≤ 1))⟩ := hw
                refine lv_goto (tgt := 131) hx hb dX4_readValue_123 (by decide) ?_
                refine cs_35 (f := (φ 8)) hx hb hK hP hI hS (i := cell) (x := r_33) (vin rfl (by omega)) rfl dX4_readValue_131 ?_
                clear hP hS; intro H locs hP hS
                obtain ⟨f_34, ef_34⟩ : ∃ z : Nat → Int32, z = upd (φ 8) (Int32.toNatClampNeg cell) r_33 := ⟨_, rfl⟩
                rw [← ef_34] at hP
                have hcn := tn_eq (x := cell) (by omega)
                have hva : Int32.toInt cell ≠ 2 → Int32.toInt (f_34 2) = Int32.toInt (φ 8 2) := fun h => by rw [ef_34, pk_un (by omega)]
                have hvb : Int32.toInt cell = 2 → Int32.toInt (f_34 2) = (Int32.toInt r_33) := fun h => by rw [ef_34, show Int32.toNatClampNeg cell = 2 by omega, pk_us]
                refine lv_iconst (v := (-1)) hx hb dX4_readValue_132 (by decide) ?_
                exact W.iret (v := (-1)) hx hb hr (fun t ht hW => ⟨⟨(-1), ((up σ 1 s1_27), (up (up φ 3 (φ 3)) 8 f_34), γ_33, ψ_33), rfl, ⟨s1_27, (φ 3), f_34, rfl, rfl, p_hh_nameLength, (show (Int32.toInt (σ 1)) ≤ (Int32.toInt s1_27) ∧ (Int32.toInt s1_27) ≤ (Int32.toInt (σ 1)) + 1 from (by omega)), (show ((Int32.toInt cell) = 2 ∧ (Int32.toInt (σ 6)) = 80 ∧ -1 ≤ Int32.toInt ((φ 8) 2) ∧ Int32.toInt ((φ 8) 2) ≤ 1) → (-1 ≤ Int32.toInt (f_34 2) ∧ Int32.toInt (f_34 2) ≤ 1) from (by omega)), (show (Int32.toInt cell) ≠ 2 → Int32.toInt (f_34 2) = Int32.toInt ((φ 8) 2) from (by omega))⟩, (by show va_P _ _ _ _; rw [ht]; exact hP)⟩, hS.F ht⟩) hS.2.2 dX4_readValue_133
            · have kc_29 := bI_eq rfl L_1 c_29
              refine lv_aload_n hx hb dX4_readValue_92 rfl (lv_at hl 4 rfl) ?_
              refine cg_5_6 hx hb hts hinX4 hown hK hP (hts (.fieldLink RX4 28 "CensusDesk$Reader" "household" "LCensusDesk$Household;") (List.mem_of_getElem? (i := 3) rfl)) dX4_readValue_93 ?_
              refine lv_aload_n hx hb dX4_readValue_96 rfl (lv_at hl 4 rfl) ?_
              refine cg_5_5 hx hb hts hinX4 hown hK hP (hts (.fieldLink RX4 21 "CensusDesk$Reader" "signs" "LCensusDesk$Signs;") (List.mem_of_getElem? (i := 2) rfl)) dX4_readValue_97 ?_
              refine c_callv (va_runV (As := [.ref (a 7)]) (rest := []) ⟨hx, hb, hml, hown, hts⟩ (c_X2_nameNewcomer l dC dI a κ (up σ 1 s1_27) φ γ_27 ψ_27 g1 g2  p_hh_nameLength (show 0 ≤ (Int32.toInt (σ 9)) ∧ (Int32.toInt (σ 9)) ≤ 2000 ∧ 0 ≤ (Int32.toInt (σ 10)) ∧ (Int32.toInt (σ 10)) ≤ 30 * (Int32.toInt (σ 9)) from (by omega))) (cwV 1 hts gX4_readValue_X2_nameNewcomer rfl rfl rfl ⟨rfl, hd_X2_nameNewcomer⟩ ⟨Nat.le_of_ble_eq_true rfl, Nat.le_of_ble_eq_true rfl⟩) (cPreV hP hK hI hN hX hS (va_recv hK hP (ci := 2) (q0 := 8) rfl rfl)) rfl rfl hl.1 rfl (lv_room (Nat.le_of_ble_eq_true rfl)) dX4_readValue_100 ⟨(by decide +kernel), (by decide +kernel)⟩) hS ?_
              clear hP hS; intro S_35 F_35 γ_35 ψ_35 H locs hw hP hS
              obtain ⟨f3_35, rfl, rfl, pf3_35⟩ := hw
              refine lv_goto (tgt := 132) hx hb dX4_readValue_103 (by decide) ?_
              refine lv_iconst (v := (-1)) hx hb dX4_readValue_132 (by decide) ?_
              exact W.iret (v := (-1)) hx hb hr (fun t ht hW => ⟨⟨(-1), ((up σ 1 s1_27), (up (up φ 3 f3_35) 8 (φ 8)), γ_35, ψ_35), rfl, ⟨s1_27, f3_35, (φ 8), rfl, rfl, pf3_35, (show (Int32.toInt (σ 1)) ≤ (Int32.toInt s1_27) ∧ (Int32.toInt s1_27) ≤ (Int32.toInt (σ 1)) + 1 from (by omega)), (show ((Int32.toInt cell) = 2 ∧ (Int32.toInt (σ 6)) = 80 ∧ -1 ≤ Int32.toInt ((φ 8) 2) ∧ Int32.toInt ((φ 8) 2) ≤ 1) → (-1 ≤ Int32.toInt ((φ 8) 2) ∧ Int32.toInt ((φ 8) 2) ≤ 1) from (by omega)), (show (Int32.toInt cell) ≠ 2 → Int32.toInt ((φ 8) 2) = Int32.toInt ((φ 8) 2) from (by omega))⟩, (by show va_P _ _ _ _; rw [ht]; exact hP)⟩, hS.F ht⟩) hS.2.2 dX4_readValue_133
          · have kc_28 := bI_ne rfl L_m1 c_28
            refine lv_iload hx hb dX4_readValue_84 (lv_at hl 0 rfl) ?_
            exact W.iret (v := r_27) hx hb hr (fun t ht hW => ⟨⟨r_27, ((up σ 1 s1_27), (up (up φ 3 (φ 3)) 8 (φ 8)), γ_27, ψ_27), rfl, ⟨s1_27, (φ 3), (φ 8), rfl, rfl, p_hh_nameLength, (show (Int32.toInt (σ 1)) ≤ (Int32.toInt s1_27) ∧ (Int32.toInt s1_27) ≤ (Int32.toInt (σ 1)) + 1 from (by omega)), (show ((Int32.toInt cell) = 2 ∧ (Int32.toInt (σ 6)) = 80 ∧ -1 ≤ Int32.toInt ((φ 8) 2) ∧ Int32.toInt ((φ 8) 2) ≤ 1) → (-1 ≤ Int32.toInt ((φ 8) 2) ∧ Int32.toInt ((φ 8) 2) ≤ 1) from (by omega)), (show (Int32.toInt cell) ≠ 2 → Int32.toInt ((φ 8) 2) = Int32.toInt ((φ 8) 2) from (by omega))⟩, (by show va_P _ _ _ _; rw [ht]; exact hP)⟩, hS.F ht⟩) hS.2.2 dX4_readValue_86
    · have kc_2 := bI_nlt rfl L_5 c_2
      refine lv_iconst (v := (-1)) hx hb dX4_readValue_9 (by decide) ?_
      exact W.iret (v := (-1)) hx hb hr (fun t ht hW => ⟨⟨(-1), ((up σ 1 (σ 1)), (up (up φ 3 (φ 3)) 8 (φ 8)), γ, ψ), rfl, ⟨(σ 1), (φ 3), (φ 8), rfl, rfl, p_hh_nameLength, (show (Int32.toInt (σ 1)) ≤ (Int32.toInt (σ 1)) ∧ (Int32.toInt (σ 1)) ≤ (Int32.toInt (σ 1)) + 1 from (by omega)), (show ((Int32.toInt cell) = 2 ∧ (Int32.toInt (σ 6)) = 80 ∧ -1 ≤ Int32.toInt ((φ 8) 2) ∧ Int32.toInt ((φ 8) 2) ≤ 1) → (-1 ≤ Int32.toInt ((φ 8) 2) ∧ Int32.toInt ((φ 8) 2) ≤ 1) from (by omega)), (show (Int32.toInt cell) ≠ 2 → Int32.toInt ((φ 8) 2) = Int32.toInt ((φ 8) 2) from (by omega))⟩, (by show va_P _ _ _ _; rw [ht]; exact hP)⟩, hS.F ht⟩) hS.2.2 dX4_readValue_10
set_option maxHeartbeats 4000000 in
set_option maxRecDepth 100000 in
theorem c_X4_isWorkingChild (l : Launch) (dC : Nat → ClassId) (dI : Nat → Nat → Nat) (a : Nat → Nat) (κ : Nat → ClassId) (σ : Nat → Int32) (φ : Nat → Nat → Int32) (γ : Nat → Int32) (ψ : Nat → Nat → Int32) (g1 g2 : Nat)  : Met l yX4_isWorkingChild wsX4_isWorkingChild ({ frames := 0, cells := 0, slots := 0, locals := 0 } : Room) (va_Pc [.ref (a 5)] (cPre dC dI a κ (σ, φ, γ, ψ) g1 g2)) (va_Qi (QI (fun r S F => σ = S ∧ φ = F ∧ True)) (cB dC dI a κ) (cA a)) 0 0 (cA a) := by
  refine Met.ofW (cc := cX4_isWorkingChild) (maxL := 3) (ret := (some .boolean)) (by decide) rfl ?_
  intro p e s m args below meth c s₁ B hml hv
  obtain ⟨rfl, hP, hK, hI, hN, hX⟩ := hv
  have hx := B.exec
  have hb := B.bytes
  have hr := B.returns
  have hts := atoms_spec (ws := wsX4_isWorkingChild) B.pre
  have hown : s.vm.findClass RX4 = some m.cls := findClass_of_methodNamed B.named
  have hlocks := B.notSynchronized
  have hS : va_S (cA a) s.heap s.heap [] := va_S.rf
  have hinX4 : ∀ w ∈ wsX40, w ∈ wsX4_isWorkingChild := fun _ h => List.mem_cons_of_mem _ (List.mem_append_left _ (List.mem_append_right _ h))
  have hinX3 : ∀ w ∈ wsX30, w ∈ wsX4_isWorkingChild := fun _ h => List.mem_cons_of_mem _ (List.mem_append_right _ h)
  have hl := lv_entry ([.ref (a 5)]) (n := 3) (Nat.le_of_ble_eq_true rfl)
  rw [lg_entry_eq]
  generalize (lg_sl ([.ref (a 5)]) ++ List.replicate (3 - (lg_sl ([.ref (a 5)])).length) Slot.unset).toArray = ls at hl ⊢
  have hl : lv_has ls 3 [(0, .ref (a 5))] := hl
  refine lv_aload_n hx hb dX4_isWorkingChild_0 rfl (lv_at hl 0 rfl) ?_
  refine cg_5_4 hx hb hts hinX4 hown hK hP (hts (.fieldLink RX4 12 "CensusDesk$Reader" "line" "LCensusDesk$Line;") (List.mem_of_getElem? (i := 1) rfl)) dX4_isWorkingChild_1 ?_
  refine cgN_6_6 (v := (σ 6)) hx hb hts hinX3 hown hK hP (va_Nw.use rfl (hN.1 ("CensusDesk$Reader", 121, "CensusDesk$Line", "sort", "I") (List.mem_of_getElem? (i := 13) rfl))) rfl dX4_isWorkingChild_4 ?_
  refine lv_bipush (v := 80) hx hb dX4_isWorkingChild_7 (by decide) ?_
  refine lv_icmp_eq (tgt := 14) hx hb dX4_isWorkingChild_9 (by decide) (fun c_1 => ?_) (fun c_1 => ?_)
  · have kc_1 := bI_eq rfl L_80 c_1
    refine lv_aload_n hx hb dX4_isWorkingChild_14 rfl (lv_at hl 0 rfl) ?_
    refine cg_5_7 hx hb hts hinX4 hown hK hP (hts (.fieldLink RX4 32 "CensusDesk$Reader" "values" "[I") (List.mem_of_getElem? (i := 2) rfl)) dX4_isWorkingChild_15 ?_
    refine lv_iconst (v := 3) hx hb dX4_isWorkingChild_18 (by decide) ?_
    refine cl_35 (f := (φ 8)) hx hb hK hP (i := 3) (vp_in_nI (n := 3) (by decide) (by decide)) rfl dX4_isWorkingChild_19 ?_
    refine lv_topi (fun z_2 ez_2 => ?_)
    have tz_2 : (Int32.toInt z_2) = Int32.toInt ((φ 8) 3) := congrArg Int32.toInt ez_2
    refine lv_istore_n (lv' := [(1, .int z_2), (0, .ref (a 5))]) hx hb dX4_isWorkingChild_20 rfl hl (by decide) rfl ?_
    clear hl; intro ls hl
    refine lv_aload_n hx hb dX4_isWorkingChild_21 rfl (lv_at hl 1 rfl) ?_
    refine cg_5_7 hx hb hts hinX4 hown hK hP (hts (.fieldLink RX4 32 "CensusDesk$Reader" "values" "[I") (List.mem_of_getElem? (i := 2) rfl)) dX4_isWorkingChild_22 ?_
    refine lv_iconst (v := 4) hx hb dX4_isWorkingChild_25 (by decide) ?_
    refine cl_35 (f := (φ 8)) hx hb hK hP (i := 4) (vp_in_nI (n := 4) (by decide) (by decide)) rfl dX4_isWorkingChild_26 ?_
    refine lv_topi (fun z_3 ez_3 => ?_)
    have tz_3 : (Int32.toInt z_3) = Int32.toInt ((φ 8) 4) := congrArg Int32.toInt ez_3
    refine lv_istore_n (lv' := [(2, .int z_3), (1, .int z_2), (0, .ref (a 5))]) hx hb dX4_isWorkingChild_27 rfl hl (by decide) rfl ?_
    clear hl; intro ls hl
    refine lv_iload_n hx hb dX4_isWorkingChild_28 rfl (lv_at hl 1 rfl) ?_
    refine lv_iconst (v := (-1)) hx hb dX4_isWorkingChild_29 (by decide) ?_
    refine lv_icmp_eq (tgt := 52) hx hb dX4_isWorkingChild_30 (by decide) (fun c_4 => ?_) (fun c_4 => ?_)
    · have kc_4 := bI_eq rfl L_m1 c_4
      refine lv_iconst (v := 0) hx hb dX4_isWorkingChild_52 (by decide) ?_
      exact W.zret (v := 0) hx hb hr (by first | rfl | decide) (fun t ht hW => ⟨⟨0, (σ, φ, γ, ψ), rfl, ⟨rfl, rfl, trivial⟩, (by show va_P _ _ _ _; rw [ht]; exact hP)⟩, hS.F ht⟩) hS.2.2 dX4_isWorkingChild_53
    · have kc_4 := bI_ne rfl L_m1 c_4
      refine lv_iload_n hx hb dX4_isWorkingChild_33 rfl (lv_at hl 1 rfl) ?_
      refine lv_bipush (v := 10) hx hb dX4_isWorkingChild_34 (by decide) ?_
      refine lv_icmp_ge (tgt := 52) hx hb dX4_isWorkingChild_36 (by decide) (fun c_5 => ?_) (fun c_5 => ?_)
      · have kc_5 := bI_le L_10 rfl c_5
        refine lv_iconst (v := 0) hx hb dX4_isWorkingChild_52 (by decide) ?_
        exact W.zret (v := 0) hx hb hr (by first | rfl | decide) (fun t ht hW => ⟨⟨0, (σ, φ, γ, ψ), rfl, ⟨rfl, rfl, trivial⟩, (by show va_P _ _ _ _; rw [ht]; exact hP)⟩, hS.F ht⟩) hS.2.2 dX4_isWorkingChild_53
      · have kc_5 := bI_nle L_10 rfl c_5
        refine lv_iload_n hx hb dX4_isWorkingChild_39 rfl (lv_at hl 0 rfl) ?_
        refine lv_iconst (v := (-1)) hx hb dX4_isWorkingChild_40 (by decide) ?_
        refine lv_icmp_eq (tgt := 52) hx hb dX4_isWorkingChild_41 (by decide) (fun c_6 => ?_) (fun c_6 => ?_)
        · have kc_6 := bI_eq rfl L_m1 c_6
          refine lv_iconst (v := 0) hx hb dX4_isWorkingChild_52 (by decide) ?_
          exact W.zret (v := 0) hx hb hr (by first | rfl | decide) (fun t ht hW => ⟨⟨0, (σ, φ, γ, ψ), rfl, ⟨rfl, rfl, trivial⟩, (by show va_P _ _ _ _; rw [ht]; exact hP)⟩, hS.F ht⟩) hS.2.2 dX4_isWorkingChild_53
        · have kc_6 := bI_ne rfl L_m1 c_6
          refine lv_iload_n hx hb dX4_isWorkingChild_44 rfl (lv_at hl 0 rfl) ?_
          refine lv_if_le (tgt := 52) hx hb dX4_isWorkingChild_45 (by decide) (fun c_7 => ?_) (fun c_7 => ?_)
          · have kc_7 := bI_le rfl L_0 c_7
            refine lv_iconst (v := 0) hx hb dX4_isWorkingChild_52 (by decide) ?_
            exact W.zret (v := 0) hx hb hr (by first | rfl | decide) (fun t ht hW => ⟨⟨0, (σ, φ, γ, ψ), rfl, ⟨rfl, rfl, trivial⟩, (by show va_P _ _ _ _; rw [ht]; exact hP)⟩, hS.F ht⟩) hS.2.2 dX4_isWorkingChild_53
          · have kc_7 := bI_nle rfl L_0 c_7
            refine lv_iconst (v := 1) hx hb dX4_isWorkingChild_48 (by decide) ?_
            refine lv_goto (tgt := 53) hx hb dX4_isWorkingChild_49 (by decide) ?_
            exact W.zret (v := 1) hx hb hr (by first | rfl | decide) (fun t ht hW => ⟨⟨1, (σ, φ, γ, ψ), rfl, ⟨rfl, rfl, trivial⟩, (by show va_P _ _ _ _; rw [ht]; exact hP)⟩, hS.F ht⟩) hS.2.2 dX4_isWorkingChild_53
  · have kc_1 := bI_ne rfl L_80 c_1
    refine lv_iconst (v := 0) hx hb dX4_isWorkingChild_12 (by decide) ?_
    exact W.zret (v := 0) hx hb hr (by first | rfl | decide) (fun t ht hW => ⟨⟨0, (σ, φ, γ, ψ), rfl, ⟨rfl, rfl, trivial⟩, (by show va_P _ _ _ _; rw [ht]; exact hP)⟩, hS.F ht⟩) hS.2.2 dX4_isWorkingChild_13
