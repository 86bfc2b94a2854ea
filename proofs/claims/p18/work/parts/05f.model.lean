set_option maxHeartbeats 4000000 in
set_option maxRecDepth 100000 in
theorem c_X9_readSex (l : Launch) (dC : Nat → ClassId) (dI : Nat → Nat → Nat) (a : Nat → Nat) (κ : Nat → ClassId) (σ : Nat → Int32) (φ : Nat → Nat → Int32) (γ : Nat → Int32) (ψ : Nat → Nat → Int32) (k : Int32) (hl : 0 ≤ (Int32.toInt (σ 5)) ∧ (Int32.toInt (σ 5)) ≤ (Int32.toInt (σ 6)) ∧ (Int32.toInt (σ 6)) ≤ 4000) (hf : 0 ≤ (Int32.toInt (σ 10)) ∧ (Int32.toInt (σ 10)) ≤ 1500000000) (hfc : ∀ i : Nat, i < 300 → (i : Int) < (Int32.toInt (σ 10)) → Int32.toInt ((φ 6) i) < i) : Met l yX9_readSex wsX9_readSex ({ frames := 8, cells := 0, slots := 0, locals := 194 } : Room) (va_Pc [.ref (a 0), .int k] (mPre dC dI a κ (σ, φ, γ, ψ))) (va_Qv (QV (fun S F => ∃ (s11 : Int32) (s10 : Int32) (f6 : Nat → Int32) (s12 : Int32), (up (up (up σ 11 s11) 10 s10) 12 s12) = S ∧ (up φ 6 f6) = F ∧ ((Int32.toInt (σ 10)) ≤ (Int32.toInt s10) ∧ (Int32.toInt s10) ≤ (Int32.toInt (σ 10)) + 20004) ∧ (∀ i : Nat, i < 300 → (i : Int) < (Int32.toInt s10) → Int32.toInt (f6 i) < i) ∧ (-1 ≤ (Int32.toInt s12) ∧ (Int32.toInt s12) ≤ 1))) (mB dC dI a κ) (mA a)) 0 0 (mA a) := by
  refine Met.ofW (cc := cX9_readSex) (maxL := 3) (ret := none) (by decide) rfl ?_
  intro p e s m args below meth c s₁ B hml hv
  obtain ⟨rfl, hP, hK, hI, hN⟩ := hv
  have hx := B.exec
  have hb := B.bytes
  have hr := B.returns
  have hts := atoms_spec (ws := wsX9_readSex) B.pre
  have hown : s.vm.findClass RX9 = some m.cls := findClass_of_methodNamed B.named
  have hlocks := B.notSynchronized
  have hS : va_S (mA a) s.heap s.heap [] := va_S.rf
  have hinX9 : ∀ w ∈ wsX90, w ∈ wsX9_readSex := fun _ h => List.mem_cons_of_mem _ (List.mem_append_right _ h)
  have hl := lv_entry ([.ref (a 0), .int k]) (n := 3) (Nat.le_of_ble_eq_true rfl)
  rw [lg_entry_eq]
  generalize (lg_sl ([.ref (a 0), .int k]) ++ List.replicate (3 - (lg_sl ([.ref (a 0), .int k])).length) Slot.unset).toArray = ls at hl ⊢
  have hl : lv_has ls 3 [(0, .ref (a 0)), (1, .int k)] := hl
  refine lv_aload_n hx hb dX9_readSex_0 rfl (lv_at hl 0 rfl) ?_
  refine lv_iload_n hx hb dX9_readSex_1 rfl (lv_at hl 1 rfl) ?_
  refine m_callv (va_runV (As := [.int k]) (rest := []) ⟨hx, hb, hml, hown, hts⟩ (c_X9_readCell l dC dI a κ σ φ γ ψ k (show 0 ≤ (Int32.toInt (σ 5)) ∧ (Int32.toInt (σ 5)) ≤ (Int32.toInt (σ 6)) ∧ (Int32.toInt (σ 6)) ≤ 4000 from (by omega)) (show 0 ≤ (Int32.toInt (σ 10)) ∧ (Int32.toInt (σ 10)) ≤ 1500000000 from (by omega)) (show ∀ i : Nat, i < 300 → (i : Int) < (Int32.toInt (σ 10)) → Int32.toInt ((φ 6) i) < i from (by with_reducible assumption))) (cwV 1 hts gX9_readSex_X9_readCell rfl rfl rfl ⟨rfl, hd_X9_readCell⟩ ⟨Nat.le_of_ble_eq_true rfl, Nat.le_of_ble_eq_true rfl⟩) (mPreV hP hK hI hN hS (va_recv hK hP (ci := 9) (q0 := 0) rfl rfl)) rfl rfl hl.1 rfl (lv_room (Nat.le_of_ble_eq_true rfl)) dX9_readSex_2 ⟨(by decide +kernel), (by decide +kernel)⟩) hS ?_
  clear hP hS; intro S_1 F_1 γ_1 ψ_1 H locs hw hP hS
  obtain ⟨s11_1, s10_1, f6_1, rfl, rfl, (qf_1 : (Int32.toInt (σ 10)) ≤ (Int32.toInt s10_1) ∧ (Int32.toInt s10_1) ≤ (Int32.toInt (σ 10)) + 20000), (qc_1 : ∀ i : Nat, i < 300 → (i : Int) < (Int32.toInt s10_1) → Int32.toInt (f6_1 i) < i), (qs_1 : 0 ≤ (Int32.toInt s11_1) ∧ (Int32.toInt s11_1) ≤ (Int32.toInt (σ 6)) - (Int32.toInt (σ 5)))⟩ := hw
  refine lv_aload_n hx hb dX9_readSex_5 rfl (lv_at hl 0 rfl) ?_
  refine lv_iconst (v := (-1)) hx hb dX9_readSex_6 (by decide) ?_
  refine mp_0_51 (v := (-1)) hx hb hts hinX9 hown hK hP hI hS (hts (.fieldLink RX9 212 "CensusDeskModel" "value" "I") (List.mem_of_getElem? (i := 1) rfl)) dX9_readSex_7 ?_
  clear hP hS; intro H locs hP hS
  refine lv_aload_n hx hb dX9_readSex_10 rfl (lv_at hl 0 rfl) ?_
  refine mg_0_21 (v := (γ_1 10)) hx hb hts hinX9 hown hK hP (hts (.fieldLink RX9 184 "CensusDeskModel" "fieldLost" "Z") (List.mem_of_getElem? (i := 2) rfl)) rfl dX9_readSex_11 ?_
  refine lv_if_eq (tgt := 18) hx hb dX9_readSex_14 (by decide) (fun c_2 => ?_) (fun c_2 => ?_)
  · have kc_2 := bI_eq rfl L_0 c_2
    refine lv_aload_n hx hb dX9_readSex_18 rfl (lv_at hl 0 rfl) ?_
    refine mg_0_48 (v := s11_1) hx hb hts hinX9 hown hK hP (hts (.fieldLink RX9 191 "CensusDeskModel" "signs" "I") (List.mem_of_getElem? (i := 3) rfl)) rfl dX9_readSex_19 ?_
    refine lv_iconst (v := 1) hx hb dX9_readSex_22 (by decide) ?_
    refine lv_icmp_ne (tgt := 71) hx hb dX9_readSex_23 (by decide) (fun c_3 => ?_) (fun c_3 => ?_)
    · have kc_3 := bI_ne rfl L_1 c_3
      refine lv_aload_n hx hb dX9_readSex_71 rfl (lv_at hl 0 rfl) ?_
      refine lv_bipush (v := 6) hx hb dX9_readSex_72 (by decide) ?_
      refine lv_aload_n hx hb dX9_readSex_74 rfl (lv_at hl 0 rfl) ?_
      refine mg_0_50 (v := (γ_1 14)) hx hb hts hinX9 hown hK hP (hts (.fieldLink RX9 200 "CensusDeskModel" "cellAt" "I") (List.mem_of_getElem? (i := 5) rfl)) rfl dX9_readSex_75 ?_
      refine lv_iconst (v := (-1)) hx hb dX9_readSex_78 (by decide) ?_
      refine m_calli (va_runV (As := [.int 6, .int (γ_1 14), .int (-1)]) (rest := []) ⟨hx, hb, hml, hown, hts⟩ (c_X9_failField l dC dI a κ (up (up (up σ 11 s11_1) 10 s10_1) 12 (-1)) (up φ 6 f6_1) γ_1 ψ_1 6 (γ_1 14) (-1) (show 1 ≤ (Int32.toInt 6) ∧ (Int32.toInt 6) ≤ 21 from (by have := L_6; omega)) (show (Int32.toInt (-1)) < (Int32.toInt s10_1) from (by have := L_m1; omega)) (show 0 ≤ (Int32.toInt s10_1) ∧ (Int32.toInt s10_1) ≤ 1999999960 from (by omega)) (show ∀ i : Nat, i < 300 → (i : Int) < (Int32.toInt s10_1) → Int32.toInt (f6_1 i) < i from (by with_reducible assumption))) (cwV 3 hts gX9_readSex_X9_failField rfl rfl rfl ⟨rfl, hd_X9_failField⟩ ⟨Nat.le_of_ble_eq_true rfl, Nat.le_of_ble_eq_true rfl⟩) (mPreV hP hK hI hN hS (va_recv hK hP (ci := 9) (q0 := 0) rfl rfl)) rfl rfl hl.1 rfl (lv_room (Nat.le_of_ble_eq_true rfl)) dX9_readSex_79 ⟨(by decide +kernel), (by decide +kernel)⟩) hS ?_
      clear hP hS; intro r_4 S_4 F_4 γ_4 ψ_4 H locs hw hP hS
      obtain ⟨s10_4, f6_4, rfl, rfl, (qf_4 : (Int32.toInt s10_1) ≤ (Int32.toInt s10_4) ∧ (Int32.toInt s10_4) ≤ (Int32.toInt s10_1) + 4), (qc_4 : ∀ i : Nat, i < 300 → (i : Int) < (Int32.toInt s10_4) → Int32.toInt (f6_4 i) < i)⟩ := hw
      have hLm1_4 := L_m1
      have hL6_4 := L_6
      refine lv_istore_n (lv' := [(2, .int r_4), (0, .ref (a 0)), (1, .int k)]) hx hb dX9_readSex_82 rfl hl (by decide) rfl ?_
      clear hl; intro ls hl
      refine lv_aload_n hx hb dX9_readSex_83 rfl (lv_at hl 1 rfl) ?_
      refine lv_iload_n hx hb dX9_readSex_84 rfl (lv_at hl 0 rfl) ?_
      refine lv_iconst (v := 2) hx hb dX9_readSex_85 (by decide) ?_
      refine lv_icmp_ne (tgt := 111) hx hb dX9_readSex_86 (by decide) (fun c_5 => ?_) (fun c_5 => ?_)
      · have kc_5 := bI_ne rfl L_2 c_5
        refine lv_iconst (v := (-1)) hx hb dX9_readSex_111 (by decide) ?_
        refine mp_0_51 (v := (-1)) hx hb hts hinX9 hown hK hP hI hS (hts (.fieldLink RX9 212 "CensusDeskModel" "value" "I") (List.mem_of_getElem? (i := 1) rfl)) dX9_readSex_112 ?_
        clear hP hS; intro H locs hP hS
        exact W.vret hx hb hr (fun t ht hW => ⟨⟨((up (up (up σ 11 s11_1) 10 s10_4) 12 (-1)), (up φ 6 f6_4), γ_4, ψ_4), rfl, ⟨s11_1, s10_4, f6_4, (-1), rfl, rfl, (show (Int32.toInt (σ 10)) ≤ (Int32.toInt s10_4) ∧ (Int32.toInt s10_4) ≤ (Int32.toInt (σ 10)) + 20004 from (by omega)), (show ∀ i : Nat, i < 300 → (i : Int) < (Int32.toInt s10_4) → Int32.toInt (f6_4 i) < i from (by with_reducible assumption)), (show -1 ≤ (Int32.toInt (-1)) ∧ (Int32.toInt (-1)) ≤ 1 from (by have := L_m1; omega))⟩, (by show va_P _ _ _ _; rw [ht]; exact hP)⟩, hS.F ht⟩) hS.2.2 dX9_readSex_115
      · have kc_5 := bI_eq rfl L_2 c_5
        refine lv_aload_n hx hb dX9_readSex_89 rfl (lv_at hl 1 rfl) ?_
        refine mg_0_45 (v := (γ_4 12)) hx hb hts hinX9 hown hK hP (hts (.fieldLink RX9 128 "CensusDeskModel" "replaced" "I") (List.mem_of_getElem? (i := 6) rfl)) rfl dX9_readSex_90 ?_
        refine lv_if_eq (tgt := 104) hx hb dX9_readSex_93 (by decide) (fun c_6 => ?_) (fun c_6 => ?_)
        · have kc_6 := bI_eq rfl L_0 c_6
          refine lv_aload_n hx hb dX9_readSex_104 rfl (lv_at hl 1 rfl) ?_
          refine mg_0_45 (v := (γ_4 12)) hx hb hts hinX9 hown hK hP (hts (.fieldLink RX9 128 "CensusDeskModel" "replaced" "I") (List.mem_of_getElem? (i := 6) rfl)) rfl dX9_readSex_105 ?_
          refine lv_goto (tgt := 112) hx hb dX9_readSex_108 (by decide) ?_
          refine mp_0_51 (v := (γ_4 12)) hx hb hts hinX9 hown hK hP hI hS (hts (.fieldLink RX9 212 "CensusDeskModel" "value" "I") (List.mem_of_getElem? (i := 1) rfl)) dX9_readSex_112 ?_
          clear hP hS; intro H locs hP hS
          exact W.vret hx hb hr (fun t ht hW => ⟨⟨((up (up (up σ 11 s11_1) 10 s10_4) 12 (γ_4 12)), (up φ 6 f6_4), γ_4, ψ_4), rfl, ⟨s11_1, s10_4, f6_4, (γ_4 12), rfl, rfl, (show (Int32.toInt (σ 10)) ≤ (Int32.toInt s10_4) ∧ (Int32.toInt s10_4) ≤ (Int32.toInt (σ 10)) + 20004 from (by omega)), (show ∀ i : Nat, i < 300 → (i : Int) < (Int32.toInt s10_4) → Int32.toInt (f6_4 i) < i from (by with_reducible assumption)), (show -1 ≤ (Int32.toInt (γ_4 12)) ∧ (Int32.toInt (γ_4 12)) ≤ 1 from (by omega))⟩, (by show va_P _ _ _ _; rw [ht]; exact hP)⟩, hS.F ht⟩) hS.2.2 dX9_readSex_115
        · have kc_6 := bI_ne rfl L_0 c_6
          refine lv_aload_n hx hb dX9_readSex_96 rfl (lv_at hl 1 rfl) ?_
          refine mg_0_45 (v := (γ_4 12)) hx hb hts hinX9 hown hK hP (hts (.fieldLink RX9 128 "CensusDeskModel" "replaced" "I") (List.mem_of_getElem? (i := 6) rfl)) rfl dX9_readSex_97 ?_
          refine lv_iconst (v := 1) hx hb dX9_readSex_100 (by decide) ?_
          refine lv_icmp_ne (tgt := 111) hx hb dX9_readSex_101 (by decide) (fun c_7 => ?_) (fun c_7 => ?_)
          · have kc_7 := bI_ne rfl L_1 c_7
            refine lv_iconst (v := (-1)) hx hb dX9_readSex_111 (by decide) ?_
            refine mp_0_51 (v := (-1)) hx hb hts hinX9 hown hK hP hI hS (hts (.fieldLink RX9 212 "CensusDeskModel" "value" "I") (List.mem_of_getElem? (i := 1) rfl)) dX9_readSex_112 ?_
            clear hP hS; intro H locs hP hS
            exact W.vret hx hb hr (fun t ht hW => ⟨⟨((up (up (up σ 11 s11_1) 10 s10_4) 12 (-1)), (up φ 6 f6_4), γ_4, ψ_4), rfl, ⟨s11_1, s10_4, f6_4, (-1), rfl, rfl, (show (Int32.toInt (σ 10)) ≤ (Int32.toInt s10_4) ∧ (Int32.toInt s10_4) ≤ (Int32.toInt (σ 10)) + 20004 from (by omega)), (show ∀ i : Nat, i < 300 → (i : Int) < (Int32.toInt s10_4) → Int32.toInt (f6_4 i) < i from (by with_reducible assumption)), (show -1 ≤ (Int32.toInt (-1)) ∧ (Int32.toInt (-1)) ≤ 1 from (by have := L_m1; omega))⟩, (by show va_P _ _ _ _; rw [ht]; exact hP)⟩, hS.F ht⟩) hS.2.2 dX9_readSex_115
          · have kc_7 := bI_eq rfl L_1 c_7
            refine lv_aload_n hx hb dX9_readSex_104 rfl (lv_at hl 1 rfl) ?_
            refine mg_0_45 (v := (γ_4 12)) hx hb hts hinX9 hown hK hP (hts (.fieldLink RX9 128 "CensusDeskModel" "replaced" "I") (List.mem_of_getElem? (i := 6) rfl)) rfl dX9_readSex_105 ?_
            refine lv_goto (tgt := 112) hx hb dX9_readSex_108 (by decide) ?_
            refine mp_0_51 (v := (γ_4 12)) hx hb hts hinX9 hown hK hP hI hS (hts (.fieldLink RX9 212 "CensusDeskModel" "value" "I") (List.mem_of_getElem? (i := 1) rfl)) dX9_readSex_112 ?_
            clear hP hS; intro H locs hP hS
            exact W.vret hx hb hr (fun t ht hW => ⟨⟨((up (up (up σ 11 s11_1) 10 s10_4) 12 (γ_4 12)), (up φ 6 f6_4), γ_4, ψ_4), rfl, ⟨s11_1, s10_4, f6_4, (γ_4 12), rfl, rfl, (show (Int32.toInt (σ 10)) ≤ (Int32.toInt s10_4) ∧ (Int32.toInt s10_4) ≤ (Int32.toInt (σ 10)) + 20004 from (by omega)), (show ∀ i : Nat, i < 300 → (i : Int) < (Int32.toInt s10_4) → Int32.toInt (f6_4 i) < i from (by with_reducible assumption)), (show -1 ≤ (Int32.toInt (γ_4 12)) ∧ (Int32.toInt (γ_4 12)) ≤ 1 from (by omega))⟩, (by show va_P _ _ _ _; rw [ht]; exact hP)⟩, hS.F ht⟩) hS.2.2 dX9_readSex_115
    · have kc_3 := bI_eq rfl L_1 c_3
      refine lv_aload_n hx hb dX9_readSex_26 rfl (lv_at hl 0 rfl) ?_
      refine mg_0_46 hx hb hts hinX9 hown hK hP (hts (.fieldLink RX9 74 "CensusDeskModel" "sign" "[I") (List.mem_of_getElem? (i := 4) rfl)) dX9_readSex_27 ?_
      refine lv_iconst (v := 0) hx hb dX9_readSex_30 (by decide) ?_
      refine ml_22 (f := (ψ_1 14)) hx hb hK hP (i := 0) (vp_in_nI (n := 0) (by decide) (by decide)) rfl dX9_readSex_31 ?_
      refine lv_topi (fun z_8 ez_8 => ?_)
      refine lv_bipush (v := 109) hx hb dX9_readSex_32 (by decide) ?_
      refine lv_icmp_eq (tgt := 48) hx hb dX9_readSex_34 (by decide) (fun c_9 => ?_) (fun c_9 => ?_)
      · have kc_9 := bI_eq rfl L_109 c_9
        refine lv_aload_n hx hb dX9_readSex_48 rfl (lv_at hl 0 rfl) ?_
        refine lv_aload_n hx hb dX9_readSex_49 rfl (lv_at hl 0 rfl) ?_
        refine mg_0_46 hx hb hts hinX9 hown hK hP (hts (.fieldLink RX9 74 "CensusDeskModel" "sign" "[I") (List.mem_of_getElem? (i := 4) rfl)) dX9_readSex_50 ?_
        refine lv_iconst (v := 0) hx hb dX9_readSex_53 (by decide) ?_
        refine ml_22 (f := (ψ_1 14)) hx hb hK hP (i := 0) (vp_in_nI (n := 0) (by decide) (by decide)) rfl dX9_readSex_54 ?_
        refine lv_topi (fun z_10 ez_10 => ?_)
        refine lv_bipush (v := 109) hx hb dX9_readSex_55 (by decide) ?_
        refine lv_icmp_ne (tgt := 64) hx hb dX9_readSex_57 (by decide) (fun c_11 => ?_) (fun c_11 => ?_)
        · have kc_11 := bI_ne rfl L_109 c_11
          refine lv_iconst (v := 1) hx hb dX9_readSex_64 (by decide) ?_
          refine mp_0_51 (v := 1) hx hb hts hinX9 hown hK hP hI hS (hts (.fieldLink RX9 212 "CensusDeskModel" "value" "I") (List.mem_of_getElem? (i := 1) rfl)) dX9_readSex_65 ?_
          clear hP hS; intro H locs hP hS
          refine lv_goto (tgt := 115) hx hb dX9_readSex_68 (by decide) ?_
          exact W.vret hx hb hr (fun t ht hW => ⟨⟨((up (up (up σ 11 s11_1) 10 s10_1) 12 1), (up φ 6 f6_1), γ_1, ψ_1), rfl, ⟨s11_1, s10_1, f6_1, 1, rfl, rfl, (show (Int32.toInt (σ 10)) ≤ (Int32.toInt s10_1) ∧ (Int32.toInt s10_1) ≤ (Int32.toInt (σ 10)) + 20004 from (by omega)), (show ∀ i : Nat, i < 300 → (i : Int) < (Int32.toInt s10_1) → Int32.toInt (f6_1 i) < i from (by with_reducible assumption)), (show -1 ≤ (Int32.toInt 1) ∧ (Int32.toInt 1) ≤ 1 from (by have := L_1; omega))⟩, (by show va_P _ _ _ _; rw [ht]; exact hP)⟩, hS.F ht⟩) hS.2.2 dX9_readSex_115
        · have kc_11 := bI_eq rfl L_109 c_11
          refine lv_iconst (v := 0) hx hb dX9_readSex_60 (by decide) ?_
          refine lv_goto (tgt := 65) hx hb dX9_readSex_61 (by decide) ?_
          refine mp_0_51 (v := 0) hx hb hts hinX9 hown hK hP hI hS (hts (.fieldLink RX9 212 "CensusDeskModel" "value" "I") (List.mem_of_getElem? (i := 1) rfl)) dX9_readSex_65 ?_
          clear hP hS; intro H locs hP hS
          refine lv_goto (tgt := 115) hx hb dX9_readSex_68 (by decide) ?_
          exact W.vret hx hb hr (fun t ht hW => ⟨⟨((up (up (up σ 11 s11_1) 10 s10_1) 12 0), (up φ 6 f6_1), γ_1, ψ_1), rfl, ⟨s11_1, s10_1, f6_1, 0, rfl, rfl, (show (Int32.toInt (σ 10)) ≤ (Int32.toInt s10_1) ∧ (Int32.toInt s10_1) ≤ (Int32.toInt (σ 10)) + 20004 from (by omega)), (show ∀ i : Nat, i < 300 → (i : Int) < (Int32.toInt s10_1) → Int32.toInt (f6_1 i) < i from (by with_reducible assumption)), (show -1 ≤ (Int32.toInt 0) ∧ (Int32.toInt 0) ≤ 1 from (by have := L_0; omega))⟩, (by show va_P _ _ _ _; rw [ht]; exact hP)⟩, hS.F ht⟩) hS.2.2 dX9_readSex_115
      · have kc_9 := bI_ne rfl L_109 c_9
        refine lv_aload_n hx hb dX9_readSex_37 rfl (lv_at hl 0 rfl) ?_
        refine mg_0_46 hx hb hts hinX9 hown hK hP (hts (.fieldLink RX9 74 "CensusDeskModel" "sign" "[I") (List.mem_of_getElem? (i := 4) rfl)) dX9_readSex_38 ?_
        refine lv_iconst (v := 0) hx hb dX9_readSex_41 (by decide) ?_
        refine ml_22 (f := (ψ_1 14)) hx hb hK hP (i := 0) (vp_in_nI (n := 0) (by decide) (by decide)) rfl dX9_readSex_42 ?_
        refine lv_topi (fun z_12 ez_12 => ?_)
        refine lv_bipush (v := 102) hx hb dX9_readSex_43 (by decide) ?_
        refine lv_icmp_ne (tgt := 71) hx hb dX9_readSex_45 (by decide) (fun c_13 => ?_) (fun c_13 => ?_)
        · have kc_13 := bI_ne rfl L_102 c_13
          refine lv_aload_n hx hb dX9_readSex_71 rfl (lv_at hl 0 rfl) ?_
          refine lv_bipush (v := 6) hx hb dX9_readSex_72 (by decide) ?_
          refine lv_aload_n hx hb dX9_readSex_74 rfl (lv_at hl 0 rfl) ?_
          refine mg_0_50 (v := (γ_1 14)) hx hb hts hinX9 hown hK hP (hts (.fieldLink RX9 200 "CensusDeskModel" "cellAt" "I") (List.mem_of_getElem? (i := 5) rfl)) rfl dX9_readSex_75 ?_
          refine lv_iconst (v := (-1)) hx hb dX9_readSex_78 (by decide) ?_
          refine m_calli (va_runV (As := [.int 6, .int (γ_1 14), .int (-1)]) (rest := []) ⟨hx, hb, hml, hown, hts⟩ (c_X9_failField l dC dI a κ (up (up (up σ 11 s11_1) 10 s10_1) 12 (-1)) (up φ 6 f6_1) γ_1 ψ_1 6 (γ_1 14) (-1) (show 1 ≤ (Int32.toInt 6) ∧ (Int32.toInt 6) ≤ 21 from (by have := L_6; omega)) (show (Int32.toInt (-1)) < (Int32.toInt s10_1) from (by have := L_m1; omega)) (show 0 ≤ (Int32.toInt s10_1) ∧ (Int32.toInt s10_1) ≤ 1999999960 from (by omega)) (show ∀ i : Nat, i < 300 → (i : Int) < (Int32.toInt s10_1) → Int32.toInt (f6_1 i) < i from (by with_reducible assumption))) (cwV 3 hts gX9_readSex_X9_failField rfl rfl rfl ⟨rfl, hd_X9_failField⟩ ⟨Nat.le_of_ble_eq_true rfl, Nat.le_of_ble_eq_true rfl⟩) (mPreV hP hK hI hN hS (va_recv hK hP (ci := 9) (q0 := 0) rfl rfl)) rfl rfl hl.1 rfl (lv_room (Nat.le_of_ble_eq_true rfl)) dX9_readSex_79 ⟨(by decide +kernel), (by decide +kernel)⟩) hS ?_
          clear hP hS; intro r_14 S_14 F_14 γ_14 ψ_14 H locs hw hP hS
          obtain ⟨s10_14, f6_14, rfl, rfl, (qf_14 : (Int32.toInt s10_1) ≤ (Int32.toInt s10_14) ∧ (Int32.toInt s10_14) ≤ (Int32.toInt s10_1) + 4), (qc_14 : ∀ i : Nat, i < 300 → (i : Int) < (Int32.toInt s10_14) → Int32.toInt (f6_14 i) < i)⟩ := hw
          have hLm1_14 := L_m1
          have hL6_14 := L_6
          refine lv_istore_n (lv' := [(2, .int r_14), (0, .ref (a 0)), (1, .int k)]) hx hb dX9_readSex_82 rfl hl (by decide) rfl ?_
          clear hl; intro ls hl
          refine lv_aload_n hx hb dX9_readSex_83 rfl (lv_at hl 1 rfl) ?_
          refine lv_iload_n hx hb dX9_readSex_84 rfl (lv_at hl 0 rfl) ?_
          refine lv_iconst (v := 2) hx hb dX9_readSex_85 (by decide) ?_
          refine lv_icmp_ne (tgt := 111) hx hb dX9_readSex_86 (by decide) (fun c_15 => ?_) (fun c_15 => ?_)
          · have kc_15 := bI_ne rfl L_2 c_15
            refine lv_iconst (v := (-1)) hx hb dX9_readSex_111 (by decide) ?_
            refine mp_0_51 (v := (-1)) hx hb hts hinX9 hown hK hP hI hS (hts (.fieldLink RX9 212 "CensusDeskModel" "value" "I") (List.mem_of_getElem? (i := 1) rfl)) dX9_readSex_112 ?_
            clear hP hS; intro H locs hP hS
            exact W.vret hx hb hr (fun t ht hW => ⟨⟨((up (up (up σ 11 s11_1) 10 s10_14) 12 (-1)), (up φ 6 f6_14), γ_14, ψ_14), rfl, ⟨s11_1, s10_14, f6_14, (-1), rfl, rfl, (show (Int32.toInt (σ 10)) ≤ (Int32.toInt s10_14) ∧ (Int32.toInt s10_14) ≤ (Int32.toInt (σ 10)) + 20004 from (by omega)), (show ∀ i : Nat, i < 300 → (i : Int) < (Int32.toInt s10_14) → Int32.toInt (f6_14 i) < i from (by with_reducible assumption)), (show -1 ≤ (Int32.toInt (-1)) ∧ (Int32.toInt (-1)) ≤ 1 from (by have := L_m1; omega))⟩, (by show va_P _ _ _ _; rw [ht]; exact hP)⟩, hS.F ht⟩) hS.2.2 dX9_readSex_115
          · have kc_15 := bI_eq rfl L_2 c_15
            refine lv_aload_n hx hb dX9_readSex_89 rfl (lv_at hl 1 rfl) ?_
            refine mg_0_45 (v := (γ_14 12)) hx hb hts hinX9 hown hK hP (hts (.fieldLink RX9 128 "CensusDeskModel" "replaced" "I") (List.mem_of_getElem? (i := 6) rfl)) rfl dX9_readSex_90 ?_
            refine lv_if_eq (tgt := 104) hx hb dX9_readSex_93 (by decide) (fun c_16 => ?_) (fun c_16 => ?_)
            · have kc_16 := bI_eq rfl L_0 c_16
              refine lv_aload_n hx hb dX9_readSex_104 rfl (lv_at hl 1 rfl) ?_
              refine mg_0_45 (v := (γ_14 12)) hx hb hts hinX9 hown hK hP (hts (.fieldLink RX9 128 "CensusDeskModel" "replaced" "I") (List.mem_of_getElem? (i := 6) rfl)) rfl dX9_readSex_105 ?_
              refine lv_goto (tgt := 112) hx hb dX9_readSex_108 (by decide) ?_
              refine mp_0_51 (v := (γ_14 12)) hx hb hts hinX9 hown hK hP hI hS (hts (.fieldLink RX9 212 "CensusDeskModel" "value" "I") (List.mem_of_getElem? (i := 1) rfl)) dX9_readSex_112 ?_
              clear hP hS; intro H locs hP hS
              exact W.vret hx hb hr (fun t ht hW => ⟨⟨((up (up (up σ 11 s11_1) 10 s10_14) 12 (γ_14 12)), (up φ 6 f6_14), γ_14, ψ_14), rfl, ⟨s11_1, s10_14, f6_14, (γ_14 12), rfl, rfl, (show (Int32.toInt (σ 10)) ≤ (Int32.toInt s10_14) ∧ (Int32.toInt s10_14) ≤ (Int32.toInt (σ 10)) + 20004 from (by omega)), (show ∀ i : Nat, i < 300 → (i : Int) < (Int32.toInt s10_14) → Int32.toInt (f6_14 i) < i from (by with_reducible assumption)), (show -1 ≤ (Int32.toInt (γ_14 12)) ∧ (Int32.toInt (γ_14 12)) ≤ 1 from (by omega))⟩, (by show va_P _ _ _ _; rw [ht]; exact hP)⟩, hS.F ht⟩) hS.2.2 dX9_readSex_115
            · have kc_16 := bI_ne rfl L_0 c_16
              refine lv_aload_n hx hb dX9_readSex_96 rfl (lv_at hl 1 rfl) ?_
              refine mg_0_45 (v := (γ_14 12)) hx hb hts hinX9 hown hK hP (hts (.fieldLink RX9 128 "CensusDeskModel" "replaced" "I") (List.mem_of_getElem? (i := 6) rfl)) rfl dX9_readSex_97 ?_
              refine lv_iconst (v := 1) hx hb dX9_readSex_100 (by decide) ?_
              refine lv_icmp_ne (tgt := 111) hx hb dX9_readSex_101 (by decide) (fun c_17 => ?_) (fun c_17 => ?_)
              · have kc_17 := bI_ne rfl L_1 c_17
                refine lv_iconst (v := (-1)) hx hb dX9_readSex_111 (by decide) ?_
                refine mp_0_51 (v := (-1)) hx hb hts hinX9 hown hK hP hI hS (hts (.fieldLink RX9 212 "CensusDeskModel" "value" "I") (List.mem_of_getElem? (i := 1) rfl)) dX9_readSex_112 ?_
                clear hP hS; intro H locs hP hS
                exact W.vret hx hb hr (fun t ht hW => ⟨⟨((up (up (up σ 11 s11_1) 10 s10_14) 12 (-1)), (up φ 6 f6_14), γ_14, ψ_14), rfl, ⟨s11_1, s10_14, f6_14, (-1), rfl, rfl, (show (Int32.toInt (σ 10)) ≤ (Int32.toInt s10_14) ∧ (Int32.toInt s10_14) ≤ (Int32.toInt (σ 10)) + 20004 from (by omega)), (show ∀ i : Nat, i < 300 → (i : Int) < (Int32.toInt s10_14) → Int32.toInt (f6_14 i) < i from (by with_reducible assumption)), (show -1 ≤ (Int32.toInt (-1)) ∧ (Int32.toInt (-1)) ≤ 1 from (by have := L_m1; omega))⟩, (by show va_P _ _ _ _; rw [ht]; exact hP)⟩, hS.F ht⟩) hS.2.2 dX9_readSex_115
              · have kc_17 := bI_eq rfl L_1 c_17
                refine lv_aload_n hx hb dX9_readSex_104 rfl (lv_at hl 1 rfl) ?_
                refine mg_0_45 (v := (γ_14 12)) hx hb hts hinX9 hown hK hP (hts (.fieldLink RX9 128 "CensusDeskModel" "replaced" "I") (List.mem_of_getElem? (i := 6) rfl)) rfl dX9_readSex_105 ?_
                refine lv_goto (tgt := 112) hx hb dX9_readSex_108 (by decide) ?_
                refine mp_0_51 (v := (γ_14 12)) hx hb hts hinX9 hown hK hP hI hS (hts (.fieldLink RX9 212 "CensusDeskModel" "value" "I") (List.mem_of_getElem? (i := 1) rfl)) dX9_readSex_112 ?_
                clear hP hS; intro H locs hP hS
                exact W.vret hx hb hr (fun t ht hW => ⟨⟨((up (up (up σ 11 s11_1) 10 s10_14) 12 (γ_14 12)), (up φ 6 f6_14), γ_14, ψ_14), rfl, ⟨s11_1, s10_14, f6_14, (γ_14 12), rfl, rfl, (show (Int32.toInt (σ 10)) ≤ (Int32.toInt s10_14) ∧ (Int32.toInt s10_14) ≤ (Int32.toInt (σ 10)) + 20004 from (by omega)), (show ∀ i : Nat, i < 300 → (i : Int) < (Int32.toInt s10_14) → Int32.toInt (f6_14 i) < i from (by with_reducible assumption)), (show -1 ≤ (Int32.toInt (γ_14 12)) ∧ (Int32.toInt (γ_14 12)) ≤ 1 from (by omega))⟩, (by show va_P _ _ _ _; rw [ht]; exact hP)⟩, hS.F ht⟩) hS.2.2 dX9_readSex_115
        · have kc_13 := bI_eq rfl L_102 c_13
          refine lv_aload_n hx hb dX9_readSex_48 rfl (lv_at hl 0 rfl) ?_
          refine lv_aload_n hx hb dX9_readSex_49 rfl (lv_at hl 0 rfl) ?_
          refine mg_0_46 hx hb hts hinX9 hown hK hP (hts (.fieldLink RX9 74 "CensusDeskModel" "sign" "[I") (List.mem_of_getElem? (i := 4) rfl)) dX9_readSex_50 ?_
          refine lv_iconst (v := 0) hx hb dX9_readSex_53 (by decide) ?_
          refine ml_22 (f := (ψ_1 14)) hx hb hK hP (i := 0) (vp_in_nI (n := 0) (by decide) (by decide)) rfl dX9_readSex_54 ?_
          refine lv_topi (fun z_18 ez_18 => ?_)
          refine lv_bipush (v := 109) hx hb dX9_readSex_55 (by decide) ?_
          refine lv_icmp_ne (tgt := 64) hx hb dX9_readSex_57 (by decide) (fun c_19 => ?_) (fun c_19 => ?_)
          · have kc_19 := bI_ne rfl L_109 c_19
            refine lv_iconst (v := 1) hx hb dX9_readSex_64 (by decide) ?_
            refine mp_0_51 (v := 1) hx hb hts hinX9 hown hK hP hI hS (hts (.fieldLink RX9 212 "CensusDeskModel" "value" "I") (List.mem_of_getElem? (i := 1) rfl)) dX9_readSex_65 ?_
            clear hP hS; intro H locs hP hS
            refine lv_goto (tgt := 115) hx hb dX9_readSex_68 (by decide) ?_
            exact W.vret hx hb hr (fun t ht hW => ⟨⟨((up (up (up σ 11 s11_1) 10 s10_1) 12 1), (up φ 6 f6_1), γ_1, ψ_1), rfl, ⟨s11_1, s10_1, f6_1, 1, rfl, rfl, (show (Int32.toInt (σ 10)) ≤ (Int32.toInt s10_1) ∧ (Int32.toInt s10_1) ≤ (Int32.toInt (σ 10)) + 20004 from (by omega)), (show ∀ i : Nat, i < 300 → (i : Int) < (Int32.toInt s10_1) → Int32.toInt (f6_1 i) < i from (by with_reducible assumption)), (show -1 ≤ (Int32.toInt 1) ∧ (Int32.toInt 1) ≤ 1 from (by have := L_1; omega))⟩, (by show va_P _ _ _ _; rw [ht]; exact hP)⟩, hS.F ht⟩) hS.2.2 dX9_readSex_115
          · have kc_19 := bI_eq rfl L_109 c_19
            refine lv_iconst (v := 0) hx hb dX9_readSex_60 (by decide) ?_
            refine lv_goto (tgt := 65) hx hb dX9_readSex_61 (by decide) ?_
            refine mp_0_51 (v := 0) hx hb hts hinX9 hown hK hP hI hS (hts (.fieldLink RX9 212 "CensusDeskModel" "value" "I") (List.mem_of_getElem? (i := 1) rfl)) dX9_readSex_65 ?_
            clear hP hS; intro H locs hP hS
            refine lv_goto (tgt := 115) hx hb dX9_readSex_68 (by decide) ?_
            exact W.vret hx hb hr (fun t ht hW => ⟨⟨((up (up (up σ 11 s11_1) 10 s10_1) 12 0), (up φ 6 f6_1), γ_1, ψ_1), rfl, ⟨s11_1, s10_1, f6_1, 0, rfl, rfl, (show (Int32.toInt (σ 10)) ≤ (Int32.toInt s10_1) ∧ (Int32.toInt s10_1) ≤ (Int32.toInt (σ 10)) + 20004 from (by omega)), (show ∀ i : Nat, i < 300 → (i : Int) < (Int32.toInt s10_1) → Int32.toInt (f6_1 i) < i from (by with_reducible assumption)), (show -1 ≤ (Int32.toInt 0) ∧ (Int32.toInt 0) ≤ 1 from (by have := L_0; omega))⟩, (by show va_P _ _ _ _; rw [ht]; exact hP)⟩, hS.F ht⟩) hS.2.2 dX9_readSex_115
  · have kc_2 := bI_ne rfl L_0 c_2
    exact W.vret hx hb hr (fun t ht hW => ⟨⟨((up (up (up σ 11 s11_1) 10 s10_1) 12 (-1)), (up φ 6 f6_1), γ_1, ψ_1), rfl, ⟨s11_1, s10_1, f6_1, (-1), rfl, rfl, (show (Int32.toInt (σ 10)) ≤ (Int32.toInt s10_1) ∧ (Int32.toInt s10_1) ≤ (Int32.toInt (σ 10)) + 20004 from (by omega)), (show ∀ i : Nat, i < 300 → (i : Int) < (Int32.toInt s10_1) → Int32.toInt (f6_1 i) < i from (by with_reducible assumption)), (show -1 ≤ (Int32.toInt (-1)) ∧ (Int32.toInt (-1)) ≤ 1 from (by have := L_m1; omega))⟩, (by show va_P _ _ _ _; rw [ht]; exact hP)⟩, hS.F ht⟩) hS.2.2 dX9_readSex_17
set_option maxHeartbeats 4000000 in
set_option maxRecDepth 100000 in
theorem c_X9_readTrade (l : Launch) (dC : Nat → ClassId) (dI : Nat → Nat → Nat) (a : Nat → Nat) (κ : Nat → ClassId) (σ : Nat → Int32) (φ : Nat → Nat → Int32) (γ : Nat → Int32) (ψ : Nat → Nat → Int32) (k : Int32) (hl : 0 ≤ (Int32.toInt (σ 5)) ∧ (Int32.toInt (σ 5)) ≤ (Int32.toInt (σ 6)) ∧ (Int32.toInt (σ 6)) ≤ 4000) (hf : 0 ≤ (Int32.toInt (σ 10)) ∧ (Int32.toInt (σ 10)) ≤ 1500000000) (hfc : ∀ i : Nat, i < 300 → (i : Int) < (Int32.toInt (σ 10)) → Int32.toInt ((φ 6) i) < i) : Met l yX9_readTrade wsX9_readTrade ({ frames := 8, cells := 0, slots := 0, locals := 194 } : Room) (va_Pc [.ref (a 0), .int k] (mPre dC dI a κ (σ, φ, γ, ψ))) (va_Qv (QV (fun S F => ∃ (s11 : Int32) (s10 : Int32) (f6 : Nat → Int32) (s12 : Int32), (up (up (up σ 11 s11) 10 s10) 12 s12) = S ∧ (up φ 6 f6) = F ∧ ((Int32.toInt (σ 10)) ≤ (Int32.toInt s10) ∧ (Int32.toInt s10) ≤ (Int32.toInt (σ 10)) + 20004) ∧ (∀ i : Nat, i < 300 → (i : Int) < (Int32.toInt s10) → Int32.toInt (f6 i) < i))) (mB dC dI a κ) (mA a)) 0 0 (mA a) := by
  refine Met.ofW (cc := cX9_readTrade) (maxL := 3) (ret := none) (by decide) rfl ?_
  intro p e s m args below meth c s₁ B hml hv
  obtain ⟨rfl, hP, hK, hI, hN⟩ := hv
  have hx := B.exec
  have hb := B.bytes
  have hr := B.returns
  have hts := atoms_spec (ws := wsX9_readTrade) B.pre
  have hown : s.vm.findClass RX9 = some m.cls := findClass_of_methodNamed B.named
  have hlocks := B.notSynchronized
  have hS : va_S (mA a) s.heap s.heap [] := va_S.rf
  have hinX9 : ∀ w ∈ wsX90, w ∈ wsX9_readTrade := fun _ h => List.mem_cons_of_mem _ (List.mem_append_right _ h)
  have hl := lv_entry ([.ref (a 0), .int k]) (n := 3) (Nat.le_of_ble_eq_true rfl)
  rw [lg_entry_eq]
  generalize (lg_sl ([.ref (a 0), .int k]) ++ List.replicate (3 - (lg_sl ([.ref (a 0), .int k])).length) Slot.unset).toArray = ls at hl ⊢
  have hl : lv_has ls 3 [(0, .ref (a 0)), (1, .int k)] := hl
  refine lv_aload_n hx hb dX9_readTrade_0 rfl (lv_at hl 0 rfl) ?_
  refine lv_iload_n hx hb dX9_readTrade_1 rfl (lv_at hl 1 rfl) ?_
  refine m_callv (va_runV (As := [.int k]) (rest := []) ⟨hx, hb, hml, hown, hts⟩ (c_X9_readCell l dC dI a κ σ φ γ ψ k (show 0 ≤ (Int32.toInt (σ 5)) ∧ (Int32.toInt (σ 5)) ≤ (Int32.toInt (σ 6)) ∧ (Int32.toInt (σ 6)) ≤ 4000 from (by omega)) (show 0 ≤ (Int32.toInt (σ 10)) ∧ (Int32.toInt (σ 10)) ≤ 1500000000 from (by omega)) (show ∀ i : Nat, i < 300 → (i : Int) < (Int32.toInt (σ 10)) → Int32.toInt ((φ 6) i) < i from (by with_reducible assumption))) (cwV 1 hts gX9_readTrade_X9_readCell rfl rfl rfl ⟨rfl, hd_X9_readCell⟩ ⟨Nat.le_of_ble_eq_true rfl, Nat.le_of_ble_eq_true rfl⟩) (mPreV hP hK hI hN hS (va_recv hK hP (ci := 9) (q0 := 0) rfl rfl)) rfl rfl hl.1 rfl (lv_room (Nat.le_of_ble_eq_true rfl)) dX9_readTrade_2 ⟨(by decide +kernel), (by decide +kernel)⟩) hS ?_
  clear hP hS; intro S_1 F_1 γ_1 ψ_1 H locs hw hP hS
  obtain ⟨s11_1, s10_1, f6_1, rfl, rfl, (qf_1 : (Int32.toInt (σ 10)) ≤ (Int32.toInt s10_1) ∧ (Int32.toInt s10_1) ≤ (Int32.toInt (σ 10)) + 20000), (qc_1 : ∀ i : Nat, i < 300 → (i : Int) < (Int32.toInt s10_1) → Int32.toInt (f6_1 i) < i), (qs_1 : 0 ≤ (Int32.toInt s11_1) ∧ (Int32.toInt s11_1) ≤ (Int32.toInt (σ 6)) - (Int32.toInt (σ 5)))⟩ := hw
  refine lv_aload_n hx hb dX9_readTrade_5 rfl (lv_at hl 0 rfl) ?_
  refine lv_iconst (v := (-1)) hx hb dX9_readTrade_6 (by decide) ?_
  refine mp_0_51 (v := (-1)) hx hb hts hinX9 hown hK hP hI hS (hts (.fieldLink RX9 212 "CensusDeskModel" "value" "I") (List.mem_of_getElem? (i := 1) rfl)) dX9_readTrade_7 ?_
  clear hP hS; intro H locs hP hS
  refine lv_aload_n hx hb dX9_readTrade_10 rfl (lv_at hl 0 rfl) ?_
  refine mg_0_21 (v := (γ_1 10)) hx hb hts hinX9 hown hK hP (hts (.fieldLink RX9 184 "CensusDeskModel" "fieldLost" "Z") (List.mem_of_getElem? (i := 2) rfl)) rfl dX9_readTrade_11 ?_
  refine lv_if_eq (tgt := 18) hx hb dX9_readTrade_14 (by decide) (fun c_2 => ?_) (fun c_2 => ?_)
  · have kc_2 := bI_eq rfl L_0 c_2
    refine lv_aload_n hx hb dX9_readTrade_18 rfl (lv_at hl 0 rfl) ?_
    refine mg_0_48 (v := s11_1) hx hb hts hinX9 hown hK hP (hts (.fieldLink RX9 191 "CensusDeskModel" "signs" "I") (List.mem_of_getElem? (i := 3) rfl)) rfl dX9_readTrade_19 ?_
    refine lv_if_ne (tgt := 33) hx hb dX9_readTrade_22 (by decide) (fun c_3 => ?_) (fun c_3 => ?_)
    · have kc_3 := bI_ne rfl L_0 c_3
      refine lv_aload_n hx hb dX9_readTrade_33 rfl (lv_at hl 0 rfl) ?_
      refine mg_0_48 (v := s11_1) hx hb hts hinX9 hown hK hP (hts (.fieldLink RX9 191 "CensusDeskModel" "signs" "I") (List.mem_of_getElem? (i := 3) rfl)) rfl dX9_readTrade_34 ?_
      refine lv_iconst (v := 1) hx hb dX9_readTrade_37 (by decide) ?_
      refine lv_icmp_ne (tgt := 69) hx hb dX9_readTrade_38 (by decide) (fun c_4 => ?_) (fun c_4 => ?_)
      · have kc_4 := bI_ne rfl L_1 c_4
        refine lv_aload_n hx hb dX9_readTrade_69 rfl (lv_at hl 0 rfl) ?_
        refine lv_bipush (v := 7) hx hb dX9_readTrade_70 (by decide) ?_
        refine lv_aload_n hx hb dX9_readTrade_72 rfl (lv_at hl 0 rfl) ?_
        refine mg_0_50 (v := (γ_1 14)) hx hb hts hinX9 hown hK hP (hts (.fieldLink RX9 200 "CensusDeskModel" "cellAt" "I") (List.mem_of_getElem? (i := 5) rfl)) rfl dX9_readTrade_73 ?_
        refine lv_iconst (v := (-1)) hx hb dX9_readTrade_76 (by decide) ?_
        refine m_calli (va_runV (As := [.int 7, .int (γ_1 14), .int (-1)]) (rest := []) ⟨hx, hb, hml, hown, hts⟩ (c_X9_failField l dC dI a κ (up (up (up σ 11 s11_1) 10 s10_1) 12 (-1)) (up φ 6 f6_1) γ_1 ψ_1 7 (γ_1 14) (-1) (show 1 ≤ (Int32.toInt 7) ∧ (Int32.toInt 7) ≤ 21 from (by have := L_7; omega)) (show (Int32.toInt (-1)) < (Int32.toInt s10_1) from (by have := L_m1; omega)) (show 0 ≤ (Int32.toInt s10_1) ∧ (Int32.toInt s10_1) ≤ 1999999960 from (by omega)) (show ∀ i : Nat, i < 300 → (i : Int) < (Int32.toInt s10_1) → Int32.toInt (f6_1 i) < i from (by with_reducible assumption))) (cwV 3 hts gX9_readTrade_X9_failField rfl rfl rfl ⟨rfl, hd_X9_failField⟩ ⟨Nat.le_of_ble_eq_true rfl, Nat.le_of_ble_eq_true rfl⟩) (mPreV hP hK hI hN hS (va_recv hK hP (ci := 9) (q0 := 0) rfl rfl)) rfl rfl hl.1 rfl (lv_room (Nat.le_of_ble_eq_true rfl)) dX9_readTrade_77 ⟨(by decide +kernel), (by decide +kernel)⟩) hS ?_
        clear hP hS; intro r_5 S_5 F_5 γ_5 ψ_5 H locs hw hP hS
        obtain ⟨s10_5, f6_5, rfl, rfl, (qf_5 : (Int32.toInt s10_1) ≤ (Int32.toInt s10_5) ∧ (Int32.toInt s10_5) ≤ (Int32.toInt s10_1) + 4), (qc_5 : ∀ i : Nat, i < 300 → (i : Int) < (Int32.toInt s10_5) → Int32.toInt (f6_5 i) < i)⟩ := hw
        have hLm1_5 := L_m1
        have hL7_5 := L_7
        refine lv_istore_n (lv' := [(2, .int r_5), (0, .ref (a 0)), (1, .int k)]) hx hb dX9_readTrade_80 rfl hl (by decide) rfl ?_
        clear hl; intro ls hl
        refine lv_aload_n hx hb dX9_readTrade_81 rfl (lv_at hl 1 rfl) ?_
        refine lv_iload_n hx hb dX9_readTrade_82 rfl (lv_at hl 0 rfl) ?_
        refine lv_iconst (v := 2) hx hb dX9_readTrade_83 (by decide) ?_
        refine lv_icmp_ne (tgt := 94) hx hb dX9_readTrade_84 (by decide) (fun c_6 => ?_) (fun c_6 => ?_)
        · have kc_6 := bI_ne rfl L_2 c_6
          refine lv_iconst (v := (-1)) hx hb dX9_readTrade_94 (by decide) ?_
          refine mp_0_51 (v := (-1)) hx hb hts hinX9 hown hK hP hI hS (hts (.fieldLink RX9 212 "CensusDeskModel" "value" "I") (List.mem_of_getElem? (i := 1) rfl)) dX9_readTrade_95 ?_
          clear hP hS; intro H locs hP hS
          exact W.vret hx hb hr (fun t ht hW => ⟨⟨((up (up (up σ 11 s11_1) 10 s10_5) 12 (-1)), (up φ 6 f6_5), γ_5, ψ_5), rfl, ⟨s11_1, s10_5, f6_5, (-1), rfl, rfl, (show (Int32.toInt (σ 10)) ≤ (Int32.toInt s10_5) ∧ (Int32.toInt s10_5) ≤ (Int32.toInt (σ 10)) + 20004 from (by omega)), (show ∀ i : Nat, i < 300 → (i : Int) < (Int32.toInt s10_5) → Int32.toInt (f6_5 i) < i from (by with_reducible assumption))⟩, (by show va_P _ _ _ _; rw [ht]; exact hP)⟩, hS.F ht⟩) hS.2.2 dX9_readTrade_98
        · have kc_6 := bI_eq rfl L_2 c_6
          refine lv_aload_n hx hb dX9_readTrade_87 rfl (lv_at hl 1 rfl) ?_
          refine mg_0_45 (v := (γ_5 12)) hx hb hts hinX9 hown hK hP (hts (.fieldLink RX9 128 "CensusDeskModel" "replaced" "I") (List.mem_of_getElem? (i := 6) rfl)) rfl dX9_readTrade_88 ?_
          refine lv_goto (tgt := 95) hx hb dX9_readTrade_91 (by decide) ?_
          refine mp_0_51 (v := (γ_5 12)) hx hb hts hinX9 hown hK hP hI hS (hts (.fieldLink RX9 212 "CensusDeskModel" "value" "I") (List.mem_of_getElem? (i := 1) rfl)) dX9_readTrade_95 ?_
          clear hP hS; intro H locs hP hS
          exact W.vret hx hb hr (fun t ht hW => ⟨⟨((up (up (up σ 11 s11_1) 10 s10_5) 12 (γ_5 12)), (up φ 6 f6_5), γ_5, ψ_5), rfl, ⟨s11_1, s10_5, f6_5, (γ_5 12), rfl, rfl, (show (Int32.toInt (σ 10)) ≤ (Int32.toInt s10_5) ∧ (Int32.toInt s10_5) ≤ (Int32.toInt (σ 10)) + 20004 from (by omega)), (show ∀ i : Nat, i < 300 → (i : Int) < (Int32.toInt s10_5) → Int32.toInt (f6_5 i) < i from (by with_reducible assumption))⟩, (by show va_P _ _ _ _; rw [ht]; exact hP)⟩, hS.F ht⟩) hS.2.2 dX9_readTrade_98
      · have kc_4 := bI_eq rfl L_1 c_4
        refine lv_aload_n hx hb dX9_readTrade_41 rfl (lv_at hl 0 rfl) ?_
        refine mg_0_46 hx hb hts hinX9 hown hK hP (hts (.fieldLink RX9 74 "CensusDeskModel" "sign" "[I") (List.mem_of_getElem? (i := 4) rfl)) dX9_readTrade_42 ?_
        refine lv_iconst (v := 0) hx hb dX9_readTrade_45 (by decide) ?_
        refine ml_22 (f := (ψ_1 14)) hx hb hK hP (i := 0) (vp_in_nI (n := 0) (by decide) (by decide)) rfl dX9_readTrade_46 ?_
        refine lv_topi (fun z_7 ez_7 => ?_)
        refine m_calli (va_runS (As := [.int z_7]) (rest := []) ⟨hx, hb, hml, hown, hts⟩ (c_X9_isDigit l dC dI a κ (up (up (up σ 11 s11_1) 10 s10_1) 12 (-1)) (up φ 6 f6_1) γ_1 ψ_1 z_7 ) (va_cwS 1 hts gX9_readTrade_X9_isDigit rfl rfl rfl hd_X9_isDigit ⟨Nat.le_of_ble_eq_true rfl, Nat.le_of_ble_eq_true rfl⟩) (mPreS hP hK hI hN hS) rfl rfl hl.1 rfl (lv_room (Nat.le_of_ble_eq_true rfl)) dX9_readTrade_47 ⟨(by decide +kernel), (by decide +kernel)⟩) hS ?_
        clear hP hS; intro r_8 S_8 F_8 γ_8 ψ_8 H locs hw hP hS
        obtain ⟨rfl, rfl, -⟩ := hw
        refine lv_if_eq (tgt := 69) hx hb dX9_readTrade_50 (by decide) (fun c_9 => ?_) (fun c_9 => ?_)
        · have kc_9 := bI_eq rfl L_0 c_9
          refine lv_aload_n hx hb dX9_readTrade_69 rfl (lv_at hl 0 rfl) ?_
          refine lv_bipush (v := 7) hx hb dX9_readTrade_70 (by decide) ?_
          refine lv_aload_n hx hb dX9_readTrade_72 rfl (lv_at hl 0 rfl) ?_
          refine mg_0_50 (v := (γ_8 14)) hx hb hts hinX9 hown hK hP (hts (.fieldLink RX9 200 "CensusDeskModel" "cellAt" "I") (List.mem_of_getElem? (i := 5) rfl)) rfl dX9_readTrade_73 ?_
          refine lv_iconst (v := (-1)) hx hb dX9_readTrade_76 (by decide) ?_
          refine m_calli (va_runV (As := [.int 7, .int (γ_8 14), .int (-1)]) (rest := []) ⟨hx, hb, hml, hown, hts⟩ (c_X9_failField l dC dI a κ (up (up (up σ 11 s11_1) 10 s10_1) 12 (-1)) (up φ 6 f6_1) γ_8 ψ_8 7 (γ_8 14) (-1) (show 1 ≤ (Int32.toInt 7) ∧ (Int32.toInt 7) ≤ 21 from (by have := L_7; omega)) (show (Int32.toInt (-1)) < (Int32.toInt s10_1) from (by have := L_m1; omega)) (show 0 ≤ (Int32.toInt s10_1) ∧ (Int32.toInt s10_1) ≤ 1999999960 from (by omega)) (show ∀ i : Nat, i < 300 → (i : Int) < (Int32.toInt s10_1) → Int32.toInt (f6_1 i) < i from (by with_reducible assumption))) (cwV 3 hts gX9_readTrade_X9_failField rfl rfl rfl ⟨rfl, hd_X9_failField⟩ ⟨Nat.le_of_ble_eq_true rfl, Nat.le_of_ble_eq_true rfl⟩) (mPreV hP hK hI hN hS (va_recv hK hP (ci := 9) (q0 := 0) rfl rfl)) rfl rfl hl.1 rfl (lv_room (Nat.le_of_ble_eq_true rfl)) dX9_readTrade_77 ⟨(by decide +kernel), (by decide +kernel)⟩) hS ?_
          clear hP hS; intro r_10 S_10 F_10 γ_10 ψ_10 H locs hw hP hS
          obtain ⟨s10_10, f6_10, rfl, rfl, (qf_10 : (Int32.toInt s10_1) ≤ (Int32.toInt s10_10) ∧ (Int32.toInt s10_10) ≤ (Int32.toInt s10_1) + 4), (qc_10 : ∀ i : Nat, i < 300 → (i : Int) < (Int32.toInt s10_10) → Int32.toInt (f6_10 i) < i)⟩ := hw
          have hLm1_10 := L_m1
          have hL7_10 := L_7
          refine lv_istore_n (lv' := [(2, .int r_10), (0, .ref (a 0)), (1, .int k)]) hx hb dX9_readTrade_80 rfl hl (by decide) rfl ?_
          clear hl; intro ls hl
          refine lv_aload_n hx hb dX9_readTrade_81 rfl (lv_at hl 1 rfl) ?_
          refine lv_iload_n hx hb dX9_readTrade_82 rfl (lv_at hl 0 rfl) ?_
          refine lv_iconst (v := 2) hx hb dX9_readTrade_83 (by decide) ?_
          refine lv_icmp_ne (tgt := 94) hx hb dX9_readTrade_84 (by decide) (fun c_11 => ?_) (fun c_11 => ?_)
          · have kc_11 := bI_ne rfl L_2 c_11
            refine lv_iconst (v := (-1)) hx hb dX9_readTrade_94 (by decide) ?_
            refine mp_0_51 (v := (-1)) hx hb hts hinX9 hown hK hP hI hS (hts (.fieldLink RX9 212 "CensusDeskModel" "value" "I") (List.mem_of_getElem? (i := 1) rfl)) dX9_readTrade_95 ?_
            clear hP hS; intro H locs hP hS
            exact W.vret hx hb hr (fun t ht hW => ⟨⟨((up (up (up σ 11 s11_1) 10 s10_10) 12 (-1)), (up φ 6 f6_10), γ_10, ψ_10), rfl, ⟨s11_1, s10_10, f6_10, (-1), rfl, rfl, (show (Int32.toInt (σ 10)) ≤ (Int32.toInt s10_10) ∧ (Int32.toInt s10_10) ≤ (Int32.toInt (σ 10)) + 20004 from (by omega)), (show ∀ i : Nat, i < 300 → (i : Int) < (Int32.toInt s10_10) → Int32.toInt (f6_10 i) < i from (by with_reducible assumption))⟩, (by show va_P _ _ _ _; rw [ht]; exact hP)⟩, hS.F ht⟩) hS.2.2 dX9_readTrade_98
          · have kc_11 := bI_eq rfl L_2 c_11
            refine lv_aload_n hx hb dX9_readTrade_87 rfl (lv_at hl 1 rfl) ?_
            refine mg_0_45 (v := (γ_10 12)) hx hb hts hinX9 hown hK hP (hts (.fieldLink RX9 128 "CensusDeskModel" "replaced" "I") (List.mem_of_getElem? (i := 6) rfl)) rfl dX9_readTrade_88 ?_
            refine lv_goto (tgt := 95) hx hb dX9_readTrade_91 (by decide) ?_
            refine mp_0_51 (v := (γ_10 12)) hx hb hts hinX9 hown hK hP hI hS (hts (.fieldLink RX9 212 "CensusDeskModel" "value" "I") (List.mem_of_getElem? (i := 1) rfl)) dX9_readTrade_95 ?_
            clear hP hS; intro H locs hP hS
            exact W.vret hx hb hr (fun t ht hW => ⟨⟨((up (up (up σ 11 s11_1) 10 s10_10) 12 (γ_10 12)), (up φ 6 f6_10), γ_10, ψ_10), rfl, ⟨s11_1, s10_10, f6_10, (γ_10 12), rfl, rfl, (show (Int32.toInt (σ 10)) ≤ (Int32.toInt s10_10) ∧ (Int32.toInt s10_10) ≤ (Int32.toInt (σ 10)) + 20004 from (by omega)), (show ∀ i : Nat, i < 300 → (i : Int) < (Int32.toInt s10_10) → Int32.toInt (f6_10 i) < i from (by with_reducible assumption))⟩, (by show va_P _ _ _ _; rw [ht]; exact hP)⟩, hS.F ht⟩) hS.2.2 dX9_readTrade_98
        · have kc_9 := bI_ne rfl L_0 c_9
          refine lv_aload_n hx hb dX9_readTrade_53 rfl (lv_at hl 0 rfl) ?_
          refine lv_aload_n hx hb dX9_readTrade_54 rfl (lv_at hl 0 rfl) ?_
          refine mg_0_46 hx hb hts hinX9 hown hK hP (hts (.fieldLink RX9 74 "CensusDeskModel" "sign" "[I") (List.mem_of_getElem? (i := 4) rfl)) dX9_readTrade_55 ?_
          refine lv_iconst (v := 0) hx hb dX9_readTrade_58 (by decide) ?_
          refine ml_22 (f := (ψ_8 14)) hx hb hK hP (i := 0) (vp_in_nI (n := 0) (by decide) (by decide)) rfl dX9_readTrade_59 ?_
          refine lv_topi (fun z_12 ez_12 => ?_)
          refine lv_bipush (v := 48) hx hb dX9_readTrade_60 (by decide) ?_
          refine lv_isub hx hb dX9_readTrade_62 ?_
          refine lv_topi (fun z_13 ez_13 => ?_)
          refine mp_0_51 (v := z_13) hx hb hts hinX9 hown hK hP hI hS (hts (.fieldLink RX9 212 "CensusDeskModel" "value" "I") (List.mem_of_getElem? (i := 1) rfl)) dX9_readTrade_63 ?_
          clear hP hS; intro H locs hP hS
          refine lv_goto (tgt := 98) hx hb dX9_readTrade_66 (by decide) ?_
          exact W.vret hx hb hr (fun t ht hW => ⟨⟨((up (up (up σ 11 s11_1) 10 s10_1) 12 z_13), (up φ 6 f6_1), γ_8, ψ_8), rfl, ⟨s11_1, s10_1, f6_1, z_13, rfl, rfl, (show (Int32.toInt (σ 10)) ≤ (Int32.toInt s10_1) ∧ (Int32.toInt s10_1) ≤ (Int32.toInt (σ 10)) + 20004 from (by omega)), (show ∀ i : Nat, i < 300 → (i : Int) < (Int32.toInt s10_1) → Int32.toInt (f6_1 i) < i from (by with_reducible assumption))⟩, (by show va_P _ _ _ _; rw [ht]; exact hP)⟩, hS.F ht⟩) hS.2.2 dX9_readTrade_98
    · have kc_3 := bI_eq rfl L_0 c_3
      refine lv_aload_n hx hb dX9_readTrade_25 rfl (lv_at hl 0 rfl) ?_
      refine lv_iconst (v := 0) hx hb dX9_readTrade_26 (by decide) ?_
      refine mp_0_51 (v := 0) hx hb hts hinX9 hown hK hP hI hS (hts (.fieldLink RX9 212 "CensusDeskModel" "value" "I") (List.mem_of_getElem? (i := 1) rfl)) dX9_readTrade_27 ?_
      clear hP hS; intro H locs hP hS
      refine lv_goto (tgt := 98) hx hb dX9_readTrade_30 (by decide) ?_
      exact W.vret hx hb hr (fun t ht hW => ⟨⟨((up (up (up σ 11 s11_1) 10 s10_1) 12 0), (up φ 6 f6_1), γ_1, ψ_1), rfl, ⟨s11_1, s10_1, f6_1, 0, rfl, rfl, (show (Int32.toInt (σ 10)) ≤ (Int32.toInt s10_1) ∧ (Int32.toInt s10_1) ≤ (Int32.toInt (σ 10)) + 20004 from (by omega)), (show ∀ i : Nat, i < 300 → (i : Int) < (Int32.toInt s10_1) → Int32.toInt (f6_1 i) < i from (by with_reducible assumption))⟩, (by show va_P _ _ _ _; rw [ht]; exact hP)⟩, hS.F ht⟩) hS.2.2 dX9_readTrade_98
  · have kc_2 := bI_ne rfl L_0 c_2
    exact W.vret hx hb hr (fun t ht hW => ⟨⟨((up (up (up σ 11 s11_1) 10 s10_1) 12 (-1)), (up φ 6 f6_1), γ_1, ψ_1), rfl, ⟨s11_1, s10_1, f6_1, (-1), rfl, rfl, (show (Int32.toInt (σ 10)) ≤ (Int32.toInt s10_1) ∧ (Int32.toInt s10_1) ≤ (Int32.toInt (σ 10)) + 20004 from (by omega)), (show ∀ i : Nat, i < 300 → (i : Int) < (Int32.toInt s10_1) → Int32.toInt (f6_1 i) < i from (by with_reducible assumption))⟩, (by show va_P _ _ _ _; rw [ht]; exact hP)⟩, hS.F ht⟩) hS.2.2 dX9_readTrade_17
