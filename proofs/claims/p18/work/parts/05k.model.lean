set_option maxHeartbeats 4000000 in
set_option maxRecDepth 100000 in
theorem c_X9_readLine (l : Launch) (dC : Nat → ClassId) (dI : Nat → Nat → Nat) (a : Nat → Nat) (κ : Nat → ClassId) (σ : Nat → Int32) (φ : Nat → Nat → Int32) (γ : Nat → Int32) (ψ : Nat → Nat → Int32) (first : Int32) (p_m_sex : PtR (-1) 1 (φ 3)) (p_m_nameAt : PtR 0 4000 (φ 4)) (p_m_nameSize : PtR 0 30 (φ 5)) (hl : 0 ≤ (Int32.toInt (σ 5)) ∧ (Int32.toInt (σ 5)) ≤ (Int32.toInt (σ 6)) ∧ (Int32.toInt (σ 6)) ≤ 4000) (hf : 0 ≤ (Int32.toInt (σ 10)) ∧ (Int32.toInt (σ 10)) ≤ 1000000000) (hfc : ∀ i : Nat, i < 300 → (i : Int) < (Int32.toInt (σ 10)) → Int32.toInt ((φ 6) i) < i) (hpc : (Int32.toInt (σ 3)) = 0 ∨ (0 ≤ (Int32.toInt (σ 4)) ∧ (Int32.toInt (σ 4)) ≤ (Int32.toInt (σ 8)) ∧ (Int32.toInt (σ 8)) ≤ 2000)) (hpp : 0 ≤ (Int32.toInt (σ 8)) ∧ (Int32.toInt (σ 8)) ≤ 2000) (hn : 0 ≤ (Int32.toInt (σ 9)) ∧ (Int32.toInt (σ 9)) ≤ (Int32.toInt (σ 5))) (hNA : ∀ i : Nat, Int32.toInt ((φ 4) i) + Int32.toInt ((φ 5) i) ≤ 4000) (hNF : (Int32.toInt (σ 3)) = 0 ∨ (Int32.toInt (σ 8)) ≤ (Int32.toInt (σ 4)) ∨ Int32.toInt ((φ 4) (Int32.toNatClampNeg (σ 4))) ≤ (Int32.toInt (σ 5))) : Met l yX9_readLine wsX9_readLine ({ frames := 10, cells := 0, slots := 0, locals := 243 } : Room) (va_Pc [.ref (a 0), .int first] (mPre dC dI a κ (σ, φ, γ, ψ))) (va_Qv (QV (fun S F => ∃ (s10 : Int32) (f6 : Nat → Int32) (s11 : Int32) (s12 : Int32) (f7 : Nat → Int32) (f3 : Nat → Int32) (f4 : Nat → Int32) (f5 : Nat → Int32) (s9 : Int32) (s8 : Int32) (s3 : Int32) (s4 : Int32), (up (up (up (up (up (up (up σ 10 s10) 11 s11) 12 s12) 9 s9) 8 s8) 3 s3) 4 s4) = S ∧ (up (up (up (up (up φ 6 f6) 7 f7) 3 f3) 4 f4) 5 f5) = F ∧ PtR (-1) 1 f3 ∧ PtR 0 4000 f4 ∧ PtR 0 30 f5 ∧ ((Int32.toInt (σ 10)) ≤ (Int32.toInt s10) ∧ (Int32.toInt s10) ≤ (Int32.toInt (σ 10)) + 90000) ∧ (∀ i : Nat, i < 300 → (i : Int) < (Int32.toInt s10) → Int32.toInt (f6 i) < i) ∧ ((Int32.toInt (σ 8)) ≤ (Int32.toInt s8) ∧ (Int32.toInt s8) ≤ (Int32.toInt (σ 8)) + 1) ∧ ((Int32.toInt s3) = 0 ∨ (0 ≤ (Int32.toInt s4) ∧ (Int32.toInt s4) ≤ (Int32.toInt s8))) ∧ (0 ≤ (Int32.toInt s9) ∧ (Int32.toInt s9) ≤ (Int32.toInt (σ 6))) ∧ (∀ i : Nat, Int32.toInt (f4 i) + Int32.toInt (f5 i) ≤ 4000) ∧ ((Int32.toInt s3) = 0 ∨ (Int32.toInt s8) ≤ (Int32.toInt s4) ∨ Int32.toInt (f4 (Int32.toNatClampNeg s4)) ≤ (Int32.toInt (σ 5))) ∧ (((Int32.toInt first) = 72 ∧ (Int32.toInt s3) = 1) ∨ ((Int32.toInt first) ≠ 72 ∧ (Int32.toInt s3) = (Int32.toInt (σ 3)))))) (mB dC dI a κ) (mA a)) 0 0 (mA a) := by
  refine Met.ofW (cc := cX9_readLine) (maxL := 2) (ret := none) (by decide) rfl ?_
  intro p e s m args below meth c s₁ B hml hv
  obtain ⟨rfl, hP, hK, hI, hN⟩ := hv
  have hx := B.exec
  have hb := B.bytes
  have hr := B.returns
  have hts := atoms_spec (ws := wsX9_readLine) B.pre
  have hown : s.vm.findClass RX9 = some m.cls := findClass_of_methodNamed B.named
  have hlocks := B.notSynchronized
  have hS : va_S (mA a) s.heap s.heap [] := va_S.rf
  have hinX9 : ∀ w ∈ wsX90, w ∈ wsX9_readLine := fun _ h => List.mem_cons_of_mem _ (List.mem_append_right _ h)
  have hl := lv_entry ([.ref (a 0), .int first]) (n := 2) (Nat.le_of_ble_eq_true rfl)
  rw [lg_entry_eq]
  generalize (lg_sl ([.ref (a 0), .int first]) ++ List.replicate (2 - (lg_sl ([.ref (a 0), .int first])).length) Slot.unset).toArray = ls at hl ⊢
  have hl : lv_has ls 2 [(0, .ref (a 0)), (1, .int first)] := hl
  refine lv_iload_n hx hb dX9_readLine_0 rfl (lv_at hl 1 rfl) ?_
  refine lv_bipush (v := 72) hx hb dX9_readLine_1 (by decide) ?_
  refine lv_icmp_ne (tgt := 17) hx hb dX9_readLine_3 (by decide) (fun c_1 => ?_) (fun c_1 => ?_)
  · have kc_1 := bI_ne rfl L_72 c_1
    refine lv_iload_n hx hb dX9_readLine_17 rfl (lv_at hl 1 rfl) ?_
    refine lv_bipush (v := 83) hx hb dX9_readLine_18 (by decide) ?_
    refine lv_icmp_ne (tgt := 30) hx hb dX9_readLine_20 (by decide) (fun c_2 => ?_) (fun c_2 => ?_)
    · have kc_2 := bI_ne rfl L_83 c_2
      refine lv_aload_n hx hb dX9_readLine_30 rfl (lv_at hl 0 rfl) ?_
      refine lv_iload_n hx hb dX9_readLine_31 rfl (lv_at hl 1 rfl) ?_
      refine m_callv (va_runV (As := [.int first]) (rest := []) ⟨hx, hb, hml, hown, hts⟩ (c_X9_readPerson l dC dI a κ σ φ γ ψ first p_m_sex p_m_nameAt p_m_nameSize (show 0 ≤ (Int32.toInt (σ 5)) ∧ (Int32.toInt (σ 5)) ≤ (Int32.toInt (σ 6)) ∧ (Int32.toInt (σ 6)) ≤ 4000 from (by omega)) (show 0 ≤ (Int32.toInt (σ 10)) ∧ (Int32.toInt (σ 10)) ≤ 1000000000 from (by omega)) (show ∀ i : Nat, i < 300 → (i : Int) < (Int32.toInt (σ 10)) → Int32.toInt ((φ 6) i) < i from (by with_reducible assumption)) (show (Int32.toInt first) ≠ 72 ∧ (Int32.toInt first) ≠ 83 from (by omega)) (show (Int32.toInt (σ 3)) = 0 ∨ (0 ≤ (Int32.toInt (σ 4)) ∧ (Int32.toInt (σ 4)) ≤ (Int32.toInt (σ 8)) ∧ (Int32.toInt (σ 8)) ≤ 2000) from (by omega)) (show 0 ≤ (Int32.toInt (σ 9)) ∧ (Int32.toInt (σ 9)) ≤ (Int32.toInt (σ 5)) from (by omega)) (show ∀ i : Nat, Int32.toInt ((φ 4) i) + Int32.toInt ((φ 5) i) ≤ 4000 from (by with_reducible assumption)) (show (Int32.toInt (σ 3)) = 0 ∨ (Int32.toInt (σ 8)) ≤ (Int32.toInt (σ 4)) ∨ Int32.toInt ((φ 4) (Int32.toNatClampNeg (σ 4))) ≤ (Int32.toInt (σ 5)) from (by omega))) (cwV 1 hts gX9_readLine_X9_readPerson rfl rfl rfl ⟨rfl, hd_X9_readPerson⟩ ⟨Nat.le_of_ble_eq_true rfl, Nat.le_of_ble_eq_true rfl⟩) (mPreV hP hK hI hN hS (va_recv hK hP (ci := 9) (q0 := 0) rfl rfl)) rfl rfl hl.1 rfl (lv_room (Nat.le_of_ble_eq_true rfl)) dX9_readLine_32 ⟨(by decide +kernel), (by decide +kernel)⟩) hS ?_
      clear hP hS; intro S_3 F_3 γ_3 ψ_3 H locs hw hP hS
      obtain ⟨s10_3, f6_3, s11_3, s12_3, f7_3, f3_3, f4_3, f5_3, s9_3, s8_3, rfl, rfl, pf3_3, pf4_3, pf5_3, (qf_3 : (Int32.toInt (σ 10)) ≤ (Int32.toInt s10_3) ∧ (Int32.toInt s10_3) ≤ (Int32.toInt (σ 10)) + 90000), (qc_3 : ∀ i : Nat, i < 300 → (i : Int) < (Int32.toInt s10_3) → Int32.toInt (f6_3 i) < i), (qp_3 : (Int32.toInt (σ 8)) ≤ (Int32.toInt s8_3) ∧ (Int32.toInt s8_3) ≤ (Int32.toInt (σ 8)) + 1), (qn_3 : 0 ≤ (Int32.toInt s9_3) ∧ (Int32.toInt s9_3) ≤ (Int32.toInt (σ 6))), (qA_3 : ∀ i : Nat, Int32.toInt (f4_3 i) + Int32.toInt (f5_3 i) ≤ 4000), (qF_3 : (Int32.toInt (σ 3)) = 0 ∨ (Int32.toInt s8_3) ≤ (Int32.toInt (σ 4)) ∨ Int32.toInt (f4_3 (Int32.toNatClampNeg (σ 4))) ≤ (Int32.toInt (σ 5)))⟩ := hw
      exact W.vret hx hb hr (fun t ht hW => ⟨⟨((up (up (up (up (up (up (up σ 10 s10_3) 11 s11_3) 12 s12_3) 9 s9_3) 8 s8_3) 3 (σ 3)) 4 (σ 4)), (up (up (up (up (up φ 6 f6_3) 7 f7_3) 3 f3_3) 4 f4_3) 5 f5_3), γ_3, ψ_3), rfl, ⟨s10_3, f6_3, s11_3, s12_3, f7_3, f3_3, f4_3, f5_3, s9_3, s8_3, (σ 3), (σ 4), rfl, rfl, pf3_3, pf4_3, pf5_3, (show (Int32.toInt (σ 10)) ≤ (Int32.toInt s10_3) ∧ (Int32.toInt s10_3) ≤ (Int32.toInt (σ 10)) + 90000 from (by omega)), (show ∀ i : Nat, i < 300 → (i : Int) < (Int32.toInt s10_3) → Int32.toInt (f6_3 i) < i from (by with_reducible assumption)), (show (Int32.toInt (σ 8)) ≤ (Int32.toInt s8_3) ∧ (Int32.toInt s8_3) ≤ (Int32.toInt (σ 8)) + 1 from (by omega)), (show (Int32.toInt (σ 3)) = 0 ∨ (0 ≤ (Int32.toInt (σ 4)) ∧ (Int32.toInt (σ 4)) ≤ (Int32.toInt s8_3)) from (by omega)), (show 0 ≤ (Int32.toInt s9_3) ∧ (Int32.toInt s9_3) ≤ (Int32.toInt (σ 6)) from (by omega)), (show ∀ i : Nat, Int32.toInt (f4_3 i) + Int32.toInt (f5_3 i) ≤ 4000 from (by with_reducible assumption)), (show (Int32.toInt (σ 3)) = 0 ∨ (Int32.toInt s8_3) ≤ (Int32.toInt (σ 4)) ∨ Int32.toInt (f4_3 (Int32.toNatClampNeg (σ 4))) ≤ (Int32.toInt (σ 5)) from (by omega)), (show ((Int32.toInt first) = 72 ∧ (Int32.toInt (σ 3)) = 1) ∨ ((Int32.toInt first) ≠ 72 ∧ (Int32.toInt (σ 3)) = (Int32.toInt (σ 3))) from (by omega))⟩, (by show va_P _ _ _ _; rw [ht]; exact hP)⟩, hS.F ht⟩) hS.2.2 dX9_readLine_35
    · have kc_2 := bI_eq rfl L_83 c_2
      refine lv_aload_n hx hb dX9_readLine_23 rfl (lv_at hl 0 rfl) ?_
      refine m_callv (va_runV (As := []) (rest := []) ⟨hx, hb, hml, hown, hts⟩ (c_X9_readSums l dC dI a κ σ φ γ ψ  (show 0 ≤ (Int32.toInt (σ 5)) ∧ (Int32.toInt (σ 5)) ≤ (Int32.toInt (σ 6)) ∧ (Int32.toInt (σ 6)) ≤ 4000 from (by omega)) (show 0 ≤ (Int32.toInt (σ 10)) ∧ (Int32.toInt (σ 10)) ≤ 1000000000 from (by omega)) (show ∀ i : Nat, i < 300 → (i : Int) < (Int32.toInt (σ 10)) → Int32.toInt ((φ 6) i) < i from (by with_reducible assumption))) (cwV 0 hts gX9_readLine_X9_readSums rfl rfl rfl ⟨rfl, hd_X9_readSums⟩ ⟨Nat.le_of_ble_eq_true rfl, Nat.le_of_ble_eq_true rfl⟩) (mPreV hP hK hI hN hS (va_recv hK hP (ci := 9) (q0 := 0) rfl rfl)) rfl rfl hl.1 rfl (lv_room (Nat.le_of_ble_eq_true rfl)) dX9_readLine_24 ⟨(by decide +kernel), (by decide +kernel)⟩) hS ?_
      clear hP hS; intro S_4 F_4 γ_4 ψ_4 H locs hw hP hS
      obtain ⟨s11_4, s10_4, f6_4, s12_4, rfl, rfl, (qf_4 : (Int32.toInt (σ 10)) ≤ (Int32.toInt s10_4) ∧ (Int32.toInt s10_4) ≤ (Int32.toInt (σ 10)) + 21000), (qc_4 : ∀ i : Nat, i < 300 → (i : Int) < (Int32.toInt s10_4) → Int32.toInt (f6_4 i) < i)⟩ := hw
      refine lv_goto (tgt := 35) hx hb dX9_readLine_27 (by decide) ?_
      exact W.vret hx hb hr (fun t ht hW => ⟨⟨((up (up (up (up (up (up (up σ 10 s10_4) 11 s11_4) 12 s12_4) 9 (σ 9)) 8 (σ 8)) 3 (σ 3)) 4 (σ 4)), (up (up (up (up (up φ 6 f6_4) 7 (φ 7)) 3 (φ 3)) 4 (φ 4)) 5 (φ 5)), γ_4, ψ_4), rfl, ⟨s10_4, f6_4, s11_4, s12_4, (φ 7), (φ 3), (φ 4), (φ 5), (σ 9), (σ 8), (σ 3), (σ 4), rfl, rfl, p_m_sex, p_m_nameAt, p_m_nameSize, (show (Int32.toInt (σ 10)) ≤ (Int32.toInt s10_4) ∧ (Int32.toInt s10_4) ≤ (Int32.toInt (σ 10)) + 90000 from (by omega)), (show ∀ i : Nat, i < 300 → (i : Int) < (Int32.toInt s10_4) → Int32.toInt (f6_4 i) < i from (by with_reducible assumption)), (show (Int32.toInt (σ 8)) ≤ (Int32.toInt (σ 8)) ∧ (Int32.toInt (σ 8)) ≤ (Int32.toInt (σ 8)) + 1 from (by omega)), (show (Int32.toInt (σ 3)) = 0 ∨ (0 ≤ (Int32.toInt (σ 4)) ∧ (Int32.toInt (σ 4)) ≤ (Int32.toInt (σ 8))) from (by omega)), (show 0 ≤ (Int32.toInt (σ 9)) ∧ (Int32.toInt (σ 9)) ≤ (Int32.toInt (σ 6)) from (by omega)), (show ∀ i : Nat, Int32.toInt ((φ 4) i) + Int32.toInt ((φ 5) i) ≤ 4000 from (by with_reducible assumption)), (show (Int32.toInt (σ 3)) = 0 ∨ (Int32.toInt (σ 8)) ≤ (Int32.toInt (σ 4)) ∨ Int32.toInt ((φ 4) (Int32.toNatClampNeg (σ 4))) ≤ (Int32.toInt (σ 5)) from (by omega)), (show ((Int32.toInt first) = 72 ∧ (Int32.toInt (σ 3)) = 1) ∨ ((Int32.toInt first) ≠ 72 ∧ (Int32.toInt (σ 3)) = (Int32.toInt (σ 3))) from (by omega))⟩, (by show va_P _ _ _ _; rw [ht]; exact hP)⟩, hS.F ht⟩) hS.2.2 dX9_readLine_35
  · have kc_1 := bI_eq rfl L_72 c_1
    refine lv_aload_n hx hb dX9_readLine_6 rfl (lv_at hl 0 rfl) ?_
    refine m_callv (va_runV (As := []) (rest := []) ⟨hx, hb, hml, hown, hts⟩ (c_X9_beginHouse l dC dI a κ σ φ γ ψ  ) (cwV 0 hts gX9_readLine_X9_beginHouse rfl rfl rfl ⟨rfl, hd_X9_beginHouse⟩ ⟨Nat.le_of_ble_eq_true rfl, Nat.le_of_ble_eq_true rfl⟩) (mPreV hP hK hI hN hS (va_recv hK hP (ci := 9) (q0 := 0) rfl rfl)) rfl rfl hl.1 rfl (lv_room (Nat.le_of_ble_eq_true rfl)) dX9_readLine_7 ⟨(by decide +kernel), (by decide +kernel)⟩) hS ?_
    clear hP hS; intro S_5 F_5 γ_5 ψ_5 H locs hw hP hS
    obtain ⟨s3_5, s4_5, rfl, rfl, (qb_5 : (Int32.toInt s3_5) = 1 ∧ (Int32.toInt s4_5) = (Int32.toInt (σ 8)))⟩ := hw
    refine lv_aload_n hx hb dX9_readLine_10 rfl (lv_at hl 0 rfl) ?_
    refine m_callv (va_runV (As := []) (rest := []) ⟨hx, hb, hml, hown, hts⟩ (c_X9_readHouse l dC dI a κ (up (up σ 3 s3_5) 4 s4_5) φ γ_5 ψ_5  (show 0 ≤ (Int32.toInt (σ 5)) ∧ (Int32.toInt (σ 5)) ≤ (Int32.toInt (σ 6)) ∧ (Int32.toInt (σ 6)) ≤ 4000 from (by omega)) (show 0 ≤ (Int32.toInt (σ 10)) ∧ (Int32.toInt (σ 10)) ≤ 1000000000 from (by omega)) (show ∀ i : Nat, i < 300 → (i : Int) < (Int32.toInt (σ 10)) → Int32.toInt ((φ 6) i) < i from (by with_reducible assumption))) (cwV 0 hts gX9_readLine_X9_readHouse rfl rfl rfl ⟨rfl, hd_X9_readHouse⟩ ⟨Nat.le_of_ble_eq_true rfl, Nat.le_of_ble_eq_true rfl⟩) (mPreV hP hK hI hN hS (va_recv hK hP (ci := 9) (q0 := 0) rfl rfl)) rfl rfl hl.1 rfl (lv_room (Nat.le_of_ble_eq_true rfl)) dX9_readLine_11 ⟨(by decide +kernel), (by decide +kernel)⟩) hS ?_
    clear hP hS; intro S_6 F_6 γ_6 ψ_6 H locs hw hP hS
    obtain ⟨s11_6, s10_6, f6_6, s12_6, rfl, rfl, (qf_6 : (Int32.toInt (σ 10)) ≤ (Int32.toInt s10_6) ∧ (Int32.toInt s10_6) ≤ (Int32.toInt (σ 10)) + 41000), (qc_6 : ∀ i : Nat, i < 300 → (i : Int) < (Int32.toInt s10_6) → Int32.toInt (f6_6 i) < i)⟩ := hw
    refine lv_goto (tgt := 35) hx hb dX9_readLine_14 (by decide) ?_
    exact W.vret hx hb hr (fun t ht hW => ⟨⟨((up (up (up (up (up (up (up σ 10 s10_6) 11 s11_6) 12 s12_6) 9 (σ 9)) 8 (σ 8)) 3 s3_5) 4 s4_5), (up (up (up (up (up φ 6 f6_6) 7 (φ 7)) 3 (φ 3)) 4 (φ 4)) 5 (φ 5)), γ_6, ψ_6), rfl, ⟨s10_6, f6_6, s11_6, s12_6, (φ 7), (φ 3), (φ 4), (φ 5), (σ 9), (σ 8), s3_5, s4_5, rfl, rfl, p_m_sex, p_m_nameAt, p_m_nameSize, (show (Int32.toInt (σ 10)) ≤ (Int32.toInt s10_6) ∧ (Int32.toInt s10_6) ≤ (Int32.toInt (σ 10)) + 90000 from (by omega)), (show ∀ i : Nat, i < 300 → (i : Int) < (Int32.toInt s10_6) → Int32.toInt (f6_6 i) < i from (by with_reducible assumption)), (show (Int32.toInt (σ 8)) ≤ (Int32.toInt (σ 8)) ∧ (Int32.toInt (σ 8)) ≤ (Int32.toInt (σ 8)) + 1 from (by omega)), (show (Int32.toInt s3_5) = 0 ∨ (0 ≤ (Int32.toInt s4_5) ∧ (Int32.toInt s4_5) ≤ (Int32.toInt (σ 8))) from (by omega)), (show 0 ≤ (Int32.toInt (σ 9)) ∧ (Int32.toInt (σ 9)) ≤ (Int32.toInt (σ 6)) from (by omega)), (show ∀ i : Nat, Int32.toInt ((φ 4) i) + Int32.toInt ((φ 5) i) ≤ 4000 from (by with_reducible assumption)), (show (Int32.toInt s3_5) = 0 ∨ (Int32.toInt (σ 8)) ≤ (Int32.toInt s4_5) ∨ Int32.toInt ((φ 4) (Int32.toNatClampNeg s4_5)) ≤ (Int32.toInt (σ 5)) from (by omega)), (show ((Int32.toInt first) = 72 ∧ (Int32.toInt s3_5) = 1) ∨ ((Int32.toInt first) ≠ 72 ∧ (Int32.toInt s3_5) = (Int32.toInt (σ 3))) from (by omega))⟩, (by show va_P _ _ _ _; rw [ht]; exact hP)⟩, hS.F ht⟩) hS.2.2 dX9_readLine_35
set_option maxHeartbeats 4000000 in
set_option maxRecDepth 100000 in
theorem c_X9_settle (l : Launch) (dC : Nat → ClassId) (dI : Nat → Nat → Nat) (a : Nat → Nat) (κ : Nat → ClassId) (σ : Nat → Int32) (φ : Nat → Nat → Int32) (γ : Nat → Int32) (ψ : Nat → Nat → Int32)  : Met l yX9_settle wsX9_settle ({ frames := 0, cells := 0, slots := 0, locals := 0 } : Room) (va_Pc [.ref (a 0)] (mPre dC dI a κ (σ, φ, γ, ψ))) (va_Qi (QI (fun r S F => ∃ (s2 : Int32) (s17 : Int32), (up (up σ 2 s2) 17 s17) = S ∧ φ = F ∧ ((s2 = 1 ∧ s17 = (σ 17)) ∨ (s2 = (σ 2) ∧ s17 = (σ 17) + 1)))) (mB dC dI a κ) (mA a)) 0 0 (mA a) := by
  refine Met.ofW (cc := cX9_settle) (maxL := 1) (ret := (some .int)) (by decide) rfl ?_
  intro p e s m args below meth c s₁ B hml hv
  obtain ⟨rfl, hP, hK, hI, hN⟩ := hv
  have hx := B.exec
  have hb := B.bytes
  have hr := B.returns
  have hts := atoms_spec (ws := wsX9_settle) B.pre
  have hown : s.vm.findClass RX9 = some m.cls := findClass_of_methodNamed B.named
  have hlocks := B.notSynchronized
  have hS : va_S (mA a) s.heap s.heap [] := va_S.rf
  have hinX9 : ∀ w ∈ wsX90, w ∈ wsX9_settle := fun _ h => List.mem_cons_of_mem _ (List.mem_append_right _ h)
  have hl := lv_entry ([.ref (a 0)]) (n := 1) (Nat.le_of_ble_eq_true rfl)
  rw [lg_entry_eq]
  generalize (lg_sl ([.ref (a 0)]) ++ List.replicate (1 - (lg_sl ([.ref (a 0)])).length) Slot.unset).toArray = ls at hl ⊢
  have hl : lv_has ls 1 [(0, .ref (a 0))] := hl
  refine lv_aload_n hx hb dX9_settle_0 rfl (lv_at hl 0 rfl) ?_
  refine mg_0_6 (v := (γ 0)) hx hb hts hinX9 hown hK hP (hts (.fieldLink RX9 151 "CensusDeskModel" "isRejected" "Z") (List.mem_of_getElem? (i := 1) rfl)) rfl dX9_settle_1 ?_
  refine lv_if_eq (tgt := 19) hx hb dX9_settle_4 (by decide) (fun c_1 => ?_) (fun c_1 => ?_)
  · have kc_1 := bI_eq rfl L_0 c_1
    refine lv_aload_n hx hb dX9_settle_19 rfl (lv_at hl 0 rfl) ?_
    refine lv_iconst (v := 0) hx hb dX9_settle_20 (by decide) ?_
    refine mp_0_7 (v := 0) hx hb hts hinX9 hown hK hP hI hS (hts (.fieldLink RX9 144 "CensusDeskModel" "stops" "Z") (List.mem_of_getElem? (i := 3) rfl)) (by first | rfl | decide) (by first | rfl | decide) dX9_settle_21 ?_
    clear hP hS; intro H locs hP hS
    refine lv_aload_n hx hb dX9_settle_24 rfl (lv_at hl 0 rfl) ?_
    refine lv_iconst (v := 1) hx hb dX9_settle_25 (by decide) ?_
    refine mp_0_5 (v := 1) hx hb hts hinX9 hown hK hP hI hS (hts (.fieldLink RX9 120 "CensusDeskModel" "isHeld" "Z") (List.mem_of_getElem? (i := 4) rfl)) (by first | rfl | decide) (by first | rfl | decide) dX9_settle_26 ?_
    clear hP hS; intro H locs hP hS
    refine lv_iconst (v := 2) hx hb dX9_settle_29 (by decide) ?_
    exact W.iret (v := 2) hx hb hr (fun t ht hW => ⟨⟨2, ((up (up σ 2 1) 17 (σ 17)), φ, (up γ 1 0), ψ), rfl, ⟨1, (σ 17), rfl, rfl, (Or.inl ⟨rfl, rfl⟩)⟩, (by show va_P _ _ _ _; rw [ht]; exact hP)⟩, hS.F ht⟩) hS.2.2 dX9_settle_30
  · have kc_1 := bI_ne rfl L_0 c_1
    refine lv_aload_n hx hb dX9_settle_7 rfl (lv_at hl 0 rfl) ?_
    refine lv_dup hx hb dX9_settle_8 rfl ?_
    refine mg_0_67 (v := (σ 17)) hx hb hts hinX9 hown hK hP (hts (.fieldLink RX9 292 "CensusDeskModel" "sheetsRejected" "I") (List.mem_of_getElem? (i := 2) rfl)) rfl dX9_settle_9 ?_
    refine lv_iconst (v := 1) hx hb dX9_settle_12 (by decide) ?_
    refine lv_iadd hx hb dX9_settle_13 ?_
    refine lv_topi (fun z_2 ez_2 => ?_)
    refine mp_0_67 (v := z_2) hx hb hts hinX9 hown hK hP hI hS (hts (.fieldLink RX9 292 "CensusDeskModel" "sheetsRejected" "I") (List.mem_of_getElem? (i := 2) rfl)) dX9_settle_14 ?_
    clear hP hS; intro H locs hP hS
    refine lv_iconst (v := 1) hx hb dX9_settle_17 (by decide) ?_
    exact W.iret (v := 1) hx hb hr (fun t ht hW => ⟨⟨1, ((up (up σ 2 (σ 2)) 17 z_2), φ, γ, ψ), rfl, ⟨(σ 2), z_2, rfl, rfl, (Or.inr ⟨rfl, ez_2⟩)⟩, (by show va_P _ _ _ _; rw [ht]; exact hP)⟩, hS.F ht⟩) hS.2.2 dX9_settle_18
