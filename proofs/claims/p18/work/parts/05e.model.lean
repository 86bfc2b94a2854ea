set_option maxHeartbeats 4000000 in
set_option maxRecDepth 100000 in
theorem c_X9_readNumber (l : Launch) (dC : Nat → ClassId) (dI : Nat → Nat → Nat) (a : Nat → Nat) (κ : Nat → ClassId) (σ : Nat → Int32) (φ : Nat → Nat → Int32) (γ : Nat → Int32) (ψ : Nat → Nat → Int32) (k : Int32) (most : Int32) (hl : 0 ≤ (Int32.toInt (σ 5)) ∧ (Int32.toInt (σ 5)) ≤ (Int32.toInt (σ 6)) ∧ (Int32.toInt (σ 6)) ≤ 4000) (hf : 0 ≤ (Int32.toInt (σ 10)) ∧ (Int32.toInt (σ 10)) ≤ 1500000000) (hfc : ∀ i : Nat, i < 300 → (i : Int) < (Int32.toInt (σ 10)) → Int32.toInt ((φ 6) i) < i) : Met l yX9_readNumber wsX9_readNumber ({ frames := 8, cells := 0, slots := 0, locals := 194 } : Room) (va_Pc [.ref (a 0), .int k, .int most] (mPre dC dI a κ (σ, φ, γ, ψ))) (va_Qv (QV (fun S F => ∃ (s11 : Int32) (s10 : Int32) (f6 : Nat → Int32) (s12 : Int32), (up (up (up σ 11 s11) 10 s10) 12 s12) = S ∧ (up φ 6 f6) = F ∧ ((Int32.toInt (σ 10)) ≤ (Int32.toInt s10) ∧ (Int32.toInt s10) ≤ (Int32.toInt (σ 10)) + 20004) ∧ (∀ i : Nat, i < 300 → (i : Int) < (Int32.toInt s10) → Int32.toInt (f6 i) < i))) (mB dC dI a κ) (mA a)) 0 0 (mA a) := by
  refine Met.ofW (cc := cX9_readNumber) (maxL := 6) (ret := none) (by decide) rfl ?_
  intro p e s m args below meth c s₁ B hml hv
  obtain ⟨rfl, hP, hK, hI, hN⟩ := hv
  have hx := B.exec
  have hb := B.bytes
  have hr := B.returns
  have hts := atoms_spec (ws := wsX9_readNumber) B.pre
  have hown : s.vm.findClass RX9 = some m.cls := findClass_of_methodNamed B.named
  have hlocks := B.notSynchronized
  have hS : va_S (mA a) s.heap s.heap [] := va_S.rf
  have hinX9 : ∀ w ∈ wsX90, w ∈ wsX9_readNumber := fun _ h => List.mem_cons_of_mem _ (List.mem_append_right _ h)
  have hl := lv_entry ([.ref (a 0), .int k, .int most]) (n := 6) (Nat.le_of_ble_eq_true rfl)
  rw [lg_entry_eq]
  generalize (lg_sl ([.ref (a 0), .int k, .int most]) ++ List.replicate (6 - (lg_sl ([.ref (a 0), .int k, .int most])).length) Slot.unset).toArray = ls at hl ⊢
  have hl : lv_has ls 6 [(0, .ref (a 0)), (1, .int k), (2, .int most)] := hl
  refine k_gen (fun QQ eQ => ?_)
  have J23 : ∀ (n23 : Nat), ∀ (digits : Int32) (v : Int32) (s11_c23 : Int32) (s10_c23 : Int32) (f6_c23 : Nat → Int32) (s12_c23 : Int32) (γ : Nat → Int32) (ψ : Nat → Nat → Int32) (H : Heap) (locs : List Loc) (ls : Array Slot), (0 ≤ (Int32.toInt digits)) → (0 ≤ (Int32.toInt s11_c23) ∧ (Int32.toInt s11_c23) ≤ (Int32.toInt (σ 6)) - (Int32.toInt (σ 5))) → ((Int32.toInt (σ 10)) ≤ (Int32.toInt s10_c23) ∧ (Int32.toInt s10_c23) ≤ (Int32.toInt (σ 10)) + 20000) → (∀ i : Nat, i < 300 → (i : Int) < (Int32.toInt s10_c23) → Int32.toInt (f6_c23 i) < i) → (((Int32.toInt s11_c23) - (Int32.toInt digits)).toNat < n23) → va_P (dC, dI) vwCl (mw a κ ((up (up (up σ 11 s11_c23) 10 s10_c23) 12 s12_c23), (up φ 6 f6_c23), γ, ψ)) H → va_S (mA a) s.heap H locs → lv_has ls 6 [(0, .ref (a 0)), (2, .int most), (3, .int digits), (4, .int v)] → W p l e ({ frames := 8, cells := 0, slots := 0, locals := 194 } : Room) s m ([.ref (a 0), .int k, .int most] : List Value).toArray below meth c H locs 0 0 QQ (F0 m 23 ls []) := by
    intro n23
    induction n23 with
    | zero =>
      intro digits v s11_c23 s10_c23 f6_c23 s12_c23 γ ψ H locs ls v0 vs vf hfc hm
      exact absurd hm (Nat.not_lt_zero _)
    | succ n23 ih23 =>
      intro digits v s11_c23 s10_c23 f6_c23 s12_c23 γ ψ H locs ls v0 vs vf hfc hm hP hS hl
      refine lv_iload_n hx hb dX9_readNumber_23 rfl (lv_at hl 2 rfl) ?_
      refine lv_aload_n hx hb dX9_readNumber_24 rfl (lv_at hl 0 rfl) ?_
      refine mg_0_48 (v := s11_c23) hx hb hts hinX9 hown hK hP (hts (.fieldLink RX9 191 "CensusDeskModel" "signs" "I") (List.mem_of_getElem? (i := 3) rfl)) rfl dX9_readNumber_25 ?_
      refine lv_icmp_ge (tgt := 72) hx hb dX9_readNumber_28 (by decide) (fun c_1 => ?_) (fun c_1 => ?_)
      · have kc_1 := bI_le rfl rfl c_1
        refine lv_aload_n hx hb dX9_readNumber_72 rfl (lv_at hl 0 rfl) ?_
        refine mg_0_48 (v := s11_c23) hx hb hts hinX9 hown hK hP (hts (.fieldLink RX9 191 "CensusDeskModel" "signs" "I") (List.mem_of_getElem? (i := 3) rfl)) rfl dX9_readNumber_73 ?_
        refine lv_if_eq (tgt := 87) hx hb dX9_readNumber_76 (by decide) (fun c_2 => ?_) (fun c_2 => ?_)
        · have kc_2 := bI_eq rfl L_0 c_2
          refine lv_aload_n hx hb dX9_readNumber_87 rfl (lv_at hl 0 rfl) ?_
          refine lv_iconst (v := 4) hx hb dX9_readNumber_88 (by decide) ?_
          refine lv_aload_n hx hb dX9_readNumber_89 rfl (lv_at hl 0 rfl) ?_
          refine mg_0_50 (v := (γ 14)) hx hb hts hinX9 hown hK hP (hts (.fieldLink RX9 200 "CensusDeskModel" "cellAt" "I") (List.mem_of_getElem? (i := 5) rfl)) rfl dX9_readNumber_90 ?_
          refine lv_iconst (v := (-1)) hx hb dX9_readNumber_93 (by decide) ?_
          refine m_calli (va_runV (As := [.int 4, .int (γ 14), .int (-1)]) (rest := []) ⟨hx, hb, hml, hown, hts⟩ (c_X9_failField l dC dI a κ (up (up (up σ 11 s11_c23) 10 s10_c23) 12 s12_c23) (up φ 6 f6_c23) γ ψ 4 (γ 14) (-1) (show 1 ≤ (Int32.toInt 4) ∧ (Int32.toInt 4) ≤ 21 from (by have := L_4; omega)) (show (Int32.toInt (-1)) < (Int32.toInt s10_c23) from (by have := L_m1; omega)) (show 0 ≤ (Int32.toInt s10_c23) ∧ (Int32.toInt s10_c23) ≤ 1999999960 from (by omega)) (show ∀ i : Nat, i < 300 → (i : Int) < (Int32.toInt s10_c23) → Int32.toInt (f6_c23 i) < i from (by with_reducible assumption))) (cwV 3 hts gX9_readNumber_X9_failField rfl rfl rfl ⟨rfl, hd_X9_failField⟩ ⟨Nat.le_of_ble_eq_true rfl, Nat.le_of_ble_eq_true rfl⟩) (mPreV hP hK hI hN hS (va_recv hK hP (ci := 9) (q0 := 0) rfl rfl)) rfl rfl hl.1 rfl (lv_room (Nat.le_of_ble_eq_true rfl)) dX9_readNumber_94 ⟨(by decide +kernel), (by decide +kernel)⟩) hS ?_
          clear hP hS; intro r_3 S_3 F_3 γ_3 ψ_3 H locs hw hP hS
          obtain ⟨s10_3, f6_3, rfl, rfl, (qf_3 : (Int32.toInt s10_c23) ≤ (Int32.toInt s10_3) ∧ (Int32.toInt s10_3) ≤ (Int32.toInt s10_c23) + 4), (qc_3 : ∀ i : Nat, i < 300 → (i : Int) < (Int32.toInt s10_3) → Int32.toInt (f6_3 i) < i)⟩ := hw
          have hLm1_3 := L_m1
          have hL4_3 := L_4
          refine lv_istore (lv' := [(5, .int r_3), (0, .ref (a 0)), (2, .int most), (3, .int digits), (4, .int v)]) hx hb dX9_readNumber_97 hl (by decide) rfl ?_
          clear hl; intro ls hl
          refine lv_aload_n hx hb dX9_readNumber_99 rfl (lv_at hl 1 rfl) ?_
          refine lv_iload hx hb dX9_readNumber_100 (lv_at hl 0 rfl) ?_
          refine lv_iconst (v := 1) hx hb dX9_readNumber_102 (by decide) ?_
          refine lv_icmp_ne (tgt := 111) hx hb dX9_readNumber_103 (by decide) (fun c_4 => ?_) (fun c_4 => ?_)
          · have kc_4 := bI_ne rfl L_1 c_4
            refine lv_iload hx hb dX9_readNumber_111 (lv_at hl 0 rfl) ?_
            refine lv_iconst (v := 2) hx hb dX9_readNumber_113 (by decide) ?_
            refine lv_icmp_ne (tgt := 124) hx hb dX9_readNumber_114 (by decide) (fun c_5 => ?_) (fun c_5 => ?_)
            · have kc_5 := bI_ne rfl L_2 c_5
              refine lv_iconst (v := (-1)) hx hb dX9_readNumber_124 (by decide) ?_
              refine mp_0_51 (v := (-1)) hx hb hts hinX9 hown hK hP hI hS (hts (.fieldLink RX9 212 "CensusDeskModel" "value" "I") (List.mem_of_getElem? (i := 1) rfl)) dX9_readNumber_125 ?_
              clear hP hS; intro H locs hP hS
              subst eQ
              exact W.vret hx hb hr (fun t ht hW => ⟨⟨((up (up (up σ 11 s11_c23) 10 s10_3) 12 (-1)), (up φ 6 f6_3), γ_3, ψ_3), rfl, ⟨s11_c23, s10_3, f6_3, (-1), rfl, rfl, (show (Int32.toInt (σ 10)) ≤ (Int32.toInt s10_3) ∧ (Int32.toInt s10_3) ≤ (Int32.toInt (σ 10)) + 20004 from (by omega)), (show ∀ i : Nat, i < 300 → (i : Int) < (Int32.toInt s10_3) → Int32.toInt (f6_3 i) < i from (by with_reducible assumption))⟩, (by show va_P _ _ _ _; rw [ht]; exact hP)⟩, hS.F ht⟩) hS.2.2 dX9_readNumber_128
            · have kc_5 := bI_eq rfl L_2 c_5
              refine lv_aload_n hx hb dX9_readNumber_117 rfl (lv_at hl 1 rfl) ?_
              refine mg_0_45 (v := (γ_3 12)) hx hb hts hinX9 hown hK hP (hts (.fieldLink RX9 128 "CensusDeskModel" "replaced" "I") (List.mem_of_getElem? (i := 6) rfl)) rfl dX9_readNumber_118 ?_
              refine lv_goto (tgt := 125) hx hb dX9_readNumber_121 (by decide) ?_
              refine mp_0_51 (v := (γ_3 12)) hx hb hts hinX9 hown hK hP hI hS (hts (.fieldLink RX9 212 "CensusDeskModel" "value" "I") (List.mem_of_getElem? (i := 1) rfl)) dX9_readNumber_125 ?_
              clear hP hS; intro H locs hP hS
              subst eQ
              exact W.vret hx hb hr (fun t ht hW => ⟨⟨((up (up (up σ 11 s11_c23) 10 s10_3) 12 (γ_3 12)), (up φ 6 f6_3), γ_3, ψ_3), rfl, ⟨s11_c23, s10_3, f6_3, (γ_3 12), rfl, rfl, (show (Int32.toInt (σ 10)) ≤ (Int32.toInt s10_3) ∧ (Int32.toInt s10_3) ≤ (Int32.toInt (σ 10)) + 20004 from (by omega)), (show ∀ i : Nat, i < 300 → (i : Int) < (Int32.toInt s10_3) → Int32.toInt (f6_3 i) < i from (by with_reducible assumption))⟩, (by show va_P _ _ _ _; rw [ht]; exact hP)⟩, hS.F ht⟩) hS.2.2 dX9_readNumber_128
          · have kc_4 := bI_eq rfl L_1 c_4
            refine lv_iload hx hb dX9_readNumber_106 (lv_at hl 4 rfl) ?_
            refine lv_goto (tgt := 125) hx hb dX9_readNumber_108 (by decide) ?_
            refine mp_0_51 (v := v) hx hb hts hinX9 hown hK hP hI hS (hts (.fieldLink RX9 212 "CensusDeskModel" "value" "I") (List.mem_of_getElem? (i := 1) rfl)) dX9_readNumber_125 ?_
            clear hP hS; intro H locs hP hS
            subst eQ
            exact W.vret hx hb hr (fun t ht hW => ⟨⟨((up (up (up σ 11 s11_c23) 10 s10_3) 12 v), (up φ 6 f6_3), γ_3, ψ_3), rfl, ⟨s11_c23, s10_3, f6_3, v, rfl, rfl, (show (Int32.toInt (σ 10)) ≤ (Int32.toInt s10_3) ∧ (Int32.toInt s10_3) ≤ (Int32.toInt (σ 10)) + 20004 from (by omega)), (show ∀ i : Nat, i < 300 → (i : Int) < (Int32.toInt s10_3) → Int32.toInt (f6_3 i) < i from (by with_reducible assumption))⟩, (by show va_P _ _ _ _; rw [ht]; exact hP)⟩, hS.F ht⟩) hS.2.2 dX9_readNumber_128
        · have kc_2 := bI_ne rfl L_0 c_2
          refine lv_iload_n hx hb dX9_readNumber_79 rfl (lv_at hl 2 rfl) ?_
          refine lv_aload_n hx hb dX9_readNumber_80 rfl (lv_at hl 0 rfl) ?_
          refine mg_0_48 (v := s11_c23) hx hb hts hinX9 hown hK hP (hts (.fieldLink RX9 191 "CensusDeskModel" "signs" "I") (List.mem_of_getElem? (i := 3) rfl)) rfl dX9_readNumber_81 ?_
          refine lv_icmp_ge (tgt := 129) hx hb dX9_readNumber_84 (by decide) (fun c_6 => ?_) (fun c_6 => ?_)
          · have kc_6 := bI_le rfl rfl c_6
            refine lv_aload_n hx hb dX9_readNumber_129 rfl (lv_at hl 0 rfl) ?_
            refine lv_iload hx hb dX9_readNumber_130 (lv_at hl 3 rfl) ?_
            refine mp_0_51 (v := v) hx hb hts hinX9 hown hK hP hI hS (hts (.fieldLink RX9 212 "CensusDeskModel" "value" "I") (List.mem_of_getElem? (i := 1) rfl)) dX9_readNumber_132 ?_
            clear hP hS; intro H locs hP hS
            refine lv_iload hx hb dX9_readNumber_135 (lv_at hl 3 rfl) ?_
            refine lv_iload_n hx hb dX9_readNumber_137 rfl (lv_at hl 1 rfl) ?_
            refine lv_icmp_le (tgt := 182) hx hb dX9_readNumber_138 (by decide) (fun c_7 => ?_) (fun c_7 => ?_)
            · have kc_7 := bI_le rfl rfl c_7
              subst eQ
              exact W.vret hx hb hr (fun t ht hW => ⟨⟨((up (up (up σ 11 s11_c23) 10 s10_c23) 12 v), (up φ 6 f6_c23), γ, ψ), rfl, ⟨s11_c23, s10_c23, f6_c23, v, rfl, rfl, (show (Int32.toInt (σ 10)) ≤ (Int32.toInt s10_c23) ∧ (Int32.toInt s10_c23) ≤ (Int32.toInt (σ 10)) + 20004 from (by omega)), (show ∀ i : Nat, i < 300 → (i : Int) < (Int32.toInt s10_c23) → Int32.toInt (f6_c23 i) < i from (by with_reducible assumption))⟩, (by show va_P _ _ _ _; rw [ht]; exact hP)⟩, hS.F ht⟩) hS.2.2 dX9_readNumber_182
            · have kc_7 := bI_nle rfl rfl c_7
              refine lv_aload_n hx hb dX9_readNumber_141 rfl (lv_at hl 0 rfl) ?_
              refine lv_iconst (v := 5) hx hb dX9_readNumber_142 (by decide) ?_
              refine lv_aload_n hx hb dX9_readNumber_143 rfl (lv_at hl 0 rfl) ?_
              refine mg_0_50 (v := (γ 14)) hx hb hts hinX9 hown hK hP (hts (.fieldLink RX9 200 "CensusDeskModel" "cellAt" "I") (List.mem_of_getElem? (i := 5) rfl)) rfl dX9_readNumber_144 ?_
              refine lv_iconst (v := (-1)) hx hb dX9_readNumber_147 (by decide) ?_
              refine m_calli (va_runV (As := [.int 5, .int (γ 14), .int (-1)]) (rest := []) ⟨hx, hb, hml, hown, hts⟩ (c_X9_failField l dC dI a κ (up (up (up (up σ 11 s11_c23) 10 s10_c23) 12 s12_c23) 12 v) (up φ 6 f6_c23) γ ψ 5 (γ 14) (-1) (show 1 ≤ (Int32.toInt 5) ∧ (Int32.toInt 5) ≤ 21 from (by have := L_5; omega)) (show (Int32.toInt (-1)) < (Int32.toInt s10_c23) from (by have := L_m1; omega)) (show 0 ≤ (Int32.toInt s10_c23) ∧ (Int32.toInt s10_c23) ≤ 1999999960 from (by omega)) (show ∀ i : Nat, i < 300 → (i : Int) < (Int32.toInt s10_c23) → Int32.toInt (f6_c23 i) < i from (by with_reducible assumption))) (cwV 3 hts gX9_readNumber_X9_failField rfl rfl rfl ⟨rfl, hd_X9_failField⟩ ⟨Nat.le_of_ble_eq_true rfl, Nat.le_of_ble_eq_true rfl⟩) (mPreV hP hK hI hN hS (va_recv hK hP (ci := 9) (q0 := 0) rfl rfl)) rfl rfl hl.1 rfl (lv_room (Nat.le_of_ble_eq_true rfl)) dX9_readNumber_148 ⟨(by decide +kernel), (by decide +kernel)⟩) hS ?_
              clear hP hS; intro r_8 S_8 F_8 γ_8 ψ_8 H locs hw hP hS
              obtain ⟨s10_8, f6_8, rfl, rfl, (qf_8 : (Int32.toInt s10_c23) ≤ (Int32.toInt s10_8) ∧ (Int32.toInt s10_8) ≤ (Int32.toInt s10_c23) + 4), (qc_8 : ∀ i : Nat, i < 300 → (i : Int) < (Int32.toInt s10_8) → Int32.toInt (f6_8 i) < i)⟩ := hw
              have hLm1_8 := L_m1
              have hL5_8 := L_5
              refine lv_istore (lv' := [(5, .int r_8), (0, .ref (a 0)), (2, .int most), (3, .int digits), (4, .int v)]) hx hb dX9_readNumber_151 hl (by decide) rfl ?_
              clear hl; intro ls hl
              refine lv_aload_n hx hb dX9_readNumber_153 rfl (lv_at hl 1 rfl) ?_
              refine lv_iload hx hb dX9_readNumber_154 (lv_at hl 0 rfl) ?_
              refine lv_iconst (v := 1) hx hb dX9_readNumber_156 (by decide) ?_
              refine lv_icmp_ne (tgt := 165) hx hb dX9_readNumber_157 (by decide) (fun c_9 => ?_) (fun c_9 => ?_)
              · have kc_9 := bI_ne rfl L_1 c_9
                refine lv_iload hx hb dX9_readNumber_165 (lv_at hl 0 rfl) ?_
                refine lv_iconst (v := 2) hx hb dX9_readNumber_167 (by decide) ?_
                refine lv_icmp_ne (tgt := 178) hx hb dX9_readNumber_168 (by decide) (fun c_10 => ?_) (fun c_10 => ?_)
                · have kc_10 := bI_ne rfl L_2 c_10
                  refine lv_iconst (v := (-1)) hx hb dX9_readNumber_178 (by decide) ?_
                  refine mp_0_51 (v := (-1)) hx hb hts hinX9 hown hK hP hI hS (hts (.fieldLink RX9 212 "CensusDeskModel" "value" "I") (List.mem_of_getElem? (i := 1) rfl)) dX9_readNumber_179 ?_
                  clear hP hS; intro H locs hP hS
                  subst eQ
                  exact W.vret hx hb hr (fun t ht hW => ⟨⟨((up (up (up σ 11 s11_c23) 10 s10_8) 12 (-1)), (up φ 6 f6_8), γ_8, ψ_8), rfl, ⟨s11_c23, s10_8, f6_8, (-1), rfl, rfl, (show (Int32.toInt (σ 10)) ≤ (Int32.toInt s10_8) ∧ (Int32.toInt s10_8) ≤ (Int32.toInt (σ 10)) + 20004 from (by omega)), (show ∀ i : Nat, i < 300 → (i : Int) < (Int32.toInt s10_8) → Int32.toInt (f6_8 i) < i from (by with_reducible assumption))⟩, (by show va_P _ _ _ _; rw [ht]; exact hP)⟩, hS.F ht⟩) hS.2.2 dX9_readNumber_182
                · have kc_10 := bI_eq rfl L_2 c_10
                  refine lv_aload_n hx hb dX9_readNumber_171 rfl (lv_at hl 1 rfl) ?_
                  refine mg_0_45 (v := (γ_8 12)) hx hb hts hinX9 hown hK hP (hts (.fieldLink RX9 128 "CensusDeskModel" "replaced" "I") (List.mem_of_getElem? (i := 6) rfl)) rfl dX9_readNumber_172 ?_
                  refine lv_goto (tgt := 179) hx hb dX9_readNumber_175 (by decide) ?_
                  refine mp_0_51 (v := (γ_8 12)) hx hb hts hinX9 hown hK hP hI hS (hts (.fieldLink RX9 212 "CensusDeskModel" "value" "I") (List.mem_of_getElem? (i := 1) rfl)) dX9_readNumber_179 ?_
                  clear hP hS; intro H locs hP hS
                  subst eQ
                  exact W.vret hx hb hr (fun t ht hW => ⟨⟨((up (up (up σ 11 s11_c23) 10 s10_8) 12 (γ_8 12)), (up φ 6 f6_8), γ_8, ψ_8), rfl, ⟨s11_c23, s10_8, f6_8, (γ_8 12), rfl, rfl, (show (Int32.toInt (σ 10)) ≤ (Int32.toInt s10_8) ∧ (Int32.toInt s10_8) ≤ (Int32.toInt (σ 10)) + 20004 from (by omega)), (show ∀ i : Nat, i < 300 → (i : Int) < (Int32.toInt s10_8) → Int32.toInt (f6_8 i) < i from (by with_reducible assumption))⟩, (by show va_P _ _ _ _; rw [ht]; exact hP)⟩, hS.F ht⟩) hS.2.2 dX9_readNumber_182
              · have kc_9 := bI_eq rfl L_1 c_9
                refine lv_iload hx hb dX9_readNumber_160 (lv_at hl 4 rfl) ?_
                refine lv_goto (tgt := 179) hx hb dX9_readNumber_162 (by decide) ?_
                refine mp_0_51 (v := v) hx hb hts hinX9 hown hK hP hI hS (hts (.fieldLink RX9 212 "CensusDeskModel" "value" "I") (List.mem_of_getElem? (i := 1) rfl)) dX9_readNumber_179 ?_
                clear hP hS; intro H locs hP hS
                subst eQ
                exact W.vret hx hb hr (fun t ht hW => ⟨⟨((up (up (up σ 11 s11_c23) 10 s10_8) 12 v), (up φ 6 f6_8), γ_8, ψ_8), rfl, ⟨s11_c23, s10_8, f6_8, v, rfl, rfl, (show (Int32.toInt (σ 10)) ≤ (Int32.toInt s10_8) ∧ (Int32.toInt s10_8) ≤ (Int32.toInt (σ 10)) + 20004 from (by omega)), (show ∀ i : Nat, i < 300 → (i : Int) < (Int32.toInt s10_8) → Int32.toInt (f6_8 i) < i from (by with_reducible assumption))⟩, (by show va_P _ _ _ _; rw [ht]; exact hP)⟩, hS.F ht⟩) hS.2.2 dX9_readNumber_182
          · have kc_6 := bI_nle rfl rfl c_6
            refine lv_aload_n hx hb dX9_readNumber_87 rfl (lv_at hl 0 rfl) ?_
            refine lv_iconst (v := 4) hx hb dX9_readNumber_88 (by decide) ?_
            refine lv_aload_n hx hb dX9_readNumber_89 rfl (lv_at hl 0 rfl) ?_
            refine mg_0_50 (v := (γ 14)) hx hb hts hinX9 hown hK hP (hts (.fieldLink RX9 200 "CensusDeskModel" "cellAt" "I") (List.mem_of_getElem? (i := 5) rfl)) rfl dX9_readNumber_90 ?_
            refine lv_iconst (v := (-1)) hx hb dX9_readNumber_93 (by decide) ?_
            refine m_calli (va_runV (As := [.int 4, .int (γ 14), .int (-1)]) (rest := []) ⟨hx, hb, hml, hown, hts⟩ (c_X9_failField l dC dI a κ (up (up (up σ 11 s11_c23) 10 s10_c23) 12 s12_c23) (up φ 6 f6_c23) γ ψ 4 (γ 14) (-1) (show 1 ≤ (Int32.toInt 4) ∧ (Int32.toInt 4) ≤ 21 from (by have := L_4; omega)) (show (Int32.toInt (-1)) < (Int32.toInt s10_c23) from (by have := L_m1; omega)) (show 0 ≤ (Int32.toInt s10_c23) ∧ (Int32.toInt s10_c23) ≤ 1999999960 from (by omega)) (show ∀ i : Nat, i < 300 → (i : Int) < (Int32.toInt s10_c23) → Int32.toInt (f6_c23 i) < i from (by with_reducible assumption))) (cwV 3 hts gX9_readNumber_X9_failField rfl rfl rfl ⟨rfl, hd_X9_failField⟩ ⟨Nat.le_of_ble_eq_true rfl, Nat.le_of_ble_eq_true rfl⟩) (mPreV hP hK hI hN hS (va_recv hK hP (ci := 9) (q0 := 0) rfl rfl)) rfl rfl hl.1 rfl (lv_room (Nat.le_of_ble_eq_true rfl)) dX9_readNumber_94 ⟨(by decide +kernel), (by decide +kernel)⟩) hS ?_
            clear hP hS; intro r_11 S_11 F_11 γ_11 ψ_11 H locs hw hP hS
            obtain ⟨s10_11, f6_11, rfl, rfl, (qf_11 : (Int32.toInt s10_c23) ≤ (Int32.toInt s10_11) ∧ (Int32.toInt s10_11) ≤ (Int32.toInt s10_c23) + 4), (qc_11 : ∀ i : Nat, i < 300 → (i : Int) < (Int32.toInt s10_11) → Int32.toInt (f6_11 i) < i)⟩ := hw
            have hLm1_11 := L_m1
            have hL4_11 := L_4
            refine lv_istore (lv' := [(5, .int r_11), (0, .ref (a 0)), (2, .int most), (3, .int digits), (4, .int v)]) hx hb dX9_readNumber_97 hl (by decide) rfl ?_
            clear hl; intro ls hl
            refine lv_aload_n hx hb dX9_readNumber_99 rfl (lv_at hl 1 rfl) ?_
            refine lv_iload hx hb dX9_readNumber_100 (lv_at hl 0 rfl) ?_
            refine lv_iconst (v := 1) hx hb dX9_readNumber_102 (by decide) ?_
            refine lv_icmp_ne (tgt := 111) hx hb dX9_readNumber_103 (by decide) (fun c_12 => ?_) (fun c_12 => ?_)
            · have kc_12 := bI_ne rfl L_1 c_12
              refine lv_iload hx hb dX9_readNumber_111 (lv_at hl 0 rfl) ?_
              refine lv_iconst (v := 2) hx hb dX9_readNumber_113 (by decide) ?_
              refine lv_icmp_ne (tgt := 124) hx hb dX9_readNumber_114 (by decide) (fun c_13 => ?_) (fun c_13 => ?_)
              · have kc_13 := bI_ne rfl L_2 c_13
                refine lv_iconst (v := (-1)) hx hb dX9_readNumber_124 (by decide) ?_
                refine mp_0_51 (v := (-1)) hx hb hts hinX9 hown hK hP hI hS (hts (.fieldLink RX9 212 "CensusDeskModel" "value" "I") (List.mem_of_getElem? (i := 1) rfl)) dX9_readNumber_125 ?_
                clear hP hS; intro H locs hP hS
                subst eQ
                exact W.vret hx hb hr (fun t ht hW => ⟨⟨((up (up (up σ 11 s11_c23) 10 s10_11) 12 (-1)), (up φ 6 f6_11), γ_11, ψ_11), rfl, ⟨s11_c23, s10_11, f6_11, (-1), rfl, rfl, (show (Int32.toInt (σ 10)) ≤ (Int32.toInt s10_11) ∧ (Int32.toInt s10_11) ≤ (Int32.toInt (σ 10)) + 20004 from (by omega)), (show ∀ i : Nat, i < 300 → (i : Int) < (Int32.toInt s10_11) → Int32.toInt (f6_11 i) < i from (by with_reducible assumption))⟩, (by show va_P _ _ _ _; rw [ht]; exact hP)⟩, hS.F ht⟩) hS.2.2 dX9_readNumber_128
              · have kc_13 := bI_eq rfl L_2 c_13
                refine lv_aload_n hx hb dX9_readNumber_117 rfl (lv_at hl 1 rfl) ?_
                refine mg_0_45 (v := (γ_11 12)) hx hb hts hinX9 hown hK hP (hts (.fieldLink RX9 128 "CensusDeskModel" "replaced" "I") (List.mem_of_getElem? (i := 6) rfl)) rfl dX9_readNumber_118 ?_
                refine lv_goto (tgt := 125) hx hb dX9_readNumber_121 (by decide) ?_
                refine mp_0_51 (v := (γ_11 12)) hx hb hts hinX9 hown hK hP hI hS (hts (.fieldLink RX9 212 "CensusDeskModel" "value" "I") (List.mem_of_getElem? (i := 1) rfl)) dX9_readNumber_125 ?_
                clear hP hS; intro H locs hP hS
                subst eQ
                exact W.vret hx hb hr (fun t ht hW => ⟨⟨((up (up (up σ 11 s11_c23) 10 s10_11) 12 (γ_11 12)), (up φ 6 f6_11), γ_11, ψ_11), rfl, ⟨s11_c23, s10_11, f6_11, (γ_11 12), rfl, rfl, (show (Int32.toInt (σ 10)) ≤ (Int32.toInt s10_11) ∧ (Int32.toInt s10_11) ≤ (Int32.toInt (σ 10)) + 20004 from (by omega)), (show ∀ i : Nat, i < 300 → (i : Int) < (Int32.toInt s10_11) → Int32.toInt (f6_11 i) < i from (by with_reducible assumption))⟩, (by show va_P _ _ _ _; rw [ht]; exact hP)⟩, hS.F ht⟩) hS.2.2 dX9_readNumber_128
            · have kc_12 := bI_eq rfl L_1 c_12
              refine lv_iload hx hb dX9_readNumber_106 (lv_at hl 4 rfl) ?_
              refine lv_goto (tgt := 125) hx hb dX9_readNumber_108 (by decide) ?_
              refine mp_0_51 (v := v) hx hb hts hinX9 hown hK hP hI hS (hts (.fieldLink RX9 212 "CensusDeskModel" "value" "I") (List.mem_of_getElem? (i := 1) rfl)) dX9_readNumber_125 ?_
              clear hP hS; intro H locs hP hS
              subst eQ
              exact W.vret hx hb hr (fun t ht hW => ⟨⟨((up (up (up σ 11 s11_c23) 10 s10_11) 12 v), (up φ 6 f6_11), γ_11, ψ_11), rfl, ⟨s11_c23, s10_11, f6_11, v, rfl, rfl, (show (Int32.toInt (σ 10)) ≤ (Int32.toInt s10_11) ∧ (Int32.toInt s10_11) ≤ (Int32.toInt (σ 10)) + 20004 from (by omega)), (show ∀ i : Nat, i < 300 → (i : Int) < (Int32.toInt s10_11) → Int32.toInt (f6_11 i) < i from (by with_reducible assumption))⟩, (by show va_P _ _ _ _; rw [ht]; exact hP)⟩, hS.F ht⟩) hS.2.2 dX9_readNumber_128
      · have kc_1 := bI_nle rfl rfl c_1
        refine lv_aload_n hx hb dX9_readNumber_31 rfl (lv_at hl 0 rfl) ?_
        refine mg_0_46 hx hb hts hinX9 hown hK hP (hts (.fieldLink RX9 74 "CensusDeskModel" "sign" "[I") (List.mem_of_getElem? (i := 4) rfl)) dX9_readNumber_32 ?_
        refine lv_iload_n hx hb dX9_readNumber_35 rfl (lv_at hl 2 rfl) ?_
        refine ml_22 (f := (ψ 14)) hx hb hK hP (i := digits) (vin rfl (by omega)) rfl dX9_readNumber_36 ?_
        refine lv_topi (fun z_14 ez_14 => ?_)
        refine m_calli (va_runS (As := [.int z_14]) (rest := []) ⟨hx, hb, hml, hown, hts⟩ (c_X9_isDigit l dC dI a κ (up (up (up σ 11 s11_c23) 10 s10_c23) 12 s12_c23) (up φ 6 f6_c23) γ ψ z_14 ) (va_cwS 1 hts gX9_readNumber_X9_isDigit rfl rfl rfl hd_X9_isDigit ⟨Nat.le_of_ble_eq_true rfl, Nat.le_of_ble_eq_true rfl⟩) (mPreS hP hK hI hN hS) rfl rfl hl.1 rfl (lv_room (Nat.le_of_ble_eq_true rfl)) dX9_readNumber_37 ⟨(by decide +kernel), (by decide +kernel)⟩) hS ?_
        clear hP hS; intro r_15 S_15 F_15 γ_15 ψ_15 H locs hw hP hS
        obtain ⟨rfl, rfl, -⟩ := hw
        refine lv_if_eq (tgt := 72) hx hb dX9_readNumber_40 (by decide) (fun c_16 => ?_) (fun c_16 => ?_)
        · have kc_16 := bI_eq rfl L_0 c_16
          refine lv_aload_n hx hb dX9_readNumber_72 rfl (lv_at hl 0 rfl) ?_
          refine mg_0_48 (v := s11_c23) hx hb hts hinX9 hown hK hP (hts (.fieldLink RX9 191 "CensusDeskModel" "signs" "I") (List.mem_of_getElem? (i := 3) rfl)) rfl dX9_readNumber_73 ?_
          refine lv_if_eq (tgt := 87) hx hb dX9_readNumber_76 (by decide) (fun c_17 => ?_) (fun c_17 => ?_)
          · have kc_17 := bI_eq rfl L_0 c_17
            refine lv_aload_n hx hb dX9_readNumber_87 rfl (lv_at hl 0 rfl) ?_
            refine lv_iconst (v := 4) hx hb dX9_readNumber_88 (by decide) ?_
            refine lv_aload_n hx hb dX9_readNumber_89 rfl (lv_at hl 0 rfl) ?_
            refine mg_0_50 (v := (γ_15 14)) hx hb hts hinX9 hown hK hP (hts (.fieldLink RX9 200 "CensusDeskModel" "cellAt" "I") (List.mem_of_getElem? (i := 5) rfl)) rfl dX9_readNumber_90 ?_
            refine lv_iconst (v := (-1)) hx hb dX9_readNumber_93 (by decide) ?_
            refine m_calli (va_runV (As := [.int 4, .int (γ_15 14), .int (-1)]) (rest := []) ⟨hx, hb, hml, hown, hts⟩ (c_X9_failField l dC dI a κ (up (up (up σ 11 s11_c23) 10 s10_c23) 12 s12_c23) (up φ 6 f6_c23) γ_15 ψ_15 4 (γ_15 14) (-1) (show 1 ≤ (Int32.toInt 4) ∧ (Int32.toInt 4) ≤ 21 from (by have := L_4; omega)) (show (Int32.toInt (-1)) < (Int32.toInt s10_c23) from (by have := L_m1; omega)) (show 0 ≤ (Int32.toInt s10_c23) ∧ (Int32.toInt s10_c23) ≤ 1999999960 from (by omega)) (show ∀ i : Nat, i < 300 → (i : Int) < (Int32.toInt s10_c23) → Int32.toInt (f6_c23 i) < i from (by with_reducible assumption))) (cwV 3 hts gX9_readNumber_X9_failField rfl rfl rfl ⟨rfl, hd_X9_failField⟩ ⟨Nat.le_of_ble_eq_true rfl, Nat.le_of_ble_eq_true rfl⟩) (mPreV hP hK hI hN hS (va_recv hK hP (ci := 9) (q0 := 0) rfl rfl)) rfl rfl hl.1 rfl (lv_room (Nat.le_of_ble_eq_true rfl)) dX9_readNumber_94 ⟨(by decide +kernel), (by decide +kernel)⟩) hS ?_
            clear hP hS; intro r_18 S_18 F_18 γ_18 ψ_18 H locs hw hP hS
            obtain ⟨s10_18, f6_18, rfl, rfl, (qf_18 : (Int32.toInt s10_c23) ≤ (Int32.toInt s10_18) ∧ (Int32.toInt s10_18) ≤ (Int32.toInt s10_c23) + 4), (qc_18 : ∀ i : Nat, i < 300 → (i : Int) < (Int32.toInt s10_18) → Int32.toInt (f6_18 i) < i)⟩ := hw
            have hLm1_18 := L_m1
            have hL4_18 := L_4
            refine lv_istore (lv' := [(5, .int r_18), (0, .ref (a 0)), (2, .int most), (3, .int digits), (4, .int v)]) hx hb dX9_readNumber_97 hl (by decide) rfl ?_
            clear hl; intro ls hl
            refine lv_aload_n hx hb dX9_readNumber_99 rfl (lv_at hl 1 rfl) ?_
            refine lv_iload hx hb dX9_readNumber_100 (lv_at hl 0 rfl) ?_
            refine lv_iconst (v := 1) hx hb dX9_readNumber_102 (by decide) ?_
            refine lv_icmp_ne (tgt := 111) hx hb dX9_readNumber_103 (by decide) (fun c_19 => ?_) (fun c_19 => ?_)
            · have kc_19 := bI_ne rfl L_1 c_19
              refine lv_iload hx hb dX9_readNumber_111 (lv_at hl 0 rfl) ?_
              refine lv_iconst (v := 2) hx hb dX9_readNumber_113 (by decide) ?_
              refine lv_icmp_ne (tgt := 124) hx hb dX9_readNumber_114 (by decide) (fun c_20 => ?_) (fun c_20 => ?_)
              · have kc_20 := bI_ne rfl L_2 c_20
                refine lv_iconst (v := (-1)) hx hb dX9_readNumber_124 (by decide) ?_
                refine mp_0_51 (v := (-1)) hx hb hts hinX9 hown hK hP hI hS (hts (.fieldLink RX9 212 "CensusDeskModel" "value" "I") (List.mem_of_getElem? (i := 1) rfl)) dX9_readNumber_125 ?_
                clear hP hS; intro H locs hP hS
                subst eQ
                exact W.vret hx hb hr (fun t ht hW => ⟨⟨((up (up (up σ 11 s11_c23) 10 s10_18) 12 (-1)), (up φ 6 f6_18), γ_18, ψ_18), rfl, ⟨s11_c23, s10_18, f6_18, (-1), rfl, rfl, (show (Int32.toInt (σ 10)) ≤ (Int32.toInt s10_18) ∧ (Int32.toInt s10_18) ≤ (Int32.toInt (σ 10)) + 20004 from (by omega)), (show ∀ i : Nat, i < 300 → (i : Int) < (Int32.toInt s10_18) → Int32.toInt (f6_18 i) < i from (by with_reducible assumption))⟩, (by show va_P _ _ _ _; rw [ht]; exact hP)⟩, hS.F ht⟩) hS.2.2 dX9_readNumber_128
              · have kc_20 := bI_eq rfl L_2 c_20
                refine lv_aload_n hx hb dX9_readNumber_117 rfl (lv_at hl 1 rfl) ?_
                refine mg_0_45 (v := (γ_18 12)) hx hb hts hinX9 hown hK hP (hts (.fieldLink RX9 128 "CensusDeskModel" "replaced" "I") (List.mem_of_getElem? (i := 6) rfl)) rfl dX9_readNumber_118 ?_
                refine lv_goto (tgt := 125) hx hb dX9_readNumber_121 (by decide) ?_
                refine mp_0_51 (v := (γ_18 12)) hx hb hts hinX9 hown hK hP hI hS (hts (.fieldLink RX9 212 "CensusDeskModel" "value" "I") (List.mem_of_getElem? (i := 1) rfl)) dX9_readNumber_125 ?_
                clear hP hS; intro H locs hP hS
                subst eQ
                exact W.vret hx hb hr (fun t ht hW => ⟨⟨((up (up (up σ 11 s11_c23) 10 s10_18) 12 (γ_18 12)), (up φ 6 f6_18), γ_18, ψ_18), rfl, ⟨s11_c23, s10_18, f6_18, (γ_18 12), rfl, rfl, (show (Int32.toInt (σ 10)) ≤ (Int32.toInt s10_18) ∧ (Int32.toInt s10_18) ≤ (Int32.toInt (σ 10)) + 20004 from (by omega)), (show ∀ i : Nat, i < 300 → (i : Int) < (Int32.toInt s10_18) → Int32.toInt (f6_18 i) < i from (by with_reducible assumption))⟩, (by show va_P _ _ _ _; rw [ht]; exact hP)⟩, hS.F ht⟩) hS.2.2 dX9_readNumber_128
            · have kc_19 := bI_eq rfl L_1 c_19
              refine lv_iload hx hb dX9_readNumber_106 (lv_at hl 4 rfl) ?_
              refine lv_goto (tgt := 125) hx hb dX9_readNumber_108 (by decide) ?_
              refine mp_0_51 (v := v) hx hb hts hinX9 hown hK hP hI hS (hts (.fieldLink RX9 212 "CensusDeskModel" "value" "I") (List.mem_of_getElem? (i := 1) rfl)) dX9_readNumber_125 ?_
              clear hP hS; intro H locs hP hS
              subst eQ
              exact W.vret hx hb hr (fun t ht hW => ⟨⟨((up (up (up σ 11 s11_c23) 10 s10_18) 12 v), (up φ 6 f6_18), γ_18, ψ_18), rfl, ⟨s11_c23, s10_18, f6_18, v, rfl, rfl, (show (Int32.toInt (σ 10)) ≤ (Int32.toInt s10_18) ∧ (Int32.toInt s10_18) ≤ (Int32.toInt (σ 10)) + 20004 from (by omega)), (show ∀ i : Nat, i < 300 → (i : Int) < (Int32.toInt s10_18) → Int32.toInt (f6_18 i) < i from (by with_reducible assumption))⟩, (by show va_P _ _ _ _; rw [ht]; exact hP)⟩, hS.F ht⟩) hS.2.2 dX9_readNumber_128
          · have kc_17 := bI_ne rfl L_0 c_17
            refine lv_iload_n hx hb dX9_readNumber_79 rfl (lv_at hl 2 rfl) ?_
            refine lv_aload_n hx hb dX9_readNumber_80 rfl (lv_at hl 0 rfl) ?_
            refine mg_0_48 (v := s11_c23) hx hb hts hinX9 hown hK hP (hts (.fieldLink RX9 191 "CensusDeskModel" "signs" "I") (List.mem_of_getElem? (i := 3) rfl)) rfl dX9_readNumber_81 ?_
            refine lv_icmp_ge (tgt := 129) hx hb dX9_readNumber_84 (by decide) (fun c_21 => ?_) (fun c_21 => ?_)
            · have kc_21 := bI_le rfl rfl c_21
              refine lv_aload_n hx hb dX9_readNumber_129 rfl (lv_at hl 0 rfl) ?_
              refine lv_iload hx hb dX9_readNumber_130 (lv_at hl 3 rfl) ?_
              refine mp_0_51 (v := v) hx hb hts hinX9 hown hK hP hI hS (hts (.fieldLink RX9 212 "CensusDeskModel" "value" "I") (List.mem_of_getElem? (i := 1) rfl)) dX9_readNumber_132 ?_
              clear hP hS; intro H locs hP hS
              refine lv_iload hx hb dX9_readNumber_135 (lv_at hl 3 rfl) ?_
              refine lv_iload_n hx hb dX9_readNumber_137 rfl (lv_at hl 1 rfl) ?_
              refine lv_icmp_le (tgt := 182) hx hb dX9_readNumber_138 (by decide) (fun c_22 => ?_) (fun c_22 => ?_)
              · have kc_22 := bI_le rfl rfl c_22
                subst eQ
                exact W.vret hx hb hr (fun t ht hW => ⟨⟨((up (up (up σ 11 s11_c23) 10 s10_c23) 12 v), (up φ 6 f6_c23), γ_15, ψ_15), rfl, ⟨s11_c23, s10_c23, f6_c23, v, rfl, rfl, (show (Int32.toInt (σ 10)) ≤ (Int32.toInt s10_c23) ∧ (Int32.toInt s10_c23) ≤ (Int32.toInt (σ 10)) + 20004 from (by omega)), (show ∀ i : Nat, i < 300 → (i : Int) < (Int32.toInt s10_c23) → Int32.toInt (f6_c23 i) < i from (by with_reducible assumption))⟩, (by show va_P _ _ _ _; rw [ht]; exact hP)⟩, hS.F ht⟩) hS.2.2 dX9_readNumber_182
              · have kc_22 := bI_nle rfl rfl c_22
                refine lv_aload_n hx hb dX9_readNumber_141 rfl (lv_at hl 0 rfl) ?_
                refine lv_iconst (v := 5) hx hb dX9_readNumber_142 (by decide) ?_
                refine lv_aload_n hx hb dX9_readNumber_143 rfl (lv_at hl 0 rfl) ?_
                refine mg_0_50 (v := (γ_15 14)) hx hb hts hinX9 hown hK hP (hts (.fieldLink RX9 200 "CensusDeskModel" "cellAt" "I") (List.mem_of_getElem? (i := 5) rfl)) rfl dX9_readNumber_144 ?_
                refine lv_iconst (v := (-1)) hx hb dX9_readNumber_147 (by decide) ?_
                refine m_calli (va_runV (As := [.int 5, .int (γ_15 14), .int (-1)]) (rest := []) ⟨hx, hb, hml, hown, hts⟩ (c_X9_failField l dC dI a κ (up (up (up (up σ 11 s11_c23) 10 s10_c23) 12 s12_c23) 12 v) (up φ 6 f6_c23) γ_15 ψ_15 5 (γ_15 14) (-1) (show 1 ≤ (Int32.toInt 5) ∧ (Int32.toInt 5) ≤ 21 from (by have := L_5; omega)) (show (Int32.toInt (-1)) < (Int32.toInt s10_c23) from (by have := L_m1; omega)) (show 0 ≤ (Int32.toInt s10_c23) ∧ (Int32.toInt s10_c23) ≤ 1999999960 from (by omega)) (show ∀ i : Nat, i < 300 → (i : Int) < (Int32.toInt s10_c23) → Int32.toInt (f6_c23 i) < i from (by with_reducible assumption))) (cwV 3 hts gX9_readNumber_X9_failField rfl rfl rfl ⟨rfl, hd_X9_failField⟩ ⟨Nat.le_of_ble_eq_true rfl, Nat.le_of_ble_eq_true rfl⟩) (mPreV hP hK hI hN hS (va_recv hK hP (ci := 9) (q0 := 0) rfl rfl)) rfl rfl hl.1 rfl (lv_room (Nat.le_of_ble_eq_true rfl)) dX9_readNumber_148 ⟨(by decide +kernel), (by decide +kernel)⟩) hS ?_
                clear hP hS; intro r_23 S_23 F_23 γ_23 ψ_23 H locs hw hP hS
                obtain ⟨s10_23, f6_23, rfl, rfl, (qf_23 : (Int32.toInt s10_c23) ≤ (Int32.toInt s10_23) ∧ (Int32.toInt s10_23) ≤ (Int32.toInt s10_c23) + 4), (qc_23 : ∀ i : Nat, i < 300 → (i : Int) < (Int32.toInt s10_23) → Int32.toInt (f6_23 i) < i)⟩ := hw
                have hLm1_23 := L_m1
                have hL5_23 := L_5
                refine lv_istore (lv' := [(5, .int r_23), (0, .ref (a 0)), (2, .int most), (3, .int digits), (4, .int v)]) hx hb dX9_readNumber_151 hl (by decide) rfl ?_
                clear hl; intro ls hl
                refine lv_aload_n hx hb dX9_readNumber_153 rfl (lv_at hl 1 rfl) ?_
                refine lv_iload hx hb dX9_readNumber_154 (lv_at hl 0 rfl) ?_
                refine lv_iconst (v := 1) hx hb dX9_readNumber_156 (by decide) ?_
                refine lv_icmp_ne (tgt := 165) hx hb dX9_readNumber_157 (by decide) (fun c_24 => ?_) (fun c_24 => ?_)
                · have kc_24 := bI_ne rfl L_1 c_24
                  refine lv_iload hx hb dX9_readNumber_165 (lv_at hl 0 rfl) ?_
                  refine lv_iconst (v := 2) hx hb dX9_readNumber_167 (by decide) ?_
                  refine lv_icmp_ne (tgt := 178) hx hb dX9_readNumber_168 (by decide) (fun c_25 => ?_) (fun c_25 => ?_)
                  · have kc_25 := bI_ne rfl L_2 c_25
                    refine lv_iconst (v := (-1)) hx hb dX9_readNumber_178 (by decide) ?_
                    refine mp_0_51 (v := (-1)) hx hb hts hinX9 hown hK hP hI hS (hts (.fieldLink RX9 212 "CensusDeskModel" "value" "I") (List.mem_of_getElem? (i := 1) rfl)) dX9_readNumber_179 ?_
                    clear hP hS; intro H locs hP hS
                    subst eQ
                    exact W.vret hx hb hr (fun t ht hW => ⟨⟨((up (up (up σ 11 s11_c23) 10 s10_23) 12 (-1)), (up φ 6 f6_23), γ_23, ψ_23), rfl, ⟨s11_c23, s10_23, f6_23, (-1), rfl, rfl, (show (Int32.toInt (σ 10)) ≤ (Int32.toInt s10_23) ∧ (Int32.toInt s10_23) ≤ (Int32.toInt (σ 10)) + 20004 from (by omega)), (show ∀ i : Nat, i < 300 → (i : Int) < (Int32.toInt s10_23) → Int32.toInt (f6_23 i) < i from (by with_reducible assumption))⟩, (by show va_P _ _ _ _; rw [ht]; exact hP)⟩, hS.F ht⟩) hS.2.2 dX9_readNumber_182
                  · have kc_25 := bI_eq rfl L_2 c_25
                    refine lv_aload_n hx hb dX9_readNumber_171 rfl (lv_at hl 1 rfl) ?_
                    refine mg_0_45 (v := (γ_23 12)) hx hb hts hinX9 hown hK hP (hts (.fieldLink RX9 128 "CensusDeskModel" "replaced" "I") (List.mem_of_getElem? (i := 6) rfl)) rfl dX9_readNumber_172 ?_
                    refine lv_goto (tgt := 179) hx hb dX9_readNumber_175 (by decide) ?_
                    refine mp_0_51 (v := (γ_23 12)) hx hb hts hinX9 hown hK hP hI hS (hts (.fieldLink RX9 212 "CensusDeskModel" "value" "I") (List.mem_of_getElem? (i := 1) rfl)) dX9_readNumber_179 ?_
                    clear hP hS; intro H locs hP hS
                    subst eQ
                    exact W.vret hx hb hr (fun t ht hW => ⟨⟨((up (up (up σ 11 s11_c23) 10 s10_23) 12 (γ_23 12)), (up φ 6 f6_23), γ_23, ψ_23), rfl, ⟨s11_c23, s10_23, f6_23, (γ_23 12), rfl, rfl, (show (Int32.toInt (σ 10)) ≤ (Int32.toInt s10_23) ∧ (Int32.toInt s10_23) ≤ (Int32.toInt (σ 10)) + 20004 from (by omega)), (show ∀ i : Nat, i < 300 → (i : Int) < (Int32.toInt s10_23) → Int32.toInt (f6_23 i) < i from (by with_reducible assumption))⟩, (by show va_P _ _ _ _; rw [ht]; exact hP)⟩, hS.F ht⟩) hS.2.2 dX9_readNumber_182
                · have kc_24 := bI_eq rfl L_1 c_24
                  refine lv_iload hx hb dX9_readNumber_160 (lv_at hl 4 rfl) ?_
                  refine lv_goto (tgt := 179) hx hb dX9_readNumber_162 (by decide) ?_
                  refine mp_0_51 (v := v) hx hb hts hinX9 hown hK hP hI hS (hts (.fieldLink RX9 212 "CensusDeskModel" "value" "I") (List.mem_of_getElem? (i := 1) rfl)) dX9_readNumber_179 ?_
                  clear hP hS; intro H locs hP hS
                  subst eQ
                  exact W.vret hx hb hr (fun t ht hW => ⟨⟨((up (up (up σ 11 s11_c23) 10 s10_23) 12 v), (up φ 6 f6_23), γ_23, ψ_23), rfl, ⟨s11_c23, s10_23, f6_23, v, rfl, rfl, (show (Int32.toInt (σ 10)) ≤ (Int32.toInt s10_23) ∧ (Int32.toInt s10_23) ≤ (Int32.toInt (σ 10)) + 20004 from (by omega)), (show ∀ i : Nat, i < 300 → (i : Int) < (Int32.toInt s10_23) → Int32.toInt (f6_23 i) < i from (by with_reducible assumption))⟩, (by show va_P _ _ _ _; rw [ht]; exact hP)⟩, hS.F ht⟩) hS.2.2 dX9_readNumber_182
            · have kc_21 := bI_nle rfl rfl c_21
              refine lv_aload_n hx hb dX9_readNumber_87 rfl (lv_at hl 0 rfl) ?_
              refine lv_iconst (v := 4) hx hb dX9_readNumber_88 (by decide) ?_
              refine lv_aload_n hx hb dX9_readNumber_89 rfl (lv_at hl 0 rfl) ?_
              refine mg_0_50 (v := (γ_15 14)) hx hb hts hinX9 hown hK hP (hts (.fieldLink RX9 200 "CensusDeskModel" "cellAt" "I") (List.mem_of_getElem? (i := 5) rfl)) rfl dX9_readNumber_90 ?_
              refine lv_iconst (v := (-1)) hx hb dX9_readNumber_93 (by decide) ?_
              refine m_calli (va_runV (As := [.int 4, .int (γ_15 14), .int (-1)]) (rest := []) ⟨hx, hb, hml, hown, hts⟩ (c_X9_failField l dC dI a κ (up (up (up σ 11 s11_c23) 10 s10_c23) 12 s12_c23) (up φ 6 f6_c23) γ_15 ψ_15 4 (γ_15 14) (-1) (show 1 ≤ (Int32.toInt 4) ∧ (Int32.toInt 4) ≤ 21 from (by have := L_4; omega)) (show (Int32.toInt (-1)) < (Int32.toInt s10_c23) from (by have := L_m1; omega)) (show 0 ≤ (Int32.toInt s10_c23) ∧ (Int32.toInt s10_c23) ≤ 1999999960 from (by omega)) (show ∀ i : Nat, i < 300 → (i : Int) < (Int32.toInt s10_c23) → Int32.toInt (f6_c23 i) < i from (by with_reducible assumption))) (cwV 3 hts gX9_readNumber_X9_failField rfl rfl rfl ⟨rfl, hd_X9_failField⟩ ⟨Nat.le_of_ble_eq_true rfl, Nat.le_of_ble_eq_true rfl⟩) (mPreV hP hK hI hN hS (va_recv hK hP (ci := 9) (q0 := 0) rfl rfl)) rfl rfl hl.1 rfl (lv_room (Nat.le_of_ble_eq_true rfl)) dX9_readNumber_94 ⟨(by decide +kernel), (by decide +kernel)⟩) hS ?_
              clear hP hS; intro r_26 S_26 F_26 γ_26 ψ_26 H locs hw hP hS
              obtain ⟨s10_26, f6_26, rfl, rfl, (qf_26 : (Int32.toInt s10_c23) ≤ (Int32.toInt s10_26) ∧ (Int32.toInt s10_26) ≤ (Int32.toInt s10_c23) + 4), (qc_26 : ∀ i : Nat, i < 300 → (i : Int) < (Int32.toInt s10_26) → Int32.toInt (f6_26 i) < i)⟩ := hw
              have hLm1_26 := L_m1
              have hL4_26 := L_4
              refine lv_istore (lv' := [(5, .int r_26), (0, .ref (a 0)), (2, .int most), (3, .int digits), (4, .int v)]) hx hb dX9_readNumber_97 hl (by decide) rfl ?_
              clear hl; intro ls hl
              refine lv_aload_n hx hb dX9_readNumber_99 rfl (lv_at hl 1 rfl) ?_
              refine lv_iload hx hb dX9_readNumber_100 (lv_at hl 0 rfl) ?_
              refine lv_iconst (v := 1) hx hb dX9_readNumber_102 (by decide) ?_
              refine lv_icmp_ne (tgt := 111) hx hb dX9_readNumber_103 (by decide) (fun c_27 => ?_) (fun c_27 => ?_)
              · have kc_27 := bI_ne rfl L_1 c_27
                refine lv_iload hx hb dX9_readNumber_111 (lv_at hl 0 rfl) ?_
                refine lv_iconst (v := 2) hx hb dX9_readNumber_113 (by decide) ?_
                refine lv_icmp_ne (tgt := 124) hx hb dX9_readNumber_114 (by decide) (fun c_28 => ?_) (fun c_28 => ?_)
                · have kc_28 := bI_ne rfl L_2 c_28
                  refine lv_iconst (v := (-1)) hx hb dX9_readNumber_124 (by decide) ?_
                  refine mp_0_51 (v := (-1)) hx hb hts hinX9 hown hK hP hI hS (hts (.fieldLink RX9 212 "CensusDeskModel" "value" "I") (List.mem_of_getElem? (i := 1) rfl)) dX9_readNumber_125 ?_
                  clear hP hS; intro H locs hP hS
                  subst eQ
                  exact W.vret hx hb hr (fun t ht hW => ⟨⟨((up (up (up σ 11 s11_c23) 10 s10_26) 12 (-1)), (up φ 6 f6_26), γ_26, ψ_26), rfl, ⟨s11_c23, s10_26, f6_26, (-1), rfl, rfl, (show (Int32.toInt (σ 10)) ≤ (Int32.toInt s10_26) ∧ (Int32.toInt s10_26) ≤ (Int32.toInt (σ 10)) + 20004 from (by omega)), (show ∀ i : Nat, i < 300 → (i : Int) < (Int32.toInt s10_26) → Int32.toInt (f6_26 i) < i from (by with_reducible assumption))⟩, (by show va_P _ _ _ _; rw [ht]; exact hP)⟩, hS.F ht⟩) hS.2.2 dX9_readNumber_128
                · have kc_28 := bI_eq rfl L_2 c_28
                  refine lv_aload_n hx hb dX9_readNumber_117 rfl (lv_at hl 1 rfl) ?_
                  refine mg_0_45 (v := (γ_26 12)) hx hb hts hinX9 hown hK hP (hts (.fieldLink RX9 128 "CensusDeskModel" "replaced" "I") (List.mem_of_getElem? (i := 6) rfl)) rfl dX9_readNumber_118 ?_
                  refine lv_goto (tgt := 125) hx hb dX9_readNumber_121 (by decide) ?_
                  refine mp_0_51 (v := (γ_26 12)) hx hb hts hinX9 hown hK hP hI hS (hts (.fieldLink RX9 212 "CensusDeskModel" "value" "I") (List.mem_of_getElem? (i := 1) rfl)) dX9_readNumber_125 ?_
                  clear hP hS; intro H locs hP hS
                  subst eQ
                  exact W.vret hx hb hr (fun t ht hW => ⟨⟨((up (up (up σ 11 s11_c23) 10 s10_26) 12 (γ_26 12)), (up φ 6 f6_26), γ_26, ψ_26), rfl, ⟨s11_c23, s10_26, f6_26, (γ_26 12), rfl, rfl, (show (Int32.toInt (σ 10)) ≤ (Int32.toInt s10_26) ∧ (Int32.toInt s10_26) ≤ (Int32.toInt (σ 10)) + 20004 from (by omega)), (show ∀ i : Nat, i < 300 → (i : Int) < (Int32.toInt s10_26) → Int32.toInt (f6_26 i) < i from (by with_reducible assumption))⟩, (by show va_P _ _ _ _; rw [ht]; exact hP)⟩, hS.F ht⟩) hS.2.2 dX9_readNumber_128
              · have kc_27 := bI_eq rfl L_1 c_27
                refine lv_iload hx hb dX9_readNumber_106 (lv_at hl 4 rfl) ?_
                refine lv_goto (tgt := 125) hx hb dX9_readNumber_108 (by decide) ?_
                refine mp_0_51 (v := v) hx hb hts hinX9 hown hK hP hI hS (hts (.fieldLink RX9 212 "CensusDeskModel" "value" "I") (List.mem_of_getElem? (i := 1) rfl)) dX9_readNumber_125 ?_
                clear hP hS; intro H locs hP hS
                subst eQ
                exact W.vret hx hb hr (fun t ht hW => ⟨⟨((up (up (up σ 11 s11_c23) 10 s10_26) 12 v), (up φ 6 f6_26), γ_26, ψ_26), rfl, ⟨s11_c23, s10_26, f6_26, v, rfl, rfl, (show (Int32.toInt (σ 10)) ≤ (Int32.toInt s10_26) ∧ (Int32.toInt s10_26) ≤ (Int32.toInt (σ 10)) + 20004 from (by omega)), (show ∀ i : Nat, i < 300 → (i : Int) < (Int32.toInt s10_26) → Int32.toInt (f6_26 i) < i from (by with_reducible assumption))⟩, (by show va_P _ _ _ _; rw [ht]; exact hP)⟩, hS.F ht⟩) hS.2.2 dX9_readNumber_128
        · have kc_16 := bI_ne rfl L_0 c_16
          refine lv_iload_n hx hb dX9_readNumber_43 rfl (lv_at hl 2 rfl) ?_
          refine lv_bipush (v := 6) hx hb dX9_readNumber_44 (by decide) ?_
          refine lv_icmp_ge (tgt := 72) hx hb dX9_readNumber_46 (by decide) (fun c_29 => ?_) (fun c_29 => ?_)
          · have kc_29 := bI_le L_6 rfl c_29
            refine lv_aload_n hx hb dX9_readNumber_72 rfl (lv_at hl 0 rfl) ?_
            refine mg_0_48 (v := s11_c23) hx hb hts hinX9 hown hK hP (hts (.fieldLink RX9 191 "CensusDeskModel" "signs" "I") (List.mem_of_getElem? (i := 3) rfl)) rfl dX9_readNumber_73 ?_
            refine lv_if_eq (tgt := 87) hx hb dX9_readNumber_76 (by decide) (fun c_30 => ?_) (fun c_30 => ?_)
            · have kc_30 := bI_eq rfl L_0 c_30
              refine lv_aload_n hx hb dX9_readNumber_87 rfl (lv_at hl 0 rfl) ?_
              refine lv_iconst (v := 4) hx hb dX9_readNumber_88 (by decide) ?_
              refine lv_aload_n hx hb dX9_readNumber_89 rfl (lv_at hl 0 rfl) ?_
              refine mg_0_50 (v := (γ_15 14)) hx hb hts hinX9 hown hK hP (hts (.fieldLink RX9 200 "CensusDeskModel" "cellAt" "I") (List.mem_of_getElem? (i := 5) rfl)) rfl dX9_readNumber_90 ?_
              refine lv_iconst (v := (-1)) hx hb dX9_readNumber_93 (by decide) ?_
              refine m_calli (va_runV (As := [.int 4, .int (γ_15 14), .int (-1)]) (rest := []) ⟨hx, hb, hml, hown, hts⟩ (c_X9_failField l dC dI a κ (up (up (up σ 11 s11_c23) 10 s10_c23) 12 s12_c23) (up φ 6 f6_c23) γ_15 ψ_15 4 (γ_15 14) (-1) (show 1 ≤ (Int32.toInt 4) ∧ (Int32.toInt 4) ≤ 21 from (by have := L_4; omega)) (show (Int32.toInt (-1)) < (Int32.toInt s10_c23) from (by have := L_m1; omega)) (show 0 ≤ (Int32.toInt s10_c23) ∧ (Int32.toInt s10_c23) ≤ 1999999960 from (by omega)) (show ∀ i : Nat, i < 300 → (i : Int) < (Int32.toInt s10_c23) → Int32.toInt (f6_c23 i) < i from (by with_reducible assumption))) (cwV 3 hts gX9_readNumber_X9_failField rfl rfl rfl ⟨rfl, hd_X9_failField⟩ ⟨Nat.le_of_ble_eq_true rfl, Nat.le_of_ble_eq_true rfl⟩) (mPreV hP hK hI hN hS (va_recv hK hP (ci := 9) (q0 := 0) rfl rfl)) rfl rfl hl.1 rfl (lv_room (Nat.le_of_ble_eq_true rfl)) dX9_readNumber_94 ⟨(by decide +kernel), (by decide +kernel)⟩) hS ?_
              clear hP hS; intro r_31 S_31 F_31 γ_31 ψ_31 H locs hw hP hS
              obtain ⟨s10_31, f6_31, rfl, rfl, (qf_31 : (Int32.toInt s10_c23) ≤ (Int32.toInt s10_31) ∧ (Int32.toInt s10_31) ≤ (Int32.toInt s10_c23) + 4), (qc_31 : ∀ i : Nat, i < 300 → (i : Int) < (Int32.toInt s10_31) → Int32.toInt (f6_31 i) < i)⟩ := hw
              have hLm1_31 := L_m1
              have hL4_31 := L_4
              refine lv_istore (lv' := [(5, .int r_31), (0, .ref (a 0)), (2, .int most), (3, .int digits), (4, .int v)]) hx hb dX9_readNumber_97 hl (by decide) rfl ?_
              clear hl; intro ls hl
              refine lv_aload_n hx hb dX9_readNumber_99 rfl (lv_at hl 1 rfl) ?_
              refine lv_iload hx hb dX9_readNumber_100 (lv_at hl 0 rfl) ?_
              refine lv_iconst (v := 1) hx hb dX9_readNumber_102 (by decide) ?_
              refine lv_icmp_ne (tgt := 111) hx hb dX9_readNumber_103 (by decide) (fun c_32 => ?_) (fun c_32 => ?_)
              · have kc_32 := bI_ne rfl L_1 c_32
                refine lv_iload hx hb dX9_readNumber_111 (lv_at hl 0 rfl) ?_
                refine lv_iconst (v := 2) hx hb dX9_readNumber_113 (by decide) ?_
                refine lv_icmp_ne (tgt := 124) hx hb dX9_readNumber_114 (by decide) (fun c_33 => ?_) (fun c_33 => ?_)
                · have kc_33 := bI_ne rfl L_2 c_33
                  refine lv_iconst (v := (-1)) hx hb dX9_readNumber_124 (by decide) ?_
                  refine mp_0_51 (v := (-1)) hx hb hts hinX9 hown hK hP hI hS (hts (.fieldLink RX9 212 "CensusDeskModel" "value" "I") (List.mem_of_getElem? (i := 1) rfl)) dX9_readNumber_125 ?_
                  clear hP hS; intro H locs hP hS
                  subst eQ
                  exact W.vret hx hb hr (fun t ht hW => ⟨⟨((up (up (up σ 11 s11_c23) 10 s10_31) 12 (-1)), (up φ 6 f6_31), γ_31, ψ_31), rfl, ⟨s11_c23, s10_31, f6_31, (-1), rfl, rfl, (show (Int32.toInt (σ 10)) ≤ (Int32.toInt s10_31) ∧ (Int32.toInt s10_31) ≤ (Int32.toInt (σ 10)) + 20004 from (by omega)), (show ∀ i : Nat, i < 300 → (i : Int) < (Int32.toInt s10_31) → Int32.toInt (f6_31 i) < i from (by with_reducible assumption))⟩, (by show va_P _ _ _ _; rw [ht]; exact hP)⟩, hS.F ht⟩) hS.2.2 dX9_readNumber_128
                · have kc_33 := bI_eq rfl L_2 c_33
                  refine lv_aload_n hx hb dX9_readNumber_117 rfl (lv_at hl 1 rfl) ?_
                  refine mg_0_45 (v := (γ_31 12)) hx hb hts hinX9 hown hK hP (hts (.fieldLink RX9 128 "CensusDeskModel" "replaced" "I") (List.mem_of_getElem? (i := 6) rfl)) rfl dX9_readNumber_118 ?_
                  refine lv_goto (tgt := 125) hx hb dX9_readNumber_121 (by decide) ?_
                  refine mp_0_51 (v := (γ_31 12)) hx hb hts hinX9 hown hK hP hI hS (hts (.fieldLink RX9 212 "CensusDeskModel" "value" "I") (List.mem_of_getElem? (i := 1) rfl)) dX9_readNumber_125 ?_
                  clear hP hS; intro H locs hP hS
                  subst eQ
                  exact W.vret hx hb hr (fun t ht hW => ⟨⟨((up (up (up σ 11 s11_c23) 10 s10_31) 12 (γ_31 12)), (up φ 6 f6_31), γ_31, ψ_31), rfl, ⟨s11_c23, s10_31, f6_31, (γ_31 12), rfl, rfl, (show (Int32.toInt (σ 10)) ≤ (Int32.toInt s10_31) ∧ (Int32.toInt s10_31) ≤ (Int32.toInt (σ 10)) + 20004 from (by omega)), (show ∀ i : Nat, i < 300 → (i : Int) < (Int32.toInt s10_31) → Int32.toInt (f6_31 i) < i from (by with_reducible assumption))⟩, (by show va_P _ _ _ _; rw [ht]; exact hP)⟩, hS.F ht⟩) hS.2.2 dX9_readNumber_128
              · have kc_32 := bI_eq rfl L_1 c_32
                refine lv_iload hx hb dX9_readNumber_106 (lv_at hl 4 rfl) ?_
                refine lv_goto (tgt := 125) hx hb dX9_readNumber_108 (by decide) ?_
                refine mp_0_51 (v := v) hx hb hts hinX9 hown hK hP hI hS (hts (.fieldLink RX9 212 "CensusDeskModel" "value" "I") (List.mem_of_getElem? (i := 1) rfl)) dX9_readNumber_125 ?_
                clear hP hS; intro H locs hP hS
                subst eQ
                exact W.vret hx hb hr (fun t ht hW => ⟨⟨((up (up (up σ 11 s11_c23) 10 s10_31) 12 v), (up φ 6 f6_31), γ_31, ψ_31), rfl, ⟨s11_c23, s10_31, f6_31, v, rfl, rfl, (show (Int32.toInt (σ 10)) ≤ (Int32.toInt s10_31) ∧ (Int32.toInt s10_31) ≤ (Int32.toInt (σ 10)) + 20004 from (by omega)), (show ∀ i : Nat, i < 300 → (i : Int) < (Int32.toInt s10_31) → Int32.toInt (f6_31 i) < i from (by with_reducible assumption))⟩, (by show va_P _ _ _ _; rw [ht]; exact hP)⟩, hS.F ht⟩) hS.2.2 dX9_readNumber_128
            · have kc_30 := bI_ne rfl L_0 c_30
              refine lv_iload_n hx hb dX9_readNumber_79 rfl (lv_at hl 2 rfl) ?_
              refine lv_aload_n hx hb dX9_readNumber_80 rfl (lv_at hl 0 rfl) ?_
              refine mg_0_48 (v := s11_c23) hx hb hts hinX9 hown hK hP (hts (.fieldLink RX9 191 "CensusDeskModel" "signs" "I") (List.mem_of_getElem? (i := 3) rfl)) rfl dX9_readNumber_81 ?_
              refine lv_icmp_ge (tgt := 129) hx hb dX9_readNumber_84 (by decide) (fun c_34 => ?_) (fun c_34 => ?_)
              · have kc_34 := bI_le rfl rfl c_34
                refine lv_aload_n hx hb dX9_readNumber_129 rfl (lv_at hl 0 rfl) ?_
                refine lv_iload hx hb dX9_readNumber_130 (lv_at hl 3 rfl) ?_
                refine mp_0_51 (v := v) hx hb hts hinX9 hown hK hP hI hS (hts (.fieldLink RX9 212 "CensusDeskModel" "value" "I") (List.mem_of_getElem? (i := 1) rfl)) dX9_readNumber_132 ?_
                clear hP hS; intro H locs hP hS
                refine lv_iload hx hb dX9_readNumber_135 (lv_at hl 3 rfl) ?_
                refine lv_iload_n hx hb dX9_readNumber_137 rfl (lv_at hl 1 rfl) ?_
                refine lv_icmp_le (tgt := 182) hx hb dX9_readNumber_138 (by decide) (fun c_35 => ?_) (fun c_35 => ?_)
                · have kc_35 := bI_le rfl rfl c_35
                  subst eQ
                  exact W.vret hx hb hr (fun t ht hW => ⟨⟨((up (up (up σ 11 s11_c23) 10 s10_c23) 12 v), (up φ 6 f6_c23), γ_15, ψ_15), rfl, ⟨s11_c23, s10_c23, f6_c23, v, rfl, rfl, (show (Int32.toInt (σ 10)) ≤ (Int32.toInt s10_c23) ∧ (Int32.toInt s10_c23) ≤ (Int32.toInt (σ 10)) + 20004 from (by omega)), (show ∀ i : Nat, i < 300 → (i : Int) < (Int32.toInt s10_c23) → Int32.toInt (f6_c23 i) < i from (by with_reducible assumption))⟩, (by show va_P _ _ _ _; rw [ht]; exact hP)⟩, hS.F ht⟩) hS.2.2 dX9_readNumber_182
                · have kc_35 := bI_nle rfl rfl c_35
                  refine lv_aload_n hx hb dX9_readNumber_141 rfl (lv_at hl 0 rfl) ?_
                  refine lv_iconst (v := 5) hx hb dX9_readNumber_142 (by decide) ?_
                  refine lv_aload_n hx hb dX9_readNumber_143 rfl (lv_at hl 0 rfl) ?_
                  refine mg_0_50 (v := (γ_15 14)) hx hb hts hinX9 hown hK hP (hts (.fieldLink RX9 200 "CensusDeskModel" "cellAt" "I") (List.mem_of_getElem? (i := 5) rfl)) rfl dX9_readNumber_144 ?_
                  refine lv_iconst (v := (-1)) hx hb dX9_readNumber_147 (by decide) ?_
                  refine m_calli (va_runV (As := [.int 5, .int (γ_15 14), .int (-1)]) (rest := []) ⟨hx, hb, hml, hown, hts⟩ (c_X9_failField l dC dI a κ (up (up (up (up σ 11 s11_c23) 10 s10_c23) 12 s12_c23) 12 v) (up φ 6 f6_c23) γ_15 ψ_15 5 (γ_15 14) (-1) (show 1 ≤ (Int32.toInt 5) ∧ (Int32.toInt 5) ≤ 21 from (by have := L_5; omega)) (show (Int32.toInt (-1)) < (Int32.toInt s10_c23) from (by have := L_m1; omega)) (show 0 ≤ (Int32.toInt s10_c23) ∧ (Int32.toInt s10_c23) ≤ 1999999960 from (by omega)) (show ∀ i : Nat, i < 300 → (i : Int) < (Int32.toInt s10_c23) → Int32.toInt (f6_c23 i) < i from (by with_reducible assumption))) (cwV 3 hts gX9_readNumber_X9_failField rfl rfl rfl ⟨rfl, hd_X9_failField⟩ ⟨Nat.le_of_ble_eq_true rfl, Nat.le_of_ble_eq_true rfl⟩) (mPreV hP hK hI hN hS (va_recv hK hP (ci := 9) (q0 := 0) rfl rfl)) rfl rfl hl.1 rfl (lv_room (Nat.le_of_ble_eq_true rfl)) dX9_readNumber_148 ⟨(by decide +kernel), (by decide +kernel)⟩) hS ?_
                  clear hP hS; intro r_36 S_36 F_36 γ_36 ψ_36 H locs hw hP hS
                  obtain ⟨s10_36, f6_36, rfl, rfl, (qf_36 : (Int32.toInt s10_c23) ≤ (Int32.toInt s10_36) ∧ (Int32.toInt s10_36) ≤ (Int32.toInt s10_c23) + 4), (qc_36 : ∀ i : Nat, i < 300 → (i : Int) < (Int32.toInt s10_36) → Int32.toInt (f6_36 i) < i)⟩ := hw
                  have hLm1_36 := L_m1
                  have hL5_36 := L_5
                  refine lv_istore (lv' := [(5, .int r_36), (0, .ref (a 0)), (2, .int most), (3, .int digits), (4, .int v)]) hx hb dX9_readNumber_151 hl (by decide) rfl ?_
                  clear hl; intro ls hl
                  refine lv_aload_n hx hb dX9_readNumber_153 rfl (lv_at hl 1 rfl) ?_
                  refine lv_iload hx hb dX9_readNumber_154 (lv_at hl 0 rfl) ?_
                  refine lv_iconst (v := 1) hx hb dX9_readNumber_156 (by decide) ?_
                  refine lv_icmp_ne (tgt := 165) hx hb dX9_readNumber_157 (by decide) (fun c_37 => ?_) (fun c_37 => ?_)
                  · have kc_37 := bI_ne rfl L_1 c_37
                    refine lv_iload hx hb dX9_readNumber_165 (lv_at hl 0 rfl) ?_
                    refine lv_iconst (v := 2) hx hb dX9_readNumber_167 (by decide) ?_
                    refine lv_icmp_ne (tgt := 178) hx hb dX9_readNumber_168 (by decide) (fun c_38 => ?_) (fun c_38 => ?_)
                    · have kc_38 := bI_ne rfl L_2 c_38
                      refine lv_iconst (v := (-1)) hx hb dX9_readNumber_178 (by decide) ?_
                      refine mp_0_51 (v := (-1)) hx hb hts hinX9 hown hK hP hI hS (hts (.fieldLink RX9 212 "CensusDeskModel" "value" "I") (List.mem_of_getElem? (i := 1) rfl)) dX9_readNumber_179 ?_
                      clear hP hS; intro H locs hP hS
                      subst eQ
                      exact W.vret hx hb hr (fun t ht hW => ⟨⟨((up (up (up σ 11 s11_c23) 10 s10_36) 12 (-1)), (up φ 6 f6_36), γ_36, ψ_36), rfl, ⟨s11_c23, s10_36, f6_36, (-1), rfl, rfl, (show (Int32.toInt (σ 10)) ≤ (Int32.toInt s10_36) ∧ (Int32.toInt s10_36) ≤ (Int32.toInt (σ 10)) + 20004 from (by omega)), (show ∀ i : Nat, i < 300 → (i : Int) < (Int32.toInt s10_36) → Int32.toInt (f6_36 i) < i from (by with_reducible assumption))⟩, (by show va_P _ _ _ _; rw [ht]; exact hP)⟩, hS.F ht⟩) hS.2.2 dX9_readNumber_182
                    · have kc_38 := bI_eq rfl L_2 c_38
                      refine lv_aload_n hx hb dX9_readNumber_171 rfl (lv_at hl 1 rfl) ?_
                      refine mg_0_45 (v := (γ_36 12)) hx hb hts hinX9 hown hK hP (hts (.fieldLink RX9 128 "CensusDeskModel" "replaced" "I") (List.mem_of_getElem? (i := 6) rfl)) rfl dX9_readNumber_172 ?_
                      refine lv_goto (tgt := 179) hx hb dX9_readNumber_175 (by decide) ?_
                      refine mp_0_51 (v := (γ_36 12)) hx hb hts hinX9 hown hK hP hI hS (hts (.fieldLink RX9 212 "CensusDeskModel" "value" "I") (List.mem_of_getElem? (i := 1) rfl)) dX9_readNumber_179 ?_
                      clear hP hS; intro H locs hP hS
                      subst eQ
                      exact W.vret hx hb hr (fun t ht hW => ⟨⟨((up (up (up σ 11 s11_c23) 10 s10_36) 12 (γ_36 12)), (up φ 6 f6_36), γ_36, ψ_36), rfl, ⟨s11_c23, s10_36, f6_36, (γ_36 12), rfl, rfl, (show (Int32.toInt (σ 10)) ≤ (Int32.toInt s10_36) ∧ (Int32.toInt s10_36) ≤ (Int32.toInt (σ 10)) + 20004 from (by omega)), (show ∀ i : Nat, i < 300 → (i : Int) < (Int32.toInt s10_36) → Int32.toInt (f6_36 i) < i from (by with_reducible assumption))⟩, (by show va_P _ _ _ _; rw [ht]; exact hP)⟩, hS.F ht⟩) hS.2.2 dX9_readNumber_182
                  · have kc_37 := bI_eq rfl L_1 c_37
                    refine lv_iload hx hb dX9_readNumber_160 (lv_at hl 4 rfl) ?_
                    refine lv_goto (tgt := 179) hx hb dX9_readNumber_162 (by decide) ?_
                    refine mp_0_51 (v := v) hx hb hts hinX9 hown hK hP hI hS (hts (.fieldLink RX9 212 "CensusDeskModel" "value" "I") (List.mem_of_getElem? (i := 1) rfl)) dX9_readNumber_179 ?_
                    clear hP hS; intro H locs hP hS
                    subst eQ
                    exact W.vret hx hb hr (fun t ht hW => ⟨⟨((up (up (up σ 11 s11_c23) 10 s10_36) 12 v), (up φ 6 f6_36), γ_36, ψ_36), rfl, ⟨s11_c23, s10_36, f6_36, v, rfl, rfl, (show (Int32.toInt (σ 10)) ≤ (Int32.toInt s10_36) ∧ (Int32.toInt s10_36) ≤ (Int32.toInt (σ 10)) + 20004 from (by omega)), (show ∀ i : Nat, i < 300 → (i : Int) < (Int32.toInt s10_36) → Int32.toInt (f6_36 i) < i from (by with_reducible assumption))⟩, (by show va_P _ _ _ _; rw [ht]; exact hP)⟩, hS.F ht⟩) hS.2.2 dX9_readNumber_182
              · have kc_34 := bI_nle rfl rfl c_34
                refine lv_aload_n hx hb dX9_readNumber_87 rfl (lv_at hl 0 rfl) ?_
                refine lv_iconst (v := 4) hx hb dX9_readNumber_88 (by decide) ?_
                refine lv_aload_n hx hb dX9_readNumber_89 rfl (lv_at hl 0 rfl) ?_
                refine mg_0_50 (v := (γ_15 14)) hx hb hts hinX9 hown hK hP (hts (.fieldLink RX9 200 "CensusDeskModel" "cellAt" "I") (List.mem_of_getElem? (i := 5) rfl)) rfl dX9_readNumber_90 ?_
                refine lv_iconst (v := (-1)) hx hb dX9_readNumber_93 (by decide) ?_
                refine m_calli (va_runV (As := [.int 4, .int (γ_15 14), .int (-1)]) (rest := []) ⟨hx, hb, hml, hown, hts⟩ (c_X9_failField l dC dI a κ (up (up (up σ 11 s11_c23) 10 s10_c23) 12 s12_c23) (up φ 6 f6_c23) γ_15 ψ_15 4 (γ_15 14) (-1) (show 1 ≤ (Int32.toInt 4) ∧ (Int32.toInt 4) ≤ 21 from (by have := L_4; omega)) (show (Int32.toInt (-1)) < (Int32.toInt s10_c23) from (by have := L_m1; omega)) (show 0 ≤ (Int32.toInt s10_c23) ∧ (Int32.toInt s10_c23) ≤ 1999999960 from (by omega)) (show ∀ i : Nat, i < 300 → (i : Int) < (Int32.toInt s10_c23) → Int32.toInt (f6_c23 i) < i from (by with_reducible assumption))) (cwV 3 hts gX9_readNumber_X9_failField rfl rfl rfl ⟨rfl, hd_X9_failField⟩ ⟨Nat.le_of_ble_eq_true rfl, Nat.le_of_ble_eq_true rfl⟩) (mPreV hP hK hI hN hS (va_recv hK hP (ci := 9) (q0 := 0) rfl rfl)) rfl rfl hl.1 rfl (lv_room (Nat.le_of_ble_eq_true rfl)) dX9_readNumber_94 ⟨(by decide +kernel), (by decide +kernel)⟩) hS ?_
                clear hP hS; intro r_39 S_39 F_39 γ_39 ψ_39 H locs hw hP hS
                obtain ⟨s10_39, f6_39, rfl, rfl, (qf_39 : (Int32.toInt s10_c23) ≤ (Int32.toInt s10_39) ∧ (Int32.toInt s10_39) ≤ (Int32.toInt s10_c23) + 4), (qc_39 : ∀ i : Nat, i < 300 → (i : Int) < (Int32.toInt s10_39) → Int32.toInt (f6_39 i) < i)⟩ := hw
                have hLm1_39 := L_m1
                have hL4_39 := L_4
                refine lv_istore (lv' := [(5, .int r_39), (0, .ref (a 0)), (2, .int most), (3, .int digits), (4, .int v)]) hx hb dX9_readNumber_97 hl (by decide) rfl ?_
                clear hl; intro ls hl
                refine lv_aload_n hx hb dX9_readNumber_99 rfl (lv_at hl 1 rfl) ?_
                refine lv_iload hx hb dX9_readNumber_100 (lv_at hl 0 rfl) ?_
                refine lv_iconst (v := 1) hx hb dX9_readNumber_102 (by decide) ?_
                refine lv_icmp_ne (tgt := 111) hx hb dX9_readNumber_103 (by decide) (fun c_40 => ?_) (fun c_40 => ?_)
                · have kc_40 := bI_ne rfl L_1 c_40
                  refine lv_iload hx hb dX9_readNumber_111 (lv_at hl 0 rfl) ?_
                  refine lv_iconst (v := 2) hx hb dX9_readNumber_113 (by decide) ?_
                  refine lv_icmp_ne (tgt := 124) hx hb dX9_readNumber_114 (by decide) (fun c_41 => ?_) (fun c_41 => ?_)
                  · have kc_41 := bI_ne rfl L_2 c_41
                    refine lv_iconst (v := (-1)) hx hb dX9_readNumber_124 (by decide) ?_
                    refine mp_0_51 (v := (-1)) hx hb hts hinX9 hown hK hP hI hS (hts (.fieldLink RX9 212 "CensusDeskModel" "value" "I") (List.mem_of_getElem? (i := 1) rfl)) dX9_readNumber_125 ?_
                    clear hP hS; intro H locs hP hS
                    subst eQ
                    exact W.vret hx hb hr (fun t ht hW => ⟨⟨((up (up (up σ 11 s11_c23) 10 s10_39) 12 (-1)), (up φ 6 f6_39), γ_39, ψ_39), rfl, ⟨s11_c23, s10_39, f6_39, (-1), rfl, rfl, (show (Int32.toInt (σ 10)) ≤ (Int32.toInt s10_39) ∧ (Int32.toInt s10_39) ≤ (Int32.toInt (σ 10)) + 20004 from (by omega)), (show ∀ i : Nat, i < 300 → (i : Int) < (Int32.toInt s10_39) → Int32.toInt (f6_39 i) < i from (by with_reducible assumption))⟩, (by show va_P _ _ _ _; rw [ht]; exact hP)⟩, hS.F ht⟩) hS.2.2 dX9_readNumber_128
                  · have kc_41 := bI_eq rfl L_2 c_41
                    refine lv_aload_n hx hb dX9_readNumber_117 rfl (lv_at hl 1 rfl) ?_
                    refine mg_0_45 (v := (γ_39 12)) hx hb hts hinX9 hown hK hP (hts (.fieldLink RX9 128 "CensusDeskModel" "replaced" "I") (List.mem_of_getElem? (i := 6) rfl)) rfl dX9_readNumber_118 ?_
                    refine lv_goto (tgt := 125) hx hb dX9_readNumber_121 (by decide) ?_
                    refine mp_0_51 (v := (γ_39 12)) hx hb hts hinX9 hown hK hP hI hS (hts (.fieldLink RX9 212 "CensusDeskModel" "value" "I") (List.mem_of_getElem? (i := 1) rfl)) dX9_readNumber_125 ?_
                    clear hP hS; intro H locs hP hS
                    subst eQ
                    exact W.vret hx hb hr (fun t ht hW => ⟨⟨((up (up (up σ 11 s11_c23) 10 s10_39) 12 (γ_39 12)), (up φ 6 f6_39), γ_39, ψ_39), rfl, ⟨s11_c23, s10_39, f6_39, (γ_39 12), rfl, rfl, (show (Int32.toInt (σ 10)) ≤ (Int32.toInt s10_39) ∧ (Int32.toInt s10_39) ≤ (Int32.toInt (σ 10)) + 20004 from (by omega)), (show ∀ i : Nat, i < 300 → (i : Int) < (Int32.toInt s10_39) → Int32.toInt (f6_39 i) < i from (by with_reducible assumption))⟩, (by show va_P _ _ _ _; rw [ht]; exact hP)⟩, hS.F ht⟩) hS.2.2 dX9_readNumber_128
                · have kc_40 := bI_eq rfl L_1 c_40
                  refine lv_iload hx hb dX9_readNumber_106 (lv_at hl 4 rfl) ?_
                  refine lv_goto (tgt := 125) hx hb dX9_readNumber_108 (by decide) ?_
                  refine mp_0_51 (v := v) hx hb hts hinX9 hown hK hP hI hS (hts (.fieldLink RX9 212 "CensusDeskModel" "value" "I") (List.mem_of_getElem? (i := 1) rfl)) dX9_readNumber_125 ?_
                  clear hP hS; intro H locs hP hS
                  subst eQ
                  exact W.vret hx hb hr (fun t ht hW => ⟨⟨((up (up (up σ 11 s11_c23) 10 s10_39) 12 v), (up φ 6 f6_39), γ_39, ψ_39), rfl, ⟨s11_c23, s10_39, f6_39, v, rfl, rfl, (show (Int32.toInt (σ 10)) ≤ (Int32.toInt s10_39) ∧ (Int32.toInt s10_39) ≤ (Int32.toInt (σ 10)) + 20004 from (by omega)), (show ∀ i : Nat, i < 300 → (i : Int) < (Int32.toInt s10_39) → Int32.toInt (f6_39 i) < i from (by with_reducible assumption))⟩, (by show va_P _ _ _ _; rw [ht]; exact hP)⟩, hS.F ht⟩) hS.2.2 dX9_readNumber_128
          · have kc_29 := bI_nle L_6 rfl c_29
            refine lv_bipush (v := 10) hx hb dX9_readNumber_49 (by decide) ?_
            refine lv_iload hx hb dX9_readNumber_51 (lv_at hl 3 rfl) ?_
            refine lv_imul hx hb dX9_readNumber_53 ?_
            refine lv_topi (fun z_42 ez_42 => ?_)
            refine lv_aload_n hx hb dX9_readNumber_54 rfl (lv_at hl 0 rfl) ?_
            refine mg_0_46 hx hb hts hinX9 hown hK hP (hts (.fieldLink RX9 74 "CensusDeskModel" "sign" "[I") (List.mem_of_getElem? (i := 4) rfl)) dX9_readNumber_55 ?_
            refine lv_iload_n hx hb dX9_readNumber_58 rfl (lv_at hl 2 rfl) ?_
            refine ml_22 (f := (ψ_15 14)) hx hb hK hP (i := digits) (vin rfl (by omega)) rfl dX9_readNumber_59 ?_
            refine lv_topi (fun z_43 ez_43 => ?_)
            refine lv_iadd hx hb dX9_readNumber_60 ?_
            refine lv_topi (fun z_44 ez_44 => ?_)
            refine lv_bipush (v := 48) hx hb dX9_readNumber_61 (by decide) ?_
            refine lv_isub hx hb dX9_readNumber_63 ?_
            refine lv_topi (fun z_45 ez_45 => ?_)
            refine lv_istore (lv' := [(4, .int z_45), (0, .ref (a 0)), (2, .int most), (3, .int digits)]) hx hb dX9_readNumber_64 hl (by decide) rfl ?_
            clear hl; intro ls hl
            obtain ⟨i_46, ei_46⟩ : ∃ z : Int32, z = digits + 1 := ⟨_, rfl⟩
            refine lv_iinc (v := i_46) (lv' := [(3, .int i_46), (4, .int z_45), (0, .ref (a 0)), (2, .int most)]) hx hb dX9_readNumber_66 hl (k := 3) rfl (by rw [ei_46]; rfl) (by decide) rfl ?_
            clear hl; intro ls hl
            have ti_46 : (Int32.toInt i_46) = (Int32.toInt digits) + 1 := aI_add rfl L_1 ei_46 (by have := rng digits; have := rng s11_c23; omega)
            refine lv_goto (tgt := 23) hx hb dX9_readNumber_69 (by decide) ?_
            exact ih23 i_46 z_45 s11_c23 s10_c23 f6_c23 s12_c23 γ_15 ψ_15 _ _ _ (show 0 ≤ (Int32.toInt i_46) from (by omega)) (show 0 ≤ (Int32.toInt s11_c23) ∧ (Int32.toInt s11_c23) ≤ (Int32.toInt (σ 6)) - (Int32.toInt (σ 5)) from (by omega)) (show (Int32.toInt (σ 10)) ≤ (Int32.toInt s10_c23) ∧ (Int32.toInt s10_c23) ≤ (Int32.toInt (σ 10)) + 20000 from (by omega)) (show ∀ i : Nat, i < 300 → (i : Int) < (Int32.toInt s10_c23) → Int32.toInt (f6_c23 i) < i from (by with_reducible assumption)) (by omega) hP hS (lv_sub hl [2, 3, 0, 1] rfl)
  refine lv_aload_n hx hb dX9_readNumber_0 rfl (lv_at hl 0 rfl) ?_
  refine lv_iload_n hx hb dX9_readNumber_1 rfl (lv_at hl 1 rfl) ?_
  refine m_callv (va_runV (As := [.int k]) (rest := []) ⟨hx, hb, hml, hown, hts⟩ (c_X9_readCell l dC dI a κ σ φ γ ψ k (show 0 ≤ (Int32.toInt (σ 5)) ∧ (Int32.toInt (σ 5)) ≤ (Int32.toInt (σ 6)) ∧ (Int32.toInt (σ 6)) ≤ 4000 from (by omega)) (show 0 ≤ (Int32.toInt (σ 10)) ∧ (Int32.toInt (σ 10)) ≤ 1500000000 from (by omega)) (show ∀ i : Nat, i < 300 → (i : Int) < (Int32.toInt (σ 10)) → Int32.toInt ((φ 6) i) < i from (by with_reducible assumption))) (cwV 1 hts gX9_readNumber_X9_readCell rfl rfl rfl ⟨rfl, hd_X9_readCell⟩ ⟨Nat.le_of_ble_eq_true rfl, Nat.le_of_ble_eq_true rfl⟩) (mPreV hP hK hI hN hS (va_recv hK hP (ci := 9) (q0 := 0) rfl rfl)) rfl rfl hl.1 rfl (lv_room (Nat.le_of_ble_eq_true rfl)) dX9_readNumber_2 ⟨(by decide +kernel), (by decide +kernel)⟩) hS ?_
  clear hP hS; intro S_47 F_47 γ_47 ψ_47 H locs hw hP hS
  obtain ⟨s11_47, s10_47, f6_47, rfl, rfl, (qf_47 : (Int32.toInt (σ 10)) ≤ (Int32.toInt s10_47) ∧ (Int32.toInt s10_47) ≤ (Int32.toInt (σ 10)) + 20000), (qc_47 : ∀ i : Nat, i < 300 → (i : Int) < (Int32.toInt s10_47) → Int32.toInt (f6_47 i) < i), (qs_47 : 0 ≤ (Int32.toInt s11_47) ∧ (Int32.toInt s11_47) ≤ (Int32.toInt (σ 6)) - (Int32.toInt (σ 5)))⟩ := hw
  refine lv_aload_n hx hb dX9_readNumber_5 rfl (lv_at hl 0 rfl) ?_
  refine lv_iconst (v := (-1)) hx hb dX9_readNumber_6 (by decide) ?_
  refine mp_0_51 (v := (-1)) hx hb hts hinX9 hown hK hP hI hS (hts (.fieldLink RX9 212 "CensusDeskModel" "value" "I") (List.mem_of_getElem? (i := 1) rfl)) dX9_readNumber_7 ?_
  clear hP hS; intro H locs hP hS
  refine lv_aload_n hx hb dX9_readNumber_10 rfl (lv_at hl 0 rfl) ?_
  refine mg_0_21 (v := (γ_47 10)) hx hb hts hinX9 hown hK hP (hts (.fieldLink RX9 184 "CensusDeskModel" "fieldLost" "Z") (List.mem_of_getElem? (i := 2) rfl)) rfl dX9_readNumber_11 ?_
  refine lv_if_eq (tgt := 18) hx hb dX9_readNumber_14 (by decide) (fun c_48 => ?_) (fun c_48 => ?_)
  · have kc_48 := bI_eq rfl L_0 c_48
    refine lv_iconst (v := 0) hx hb dX9_readNumber_18 (by decide) ?_
    refine lv_istore_n (lv' := [(3, .int 0), (0, .ref (a 0)), (1, .int k), (2, .int most)]) hx hb dX9_readNumber_19 rfl hl (by decide) rfl ?_
    clear hl; intro ls hl
    refine lv_iconst (v := 0) hx hb dX9_readNumber_20 (by decide) ?_
    refine lv_istore (lv' := [(4, .int 0), (3, .int 0), (0, .ref (a 0)), (1, .int k), (2, .int most)]) hx hb dX9_readNumber_21 hl (by decide) rfl ?_
    clear hl; intro ls hl
    exact J23 (_ + 1) 0 0 s11_47 s10_47 f6_47 (-1) γ_47 ψ_47 _ _ _ (show 0 ≤ (Int32.toInt 0) from (by have := L_0; omega)) (show 0 ≤ (Int32.toInt s11_47) ∧ (Int32.toInt s11_47) ≤ (Int32.toInt (σ 6)) - (Int32.toInt (σ 5)) from (by omega)) (show (Int32.toInt (σ 10)) ≤ (Int32.toInt s10_47) ∧ (Int32.toInt s10_47) ≤ (Int32.toInt (σ 10)) + 20000 from (by omega)) (show ∀ i : Nat, i < 300 → (i : Int) < (Int32.toInt s10_47) → Int32.toInt (f6_47 i) < i from (by with_reducible assumption)) (Nat.lt_succ_self _) hP hS (lv_sub hl [2, 4, 1, 0] rfl)
  · have kc_48 := bI_ne rfl L_0 c_48
    subst eQ
    exact W.vret hx hb hr (fun t ht hW => ⟨⟨((up (up (up σ 11 s11_47) 10 s10_47) 12 (-1)), (up φ 6 f6_47), γ_47, ψ_47), rfl, ⟨s11_47, s10_47, f6_47, (-1), rfl, rfl, (show (Int32.toInt (σ 10)) ≤ (Int32.toInt s10_47) ∧ (Int32.toInt s10_47) ≤ (Int32.toInt (σ 10)) + 20004 from (by omega)), (show ∀ i : Nat, i < 300 → (i : Int) < (Int32.toInt s10_47) → Int32.toInt (f6_47 i) < i from (by with_reducible assumption))⟩, (by show va_P _ _ _ _; rw [ht]; exact hP)⟩, hS.F ht⟩) hS.2.2 dX9_readNumber_17
