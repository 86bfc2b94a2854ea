set_option maxHeartbeats 4000000 in
set_option maxRecDepth 100000 in
theorem c_X9_readCell (l : Launch) (dC : Nat → ClassId) (dI : Nat → Nat → Nat) (a : Nat → Nat) (κ : Nat → ClassId) (σ : Nat → Int32) (φ : Nat → Nat → Int32) (γ : Nat → Int32) (ψ : Nat → Nat → Int32) (k : Int32) (hl : 0 ≤ (Int32.toInt (σ 5)) ∧ (Int32.toInt (σ 5)) ≤ (Int32.toInt (σ 6)) ∧ (Int32.toInt (σ 6)) ≤ 4000) (hf : 0 ≤ (Int32.toInt (σ 10)) ∧ (Int32.toInt (σ 10)) ≤ 1500000000) (hfc : ∀ i : Nat, i < 300 → (i : Int) < (Int32.toInt (σ 10)) → Int32.toInt ((φ 6) i) < i) : Met l yX9_readCell wsX9_readCell ({ frames := 7, cells := 0, slots := 0, locals := 165 } : Room) (va_Pc [.ref (a 0), .int k] (mPre dC dI a κ (σ, φ, γ, ψ))) (va_Qv (QV (fun S F => ∃ (s11 : Int32) (s10 : Int32) (f6 : Nat → Int32), (up (up σ 11 s11) 10 s10) = S ∧ (up φ 6 f6) = F ∧ ((Int32.toInt (σ 10)) ≤ (Int32.toInt s10) ∧ (Int32.toInt s10) ≤ (Int32.toInt (σ 10)) + 20000) ∧ (∀ i : Nat, i < 300 → (i : Int) < (Int32.toInt s10) → Int32.toInt (f6 i) < i) ∧ (0 ≤ (Int32.toInt s11) ∧ (Int32.toInt s11) ≤ (Int32.toInt (σ 6)) - (Int32.toInt (σ 5))))) (mB dC dI a κ) (mA a)) 0 0 (mA a) := by
  refine Met.ofW (cc := cX9_readCell) (maxL := 10) (ret := none) (by decide) rfl ?_
  intro p e s m args below meth c s₁ B hml hv
  obtain ⟨rfl, hP, hK, hI, hN⟩ := hv
  have hx := B.exec
  have hb := B.bytes
  have hr := B.returns
  have hts := atoms_spec (ws := wsX9_readCell) B.pre
  have hown : s.vm.findClass RX9 = some m.cls := findClass_of_methodNamed B.named
  have hlocks := B.notSynchronized
  have hS : va_S (mA a) s.heap s.heap [] := va_S.rf
  have hinX9 : ∀ w ∈ wsX90, w ∈ wsX9_readCell := fun _ h => List.mem_cons_of_mem _ (List.mem_append_right _ h)
  have hl := lv_entry ([.ref (a 0), .int k]) (n := 10) (Nat.le_of_ble_eq_true rfl)
  rw [lg_entry_eq]
  generalize (lg_sl ([.ref (a 0), .int k]) ++ List.replicate (10 - (lg_sl ([.ref (a 0), .int k])).length) Slot.unset).toArray = ls at hl ⊢
  have hl : lv_has ls 10 [(0, .ref (a 0)), (1, .int k)] := hl
  refine k_gen (fun QQ eQ => ?_)
  have J86 : ∀ (n86 : Nat), ∀ (there : Int32) (i : Int32) (s11_c86 : Int32) (s10_c86 : Int32) (f6_c86 : Nat → Int32) (γ : Nat → Int32) (ψ : Nat → Nat → Int32) (H : Heap) (locs : List Loc) (ls : Array Slot), ((Int32.toInt (σ 5)) ≤ (Int32.toInt i) ∧ (Int32.toInt i) ≤ (Int32.toInt (σ 6)) ∧ 0 ≤ (Int32.toInt s11_c86) ∧ (Int32.toInt s11_c86) ≤ (Int32.toInt i) - (Int32.toInt (σ 5))) → ((Int32.toInt (σ 10)) ≤ (Int32.toInt s10_c86) ∧ (Int32.toInt s10_c86) ≤ (Int32.toInt (σ 10)) + 5 * ((Int32.toInt i) - (Int32.toInt (σ 5)))) → (∀ i : Nat, i < 300 → (i : Int) < (Int32.toInt s10_c86) → Int32.toInt (f6_c86 i) < i) → (((Int32.toInt (σ 6)) - (Int32.toInt i)).toNat < n86) → va_P (dC, dI) vwCl (mw a κ ((up (up σ 11 s11_c86) 10 s10_c86), (up φ 6 f6_c86), γ, ψ)) H → va_S (mA a) s.heap H locs → lv_has ls 10 [(0, .ref (a 0)), (4, .int there), (5, .int i)] → W p l e ({ frames := 7, cells := 0, slots := 0, locals := 165 } : Room) s m ([.ref (a 0), .int k] : List Value).toArray below meth c H locs 0 0 QQ (F0 m 86 ls []) := by
    intro n86
    induction n86 with
    | zero =>
      intro there i s11_c86 s10_c86 f6_c86 γ ψ H locs ls v0 vf hfc hm
      exact absurd hm (Nat.not_lt_zero _)
    | succ n86 ih86 =>
      intro there i s11_c86 s10_c86 f6_c86 γ ψ H locs ls v0 vf hfc hm hP hS hl
      refine lv_iload hx hb dX9_readCell_86 (lv_at hl 1 rfl) ?_
      refine lv_if_eq (tgt := 268) hx hb dX9_readCell_88 (by decide) (fun c_1 => ?_) (fun c_1 => ?_)
      · have kc_1 := bI_eq rfl L_0 c_1
        subst eQ
        exact W.vret hx hb hr (fun t ht hW => ⟨⟨((up (up σ 11 s11_c86) 10 s10_c86), (up φ 6 f6_c86), γ, ψ), rfl, ⟨s11_c86, s10_c86, f6_c86, rfl, rfl, (show (Int32.toInt (σ 10)) ≤ (Int32.toInt s10_c86) ∧ (Int32.toInt s10_c86) ≤ (Int32.toInt (σ 10)) + 20000 from (by omega)), (show ∀ i : Nat, i < 300 → (i : Int) < (Int32.toInt s10_c86) → Int32.toInt (f6_c86 i) < i from (by with_reducible assumption)), (show 0 ≤ (Int32.toInt s11_c86) ∧ (Int32.toInt s11_c86) ≤ (Int32.toInt (σ 6)) - (Int32.toInt (σ 5)) from (by omega))⟩, (by show va_P _ _ _ _; rw [ht]; exact hP)⟩, hS.F ht⟩) hS.2.2 dX9_readCell_268
      · have kc_1 := bI_ne rfl L_0 c_1
        refine lv_iload hx hb dX9_readCell_91 (lv_at hl 2 rfl) ?_
        refine lv_aload_n hx hb dX9_readCell_93 rfl (lv_at hl 0 rfl) ?_
        refine mg_0_19 (v := (σ 6)) hx hb hts hinX9 hown hK hP (hts (.fieldLink RX9 194 "CensusDeskModel" "lineEnd" "I") (List.mem_of_getElem? (i := 4) rfl)) rfl dX9_readCell_94 ?_
        refine lv_icmp_ge (tgt := 268) hx hb dX9_readCell_97 (by decide) (fun c_2 => ?_) (fun c_2 => ?_)
        · have kc_2 := bI_le rfl rfl c_2
          subst eQ
          exact W.vret hx hb hr (fun t ht hW => ⟨⟨((up (up σ 11 s11_c86) 10 s10_c86), (up φ 6 f6_c86), γ, ψ), rfl, ⟨s11_c86, s10_c86, f6_c86, rfl, rfl, (show (Int32.toInt (σ 10)) ≤ (Int32.toInt s10_c86) ∧ (Int32.toInt s10_c86) ≤ (Int32.toInt (σ 10)) + 20000 from (by omega)), (show ∀ i : Nat, i < 300 → (i : Int) < (Int32.toInt s10_c86) → Int32.toInt (f6_c86 i) < i from (by with_reducible assumption)), (show 0 ≤ (Int32.toInt s11_c86) ∧ (Int32.toInt s11_c86) ≤ (Int32.toInt (σ 6)) - (Int32.toInt (σ 5)) from (by omega))⟩, (by show va_P _ _ _ _; rw [ht]; exact hP)⟩, hS.F ht⟩) hS.2.2 dX9_readCell_268
        · have kc_2 := bI_nle rfl rfl c_2
          refine lv_aload_n hx hb dX9_readCell_100 rfl (lv_at hl 0 rfl) ?_
          refine lv_iload hx hb dX9_readCell_101 (lv_at hl 2 rfl) ?_
          refine m_calli (va_runV (As := [.int i]) (rest := []) ⟨hx, hb, hml, hown, hts⟩ (c_X9_at l dC dI a κ (up (up σ 11 s11_c86) 10 s10_c86) (up φ 6 f6_c86) γ ψ i (show 0 ≤ (Int32.toInt i) ∧ (Int32.toInt i) < 4000 from (by omega))) (cwV 1 hts gX9_readCell_X9_at rfl rfl rfl ⟨rfl, hd_X9_at⟩ ⟨Nat.le_of_ble_eq_true rfl, Nat.le_of_ble_eq_true rfl⟩) (mPreV hP hK hI hN hS (va_recv hK hP (ci := 9) (q0 := 0) rfl rfl)) rfl rfl hl.1 rfl (lv_room (Nat.le_of_ble_eq_true rfl)) dX9_readCell_103 ⟨(by decide +kernel), (by decide +kernel)⟩) hS ?_
          clear hP hS; intro r_3 S_3 F_3 γ_3 ψ_3 H locs hw hP hS
          obtain ⟨rfl, rfl, (qm_3 : (Int32.toInt r_3) = Int32.toInt (mat (φ 0) i)), (qr_3 : 0 ≤ (Int32.toInt r_3) ∧ (Int32.toInt r_3) ≤ 255)⟩ := hw
          refine lv_bipush (v := 124) hx hb dX9_readCell_106 (by decide) ?_
          refine lv_icmp_eq (tgt := 268) hx hb dX9_readCell_108 (by decide) (fun c_4 => ?_) (fun c_4 => ?_)
          · have kc_4 := bI_eq rfl L_124 c_4
            subst eQ
            exact W.vret hx hb hr (fun t ht hW => ⟨⟨((up (up σ 11 s11_c86) 10 s10_c86), (up φ 6 f6_c86), γ_3, ψ_3), rfl, ⟨s11_c86, s10_c86, f6_c86, rfl, rfl, (show (Int32.toInt (σ 10)) ≤ (Int32.toInt s10_c86) ∧ (Int32.toInt s10_c86) ≤ (Int32.toInt (σ 10)) + 20000 from (by omega)), (show ∀ i : Nat, i < 300 → (i : Int) < (Int32.toInt s10_c86) → Int32.toInt (f6_c86 i) < i from (by with_reducible assumption)), (show 0 ≤ (Int32.toInt s11_c86) ∧ (Int32.toInt s11_c86) ≤ (Int32.toInt (σ 6)) - (Int32.toInt (σ 5)) from (by omega))⟩, (by show va_P _ _ _ _; rw [ht]; exact hP)⟩, hS.F ht⟩) hS.2.2 dX9_readCell_268
          · have kc_4 := bI_ne rfl L_124 c_4
            refine lv_aload_n hx hb dX9_readCell_111 rfl (lv_at hl 0 rfl) ?_
            refine mg_0_21 (v := (γ_3 10)) hx hb hts hinX9 hown hK hP (hts (.fieldLink RX9 184 "CensusDeskModel" "fieldLost" "Z") (List.mem_of_getElem? (i := 1) rfl)) rfl dX9_readCell_112 ?_
            refine lv_if_ne (tgt := 268) hx hb dX9_readCell_115 (by decide) (fun c_5 => ?_) (fun c_5 => ?_)
            · have kc_5 := bI_ne rfl L_0 c_5
              subst eQ
              exact W.vret hx hb hr (fun t ht hW => ⟨⟨((up (up σ 11 s11_c86) 10 s10_c86), (up φ 6 f6_c86), γ_3, ψ_3), rfl, ⟨s11_c86, s10_c86, f6_c86, rfl, rfl, (show (Int32.toInt (σ 10)) ≤ (Int32.toInt s10_c86) ∧ (Int32.toInt s10_c86) ≤ (Int32.toInt (σ 10)) + 20000 from (by omega)), (show ∀ i : Nat, i < 300 → (i : Int) < (Int32.toInt s10_c86) → Int32.toInt (f6_c86 i) < i from (by with_reducible assumption)), (show 0 ≤ (Int32.toInt s11_c86) ∧ (Int32.toInt s11_c86) ≤ (Int32.toInt (σ 6)) - (Int32.toInt (σ 5)) from (by omega))⟩, (by show va_P _ _ _ _; rw [ht]; exact hP)⟩, hS.F ht⟩) hS.2.2 dX9_readCell_268
            · have kc_5 := bI_eq rfl L_0 c_5
              refine lv_aload_n hx hb dX9_readCell_118 rfl (lv_at hl 0 rfl) ?_
              refine lv_iload hx hb dX9_readCell_119 (lv_at hl 2 rfl) ?_
              refine m_calli (va_runV (As := [.int i]) (rest := []) ⟨hx, hb, hml, hown, hts⟩ (c_X9_at l dC dI a κ (up (up σ 11 s11_c86) 10 s10_c86) (up φ 6 f6_c86) γ_3 ψ_3 i (show 0 ≤ (Int32.toInt i) ∧ (Int32.toInt i) < 4000 from (by omega))) (cwV 1 hts gX9_readCell_X9_at rfl rfl rfl ⟨rfl, hd_X9_at⟩ ⟨Nat.le_of_ble_eq_true rfl, Nat.le_of_ble_eq_true rfl⟩) (mPreV hP hK hI hN hS (va_recv hK hP (ci := 9) (q0 := 0) rfl rfl)) rfl rfl hl.1 rfl (lv_room (Nat.le_of_ble_eq_true rfl)) dX9_readCell_121 ⟨(by decide +kernel), (by decide +kernel)⟩) hS ?_
              clear hP hS; intro r_6 S_6 F_6 γ_6 ψ_6 H locs hw hP hS
              obtain ⟨rfl, rfl, (qm_6 : (Int32.toInt r_6) = Int32.toInt (mat (φ 0) i)), (qr_6 : 0 ≤ (Int32.toInt r_6) ∧ (Int32.toInt r_6) ≤ 255)⟩ := hw
              refine lv_istore (lv' := [(6, .int r_6), (0, .ref (a 0)), (4, .int there), (5, .int i)]) hx hb dX9_readCell_124 hl (by decide) rfl ?_
              clear hl; intro ls hl
              refine lv_iconst (v := 1) hx hb dX9_readCell_126 (by decide) ?_
              refine lv_istore (lv' := [(7, .int 1), (6, .int r_6), (0, .ref (a 0)), (4, .int there), (5, .int i)]) hx hb dX9_readCell_127 hl (by decide) rfl ?_
              clear hl; intro ls hl
              refine lv_iload hx hb dX9_readCell_129 (lv_at hl 1 rfl) ?_
              refine lv_bipush (v := 32) hx hb dX9_readCell_131 (by decide) ?_
              refine lv_icmp_lt (tgt := 143) hx hb dX9_readCell_133 (by decide) (fun c_7 => ?_) (fun c_7 => ?_)
              · have kc_7 := bI_lt rfl L_32 c_7
                refine lv_aload_n hx hb dX9_readCell_143 rfl (lv_at hl 2 rfl) ?_
                refine lv_iconst (v := 1) hx hb dX9_readCell_144 (by decide) ?_
                refine lv_iload hx hb dX9_readCell_145 (lv_at hl 4 rfl) ?_
                refine lv_iconst (v := (-1)) hx hb dX9_readCell_147 (by decide) ?_
                refine m_calli (va_runV (As := [.int 1, .int i, .int (-1)]) (rest := []) ⟨hx, hb, hml, hown, hts⟩ (c_X9_fail l dC dI a κ (up (up σ 11 s11_c86) 10 s10_c86) (up φ 6 f6_c86) γ_6 ψ_6 1 i (-1) (show 1 ≤ (Int32.toInt 1) ∧ (Int32.toInt 1) ≤ 21 from (by have := L_1; omega)) (show (Int32.toInt (-1)) < (Int32.toInt s10_c86) from (by have := L_m1; omega)) (show 0 ≤ (Int32.toInt s10_c86) ∧ (Int32.toInt s10_c86) ≤ 2000000000 from (by omega)) (show ∀ i : Nat, i < 300 → (i : Int) < (Int32.toInt s10_c86) → Int32.toInt (f6_c86 i) < i from (by with_reducible assumption))) (cwV 3 hts gX9_readCell_X9_fail rfl rfl rfl ⟨rfl, hd_X9_fail⟩ ⟨Nat.le_of_ble_eq_true rfl, Nat.le_of_ble_eq_true rfl⟩) (mPreV hP hK hI hN hS (va_recv hK hP (ci := 9) (q0 := 0) rfl rfl)) rfl rfl hl.1 rfl (lv_room (Nat.le_of_ble_eq_true rfl)) dX9_readCell_148 ⟨(by decide +kernel), (by decide +kernel)⟩) hS ?_
                clear hP hS; intro r_8 S_8 F_8 γ_8 ψ_8 H locs hw hP hS
                obtain ⟨s10_8, f6_8, rfl, rfl, (qr_8 : (Int32.toInt r_8) = (Int32.toInt s10_c86) ∧ (Int32.toInt s10_8) = (Int32.toInt s10_c86) + 1), (qc_8 : ∀ i : Nat, i < 300 → (i : Int) < (Int32.toInt s10_8) → Int32.toInt (f6_8 i) < i)⟩ := hw
                have hLm1_8 := L_m1
                have hL1_8 := L_1
                refine lv_istore (lv' := [(8, .int r_8), (7, .int 1), (6, .int r_6), (0, .ref (a 0)), (4, .int there), (5, .int i)]) hx hb dX9_readCell_151 hl (by decide) rfl ?_
                clear hl; intro ls hl
                refine lv_aload_n hx hb dX9_readCell_153 rfl (lv_at hl 3 rfl) ?_
                refine mg_0_44 (v := (γ_8 11)) hx hb hts hinX9 hown hK hP (hts (.fieldLink RX9 125 "CensusDeskModel" "way" "I") (List.mem_of_getElem? (i := 6) rfl)) rfl dX9_readCell_154 ?_
                refine m_calli (va_runS (As := [.int (γ_8 11)]) (rest := []) ⟨hx, hb, hml, hown, hts⟩ (c_X9_goesOn l dC dI a κ (up (up (up σ 11 s11_c86) 10 s10_c86) 10 s10_8) (up (up φ 6 f6_c86) 6 f6_8) γ_8 ψ_8 (γ_8 11) ) (va_cwS 1 hts gX9_readCell_X9_goesOn rfl rfl rfl hd_X9_goesOn ⟨Nat.le_of_ble_eq_true rfl, Nat.le_of_ble_eq_true rfl⟩) (mPreS hP hK hI hN hS) rfl rfl hl.1 rfl (lv_room (Nat.le_of_ble_eq_true rfl)) dX9_readCell_157 ⟨(by decide +kernel), (by decide +kernel)⟩) hS ?_
                clear hP hS; intro r_9 S_9 F_9 γ_9 ψ_9 H locs hw hP hS
                obtain ⟨rfl, rfl, -⟩ := hw
                refine lv_istore (lv' := [(7, .int r_9), (8, .int r_8), (6, .int r_6), (0, .ref (a 0)), (4, .int there), (5, .int i)]) hx hb dX9_readCell_160 hl (by decide) rfl ?_
                clear hl; intro ls hl
                refine lv_aload_n hx hb dX9_readCell_162 rfl (lv_at hl 3 rfl) ?_
                refine mg_0_44 (v := (γ_9 11)) hx hb hts hinX9 hown hK hP (hts (.fieldLink RX9 125 "CensusDeskModel" "way" "I") (List.mem_of_getElem? (i := 6) rfl)) rfl dX9_readCell_163 ?_
                refine lv_iconst (v := 2) hx hb dX9_readCell_166 (by decide) ?_
                refine lv_icmp_ne (tgt := 200) hx hb dX9_readCell_167 (by decide) (fun c_10 => ?_) (fun c_10 => ?_)
                · have kc_10 := bI_ne rfl L_2 c_10
                  refine lv_iload hx hb dX9_readCell_200 (lv_at hl 2 rfl) ?_
                  refine lv_istore (lv' := [(6, .int r_6), (7, .int r_9), (8, .int r_8), (0, .ref (a 0)), (4, .int there), (5, .int i)]) hx hb dX9_readCell_202 hl (by decide) rfl ?_
                  clear hl; intro ls hl
                  refine lv_aload_n hx hb dX9_readCell_204 rfl (lv_at hl 3 rfl) ?_
                  refine mg_0_44 (v := (γ_9 11)) hx hb hts hinX9 hown hK hP (hts (.fieldLink RX9 125 "CensusDeskModel" "way" "I") (List.mem_of_getElem? (i := 6) rfl)) rfl dX9_readCell_205 ?_
                  refine lv_if_ne (tgt := 225) hx hb dX9_readCell_208 (by decide) (fun c_11 => ?_) (fun c_11 => ?_)
                  · have kc_11 := bI_ne rfl L_0 c_11
                    refine lv_iload hx hb dX9_readCell_225 (lv_at hl 1 rfl) ?_
                    refine lv_if_eq (tgt := 262) hx hb dX9_readCell_227 (by decide) (fun c_12 => ?_) (fun c_12 => ?_)
                    · have kc_12 := bI_eq rfl L_0 c_12
                      obtain ⟨i_13, ei_13⟩ : ∃ z : Int32, z = i + 1 := ⟨_, rfl⟩
                      refine lv_iinc (v := i_13) (lv' := [(5, .int i_13), (6, .int r_6), (7, .int r_9), (8, .int r_8), (0, .ref (a 0)), (4, .int there)]) hx hb dX9_readCell_262 hl (k := 5) rfl (by rw [ei_13]; rfl) (by decide) rfl ?_
                      clear hl; intro ls hl
                      have ti_13 : (Int32.toInt i_13) = (Int32.toInt i) + 1 := aI_add rfl L_1 ei_13 (by have := rng i; have := rng (σ 6); omega)
                      refine lv_goto (tgt := 86) hx hb dX9_readCell_265 (by decide) ?_
                      exact ih86 there i_13 s11_c86 s10_8 f6_8 γ_9 ψ_9 _ _ _ (show (Int32.toInt (σ 5)) ≤ (Int32.toInt i_13) ∧ (Int32.toInt i_13) ≤ (Int32.toInt (σ 6)) ∧ 0 ≤ (Int32.toInt s11_c86) ∧ (Int32.toInt s11_c86) ≤ (Int32.toInt i_13) - (Int32.toInt (σ 5)) from (by omega)) (show (Int32.toInt (σ 10)) ≤ (Int32.toInt s10_8) ∧ (Int32.toInt s10_8) ≤ (Int32.toInt (σ 10)) + 5 * ((Int32.toInt i_13) - (Int32.toInt (σ 5))) from (by omega)) (show ∀ i : Nat, i < 300 → (i : Int) < (Int32.toInt s10_8) → Int32.toInt (f6_8 i) < i from (by with_reducible assumption)) (by omega) hP hS (lv_sub hl [4, 5, 0] rfl)
                    · have kc_12 := bI_ne rfl L_0 c_12
                      refine lv_aload_n hx hb dX9_readCell_230 rfl (lv_at hl 3 rfl) ?_
                      refine mg_0_46 hx hb hts hinX9 hown hK hP (hts (.fieldLink RX9 74 "CensusDeskModel" "sign" "[I") (List.mem_of_getElem? (i := 8) rfl)) dX9_readCell_231 ?_
                      refine lv_aload_n hx hb dX9_readCell_234 rfl (lv_at hl 3 rfl) ?_
                      refine mg_0_48 (v := s11_c86) hx hb hts hinX9 hown hK hP (hts (.fieldLink RX9 191 "CensusDeskModel" "signs" "I") (List.mem_of_getElem? (i := 2) rfl)) rfl dX9_readCell_235 ?_
                      refine lv_iload hx hb dX9_readCell_238 (lv_at hl 0 rfl) ?_
                      refine ms_22 (f := (ψ_9 14)) hx hb hK hP hI hS (i := s11_c86) (x := r_6) (vin rfl (by omega)) rfl dX9_readCell_240 ?_
                      clear hP hS; intro H locs hP hS
                      obtain ⟨f_14, ef_14⟩ : ∃ z : Nat → Int32, z = upd (ψ_9 14) (Int32.toNatClampNeg s11_c86) r_6 := ⟨_, rfl⟩
                      rw [← ef_14] at hP
                      refine lv_aload_n hx hb dX9_readCell_241 rfl (lv_at hl 3 rfl) ?_
                      refine mg_0_47 hx hb hts hinX9 hown hK hP (hts (.fieldLink RX9 77 "CensusDeskModel" "signAt" "[I") (List.mem_of_getElem? (i := 9) rfl)) dX9_readCell_242 ?_
                      refine lv_aload_n hx hb dX9_readCell_245 rfl (lv_at hl 3 rfl) ?_
                      refine mg_0_48 (v := s11_c86) hx hb hts hinX9 hown hK hP (hts (.fieldLink RX9 191 "CensusDeskModel" "signs" "I") (List.mem_of_getElem? (i := 2) rfl)) rfl dX9_readCell_246 ?_
                      refine lv_iload hx hb dX9_readCell_249 (lv_at hl 5 rfl) ?_
                      refine ms_23 (f := (ψ_9 15)) hx hb hK hP hI hS (i := s11_c86) (x := i) (vin rfl (by omega)) rfl dX9_readCell_251 ?_
                      clear hP hS; intro H locs hP hS
                      obtain ⟨f_15, ef_15⟩ : ∃ z : Nat → Int32, z = upd (ψ_9 15) (Int32.toNatClampNeg s11_c86) i := ⟨_, rfl⟩
                      rw [← ef_15] at hP
                      refine lv_aload_n hx hb dX9_readCell_252 rfl (lv_at hl 3 rfl) ?_
                      refine lv_dup hx hb dX9_readCell_253 rfl ?_
                      refine mg_0_48 (v := s11_c86) hx hb hts hinX9 hown hK hP (hts (.fieldLink RX9 191 "CensusDeskModel" "signs" "I") (List.mem_of_getElem? (i := 2) rfl)) rfl dX9_readCell_254 ?_
                      refine lv_iconst (v := 1) hx hb dX9_readCell_257 (by decide) ?_
                      refine lv_iadd hx hb dX9_readCell_258 ?_
                      refine lv_topi (fun z_16 ez_16 => ?_)
                      have tz_16 : (Int32.toInt z_16) = (Int32.toInt s11_c86) + 1 := aI_add rfl L_1 ez_16 (by have := rng s11_c86; omega)
                      refine mp_0_48 (v := z_16) hx hb hts hinX9 hown hK hP hI hS (hts (.fieldLink RX9 191 "CensusDeskModel" "signs" "I") (List.mem_of_getElem? (i := 2) rfl)) dX9_readCell_259 ?_
                      clear hP hS; intro H locs hP hS
                      obtain ⟨i_17, ei_17⟩ : ∃ z : Int32, z = i + 1 := ⟨_, rfl⟩
                      refine lv_iinc (v := i_17) (lv' := [(5, .int i_17), (6, .int r_6), (7, .int r_9), (8, .int r_8), (0, .ref (a 0)), (4, .int there)]) hx hb dX9_readCell_262 hl (k := 5) rfl (by rw [ei_17]; rfl) (by decide) rfl ?_
                      clear hl; intro ls hl
                      have ti_17 : (Int32.toInt i_17) = (Int32.toInt i) + 1 := aI_add rfl L_1 ei_17 (by have := rng i; have := rng (σ 6); omega)
                      refine lv_goto (tgt := 86) hx hb dX9_readCell_265 (by decide) ?_
                      exact ih86 there i_17 z_16 s10_8 f6_8 γ_9 (up (up ψ_9 14 f_14) 15 f_15) _ _ _ (show (Int32.toInt (σ 5)) ≤ (Int32.toInt i_17) ∧ (Int32.toInt i_17) ≤ (Int32.toInt (σ 6)) ∧ 0 ≤ (Int32.toInt z_16) ∧ (Int32.toInt z_16) ≤ (Int32.toInt i_17) - (Int32.toInt (σ 5)) from (by omega)) (show (Int32.toInt (σ 10)) ≤ (Int32.toInt s10_8) ∧ (Int32.toInt s10_8) ≤ (Int32.toInt (σ 10)) + 5 * ((Int32.toInt i_17) - (Int32.toInt (σ 5))) from (by omega)) (show ∀ i : Nat, i < 300 → (i : Int) < (Int32.toInt s10_8) → Int32.toInt (f6_8 i) < i from (by with_reducible assumption)) (by omega) hP hS (lv_sub hl [4, 5, 0] rfl)
                  · have kc_11 := bI_eq rfl L_0 c_11
                    refine lv_aload_n hx hb dX9_readCell_211 rfl (lv_at hl 3 rfl) ?_
                    refine lv_bipush (v := 8) hx hb dX9_readCell_212 (by decide) ?_
                    refine lv_aload_n hx hb dX9_readCell_214 rfl (lv_at hl 3 rfl) ?_
                    refine mg_0_50 (v := (γ_9 14)) hx hb hts hinX9 hown hK hP (hts (.fieldLink RX9 200 "CensusDeskModel" "cellAt" "I") (List.mem_of_getElem? (i := 5) rfl)) rfl dX9_readCell_215 ?_
                    refine lv_iload hx hb dX9_readCell_218 (lv_at hl 2 rfl) ?_
                    refine m_calli (va_runV (As := [.int 8, .int (γ_9 14), .int r_8]) (rest := []) ⟨hx, hb, hml, hown, hts⟩ (c_X9_failField l dC dI a κ (up (up (up σ 11 s11_c86) 10 s10_c86) 10 s10_8) (up (up φ 6 f6_c86) 6 f6_8) γ_9 ψ_9 8 (γ_9 14) r_8 (show 1 ≤ (Int32.toInt 8) ∧ (Int32.toInt 8) ≤ 21 from (by have := L_8; omega)) (show (Int32.toInt r_8) < (Int32.toInt s10_8) from (by omega)) (show 0 ≤ (Int32.toInt s10_8) ∧ (Int32.toInt s10_8) ≤ 1999999960 from (by omega)) (show ∀ i : Nat, i < 300 → (i : Int) < (Int32.toInt s10_8) → Int32.toInt (f6_8 i) < i from (by with_reducible assumption))) (cwV 3 hts gX9_readCell_X9_failField rfl rfl rfl ⟨rfl, hd_X9_failField⟩ ⟨Nat.le_of_ble_eq_true rfl, Nat.le_of_ble_eq_true rfl⟩) (mPreV hP hK hI hN hS (va_recv hK hP (ci := 9) (q0 := 0) rfl rfl)) rfl rfl hl.1 rfl (lv_room (Nat.le_of_ble_eq_true rfl)) dX9_readCell_220 ⟨(by decide +kernel), (by decide +kernel)⟩) hS ?_
                    clear hP hS; intro r_18 S_18 F_18 γ_18 ψ_18 H locs hw hP hS
                    obtain ⟨s10_18, f6_18, rfl, rfl, (qf_18 : (Int32.toInt s10_8) ≤ (Int32.toInt s10_18) ∧ (Int32.toInt s10_18) ≤ (Int32.toInt s10_8) + 4), (qc_18 : ∀ i : Nat, i < 300 → (i : Int) < (Int32.toInt s10_18) → Int32.toInt (f6_18 i) < i)⟩ := hw
                    have hL8_18 := L_8
                    refine lv_istore (lv' := [(9, .int r_18), (6, .int r_6), (7, .int r_9), (8, .int r_8), (0, .ref (a 0)), (4, .int there), (5, .int i)]) hx hb dX9_readCell_223 hl (by decide) rfl ?_
                    clear hl; intro ls hl
                    refine lv_iload hx hb dX9_readCell_225 (lv_at hl 2 rfl) ?_
                    refine lv_if_eq (tgt := 262) hx hb dX9_readCell_227 (by decide) (fun c_19 => ?_) (fun c_19 => ?_)
                    · have kc_19 := bI_eq rfl L_0 c_19
                      obtain ⟨i_20, ei_20⟩ : ∃ z : Int32, z = i + 1 := ⟨_, rfl⟩
                      refine lv_iinc (v := i_20) (lv' := [(5, .int i_20), (9, .int r_18), (6, .int r_6), (7, .int r_9), (8, .int r_8), (0, .ref (a 0)), (4, .int there)]) hx hb dX9_readCell_262 hl (k := 6) rfl (by rw [ei_20]; rfl) (by decide) rfl ?_
                      clear hl; intro ls hl
                      have ti_20 : (Int32.toInt i_20) = (Int32.toInt i) + 1 := aI_add rfl L_1 ei_20 (by have := rng i; have := rng (σ 6); omega)
                      refine lv_goto (tgt := 86) hx hb dX9_readCell_265 (by decide) ?_
                      exact ih86 there i_20 s11_c86 s10_18 f6_18 γ_18 ψ_18 _ _ _ (show (Int32.toInt (σ 5)) ≤ (Int32.toInt i_20) ∧ (Int32.toInt i_20) ≤ (Int32.toInt (σ 6)) ∧ 0 ≤ (Int32.toInt s11_c86) ∧ (Int32.toInt s11_c86) ≤ (Int32.toInt i_20) - (Int32.toInt (σ 5)) from (by omega)) (show (Int32.toInt (σ 10)) ≤ (Int32.toInt s10_18) ∧ (Int32.toInt s10_18) ≤ (Int32.toInt (σ 10)) + 5 * ((Int32.toInt i_20) - (Int32.toInt (σ 5))) from (by omega)) (show ∀ i : Nat, i < 300 → (i : Int) < (Int32.toInt s10_18) → Int32.toInt (f6_18 i) < i from (by with_reducible assumption)) (by omega) hP hS (lv_sub hl [5, 6, 0] rfl)
                    · have kc_19 := bI_ne rfl L_0 c_19
                      refine lv_aload_n hx hb dX9_readCell_230 rfl (lv_at hl 4 rfl) ?_
                      refine mg_0_46 hx hb hts hinX9 hown hK hP (hts (.fieldLink RX9 74 "CensusDeskModel" "sign" "[I") (List.mem_of_getElem? (i := 8) rfl)) dX9_readCell_231 ?_
                      refine lv_aload_n hx hb dX9_readCell_234 rfl (lv_at hl 4 rfl) ?_
                      refine mg_0_48 (v := s11_c86) hx hb hts hinX9 hown hK hP (hts (.fieldLink RX9 191 "CensusDeskModel" "signs" "I") (List.mem_of_getElem? (i := 2) rfl)) rfl dX9_readCell_235 ?_
                      refine lv_iload hx hb dX9_readCell_238 (lv_at hl 1 rfl) ?_
                      refine ms_22 (f := (ψ_18 14)) hx hb hK hP hI hS (i := s11_c86) (x := r_6) (vin rfl (by omega)) rfl dX9_readCell_240 ?_
                      clear hP hS; intro H locs hP hS
                      obtain ⟨f_21, ef_21⟩ : ∃ z : Nat → Int32, z = upd (ψ_18 14) (Int32.toNatClampNeg s11_c86) r_6 := ⟨_, rfl⟩
                      rw [← ef_21] at hP
                      refine lv_aload_n hx hb dX9_readCell_241 rfl (lv_at hl 4 rfl) ?_
                      refine mg_0_47 hx hb hts hinX9 hown hK hP (hts (.fieldLink RX9 77 "CensusDeskModel" "signAt" "[I") (List.mem_of_getElem? (i := 9) rfl)) dX9_readCell_242 ?_
                      refine lv_aload_n hx hb dX9_readCell_245 rfl (lv_at hl 4 rfl) ?_
                      refine mg_0_48 (v := s11_c86) hx hb hts hinX9 hown hK hP (hts (.fieldLink RX9 191 "CensusDeskModel" "signs" "I") (List.mem_of_getElem? (i := 2) rfl)) rfl dX9_readCell_246 ?_
                      refine lv_iload hx hb dX9_readCell_249 (lv_at hl 6 rfl) ?_
                      refine ms_23 (f := (ψ_18 15)) hx hb hK hP hI hS (i := s11_c86) (x := i) (vin rfl (by omega)) rfl dX9_readCell_251 ?_
                      clear hP hS; intro H locs hP hS
                      obtain ⟨f_22, ef_22⟩ : ∃ z : Nat → Int32, z = upd (ψ_18 15) (Int32.toNatClampNeg s11_c86) i := ⟨_, rfl⟩
                      rw [← ef_22] at hP
                      refine lv_aload_n hx hb dX9_readCell_252 rfl (lv_at hl 4 rfl) ?_
                      refine lv_dup hx hb dX9_readCell_253 rfl ?_
                      refine mg_0_48 (v := s11_c86) hx hb hts hinX9 hown hK hP (hts (.fieldLink RX9 191 "CensusDeskModel" "signs" "I") (List.mem_of_getElem? (i := 2) rfl)) rfl dX9_readCell_254 ?_
                      refine lv_iconst (v := 1) hx hb dX9_readCell_257 (by decide) ?_
                      refine lv_iadd hx hb dX9_readCell_258 ?_
                      refine lv_topi (fun z_23 ez_23 => ?_)
                      have tz_23 : (Int32.toInt z_23) = (Int32.toInt s11_c86) + 1 := aI_add rfl L_1 ez_23 (by have := rng s11_c86; omega)
                      refine mp_0_48 (v := z_23) hx hb hts hinX9 hown hK hP hI hS (hts (.fieldLink RX9 191 "CensusDeskModel" "signs" "I") (List.mem_of_getElem? (i := 2) rfl)) dX9_readCell_259 ?_
                      clear hP hS; intro H locs hP hS
                      obtain ⟨i_24, ei_24⟩ : ∃ z : Int32, z = i + 1 := ⟨_, rfl⟩
                      refine lv_iinc (v := i_24) (lv' := [(5, .int i_24), (9, .int r_18), (6, .int r_6), (7, .int r_9), (8, .int r_8), (0, .ref (a 0)), (4, .int there)]) hx hb dX9_readCell_262 hl (k := 6) rfl (by rw [ei_24]; rfl) (by decide) rfl ?_
                      clear hl; intro ls hl
                      have ti_24 : (Int32.toInt i_24) = (Int32.toInt i) + 1 := aI_add rfl L_1 ei_24 (by have := rng i; have := rng (σ 6); omega)
                      refine lv_goto (tgt := 86) hx hb dX9_readCell_265 (by decide) ?_
                      exact ih86 there i_24 z_23 s10_18 f6_18 γ_18 (up (up ψ_18 14 f_21) 15 f_22) _ _ _ (show (Int32.toInt (σ 5)) ≤ (Int32.toInt i_24) ∧ (Int32.toInt i_24) ≤ (Int32.toInt (σ 6)) ∧ 0 ≤ (Int32.toInt z_23) ∧ (Int32.toInt z_23) ≤ (Int32.toInt i_24) - (Int32.toInt (σ 5)) from (by omega)) (show (Int32.toInt (σ 10)) ≤ (Int32.toInt s10_18) ∧ (Int32.toInt s10_18) ≤ (Int32.toInt (σ 10)) + 5 * ((Int32.toInt i_24) - (Int32.toInt (σ 5))) from (by omega)) (show ∀ i : Nat, i < 300 → (i : Int) < (Int32.toInt s10_18) → Int32.toInt (f6_18 i) < i from (by with_reducible assumption)) (by omega) hP hS (lv_sub hl [5, 6, 0] rfl)
                · have kc_10 := bI_eq rfl L_2 c_10
                  refine lv_aload_n hx hb dX9_readCell_170 rfl (lv_at hl 3 rfl) ?_
                  refine mg_0_45 (v := (γ_9 12)) hx hb hts hinX9 hown hK hP (hts (.fieldLink RX9 128 "CensusDeskModel" "replaced" "I") (List.mem_of_getElem? (i := 7) rfl)) rfl dX9_readCell_171 ?_
                  refine lv_bipush (v := 32) hx hb dX9_readCell_174 (by decide) ?_
                  refine lv_icmp_lt (tgt := 195) hx hb dX9_readCell_176 (by decide) (fun c_25 => ?_) (fun c_25 => ?_)
                  · have kc_25 := bI_lt rfl L_32 c_25
                    refine lv_bipush (v := 63) hx hb dX9_readCell_195 (by decide) ?_
                    refine lv_goto (tgt := 202) hx hb dX9_readCell_197 (by decide) ?_
                    refine lv_istore (lv' := [(6, .int 63), (7, .int r_9), (8, .int r_8), (0, .ref (a 0)), (4, .int there), (5, .int i)]) hx hb dX9_readCell_202 hl (by decide) rfl ?_
                    clear hl; intro ls hl
                    refine lv_aload_n hx hb dX9_readCell_204 rfl (lv_at hl 3 rfl) ?_
                    refine mg_0_44 (v := (γ_9 11)) hx hb hts hinX9 hown hK hP (hts (.fieldLink RX9 125 "CensusDeskModel" "way" "I") (List.mem_of_getElem? (i := 6) rfl)) rfl dX9_readCell_205 ?_
                    refine lv_if_ne (tgt := 225) hx hb dX9_readCell_208 (by decide) (fun c_26 => ?_) (fun c_26 => ?_)
                    · have kc_26 := bI_ne rfl L_0 c_26
                      refine lv_iload hx hb dX9_readCell_225 (lv_at hl 1 rfl) ?_
                      refine lv_if_eq (tgt := 262) hx hb dX9_readCell_227 (by decide) (fun c_27 => ?_) (fun c_27 => ?_)
                      · have kc_27 := bI_eq rfl L_0 c_27
                        obtain ⟨i_28, ei_28⟩ : ∃ z : Int32, z = i + 1 := ⟨_, rfl⟩
                        refine lv_iinc (v := i_28) (lv' := [(5, .int i_28), (6, .int 63), (7, .int r_9), (8, .int r_8), (0, .ref (a 0)), (4, .int there)]) hx hb dX9_readCell_262 hl (k := 5) rfl (by rw [ei_28]; rfl) (by decide) rfl ?_
                        clear hl; intro ls hl
                        have ti_28 : (Int32.toInt i_28) = (Int32.toInt i) + 1 := aI_add rfl L_1 ei_28 (by have := rng i; have := rng (σ 6); omega)
                        refine lv_goto (tgt := 86) hx hb dX9_readCell_265 (by decide) ?_
                        exact ih86 there i_28 s11_c86 s10_8 f6_8 γ_9 ψ_9 _ _ _ (show (Int32.toInt (σ 5)) ≤ (Int32.toInt i_28) ∧ (Int32.toInt i_28) ≤ (Int32.toInt (σ 6)) ∧ 0 ≤ (Int32.toInt s11_c86) ∧ (Int32.toInt s11_c86) ≤ (Int32.toInt i_28) - (Int32.toInt (σ 5)) from (by omega)) (show (Int32.toInt (σ 10)) ≤ (Int32.toInt s10_8) ∧ (Int32.toInt s10_8) ≤ (Int32.toInt (σ 10)) + 5 * ((Int32.toInt i_28) - (Int32.toInt (σ 5))) from (by omega)) (show ∀ i : Nat, i < 300 → (i : Int) < (Int32.toInt s10_8) → Int32.toInt (f6_8 i) < i from (by with_reducible assumption)) (by omega) hP hS (lv_sub hl [4, 5, 0] rfl)
                      · have kc_27 := bI_ne rfl L_0 c_27
                        refine lv_aload_n hx hb dX9_readCell_230 rfl (lv_at hl 3 rfl) ?_
                        refine mg_0_46 hx hb hts hinX9 hown hK hP (hts (.fieldLink RX9 74 "CensusDeskModel" "sign" "[I") (List.mem_of_getElem? (i := 8) rfl)) dX9_readCell_231 ?_
                        refine lv_aload_n hx hb dX9_readCell_234 rfl (lv_at hl 3 rfl) ?_
                        refine mg_0_48 (v := s11_c86) hx hb hts hinX9 hown hK hP (hts (.fieldLink RX9 191 "CensusDeskModel" "signs" "I") (List.mem_of_getElem? (i := 2) rfl)) rfl dX9_readCell_235 ?_
                        refine lv_iload hx hb dX9_readCell_238 (lv_at hl 0 rfl) ?_
                        refine ms_22 (f := (ψ_9 14)) hx hb hK hP hI hS (i := s11_c86) (x := 63) (vin rfl (by omega)) rfl dX9_readCell_240 ?_
                        clear hP hS; intro H locs hP hS
                        obtain ⟨f_29, ef_29⟩ : ∃ z : Nat → Int32, z = upd (ψ_9 14) (Int32.toNatClampNeg s11_c86) 63 := ⟨_, rfl⟩
                        rw [← ef_29] at hP
                        refine lv_aload_n hx hb dX9_readCell_241 rfl (lv_at hl 3 rfl) ?_
                        refine mg_0_47 hx hb hts hinX9 hown hK hP (hts (.fieldLink RX9 77 "CensusDeskModel" "signAt" "[I") (List.mem_of_getElem? (i := 9) rfl)) dX9_readCell_242 ?_
                        refine lv_aload_n hx hb dX9_readCell_245 rfl (lv_at hl 3 rfl) ?_
                        refine mg_0_48 (v := s11_c86) hx hb hts hinX9 hown hK hP (hts (.fieldLink RX9 191 "CensusDeskModel" "signs" "I") (List.mem_of_getElem? (i := 2) rfl)) rfl dX9_readCell_246 ?_
                        refine lv_iload hx hb dX9_readCell_249 (lv_at hl 5 rfl) ?_
                        refine ms_23 (f := (ψ_9 15)) hx hb hK hP hI hS (i := s11_c86) (x := i) (vin rfl (by omega)) rfl dX9_readCell_251 ?_
                        clear hP hS; intro H locs hP hS
                        obtain ⟨f_30, ef_30⟩ : ∃ z : Nat → Int32, z = upd (ψ_9 15) (Int32.toNatClampNeg s11_c86) i := ⟨_, rfl⟩
                        rw [← ef_30] at hP
                        refine lv_aload_n hx hb dX9_readCell_252 rfl (lv_at hl 3 rfl) ?_
                        refine lv_dup hx hb dX9_readCell_253 rfl ?_
                        refine mg_0_48 (v := s11_c86) hx hb hts hinX9 hown hK hP (hts (.fieldLink RX9 191 "CensusDeskModel" "signs" "I") (List.mem_of_getElem? (i := 2) rfl)) rfl dX9_readCell_254 ?_
                        refine lv_iconst (v := 1) hx hb dX9_readCell_257 (by decide) ?_
                        refine lv_iadd hx hb dX9_readCell_258 ?_
                        refine lv_topi (fun z_31 ez_31 => ?_)
                        have tz_31 : (Int32.toInt z_31) = (Int32.toInt s11_c86) + 1 := aI_add rfl L_1 ez_31 (by have := rng s11_c86; omega)
                        refine mp_0_48 (v := z_31) hx hb hts hinX9 hown hK hP hI hS (hts (.fieldLink RX9 191 "CensusDeskModel" "signs" "I") (List.mem_of_getElem? (i := 2) rfl)) dX9_readCell_259 ?_
                        clear hP hS; intro H locs hP hS
                        obtain ⟨i_32, ei_32⟩ : ∃ z : Int32, z = i + 1 := ⟨_, rfl⟩
                        refine lv_iinc (v := i_32) (lv' := [(5, .int i_32), (6, .int 63), (7, .int r_9), (8, .int r_8), (0, .ref (a 0)), (4, .int there)]) hx hb dX9_readCell_262 hl (k := 5) rfl (by rw [ei_32]; rfl) (by decide) rfl ?_
                        clear hl; intro ls hl
                        have ti_32 : (Int32.toInt i_32) = (Int32.toInt i) + 1 := aI_add rfl L_1 ei_32 (by have := rng i; have := rng (σ 6); omega)
                        refine lv_goto (tgt := 86) hx hb dX9_readCell_265 (by decide) ?_
                        exact ih86 there i_32 z_31 s10_8 f6_8 γ_9 (up (up ψ_9 14 f_29) 15 f_30) _ _ _ (show (Int32.toInt (σ 5)) ≤ (Int32.toInt i_32) ∧ (Int32.toInt i_32) ≤ (Int32.toInt (σ 6)) ∧ 0 ≤ (Int32.toInt z_31) ∧ (Int32.toInt z_31) ≤ (Int32.toInt i_32) - (Int32.toInt (σ 5)) from (by omega)) (show (Int32.toInt (σ 10)) ≤ (Int32.toInt s10_8) ∧ (Int32.toInt s10_8) ≤ (Int32.toInt (σ 10)) + 5 * ((Int32.toInt i_32) - (Int32.toInt (σ 5))) from (by omega)) (show ∀ i : Nat, i < 300 → (i : Int) < (Int32.toInt s10_8) → Int32.toInt (f6_8 i) < i from (by with_reducible assumption)) (by omega) hP hS (lv_sub hl [4, 5, 0] rfl)
                    · have kc_26 := bI_eq rfl L_0 c_26
                      refine lv_aload_n hx hb dX9_readCell_211 rfl (lv_at hl 3 rfl) ?_
                      refine lv_bipush (v := 8) hx hb dX9_readCell_212 (by decide) ?_
                      refine lv_aload_n hx hb dX9_readCell_214 rfl (lv_at hl 3 rfl) ?_
                      refine mg_0_50 (v := (γ_9 14)) hx hb hts hinX9 hown hK hP (hts (.fieldLink RX9 200 "CensusDeskModel" "cellAt" "I") (List.mem_of_getElem? (i := 5) rfl)) rfl dX9_readCell_215 ?_
                      refine lv_iload hx hb dX9_readCell_218 (lv_at hl 2 rfl) ?_
                      refine m_calli (va_runV (As := [.int 8, .int (γ_9 14), .int r_8]) (rest := []) ⟨hx, hb, hml, hown, hts⟩ (c_X9_failField l dC dI a κ (up (up (up σ 11 s11_c86) 10 s10_c86) 10 s10_8) (up (up φ 6 f6_c86) 6 f6_8) γ_9 ψ_9 8 (γ_9 14) r_8 (show 1 ≤ (Int32.toInt 8) ∧ (Int32.toInt 8) ≤ 21 from (by have := L_8; omega)) (show (Int32.toInt r_8) < (Int32.toInt s10_8) from (by omega)) (show 0 ≤ (Int32.toInt s10_8) ∧ (Int32.toInt s10_8) ≤ 1999999960 from (by omega)) (show ∀ i : Nat, i < 300 → (i : Int) < (Int32.toInt s10_8) → Int32.toInt (f6_8 i) < i from (by with_reducible assumption))) (cwV 3 hts gX9_readCell_X9_failField rfl rfl rfl ⟨rfl, hd_X9_failField⟩ ⟨Nat.le_of_ble_eq_true rfl, Nat.le_of_ble_eq_true rfl⟩) (mPreV hP hK hI hN hS (va_recv hK hP (ci := 9) (q0 := 0) rfl rfl)) rfl rfl hl.1 rfl (lv_room (Nat.le_of_ble_eq_true rfl)) dX9_readCell_220 ⟨(by decide +kernel), (by decide +kernel)⟩) hS ?_
                      clear hP hS; intro r_33 S_33 F_33 γ_33 ψ_33 H locs hw hP hS
                      obtain ⟨s10_33, f6_33, rfl, rfl, (qf_33 : (Int32.toInt s10_8) ≤ (Int32.toInt s10_33) ∧ (Int32.toInt s10_33) ≤ (Int32.toInt s10_8) + 4), (qc_33 : ∀ i : Nat, i < 300 → (i : Int) < (Int32.toInt s10_33) → Int32.toInt (f6_33 i) < i)⟩ := hw
                      have hL8_33 := L_8
                      refine lv_istore (lv' := [(9, .int r_33), (6, .int 63), (7, .int r_9), (8, .int r_8), (0, .ref (a 0)), (4, .int there), (5, .int i)]) hx hb dX9_readCell_223 hl (by decide) rfl ?_
                      clear hl; intro ls hl
                      refine lv_iload hx hb dX9_readCell_225 (lv_at hl 2 rfl) ?_
                      refine lv_if_eq (tgt := 262) hx hb dX9_readCell_227 (by decide) (fun c_34 => ?_) (fun c_34 => ?_)
                      · have kc_34 := bI_eq rfl L_0 c_34
                        obtain ⟨i_35, ei_35⟩ : ∃ z : Int32, z = i + 1 := ⟨_, rfl⟩
                        refine lv_iinc (v := i_35) (lv' := [(5, .int i_35), (9, .int r_33), (6, .int 63), (7, .int r_9), (8, .int r_8), (0, .ref (a 0)), (4, .int there)]) hx hb dX9_readCell_262 hl (k := 6) rfl (by rw [ei_35]; rfl) (by decide) rfl ?_
                        clear hl; intro ls hl
                        have ti_35 : (Int32.toInt i_35) = (Int32.toInt i) + 1 := aI_add rfl L_1 ei_35 (by have := rng i; have := rng (σ 6); omega)
                        refine lv_goto (tgt := 86) hx hb dX9_readCell_265 (by decide) ?_
                        exact ih86 there i_35 s11_c86 s10_33 f6_33 γ_33 ψ_33 _ _ _ (show (Int32.toInt (σ 5)) ≤ (Int32.toInt i_35) ∧ (Int32.toInt i_35) ≤ (Int32.toInt (σ 6)) ∧ 0 ≤ (Int32.toInt s11_c86) ∧ (Int32.toInt s11_c86) ≤ (Int32.toInt i_35) - (Int32.toInt (σ 5)) from (by omega)) (show (Int32.toInt (σ 10)) ≤ (Int32.toInt s10_33) ∧ (Int32.toInt s10_33) ≤ (Int32.toInt (σ 10)) + 5 * ((Int32.toInt i_35) - (Int32.toInt (σ 5))) from (by omega)) (show ∀ i : Nat, i < 300 → (i : Int) < (Int32.toInt s10_33) → Int32.toInt (f6_33 i) < i from (by with_reducible assumption)) (by omega) hP hS (lv_sub hl [5, 6, 0] rfl)
                      · have kc_34 := bI_ne rfl L_0 c_34
                        refine lv_aload_n hx hb dX9_readCell_230 rfl (lv_at hl 4 rfl) ?_
                        refine mg_0_46 hx hb hts hinX9 hown hK hP (hts (.fieldLink RX9 74 "CensusDeskModel" "sign" "[I") (List.mem_of_getElem? (i := 8) rfl)) dX9_readCell_231 ?_
                        refine lv_aload_n hx hb dX9_readCell_234 rfl (lv_at hl 4 rfl) ?_
                        refine mg_0_48 (v := s11_c86) hx hb hts hinX9 hown hK hP (hts (.fieldLink RX9 191 "CensusDeskModel" "signs" "I") (List.mem_of_getElem? (i := 2) rfl)) rfl dX9_readCell_235 ?_
                        refine lv_iload hx hb dX9_readCell_238 (lv_at hl 1 rfl) ?_
                        refine ms_22 (f := (ψ_33 14)) hx hb hK hP hI hS (i := s11_c86) (x := 63) (vin rfl (by omega)) rfl dX9_readCell_240 ?_
                        clear hP hS; intro H locs hP hS
                        obtain ⟨f_36, ef_36⟩ : ∃ z : Nat → Int32, z = upd (ψ_33 14) (Int32.toNatClampNeg s11_c86) 63 := ⟨_, rfl⟩
                        rw [← ef_36] at hP
                        refine lv_aload_n hx hb dX9_readCell_241 rfl (lv_at hl 4 rfl) ?_
                        refine mg_0_47 hx hb hts hinX9 hown hK hP (hts (.fieldLink RX9 77 "CensusDeskModel" "signAt" "[I") (List.mem_of_getElem? (i := 9) rfl)) dX9_readCell_242 ?_
                        refine lv_aload_n hx hb dX9_readCell_245 rfl (lv_at hl 4 rfl) ?_
                        refine mg_0_48 (v := s11_c86) hx hb hts hinX9 hown hK hP (hts (.fieldLink RX9 191 "CensusDeskModel" "signs" "I") (List.mem_of_getElem? (i := 2) rfl)) rfl dX9_readCell_246 ?_
                        refine lv_iload hx hb dX9_readCell_249 (lv_at hl 6 rfl) ?_
                        refine ms_23 (f := (ψ_33 15)) hx hb hK hP hI hS (i := s11_c86) (x := i) (vin rfl (by omega)) rfl dX9_readCell_251 ?_
                        clear hP hS; intro H locs hP hS
                        obtain ⟨f_37, ef_37⟩ : ∃ z : Nat → Int32, z = upd (ψ_33 15) (Int32.toNatClampNeg s11_c86) i := ⟨_, rfl⟩
                        rw [← ef_37] at hP
                        refine lv_aload_n hx hb dX9_readCell_252 rfl (lv_at hl 4 rfl) ?_
                        refine lv_dup hx hb dX9_readCell_253 rfl ?_
                        refine mg_0_48 (v := s11_c86) hx hb hts hinX9 hown hK hP (hts (.fieldLink RX9 191 "CensusDeskModel" "signs" "I") (List.mem_of_getElem? (i := 2) rfl)) rfl dX9_readCell_254 ?_
                        refine lv_iconst (v := 1) hx hb dX9_readCell_257 (by decide) ?_
                        refine lv_iadd hx hb dX9_readCell_258 ?_
                        refine lv_topi (fun z_38 ez_38 => ?_)
                        have tz_38 : (Int32.toInt z_38) = (Int32.toInt s11_c86) + 1 := aI_add rfl L_1 ez_38 (by have := rng s11_c86; omega)
                        refine mp_0_48 (v := z_38) hx hb hts hinX9 hown hK hP hI hS (hts (.fieldLink RX9 191 "CensusDeskModel" "signs" "I") (List.mem_of_getElem? (i := 2) rfl)) dX9_readCell_259 ?_
                        clear hP hS; intro H locs hP hS
                        obtain ⟨i_39, ei_39⟩ : ∃ z : Int32, z = i + 1 := ⟨_, rfl⟩
                        refine lv_iinc (v := i_39) (lv' := [(5, .int i_39), (9, .int r_33), (6, .int 63), (7, .int r_9), (8, .int r_8), (0, .ref (a 0)), (4, .int there)]) hx hb dX9_readCell_262 hl (k := 6) rfl (by rw [ei_39]; rfl) (by decide) rfl ?_
                        clear hl; intro ls hl
                        have ti_39 : (Int32.toInt i_39) = (Int32.toInt i) + 1 := aI_add rfl L_1 ei_39 (by have := rng i; have := rng (σ 6); omega)
                        refine lv_goto (tgt := 86) hx hb dX9_readCell_265 (by decide) ?_
                        exact ih86 there i_39 z_38 s10_33 f6_33 γ_33 (up (up ψ_33 14 f_36) 15 f_37) _ _ _ (show (Int32.toInt (σ 5)) ≤ (Int32.toInt i_39) ∧ (Int32.toInt i_39) ≤ (Int32.toInt (σ 6)) ∧ 0 ≤ (Int32.toInt z_38) ∧ (Int32.toInt z_38) ≤ (Int32.toInt i_39) - (Int32.toInt (σ 5)) from (by omega)) (show (Int32.toInt (σ 10)) ≤ (Int32.toInt s10_33) ∧ (Int32.toInt s10_33) ≤ (Int32.toInt (σ 10)) + 5 * ((Int32.toInt i_39) - (Int32.toInt (σ 5))) from (by omega)) (show ∀ i : Nat, i < 300 → (i : Int) < (Int32.toInt s10_33) → Int32.toInt (f6_33 i) < i from (by with_reducible assumption)) (by omega) hP hS (lv_sub hl [5, 6, 0] rfl)
                  · have kc_25 := bI_nlt rfl L_32 c_25
                    refine lv_aload_n hx hb dX9_readCell_179 rfl (lv_at hl 3 rfl) ?_
                    refine mg_0_45 (v := (γ_9 12)) hx hb hts hinX9 hown hK hP (hts (.fieldLink RX9 128 "CensusDeskModel" "replaced" "I") (List.mem_of_getElem? (i := 7) rfl)) rfl dX9_readCell_180 ?_
                    refine lv_bipush (v := 126) hx hb dX9_readCell_183 (by decide) ?_
                    refine lv_icmp_gt (tgt := 195) hx hb dX9_readCell_185 (by decide) (fun c_40 => ?_) (fun c_40 => ?_)
                    · have kc_40 := bI_lt L_126 rfl c_40
                      refine lv_bipush (v := 63) hx hb dX9_readCell_195 (by decide) ?_
                      refine lv_goto (tgt := 202) hx hb dX9_readCell_197 (by decide) ?_
                      refine lv_istore (lv' := [(6, .int 63), (7, .int r_9), (8, .int r_8), (0, .ref (a 0)), (4, .int there), (5, .int i)]) hx hb dX9_readCell_202 hl (by decide) rfl ?_
                      clear hl; intro ls hl
                      refine lv_aload_n hx hb dX9_readCell_204 rfl (lv_at hl 3 rfl) ?_
                      refine mg_0_44 (v := (γ_9 11)) hx hb hts hinX9 hown hK hP (hts (.fieldLink RX9 125 "CensusDeskModel" "way" "I") (List.mem_of_getElem? (i := 6) rfl)) rfl dX9_readCell_205 ?_
                      refine lv_if_ne (tgt := 225) hx hb dX9_readCell_208 (by decide) (fun c_41 => ?_) (fun c_41 => ?_)
                      · have kc_41 := bI_ne rfl L_0 c_41
                        refine lv_iload hx hb dX9_readCell_225 (lv_at hl 1 rfl) ?_
                        refine lv_if_eq (tgt := 262) hx hb dX9_readCell_227 (by decide) (fun c_42 => ?_) (fun c_42 => ?_)
                        · have kc_42 := bI_eq rfl L_0 c_42
                          obtain ⟨i_43, ei_43⟩ : ∃ z : Int32, z = i + 1 := ⟨_, rfl⟩
                          refine lv_iinc (v := i_43) (lv' := [(5, .int i_43), (6, .int 63), (7, .int r_9), (8, .int r_8), (0, .ref (a 0)), (4, .int there)]) hx hb dX9_readCell_262 hl (k := 5) rfl (by rw [ei_43]; rfl) (by decide) rfl ?_
                          clear hl; intro ls hl
                          have ti_43 : (Int32.toInt i_43) = (Int32.toInt i) + 1 := aI_add rfl L_1 ei_43 (by have := rng i; have := rng (σ 6); omega)
                          refine lv_goto (tgt := 86) hx hb dX9_readCell_265 (by decide) ?_
                          exact ih86 there i_43 s11_c86 s10_8 f6_8 γ_9 ψ_9 _ _ _ (show (Int32.toInt (σ 5)) ≤ (Int32.toInt i_43) ∧ (Int32.toInt i_43) ≤ (Int32.toInt (σ 6)) ∧ 0 ≤ (Int32.toInt s11_c86) ∧ (Int32.toInt s11_c86) ≤ (Int32.toInt i_43) - (Int32.toInt (σ 5)) from (by omega)) (show (Int32.toInt (σ 10)) ≤ (Int32.toInt s10_8) ∧ (Int32.toInt s10_8) ≤ (Int32.toInt (σ 10)) + 5 * ((Int32.toInt i_43) - (Int32.toInt (σ 5))) from (by omega)) (show ∀ i : Nat, i < 300 → (i : Int) < (Int32.toInt s10_8) → Int32.toInt (f6_8 i) < i from (by with_reducible assumption)) (by omega) hP hS (lv_sub hl [4, 5, 0] rfl)
                        · have kc_42 := bI_ne rfl L_0 c_42
                          refine lv_aload_n hx hb dX9_readCell_230 rfl (lv_at hl 3 rfl) ?_
                          refine mg_0_46 hx hb hts hinX9 hown hK hP (hts (.fieldLink RX9 74 "CensusDeskModel" "sign" "[I") (List.mem_of_getElem? (i := 8) rfl)) dX9_readCell_231 ?_
                          refine lv_aload_n hx hb dX9_readCell_234 rfl (lv_at hl 3 rfl) ?_
                          refine mg_0_48 (v := s11_c86) hx hb hts hinX9 hown hK hP (hts (.fieldLink RX9 191 "CensusDeskModel" "signs" "I") (List.mem_of_getElem? (i := 2) rfl)) rfl dX9_readCell_235 ?_
                          refine lv_iload hx hb dX9_readCell_238 (lv_at hl 0 rfl) ?_
                          refine ms_22 (f := (ψ_9 14)) hx hb hK hP hI hS (i := s11_c86) (x := 63) (vin rfl (by omega)) rfl dX9_readCell_240 ?_
                          clear hP hS; intro H locs hP hS
                          obtain ⟨f_44, ef_44⟩ : ∃ z : Nat → Int32, z = upd (ψ_9 14) (Int32.toNatClampNeg s11_c86) 63 := ⟨_, rfl⟩
                          rw [← ef_44] at hP
                          refine lv_aload_n hx hb dX9_readCell_241 rfl (lv_at hl 3 rfl) ?_
                          refine mg_0_47 hx hb hts hinX9 hown hK hP (hts (.fieldLink RX9 77 "CensusDeskModel" "signAt" "[I") (List.mem_of_getElem? (i := 9) rfl)) dX9_readCell_242 ?_
                          refine lv_aload_n hx hb dX9_readCell_245 rfl (lv_at hl 3 rfl) ?_
                          refine mg_0_48 (v := s11_c86) hx hb hts hinX9 hown hK hP (hts (.fieldLink RX9 191 "CensusDeskModel" "signs" "I") (List.mem_of_getElem? (i := 2) rfl)) rfl dX9_readCell_246 ?_
                          refine lv_iload hx hb dX9_readCell_249 (lv_at hl 5 rfl) ?_
                          refine ms_23 (f := (ψ_9 15)) hx hb hK hP hI hS (i := s11_c86) (x := i) (vin rfl (by omega)) rfl dX9_readCell_251 ?_
                          clear hP hS; intro H locs hP hS
                          obtain ⟨f_45, ef_45⟩ : ∃ z : Nat → Int32, z = upd (ψ_9 15) (Int32.toNatClampNeg s11_c86) i := ⟨_, rfl⟩
                          rw [← ef_45] at hP
                          refine lv_aload_n hx hb dX9_readCell_252 rfl (lv_at hl 3 rfl) ?_
                          refine lv_dup hx hb dX9_readCell_253 rfl ?_
                          refine mg_0_48 (v := s11_c86) hx hb hts hinX9 hown hK hP (hts (.fieldLink RX9 191 "CensusDeskModel" "signs" "I") (List.mem_of_getElem? (i := 2) rfl)) rfl dX9_readCell_254 ?_
                          refine lv_iconst (v := 1) hx hb dX9_readCell_257 (by decide) ?_
                          refine lv_iadd hx hb dX9_readCell_258 ?_
                          refine lv_topi (fun z_46 ez_46 => ?_)
                          have tz_46 : (Int32.toInt z_46) = (Int32.toInt s11_c86) + 1 := aI_add rfl L_1 ez_46 (by have := rng s11_c86; omega)
                          refine mp_0_48 (v := z_46) hx hb hts hinX9 hown hK hP hI hS (hts (.fieldLink RX9 191 "CensusDeskModel" "signs" "I") (List.mem_of_getElem? (i := 2) rfl)) dX9_readCell_259 ?_
                          clear hP hS; intro H locs hP hS
                          obtain ⟨i_47, ei_47⟩ : ∃ z : Int32, z = i + 1 := ⟨_, rfl⟩
                          refine lv_iinc (v := i_47) (lv' := [(5, .int i_47), (6, .int 63), (7, .int r_9), (8, .int r_8), (0, .ref (a 0)), (4, .int there)]) hx hb dX9_readCell_262 hl (k := 5) rfl (by rw [ei_47]; rfl) (by decide) rfl ?_
                          clear hl; intro ls hl
                          have ti_47 : (Int32.toInt i_47) = (Int32.toInt i) + 1 := aI_add rfl L_1 ei_47 (by have := rng i; have := rng (σ 6); omega)
                          refine lv_goto (tgt := 86) hx hb dX9_readCell_265 (by decide) ?_
                          exact ih86 there i_47 z_46 s10_8 f6_8 γ_9 (up (up ψ_9 14 f_44) 15 f_45) _ _ _ (show (Int32.toInt (σ 5)) ≤ (Int32.toInt i_47) ∧ (Int32.toInt i_47) ≤ (Int32.toInt (σ 6)) ∧ 0 ≤ (Int32.toInt z_46) ∧ (Int32.toInt z_46) ≤ (Int32.toInt i_47) - (Int32.toInt (σ 5)) from (by omega)) (show (Int32.toInt (σ 10)) ≤ (Int32.toInt s10_8) ∧ (Int32.toInt s10_8) ≤ (Int32.toInt (σ 10)) + 5 * ((Int32.toInt i_47) - (Int32.toInt (σ 5))) from (by omega)) (show ∀ i : Nat, i < 300 → (i : Int) < (Int32.toInt s10_8) → Int32.toInt (f6_8 i) < i from (by with_reducible assumption)) (by omega) hP hS (lv_sub hl [4, 5, 0] rfl)
                      · have kc_41 := bI_eq rfl L_0 c_41
                        refine lv_aload_n hx hb dX9_readCell_211 rfl (lv_at hl 3 rfl) ?_
                        refine lv_bipush (v := 8) hx hb dX9_readCell_212 (by decide) ?_
                        refine lv_aload_n hx hb dX9_readCell_214 rfl (lv_at hl 3 rfl) ?_
                        refine mg_0_50 (v := (γ_9 14)) hx hb hts hinX9 hown hK hP (hts (.fieldLink RX9 200 "CensusDeskModel" "cellAt" "I") (List.mem_of_getElem? (i := 5) rfl)) rfl dX9_readCell_215 ?_
                        refine lv_iload hx hb dX9_readCell_218 (lv_at hl 2 rfl) ?_
                        refine m_calli (va_runV (As := [.int 8, .int (γ_9 14), .int r_8]) (rest := []) ⟨hx, hb, hml, hown, hts⟩ (c_X9_failField l dC dI a κ (up (up (up σ 11 s11_c86) 10 s10_c86) 10 s10_8) (up (up φ 6 f6_c86) 6 f6_8) γ_9 ψ_9 8 (γ_9 14) r_8 (show 1 ≤ (Int32.toInt 8) ∧ (Int32.toInt 8) ≤ 21 from (by have := L_8; omega)) (show (Int32.toInt r_8) < (Int32.toInt s10_8) from (by omega)) (show 0 ≤ (Int32.toInt s10_8) ∧ (Int32.toInt s10_8) ≤ 1999999960 from (by omega)) (show ∀ i : Nat, i < 300 → (i : Int) < (Int32.toInt s10_8) → Int32.toInt (f6_8 i) < i from (by with_reducible assumption))) (cwV 3 hts gX9_readCell_X9_failField rfl rfl rfl ⟨rfl, hd_X9_failField⟩ ⟨Nat.le_of_ble_eq_true rfl, Nat.le_of_ble_eq_true rfl⟩) (mPreV hP hK hI hN hS (va_recv hK hP (ci := 9) (q0 := 0) rfl rfl)) rfl rfl hl.1 rfl (lv_room (Nat.le_of_ble_eq_true rfl)) dX9_readCell_220 ⟨(by decide +kernel), (by decide +kernel)⟩) hS ?_
                        clear hP hS; intro r_48 S_48 F_48 γ_48 ψ_48 H locs hw hP hS
                        obtain ⟨s10_48, f6_48, rfl, rfl, (qf_48 : (Int32.toInt s10_8) ≤ (Int32.toInt s10_48) ∧ (Int32.toInt s10_48) ≤ (Int32.toInt s10_8) + 4), (qc_48 : ∀ i : Nat, i < 300 → (i : Int) < (Int32.toInt s10_48) → Int32.toInt (f6_48 i) < i)⟩ := hw
                        have hL8_48 := L_8
                        refine lv_istore (lv' := [(9, .int r_48), (6, .int 63), (7, .int r_9), (8, .int r_8), (0, .ref (a 0)), (4, .int there), (5, .int i)]) hx hb dX9_readCell_223 hl (by decide) rfl ?_
                        clear hl; intro ls hl
                        refine lv_iload hx hb dX9_readCell_225 (lv_at hl 2 rfl) ?_
                        refine lv_if_eq (tgt := 262) hx hb dX9_readCell_227 (by decide) (fun c_49 => ?_) (fun c_49 => ?_)
                        · have kc_49 := bI_eq rfl L_0 c_49
                          obtain ⟨i_50, ei_50⟩ : ∃ z : Int32, z = i + 1 := ⟨_, rfl⟩
                          refine lv_iinc (v := i_50) (lv' := [(5, .int i_50), (9, .int r_48), (6, .int 63), (7, .int r_9), (8, .int r_8), (0, .ref (a 0)), (4, .int there)]) hx hb dX9_readCell_262 hl (k := 6) rfl (by rw [ei_50]; rfl) (by decide) rfl ?_
                          clear hl; intro ls hl
                          have ti_50 : (Int32.toInt i_50) = (Int32.toInt i) + 1 := aI_add rfl L_1 ei_50 (by have := rng i; have := rng (σ 6); omega)
                          refine lv_goto (tgt := 86) hx hb dX9_readCell_265 (by decide) ?_
                          exact ih86 there i_50 s11_c86 s10_48 f6_48 γ_48 ψ_48 _ _ _ (show (Int32.toInt (σ 5)) ≤ (Int32.toInt i_50) ∧ (Int32.toInt i_50) ≤ (Int32.toInt (σ 6)) ∧ 0 ≤ (Int32.toInt s11_c86) ∧ (Int32.toInt s11_c86) ≤ (Int32.toInt i_50) - (Int32.toInt (σ 5)) from (by omega)) (show (Int32.toInt (σ 10)) ≤ (Int32.toInt s10_48) ∧ (Int32.toInt s10_48) ≤ (Int32.toInt (σ 10)) + 5 * ((Int32.toInt i_50) - (Int32.toInt (σ 5))) from (by omega)) (show ∀ i : Nat, i < 300 → (i : Int) < (Int32.toInt s10_48) → Int32.toInt (f6_48 i) < i from (by with_reducible assumption)) (by omega) hP hS (lv_sub hl [5, 6, 0] rfl)
                        · have kc_49 := bI_ne rfl L_0 c_49
                          refine lv_aload_n hx hb dX9_readCell_230 rfl (lv_at hl 4 rfl) ?_
                          refine mg_0_46 hx hb hts hinX9 hown hK hP (hts (.fieldLink RX9 74 "CensusDeskModel" "sign" "[I") (List.mem_of_getElem? (i := 8) rfl)) dX9_readCell_231 ?_
                          refine lv_aload_n hx hb dX9_readCell_234 rfl (lv_at hl 4 rfl) ?_
                          refine mg_0_48 (v := s11_c86) hx hb hts hinX9 hown hK hP (hts (.fieldLink RX9 191 "CensusDeskModel" "signs" "I") (List.mem_of_getElem? (i := 2) rfl)) rfl dX9_readCell_235 ?_
                          refine lv_iload hx hb dX9_readCell_238 (lv_at hl 1 rfl) ?_
                          refine ms_22 (f := (ψ_48 14)) hx hb hK hP hI hS (i := s11_c86) (x := 63) (vin rfl (by omega)) rfl dX9_readCell_240 ?_
                          clear hP hS; intro H locs hP hS
                          obtain ⟨f_51, ef_51⟩ : ∃ z : Nat → Int32, z = upd (ψ_48 14) (Int32.toNatClampNeg s11_c86) 63 := ⟨_, rfl⟩
                          rw [← ef_51] at hP
                          refine lv_aload_n hx hb dX9_readCell_241 rfl (lv_at hl 4 rfl) ?_
                          refine mg_0_47 hx hb hts hinX9 hown hK hP (hts (.fieldLink RX9 77 "CensusDeskModel" "signAt" "[I") (List.mem_of_getElem? (i := 9) rfl)) dX9_readCell_242 ?_
                          refine lv_aload_n hx hb dX9_readCell_245 rfl (lv_at hl 4 rfl) ?_
                          refine mg_0_48 (v := s11_c86) hx hb hts hinX9 hown hK hP (hts (.fieldLink RX9 191 "CensusDeskModel" "signs" "I") (List.mem_of_getElem? (i := 2) rfl)) rfl dX9_readCell_246 ?_
                          refine lv_iload hx hb dX9_readCell_249 (lv_at hl 6 rfl) ?_
                          refine ms_23 (f := (ψ_48 15)) hx hb hK hP hI hS (i := s11_c86) (x := i) (vin rfl (by omega)) rfl dX9_readCell_251 ?_
                          clear hP hS; intro H locs hP hS
                          obtain ⟨f_52, ef_52⟩ : ∃ z : Nat → Int32, z = upd (ψ_48 15) (Int32.toNatClampNeg s11_c86) i := ⟨_, rfl⟩
                          rw [← ef_52] at hP
                          refine lv_aload_n hx hb dX9_readCell_252 rfl (lv_at hl 4 rfl) ?_
                          refine lv_dup hx hb dX9_readCell_253 rfl ?_
                          refine mg_0_48 (v := s11_c86) hx hb hts hinX9 hown hK hP (hts (.fieldLink RX9 191 "CensusDeskModel" "signs" "I") (List.mem_of_getElem? (i := 2) rfl)) rfl dX9_readCell_254 ?_
                          refine lv_iconst (v := 1) hx hb dX9_readCell_257 (by decide) ?_
                          refine lv_iadd hx hb dX9_readCell_258 ?_
                          refine lv_topi (fun z_53 ez_53 => ?_)
                          have tz_53 : (Int32.toInt z_53) = (Int32.toInt s11_c86) + 1 := aI_add rfl L_1 ez_53 (by have := rng s11_c86; omega)
                          refine mp_0_48 (v := z_53) hx hb hts hinX9 hown hK hP hI hS (hts (.fieldLink RX9 191 "CensusDeskModel" "signs" "I") (List.mem_of_getElem? (i := 2) rfl)) dX9_readCell_259 ?_
                          clear hP hS; intro H locs hP hS
                          obtain ⟨i_54, ei_54⟩ : ∃ z : Int32, z = i + 1 := ⟨_, rfl⟩
                          refine lv_iinc (v := i_54) (lv' := [(5, .int i_54), (9, .int r_48), (6, .int 63), (7, .int r_9), (8, .int r_8), (0, .ref (a 0)), (4, .int there)]) hx hb dX9_readCell_262 hl (k := 6) rfl (by rw [ei_54]; rfl) (by decide) rfl ?_
                          clear hl; intro ls hl
                          have ti_54 : (Int32.toInt i_54) = (Int32.toInt i) + 1 := aI_add rfl L_1 ei_54 (by have := rng i; have := rng (σ 6); omega)
                          refine lv_goto (tgt := 86) hx hb dX9_readCell_265 (by decide) ?_
                          exact ih86 there i_54 z_53 s10_48 f6_48 γ_48 (up (up ψ_48 14 f_51) 15 f_52) _ _ _ (show (Int32.toInt (σ 5)) ≤ (Int32.toInt i_54) ∧ (Int32.toInt i_54) ≤ (Int32.toInt (σ 6)) ∧ 0 ≤ (Int32.toInt z_53) ∧ (Int32.toInt z_53) ≤ (Int32.toInt i_54) - (Int32.toInt (σ 5)) from (by omega)) (show (Int32.toInt (σ 10)) ≤ (Int32.toInt s10_48) ∧ (Int32.toInt s10_48) ≤ (Int32.toInt (σ 10)) + 5 * ((Int32.toInt i_54) - (Int32.toInt (σ 5))) from (by omega)) (show ∀ i : Nat, i < 300 → (i : Int) < (Int32.toInt s10_48) → Int32.toInt (f6_48 i) < i from (by with_reducible assumption)) (by omega) hP hS (lv_sub hl [5, 6, 0] rfl)
                    · have kc_40 := bI_nlt L_126 rfl c_40
                      refine lv_aload_n hx hb dX9_readCell_188 rfl (lv_at hl 3 rfl) ?_
                      refine mg_0_45 (v := (γ_9 12)) hx hb hts hinX9 hown hK hP (hts (.fieldLink RX9 128 "CensusDeskModel" "replaced" "I") (List.mem_of_getElem? (i := 7) rfl)) rfl dX9_readCell_189 ?_
                      refine lv_goto (tgt := 202) hx hb dX9_readCell_192 (by decide) ?_
                      refine lv_istore (lv' := [(6, .int (γ_9 12)), (7, .int r_9), (8, .int r_8), (0, .ref (a 0)), (4, .int there), (5, .int i)]) hx hb dX9_readCell_202 hl (by decide) rfl ?_
                      clear hl; intro ls hl
                      refine lv_aload_n hx hb dX9_readCell_204 rfl (lv_at hl 3 rfl) ?_
                      refine mg_0_44 (v := (γ_9 11)) hx hb hts hinX9 hown hK hP (hts (.fieldLink RX9 125 "CensusDeskModel" "way" "I") (List.mem_of_getElem? (i := 6) rfl)) rfl dX9_readCell_205 ?_
                      refine lv_if_ne (tgt := 225) hx hb dX9_readCell_208 (by decide) (fun c_55 => ?_) (fun c_55 => ?_)
                      · have kc_55 := bI_ne rfl L_0 c_55
                        refine lv_iload hx hb dX9_readCell_225 (lv_at hl 1 rfl) ?_
                        refine lv_if_eq (tgt := 262) hx hb dX9_readCell_227 (by decide) (fun c_56 => ?_) (fun c_56 => ?_)
                        · have kc_56 := bI_eq rfl L_0 c_56
                          obtain ⟨i_57, ei_57⟩ : ∃ z : Int32, z = i + 1 := ⟨_, rfl⟩
                          refine lv_iinc (v := i_57) (lv' := [(5, .int i_57), (6, .int (γ_9 12)), (7, .int r_9), (8, .int r_8), (0, .ref (a 0)), (4, .int there)]) hx hb dX9_readCell_262 hl (k := 5) rfl (by rw [ei_57]; rfl) (by decide) rfl ?_
                          clear hl; intro ls hl
                          have ti_57 : (Int32.toInt i_57) = (Int32.toInt i) + 1 := aI_add rfl L_1 ei_57 (by have := rng i; have := rng (σ 6); omega)
                          refine lv_goto (tgt := 86) hx hb dX9_readCell_265 (by decide) ?_
                          exact ih86 there i_57 s11_c86 s10_8 f6_8 γ_9 ψ_9 _ _ _ (show (Int32.toInt (σ 5)) ≤ (Int32.toInt i_57) ∧ (Int32.toInt i_57) ≤ (Int32.toInt (σ 6)) ∧ 0 ≤ (Int32.toInt s11_c86) ∧ (Int32.toInt s11_c86) ≤ (Int32.toInt i_57) - (Int32.toInt (σ 5)) from (by omega)) (show (Int32.toInt (σ 10)) ≤ (Int32.toInt s10_8) ∧ (Int32.toInt s10_8) ≤ (Int32.toInt (σ 10)) + 5 * ((Int32.toInt i_57) - (Int32.toInt (σ 5))) from (by omega)) (show ∀ i : Nat, i < 300 → (i : Int) < (Int32.toInt s10_8) → Int32.toInt (f6_8 i) < i from (by with_reducible assumption)) (by omega) hP hS (lv_sub hl [4, 5, 0] rfl)
                        · have kc_56 := bI_ne rfl L_0 c_56
                          refine lv_aload_n hx hb dX9_readCell_230 rfl (lv_at hl 3 rfl) ?_
                          refine mg_0_46 hx hb hts hinX9 hown hK hP (hts (.fieldLink RX9 74 "CensusDeskModel" "sign" "[I") (List.mem_of_getElem? (i := 8) rfl)) dX9_readCell_231 ?_
                          refine lv_aload_n hx hb dX9_readCell_234 rfl (lv_at hl 3 rfl) ?_
                          refine mg_0_48 (v := s11_c86) hx hb hts hinX9 hown hK hP (hts (.fieldLink RX9 191 "CensusDeskModel" "signs" "I") (List.mem_of_getElem? (i := 2) rfl)) rfl dX9_readCell_235 ?_
                          refine lv_iload hx hb dX9_readCell_238 (lv_at hl 0 rfl) ?_
                          refine ms_22 (f := (ψ_9 14)) hx hb hK hP hI hS (i := s11_c86) (x := (γ_9 12)) (vin rfl (by omega)) rfl dX9_readCell_240 ?_
                          clear hP hS; intro H locs hP hS
                          obtain ⟨f_58, ef_58⟩ : ∃ z : Nat → Int32, z = upd (ψ_9 14) (Int32.toNatClampNeg s11_c86) (γ_9 12) := ⟨_, rfl⟩
                          rw [← ef_58] at hP
                          refine lv_aload_n hx hb dX9_readCell_241 rfl (lv_at hl 3 rfl) ?_
                          refine mg_0_47 hx hb hts hinX9 hown hK hP (hts (.fieldLink RX9 77 "CensusDeskModel" "signAt" "[I") (List.mem_of_getElem? (i := 9) rfl)) dX9_readCell_242 ?_
                          refine lv_aload_n hx hb dX9_readCell_245 rfl (lv_at hl 3 rfl) ?_
                          refine mg_0_48 (v := s11_c86) hx hb hts hinX9 hown hK hP (hts (.fieldLink RX9 191 "CensusDeskModel" "signs" "I") (List.mem_of_getElem? (i := 2) rfl)) rfl dX9_readCell_246 ?_
                          refine lv_iload hx hb dX9_readCell_249 (lv_at hl 5 rfl) ?_
                          refine ms_23 (f := (ψ_9 15)) hx hb hK hP hI hS (i := s11_c86) (x := i) (vin rfl (by omega)) rfl dX9_readCell_251 ?_
                          clear hP hS; intro H locs hP hS
                          obtain ⟨f_59, ef_59⟩ : ∃ z : Nat → Int32, z = upd (ψ_9 15) (Int32.toNatClampNeg s11_c86) i := ⟨_, rfl⟩
                          rw [← ef_59] at hP
                          refine lv_aload_n hx hb dX9_readCell_252 rfl (lv_at hl 3 rfl) ?_
                          refine lv_dup hx hb dX9_readCell_253 rfl ?_
                          refine mg_0_48 (v := s11_c86) hx hb hts hinX9 hown hK hP (hts (.fieldLink RX9 191 "CensusDeskModel" "signs" "I") (List.mem_of_getElem? (i := 2) rfl)) rfl dX9_readCell_254 ?_
                          refine lv_iconst (v := 1) hx hb dX9_readCell_257 (by decide) ?_
                          refine lv_iadd hx hb dX9_readCell_258 ?_
                          refine lv_topi (fun z_60 ez_60 => ?_)
                          have tz_60 : (Int32.toInt z_60) = (Int32.toInt s11_c86) + 1 := aI_add rfl L_1 ez_60 (by have := rng s11_c86; omega)
                          refine mp_0_48 (v := z_60) hx hb hts hinX9 hown hK hP hI hS (hts (.fieldLink RX9 191 "CensusDeskModel" "signs" "I") (List.mem_of_getElem? (i := 2) rfl)) dX9_readCell_259 ?_
                          clear hP hS; intro H locs hP hS
                          obtain ⟨i_61, ei_61⟩ : ∃ z : Int32, z = i + 1 := ⟨_, rfl⟩
                          refine lv_iinc (v := i_61) (lv' := [(5, .int i_61), (6, .int (γ_9 12)), (7, .int r_9), (8, .int r_8), (0, .ref (a 0)), (4, .int there)]) hx hb dX9_readCell_262 hl (k := 5) rfl (by rw [ei_61]; rfl) (by decide) rfl ?_
                          clear hl; intro ls hl
                          have ti_61 : (Int32.toInt i_61) = (Int32.toInt i) + 1 := aI_add rfl L_1 ei_61 (by have := rng i; have := rng (σ 6); omega)
                          refine lv_goto (tgt := 86) hx hb dX9_readCell_265 (by decide) ?_
                          exact ih86 there i_61 z_60 s10_8 f6_8 γ_9 (up (up ψ_9 14 f_58) 15 f_59) _ _ _ (show (Int32.toInt (σ 5)) ≤ (Int32.toInt i_61) ∧ (Int32.toInt i_61) ≤ (Int32.toInt (σ 6)) ∧ 0 ≤ (Int32.toInt z_60) ∧ (Int32.toInt z_60) ≤ (Int32.toInt i_61) - (Int32.toInt (σ 5)) from (by omega)) (show (Int32.toInt (σ 10)) ≤ (Int32.toInt s10_8) ∧ (Int32.toInt s10_8) ≤ (Int32.toInt (σ 10)) + 5 * ((Int32.toInt i_61) - (Int32.toInt (σ 5))) from (by omega)) (show ∀ i : Nat, i < 300 → (i : Int) < (Int32.toInt s10_8) → Int32.toInt (f6_8 i) < i from (by with_reducible assumption)) (by omega) hP hS (lv_sub hl [4, 5, 0] rfl)
                      · have kc_55 := bI_eq rfl L_0 c_55
                        refine lv_aload_n hx hb dX9_readCell_211 rfl (lv_at hl 3 rfl) ?_
                        refine lv_bipush (v := 8) hx hb dX9_readCell_212 (by decide) ?_
                        refine lv_aload_n hx hb dX9_readCell_214 rfl (lv_at hl 3 rfl) ?_
                        refine mg_0_50 (v := (γ_9 14)) hx hb hts hinX9 hown hK hP (hts (.fieldLink RX9 200 "CensusDeskModel" "cellAt" "I") (List.mem_of_getElem? (i := 5) rfl)) rfl dX9_readCell_215 ?_
                        refine lv_iload hx hb dX9_readCell_218 (lv_at hl 2 rfl) ?_
                        refine m_calli (va_runV (As := [.int 8, .int (γ_9 14), .int r_8]) (rest := []) ⟨hx, hb, hml, hown, hts⟩ (c_X9_failField l dC dI a κ (up (up (up σ 11 s11_c86) 10 s10_c86) 10 s10_8) (up (up φ 6 f6_c86) 6 f6_8) γ_9 ψ_9 8 (γ_9 14) r_8 (show 1 ≤ (Int32.toInt 8) ∧ (Int32.toInt 8) ≤ 21 from (by have := L_8; omega)) (show (Int32.toInt r_8) < (Int32.toInt s10_8) from (by omega)) (show 0 ≤ (Int32.toInt s10_8) ∧ (Int32.toInt s10_8) ≤ 1999999960 from (by omega)) (show ∀ i : Nat, i < 300 → (i : Int) < (Int32.toInt s10_8) → Int32.toInt (f6_8 i) < i from (by with_reducible assumption))) (cwV 3 hts gX9_readCell_X9_failField rfl rfl rfl ⟨rfl, hd_X9_failField⟩ ⟨Nat.le_of_ble_eq_true rfl, Nat.le_of_ble_eq_true rfl⟩) (mPreV hP hK hI hN hS (va_recv hK hP (ci := 9) (q0 := 0) rfl rfl)) rfl rfl hl.1 rfl (lv_room (Nat.le_of_ble_eq_true rfl)) dX9_readCell_220 ⟨(by decide +kernel), (by decide +kernel)⟩) hS ?_
                        clear hP hS; intro r_62 S_62 F_62 γ_62 ψ_62 H locs hw hP hS
                        obtain ⟨s10_62, f6_62, rfl, rfl, (qf_62 : (Int32.toInt s10_8) ≤ (Int32.toInt s10_62) ∧ (Int32.toInt s10_62) ≤ (Int32.toInt s10_8) + 4), (qc_62 : ∀ i : Nat, i < 300 → (i : Int) < (Int32.toInt s10_62) → Int32.toInt (f6_62 i) < i)⟩ := hw
                        have hL8_62 := L_8
                        refine lv_istore (lv' := [(9, .int r_62), (6, .int (γ_9 12)), (7, .int r_9), (8, .int r_8), (0, .ref (a 0)), (4, .int there), (5, .int i)]) hx hb dX9_readCell_223 hl (by decide) rfl ?_
                        clear hl; intro ls hl
                        refine lv_iload hx hb dX9_readCell_225 (lv_at hl 2 rfl) ?_
                        refine lv_if_eq (tgt := 262) hx hb dX9_readCell_227 (by decide) (fun c_63 => ?_) (fun c_63 => ?_)
                        · have kc_63 := bI_eq rfl L_0 c_63
                          obtain ⟨i_64, ei_64⟩ : ∃ z : Int32, z = i + 1 := ⟨_, rfl⟩
                          refine lv_iinc (v := i_64) (lv' := [(5, .int i_64), (9, .int r_62), (6, .int (γ_9 12)), (7, .int r_9), (8, .int r_8), (0, .ref (a 0)), (4, .int there)]) hx hb dX9_readCell_262 hl (k := 6) rfl (by rw [ei_64]; rfl) (by decide) rfl ?_
                          clear hl; intro ls hl
                          have ti_64 : (Int32.toInt i_64) = (Int32.toInt i) + 1 := aI_add rfl L_1 ei_64 (by have := rng i; have := rng (σ 6); omega)
                          refine lv_goto (tgt := 86) hx hb dX9_readCell_265 (by decide) ?_
                          exact ih86 there i_64 s11_c86 s10_62 f6_62 γ_62 ψ_62 _ _ _ (show (Int32.toInt (σ 5)) ≤ (Int32.toInt i_64) ∧ (Int32.toInt i_64) ≤ (Int32.toInt (σ 6)) ∧ 0 ≤ (Int32.toInt s11_c86) ∧ (Int32.toInt s11_c86) ≤ (Int32.toInt i_64) - (Int32.toInt (σ 5)) from (by omega)) (show (Int32.toInt (σ 10)) ≤ (Int32.toInt s10_62) ∧ (Int32.toInt s10_62) ≤ (Int32.toInt (σ 10)) + 5 * ((Int32.toInt i_64) - (Int32.toInt (σ 5))) from (by omega)) (show ∀ i : Nat, i < 300 → (i : Int) < (Int32.toInt s10_62) → Int32.toInt (f6_62 i) < i from (by with_reducible assumption)) (by omega) hP hS (lv_sub hl [5, 6, 0] rfl)
                        · have kc_63 := bI_ne rfl L_0 c_63
                          refine lv_aload_n hx hb dX9_readCell_230 rfl (lv_at hl 4 rfl) ?_
                          refine mg_0_46 hx hb hts hinX9 hown hK hP (hts (.fieldLink RX9 74 "CensusDeskModel" "sign" "[I") (List.mem_of_getElem? (i := 8) rfl)) dX9_readCell_231 ?_
                          refine lv_aload_n hx hb dX9_readCell_234 rfl (lv_at hl 4 rfl) ?_
                          refine mg_0_48 (v := s11_c86) hx hb hts hinX9 hown hK hP (hts (.fieldLink RX9 191 "CensusDeskModel" "signs" "I") (List.mem_of_getElem? (i := 2) rfl)) rfl dX9_readCell_235 ?_
                          refine lv_iload hx hb dX9_readCell_238 (lv_at hl 1 rfl) ?_
                          refine ms_22 (f := (ψ_62 14)) hx hb hK hP hI hS (i := s11_c86) (x := (γ_9 12)) (vin rfl (by omega)) rfl dX9_readCell_240 ?_
                          clear hP hS; intro H locs hP hS
                          obtain ⟨f_65, ef_65⟩ : ∃ z : Nat → Int32, z = upd (ψ_62 14) (Int32.toNatClampNeg s11_c86) (γ_9 12) := ⟨_, rfl⟩
                          rw [← ef_65] at hP
                          refine lv_aload_n hx hb dX9_readCell_241 rfl (lv_at hl 4 rfl) ?_
                          refine mg_0_47 hx hb hts hinX9 hown hK hP (hts (.fieldLink RX9 77 "CensusDeskModel" "signAt" "[I") (List.mem_of_getElem? (i := 9) rfl)) dX9_readCell_242 ?_
                          refine lv_aload_n hx hb dX9_readCell_245 rfl (lv_at hl 4 rfl) ?_
                          refine mg_0_48 (v := s11_c86) hx hb hts hinX9 hown hK hP (hts (.fieldLink RX9 191 "CensusDeskModel" "signs" "I") (List.mem_of_getElem? (i := 2) rfl)) rfl dX9_readCell_246 ?_
                          refine lv_iload hx hb dX9_readCell_249 (lv_at hl 6 rfl) ?_
                          refine ms_23 (f := (ψ_62 15)) hx hb hK hP hI hS (i := s11_c86) (x := i) (vin rfl (by omega)) rfl dX9_readCell_251 ?_
                          clear hP hS; intro H locs hP hS
                          obtain ⟨f_66, ef_66⟩ : ∃ z : Nat → Int32, z = upd (ψ_62 15) (Int32.toNatClampNeg s11_c86) i := ⟨_, rfl⟩
                          rw [← ef_66] at hP
                          refine lv_aload_n hx hb dX9_readCell_252 rfl (lv_at hl 4 rfl) ?_
                          refine lv_dup hx hb dX9_readCell_253 rfl ?_
                          refine mg_0_48 (v := s11_c86) hx hb hts hinX9 hown hK hP (hts (.fieldLink RX9 191 "CensusDeskModel" "signs" "I") (List.mem_of_getElem? (i := 2) rfl)) rfl dX9_readCell_254 ?_
                          refine lv_iconst (v := 1) hx hb dX9_readCell_257 (by decide) ?_
                          refine lv_iadd hx hb dX9_readCell_258 ?_
                          refine lv_topi (fun z_67 ez_67 => ?_)
                          have tz_67 : (Int32.toInt z_67) = (Int32.toInt s11_c86) + 1 := aI_add rfl L_1 ez_67 (by have := rng s11_c86; omega)
                          refine mp_0_48 (v := z_67) hx hb hts hinX9 hown hK hP hI hS (hts (.fieldLink RX9 191 "CensusDeskModel" "signs" "I") (List.mem_of_getElem? (i := 2) rfl)) dX9_readCell_259 ?_
                          clear hP hS; intro H locs hP hS
                          obtain ⟨i_68, ei_68⟩ : ∃ z : Int32, z = i + 1 := ⟨_, rfl⟩
                          refine lv_iinc (v := i_68) (lv' := [(5, .int i_68), (9, .int r_62), (6, .int (γ_9 12)), (7, .int r_9), (8, .int r_8), (0, .ref (a 0)), (4, .int there)]) hx hb dX9_readCell_262 hl (k := 6) rfl (by rw [ei_68]; rfl) (by decide) rfl ?_
                          clear hl; intro ls hl
                          have ti_68 : (Int32.toInt i_68) = (Int32.toInt i) + 1 := aI_add rfl L_1 ei_68 (by have := rng i; have := rng (σ 6); omega)
                          refine lv_goto (tgt := 86) hx hb dX9_readCell_265 (by decide) ?_
                          exact ih86 there i_68 z_67 s10_62 f6_62 γ_62 (up (up ψ_62 14 f_65) 15 f_66) _ _ _ (show (Int32.toInt (σ 5)) ≤ (Int32.toInt i_68) ∧ (Int32.toInt i_68) ≤ (Int32.toInt (σ 6)) ∧ 0 ≤ (Int32.toInt z_67) ∧ (Int32.toInt z_67) ≤ (Int32.toInt i_68) - (Int32.toInt (σ 5)) from (by omega)) (show (Int32.toInt (σ 10)) ≤ (Int32.toInt s10_62) ∧ (Int32.toInt s10_62) ≤ (Int32.toInt (σ 10)) + 5 * ((Int32.toInt i_68) - (Int32.toInt (σ 5))) from (by omega)) (show ∀ i : Nat, i < 300 → (i : Int) < (Int32.toInt s10_62) → Int32.toInt (f6_62 i) < i from (by with_reducible assumption)) (by omega) hP hS (lv_sub hl [5, 6, 0] rfl)
              · have kc_7 := bI_nlt rfl L_32 c_7
                refine lv_iload hx hb dX9_readCell_136 (lv_at hl 1 rfl) ?_
                refine lv_bipush (v := 126) hx hb dX9_readCell_138 (by decide) ?_
                refine lv_icmp_le (tgt := 225) hx hb dX9_readCell_140 (by decide) (fun c_69 => ?_) (fun c_69 => ?_)
                · have kc_69 := bI_le rfl L_126 c_69
                  refine lv_iload hx hb dX9_readCell_225 (lv_at hl 0 rfl) ?_
                  refine lv_if_eq (tgt := 262) hx hb dX9_readCell_227 (by decide) (fun c_70 => absurd c_70 (by decide)) (fun c_70 => ?_)
                  refine lv_aload_n hx hb dX9_readCell_230 rfl (lv_at hl 2 rfl) ?_
                  refine mg_0_46 hx hb hts hinX9 hown hK hP (hts (.fieldLink RX9 74 "CensusDeskModel" "sign" "[I") (List.mem_of_getElem? (i := 8) rfl)) dX9_readCell_231 ?_
                  refine lv_aload_n hx hb dX9_readCell_234 rfl (lv_at hl 2 rfl) ?_
                  refine mg_0_48 (v := s11_c86) hx hb hts hinX9 hown hK hP (hts (.fieldLink RX9 191 "CensusDeskModel" "signs" "I") (List.mem_of_getElem? (i := 2) rfl)) rfl dX9_readCell_235 ?_
                  refine lv_iload hx hb dX9_readCell_238 (lv_at hl 1 rfl) ?_
                  refine ms_22 (f := (ψ_6 14)) hx hb hK hP hI hS (i := s11_c86) (x := r_6) (vin rfl (by omega)) rfl dX9_readCell_240 ?_
                  clear hP hS; intro H locs hP hS
                  obtain ⟨f_71, ef_71⟩ : ∃ z : Nat → Int32, z = upd (ψ_6 14) (Int32.toNatClampNeg s11_c86) r_6 := ⟨_, rfl⟩
                  rw [← ef_71] at hP
                  refine lv_aload_n hx hb dX9_readCell_241 rfl (lv_at hl 2 rfl) ?_
                  refine mg_0_47 hx hb hts hinX9 hown hK hP (hts (.fieldLink RX9 77 "CensusDeskModel" "signAt" "[I") (List.mem_of_getElem? (i := 9) rfl)) dX9_readCell_242 ?_
                  refine lv_aload_n hx hb dX9_readCell_245 rfl (lv_at hl 2 rfl) ?_
                  refine mg_0_48 (v := s11_c86) hx hb hts hinX9 hown hK hP (hts (.fieldLink RX9 191 "CensusDeskModel" "signs" "I") (List.mem_of_getElem? (i := 2) rfl)) rfl dX9_readCell_246 ?_
                  refine lv_iload hx hb dX9_readCell_249 (lv_at hl 4 rfl) ?_
                  refine ms_23 (f := (ψ_6 15)) hx hb hK hP hI hS (i := s11_c86) (x := i) (vin rfl (by omega)) rfl dX9_readCell_251 ?_
                  clear hP hS; intro H locs hP hS
                  obtain ⟨f_72, ef_72⟩ : ∃ z : Nat → Int32, z = upd (ψ_6 15) (Int32.toNatClampNeg s11_c86) i := ⟨_, rfl⟩
                  rw [← ef_72] at hP
                  refine lv_aload_n hx hb dX9_readCell_252 rfl (lv_at hl 2 rfl) ?_
                  refine lv_dup hx hb dX9_readCell_253 rfl ?_
                  refine mg_0_48 (v := s11_c86) hx hb hts hinX9 hown hK hP (hts (.fieldLink RX9 191 "CensusDeskModel" "signs" "I") (List.mem_of_getElem? (i := 2) rfl)) rfl dX9_readCell_254 ?_
                  refine lv_iconst (v := 1) hx hb dX9_readCell_257 (by decide) ?_
                  refine lv_iadd hx hb dX9_readCell_258 ?_
                  refine lv_topi (fun z_73 ez_73 => ?_)
                  have tz_73 : (Int32.toInt z_73) = (Int32.toInt s11_c86) + 1 := aI_add rfl L_1 ez_73 (by have := rng s11_c86; omega)
                  refine mp_0_48 (v := z_73) hx hb hts hinX9 hown hK hP hI hS (hts (.fieldLink RX9 191 "CensusDeskModel" "signs" "I") (List.mem_of_getElem? (i := 2) rfl)) dX9_readCell_259 ?_
                  clear hP hS; intro H locs hP hS
                  obtain ⟨i_74, ei_74⟩ : ∃ z : Int32, z = i + 1 := ⟨_, rfl⟩
                  refine lv_iinc (v := i_74) (lv' := [(5, .int i_74), (7, .int 1), (6, .int r_6), (0, .ref (a 0)), (4, .int there)]) hx hb dX9_readCell_262 hl (k := 4) rfl (by rw [ei_74]; rfl) (by decide) rfl ?_
                  clear hl; intro ls hl
                  have ti_74 : (Int32.toInt i_74) = (Int32.toInt i) + 1 := aI_add rfl L_1 ei_74 (by have := rng i; have := rng (σ 6); omega)
                  refine lv_goto (tgt := 86) hx hb dX9_readCell_265 (by decide) ?_
                  exact ih86 there i_74 z_73 s10_c86 f6_c86 γ_6 (up (up ψ_6 14 f_71) 15 f_72) _ _ _ (show (Int32.toInt (σ 5)) ≤ (Int32.toInt i_74) ∧ (Int32.toInt i_74) ≤ (Int32.toInt (σ 6)) ∧ 0 ≤ (Int32.toInt z_73) ∧ (Int32.toInt z_73) ≤ (Int32.toInt i_74) - (Int32.toInt (σ 5)) from (by omega)) (show (Int32.toInt (σ 10)) ≤ (Int32.toInt s10_c86) ∧ (Int32.toInt s10_c86) ≤ (Int32.toInt (σ 10)) + 5 * ((Int32.toInt i_74) - (Int32.toInt (σ 5))) from (by omega)) (show ∀ i : Nat, i < 300 → (i : Int) < (Int32.toInt s10_c86) → Int32.toInt (f6_c86 i) < i from (by with_reducible assumption)) (by omega) hP hS (lv_sub hl [3, 4, 0] rfl)
                · have kc_69 := bI_nle rfl L_126 c_69
                  refine lv_aload_n hx hb dX9_readCell_143 rfl (lv_at hl 2 rfl) ?_
                  refine lv_iconst (v := 1) hx hb dX9_readCell_144 (by decide) ?_
                  refine lv_iload hx hb dX9_readCell_145 (lv_at hl 4 rfl) ?_
                  refine lv_iconst (v := (-1)) hx hb dX9_readCell_147 (by decide) ?_
                  refine m_calli (va_runV (As := [.int 1, .int i, .int (-1)]) (rest := []) ⟨hx, hb, hml, hown, hts⟩ (c_X9_fail l dC dI a κ (up (up σ 11 s11_c86) 10 s10_c86) (up φ 6 f6_c86) γ_6 ψ_6 1 i (-1) (show 1 ≤ (Int32.toInt 1) ∧ (Int32.toInt 1) ≤ 21 from (by have := L_1; omega)) (show (Int32.toInt (-1)) < (Int32.toInt s10_c86) from (by have := L_m1; omega)) (show 0 ≤ (Int32.toInt s10_c86) ∧ (Int32.toInt s10_c86) ≤ 2000000000 from (by omega)) (show ∀ i : Nat, i < 300 → (i : Int) < (Int32.toInt s10_c86) → Int32.toInt (f6_c86 i) < i from (by with_reducible assumption))) (cwV 3 hts gX9_readCell_X9_fail rfl rfl rfl ⟨rfl, hd_X9_fail⟩ ⟨Nat.le_of_ble_eq_true rfl, Nat.le_of_ble_eq_true rfl⟩) (mPreV hP hK hI hN hS (va_recv hK hP (ci := 9) (q0 := 0) rfl rfl)) rfl rfl hl.1 rfl (lv_room (Nat.le_of_ble_eq_true rfl)) dX9_readCell_148 ⟨(by decide +kernel), (by decide +kernel)⟩) hS ?_
                  clear hP hS; intro r_75 S_75 F_75 γ_75 ψ_75 H locs hw hP hS
                  obtain ⟨s10_75, f6_75, rfl, rfl, (qr_75 : (Int32.toInt r_75) = (Int32.toInt s10_c86) ∧ (Int32.toInt s10_75) = (Int32.toInt s10_c86) + 1), (qc_75 : ∀ i : Nat, i < 300 → (i : Int) < (Int32.toInt s10_75) → Int32.toInt (f6_75 i) < i)⟩ := hw
                  have hLm1_75 := L_m1
                  have hL1_75 := L_1
                  refine lv_istore (lv' := [(8, .int r_75), (7, .int 1), (6, .int r_6), (0, .ref (a 0)), (4, .int there), (5, .int i)]) hx hb dX9_readCell_151 hl (by decide) rfl ?_
                  clear hl; intro ls hl
                  refine lv_aload_n hx hb dX9_readCell_153 rfl (lv_at hl 3 rfl) ?_
                  refine mg_0_44 (v := (γ_75 11)) hx hb hts hinX9 hown hK hP (hts (.fieldLink RX9 125 "CensusDeskModel" "way" "I") (List.mem_of_getElem? (i := 6) rfl)) rfl dX9_readCell_154 ?_
                  refine m_calli (va_runS (As := [.int (γ_75 11)]) (rest := []) ⟨hx, hb, hml, hown, hts⟩ (c_X9_goesOn l dC dI a κ (up (up (up σ 11 s11_c86) 10 s10_c86) 10 s10_75) (up (up φ 6 f6_c86) 6 f6_75) γ_75 ψ_75 (γ_75 11) ) (va_cwS 1 hts gX9_readCell_X9_goesOn rfl rfl rfl hd_X9_goesOn ⟨Nat.le_of_ble_eq_true rfl, Nat.le_of_ble_eq_true rfl⟩) (mPreS hP hK hI hN hS) rfl rfl hl.1 rfl (lv_room (Nat.le_of_ble_eq_true rfl)) dX9_readCell_157 ⟨(by decide +kernel), (by decide +kernel)⟩) hS ?_
                  clear hP hS; intro r_76 S_76 F_76 γ_76 ψ_76 H locs hw hP hS
                  obtain ⟨rfl, rfl, -⟩ := hw
                  refine lv_istore (lv' := [(7, .int r_76), (8, .int r_75), (6, .int r_6), (0, .ref (a 0)), (4, .int there), (5, .int i)]) hx hb dX9_readCell_160 hl (by decide) rfl ?_
                  clear hl; intro ls hl
                  refine lv_aload_n hx hb dX9_readCell_162 rfl (lv_at hl 3 rfl) ?_
                  refine mg_0_44 (v := (γ_76 11)) hx hb hts hinX9 hown hK hP (hts (.fieldLink RX9 125 "CensusDeskModel" "way" "I") (List.mem_of_getElem? (i := 6) rfl)) rfl dX9_readCell_163 ?_
                  refine lv_iconst (v := 2) hx hb dX9_readCell_166 (by decide) ?_
                  refine lv_icmp_ne (tgt := 200) hx hb dX9_readCell_167 (by decide) (fun c_77 => ?_) (fun c_77 => ?_)
                  · have kc_77 := bI_ne rfl L_2 c_77
                    refine lv_iload hx hb dX9_readCell_200 (lv_at hl 2 rfl) ?_
                    refine lv_istore (lv' := [(6, .int r_6), (7, .int r_76), (8, .int r_75), (0, .ref (a 0)), (4, .int there), (5, .int i)]) hx hb dX9_readCell_202 hl (by decide) rfl ?_
                    clear hl; intro ls hl
                    refine lv_aload_n hx hb dX9_readCell_204 rfl (lv_at hl 3 rfl) ?_
                    refine mg_0_44 (v := (γ_76 11)) hx hb hts hinX9 hown hK hP (hts (.fieldLink RX9 125 "CensusDeskModel" "way" "I") (List.mem_of_getElem? (i := 6) rfl)) rfl dX9_readCell_205 ?_
                    refine lv_if_ne (tgt := 225) hx hb dX9_readCell_208 (by decide) (fun c_78 => ?_) (fun c_78 => ?_)
                    · have kc_78 := bI_ne rfl L_0 c_78
                      refine lv_iload hx hb dX9_readCell_225 (lv_at hl 1 rfl) ?_
                      refine lv_if_eq (tgt := 262) hx hb dX9_readCell_227 (by decide) (fun c_79 => ?_) (fun c_79 => ?_)
                      · have kc_79 := bI_eq rfl L_0 c_79
                        obtain ⟨i_80, ei_80⟩ : ∃ z : Int32, z = i + 1 := ⟨_, rfl⟩
                        refine lv_iinc (v := i_80) (lv' := [(5, .int i_80), (6, .int r_6), (7, .int r_76), (8, .int r_75), (0, .ref (a 0)), (4, .int there)]) hx hb dX9_readCell_262 hl (k := 5) rfl (by rw [ei_80]; rfl) (by decide) rfl ?_
                        clear hl; intro ls hl
                        have ti_80 : (Int32.toInt i_80) = (Int32.toInt i) + 1 := aI_add rfl L_1 ei_80 (by have := rng i; have := rng (σ 6); omega)
                        refine lv_goto (tgt := 86) hx hb dX9_readCell_265 (by decide) ?_
                        exact ih86 there i_80 s11_c86 s10_75 f6_75 γ_76 ψ_76 _ _ _ (show (Int32.toInt (σ 5)) ≤ (Int32.toInt i_80) ∧ (Int32.toInt i_80) ≤ (Int32.toInt (σ 6)) ∧ 0 ≤ (Int32.toInt s11_c86) ∧ (Int32.toInt s11_c86) ≤ (Int32.toInt i_80) - (Int32.toInt (σ 5)) from (by omega)) (show (Int32.toInt (σ 10)) ≤ (Int32.toInt s10_75) ∧ (Int32.toInt s10_75) ≤ (Int32.toInt (σ 10)) + 5 * ((Int32.toInt i_80) - (Int32.toInt (σ 5))) from (by omega)) (show ∀ i : Nat, i < 300 → (i : Int) < (Int32.toInt s10_75) → Int32.toInt (f6_75 i) < i from (by with_reducible assumption)) (by omega) hP hS (lv_sub hl [4, 5, 0] rfl)
                      · have kc_79 := bI_ne rfl L_0 c_79
                        refine lv_aload_n hx hb dX9_readCell_230 rfl (lv_at hl 3 rfl) ?_
                        refine mg_0_46 hx hb hts hinX9 hown hK hP (hts (.fieldLink RX9 74 "CensusDeskModel" "sign" "[I") (List.mem_of_getElem? (i := 8) rfl)) dX9_readCell_231 ?_
                        refine lv_aload_n hx hb dX9_readCell_234 rfl (lv_at hl 3 rfl) ?_
                        refine mg_0_48 (v := s11_c86) hx hb hts hinX9 hown hK hP (hts (.fieldLink RX9 191 "CensusDeskModel" "signs" "I") (List.mem_of_getElem? (i := 2) rfl)) rfl dX9_readCell_235 ?_
                        refine lv_iload hx hb dX9_readCell_238 (lv_at hl 0 rfl) ?_
                        refine ms_22 (f := (ψ_76 14)) hx hb hK hP hI hS (i := s11_c86) (x := r_6) (vin rfl (by omega)) rfl dX9_readCell_240 ?_
                        clear hP hS; intro H locs hP hS
                        obtain ⟨f_81, ef_81⟩ : ∃ z : Nat → Int32, z = upd (ψ_76 14) (Int32.toNatClampNeg s11_c86) r_6 := ⟨_, rfl⟩
                        rw [← ef_81] at hP
                        refine lv_aload_n hx hb dX9_readCell_241 rfl (lv_at hl 3 rfl) ?_
                        refine mg_0_47 hx hb hts hinX9 hown hK hP (hts (.fieldLink RX9 77 "CensusDeskModel" "signAt" "[I") (List.mem_of_getElem? (i := 9) rfl)) dX9_readCell_242 ?_
                        refine lv_aload_n hx hb dX9_readCell_245 rfl (lv_at hl 3 rfl) ?_
                        refine mg_0_48 (v := s11_c86) hx hb hts hinX9 hown hK hP (hts (.fieldLink RX9 191 "CensusDeskModel" "signs" "I") (List.mem_of_getElem? (i := 2) rfl)) rfl dX9_readCell_246 ?_
                        refine lv_iload hx hb dX9_readCell_249 (lv_at hl 5 rfl) ?_
                        refine ms_23 (f := (ψ_76 15)) hx hb hK hP hI hS (i := s11_c86) (x := i) (vin rfl (by omega)) rfl dX9_readCell_251 ?_
                        clear hP hS; intro H locs hP hS
                        obtain ⟨f_82, ef_82⟩ : ∃ z : Nat → Int32, z = upd (ψ_76 15) (Int32.toNatClampNeg s11_c86) i := ⟨_, rfl⟩
                        rw [← ef_82] at hP
                        refine lv_aload_n hx hb dX9_readCell_252 rfl (lv_at hl 3 rfl) ?_
                        refine lv_dup hx hb dX9_readCell_253 rfl ?_
                        refine mg_0_48 (v := s11_c86) hx hb hts hinX9 hown hK hP (hts (.fieldLink RX9 191 "CensusDeskModel" "signs" "I") (List.mem_of_getElem? (i := 2) rfl)) rfl dX9_readCell_254 ?_
                        refine lv_iconst (v := 1) hx hb dX9_readCell_257 (by decide) ?_
                        refine lv_iadd hx hb dX9_readCell_258 ?_
                        refine lv_topi (fun z_83 ez_83 => ?_)
                        have tz_83 : (Int32.toInt z_83) = (Int32.toInt s11_c86) + 1 := aI_add rfl L_1 ez_83 (by have := rng s11_c86; omega)
                        refine mp_0_48 (v := z_83) hx hb hts hinX9 hown hK hP hI hS (hts (.fieldLink RX9 191 "CensusDeskModel" "signs" "I") (List.mem_of_getElem? (i := 2) rfl)) dX9_readCell_259 ?_
                        clear hP hS; intro H locs hP hS
                        obtain ⟨i_84, ei_84⟩ : ∃ z : Int32, z = i + 1 := ⟨_, rfl⟩
                        refine lv_iinc (v := i_84) (lv' := [(5, .int i_84), (6, .int r_6), (7, .int r_76), (8, .int r_75), (0, .ref (a 0)), (4, .int there)]) hx hb dX9_readCell_262 hl (k := 5) rfl (by rw [ei_84]; rfl) (by decide) rfl ?_
                        clear hl; intro ls hl
                        have ti_84 : (Int32.toInt i_84) = (Int32.toInt i) + 1 := aI_add rfl L_1 ei_84 (by have := rng i; have := rng (σ 6); omega)
                        refine lv_goto (tgt := 86) hx hb dX9_readCell_265 (by decide) ?_
                        exact ih86 there i_84 z_83 s10_75 f6_75 γ_76 (up (up ψ_76 14 f_81) 15 f_82) _ _ _ (show (Int32.toInt (σ 5)) ≤ (Int32.toInt i_84) ∧ (Int32.toInt i_84) ≤ (Int32.toInt (σ 6)) ∧ 0 ≤ (Int32.toInt z_83) ∧ (Int32.toInt z_83) ≤ (Int32.toInt i_84) - (Int32.toInt (σ 5)) from (by omega)) (show (Int32.toInt (σ 10)) ≤ (Int32.toInt s10_75) ∧ (Int32.toInt s10_75) ≤ (Int32.toInt (σ 10)) + 5 * ((Int32.toInt i_84) - (Int32.toInt (σ 5))) from (by omega)) (show ∀ i : Nat, i < 300 → (i : Int) < (Int32.toInt s10_75) → Int32.toInt (f6_75 i) < i from (by with_reducible assumption)) (by omega) hP hS (lv_sub hl [4, 5, 0] rfl)
                    · have kc_78 := bI_eq rfl L_0 c_78
                      refine lv_aload_n hx hb dX9_readCell_211 rfl (lv_at hl 3 rfl) ?_
                      refine lv_bipush (v := 8) hx hb dX9_readCell_212 (by decide) ?_
                      refine lv_aload_n hx hb dX9_readCell_214 rfl (lv_at hl 3 rfl) ?_
                      refine mg_0_50 (v := (γ_76 14)) hx hb hts hinX9 hown hK hP (hts (.fieldLink RX9 200 "CensusDeskModel" "cellAt" "I") (List.mem_of_getElem? (i := 5) rfl)) rfl dX9_readCell_215 ?_
                      refine lv_iload hx hb dX9_readCell_218 (lv_at hl 2 rfl) ?_
                      refine m_calli (va_runV (As := [.int 8, .int (γ_76 14), .int r_75]) (rest := []) ⟨hx, hb, hml, hown, hts⟩ (c_X9_failField l dC dI a κ (up (up (up σ 11 s11_c86) 10 s10_c86) 10 s10_75) (up (up φ 6 f6_c86) 6 f6_75) γ_76 ψ_76 8 (γ_76 14) r_75 (show 1 ≤ (Int32.toInt 8) ∧ (Int32.toInt 8) ≤ 21 from (by have := L_8; omega)) (show (Int32.toInt r_75) < (Int32.toInt s10_75) from (by omega)) (show 0 ≤ (Int32.toInt s10_75) ∧ (Int32.toInt s10_75) ≤ 1999999960 from (by omega)) (show ∀ i : Nat, i < 300 → (i : Int) < (Int32.toInt s10_75) → Int32.toInt (f6_75 i) < i from (by with_reducible assumption))) (cwV 3 hts gX9_readCell_X9_failField rfl rfl rfl ⟨rfl, hd_X9_failField⟩ ⟨Nat.le_of_ble_eq_true rfl, Nat.le_of_ble_eq_true rfl⟩) (mPreV hP hK hI hN hS (va_recv hK hP (ci := 9) (q0 := 0) rfl rfl)) rfl rfl hl.1 rfl (lv_room (Nat.le_of_ble_eq_true rfl)) dX9_readCell_220 ⟨(by decide +kernel), (by decide +kernel)⟩) hS ?_
                      clear hP hS; intro r_85 S_85 F_85 γ_85 ψ_85 H locs hw hP hS
                      obtain ⟨s10_85, f6_85, rfl, rfl, (qf_85 : (Int32.toInt s10_75) ≤ (Int32.toInt s10_85) ∧ (Int32.toInt s10_85) ≤ (Int32.toInt s10_75) + 4), (qc_85 : ∀ i : Nat, i < 300 → (i : Int) < (Int32.toInt s10_85) → Int32.toInt (f6_85 i) < i)⟩ := hw
                      have hL8_85 := L_8
                      refine lv_istore (lv' := [(9, .int r_85), (6, .int r_6), (7, .int r_76), (8, .int r_75), (0, .ref (a 0)), (4, .int there), (5, .int i)]) hx hb dX9_readCell_223 hl (by decide) rfl ?_
                      clear hl; intro ls hl
                      refine lv_iload hx hb dX9_readCell_225 (lv_at hl 2 rfl) ?_
                      refine lv_if_eq (tgt := 262) hx hb dX9_readCell_227 (by decide) (fun c_86 => ?_) (fun c_86 => ?_)
                      · have kc_86 := bI_eq rfl L_0 c_86
                        obtain ⟨i_87, ei_87⟩ : ∃ z : Int32, z = i + 1 := ⟨_, rfl⟩
                        refine lv_iinc (v := i_87) (lv' := [(5, .int i_87), (9, .int r_85), (6, .int r_6), (7, .int r_76), (8, .int r_75), (0, .ref (a 0)), (4, .int there)]) hx hb dX9_readCell_262 hl (k := 6) rfl (by rw [ei_87]; rfl) (by decide) rfl ?_
                        clear hl; intro ls hl
                        have ti_87 : (Int32.toInt i_87) = (Int32.toInt i) + 1 := aI_add rfl L_1 ei_87 (by have := rng i; have := rng (σ 6); omega)
                        refine lv_goto (tgt := 86) hx hb dX9_readCell_265 (by decide) ?_
                        exact ih86 there i_87 s11_c86 s10_85 f6_85 γ_85 ψ_85 _ _ _ (show (Int32.toInt (σ 5)) ≤ (Int32.toInt i_87) ∧ (Int32.toInt i_87) ≤ (Int32.toInt (σ 6)) ∧ 0 ≤ (Int32.toInt s11_c86) ∧ (Int32.toInt s11_c86) ≤ (Int32.toInt i_87) - (Int32.toInt (σ 5)) from (by omega)) (show (Int32.toInt (σ 10)) ≤ (Int32.toInt s10_85) ∧ (Int32.toInt s10_85) ≤ (Int32.toInt (σ 10)) + 5 * ((Int32.toInt i_87) - (Int32.toInt (σ 5))) from (by omega)) (show ∀ i : Nat, i < 300 → (i : Int) < (Int32.toInt s10_85) → Int32.toInt (f6_85 i) < i from (by with_reducible assumption)) (by omega) hP hS (lv_sub hl [5, 6, 0] rfl)
                      · have kc_86 := bI_ne rfl L_0 c_86
                        refine lv_aload_n hx hb dX9_readCell_230 rfl (lv_at hl 4 rfl) ?_
                        refine mg_0_46 hx hb hts hinX9 hown hK hP (hts (.fieldLink RX9 74 "CensusDeskModel" "sign" "[I") (List.mem_of_getElem? (i := 8) rfl)) dX9_readCell_231 ?_
                        refine lv_aload_n hx hb dX9_readCell_234 rfl (lv_at hl 4 rfl) ?_
                        refine mg_0_48 (v := s11_c86) hx hb hts hinX9 hown hK hP (hts (.fieldLink RX9 191 "CensusDeskModel" "signs" "I") (List.mem_of_getElem? (i := 2) rfl)) rfl dX9_readCell_235 ?_
                        refine lv_iload hx hb dX9_readCell_238 (lv_at hl 1 rfl) ?_
                        refine ms_22 (f := (ψ_85 14)) hx hb hK hP hI hS (i := s11_c86) (x := r_6) (vin rfl (by omega)) rfl dX9_readCell_240 ?_
                        clear hP hS; intro H locs hP hS
                        obtain ⟨f_88, ef_88⟩ : ∃ z : Nat → Int32, z = upd (ψ_85 14) (Int32.toNatClampNeg s11_c86) r_6 := ⟨_, rfl⟩
                        rw [← ef_88] at hP
                        refine lv_aload_n hx hb dX9_readCell_241 rfl (lv_at hl 4 rfl) ?_
                        refine mg_0_47 hx hb hts hinX9 hown hK hP (hts (.fieldLink RX9 77 "CensusDeskModel" "signAt" "[I") (List.mem_of_getElem? (i := 9) rfl)) dX9_readCell_242 ?_
                        refine lv_aload_n hx hb dX9_readCell_245 rfl (lv_at hl 4 rfl) ?_
                        refine mg_0_48 (v := s11_c86) hx hb hts hinX9 hown hK hP (hts (.fieldLink RX9 191 "CensusDeskModel" "signs" "I") (List.mem_of_getElem? (i := 2) rfl)) rfl dX9_readCell_246 ?_
                        refine lv_iload hx hb dX9_readCell_249 (lv_at hl 6 rfl) ?_
                        refine ms_23 (f := (ψ_85 15)) hx hb hK hP hI hS (i := s11_c86) (x := i) (vin rfl (by omega)) rfl dX9_readCell_251 ?_
                        clear hP hS; intro H locs hP hS
                        obtain ⟨f_89, ef_89⟩ : ∃ z : Nat → Int32, z = upd (ψ_85 15) (Int32.toNatClampNeg s11_c86) i := ⟨_, rfl⟩
                        rw [← ef_89] at hP
                        refine lv_aload_n hx hb dX9_readCell_252 rfl (lv_at hl 4 rfl) ?_
                        refine lv_dup hx hb dX9_readCell_253 rfl ?_
                        refine mg_0_48 (v := s11_c86) hx hb hts hinX9 hown hK hP (hts (.fieldLink RX9 191 "CensusDeskModel" "signs" "I") (List.mem_of_getElem? (i := 2) rfl)) rfl dX9_readCell_254 ?_
                        refine lv_iconst (v := 1) hx hb dX9_readCell_257 (by decide) ?_
                        refine lv_iadd hx hb dX9_readCell_258 ?_
                        refine lv_topi (fun z_90 ez_90 => ?_)
                        have tz_90 : (Int32.toInt z_90) = (Int32.toInt s11_c86) + 1 := aI_add rfl L_1 ez_90 (by have := rng s11_c86; omega)
                        refine mp_0_48 (v := z_90) hx hb hts hinX9 hown hK hP hI hS (hts (.fieldLink RX9 191 "CensusDeskModel" "signs" "I") (List.mem_of_getElem? (i := 2) rfl)) dX9_readCell_259 ?_
                        clear hP hS; intro H locs hP hS
                        obtain ⟨i_91, ei_91⟩ : ∃ z : Int32, z = i + 1 := ⟨_, rfl⟩
                        refine lv_iinc (v := i_91) (lv' := [(5, .int i_91), (9, .int r_85), (6, .int r_6), (7, .int r_76), (8, .int r_75), (0, .ref (a 0)), (4, .int there)]) hx hb dX9_readCell_262 hl (k := 6) rfl (by rw [ei_91]; rfl) (by decide) rfl ?_
                        clear hl; intro ls hl
                        have ti_91 : (Int32.toInt i_91) = (Int32.toInt i) + 1 := aI_add rfl L_1 ei_91 (by have := rng i; have := rng (σ 6); omega)
                        refine lv_goto (tgt := 86) hx hb dX9_readCell_265 (by decide) ?_
                        exact ih86 there i_91 z_90 s10_85 f6_85 γ_85 (up (up ψ_85 14 f_88) 15 f_89) _ _ _ (show (Int32.toInt (σ 5)) ≤ (Int32.toInt i_91) ∧ (Int32.toInt i_91) ≤ (Int32.toInt (σ 6)) ∧ 0 ≤ (Int32.toInt z_90) ∧ (Int32.toInt z_90) ≤ (Int32.toInt i_91) - (Int32.toInt (σ 5)) from (by omega)) (show (Int32.toInt (σ 10)) ≤ (Int32.toInt s10_85) ∧ (Int32.toInt s10_85) ≤ (Int32.toInt (σ 10)) + 5 * ((Int32.toInt i_91) - (Int32.toInt (σ 5))) from (by omega)) (show ∀ i : Nat, i < 300 → (i : Int) < (Int32.toInt s10_85) → Int32.toInt (f6_85 i) < i from (by with_reducible assumption)) (by omega) hP hS (lv_sub hl [5, 6, 0] rfl)
                  · have kc_77 := bI_eq rfl L_2 c_77
                    refine lv_aload_n hx hb dX9_readCell_170 rfl (lv_at hl 3 rfl) ?_
                    refine mg_0_45 (v := (γ_76 12)) hx hb hts hinX9 hown hK hP (hts (.fieldLink RX9 128 "CensusDeskModel" "replaced" "I") (List.mem_of_getElem? (i := 7) rfl)) rfl dX9_readCell_171 ?_
                    refine lv_bipush (v := 32) hx hb dX9_readCell_174 (by decide) ?_
                    refine lv_icmp_lt (tgt := 195) hx hb dX9_readCell_176 (by decide) (fun c_92 => ?_) (fun c_92 => ?_)
                    · have kc_92 := bI_lt rfl L_32 c_92
                      refine lv_bipush (v := 63) hx hb dX9_readCell_195 (by decide) ?_
                      refine lv_goto (tgt := 202) hx hb dX9_readCell_197 (by decide) ?_
                      refine lv_istore (lv' := [(6, .int 63), (7, .int r_76), (8, .int r_75), (0, .ref (a 0)), (4, .int there), (5, .int i)]) hx hb dX9_readCell_202 hl (by decide) rfl ?_
                      clear hl; intro ls hl
                      refine lv_aload_n hx hb dX9_readCell_204 rfl (lv_at hl 3 rfl) ?_
                      refine mg_0_44 (v := (γ_76 11)) hx hb hts hinX9 hown hK hP (hts (.fieldLink RX9 125 "CensusDeskModel" "way" "I") (List.mem_of_getElem? (i := 6) rfl)) rfl dX9_readCell_205 ?_
                      refine lv_if_ne (tgt := 225) hx hb dX9_readCell_208 (by decide) (fun c_93 => ?_) (fun c_93 => ?_)
                      · have kc_93 := bI_ne rfl L_0 c_93
                        refine lv_iload hx hb dX9_readCell_225 (lv_at hl 1 rfl) ?_
                        refine lv_if_eq (tgt := 262) hx hb dX9_readCell_227 (by decide) (fun c_94 => ?_) (fun c_94 => ?_)
                        · have kc_94 := bI_eq rfl L_0 c_94
                          obtain ⟨i_95, ei_95⟩ : ∃ z : Int32, z = i + 1 := ⟨_, rfl⟩
                          refine lv_iinc (v := i_95) (lv' := [(5, .int i_95), (6, .int 63), (7, .int r_76), (8, .int r_75), (0, .ref (a 0)), (4, .int there)]) hx hb dX9_readCell_262 hl (k := 5) rfl (by rw [ei_95]; rfl) (by decide) rfl ?_
                          clear hl; intro ls hl
                          have ti_95 : (Int32.toInt i_95) = (Int32.toInt i) + 1 := aI_add rfl L_1 ei_95 (by have := rng i; have := rng (σ 6); omega)
                          refine lv_goto (tgt := 86) hx hb dX9_readCell_265 (by decide) ?_
                          exact ih86 there i_95 s11_c86 s10_75 f6_75 γ_76 ψ_76 _ _ _ (show (Int32.toInt (σ 5)) ≤ (Int32.toInt i_95) ∧ (Int32.toInt i_95) ≤ (Int32.toInt (σ 6)) ∧ 0 ≤ (Int32.toInt s11_c86) ∧ (Int32.toInt s11_c86) ≤ (Int32.toInt i_95) - (Int32.toInt (σ 5)) from (by omega)) (show (Int32.toInt (σ 10)) ≤ (Int32.toInt s10_75) ∧ (Int32.toInt s10_75) ≤ (Int32.toInt (σ 10)) + 5 * ((Int32.toInt i_95) - (Int32.toInt (σ 5))) from (by omega)) (show ∀ i : Nat, i < 300 → (i : Int) < (Int32.toInt s10_75) → Int32.toInt (f6_75 i) < i from (by with_reducible assumption)) (by omega) hP hS (lv_sub hl [4, 5, 0] rfl)
                        · have kc_94 := bI_ne rfl L_0 c_94
                          refine lv_aload_n hx hb dX9_readCell_230 rfl (lv_at hl 3 rfl) ?_
                          refine mg_0_46 hx hb hts hinX9 hown hK hP (hts (.fieldLink RX9 74 "CensusDeskModel" "sign" "[I") (List.mem_of_getElem? (i := 8) rfl)) dX9_readCell_231 ?_
                          refine lv_aload_n hx hb dX9_readCell_234 rfl (lv_at hl 3 rfl) ?_
                          refine mg_0_48 (v := s11_c86) hx hb hts hinX9 hown hK hP (hts (.fieldLink RX9 191 "CensusDeskModel" "signs" "I") (List.mem_of_getElem? (i := 2) rfl)) rfl dX9_readCell_235 ?_
                          refine lv_iload hx hb dX9_readCell_238 (lv_at hl 0 rfl) ?_
                          refine ms_22 (f := (ψ_76 14)) hx hb hK hP hI hS (i := s11_c86) (x := 63) (vin rfl (by omega)) rfl dX9_readCell_240 ?_
                          clear hP hS; intro H locs hP hS
                          obtain ⟨f_96, ef_96⟩ : ∃ z : Nat → Int32, z = upd (ψ_76 14) (Int32.toNatClampNeg s11_c86) 63 := ⟨_, rfl⟩
                          rw [← ef_96] at hP
                          refine lv_aload_n hx hb dX9_readCell_241 rfl (lv_at hl 3 rfl) ?_
                          refine mg_0_47 hx hb hts hinX9 hown hK hP (hts (.fieldLink RX9 77 "CensusDeskModel" "signAt" "[I") (List.mem_of_getElem? (i := 9) rfl)) dX9_readCell_242 ?_
                          refine lv_aload_n hx hb dX9_readCell_245 rfl (lv_at hl 3 rfl) ?_
                          refine mg_0_48 (v := s11_c86) hx hb hts hinX9 hown hK hP (hts (.fieldLink RX9 191 "CensusDeskModel" "signs" "I") (List.mem_of_getElem? (i := 2) rfl)) rfl dX9_readCell_246 ?_
                          refine lv_iload hx hb dX9_readCell_249 (lv_at hl 5 rfl) ?_
                          refine ms_23 (f := (ψ_76 15)) hx hb hK hP hI hS (i := s11_c86) (x := i) (vin rfl (by omega)) rfl dX9_readCell_251 ?_
                          clear hP hS; intro H locs hP hS
                          obtain ⟨f_97, ef_97⟩ : ∃ z : Nat → Int32, z = upd (ψ_76 15) (Int32.toNatClampNeg s11_c86) i := ⟨_, rfl⟩
                          rw [← ef_97] at hP
                          refine lv_aload_n hx hb dX9_readCell_252 rfl (lv_at hl 3 rfl) ?_
                          refine lv_dup hx hb dX9_readCell_253 rfl ?_
                          refine mg_0_48 (v := s11_c86) hx hb hts hinX9 hown hK hP (hts (.fieldLink RX9 191 "CensusDeskModel" "signs" "I") (List.mem_of_getElem? (i := 2) rfl)) rfl dX9_readCell_254 ?_
                          refine lv_iconst (v := 1) hx hb dX9_readCell_257 (by decide) ?_
                          refine lv_iadd hx hb dX9_readCell_258 ?_
                          refine lv_topi (fun z_98 ez_98 => ?_)
                          have tz_98 : (Int32.toInt z_98) = (Int32.toInt s11_c86) + 1 := aI_add rfl L_1 ez_98 (by have := rng s11_c86; omega)
                          refine mp_0_48 (v := z_98) hx hb hts hinX9 hown hK hP hI hS (hts (.fieldLink RX9 191 "CensusDeskModel" "signs" "I") (List.mem_of_getElem? (i := 2) rfl)) dX9_readCell_259 ?_
                          clear hP hS; intro H locs hP hS
                          obtain ⟨i_99, ei_99⟩ : ∃ z : Int32, z = i + 1 := ⟨_, rfl⟩
                          refine lv_iinc (v := i_99) (lv' := [(5, .int i_99), (6, .int 63), (7, .int r_76), (8, .int r_75), (0, .ref (a 0)), (4, .int there)]) hx hb dX9_readCell_262 hl (k := 5) rfl (by rw [ei_99]; rfl) (by decide) rfl ?_
                          clear hl; intro ls hl
                          have ti_99 : (Int32.toInt i_99) = (Int32.toInt i) + 1 := aI_add rfl L_1 ei_99 (by have := rng i; have := rng (σ 6); omega)
                          refine lv_goto (tgt := 86) hx hb dX9_readCell_265 (by decide) ?_
                          exact ih86 there i_99 z_98 s10_75 f6_75 γ_76 (up (up ψ_76 14 f_96) 15 f_97) _ _ _ (show (Int32.toInt (σ 5)) ≤ (Int32.toInt i_99) ∧ (Int32.toInt i_99) ≤ (Int32.toInt (σ 6)) ∧ 0 ≤ (Int32.toInt z_98) ∧ (Int32.toInt z_98) ≤ (Int32.toInt i_99) - (Int32.toInt (σ 5)) from (by omega)) (show (Int32.toInt (σ 10)) ≤ (Int32.toInt s10_75) ∧ (Int32.toInt s10_75) ≤ (Int32.toInt (σ 10)) + 5 * ((Int32.toInt i_99) - (Int32.toInt (σ 5))) from (by omega)) (show ∀ i : Nat, i < 300 → (i : Int) < (Int32.toInt s10_75) → Int32.toInt (f6_75 i) < i from (by with_reducible assumption)) (by omega) hP hS (lv_sub hl [4, 5, 0] rfl)
                      · have kc_93 := bI_eq rfl L_0 c_93
                        refine lv_aload_n hx hb dX9_readCell_211 rfl (lv_at hl 3 rfl) ?_
                        refine lv_bipush (v := 8) hx hb dX9_readCell_212 (by decide) ?_
                        refine lv_aload_n hx hb dX9_readCell_214 rfl (lv_at hl 3 rfl) ?_
                        refine mg_0_50 (v := (γ_76 14)) hx hb hts hinX9 hown hK hP (hts (.fieldLink RX9 200 "CensusDeskModel" "cellAt" "I") (List.mem_of_getElem? (i := 5) rfl)) rfl dX9_readCell_215 ?_
                        refine lv_iload hx hb dX9_readCell_218 (lv_at hl 2 rfl) ?_
                        refine m_calli (va_runV (As := [.int 8, .int (γ_76 14), .int r_75]) (rest := []) ⟨hx, hb, hml, hown, hts⟩ (c_X9_failField l dC dI a κ (up (up (up σ 11 s11_c86) 10 s10_c86) 10 s10_75) (up (up φ 6 f6_c86) 6 f6_75) γ_76 ψ_76 8 (γ_76 14) r_75 (show 1 ≤ (Int32.toInt 8) ∧ (Int32.toInt 8) ≤ 21 from (by have := L_8; omega)) (show (Int32.toInt r_75) < (Int32.toInt s10_75) from (by omega)) (show 0 ≤ (Int32.toInt s10_75) ∧ (Int32.toInt s10_75) ≤ 1999999960 from (by omega)) (show ∀ i : Nat, i < 300 → (i : Int) < (Int32.toInt s10_75) → Int32.toInt (f6_75 i) < i from (by with_reducible assumption))) (cwV 3 hts gX9_readCell_X9_failField rfl rfl rfl ⟨rfl, hd_X9_failField⟩ ⟨Nat.le_of_ble_eq_true rfl, Nat.le_of_ble_eq_true rfl⟩) (mPreV hP hK hI hN hS (va_recv hK hP (ci := 9) (q0 := 0) rfl rfl)) rfl rfl hl.1 rfl (lv_room (Nat.le_of_ble_eq_true rfl)) dX9_readCell_220 ⟨(by decide +kernel), (by decide +kernel)⟩) hS ?_
                        clear hP hS; intro r_100 S_100 F_100 γ_100 ψ_100 H locs hw hP hS
                        obtain ⟨s10_100, f6_100, rfl, rfl, (qf_100 : (Int32.toInt s10_75) ≤ (Int32.toInt s10_100) ∧ (Int32.toInt s10_100) ≤ (Int32.toInt s10_75) + 4), (qc_100 : ∀ i : Nat, i < 300 → (i : Int) < (Int32.toInt s10_100) → Int32.toInt (f6_100 i) < i)⟩ := hw
                        have hL8_100 := L_8
                        refine lv_istore (lv' := [(9, .int r_100), (6, .int 63), (7, .int r_76), (8, .int r_75), (0, .ref (a 0)), (4, .int there), (5, .int i)]) hx hb dX9_readCell_223 hl (by decide) rfl ?_
                        clear hl; intro ls hl
                        refine lv_iload hx hb dX9_readCell_225 (lv_at hl 2 rfl) ?_
                        refine lv_if_eq (tgt := 262) hx hb dX9_readCell_227 (by decide) (fun c_101 => ?_) (fun c_101 => ?_)
                        · have kc_101 := bI_eq rfl L_0 c_101
                          obtain ⟨i_102, ei_102⟩ : ∃ z : Int32, z = i + 1 := ⟨_, rfl⟩
                          refine lv_iinc (v := i_102) (lv' := [(5, .int i_102), (9, .int r_100), (6, .int 63), (7, .int r_76), (8, .int r_75), (0, .ref (a 0)), (4, .int there)]) hx hb dX9_readCell_262 hl (k := 6) rfl (by rw [ei_102]; rfl) (by decide) rfl ?_
                          clear hl; intro ls hl
                          have ti_102 : (Int32.toInt i_102) = (Int32.toInt i) + 1 := aI_add rfl L_1 ei_102 (by have := rng i; have := rng (σ 6); omega)
                          refine lv_goto (tgt := 86) hx hb dX9_readCell_265 (by decide) ?_
                          exact ih86 there i_102 s11_c86 s10_100 f6_100 γ_100 ψ_100 _ _ _ (show (Int32.toInt (σ 5)) ≤ (Int32.toInt i_102) ∧ (Int32.toInt i_102) ≤ (Int32.toInt (σ 6)) ∧ 0 ≤ (Int32.toInt s11_c86) ∧ (Int32.toInt s11_c86) ≤ (Int32.toInt i_102) - (Int32.toInt (σ 5)) from (by omega)) (show (Int32.toInt (σ 10)) ≤ (Int32.toInt s10_100) ∧ (Int32.toInt s10_100) ≤ (Int32.toInt (σ 10)) + 5 * ((Int32.toInt i_102) - (Int32.toInt (σ 5))) from (by omega)) (show ∀ i : Nat, i < 300 → (i : Int) < (Int32.toInt s10_100) → Int32.toInt (f6_100 i) < i from (by with_reducible assumption)) (by omega) hP hS (lv_sub hl [5, 6, 0] rfl)
                        · have kc_101 := bI_ne rfl L_0 c_101
                          refine lv_aload_n hx hb dX9_readCell_230 rfl (lv_at hl 4 rfl) ?_
                          refine mg_0_46 hx hb hts hinX9 hown hK hP (hts (.fieldLink RX9 74 "CensusDeskModel" "sign" "[I") (List.mem_of_getElem? (i := 8) rfl)) dX9_readCell_231 ?_
                          refine lv_aload_n hx hb dX9_readCell_234 rfl (lv_at hl 4 rfl) ?_
                          refine mg_0_48 (v := s11_c86) hx hb hts hinX9 hown hK hP (hts (.fieldLink RX9 191 "CensusDeskModel" "signs" "I") (List.mem_of_getElem? (i := 2) rfl)) rfl dX9_readCell_235 ?_
                          refine lv_iload hx hb dX9_readCell_238 (lv_at hl 1 rfl) ?_
                          refine ms_22 (f := (ψ_100 14)) hx hb hK hP hI hS (i := s11_c86) (x := 63) (vin rfl (by omega)) rfl dX9_readCell_240 ?_
                          clear hP hS; intro H locs hP hS
                          obtain ⟨f_103, ef_103⟩ : ∃ z : Nat → Int32, z = upd (ψ_100 14) (Int32.toNatClampNeg s11_c86) 63 := ⟨_, rfl⟩
                          rw [← ef_103] at hP
                          refine lv_aload_n hx hb dX9_readCell_241 rfl (lv_at hl 4 rfl) ?_
                          refine mg_0_47 hx hb hts hinX9 hown hK hP (hts (.fieldLink RX9 77 "CensusDeskModel" "signAt" "[I") (List.mem_of_getElem? (i := 9) rfl)) dX9_readCell_242 ?_
                          refine lv_aload_n hx hb dX9_readCell_245 rfl (lv_at hl 4 rfl) ?_
                          refine mg_0_48 (v := s11_c86) hx hb hts hinX9 hown hK hP (hts (.fieldLink RX9 191 "CensusDeskModel" "signs" "I") (List.mem_of_getElem? (i := 2) rfl)) rfl dX9_readCell_246 ?_
                          refine lv_iload hx hb dX9_readCell_249 (lv_at hl 6 rfl) ?_
                          refine ms_23 (f := (ψ_100 15)) hx hb hK hP hI hS (i := s11_c86) (x := i) (vin rfl (by omega)) rfl dX9_readCell_251 ?_
                          clear hP hS; intro H locs hP hS
                          obtain ⟨f_104, ef_104⟩ : ∃ z : Nat → Int32, z = upd (ψ_100 15) (Int32.toNatClampNeg s11_c86) i := ⟨_, rfl⟩
                          rw [← ef_104] at hP
                          refine lv_aload_n hx hb dX9_readCell_252 rfl (lv_at hl 4 rfl) ?_
                          refine lv_dup hx hb dX9_readCell_253 rfl ?_
                          refine mg_0_48 (v := s11_c86) hx hb hts hinX9 hown hK hP (hts (.fieldLink RX9 191 "CensusDeskModel" "signs" "I") (List.mem_of_getElem? (i := 2) rfl)) rfl dX9_readCell_254 ?_
                          refine lv_iconst (v := 1) hx hb dX9_readCell_257 (by decide) ?_
                          refine lv_iadd hx hb dX9_readCell_258 ?_
                          refine lv_topi (fun z_105 ez_105 => ?_)
                          have tz_105 : (Int32.toInt z_105) = (Int32.toInt s11_c86) + 1 := aI_add rfl L_1 ez_105 (by have := rng s11_c86; omega)
                          refine mp_0_48 (v := z_105) hx hb hts hinX9 hown hK hP hI hS (hts (.fieldLink RX9 191 "CensusDeskModel" "signs" "I") (List.mem_of_getElem? (i := 2) rfl)) dX9_readCell_259 ?_
                          clear hP hS; intro H locs hP hS
                          obtain ⟨i_106, ei_106⟩ : ∃ z : Int32, z = i + 1 := ⟨_, rfl⟩
                          refine lv_iinc (v := i_106) (lv' := [(5, .int i_106), (9, .int r_100), (6, .int 63), (7, .int r_76), (8, .int r_75), (0, .ref (a 0)), (4, .int there)]) hx hb dX9_readCell_262 hl (k := 6) rfl (by rw [ei_106]; rfl) (by decide) rfl ?_
                          clear hl; intro ls hl
                          have ti_106 : (Int32.toInt i_106) = (Int32.toInt i) + 1 := aI_add rfl L_1 ei_106 (by have := rng i; have := rng (σ 6); omega)
                          refine lv_goto (tgt := 86) hx hb dX9_readCell_265 (by decide) ?_
                          exact ih86 there i_106 z_105 s10_100 f6_100 γ_100 (up (up ψ_100 14 f_103) 15 f_104) _ _ _ (show (Int32.toInt (σ 5)) ≤ (Int32.toInt i_106) ∧ (Int32.toInt i_106) ≤ (Int32.toInt (σ 6)) ∧ 0 ≤ (Int32.toInt z_105) ∧ (Int32.toInt z_105) ≤ (Int32.toInt i_106) - (Int32.toInt (σ 5)) from (by omega)) (show (Int32.toInt (σ 10)) ≤ (Int32.toInt s10_100) ∧ (Int32.toInt s10_100) ≤ (Int32.toInt (σ 10)) + 5 * ((Int32.toInt i_106) - (Int32.toInt (σ 5))) from (by omega)) (show ∀ i : Nat, i < 300 → (i : Int) < (Int32.toInt s10_100) → Int32.toInt (f6_100 i) < i from (by with_reducible assumption)) (by omega) hP hS (lv_sub hl [5, 6, 0] rfl)
                    · have kc_92 := bI_nlt rfl L_32 c_92
                      refine lv_aload_n hx hb dX9_readCell_179 rfl (lv_at hl 3 rfl) ?_
                      refine mg_0_45 (v := (γ_76 12)) hx hb hts hinX9 hown hK hP (hts (.fieldLink RX9 128 "CensusDeskModel" "replaced" "I") (List.mem_of_getElem? (i := 7) rfl)) rfl dX9_readCell_180 ?_
                      refine lv_bipush (v := 126) hx hb dX9_readCell_183 (by decide) ?_
                      refine lv_icmp_gt (tgt := 195) hx hb dX9_readCell_185 (by decide) (fun c_107 => ?_) (fun c_107 => ?_)
                      · have kc_107 := bI_lt L_126 rfl c_107
                        refine lv_bipush (v := 63) hx hb dX9_readCell_195 (by decide) ?_
                        refine lv_goto (tgt := 202) hx hb dX9_readCell_197 (by decide) ?_
                        refine lv_istore (lv' := [(6, .int 63), (7, .int r_76), (8, .int r_75), (0, .ref (a 0)), (4, .int there), (5, .int i)]) hx hb dX9_readCell_202 hl (by decide) rfl ?_
                        clear hl; intro ls hl
                        refine lv_aload_n hx hb dX9_readCell_204 rfl (lv_at hl 3 rfl) ?_
                        refine mg_0_44 (v := (γ_76 11)) hx hb hts hinX9 hown hK hP (hts (.fieldLink RX9 125 "CensusDeskModel" "way" "I") (List.mem_of_getElem? (i := 6) rfl)) rfl dX9_readCell_205 ?_
                        refine lv_if_ne (tgt := 225) hx hb dX9_readCell_208 (by decide) (fun c_108 => ?_) (fun c_108 => ?_)
                        · have kc_108 := bI_ne rfl L_0 c_108
                          refine lv_iload hx hb dX9_readCell_225 (lv_at hl 1 rfl) ?_
                          refine lv_if_eq (tgt := 262) hx hb dX9_readCell_227 (by decide) (fun c_109 => ?_) (fun c_109 => ?_)
                          · have kc_109 := bI_eq rfl L_0 c_109
                            obtain ⟨i_110, ei_110⟩ : ∃ z : Int32, z = i + 1 := ⟨_, rfl⟩
                            refine lv_iinc (v := i_110) (lv' := [(5, .int i_110), (6, .int 63), (7, .int r_76), (8, .int r_75), (0, .ref (a 0)), (4, .int there)]) hx hb dX9_readCell_262 hl (k := 5) rfl (by rw [ei_110]; rfl) (by decide) rfl ?_
                            clear hl; intro ls hl
                            have ti_110 : (Int32.toInt i_110) = (Int32.toInt i) + 1 := aI_add rfl L_1 ei_110 (by have := rng i; have := rng (σ 6); omega)
                            refine lv_goto (tgt := 86) hx hb dX9_readCell_265 (by decide) ?_
                            exact ih86 there i_110 s11_c86 s10_75 f6_75 γ_76 ψ_76 _ _ _ (show (Int32.toInt (σ 5)) ≤ (Int32.toInt i_110) ∧ (Int32.toInt i_110) ≤ (Int32.toInt (σ 6)) ∧ 0 ≤ (Int32.toInt s11_c86) ∧ (Int32.toInt s11_c86) ≤ (Int32.toInt i_110) - (Int32.toInt (σ 5)) from (by omega)) (show (Int32.toInt (σ 10)) ≤ (Int32.toInt s10_75) ∧ (Int32.toInt s10_75) ≤ (Int32.toInt (σ 10)) + 5 * ((Int32.toInt i_110) - (Int32.toInt (σ 5))) from (by omega)) (show ∀ i : Nat, i < 300 → (i : Int) < (Int32.toInt s10_75) → Int32.toInt (f6_75 i) < i from (by with_reducible assumption)) (by omega) hP hS (lv_sub hl [4, 5, 0] rfl)
                          · have kc_109 := bI_ne rfl L_0 c_109
                            refine lv_aload_n hx hb dX9_readCell_230 rfl (lv_at hl 3 rfl) ?_
                            refine mg_0_46 hx hb hts hinX9 hown hK hP (hts (.fieldLink RX9 74 "CensusDeskModel" "sign" "[I") (List.mem_of_getElem? (i := 8) rfl)) dX9_readCell_231 ?_
                            refine lv_aload_n hx hb dX9_readCell_234 rfl (lv_at hl 3 rfl) ?_
                            refine mg_0_48 (v := s11_c86) hx hb hts hinX9 hown hK hP (hts (.fieldLink RX9 191 "CensusDeskModel" "signs" "I") (List.mem_of_getElem? (i := 2) rfl)) rfl dX9_readCell_235 ?_
                            refine lv_iload hx hb dX9_readCell_238 (lv_at hl 0 rfl) ?_
                            refine ms_22 (f := (ψ_76 14)) hx hb hK hP hI hS (i := s11_c86) (x := 63) (vin rfl (by omega)) rfl dX9_readCell_240 ?_
                            clear hP hS; intro H locs hP hS
                            obtain ⟨f_111, ef_111⟩ : ∃ z : Nat → Int32, z = upd (ψ_76 14) (Int32.toNatClampNeg s11_c86) 63 := ⟨_, rfl⟩
                            rw [← ef_111] at hP
                            refine lv_aload_n hx hb dX9_readCell_241 rfl (lv_at hl 3 rfl) ?_
                            refine mg_0_47 hx hb hts hinX9 hown hK hP (hts (.fieldLink RX9 77 "CensusDeskModel" "signAt" "[I") (List.mem_of_getElem? (i := 9) rfl)) dX9_readCell_242 ?_
                            refine lv_aload_n hx hb dX9_readCell_245 rfl (lv_at hl 3 rfl) ?_
                            refine mg_0_48 (v := s11_c86) hx hb hts hinX9 hown hK hP (hts (.fieldLink RX9 191 "CensusDeskModel" "signs" "I") (List.mem_of_getElem? (i := 2) rfl)) rfl dX9_readCell_246 ?_
                            refine lv_iload hx hb dX9_readCell_249 (lv_at hl 5 rfl) ?_
                            refine ms_23 (f := (ψ_76 15)) hx hb hK hP hI hS (i := s11_c86) (x := i) (vin rfl (by omega)) rfl dX9_readCell_251 ?_
                            clear hP hS; intro H locs hP hS
                            obtain ⟨f_112, ef_112⟩ : ∃ z : Nat → Int32, z = upd (ψ_76 15) (Int32.toNatClampNeg s11_c86) i := ⟨_, rfl⟩
                            rw [← ef_112] at hP
                            refine lv_aload_n hx hb dX9_readCell_252 rfl (lv_at hl 3 rfl) ?_
                            refine lv_dup hx hb dX9_readCell_253 rfl ?_
                            refine mg_0_48 (v := s11_c86) hx hb hts hinX9 hown hK hP (hts (.fieldLink RX9 191 "CensusDeskModel" "signs" "I") (List.mem_of_getElem? (i := 2) rfl)) rfl dX9_readCell_254 ?_
                            refine lv_iconst (v := 1) hx hb dX9_readCell_257 (by decide) ?_
                            refine lv_iadd hx hb dX9_readCell_258 ?_
                            refine lv_topi (fun z_113 ez_113 => ?_)
                            have tz_113 : (Int32.toInt z_113) = (Int32.toInt s11_c86) + 1 := aI_add rfl L_1 ez_113 (by have := rng s11_c86; omega)
                            refine mp_0_48 (v := z_113) hx hb hts hinX9 hown hK hP hI hS (hts (.fieldLink RX9 191 "CensusDeskModel" "signs" "I") (List.mem_of_getElem? (i := 2) rfl)) dX9_readCell_259 ?_
                            clear hP hS; intro H locs hP hS
                            obtain ⟨i_114, ei_114⟩ : ∃ z : Int32, z = i + 1 := ⟨_, rfl⟩
                            refine lv_iinc (v := i_114) (lv' := [(5, .int i_114), (6, .int 63), (7, .int r_76), (8, .int r_75), (0, .ref (a 0)), (4, .int there)]) hx hb dX9_readCell_262 hl (k := 5) rfl (by rw [ei_114]; rfl) (by decide) rfl ?_
                            clear hl; intro ls hl
                            have ti_114 : (Int32.toInt i_114) = (Int32.toInt i) + 1 := aI_add rfl L_1 ei_114 (by have := rng i; have := rng (σ 6); omega)
                            refine lv_goto (tgt := 86) hx hb dX9_readCell_265 (by decide) ?_
                            exact ih86 there i_114 z_113 s10_75 f6_75 γ_76 (up (up ψ_76 14 f_111) 15 f_112) _ _ _ (show (Int32.toInt (σ 5)) ≤ (Int32.toInt i_114) ∧ (Int32.toInt i_114) ≤ (Int32.toInt (σ 6)) ∧ 0 ≤ (Int32.toInt z_113) ∧ (Int32.toInt z_113) ≤ (Int32.toInt i_114) - (Int32.toInt (σ 5)) from (by omega)) (show (Int32.toInt (σ 10)) ≤ (Int32.toInt s10_75) ∧ (Int32.toInt s10_75) ≤ (Int32.toInt (σ 10)) + 5 * ((Int32.toInt i_114) - (Int32.toInt (σ 5))) from (by omega)) (show ∀ i : Nat, i < 300 → (i : Int) < (Int32.toInt s10_75) → Int32.toInt (f6_75 i) < i from (by with_reducible assumption)) (by omega) hP hS (lv_sub hl [4, 5, 0] rfl)
                        · have kc_108 := bI_eq rfl L_0 c_108
                          refine lv_aload_n hx hb dX9_readCell_211 rfl (lv_at hl 3 rfl) ?_
                          refine lv_bipush (v := 8) hx hb dX9_readCell_212 (by decide) ?_
                          refine lv_aload_n hx hb dX9_readCell_214 rfl (lv_at hl 3 rfl) ?_
                          refine mg_0_50 (v := (γ_76 14)) hx hb hts hinX9 hown hK hP (hts (.fieldLink RX9 200 "CensusDeskModel" "cellAt" "I") (List.mem_of_getElem? (i := 5) rfl)) rfl dX9_readCell_215 ?_
                          refine lv_iload hx hb dX9_readCell_218 (lv_at hl 2 rfl) ?_
                          refine m_calli (va_runV (As := [.int 8, .int (γ_76 14), .int r_75]) (rest := []) ⟨hx, hb, hml, hown, hts⟩ (c_X9_failField l dC dI a κ (up (up (up σ 11 s11_c86) 10 s10_c86) 10 s10_75) (up (up φ 6 f6_c86) 6 f6_75) γ_76 ψ_76 8 (γ_76 14) r_75 (show 1 ≤ (Int32.toInt 8) ∧ (Int32.toInt 8) ≤ 21 from (by have := L_8; omega)) (show (Int32.toInt r_75) < (Int32.toInt s10_75) from (by omega)) (show 0 ≤ (Int32.toInt s10_75) ∧ (Int32.toInt s10_75) ≤ 1999999960 from (by omega)) (show ∀ i : Nat, i < 300 → (i : Int) < (Int32.toInt s10_75) → Int32.toInt (f6_75 i) < i from (by with_reducible assumption))) (cwV 3 hts gX9_readCell_X9_failField rfl rfl rfl ⟨rfl, hd_X9_failField⟩ ⟨Nat.le_of_ble_eq_true rfl, Nat.le_of_ble_eq_true rfl⟩) (mPreV hP hK hI hN hS (va_recv hK hP (ci := 9) (q0 := 0) rfl rfl)) rfl rfl hl.1 rfl (lv_room (Nat.le_of_ble_eq_true rfl)) dX9_readCell_220 ⟨(by decide +kernel), (by decide +kernel)⟩) hS ?_
                          clear hP hS; intro r_115 S_115 F_115 γ_115 ψ_115 H locs hw hP hS
                          obtain ⟨s10_115, f6_115, rfl, rfl, (qf_115 : (Int32.toInt s10_75) ≤ (Int32.toInt s10_115) ∧ (Int32.toInt s10_115) ≤ (Int32.toInt s10_75) + 4), (qc_115 : ∀ i : Nat, i < 300 → (i : Int) < (Int32.toInt s10_115) → Int32.toInt (f6_115 i) < i)⟩ := hw
                          have hL8_115 := L_8
                          refine lv_istore (lv' := [(9, .int r_115), (6, .int 63), (7, .int r_76), (8, .int r_75), (0, .ref (a 0)), (4, .int there), (5, .int i)]) hx hb dX9_readCell_223 hl (by decide) rfl ?_
                          clear hl; intro ls hl
                          refine lv_iload hx hb dX9_readCell_225 (lv_at hl 2 rfl) ?_
                          refine lv_if_eq (tgt := 262) hx hb dX9_readCell_227 (by decide) (fun c_116 => ?_) (fun c_116 => ?_)
                          · have kc_116 := bI_eq rfl L_0 c_116
                            obtain ⟨i_117, ei_117⟩ : ∃ z : Int32, z = i + 1 := ⟨_, rfl⟩
                            refine lv_iinc (v := i_117) (lv' := [(5, .int i_117), (9, .int r_115), (6, .int 63), (7, .int r_76), (8, .int r_75), (0, .ref (a 0)), (4, .int there)]) hx hb dX9_readCell_262 hl (k := 6) rfl (by rw [ei_117]; rfl) (by decide) rfl ?_
                            clear hl; intro ls hl
                            have ti_117 : (Int32.toInt i_117) = (Int32.toInt i) + 1 := aI_add rfl L_1 ei_117 (by have := rng i; have := rng (σ 6); omega)
                            refine lv_goto (tgt := 86) hx hb dX9_readCell_265 (by decide) ?_
                            exact ih86 there i_117 s11_c86 s10_115 f6_115 γ_115 ψ_115 _ _ _ (show (Int32.toInt (σ 5)) ≤ (Int32.toInt i_117) ∧ (Int32.toInt i_117) ≤ (Int32.toInt (σ 6)) ∧ 0 ≤ (Int32.toInt s11_c86) ∧ (Int32.toInt s11_c86) ≤ (Int32.toInt i_117) - (Int32.toInt (σ 5)) from (by omega)) (show (Int32.toInt (σ 10)) ≤ (Int32.toInt s10_115) ∧ (Int32.toInt s10_115) ≤ (Int32.toInt (σ 10)) + 5 * ((Int32.toInt i_117) - (Int32.toInt (σ 5))) from (by omega)) (show ∀ i : Nat, i < 300 → (i : Int) < (Int32.toInt s10_115) → Int32.toInt (f6_115 i) < i from (by with_reducible assumption)) (by omega) hP hS (lv_sub hl [5, 6, 0] rfl)
                          · have kc_116 := bI_ne rfl L_0 c_116
                            refine lv_aload_n hx hb dX9_readCell_230 rfl (lv_at hl 4 rfl) ?_
                            refine mg_0_46 hx hb hts hinX9 hown hK hP (hts (.fieldLink RX9 74 "CensusDeskModel" "sign" "[I") (List.mem_of_getElem? (i := 8) rfl)) dX9_readCell_231 ?_
                            refine lv_aload_n hx hb dX9_readCell_234 rfl (lv_at hl 4 rfl) ?_
                            refine mg_0_48 (v := s11_c86) hx hb hts hinX9 hown hK hP (hts (.fieldLink RX9 191 "CensusDeskModel" "signs" "I") (List.mem_of_getElem? (i := 2) rfl)) rfl dX9_readCell_235 ?_
                            refine lv_iload hx hb dX9_readCell_238 (lv_at hl 1 rfl) ?_
                            refine ms_22 (f := (ψ_115 14)) hx hb hK hP hI hS (i := s11_c86) (x := 63) (vin rfl (by omega)) rfl dX9_readCell_240 ?_
                            clear hP hS; intro H locs hP hS
                            obtain ⟨f_118, ef_118⟩ : ∃ z : Nat → Int32, z = upd (ψ_115 14) (Int32.toNatClampNeg s11_c86) 63 := ⟨_, rfl⟩
                            rw [← ef_118] at hP
                            refine lv_aload_n hx hb dX9_readCell_241 rfl (lv_at hl 4 rfl) ?_
                            refine mg_0_47 hx hb hts hinX9 hown hK hP (hts (.fieldLink RX9 77 "CensusDeskModel" "signAt" "[I") (List.mem_of_getElem? (i := 9) rfl)) dX9_readCell_242 ?_
                            refine lv_aload_n hx hb dX9_readCell_245 rfl (lv_at hl 4 rfl) ?_
                            refine mg_0_48 (v := s11_c86) hx hb hts hinX9 hown hK hP (hts (.fieldLink RX9 191 "CensusDeskModel" "signs" "I") (List.mem_of_getElem? (i := 2) rfl)) rfl dX9_readCell_246 ?_
                            refine lv_iload hx hb dX9_readCell_249 (lv_at hl 6 rfl) ?_
                            refine ms_23 (f := (ψ_115 15)) hx hb hK hP hI hS (i := s11_c86) (x := i) (vin rfl (by omega)) rfl dX9_readCell_251 ?_
                            clear hP hS; intro H locs hP hS
                            obtain ⟨f_119, ef_119⟩ : ∃ z : Nat → Int32, z = upd (ψ_115 15) (Int32.toNatClampNeg s11_c86) i := ⟨_, rfl⟩
                            rw [← ef_119] at hP
                            refine lv_aload_n hx hb dX9_readCell_252 rfl (lv_at hl 4 rfl) ?_
                            refine lv_dup hx hb dX9_readCell_253 rfl ?_
                            refine mg_0_48 (v := s11_c86) hx hb hts hinX9 hown hK hP (hts (.fieldLink RX9 191 "CensusDeskModel" "signs" "I") (List.mem_of_getElem? (i := 2) rfl)) rfl dX9_readCell_254 ?_
                            refine lv_iconst (v := 1) hx hb dX9_readCell_257 (by decide) ?_
                            refine lv_iadd hx hb dX9_readCell_258 ?_
                            refine lv_topi (fun z_120 ez_120 => ?_)
                            have tz_120 : (Int32.toInt z_120) = (Int32.toInt s11_c86) + 1 := aI_add rfl L_1 ez_120 (by have := rng s11_c86; omega)
                            refine mp_0_48 (v := z_120) hx hb hts hinX9 hown hK hP hI hS (hts (.fieldLink RX9 191 "CensusDeskModel" "signs" "I") (List.mem_of_getElem? (i := 2) rfl)) dX9_readCell_259 ?_
                            clear hP hS; intro H locs hP hS
                            obtain ⟨i_121, ei_121⟩ : ∃ z : Int32, z = i + 1 := ⟨_, rfl⟩
                            refine lv_iinc (v := i_121) (lv' := [(5, .int i_121), (9, .int r_115), (6, .int 63), (7, .int r_76), (8, .int r_75), (0, .ref (a 0)), (4, .int there)]) hx hb dX9_readCell_262 hl (k := 6) rfl (by rw [ei_121]; rfl) (by decide) rfl ?_
                            clear hl; intro ls hl
                            have ti_121 : (Int32.toInt i_121) = (Int32.toInt i) + 1 := aI_add rfl L_1 ei_121 (by have := rng i; have := rng (σ 6); omega)
                            refine lv_goto (tgt := 86) hx hb dX9_readCell_265 (by decide) ?_
                            exact ih86 there i_121 z_120 s10_115 f6_115 γ_115 (up (up ψ_115 14 f_118) 15 f_119) _ _ _ (show (Int32.toInt (σ 5)) ≤ (Int32.toInt i_121) ∧ (Int32.toInt i_121) ≤ (Int32.toInt (σ 6)) ∧ 0 ≤ (Int32.toInt z_120) ∧ (Int32.toInt z_120) ≤ (Int32.toInt i_121) - (Int32.toInt (σ 5)) from (by omega)) (show (Int32.toInt (σ 10)) ≤ (Int32.toInt s10_115) ∧ (Int32.toInt s10_115) ≤ (Int32.toInt (σ 10)) + 5 * ((Int32.toInt i_121) - (Int32.toInt (σ 5))) from (by omega)) (show ∀ i : Nat, i < 300 → (i : Int) < (Int32.toInt s10_115) → Int32.toInt (f6_115 i) < i from (by with_reducible assumption)) (by omega) hP hS (lv_sub hl [5, 6, 0] rfl)
                      · have kc_107 := bI_nlt L_126 rfl c_107
                        refine lv_aload_n hx hb dX9_readCell_188 rfl (lv_at hl 3 rfl) ?_
                        refine mg_0_45 (v := (γ_76 12)) hx hb hts hinX9 hown hK hP (hts (.fieldLink RX9 128 "CensusDeskModel" "replaced" "I") (List.mem_of_getElem? (i := 7) rfl)) rfl dX9_readCell_189 ?_
                        refine lv_goto (tgt := 202) hx hb dX9_readCell_192 (by decide) ?_
                        refine lv_istore (lv' := [(6, .int (γ_76 12)), (7, .int r_76), (8, .int r_75), (0, .ref (a 0)), (4, .int there), (5, .int i)]) hx hb dX9_readCell_202 hl (by decide) rfl ?_
                        clear hl; intro ls hl
                        refine lv_aload_n hx hb dX9_readCell_204 rfl (lv_at hl 3 rfl) ?_
                        refine mg_0_44 (v := (γ_76 11)) hx hb hts hinX9 hown hK hP (hts (.fieldLink RX9 125 "CensusDeskModel" "way" "I") (List.mem_of_getElem? (i := 6) rfl)) rfl dX9_readCell_205 ?_
                        refine lv_if_ne (tgt := 225) hx hb dX9_readCell_208 (by decide) (fun c_122 => ?_) (fun c_122 => ?_)
                        · have kc_122 := bI_ne rfl L_0 c_122
                          refine lv_iload hx hb dX9_readCell_225 (lv_at hl 1 rfl) ?_
                          refine lv_if_eq (tgt := 262) hx hb dX9_readCell_227 (by decide) (fun c_123 => ?_) (fun c_123 => ?_)
                          · have kc_123 := bI_eq rfl L_0 c_123
                            obtain ⟨i_124, ei_124⟩ : ∃ z : Int32, z = i + 1 := ⟨_, rfl⟩
                            refine lv_iinc (v := i_124) (lv' := [(5, .int i_124), (6, .int (γ_76 12)), (7, .int r_76), (8, .int r_75), (0, .ref (a 0)), (4, .int there)]) hx hb dX9_readCell_262 hl (k := 5) rfl (by rw [ei_124]; rfl) (by decide) rfl ?_
                            clear hl; intro ls hl
                            have ti_124 : (Int32.toInt i_124) = (Int32.toInt i) + 1 := aI_add rfl L_1 ei_124 (by have := rng i; have := rng (σ 6); omega)
                            refine lv_goto (tgt := 86) hx hb dX9_readCell_265 (by decide) ?_
                            exact ih86 there i_124 s11_c86 s10_75 f6_75 γ_76 ψ_76 _ _ _ (show (Int32.toInt (σ 5)) ≤ (Int32.toInt i_124) ∧ (Int32.toInt i_124) ≤ (Int32.toInt (σ 6)) ∧ 0 ≤ (Int32.toInt s11_c86) ∧ (Int32.toInt s11_c86) ≤ (Int32.toInt i_124) - (Int32.toInt (σ 5)) from (by omega)) (show (Int32.toInt (σ 10)) ≤ (Int32.toInt s10_75) ∧ (Int32.toInt s10_75) ≤ (Int32.toInt (σ 10)) + 5 * ((Int32.toInt i_124) - (Int32.toInt (σ 5))) from (by omega)) (show ∀ i : Nat, i < 300 → (i : Int) < (Int32.toInt s10_75) → Int32.toInt (f6_75 i) < i from (by with_reducible assumption)) (by omega) hP hS (lv_sub hl [4, 5, 0] rfl)
                          · have kc_123 := bI_ne rfl L_0 c_123
                            refine lv_aload_n hx hb dX9_readCell_230 rfl (lv_at hl 3 rfl) ?_
                            refine mg_0_46 hx hb hts hinX9 hown hK hP (hts (.fieldLink RX9 74 "CensusDeskModel" "sign" "[I") (List.mem_of_getElem? (i := 8) rfl)) dX9_readCell_231 ?_
                            refine lv_aload_n hx hb dX9_readCell_234 rfl (lv_at hl 3 rfl) ?_
                            refine mg_0_48 (v := s11_c86) hx hb hts hinX9 hown hK hP (hts (.fieldLink RX9 191 "CensusDeskModel" "signs" "I") (List.mem_of_getElem? (i := 2) rfl)) rfl dX9_readCell_235 ?_
                            refine lv_iload hx hb dX9_readCell_238 (lv_at hl 0 rfl) ?_
                            refine ms_22 (f := (ψ_76 14)) hx hb hK hP hI hS (i := s11_c86) (x := (γ_76 12)) (vin rfl (by omega)) rfl dX9_readCell_240 ?_
                            clear hP hS; intro H locs hP hS
                            obtain ⟨f_125, ef_125⟩ : ∃ z : Nat → Int32, z = upd (ψ_76 14) (Int32.toNatClampNeg s11_c86) (γ_76 12) := ⟨_, rfl⟩
                            rw [← ef_125] at hP
                            refine lv_aload_n hx hb dX9_readCell_241 rfl (lv_at hl 3 rfl) ?_
                            refine mg_0_47 hx hb hts hinX9 hown hK hP (hts (.fieldLink RX9 77 "CensusDeskModel" "signAt" "[I") (List.mem_of_getElem? (i := 9) rfl)) dX9_readCell_242 ?_
                            refine lv_aload_n hx hb dX9_readCell_245 rfl (lv_at hl 3 rfl) ?_
                            refine mg_0_48 (v := s11_c86) hx hb hts hinX9 hown hK hP (hts (.fieldLink RX9 191 "CensusDeskModel" "signs" "I") (List.mem_of_getElem? (i := 2) rfl)) rfl dX9_readCell_246 ?_
                            refine lv_iload hx hb dX9_readCell_249 (lv_at hl 5 rfl) ?_
                            refine ms_23 (f := (ψ_76 15)) hx hb hK hP hI hS (i := s11_c86) (x := i) (vin rfl (by omega)) rfl dX9_readCell_251 ?_
                            clear hP hS; intro H locs hP hS
                            obtain ⟨f_126, ef_126⟩ : ∃ z : Nat → Int32, z = upd (ψ_76 15) (Int32.toNatClampNeg s11_c86) i := ⟨_, rfl⟩
                            rw [← ef_126] at hP
                            refine lv_aload_n hx hb dX9_readCell_252 rfl (lv_at hl 3 rfl) ?_
                            refine lv_dup hx hb dX9_readCell_253 rfl ?_
                            refine mg_0_48 (v := s11_c86) hx hb hts hinX9 hown hK hP (hts (.fieldLink RX9 191 "CensusDeskModel" "signs" "I") (List.mem_of_getElem? (i := 2) rfl)) rfl dX9_readCell_254 ?_
                            refine lv_iconst (v := 1) hx hb dX9_readCell_257 (by decide) ?_
                            refine lv_iadd hx hb dX9_readCell_258 ?_
                            refine lv_topi (fun z_127 ez_127 => ?_)
                            have tz_127 : (Int32.toInt z_127) = (Int32.toInt s11_c86) + 1 := aI_add rfl L_1 ez_127 (by have := rng s11_c86; omega)
                            refine mp_0_48 (v := z_127) hx hb hts hinX9 hown hK hP hI hS (hts (.fieldLink RX9 191 "CensusDeskModel" "signs" "I") (List.mem_of_getElem? (i := 2) rfl)) dX9_readCell_259 ?_
                            clear hP hS; intro H locs hP hS
                            obtain ⟨i_128, ei_128⟩ : ∃ z : Int32, z = i + 1 := ⟨_, rfl⟩
                            refine lv_iinc (v := i_128) (lv' := [(5, .int i_128), (6, .int (γ_76 12)), (7, .int r_76), (8, .int r_75), (0, .ref (a 0)), (4, .int there)]) hx hb dX9_readCell_262 hl (k := 5) rfl (by rw [ei_128]; rfl) (by decide) rfl ?_
                            clear hl; intro ls hl
                            have ti_128 : (Int32.toInt i_128) = (Int32.toInt i) + 1 := aI_add rfl L_1 ei_128 (by have := rng i; have := rng (σ 6); omega)
                            refine lv_goto (tgt := 86) hx hb dX9_readCell_265 (by decide) ?_
                            exact ih86 there i_128 z_127 s10_75 f6_75 γ_76 (up (up ψ_76 14 f_125) 15 f_126) _ _ _ (show (Int32.toInt (σ 5)) ≤ (Int32.toInt i_128) ∧ (Int32.toInt i_128) ≤ (Int32.toInt (σ 6)) ∧ 0 ≤ (Int32.toInt z_127) ∧ (Int32.toInt z_127) ≤ (Int32.toInt i_128) - (Int32.toInt (σ 5)) from (by omega)) (show (Int32.toInt (σ 10)) ≤ (Int32.toInt s10_75) ∧ (Int32.toInt s10_75) ≤ (Int32.toInt (σ 10)) + 5 * ((Int32.toInt i_128) - (Int32.toInt (σ 5))) from (by omega)) (show ∀ i : Nat, i < 300 → (i : Int) < (Int32.toInt s10_75) → Int32.toInt (f6_75 i) < i from (by with_reducible assumption)) (by omega) hP hS (lv_sub hl [4, 5, 0] rfl)
                        · have kc_122 := bI_eq rfl L_0 c_122
                          refine lv_aload_n hx hb dX9_readCell_211 rfl (lv_at hl 3 rfl) ?_
                          refine lv_bipush (v := 8) hx hb dX9_readCell_212 (by decide) ?_
                          refine lv_aload_n hx hb dX9_readCell_214 rfl (lv_at hl 3 rfl) ?_
                          refine mg_0_50 (v := (γ_76 14)) hx hb hts hinX9 hown hK hP (hts (.fieldLink RX9 200 "CensusDeskModel" "cellAt" "I") (List.mem_of_getElem? (i := 5) rfl)) rfl dX9_readCell_215 ?_
                          refine lv_iload hx hb dX9_readCell_218 (lv_at hl 2 rfl) ?_
                          refine m_calli (va_runV (As := [.int 8, .int (γ_76 14), .int r_75]) (rest := []) ⟨hx, hb, hml, hown, hts⟩ (c_X9_failField l dC dI a κ (up (up (up σ 11 s11_c86) 10 s10_c86) 10 s10_75) (up (up φ 6 f6_c86) 6 f6_75) γ_76 ψ_76 8 (γ_76 14) r_75 (show 1 ≤ (Int32.toInt 8) ∧ (Int32.toInt 8) ≤ 21 from (by have := L_8; omega)) (show (Int32.toInt r_75) < (Int32.toInt s10_75) from (by omega)) (show 0 ≤ (Int32.toInt s10_75) ∧ (Int32.toInt s10_75) ≤ 1999999960 from (by omega)) (show ∀ i : Nat, i < 300 → (i : Int) < (Int32.toInt s10_75) → Int32.toInt (f6_75 i) < i from (by with_reducible assumption))) (cwV 3 hts gX9_readCell_X9_failField rfl rfl rfl ⟨rfl, hd_X9_failField⟩ ⟨Nat.le_of_ble_eq_true rfl, Nat.le_of_ble_eq_true rfl⟩) (mPreV hP hK hI hN hS (va_recv hK hP (ci := 9) (q0 := 0) rfl rfl)) rfl rfl hl.1 rfl (lv_room (Nat.le_of_ble_eq_true rfl)) dX9_readCell_220 ⟨(by decide +kernel), (by decide +kernel)⟩) hS ?_
                          clear hP hS; intro r_129 S_129 F_129 γ_129 ψ_129 H locs hw hP hS
                          obtain ⟨s10_129, f6_129, rfl, rfl, (qf_129 : (Int32.toInt s10_75) ≤ (Int32.toInt s10_129) ∧ (Int32.toInt s10_129) ≤ (Int32.toInt s10_75) + 4), (qc_129 : ∀ i : Nat, i < 300 → (i : Int) < (Int32.toInt s10_129) → Int32.toInt (f6_129 i) < i)⟩ := hw
                          have hL8_129 := L_8
                          refine lv_istore (lv' := [(9, .int r_129), (6, .int (γ_76 12)), (7, .int r_76), (8, .int r_75), (0, .ref (a 0)), (4, .int there), (5, .int i)]) hx hb dX9_readCell_223 hl (by decide) rfl ?_
                          clear hl; intro ls hl
                          refine lv_iload hx hb dX9_readCell_225 (lv_at hl 2 rfl) ?_
                          refine lv_if_eq (tgt := 262) hx hb dX9_readCell_227 (by decide) (fun c_130 => ?_) (fun c_130 => ?_)
                          · have kc_130 := bI_eq rfl L_0 c_130
                            obtain ⟨i_131, ei_131⟩ : ∃ z : Int32, z = i + 1 := ⟨_, rfl⟩
                            refine lv_iinc (v := i_131) (lv' := [(5, .int i_131), (9, .int r_129), (6, .int (γ_76 12)), (7, .int r_76), (8, .int r_75), (0, .ref (a 0)), (4, .int there)]) hx hb dX9_readCell_262 hl (k := 6) rfl (by rw [ei_131]; rfl) (by decide) rfl ?_
                            clear hl; intro ls hl
                            have ti_131 : (Int32.toInt i_131) = (Int32.toInt i) + 1 := aI_add rfl L_1 ei_131 (by have := rng i; have := rng (σ 6); omega)
                            refine lv_goto (tgt := 86) hx hb dX9_readCell_265 (by decide) ?_
                            exact ih86 there i_131 s11_c86 s10_129 f6_129 γ_129 ψ_129 _ _ _ (show (Int32.toInt (σ 5)) ≤ (Int32.toInt i_131) ∧ (Int32.toInt i_131) ≤ (Int32.toInt (σ 6)) ∧ 0 ≤ (Int32.toInt s11_c86) ∧ (Int32.toInt s11_c86) ≤ (Int32.toInt i_131) - (Int32.toInt (σ 5)) from (by omega)) (show (Int32.toInt (σ 10)) ≤ (Int32.toInt s10_129) ∧ (Int32.toInt s10_129) ≤ (Int32.toInt (σ 10)) + 5 * ((Int32.toInt i_131) - (Int32.toInt (σ 5))) from (by omega)) (show ∀ i : Nat, i < 300 → (i : Int) < (Int32.toInt s10_129) → Int32.toInt (f6_129 i) < i from (by with_reducible assumption)) (by omega) hP hS (lv_sub hl [5, 6, 0] rfl)
                          · have kc_130 := bI_ne rfl L_0 c_130
                            refine lv_aload_n hx hb dX9_readCell_230 rfl (lv_at hl 4 rfl) ?_
                            refine mg_0_46 hx hb hts hinX9 hown hK hP (hts (.fieldLink RX9 74 "CensusDeskModel" "sign" "[I") (List.mem_of_getElem? (i := 8) rfl)) dX9_readCell_231 ?_
                            refine lv_aload_n hx hb dX9_readCell_234 rfl (lv_at hl 4 rfl) ?_
                            refine mg_0_48 (v := s11_c86) hx hb hts hinX9 hown hK hP (hts (.fieldLink RX9 191 "CensusDeskModel" "signs" "I") (List.mem_of_getElem? (i := 2) rfl)) rfl dX9_readCell_235 ?_
                            refine lv_iload hx hb dX9_readCell_238 (lv_at hl 1 rfl) ?_
                            refine ms_22 (f := (ψ_129 14)) hx hb hK hP hI hS (i := s11_c86) (x := (γ_76 12)) (vin rfl (by omega)) rfl dX9_readCell_240 ?_
                            clear hP hS; intro H locs hP hS
                            obtain ⟨f_132, ef_132⟩ : ∃ z : Nat → Int32, z = upd (ψ_129 14) (Int32.toNatClampNeg s11_c86) (γ_76 12) := ⟨_, rfl⟩
                            rw [← ef_132] at hP
                            refine lv_aload_n hx hb dX9_readCell_241 rfl (lv_at hl 4 rfl) ?_
                            refine mg_0_47 hx hb hts hinX9 hown hK hP (hts (.fieldLink RX9 77 "CensusDeskModel" "signAt" "[I") (List.mem_of_getElem? (i := 9) rfl)) dX9_readCell_242 ?_
                            refine lv_aload_n hx hb dX9_readCell_245 rfl (lv_at hl 4 rfl) ?_
                            refine mg_0_48 (v := s11_c86) hx hb hts hinX9 hown hK hP (hts (.fieldLink RX9 191 "CensusDeskModel" "signs" "I") (List.mem_of_getElem? (i := 2) rfl)) rfl dX9_readCell_246 ?_
                            refine lv_iload hx hb dX9_readCell_249 (lv_at hl 6 rfl) ?_
                            refine ms_23 (f := (ψ_129 15)) hx hb hK hP hI hS (i := s11_c86) (x := i) (vin rfl (by omega)) rfl dX9_readCell_251 ?_
                            clear hP hS; intro H locs hP hS
                            obtain ⟨f_133, ef_133⟩ : ∃ z : Nat → Int32, z = upd (ψ_129 15) (Int32.toNatClampNeg s11_c86) i := ⟨_, rfl⟩
                            rw [← ef_133] at hP
                            refine lv_aload_n hx hb dX9_readCell_252 rfl (lv_at hl 4 rfl) ?_
                            refine lv_dup hx hb dX9_readCell_253 rfl ?_
                            refine mg_0_48 (v := s11_c86) hx hb hts hinX9 hown hK hP (hts (.fieldLink RX9 191 "CensusDeskModel" "signs" "I") (List.mem_of_getElem? (i := 2) rfl)) rfl dX9_readCell_254 ?_
                            refine lv_iconst (v := 1) hx hb dX9_readCell_257 (by decide) ?_
                            refine lv_iadd hx hb dX9_readCell_258 ?_
                            refine lv_topi (fun z_134 ez_134 => ?_)
                            have tz_134 : (Int32.toInt z_134) = (Int32.toInt s11_c86) + 1 := aI_add rfl L_1 ez_134 (by have := rng s11_c86; omega)
                            refine mp_0_48 (v := z_134) hx hb hts hinX9 hown hK hP hI hS (hts (.fieldLink RX9 191 "CensusDeskModel" "signs" "I") (List.mem_of_getElem? (i := 2) rfl)) dX9_readCell_259 ?_
                            clear hP hS; intro H locs hP hS
                            obtain ⟨i_135, ei_135⟩ : ∃ z : Int32, z = i + 1 := ⟨_, rfl⟩
                            refine lv_iinc (v := i_135) (lv' := [(5, .int i_135), (9, .int r_129), (6, .int (γ_76 12)), (7, .int r_76), (8, .int r_75), (0, .ref (a 0)), (4, .int there)]) hx hb dX9_readCell_262 hl (k := 6) rfl (by rw [ei_135]; rfl) (by decide) rfl ?_
                            clear hl; intro ls hl
                            have ti_135 : (Int32.toInt i_135) = (Int32.toInt i) + 1 := aI_add rfl L_1 ei_135 (by have := rng i; have := rng (σ 6); omega)
                            refine lv_goto (tgt := 86) hx hb dX9_readCell_265 (by decide) ?_
                            exact ih86 there i_135 z_134 s10_129 f6_129 γ_129 (up (up ψ_129 14 f_132) 15 f_133) _ _ _ (show (Int32.toInt (σ 5)) ≤ (Int32.toInt i_135) ∧ (Int32.toInt i_135) ≤ (Int32.toInt (σ 6)) ∧ 0 ≤ (Int32.toInt z_134) ∧ (Int32.toInt z_134) ≤ (Int32.toInt i_135) - (Int32.toInt (σ 5)) from (by omega)) (show (Int32.toInt (σ 10)) ≤ (Int32.toInt s10_129) ∧ (Int32.toInt s10_129) ≤ (Int32.toInt (σ 10)) + 5 * ((Int32.toInt i_135) - (Int32.toInt (σ 5))) from (by omega)) (show ∀ i : Nat, i < 300 → (i : Int) < (Int32.toInt s10_129) → Int32.toInt (f6_129 i) < i from (by with_reducible assumption)) (by omega) hP hS (lv_sub hl [5, 6, 0] rfl)
  have J17 : ∀ (n17 : Nat), ∀ (frm : Int32) (bars : Int32) (s11_c17 : Int32) (γ : Nat → Int32) (ψ : Nat → Nat → Int32) (H : Heap) (locs : List Loc) (ls : Array Slot), ((Int32.toInt (σ 5)) ≤ (Int32.toInt frm) ∧ (Int32.toInt frm) ≤ (Int32.toInt (σ 6)) ∧ (Int32.toInt s11_c17) = 0) → (((Int32.toInt (σ 6)) - (Int32.toInt frm)).toNat < n17) → va_P (dC, dI) vwCl (mw a κ ((up σ 11 s11_c17), φ, γ, ψ)) H → va_S (mA a) s.heap H locs → lv_has ls 10 [(0, .ref (a 0)), (1, .int k), (2, .int frm), (3, .int bars)] → W p l e ({ frames := 7, cells := 0, slots := 0, locals := 165 } : Room) s m ([.ref (a 0), .int k] : List Value).toArray below meth c H locs 0 0 QQ (F0 m 17 ls []) := by
    intro n17
    induction n17 with
    | zero =>
      intro frm bars s11_c17 γ ψ H locs ls v0 hm
      exact absurd hm (Nat.not_lt_zero _)
    | succ n17 ih17 =>
      intro frm bars s11_c17 γ ψ H locs ls v0 hm hP hS hl
      refine lv_iload_n hx hb dX9_readCell_17 rfl (lv_at hl 2 rfl) ?_
      refine lv_aload_n hx hb dX9_readCell_18 rfl (lv_at hl 0 rfl) ?_
      refine mg_0_19 (v := (σ 6)) hx hb hts hinX9 hown hK hP (hts (.fieldLink RX9 194 "CensusDeskModel" "lineEnd" "I") (List.mem_of_getElem? (i := 4) rfl)) rfl dX9_readCell_19 ?_
      refine lv_icmp_ge (tgt := 54) hx hb dX9_readCell_22 (by decide) (fun c_136 => ?_) (fun c_136 => ?_)
      · have kc_136 := bI_le rfl rfl c_136
        refine lv_iload_n hx hb dX9_readCell_54 rfl (lv_at hl 3 rfl) ?_
        refine lv_iload_n hx hb dX9_readCell_55 rfl (lv_at hl 1 rfl) ?_
        refine lv_icmp_ne (tgt := 63) hx hb dX9_readCell_56 (by decide) (fun c_137 => ?_) (fun c_137 => ?_)
        · have kc_137 := bI_ne rfl rfl c_137
          refine lv_iconst (v := 0) hx hb dX9_readCell_63 (by decide) ?_
          refine lv_istore (lv' := [(4, .int 0), (0, .ref (a 0)), (1, .int k), (2, .int frm), (3, .int bars)]) hx hb dX9_readCell_64 hl (by decide) rfl ?_
          clear hl; intro ls hl
          refine lv_aload_n hx hb dX9_readCell_66 rfl (lv_at hl 1 rfl) ?_
          refine lv_iload hx hb dX9_readCell_67 (lv_at hl 0 rfl) ?_
          refine lv_if_eq (tgt := 76) hx hb dX9_readCell_69 (by decide) (fun c_138 => ?_) (fun c_138 => absurd c_138 (by decide))
          refine lv_aload_n hx hb dX9_readCell_76 rfl (lv_at hl 1 rfl) ?_
          refine mg_0_19 (v := (σ 6)) hx hb hts hinX9 hown hK hP (hts (.fieldLink RX9 194 "CensusDeskModel" "lineEnd" "I") (List.mem_of_getElem? (i := 4) rfl)) rfl dX9_readCell_77 ?_
          refine mp_0_50 (v := (σ 6)) hx hb hts hinX9 hown hK hP hI hS (hts (.fieldLink RX9 200 "CensusDeskModel" "cellAt" "I") (List.mem_of_getElem? (i := 5) rfl)) dX9_readCell_80 ?_
          clear hP hS; intro H locs hP hS
          refine lv_iload_n hx hb dX9_readCell_83 rfl (lv_at hl 3 rfl) ?_
          refine lv_istore (lv' := [(5, .int frm), (4, .int 0), (0, .ref (a 0)), (1, .int k), (2, .int frm), (3, .int bars)]) hx hb dX9_readCell_84 hl (by decide) rfl ?_
          clear hl; intro ls hl
          exact J86 (_ + 1) 0 frm s11_c17 (σ 10) (φ 6) (up γ 14 (σ 6)) ψ _ _ _ (show (Int32.toInt (σ 5)) ≤ (Int32.toInt frm) ∧ (Int32.toInt frm) ≤ (Int32.toInt (σ 6)) ∧ 0 ≤ (Int32.toInt s11_c17) ∧ (Int32.toInt s11_c17) ≤ (Int32.toInt frm) - (Int32.toInt (σ 5)) from (by omega)) (show (Int32.toInt (σ 10)) ≤ (Int32.toInt (σ 10)) ∧ (Int32.toInt (σ 10)) ≤ (Int32.toInt (σ 10)) + 5 * ((Int32.toInt frm) - (Int32.toInt (σ 5))) from (by omega)) (show ∀ i : Nat, i < 300 → (i : Int) < (Int32.toInt (σ 10)) → Int32.toInt ((φ 6) i) < i from (by with_reducible assumption)) (Nat.lt_succ_self _) hP hS (lv_sub hl [2, 1, 0] rfl)
        · have kc_137 := bI_eq rfl rfl c_137
          refine lv_iconst (v := 1) hx hb dX9_readCell_59 (by decide) ?_
          refine lv_goto (tgt := 64) hx hb dX9_readCell_60 (by decide) ?_
          refine lv_istore (lv' := [(4, .int 1), (0, .ref (a 0)), (1, .int k), (2, .int frm), (3, .int bars)]) hx hb dX9_readCell_64 hl (by decide) rfl ?_
          clear hl; intro ls hl
          refine lv_aload_n hx hb dX9_readCell_66 rfl (lv_at hl 1 rfl) ?_
          refine lv_iload hx hb dX9_readCell_67 (lv_at hl 0 rfl) ?_
          refine lv_if_eq (tgt := 76) hx hb dX9_readCell_69 (by decide) (fun c_139 => absurd c_139 (by decide)) (fun c_139 => ?_)
          refine lv_iload_n hx hb dX9_readCell_72 rfl (lv_at hl 3 rfl) ?_
          refine lv_goto (tgt := 80) hx hb dX9_readCell_73 (by decide) ?_
          refine mp_0_50 (v := frm) hx hb hts hinX9 hown hK hP hI hS (hts (.fieldLink RX9 200 "CensusDeskModel" "cellAt" "I") (List.mem_of_getElem? (i := 5) rfl)) dX9_readCell_80 ?_
          clear hP hS; intro H locs hP hS
          refine lv_iload_n hx hb dX9_readCell_83 rfl (lv_at hl 3 rfl) ?_
          refine lv_istore (lv' := [(5, .int frm), (4, .int 1), (0, .ref (a 0)), (1, .int k), (2, .int frm), (3, .int bars)]) hx hb dX9_readCell_84 hl (by decide) rfl ?_
          clear hl; intro ls hl
          exact J86 (_ + 1) 1 frm s11_c17 (σ 10) (φ 6) (up γ 14 frm) ψ _ _ _ (show (Int32.toInt (σ 5)) ≤ (Int32.toInt frm) ∧ (Int32.toInt frm) ≤ (Int32.toInt (σ 6)) ∧ 0 ≤ (Int32.toInt s11_c17) ∧ (Int32.toInt s11_c17) ≤ (Int32.toInt frm) - (Int32.toInt (σ 5)) from (by omega)) (show (Int32.toInt (σ 10)) ≤ (Int32.toInt (σ 10)) ∧ (Int32.toInt (σ 10)) ≤ (Int32.toInt (σ 10)) + 5 * ((Int32.toInt frm) - (Int32.toInt (σ 5))) from (by omega)) (show ∀ i : Nat, i < 300 → (i : Int) < (Int32.toInt (σ 10)) → Int32.toInt ((φ 6) i) < i from (by with_reducible assumption)) (Nat.lt_succ_self _) hP hS (lv_sub hl [2, 1, 0] rfl)
      · have kc_136 := bI_nle rfl rfl c_136
        refine lv_iload_n hx hb dX9_readCell_25 rfl (lv_at hl 3 rfl) ?_
        refine lv_iload_n hx hb dX9_readCell_26 rfl (lv_at hl 1 rfl) ?_
        refine lv_icmp_ge (tgt := 54) hx hb dX9_readCell_27 (by decide) (fun c_140 => ?_) (fun c_140 => ?_)
        · have kc_140 := bI_le rfl rfl c_140
          refine lv_iload_n hx hb dX9_readCell_54 rfl (lv_at hl 3 rfl) ?_
          refine lv_iload_n hx hb dX9_readCell_55 rfl (lv_at hl 1 rfl) ?_
          refine lv_icmp_ne (tgt := 63) hx hb dX9_readCell_56 (by decide) (fun c_141 => ?_) (fun c_141 => ?_)
          · have kc_141 := bI_ne rfl rfl c_141
            refine lv_iconst (v := 0) hx hb dX9_readCell_63 (by decide) ?_
            refine lv_istore (lv' := [(4, .int 0), (0, .ref (a 0)), (1, .int k), (2, .int frm), (3, .int bars)]) hx hb dX9_readCell_64 hl (by decide) rfl ?_
            clear hl; intro ls hl
            refine lv_aload_n hx hb dX9_readCell_66 rfl (lv_at hl 1 rfl) ?_
            refine lv_iload hx hb dX9_readCell_67 (lv_at hl 0 rfl) ?_
            refine lv_if_eq (tgt := 76) hx hb dX9_readCell_69 (by decide) (fun c_142 => ?_) (fun c_142 => absurd c_142 (by decide))
            refine lv_aload_n hx hb dX9_readCell_76 rfl (lv_at hl 1 rfl) ?_
            refine mg_0_19 (v := (σ 6)) hx hb hts hinX9 hown hK hP (hts (.fieldLink RX9 194 "CensusDeskModel" "lineEnd" "I") (List.mem_of_getElem? (i := 4) rfl)) rfl dX9_readCell_77 ?_
            refine mp_0_50 (v := (σ 6)) hx hb hts hinX9 hown hK hP hI hS (hts (.fieldLink RX9 200 "CensusDeskModel" "cellAt" "I") (List.mem_of_getElem? (i := 5) rfl)) dX9_readCell_80 ?_
            clear hP hS; intro H locs hP hS
            refine lv_iload_n hx hb dX9_readCell_83 rfl (lv_at hl 3 rfl) ?_
            refine lv_istore (lv' := [(5, .int frm), (4, .int 0), (0, .ref (a 0)), (1, .int k), (2, .int frm), (3, .int bars)]) hx hb dX9_readCell_84 hl (by decide) rfl ?_
            clear hl; intro ls hl
            exact J86 (_ + 1) 0 frm s11_c17 (σ 10) (φ 6) (up γ 14 (σ 6)) ψ _ _ _ (show (Int32.toInt (σ 5)) ≤ (Int32.toInt frm) ∧ (Int32.toInt frm) ≤ (Int32.toInt (σ 6)) ∧ 0 ≤ (Int32.toInt s11_c17) ∧ (Int32.toInt s11_c17) ≤ (Int32.toInt frm) - (Int32.toInt (σ 5)) from (by omega)) (show (Int32.toInt (σ 10)) ≤ (Int32.toInt (σ 10)) ∧ (Int32.toInt (σ 10)) ≤ (Int32.toInt (σ 10)) + 5 * ((Int32.toInt frm) - (Int32.toInt (σ 5))) from (by omega)) (show ∀ i : Nat, i < 300 → (i : Int) < (Int32.toInt (σ 10)) → Int32.toInt ((φ 6) i) < i from (by with_reducible assumption)) (Nat.lt_succ_self _) hP hS (lv_sub hl [2, 1, 0] rfl)
          · have kc_141 := bI_eq rfl rfl c_141
            refine lv_iconst (v := 1) hx hb dX9_readCell_59 (by decide) ?_
            refine lv_goto (tgt := 64) hx hb dX9_readCell_60 (by decide) ?_
            refine lv_istore (lv' := [(4, .int 1), (0, .ref (a 0)), (1, .int k), (2, .int frm), (3, .int bars)]) hx hb dX9_readCell_64 hl (by decide) rfl ?_
            clear hl; intro ls hl
            refine lv_aload_n hx hb dX9_readCell_66 rfl (lv_at hl 1 rfl) ?_
            refine lv_iload hx hb dX9_readCell_67 (lv_at hl 0 rfl) ?_
            refine lv_if_eq (tgt := 76) hx hb dX9_readCell_69 (by decide) (fun c_143 => absurd c_143 (by decide)) (fun c_143 => ?_)
            refine lv_iload_n hx hb dX9_readCell_72 rfl (lv_at hl 3 rfl) ?_
            refine lv_goto (tgt := 80) hx hb dX9_readCell_73 (by decide) ?_
            refine mp_0_50 (v := frm) hx hb hts hinX9 hown hK hP hI hS (hts (.fieldLink RX9 200 "CensusDeskModel" "cellAt" "I") (List.mem_of_getElem? (i := 5) rfl)) dX9_readCell_80 ?_
            clear hP hS; intro H locs hP hS
            refine lv_iload_n hx hb dX9_readCell_83 rfl (lv_at hl 3 rfl) ?_
            refine lv_istore (lv' := [(5, .int frm), (4, .int 1), (0, .ref (a 0)), (1, .int k), (2, .int frm), (3, .int bars)]) hx hb dX9_readCell_84 hl (by decide) rfl ?_
            clear hl; intro ls hl
            exact J86 (_ + 1) 1 frm s11_c17 (σ 10) (φ 6) (up γ 14 frm) ψ _ _ _ (show (Int32.toInt (σ 5)) ≤ (Int32.toInt frm) ∧ (Int32.toInt frm) ≤ (Int32.toInt (σ 6)) ∧ 0 ≤ (Int32.toInt s11_c17) ∧ (Int32.toInt s11_c17) ≤ (Int32.toInt frm) - (Int32.toInt (σ 5)) from (by omega)) (show (Int32.toInt (σ 10)) ≤ (Int32.toInt (σ 10)) ∧ (Int32.toInt (σ 10)) ≤ (Int32.toInt (σ 10)) + 5 * ((Int32.toInt frm) - (Int32.toInt (σ 5))) from (by omega)) (show ∀ i : Nat, i < 300 → (i : Int) < (Int32.toInt (σ 10)) → Int32.toInt ((φ 6) i) < i from (by with_reducible assumption)) (Nat.lt_succ_self _) hP hS (lv_sub hl [2, 1, 0] rfl)
        · have kc_140 := bI_nle rfl rfl c_140
          refine lv_iload_n hx hb dX9_readCell_30 rfl (lv_at hl 3 rfl) ?_
          refine lv_aload_n hx hb dX9_readCell_31 rfl (lv_at hl 0 rfl) ?_
          refine lv_iload_n hx hb dX9_readCell_32 rfl (lv_at hl 2 rfl) ?_
          refine m_calli (va_runV (As := [.int frm]) (rest := [.int bars]) ⟨hx, hb, hml, hown, hts⟩ (c_X9_at l dC dI a κ (up σ 11 s11_c17) φ γ ψ frm (show 0 ≤ (Int32.toInt frm) ∧ (Int32.toInt frm) < 4000 from (by omega))) (cwV 1 hts gX9_readCell_X9_at rfl rfl rfl ⟨rfl, hd_X9_at⟩ ⟨Nat.le_of_ble_eq_true rfl, Nat.le_of_ble_eq_true rfl⟩) (mPreV hP hK hI hN hS (va_recv hK hP (ci := 9) (q0 := 0) rfl rfl)) rfl rfl hl.1 rfl (lv_room (Nat.le_of_ble_eq_true rfl)) dX9_readCell_33 ⟨(by decide +kernel), (by decide +kernel)⟩) hS ?_
          clear hP hS; intro r_144 S_144 F_144 γ_144 ψ_144 H locs hw hP hS
          obtain ⟨rfl, rfl, (qm_144 : (Int32.toInt r_144) = Int32.toInt (mat (φ 0) frm)), (qr_144 : 0 ≤ (Int32.toInt r_144) ∧ (Int32.toInt r_144) ≤ 255)⟩ := hw
          refine lv_bipush (v := 124) hx hb dX9_readCell_36 (by decide) ?_
          refine lv_icmp_ne (tgt := 45) hx hb dX9_readCell_38 (by decide) (fun c_145 => ?_) (fun c_145 => ?_)
          · have kc_145 := bI_ne rfl L_124 c_145
            refine lv_iconst (v := 0) hx hb dX9_readCell_45 (by decide) ?_
            refine lv_iadd hx hb dX9_readCell_46 ?_
            refine lv_topi (fun z_146 ez_146 => ?_)
            refine lv_istore_n (lv' := [(3, .int z_146), (0, .ref (a 0)), (1, .int k), (2, .int frm)]) hx hb dX9_readCell_47 rfl hl (by decide) rfl ?_
            clear hl; intro ls hl
            obtain ⟨i_147, ei_147⟩ : ∃ z : Int32, z = frm + 1 := ⟨_, rfl⟩
            refine lv_iinc (v := i_147) (lv' := [(2, .int i_147), (3, .int z_146), (0, .ref (a 0)), (1, .int k)]) hx hb dX9_readCell_48 hl (k := 3) rfl (by rw [ei_147]; rfl) (by decide) rfl ?_
            clear hl; intro ls hl
            have ti_147 : (Int32.toInt i_147) = (Int32.toInt frm) + 1 := aI_add rfl L_1 ei_147 (by have := rng frm; have := rng (σ 6); omega)
            refine lv_goto (tgt := 17) hx hb dX9_readCell_51 (by decide) ?_
            exact ih17 i_147 z_146 s11_c17 γ_144 ψ_144 _ _ _ (show (Int32.toInt (σ 5)) ≤ (Int32.toInt i_147) ∧ (Int32.toInt i_147) ≤ (Int32.toInt (σ 6)) ∧ (Int32.toInt s11_c17) = 0 from (by omega)) (by omega) hP hS (lv_sub hl [2, 3, 0, 1] rfl)
          · have kc_145 := bI_eq rfl L_124 c_145
            refine lv_iconst (v := 1) hx hb dX9_readCell_41 (by decide) ?_
            refine lv_goto (tgt := 46) hx hb dX9_readCell_42 (by decide) ?_
            refine lv_iadd hx hb dX9_readCell_46 ?_
            refine lv_topi (fun z_148 ez_148 => ?_)
            refine lv_istore_n (lv' := [(3, .int z_148), (0, .ref (a 0)), (1, .int k), (2, .int frm)]) hx hb dX9_readCell_47 rfl hl (by decide) rfl ?_
            clear hl; intro ls hl
            obtain ⟨i_149, ei_149⟩ : ∃ z : Int32, z = frm + 1 := ⟨_, rfl⟩
            refine lv_iinc (v := i_149) (lv' := [(2, .int i_149), (3, .int z_148), (0, .ref (a 0)), (1, .int k)]) hx hb dX9_readCell_48 hl (k := 3) rfl (by rw [ei_149]; rfl) (by decide) rfl ?_
            clear hl; intro ls hl
            have ti_149 : (Int32.toInt i_149) = (Int32.toInt frm) + 1 := aI_add rfl L_1 ei_149 (by have := rng frm; have := rng (σ 6); omega)
            refine lv_goto (tgt := 17) hx hb dX9_readCell_51 (by decide) ?_
            exact ih17 i_149 z_148 s11_c17 γ_144 ψ_144 _ _ _ (show (Int32.toInt (σ 5)) ≤ (Int32.toInt i_149) ∧ (Int32.toInt i_149) ≤ (Int32.toInt (σ 6)) ∧ (Int32.toInt s11_c17) = 0 from (by omega)) (by omega) hP hS (lv_sub hl [2, 3, 0, 1] rfl)
  refine lv_aload_n hx hb dX9_readCell_0 rfl (lv_at hl 0 rfl) ?_
  refine lv_iconst (v := 0) hx hb dX9_readCell_1 (by decide) ?_
  refine mp_0_21 (v := 0) hx hb hts hinX9 hown hK hP hI hS (hts (.fieldLink RX9 184 "CensusDeskModel" "fieldLost" "Z") (List.mem_of_getElem? (i := 1) rfl)) (by first | rfl | decide) (by first | rfl | decide) dX9_readCell_2 ?_
  clear hP hS; intro H locs hP hS
  refine lv_aload_n hx hb dX9_readCell_5 rfl (lv_at hl 0 rfl) ?_
  refine lv_iconst (v := 0) hx hb dX9_readCell_6 (by decide) ?_
  refine mp_0_48 (v := 0) hx hb hts hinX9 hown hK hP hI hS (hts (.fieldLink RX9 191 "CensusDeskModel" "signs" "I") (List.mem_of_getElem? (i := 2) rfl)) dX9_readCell_7 ?_
  clear hP hS; intro H locs hP hS
  refine lv_aload_n hx hb dX9_readCell_10 rfl (lv_at hl 0 rfl) ?_
  refine mg_0_18 (v := (σ 5)) hx hb hts hinX9 hown hK hP (hts (.fieldLink RX9 171 "CensusDeskModel" "lineAt" "I") (List.mem_of_getElem? (i := 3) rfl)) rfl dX9_readCell_11 ?_
  refine lv_istore_n (lv' := [(2, .int (σ 5)), (0, .ref (a 0)), (1, .int k)]) hx hb dX9_readCell_14 rfl hl (by decide) rfl ?_
  clear hl; intro ls hl
  refine lv_iconst (v := 0) hx hb dX9_readCell_15 (by decide) ?_
  refine lv_istore_n (lv' := [(3, .int 0), (2, .int (σ 5)), (0, .ref (a 0)), (1, .int k)]) hx hb dX9_readCell_16 rfl hl (by decide) rfl ?_
  clear hl; intro ls hl
  exact J17 (_ + 1) (σ 5) 0 0 (up γ 10 0) ψ _ _ _ (show (Int32.toInt (σ 5)) ≤ (Int32.toInt (σ 5)) ∧ (Int32.toInt (σ 5)) ≤ (Int32.toInt (σ 6)) ∧ (Int32.toInt 0) = 0 from (by have := L_0; omega)) (Nat.lt_succ_self _) hP hS (lv_sub hl [2, 3, 1, 0] rfl)
