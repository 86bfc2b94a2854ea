set_option maxHeartbeats 4000000 in
set_option maxRecDepth 100000 in
theorem c_X9_isLine (l : Launch) (dC : Nat → ClassId) (dI : Nat → Nat → Nat) (a : Nat → Nat) (κ : Nat → ClassId) (σ : Nat → Int32) (φ : Nat → Nat → Int32) (γ : Nat → Int32) (ψ : Nat → Nat → Int32) (sort : Int32) (due : Int32) (hl : 0 ≤ (Int32.toInt (σ 5)) ∧ (Int32.toInt (σ 5)) ≤ (Int32.toInt (σ 6)) ∧ (Int32.toInt (σ 6)) ≤ 4000) (hf : 0 ≤ (Int32.toInt (σ 10)) ∧ (Int32.toInt (σ 10)) ≤ 1500000000) (hfc : ∀ i : Nat, i < 300 → (i : Int) < (Int32.toInt (σ 10)) → Int32.toInt ((φ 6) i) < i) : Met l yX9_isLine wsX9_isLine ({ frames := 6, cells := 0, slots := 0, locals := 140 } : Room) (va_Pc [.ref (a 0), .int sort, .int due] (mPre dC dI a κ (σ, φ, γ, ψ))) (va_Qi (QI (fun r S F => ∃ (s10 : Int32) (f6 : Nat → Int32), (up σ 10 s10) = S ∧ (up φ 6 f6) = F ∧ ((Int32.toInt (σ 10)) ≤ (Int32.toInt s10) ∧ (Int32.toInt s10) ≤ (Int32.toInt (σ 10)) + 3) ∧ (∀ i : Nat, i < 300 → (i : Int) < (Int32.toInt s10) → Int32.toInt (f6 i) < i) ∧ ((Int32.toInt r) = 0 ∨ (((Int32.toInt sort) = 72 ∨ (Int32.toInt sort) = 80 ∨ (Int32.toInt sort) = 83) ∧ ((Int32.toInt sort) ≠ 80 ∨ (Int32.toInt (σ 3)) ≠ 0))))) (mB dC dI a κ) (mA a)) 0 0 (mA a) := by
  refine Met.ofW (cc := cX9_isLine) (maxL := 4) (ret := (some .boolean)) (by decide) rfl ?_
  intro p e s m args below meth c s₁ B hml hv
  obtain ⟨rfl, hP, hK, hI, hN⟩ := hv
  have hx := B.exec
  have hb := B.bytes
  have hr := B.returns
  have hts := atoms_spec (ws := wsX9_isLine) B.pre
  have hown : s.vm.findClass RX9 = some m.cls := findClass_of_methodNamed B.named
  have hlocks := B.notSynchronized
  have hS : va_S (mA a) s.heap s.heap [] := va_S.rf
  have hinX9 : ∀ w ∈ wsX90, w ∈ wsX9_isLine := fun _ h => List.mem_cons_of_mem _ (List.mem_append_right _ h)
  have hl := lv_entry ([.ref (a 0), .int sort, .int due]) (n := 4) (Nat.le_of_ble_eq_true rfl)
  rw [lg_entry_eq]
  generalize (lg_sl ([.ref (a 0), .int sort, .int due]) ++ List.replicate (4 - (lg_sl ([.ref (a 0), .int sort, .int due])).length) Slot.unset).toArray = ls at hl ⊢
  have hl : lv_has ls 4 [(0, .ref (a 0)), (1, .int sort), (2, .int due)] := hl
  refine k_gen (fun QQ eQ => ?_)
  have J96 : ∀ (n96 : Nat), ∀ (i : Int32) (γ : Nat → Int32) (ψ : Nat → Nat → Int32) (H : Heap) (locs : List Loc) (ls : Array Slot), ((Int32.toInt (σ 5)) ≤ (Int32.toInt i)) → (((Int32.toInt sort) = 72 ∨ (Int32.toInt sort) = 80 ∨ (Int32.toInt sort) = 83) ∧ ((Int32.toInt sort) ≠ 80 ∨ (Int32.toInt (σ 3)) ≠ 0)) → (((Int32.toInt (σ 6)) - (Int32.toInt i)).toNat < n96) → va_P (dC, dI) vwCl (mw a κ (σ, φ, γ, ψ)) H → va_S (mA a) s.heap H locs → lv_has ls 4 [(0, .ref (a 0)), (2, .int due), (3, .int i)] → W p l e ({ frames := 6, cells := 0, slots := 0, locals := 140 } : Room) s m ([.ref (a 0), .int sort, .int due] : List Value).toArray below meth c H locs 0 0 QQ (F0 m 96 ls []) := by
    intro n96
    induction n96 with
    | zero =>
      intro i γ ψ H locs ls v0 vi hm
      exact absurd hm (Nat.not_lt_zero _)
    | succ n96 ih96 =>
      intro i γ ψ H locs ls v0 vi hm hP hS hl
      refine lv_iload_n hx hb dX9_isLine_96 rfl (lv_at hl 2 rfl) ?_
      refine lv_aload_n hx hb dX9_isLine_97 rfl (lv_at hl 0 rfl) ?_
      refine mg_0_19 (v := (σ 6)) hx hb hts hinX9 hown hK hP (hts (.fieldLink RX9 194 "CensusDeskModel" "lineEnd" "I") (List.mem_of_getElem? (i := 2) rfl)) rfl dX9_isLine_98 ?_
      refine lv_icmp_ge (tgt := 134) hx hb dX9_isLine_101 (by decide) (fun c_1 => ?_) (fun c_1 => ?_)
      · have kc_1 := bI_le rfl rfl c_1
        refine lv_aload_n hx hb dX9_isLine_134 rfl (lv_at hl 0 rfl) ?_
        refine mg_0_49 (v := (γ 13)) hx hb hts hinX9 hown hK hP (hts (.fieldLink RX9 218 "CensusDeskModel" "cells" "I") (List.mem_of_getElem? (i := 5) rfl)) rfl dX9_isLine_135 ?_
        refine lv_iload_n hx hb dX9_isLine_138 rfl (lv_at hl 1 rfl) ?_
        refine lv_icmp_eq (tgt := 162) hx hb dX9_isLine_139 (by decide) (fun c_2 => ?_) (fun c_2 => ?_)
        · have kc_2 := bI_eq rfl rfl c_2
          refine lv_aload_n hx hb dX9_isLine_162 rfl (lv_at hl 0 rfl) ?_
          refine mg_0_20 (v := (γ 9)) hx hb hts hinX9 hown hK hP (hts (.fieldLink RX9 177 "CensusDeskModel" "lineLost" "Z") (List.mem_of_getElem? (i := 1) rfl)) rfl dX9_isLine_163 ?_
          refine lv_if_ne (tgt := 173) hx hb dX9_isLine_166 (by decide) (fun c_3 => ?_) (fun c_3 => ?_)
          · have kc_3 := bI_ne rfl L_0 c_3
            refine lv_iconst (v := 0) hx hb dX9_isLine_173 (by decide) ?_
            subst eQ
            exact W.zret (v := 0) hx hb hr (by first | rfl | decide) (fun t ht hW => ⟨⟨0, ((up σ 10 (σ 10)), (up φ 6 (φ 6)), γ, ψ), rfl, ⟨(σ 10), (φ 6), rfl, rfl, (show (Int32.toInt (σ 10)) ≤ (Int32.toInt (σ 10)) ∧ (Int32.toInt (σ 10)) ≤ (Int32.toInt (σ 10)) + 3 from (by omega)), (show ∀ i : Nat, i < 300 → (i : Int) < (Int32.toInt (σ 10)) → Int32.toInt ((φ 6) i) < i from (by with_reducible assumption)), (show (Int32.toInt 0) = 0 ∨ (((Int32.toInt sort) = 72 ∨ (Int32.toInt sort) = 80 ∨ (Int32.toInt sort) = 83) ∧ ((Int32.toInt sort) ≠ 80 ∨ (Int32.toInt (σ 3)) ≠ 0)) from (by have := L_0; omega))⟩, (by show va_P _ _ _ _; rw [ht]; exact hP)⟩, hS.F ht⟩) hS.2.2 dX9_isLine_174
          · have kc_3 := bI_eq rfl L_0 c_3
            refine lv_iconst (v := 1) hx hb dX9_isLine_169 (by decide) ?_
            refine lv_goto (tgt := 174) hx hb dX9_isLine_170 (by decide) ?_
            subst eQ
            exact W.zret (v := 1) hx hb hr (by first | rfl | decide) (fun t ht hW => ⟨⟨1, ((up σ 10 (σ 10)), (up φ 6 (φ 6)), γ, ψ), rfl, ⟨(σ 10), (φ 6), rfl, rfl, (show (Int32.toInt (σ 10)) ≤ (Int32.toInt (σ 10)) ∧ (Int32.toInt (σ 10)) ≤ (Int32.toInt (σ 10)) + 3 from (by omega)), (show ∀ i : Nat, i < 300 → (i : Int) < (Int32.toInt (σ 10)) → Int32.toInt ((φ 6) i) < i from (by with_reducible assumption)), (show (Int32.toInt 1) = 0 ∨ (((Int32.toInt sort) = 72 ∨ (Int32.toInt sort) = 80 ∨ (Int32.toInt sort) = 83) ∧ ((Int32.toInt sort) ≠ 80 ∨ (Int32.toInt (σ 3)) ≠ 0)) from (by have := L_1; omega))⟩, (by show va_P _ _ _ _; rw [ht]; exact hP)⟩, hS.F ht⟩) hS.2.2 dX9_isLine_174
        · have kc_2 := bI_ne rfl rfl c_2
          refine lv_aload_n hx hb dX9_isLine_142 rfl (lv_at hl 0 rfl) ?_
          refine lv_aload_n hx hb dX9_isLine_143 rfl (lv_at hl 0 rfl) ?_
          refine mg_0_49 (v := (γ 13)) hx hb hts hinX9 hown hK hP (hts (.fieldLink RX9 218 "CensusDeskModel" "cells" "I") (List.mem_of_getElem? (i := 5) rfl)) rfl dX9_isLine_144 ?_
          refine lv_iload_n hx hb dX9_isLine_147 rfl (lv_at hl 1 rfl) ?_
          refine lv_icmp_ge (tgt := 156) hx hb dX9_isLine_148 (by decide) (fun c_4 => ?_) (fun c_4 => ?_)
          · have kc_4 := bI_le rfl rfl c_4
            refine lv_bipush (v := 11) hx hb dX9_isLine_156 (by decide) ?_
            refine lv_iconst (v := (-1)) hx hb dX9_isLine_158 (by decide) ?_
            refine m_callv (va_runV (As := [.int 11, .int (-1)]) (rest := []) ⟨hx, hb, hml, hown, hts⟩ (c_X9_failLine l dC dI a κ σ φ γ ψ 11 (-1) (show 1 ≤ (Int32.toInt 11) ∧ (Int32.toInt 11) ≤ 21 from (by have := L_11; omega)) (show (Int32.toInt (-1)) < (Int32.toInt (σ 10)) from (by have := L_m1; omega)) (show 0 ≤ (Int32.toInt (σ 10)) ∧ (Int32.toInt (σ 10)) ≤ 1999999970 from (by omega)) (show ∀ i : Nat, i < 300 → (i : Int) < (Int32.toInt (σ 10)) → Int32.toInt ((φ 6) i) < i from (by with_reducible assumption))) (cwV 2 hts gX9_isLine_X9_failLine rfl rfl rfl ⟨rfl, hd_X9_failLine⟩ ⟨Nat.le_of_ble_eq_true rfl, Nat.le_of_ble_eq_true rfl⟩) (mPreV hP hK hI hN hS (va_recv hK hP (ci := 9) (q0 := 0) rfl rfl)) rfl rfl hl.1 rfl (lv_room (Nat.le_of_ble_eq_true rfl)) dX9_isLine_159 ⟨(by decide +kernel), (by decide +kernel)⟩) hS ?_
            clear hP hS; intro S_5 F_5 γ_5 ψ_5 H locs hw hP hS
            obtain ⟨s10_5, f6_5, rfl, rfl, (qf_5 : (Int32.toInt (σ 10)) ≤ (Int32.toInt s10_5) ∧ (Int32.toInt s10_5) ≤ (Int32.toInt (σ 10)) + 3), (qc_5 : ∀ i : Nat, i < 300 → (i : Int) < (Int32.toInt s10_5) → Int32.toInt (f6_5 i) < i)⟩ := hw
            have hLm1_5 := L_m1
            have hL11_5 := L_11
            refine lv_aload_n hx hb dX9_isLine_162 rfl (lv_at hl 0 rfl) ?_
            refine mg_0_20 (v := (γ_5 9)) hx hb hts hinX9 hown hK hP (hts (.fieldLink RX9 177 "CensusDeskModel" "lineLost" "Z") (List.mem_of_getElem? (i := 1) rfl)) rfl dX9_isLine_163 ?_
            refine lv_if_ne (tgt := 173) hx hb dX9_isLine_166 (by decide) (fun c_6 => ?_) (fun c_6 => ?_)
            · have kc_6 := bI_ne rfl L_0 c_6
              refine lv_iconst (v := 0) hx hb dX9_isLine_173 (by decide) ?_
              subst eQ
              exact W.zret (v := 0) hx hb hr (by first | rfl | decide) (fun t ht hW => ⟨⟨0, ((up σ 10 s10_5), (up φ 6 f6_5), γ_5, ψ_5), rfl, ⟨s10_5, f6_5, rfl, rfl, (show (Int32.toInt (σ 10)) ≤ (Int32.toInt s10_5) ∧ (Int32.toInt s10_5) ≤ (Int32.toInt (σ 10)) + 3 from (by omega)), (show ∀ i : Nat, i < 300 → (i : Int) < (Int32.toInt s10_5) → Int32.toInt (f6_5 i) < i from (by with_reducible assumption)), (show (Int32.toInt 0) = 0 ∨ (((Int32.toInt sort) = 72 ∨ (Int32.toInt sort) = 80 ∨ (Int32.toInt sort) = 83) ∧ ((Int32.toInt sort) ≠ 80 ∨ (Int32.toInt (σ 3)) ≠ 0)) from (by have := L_0; omega))⟩, (by show va_P _ _ _ _; rw [ht]; exact hP)⟩, hS.F ht⟩) hS.2.2 dX9_isLine_174
            · have kc_6 := bI_eq rfl L_0 c_6
              refine lv_iconst (v := 1) hx hb dX9_isLine_169 (by decide) ?_
              refine lv_goto (tgt := 174) hx hb dX9_isLine_170 (by decide) ?_
              subst eQ
              exact W.zret (v := 1) hx hb hr (by first | rfl | decide) (fun t ht hW => ⟨⟨1, ((up σ 10 s10_5), (up φ 6 f6_5), γ_5, ψ_5), rfl, ⟨s10_5, f6_5, rfl, rfl, (show (Int32.toInt (σ 10)) ≤ (Int32.toInt s10_5) ∧ (Int32.toInt s10_5) ≤ (Int32.toInt (σ 10)) + 3 from (by omega)), (show ∀ i : Nat, i < 300 → (i : Int) < (Int32.toInt s10_5) → Int32.toInt (f6_5 i) < i from (by with_reducible assumption)), (show (Int32.toInt 1) = 0 ∨ (((Int32.toInt sort) = 72 ∨ (Int32.toInt sort) = 80 ∨ (Int32.toInt sort) = 83) ∧ ((Int32.toInt sort) ≠ 80 ∨ (Int32.toInt (σ 3)) ≠ 0)) from (by have := L_1; omega))⟩, (by show va_P _ _ _ _; rw [ht]; exact hP)⟩, hS.F ht⟩) hS.2.2 dX9_isLine_174
          · have kc_4 := bI_nle rfl rfl c_4
            refine lv_bipush (v := 10) hx hb dX9_isLine_151 (by decide) ?_
            refine lv_goto (tgt := 158) hx hb dX9_isLine_153 (by decide) ?_
            refine lv_iconst (v := (-1)) hx hb dX9_isLine_158 (by decide) ?_
            refine m_callv (va_runV (As := [.int 10, .int (-1)]) (rest := []) ⟨hx, hb, hml, hown, hts⟩ (c_X9_failLine l dC dI a κ σ φ γ ψ 10 (-1) (show 1 ≤ (Int32.toInt 10) ∧ (Int32.toInt 10) ≤ 21 from (by have := L_10; omega)) (show (Int32.toInt (-1)) < (Int32.toInt (σ 10)) from (by have := L_m1; omega)) (show 0 ≤ (Int32.toInt (σ 10)) ∧ (Int32.toInt (σ 10)) ≤ 1999999970 from (by omega)) (show ∀ i : Nat, i < 300 → (i : Int) < (Int32.toInt (σ 10)) → Int32.toInt ((φ 6) i) < i from (by with_reducible assumption))) (cwV 2 hts gX9_isLine_X9_failLine rfl rfl rfl ⟨rfl, hd_X9_failLine⟩ ⟨Nat.le_of_ble_eq_true rfl, Nat.le_of_ble_eq_true rfl⟩) (mPreV hP hK hI hN hS (va_recv hK hP (ci := 9) (q0 := 0) rfl rfl)) rfl rfl hl.1 rfl (lv_room (Nat.le_of_ble_eq_true rfl)) dX9_isLine_159 ⟨(by decide +kernel), (by decide +kernel)⟩) hS ?_
            clear hP hS; intro S_7 F_7 γ_7 ψ_7 H locs hw hP hS
            obtain ⟨s10_7, f6_7, rfl, rfl, (qf_7 : (Int32.toInt (σ 10)) ≤ (Int32.toInt s10_7) ∧ (Int32.toInt s10_7) ≤ (Int32.toInt (σ 10)) + 3), (qc_7 : ∀ i : Nat, i < 300 → (i : Int) < (Int32.toInt s10_7) → Int32.toInt (f6_7 i) < i)⟩ := hw
            have hLm1_7 := L_m1
            have hL10_7 := L_10
            refine lv_aload_n hx hb dX9_isLine_162 rfl (lv_at hl 0 rfl) ?_
            refine mg_0_20 (v := (γ_7 9)) hx hb hts hinX9 hown hK hP (hts (.fieldLink RX9 177 "CensusDeskModel" "lineLost" "Z") (List.mem_of_getElem? (i := 1) rfl)) rfl dX9_isLine_163 ?_
            refine lv_if_ne (tgt := 173) hx hb dX9_isLine_166 (by decide) (fun c_8 => ?_) (fun c_8 => ?_)
            · have kc_8 := bI_ne rfl L_0 c_8
              refine lv_iconst (v := 0) hx hb dX9_isLine_173 (by decide) ?_
              subst eQ
              exact W.zret (v := 0) hx hb hr (by first | rfl | decide) (fun t ht hW => ⟨⟨0, ((up σ 10 s10_7), (up φ 6 f6_7), γ_7, ψ_7), rfl, ⟨s10_7, f6_7, rfl, rfl, (show (Int32.toInt (σ 10)) ≤ (Int32.toInt s10_7) ∧ (Int32.toInt s10_7) ≤ (Int32.toInt (σ 10)) + 3 from (by omega)), (show ∀ i : Nat, i < 300 → (i : Int) < (Int32.toInt s10_7) → Int32.toInt (f6_7 i) < i from (by with_reducible assumption)), (show (Int32.toInt 0) = 0 ∨ (((Int32.toInt sort) = 72 ∨ (Int32.toInt sort) = 80 ∨ (Int32.toInt sort) = 83) ∧ ((Int32.toInt sort) ≠ 80 ∨ (Int32.toInt (σ 3)) ≠ 0)) from (by have := L_0; omega))⟩, (by show va_P _ _ _ _; rw [ht]; exact hP)⟩, hS.F ht⟩) hS.2.2 dX9_isLine_174
            · have kc_8 := bI_eq rfl L_0 c_8
              refine lv_iconst (v := 1) hx hb dX9_isLine_169 (by decide) ?_
              refine lv_goto (tgt := 174) hx hb dX9_isLine_170 (by decide) ?_
              subst eQ
              exact W.zret (v := 1) hx hb hr (by first | rfl | decide) (fun t ht hW => ⟨⟨1, ((up σ 10 s10_7), (up φ 6 f6_7), γ_7, ψ_7), rfl, ⟨s10_7, f6_7, rfl, rfl, (show (Int32.toInt (σ 10)) ≤ (Int32.toInt s10_7) ∧ (Int32.toInt s10_7) ≤ (Int32.toInt (σ 10)) + 3 from (by omega)), (show ∀ i : Nat, i < 300 → (i : Int) < (Int32.toInt s10_7) → Int32.toInt (f6_7 i) < i from (by with_reducible assumption)), (show (Int32.toInt 1) = 0 ∨ (((Int32.toInt sort) = 72 ∨ (Int32.toInt sort) = 80 ∨ (Int32.toInt sort) = 83) ∧ ((Int32.toInt sort) ≠ 80 ∨ (Int32.toInt (σ 3)) ≠ 0)) from (by have := L_1; omega))⟩, (by show va_P _ _ _ _; rw [ht]; exact hP)⟩, hS.F ht⟩) hS.2.2 dX9_isLine_174
      · have kc_1 := bI_nle rfl rfl c_1
        refine lv_aload_n hx hb dX9_isLine_104 rfl (lv_at hl 0 rfl) ?_
        refine lv_dup hx hb dX9_isLine_105 rfl ?_
        refine mg_0_49 (v := (γ 13)) hx hb hts hinX9 hown hK hP (hts (.fieldLink RX9 218 "CensusDeskModel" "cells" "I") (List.mem_of_getElem? (i := 5) rfl)) rfl dX9_isLine_106 ?_
        refine lv_aload_n hx hb dX9_isLine_109 rfl (lv_at hl 0 rfl) ?_
        refine lv_iload_n hx hb dX9_isLine_110 rfl (lv_at hl 2 rfl) ?_
        refine m_calli (va_runV (As := [.int i]) (rest := [.int (γ 13), .ref (a 0)]) ⟨hx, hb, hml, hown, hts⟩ (c_X9_at l dC dI a κ σ φ γ ψ i (show 0 ≤ (Int32.toInt i) ∧ (Int32.toInt i) < 4000 from (by omega))) (cwV 1 hts gX9_isLine_X9_at rfl rfl rfl ⟨rfl, hd_X9_at⟩ ⟨Nat.le_of_ble_eq_true rfl, Nat.le_of_ble_eq_true rfl⟩) (mPreV hP hK hI hN hS (va_recv hK hP (ci := 9) (q0 := 0) rfl rfl)) rfl rfl hl.1 rfl (lv_room (Nat.le_of_ble_eq_true rfl)) dX9_isLine_111 ⟨(by decide +kernel), (by decide +kernel)⟩) hS ?_
        clear hP hS; intro r_9 S_9 F_9 γ_9 ψ_9 H locs hw hP hS
        obtain ⟨rfl, rfl, (qm_9 : (Int32.toInt r_9) = Int32.toInt (mat (φ 0) i)), (qr_9 : 0 ≤ (Int32.toInt r_9) ∧ (Int32.toInt r_9) ≤ 255)⟩ := hw
        refine lv_bipush (v := 124) hx hb dX9_isLine_114 (by decide) ?_
        refine lv_icmp_ne (tgt := 123) hx hb dX9_isLine_116 (by decide) (fun c_10 => ?_) (fun c_10 => ?_)
        · have kc_10 := bI_ne rfl L_124 c_10
          refine lv_iconst (v := 0) hx hb dX9_isLine_123 (by decide) ?_
          refine lv_iadd hx hb dX9_isLine_124 ?_
          refine lv_topi (fun z_11 ez_11 => ?_)
          refine mp_0_49 (v := z_11) hx hb hts hinX9 hown hK hP hI hS (hts (.fieldLink RX9 218 "CensusDeskModel" "cells" "I") (List.mem_of_getElem? (i := 5) rfl)) dX9_isLine_125 ?_
          clear hP hS; intro H locs hP hS
          obtain ⟨i_12, ei_12⟩ : ∃ z : Int32, z = i + 1 := ⟨_, rfl⟩
          refine lv_iinc (v := i_12) (lv' := [(3, .int i_12), (0, .ref (a 0)), (2, .int due)]) hx hb dX9_isLine_128 hl (k := 2) rfl (by rw [ei_12]; rfl) (by decide) rfl ?_
          clear hl; intro ls hl
          have ti_12 : (Int32.toInt i_12) = (Int32.toInt i) + 1 := aI_add rfl L_1 ei_12 (by have := rng i; have := rng (σ 6); omega)
          refine lv_goto (tgt := 96) hx hb dX9_isLine_131 (by decide) ?_
          exact ih96 i_12 (up γ_9 13 z_11) ψ_9 _ _ _ (show (Int32.toInt (σ 5)) ≤ (Int32.toInt i_12) from (by omega)) (show ((Int32.toInt sort) = 72 ∨ (Int32.toInt sort) = 80 ∨ (Int32.toInt sort) = 83) ∧ ((Int32.toInt sort) ≠ 80 ∨ (Int32.toInt (σ 3)) ≠ 0) from (by omega)) (by omega) hP hS (lv_sub hl [1, 2, 0] rfl)
        · have kc_10 := bI_eq rfl L_124 c_10
          refine lv_iconst (v := 1) hx hb dX9_isLine_119 (by decide) ?_
          refine lv_goto (tgt := 124) hx hb dX9_isLine_120 (by decide) ?_
          refine lv_iadd hx hb dX9_isLine_124 ?_
          refine lv_topi (fun z_13 ez_13 => ?_)
          refine mp_0_49 (v := z_13) hx hb hts hinX9 hown hK hP hI hS (hts (.fieldLink RX9 218 "CensusDeskModel" "cells" "I") (List.mem_of_getElem? (i := 5) rfl)) dX9_isLine_125 ?_
          clear hP hS; intro H locs hP hS
          obtain ⟨i_14, ei_14⟩ : ∃ z : Int32, z = i + 1 := ⟨_, rfl⟩
          refine lv_iinc (v := i_14) (lv' := [(3, .int i_14), (0, .ref (a 0)), (2, .int due)]) hx hb dX9_isLine_128 hl (k := 2) rfl (by rw [ei_14]; rfl) (by decide) rfl ?_
          clear hl; intro ls hl
          have ti_14 : (Int32.toInt i_14) = (Int32.toInt i) + 1 := aI_add rfl L_1 ei_14 (by have := rng i; have := rng (σ 6); omega)
          refine lv_goto (tgt := 96) hx hb dX9_isLine_131 (by decide) ?_
          exact ih96 i_14 (up γ_9 13 z_13) ψ_9 _ _ _ (show (Int32.toInt (σ 5)) ≤ (Int32.toInt i_14) from (by omega)) (show ((Int32.toInt sort) = 72 ∨ (Int32.toInt sort) = 80 ∨ (Int32.toInt sort) = 83) ∧ ((Int32.toInt sort) ≠ 80 ∨ (Int32.toInt (σ 3)) ≠ 0) from (by omega)) (by omega) hP hS (lv_sub hl [1, 2, 0] rfl)
  refine lv_aload_n hx hb dX9_isLine_0 rfl (lv_at hl 0 rfl) ?_
  refine lv_iconst (v := 0) hx hb dX9_isLine_1 (by decide) ?_
  refine mp_0_20 (v := 0) hx hb hts hinX9 hown hK hP hI hS (hts (.fieldLink RX9 177 "CensusDeskModel" "lineLost" "Z") (List.mem_of_getElem? (i := 1) rfl)) (by first | rfl | decide) (by first | rfl | decide) dX9_isLine_2 ?_
  clear hP hS; intro H locs hP hS
  refine lv_iload_n hx hb dX9_isLine_5 rfl (lv_at hl 1 rfl) ?_
  refine lv_bipush (v := 72) hx hb dX9_isLine_6 (by decide) ?_
  refine lv_icmp_eq (tgt := 23) hx hb dX9_isLine_8 (by decide) (fun c_15 => ?_) (fun c_15 => ?_)
  · have kc_15 := bI_eq rfl L_72 c_15
    refine lv_aload_n hx hb dX9_isLine_23 rfl (lv_at hl 0 rfl) ?_
    refine mg_0_19 (v := (σ 6)) hx hb hts hinX9 hown hK hP (hts (.fieldLink RX9 194 "CensusDeskModel" "lineEnd" "I") (List.mem_of_getElem? (i := 2) rfl)) rfl dX9_isLine_24 ?_
    refine lv_aload_n hx hb dX9_isLine_27 rfl (lv_at hl 0 rfl) ?_
    refine mg_0_18 (v := (σ 5)) hx hb hts hinX9 hown hK hP (hts (.fieldLink RX9 171 "CensusDeskModel" "lineAt" "I") (List.mem_of_getElem? (i := 3) rfl)) rfl dX9_isLine_28 ?_
    refine lv_iconst (v := 1) hx hb dX9_isLine_31 (by decide) ?_
    refine lv_iadd hx hb dX9_isLine_32 ?_
    refine lv_topi (fun z_16 ez_16 => ?_)
    have tz_16 : (Int32.toInt z_16) = (Int32.toInt (σ 5)) + 1 := aI_add rfl L_1 ez_16 (by have := rng (σ 5); omega)
    refine lv_icmp_le (tgt := 60) hx hb dX9_isLine_33 (by decide) (fun c_17 => ?_) (fun c_17 => ?_)
    · have kc_17 := bI_le rfl rfl c_17
      refine lv_iload_n hx hb dX9_isLine_60 rfl (lv_at hl 1 rfl) ?_
      refine lv_bipush (v := 80) hx hb dX9_isLine_61 (by decide) ?_
      refine lv_icmp_ne (tgt := 86) hx hb dX9_isLine_63 (by decide) (fun c_18 => ?_) (fun c_18 => ?_)
      · have kc_18 := bI_ne rfl L_80 c_18
        refine lv_aload_n hx hb dX9_isLine_86 rfl (lv_at hl 0 rfl) ?_
        refine lv_iconst (v := 1) hx hb dX9_isLine_87 (by decide) ?_
        refine mp_0_49 (v := 1) hx hb hts hinX9 hown hK hP hI hS (hts (.fieldLink RX9 218 "CensusDeskModel" "cells" "I") (List.mem_of_getElem? (i := 5) rfl)) dX9_isLine_88 ?_
        clear hP hS; intro H locs hP hS
        refine lv_aload_n hx hb dX9_isLine_91 rfl (lv_at hl 0 rfl) ?_
        refine mg_0_18 (v := (σ 5)) hx hb hts hinX9 hown hK hP (hts (.fieldLink RX9 171 "CensusDeskModel" "lineAt" "I") (List.mem_of_getElem? (i := 3) rfl)) rfl dX9_isLine_92 ?_
        refine lv_istore_n (lv' := [(3, .int (σ 5)), (0, .ref (a 0)), (1, .int sort), (2, .int due)]) hx hb dX9_isLine_95 rfl hl (by decide) rfl ?_
        clear hl; intro ls hl
        exact J96 (_ + 1) (σ 5) (up (up γ 9 0) 13 1) ψ _ _ _ (show (Int32.toInt (σ 5)) ≤ (Int32.toInt (σ 5)) from (by omega)) (show ((Int32.toInt sort) = 72 ∨ (Int32.toInt sort) = 80 ∨ (Int32.toInt sort) = 83) ∧ ((Int32.toInt sort) ≠ 80 ∨ (Int32.toInt (σ 3)) ≠ 0) from (by omega)) (Nat.lt_succ_self _) hP hS (lv_sub hl [1, 3, 0] rfl)
      · have kc_18 := bI_eq rfl L_80 c_18
        refine lv_aload_n hx hb dX9_isLine_66 rfl (lv_at hl 0 rfl) ?_
        refine mg_0_12 (v := (σ 3)) hx hb hts hinX9 hown hK hP (hts (.fieldLink RX9 141 "CensusDeskModel" "inHouse" "Z") (List.mem_of_getElem? (i := 4) rfl)) rfl dX9_isLine_67 ?_
        refine lv_if_ne (tgt := 86) hx hb dX9_isLine_70 (by decide) (fun c_19 => ?_) (fun c_19 => ?_)
        · have kc_19 := bI_ne rfl L_0 c_19
          refine lv_aload_n hx hb dX9_isLine_86 rfl (lv_at hl 0 rfl) ?_
          refine lv_iconst (v := 1) hx hb dX9_isLine_87 (by decide) ?_
          refine mp_0_49 (v := 1) hx hb hts hinX9 hown hK hP hI hS (hts (.fieldLink RX9 218 "CensusDeskModel" "cells" "I") (List.mem_of_getElem? (i := 5) rfl)) dX9_isLine_88 ?_
          clear hP hS; intro H locs hP hS
          refine lv_aload_n hx hb dX9_isLine_91 rfl (lv_at hl 0 rfl) ?_
          refine mg_0_18 (v := (σ 5)) hx hb hts hinX9 hown hK hP (hts (.fieldLink RX9 171 "CensusDeskModel" "lineAt" "I") (List.mem_of_getElem? (i := 3) rfl)) rfl dX9_isLine_92 ?_
          refine lv_istore_n (lv' := [(3, .int (σ 5)), (0, .ref (a 0)), (1, .int sort), (2, .int due)]) hx hb dX9_isLine_95 rfl hl (by decide) rfl ?_
          clear hl; intro ls hl
          exact J96 (_ + 1) (σ 5) (up (up γ 9 0) 13 1) ψ _ _ _ (show (Int32.toInt (σ 5)) ≤ (Int32.toInt (σ 5)) from (by omega)) (show ((Int32.toInt sort) = 72 ∨ (Int32.toInt sort) = 80 ∨ (Int32.toInt sort) = 83) ∧ ((Int32.toInt sort) ≠ 80 ∨ (Int32.toInt (σ 3)) ≠ 0) from (by omega)) (Nat.lt_succ_self _) hP hS (lv_sub hl [1, 3, 0] rfl)
        · have kc_19 := bI_eq rfl L_0 c_19
          refine lv_aload_n hx hb dX9_isLine_73 rfl (lv_at hl 0 rfl) ?_
          refine lv_bipush (v := 19) hx hb dX9_isLine_74 (by decide) ?_
          refine lv_aload_n hx hb dX9_isLine_76 rfl (lv_at hl 0 rfl) ?_
          refine mg_0_18 (v := (σ 5)) hx hb hts hinX9 hown hK hP (hts (.fieldLink RX9 171 "CensusDeskModel" "lineAt" "I") (List.mem_of_getElem? (i := 3) rfl)) rfl dX9_isLine_77 ?_
          refine lv_iconst (v := (-1)) hx hb dX9_isLine_80 (by decide) ?_
          refine m_callv (va_runV (As := [.int 19, .int (σ 5), .int (-1)]) (rest := []) ⟨hx, hb, hml, hown, hts⟩ (c_X9_failSheet l dC dI a κ σ φ (up γ 9 0) ψ 19 (σ 5) (-1) (show 1 ≤ (Int32.toInt 19) ∧ (Int32.toInt 19) ≤ 21 from (by have := L_19; omega)) (show (Int32.toInt (-1)) < (Int32.toInt (σ 10)) from (by have := L_m1; omega)) (show 0 ≤ (Int32.toInt (σ 10)) ∧ (Int32.toInt (σ 10)) ≤ 2000000000 from (by omega)) (show ∀ i : Nat, i < 300 → (i : Int) < (Int32.toInt (σ 10)) → Int32.toInt ((φ 6) i) < i from (by with_reducible assumption))) (cwV 3 hts gX9_isLine_X9_failSheet rfl rfl rfl ⟨rfl, hd_X9_failSheet⟩ ⟨Nat.le_of_ble_eq_true rfl, Nat.le_of_ble_eq_true rfl⟩) (mPreV hP hK hI hN hS (va_recv hK hP (ci := 9) (q0 := 0) rfl rfl)) rfl rfl hl.1 rfl (lv_room (Nat.le_of_ble_eq_true rfl)) dX9_isLine_81 ⟨(by decide +kernel), (by decide +kernel)⟩) hS ?_
          clear hP hS; intro S_20 F_20 γ_20 ψ_20 H locs hw hP hS
          obtain ⟨s10_20, f6_20, rfl, rfl, (qf_20 : (Int32.toInt (σ 10)) ≤ (Int32.toInt s10_20) ∧ (Int32.toInt s10_20) ≤ (Int32.toInt (σ 10)) + 1), (qc_20 : ∀ i : Nat, i < 300 → (i : Int) < (Int32.toInt s10_20) → Int32.toInt (f6_20 i) < i)⟩ := hw
          have hLm1_20 := L_m1
          have hL19_20 := L_19
          refine lv_iconst (v := 0) hx hb dX9_isLine_84 (by decide) ?_
          subst eQ
          exact W.zret (v := 0) hx hb hr (by first | rfl | decide) (fun t ht hW => ⟨⟨0, ((up σ 10 s10_20), (up φ 6 f6_20), γ_20, ψ_20), rfl, ⟨s10_20, f6_20, rfl, rfl, (show (Int32.toInt (σ 10)) ≤ (Int32.toInt s10_20) ∧ (Int32.toInt s10_20) ≤ (Int32.toInt (σ 10)) + 3 from (by omega)), (show ∀ i : Nat, i < 300 → (i : Int) < (Int32.toInt s10_20) → Int32.toInt (f6_20 i) < i from (by with_reducible assumption)), (show (Int32.toInt 0) = 0 ∨ (((Int32.toInt sort) = 72 ∨ (Int32.toInt sort) = 80 ∨ (Int32.toInt sort) = 83) ∧ ((Int32.toInt sort) ≠ 80 ∨ (Int32.toInt (σ 3)) ≠ 0)) from (by have := L_0; omega))⟩, (by show va_P _ _ _ _; rw [ht]; exact hP)⟩, hS.F ht⟩) hS.2.2 dX9_isLine_85
    · have kc_17 := bI_nle rfl rfl c_17
      refine lv_aload_n hx hb dX9_isLine_36 rfl (lv_at hl 0 rfl) ?_
      refine lv_aload_n hx hb dX9_isLine_37 rfl (lv_at hl 0 rfl) ?_
      refine mg_0_18 (v := (σ 5)) hx hb hts hinX9 hown hK hP (hts (.fieldLink RX9 171 "CensusDeskModel" "lineAt" "I") (List.mem_of_getElem? (i := 3) rfl)) rfl dX9_isLine_38 ?_
      refine lv_iconst (v := 1) hx hb dX9_isLine_41 (by decide) ?_
      refine lv_iadd hx hb dX9_isLine_42 ?_
      refine lv_topi (fun z_21 ez_21 => ?_)
      have tz_21 : (Int32.toInt z_21) = (Int32.toInt (σ 5)) + 1 := aI_add rfl L_1 ez_21 (by have := rng (σ 5); omega)
      refine m_calli (va_runV (As := [.int z_21]) (rest := []) ⟨hx, hb, hml, hown, hts⟩ (c_X9_at l dC dI a κ σ φ (up γ 9 0) ψ z_21 (show 0 ≤ (Int32.toInt z_21) ∧ (Int32.toInt z_21) < 4000 from (by omega))) (cwV 1 hts gX9_isLine_X9_at rfl rfl rfl ⟨rfl, hd_X9_at⟩ ⟨Nat.le_of_ble_eq_true rfl, Nat.le_of_ble_eq_true rfl⟩) (mPreV hP hK hI hN hS (va_recv hK hP (ci := 9) (q0 := 0) rfl rfl)) rfl rfl hl.1 rfl (lv_room (Nat.le_of_ble_eq_true rfl)) dX9_isLine_43 ⟨(by decide +kernel), (by decide +kernel)⟩) hS ?_
      clear hP hS; intro r_22 S_22 F_22 γ_22 ψ_22 H locs hw hP hS
      obtain ⟨rfl, rfl, (qm_22 : (Int32.toInt r_22) = Int32.toInt (mat (φ 0) z_21)), (qr_22 : 0 ≤ (Int32.toInt r_22) ∧ (Int32.toInt r_22) ≤ 255)⟩ := hw
      refine lv_bipush (v := 124) hx hb dX9_isLine_46 (by decide) ?_
      refine lv_icmp_eq (tgt := 60) hx hb dX9_isLine_48 (by decide) (fun c_23 => ?_) (fun c_23 => ?_)
      · have kc_23 := bI_eq rfl L_124 c_23
        refine lv_iload_n hx hb dX9_isLine_60 rfl (lv_at hl 1 rfl) ?_
        refine lv_bipush (v := 80) hx hb dX9_isLine_61 (by decide) ?_
        refine lv_icmp_ne (tgt := 86) hx hb dX9_isLine_63 (by decide) (fun c_24 => ?_) (fun c_24 => ?_)
        · have kc_24 := bI_ne rfl L_80 c_24
          refine lv_aload_n hx hb dX9_isLine_86 rfl (lv_at hl 0 rfl) ?_
          refine lv_iconst (v := 1) hx hb dX9_isLine_87 (by decide) ?_
          refine mp_0_49 (v := 1) hx hb hts hinX9 hown hK hP hI hS (hts (.fieldLink RX9 218 "CensusDeskModel" "cells" "I") (List.mem_of_getElem? (i := 5) rfl)) dX9_isLine_88 ?_
          clear hP hS; intro H locs hP hS
          refine lv_aload_n hx hb dX9_isLine_91 rfl (lv_at hl 0 rfl) ?_
          refine mg_0_18 (v := (σ 5)) hx hb hts hinX9 hown hK hP (hts (.fieldLink RX9 171 "CensusDeskModel" "lineAt" "I") (List.mem_of_getElem? (i := 3) rfl)) rfl dX9_isLine_92 ?_
          refine lv_istore_n (lv' := [(3, .int (σ 5)), (0, .ref (a 0)), (1, .int sort), (2, .int due)]) hx hb dX9_isLine_95 rfl hl (by decide) rfl ?_
          clear hl; intro ls hl
          exact J96 (_ + 1) (σ 5) (up γ_22 13 1) ψ_22 _ _ _ (show (Int32.toInt (σ 5)) ≤ (Int32.toInt (σ 5)) from (by omega)) (show ((Int32.toInt sort) = 72 ∨ (Int32.toInt sort) = 80 ∨ (Int32.toInt sort) = 83) ∧ ((Int32.toInt sort) ≠ 80 ∨ (Int32.toInt (σ 3)) ≠ 0) from (by omega)) (Nat.lt_succ_self _) hP hS (lv_sub hl [1, 3, 0] rfl)
        · have kc_24 := bI_eq rfl L_80 c_24
          refine lv_aload_n hx hb dX9_isLine_66 rfl (lv_at hl 0 rfl) ?_
          refine mg_0_12 (v := (σ 3)) hx hb hts hinX9 hown hK hP (hts (.fieldLink RX9 141 "CensusDeskModel" "inHouse" "Z") (List.mem_of_getElem? (i := 4) rfl)) rfl dX9_isLine_67 ?_
          refine lv_if_ne (tgt := 86) hx hb dX9_isLine_70 (by decide) (fun c_25 => ?_) (fun c_25 => ?_)
          · have kc_25 := bI_ne rfl L_0 c_25
            refine lv_aload_n hx hb dX9_isLine_86 rfl (lv_at hl 0 rfl) ?_
            refine lv_iconst (v := 1) hx hb dX9_isLine_87 (by decide) ?_
            refine mp_0_49 (v := 1) hx hb hts hinX9 hown hK hP hI hS (hts (.fieldLink RX9 218 "CensusDeskModel" "cells" "I") (List.mem_of_getElem? (i := 5) rfl)) dX9_isLine_88 ?_
            clear hP hS; intro H locs hP hS
            refine lv_aload_n hx hb dX9_isLine_91 rfl (lv_at hl 0 rfl) ?_
            refine mg_0_18 (v := (σ 5)) hx hb hts hinX9 hown hK hP (hts (.fieldLink RX9 171 "CensusDeskModel" "lineAt" "I") (List.mem_of_getElem? (i := 3) rfl)) rfl dX9_isLine_92 ?_
            refine lv_istore_n (lv' := [(3, .int (σ 5)), (0, .ref (a 0)), (1, .int sort), (2, .int due)]) hx hb dX9_isLine_95 rfl hl (by decide) rfl ?_
            clear hl; intro ls hl
            exact J96 (_ + 1) (σ 5) (up γ_22 13 1) ψ_22 _ _ _ (show (Int32.toInt (σ 5)) ≤ (Int32.toInt (σ 5)) from (by omega)) (show ((Int32.toInt sort) = 72 ∨ (Int32.toInt sort) = 80 ∨ (Int32.toInt sort) = 83) ∧ ((Int32.toInt sort) ≠ 80 ∨ (Int32.toInt (σ 3)) ≠ 0) from (by omega)) (Nat.lt_succ_self _) hP hS (lv_sub hl [1, 3, 0] rfl)
          · have kc_25 := bI_eq rfl L_0 c_25
            refine lv_aload_n hx hb dX9_isLine_73 rfl (lv_at hl 0 rfl) ?_
            refine lv_bipush (v := 19) hx hb dX9_isLine_74 (by decide) ?_
            refine lv_aload_n hx hb dX9_isLine_76 rfl (lv_at hl 0 rfl) ?_
            refine mg_0_18 (v := (σ 5)) hx hb hts hinX9 hown hK hP (hts (.fieldLink RX9 171 "CensusDeskModel" "lineAt" "I") (List.mem_of_getElem? (i := 3) rfl)) rfl dX9_isLine_77 ?_
            refine lv_iconst (v := (-1)) hx hb dX9_isLine_80 (by decide) ?_
            refine m_callv (va_runV (As := [.int 19, .int (σ 5), .int (-1)]) (rest := []) ⟨hx, hb, hml, hown, hts⟩ (c_X9_failSheet l dC dI a κ σ φ γ_22 ψ_22 19 (σ 5) (-1) (show 1 ≤ (Int32.toInt 19) ∧ (Int32.toInt 19) ≤ 21 from (by have := L_19; omega)) (show (Int32.toInt (-1)) < (Int32.toInt (σ 10)) from (by have := L_m1; omega)) (show 0 ≤ (Int32.toInt (σ 10)) ∧ (Int32.toInt (σ 10)) ≤ 2000000000 from (by omega)) (show ∀ i : Nat, i < 300 → (i : Int) < (Int32.toInt (σ 10)) → Int32.toInt ((φ 6) i) < i from (by with_reducible assumption))) (cwV 3 hts gX9_isLine_X9_failSheet rfl rfl rfl ⟨rfl, hd_X9_failSheet⟩ ⟨Nat.le_of_ble_eq_true rfl, Nat.le_of_ble_eq_true rfl⟩) (mPreV hP hK hI hN hS (va_recv hK hP (ci := 9) (q0 := 0) rfl rfl)) rfl rfl hl.1 rfl (lv_room (Nat.le_of_ble_eq_true rfl)) dX9_isLine_81 ⟨(by decide +kernel), (by decide +kernel)⟩) hS ?_
            clear hP hS; intro S_26 F_26 γ_26 ψ_26 H locs hw hP hS
            obtain ⟨s10_26, f6_26, rfl, rfl, (qf_26 : (Int32.toInt (σ 10)) ≤ (Int32.toInt s10_26) ∧ (Int32.toInt s10_26) ≤ (Int32.toInt (σ 10)) + 1), (qc_26 : ∀ i : Nat, i < 300 → (i : Int) < (Int32.toInt s10_26) → Int32.toInt (f6_26 i) < i)⟩ := hw
            have hLm1_26 := L_m1
            have hL19_26 := L_19
            refine lv_iconst (v := 0) hx hb dX9_isLine_84 (by decide) ?_
            subst eQ
            exact W.zret (v := 0) hx hb hr (by first | rfl | decide) (fun t ht hW => ⟨⟨0, ((up σ 10 s10_26), (up φ 6 f6_26), γ_26, ψ_26), rfl, ⟨s10_26, f6_26, rfl, rfl, (show (Int32.toInt (σ 10)) ≤ (Int32.toInt s10_26) ∧ (Int32.toInt s10_26) ≤ (Int32.toInt (σ 10)) + 3 from (by omega)), (show ∀ i : Nat, i < 300 → (i : Int) < (Int32.toInt s10_26) → Int32.toInt (f6_26 i) < i from (by with_reducible assumption)), (show (Int32.toInt 0) = 0 ∨ (((Int32.toInt sort) = 72 ∨ (Int32.toInt sort) = 80 ∨ (Int32.toInt sort) = 83) ∧ ((Int32.toInt sort) ≠ 80 ∨ (Int32.toInt (σ 3)) ≠ 0)) from (by have := L_0; omega))⟩, (by show va_P _ _ _ _; rw [ht]; exact hP)⟩, hS.F ht⟩) hS.2.2 dX9_isLine_85
      · have kc_23 := bI_ne rfl L_124 c_23
        refine lv_aload_n hx hb dX9_isLine_51 rfl (lv_at hl 0 rfl) ?_
        refine lv_bipush (v := 9) hx hb dX9_isLine_52 (by decide) ?_
        refine lv_iconst (v := (-1)) hx hb dX9_isLine_54 (by decide) ?_
        refine m_callv (va_runV (As := [.int 9, .int (-1)]) (rest := []) ⟨hx, hb, hml, hown, hts⟩ (c_X9_failLine l dC dI a κ σ φ γ_22 ψ_22 9 (-1) (show 1 ≤ (Int32.toInt 9) ∧ (Int32.toInt 9) ≤ 21 from (by have := L_9; omega)) (show (Int32.toInt (-1)) < (Int32.toInt (σ 10)) from (by have := L_m1; omega)) (show 0 ≤ (Int32.toInt (σ 10)) ∧ (Int32.toInt (σ 10)) ≤ 1999999970 from (by omega)) (show ∀ i : Nat, i < 300 → (i : Int) < (Int32.toInt (σ 10)) → Int32.toInt ((φ 6) i) < i from (by with_reducible assumption))) (cwV 2 hts gX9_isLine_X9_failLine rfl rfl rfl ⟨rfl, hd_X9_failLine⟩ ⟨Nat.le_of_ble_eq_true rfl, Nat.le_of_ble_eq_true rfl⟩) (mPreV hP hK hI hN hS (va_recv hK hP (ci := 9) (q0 := 0) rfl rfl)) rfl rfl hl.1 rfl (lv_room (Nat.le_of_ble_eq_true rfl)) dX9_isLine_55 ⟨(by decide +kernel), (by decide +kernel)⟩) hS ?_
        clear hP hS; intro S_27 F_27 γ_27 ψ_27 H locs hw hP hS
        obtain ⟨s10_27, f6_27, rfl, rfl, (qf_27 : (Int32.toInt (σ 10)) ≤ (Int32.toInt s10_27) ∧ (Int32.toInt s10_27) ≤ (Int32.toInt (σ 10)) + 3), (qc_27 : ∀ i : Nat, i < 300 → (i : Int) < (Int32.toInt s10_27) → Int32.toInt (f6_27 i) < i)⟩ := hw
        have hLm1_27 := L_m1
        have hL9_27 := L_9
        refine lv_iconst (v := 0) hx hb dX9_isLine_58 (by decide) ?_
        subst eQ
        exact W.zret (v := 0) hx hb hr (by first | rfl | decide) (fun t ht hW => ⟨⟨0, ((up σ 10 s10_27), (up φ 6 f6_27), γ_27, ψ_27), rfl, ⟨s10_27, f6_27, rfl, rfl, (show (Int32.toInt (σ 10)) ≤ (Int32.toInt s10_27) ∧ (Int32.toInt s10_27) ≤ (Int32.toInt (σ 10)) + 3 from (by omega)), (show ∀ i : Nat, i < 300 → (i : Int) < (Int32.toInt s10_27) → Int32.toInt (f6_27 i) < i from (by with_reducible assumption)), (show (Int32.toInt 0) = 0 ∨ (((Int32.toInt sort) = 72 ∨ (Int32.toInt sort) = 80 ∨ (Int32.toInt sort) = 83) ∧ ((Int32.toInt sort) ≠ 80 ∨ (Int32.toInt (σ 3)) ≠ 0)) from (by have := L_0; omega))⟩, (by show va_P _ _ _ _; rw [ht]; exact hP)⟩, hS.F ht⟩) hS.2.2 dX9_isLine_59
  · have kc_15 := bI_ne rfl L_72 c_15
    refine lv_iload_n hx hb dX9_isLine_11 rfl (lv_at hl 1 rfl) ?_
    refine lv_bipush (v := 80) hx hb dX9_isLine_12 (by decide) ?_
    refine lv_icmp_eq (tgt := 23) hx hb dX9_isLine_14 (by decide) (fun c_28 => ?_) (fun c_28 => ?_)
    · have kc_28 := bI_eq rfl L_80 c_28
      refine lv_aload_n hx hb dX9_isLine_23 rfl (lv_at hl 0 rfl) ?_
      refine mg_0_19 (v := (σ 6)) hx hb hts hinX9 hown hK hP (hts (.fieldLink RX9 194 "CensusDeskModel" "lineEnd" "I") (List.mem_of_getElem? (i := 2) rfl)) rfl dX9_isLine_24 ?_
      refine lv_aload_n hx hb dX9_isLine_27 rfl (lv_at hl 0 rfl) ?_
      refine mg_0_18 (v := (σ 5)) hx hb hts hinX9 hown hK hP (hts (.fieldLink RX9 171 "CensusDeskModel" "lineAt" "I") (List.mem_of_getElem? (i := 3) rfl)) rfl dX9_isLine_28 ?_
      refine lv_iconst (v := 1) hx hb dX9_isLine_31 (by decide) ?_
      refine lv_iadd hx hb dX9_isLine_32 ?_
      refine lv_topi (fun z_29 ez_29 => ?_)
      have tz_29 : (Int32.toInt z_29) = (Int32.toInt (σ 5)) + 1 := aI_add rfl L_1 ez_29 (by have := rng (σ 5); omega)
      refine lv_icmp_le (tgt := 60) hx hb dX9_isLine_33 (by decide) (fun c_30 => ?_) (fun c_30 => ?_)
      · have kc_30 := bI_le rfl rfl c_30
        refine lv_iload_n hx hb dX9_isLine_60 rfl (lv_at hl 1 rfl) ?_
        refine lv_bipush (v := 80) hx hb dX9_isLine_61 (by decide) ?_
        refine lv_icmp_ne (tgt := 86) hx hb dX9_isLine_63 (by decide) (fun c_31 => ?_) (fun c_31 => ?_)
        · have kc_31 := bI_ne rfl L_80 c_31
          refine lv_aload_n hx hb dX9_isLine_86 rfl (lv_at hl 0 rfl) ?_
          refine lv_iconst (v := 1) hx hb dX9_isLine_87 (by decide) ?_
          refine mp_0_49 (v := 1) hx hb hts hinX9 hown hK hP hI hS (hts (.fieldLink RX9 218 "CensusDeskModel" "cells" "I") (List.mem_of_getElem? (i := 5) rfl)) dX9_isLine_88 ?_
          clear hP hS; intro H locs hP hS
          refine lv_aload_n hx hb dX9_isLine_91 rfl (lv_at hl 0 rfl) ?_
          refine mg_0_18 (v := (σ 5)) hx hb hts hinX9 hown hK hP (hts (.fieldLink RX9 171 "CensusDeskModel" "lineAt" "I") (List.mem_of_getElem? (i := 3) rfl)) rfl dX9_isLine_92 ?_
          refine lv_istore_n (lv' := [(3, .int (σ 5)), (0, .ref (a 0)), (1, .int sort), (2, .int due)]) hx hb dX9_isLine_95 rfl hl (by decide) rfl ?_
          clear hl; intro ls hl
          exact J96 (_ + 1) (σ 5) (up (up γ 9 0) 13 1) ψ _ _ _ (show (Int32.toInt (σ 5)) ≤ (Int32.toInt (σ 5)) from (by omega)) (show ((Int32.toInt sort) = 72 ∨ (Int32.toInt sort) = 80 ∨ (Int32.toInt sort) = 83) ∧ ((Int32.toInt sort) ≠ 80 ∨ (Int32.toInt (σ 3)) ≠ 0) from (by omega)) (Nat.lt_succ_self _) hP hS (lv_sub hl [1, 3, 0] rfl)
        · have kc_31 := bI_eq rfl L_80 c_31
          refine lv_aload_n hx hb dX9_isLine_66 rfl (lv_at hl 0 rfl) ?_
          refine mg_0_12 (v := (σ 3)) hx hb hts hinX9 hown hK hP (hts (.fieldLink RX9 141 "CensusDeskModel" "inHouse" "Z") (List.mem_of_getElem? (i := 4) rfl)) rfl dX9_isLine_67 ?_
          refine lv_if_ne (tgt := 86) hx hb dX9_isLine_70 (by decide) (fun c_32 => ?_) (fun c_32 => ?_)
          · have kc_32 := bI_ne rfl L_0 c_32
            refine lv_aload_n hx hb dX9_isLine_86 rfl (lv_at hl 0 rfl) ?_
            refine lv_iconst (v := 1) hx hb dX9_isLine_87 (by decide) ?_
            refine mp_0_49 (v := 1) hx hb hts hinX9 hown hK hP hI hS (hts (.fieldLink RX9 218 "CensusDeskModel" "cells" "I") (List.mem_of_getElem? (i := 5) rfl)) dX9_isLine_88 ?_
            clear hP hS; intro H locs hP hS
            refine lv_aload_n hx hb dX9_isLine_91 rfl (lv_at hl 0 rfl) ?_
            refine mg_0_18 (v := (σ 5)) hx hb hts hinX9 hown hK hP (hts (.fieldLink RX9 171 "CensusDeskModel" "lineAt" "I") (List.mem_of_getElem? (i := 3) rfl)) rfl dX9_isLine_92 ?_
            refine lv_istore_n (lv' := [(3, .int (σ 5)), (0, .ref (a 0)), (1, .int sort), (2, .int due)]) hx hb dX9_isLine_95 rfl hl (by decide) rfl ?_
            clear hl; intro ls hl
            exact J96 (_ + 1) (σ 5) (up (up γ 9 0) 13 1) ψ _ _ _ (show (Int32.toInt (σ 5)) ≤ (Int32.toInt (σ 5)) from (by omega)) (show ((Int32.toInt sort) = 72 ∨ (Int32.toInt sort) = 80 ∨ (Int32.toInt sort) = 83) ∧ ((Int32.toInt sort) ≠ 80 ∨ (Int32.toInt (σ 3)) ≠ 0) from (by omega)) (Nat.lt_succ_self _) hP hS (lv_sub hl [1, 3, 0] rfl)
          · have kc_32 := bI_eq rfl L_0 c_32
            refine lv_aload_n hx hb dX9_isLine_73 rfl (lv_at hl 0 rfl) ?_
            refine lv_bipush (v := 19) hx hb dX9_isLine_74 (by decide) ?_
            refine lv_aload_n hx hb dX9_isLine_76 rfl (lv_at hl 0 rfl) ?_
            refine mg_0_18 (v := (σ 5)) hx hb hts hinX9 hown hK hP (hts (.fieldLink RX9 171 "CensusDeskModel" "lineAt" "I") (List.mem_of_getElem? (i := 3) rfl)) rfl dX9_isLine_77 ?_
            refine lv_iconst (v := (-1)) hx hb dX9_isLine_80 (by decide) ?_
            refine m_callv (va_runV (As := [.int 19, .int (σ 5), .int (-1)]) (rest := []) ⟨hx, hb, hml, hown, hts⟩ (c_X9_failSheet l dC dI a κ σ φ (up γ 9 0) ψ 19 (σ 5) (-1) (show 1 ≤ (Int32.toInt 19) ∧ (Int32.toInt 19) ≤ 21 from (by have := L_19; omega)) (show (Int32.toInt (-1)) < (Int32.toInt (σ 10)) from (by have := L_m1; omega)) (show 0 ≤ (Int32.toInt (σ 10)) ∧ (Int32.toInt (σ 10)) ≤ 2000000000 from (by omega)) (show ∀ i : Nat, i < 300 → (i : Int) < (Int32.toInt (σ 10)) → Int32.toInt ((φ 6) i) < i from (by with_reducible assumption))) (cwV 3 hts gX9_isLine_X9_failSheet rfl rfl rfl ⟨rfl, hd_X9_failSheet⟩ ⟨Nat.le_of_ble_eq_true rfl, Nat.le_of_ble_eq_true rfl⟩) (mPreV hP hK hI hN hS (va_recv hK hP (ci := 9) (q0 := 0) rfl rfl)) rfl rfl hl.1 rfl (lv_room (Nat.le_of_ble_eq_true rfl)) dX9_isLine_81 ⟨(by decide +kernel), (by decide +kernel)⟩) hS ?_
            clear hP hS; intro S_33 F_33 γ_33 ψ_33 H locs hw hP hS
            obtain ⟨s10_33, f6_33, rfl, rfl, (qf_33 : (Int32.toInt (σ 10)) ≤ (Int32.toInt s10_33) ∧ (Int32.toInt s10_33) ≤ (Int32.toInt (σ 10)) + 1), (qc_33 : ∀ i : Nat, i < 300 → (i : Int) < (Int32.toInt s10_33) → Int32.toInt (f6_33 i) < i)⟩ := hw
            have hLm1_33 := L_m1
            have hL19_33 := L_19
            refine lv_iconst (v := 0) hx hb dX9_isLine_84 (by decide) ?_
            subst eQ
            exact W.zret (v := 0) hx hb hr (by first | rfl | decide) (fun t ht hW => ⟨⟨0, ((up σ 10 s10_33), (up φ 6 f6_33), γ_33, ψ_33), rfl, ⟨s10_33, f6_33, rfl, rfl, (show (Int32.toInt (σ 10)) ≤ (Int32.toInt s10_33) ∧ (Int32.toInt s10_33) ≤ (Int32.toInt (σ 10)) + 3 from (by omega)), (show ∀ i : Nat, i < 300 → (i : Int) < (Int32.toInt s10_33) → Int32.toInt (f6_33 i) < i from (by with_reducible assumption)), (show (Int32.toInt 0) = 0 ∨ (((Int32.toInt sort) = 72 ∨ (Int32.toInt sort) = 80 ∨ (Int32.toInt sort) = 83) ∧ ((Int32.toInt sort) ≠ 80 ∨ (Int32.toInt (σ 3)) ≠ 0)) from (by have := L_0; omega))⟩, (by show va_P _ _ _ _; rw [ht]; exact hP)⟩, hS.F ht⟩) hS.2.2 dX9_isLine_85
      · have kc_30 := bI_nle rfl rfl c_30
        refine lv_aload_n hx hb dX9_isLine_36 rfl (lv_at hl 0 rfl) ?_
        refine lv_aload_n hx hb dX9_isLine_37 rfl (lv_at hl 0 rfl) ?_
        refine mg_0_18 (v := (σ 5)) hx hb hts hinX9 hown hK hP (hts (.fieldLink RX9 171 "CensusDeskModel" "lineAt" "I") (List.mem_of_getElem? (i := 3) rfl)) rfl dX9_isLine_38 ?_
        refine lv_iconst (v := 1) hx hb dX9_isLine_41 (by decide) ?_
        refine lv_iadd hx hb dX9_isLine_42 ?_
        refine lv_topi (fun z_34 ez_34 => ?_)
        have tz_34 : (Int32.toInt z_34) = (Int32.toInt (σ 5)) + 1 := aI_add rfl L_1 ez_34 (by have := rng (σ 5); omega)
        refine m_calli (va_runV (As := [.int z_34]) (rest := []) ⟨hx, hb, hml, hown, hts⟩ (c_X9_at l dC dI a κ σ φ (up γ 9 0) ψ z_34 (show 0 ≤ (Int32.toInt z_34) ∧ (Int32.toInt z_34) < 4000 from (by omega))) (cwV 1 hts gX9_isLine_X9_at rfl rfl rfl ⟨rfl, hd_X9_at⟩ ⟨Nat.le_of_ble_eq_true rfl, Nat.le_of_ble_eq_true rfl⟩) (mPreV hP hK hI hN hS (va_recv hK hP (ci := 9) (q0 := 0) rfl rfl)) rfl rfl hl.1 rfl (lv_room (Nat.le_of_ble_eq_true rfl)) dX9_isLine_43 ⟨(by decide +kernel), (by decide +kernel)⟩) hS ?_
        clear hP hS; intro r_35 S_35 F_35 γ_35 ψ_35 H locs hw hP hS
        obtain ⟨rfl, rfl, (qm_35 : (Int32.toInt r_35) = Int32.toInt (mat (φ 0) z_34)), (qr_35 : 0 ≤ (Int32.toInt r_35) ∧ (Int32.toInt r_35) ≤ 255)⟩ := hw
        refine lv_bipush (v := 124) hx hb dX9_isLine_46 (by decide) ?_
        refine lv_icmp_eq (tgt := 60) hx hb dX9_isLine_48 (by decide) (fun c_36 => ?_) (fun c_36 => ?_)
        · have kc_36 := bI_eq rfl L_124 c_36
          refine lv_iload_n hx hb dX9_isLine_60 rfl (lv_at hl 1 rfl) ?_
          refine lv_bipush (v := 80) hx hb dX9_isLine_61 (by decide) ?_
          refine lv_icmp_ne (tgt := 86) hx hb dX9_isLine_63 (by decide) (fun c_37 => ?_) (fun c_37 => ?_)
          · have kc_37 := bI_ne rfl L_80 c_37
            refine lv_aload_n hx hb dX9_isLine_86 rfl (lv_at hl 0 rfl) ?_
            refine lv_iconst (v := 1) hx hb dX9_isLine_87 (by decide) ?_
            refine mp_0_49 (v := 1) hx hb hts hinX9 hown hK hP hI hS (hts (.fieldLink RX9 218 "CensusDeskModel" "cells" "I") (List.mem_of_getElem? (i := 5) rfl)) dX9_isLine_88 ?_
            clear hP hS; intro H locs hP hS
            refine lv_aload_n hx hb dX9_isLine_91 rfl (lv_at hl 0 rfl) ?_
            refine mg_0_18 (v := (σ 5)) hx hb hts hinX9 hown hK hP (hts (.fieldLink RX9 171 "CensusDeskModel" "lineAt" "I") (List.mem_of_getElem? (i := 3) rfl)) rfl dX9_isLine_92 ?_
            refine lv_istore_n (lv' := [(3, .int (σ 5)), (0, .ref (a 0)), (1, .int sort), (2, .int due)]) hx hb dX9_isLine_95 rfl hl (by decide) rfl ?_
            clear hl; intro ls hl
            exact J96 (_ + 1) (σ 5) (up γ_35 13 1) ψ_35 _ _ _ (show (Int32.toInt (σ 5)) ≤ (Int32.toInt (σ 5)) from (by omega)) (show ((Int32.toInt sort) = 72 ∨ (Int32.toInt sort) = 80 ∨ (Int32.toInt sort) = 83) ∧ ((Int32.toInt sort) ≠ 80 ∨ (Int32.toInt (σ 3)) ≠ 0) from (by omega)) (Nat.lt_succ_self _) hP hS (lv_sub hl [1, 3, 0] rfl)
          · have kc_37 := bI_eq rfl L_80 c_37
            refine lv_aload_n hx hb dX9_isLine_66 rfl (lv_at hl 0 rfl) ?_
            refine mg_0_12 (v := (σ 3)) hx hb hts hinX9 hown hK hP (hts (.fieldLink RX9 141 "CensusDeskModel" "inHouse" "Z") (List.mem_of_getElem? (i := 4) rfl)) rfl dX9_isLine_67 ?_
            refine lv_if_ne (tgt := 86) hx hb dX9_isLine_70 (by decide) (fun c_38 => ?_) (fun c_38 => ?_)
            · have kc_38 := bI_ne rfl L_0 c_38
              refine lv_aload_n hx hb dX9_isLine_86 rfl (lv_at hl 0 rfl) ?_
              refine lv_iconst (v := 1) hx hb dX9_isLine_87 (by decide) ?_
              refine mp_0_49 (v := 1) hx hb hts hinX9 hown hK hP hI hS (hts (.fieldLink RX9 218 "CensusDeskModel" "cells" "I") (List.mem_of_getElem? (i := 5) rfl)) dX9_isLine_88 ?_
              clear hP hS; intro H locs hP hS
              refine lv_aload_n hx hb dX9_isLine_91 rfl (lv_at hl 0 rfl) ?_
              refine mg_0_18 (v := (σ 5)) hx hb hts hinX9 hown hK hP (hts (.fieldLink RX9 171 "CensusDeskModel" "lineAt" "I") (List.mem_of_getElem? (i := 3) rfl)) rfl dX9_isLine_92 ?_
              refine lv_istore_n (lv' := [(3, .int (σ 5)), (0, .ref (a 0)), (1, .int sort), (2, .int due)]) hx hb dX9_isLine_95 rfl hl (by decide) rfl ?_
              clear hl; intro ls hl
              exact J96 (_ + 1) (σ 5) (up γ_35 13 1) ψ_35 _ _ _ (show (Int32.toInt (σ 5)) ≤ (Int32.toInt (σ 5)) from (by omega)) (show ((Int32.toInt sort) = 72 ∨ (Int32.toInt sort) = 80 ∨ (Int32.toInt sort) = 83) ∧ ((Int32.toInt sort) ≠ 80 ∨ (Int32.toInt (σ 3)) ≠ 0) from (by omega)) (Nat.lt_succ_self _) hP hS (lv_sub hl [1, 3, 0] rfl)
            · have kc_38 := bI_eq rfl L_0 c_38
              refine lv_aload_n hx hb dX9_isLine_73 rfl (lv_at hl 0 rfl) ?_
              refine lv_bipush (v := 19) hx hb dX9_isLine_74 (by decide) ?_
              refine lv_aload_n hx hb dX9_isLine_76 rfl (lv_at hl 0 rfl) ?_
              refine mg_0_18 (v := (σ 5)) hx hb hts hinX9 hown hK hP (hts (.fieldLink RX9 171 "CensusDeskModel" "lineAt" "I") (List.mem_of_getElem? (i := 3) rfl)) rfl dX9_isLine_77 ?_
              refine lv_iconst (v := (-1)) hx hb dX9_isLine_80 (by decide) ?_
              refine m_callv (va_runV (As := [.int 19, .int (σ 5), .int (-1)]) (rest := []) ⟨hx, hb, hml, hown, hts⟩ (c_X9_failSheet l dC dI a κ σ φ γ_35 ψ_35 19 (σ 5) (-1) (show 1 ≤ (Int32.toInt 19) ∧ (Int32.toInt 19) ≤ 21 from (by have := L_19; omega)) (show (Int32.toInt (-1)) < (Int32.toInt (σ 10)) from (by have := L_m1; omega)) (show 0 ≤ (Int32.toInt (σ 10)) ∧ (Int32.toInt (σ 10)) ≤ 2000000000 from (by omega)) (show ∀ i : Nat, i < 300 → (i : Int) < (Int32.toInt (σ 10)) → Int32.toInt ((φ 6) i) < i from (by with_reducible assumption))) (cwV 3 hts gX9_isLine_X9_failSheet rfl rfl rfl ⟨rfl, hd_X9_failSheet⟩ ⟨Nat.le_of_ble_eq_true rfl, Nat.le_of_ble_eq_true rfl⟩) (mPreV hP hK hI hN hS (va_recv hK hP (ci := 9) (q0 := 0) rfl rfl)) rfl rfl hl.1 rfl (lv_room (Nat.le_of_ble_eq_true rfl)) dX9_isLine_81 ⟨(by decide +kernel), (by decide +kernel)⟩) hS ?_
              clear hP hS; intro S_39 F_39 γ_39 ψ_39 H locs hw hP hS
              obtain ⟨s10_39, f6_39, rfl, rfl, (qf_39 : (Int32.toInt (σ 10)) ≤ (Int32.toInt s10_39) ∧ (Int32.toInt s10_39) ≤ (Int32.toInt (σ 10)) + 1), (qc_39 : ∀ i : Nat, i < 300 → (i : Int) < (Int32.toInt s10_39) → Int32.toInt (f6_39 i) < i)⟩ := hw
              have hLm1_39 := L_m1
              have hL19_39 := L_19
              refine lv_iconst (v := 0) hx hb dX9_isLine_84 (by decide) ?_
              subst eQ
              exact W.zret (v := 0) hx hb hr (by first | rfl | decide) (fun t ht hW => ⟨⟨0, ((up σ 10 s10_39), (up φ 6 f6_39), γ_39, ψ_39), rfl, ⟨s10_39, f6_39, rfl, rfl, (show (Int32.toInt (σ 10)) ≤ (Int32.toInt s10_39) ∧ (Int32.toInt s10_39) ≤ (Int32.toInt (σ 10)) + 3 from (by omega)), (show ∀ i : Nat, i < 300 → (i : Int) < (Int32.toInt s10_39) → Int32.toInt (f6_39 i) < i from (by with_reducible assumption)), (show (Int32.toInt 0) = 0 ∨ (((Int32.toInt sort) = 72 ∨ (Int32.toInt sort) = 80 ∨ (Int32.toInt sort) = 83) ∧ ((Int32.toInt sort) ≠ 80 ∨ (Int32.toInt (σ 3)) ≠ 0)) from (by have := L_0; omega))⟩, (by show va_P _ _ _ _; rw [ht]; exact hP)⟩, hS.F ht⟩) hS.2.2 dX9_isLine_85
        · have kc_36 := bI_ne rfl L_124 c_36
          refine lv_aload_n hx hb dX9_isLine_51 rfl (lv_at hl 0 rfl) ?_
          refine lv_bipush (v := 9) hx hb dX9_isLine_52 (by decide) ?_
          refine lv_iconst (v := (-1)) hx hb dX9_isLine_54 (by decide) ?_
          refine m_callv (va_runV (As := [.int 9, .int (-1)]) (rest := []) ⟨hx, hb, hml, hown, hts⟩ (c_X9_failLine l dC dI a κ σ φ γ_35 ψ_35 9 (-1) (show 1 ≤ (Int32.toInt 9) ∧ (Int32.toInt 9) ≤ 21 from (by have := L_9; omega)) (show (Int32.toInt (-1)) < (Int32.toInt (σ 10)) from (by have := L_m1; omega)) (show 0 ≤ (Int32.toInt (σ 10)) ∧ (Int32.toInt (σ 10)) ≤ 1999999970 from (by omega)) (show ∀ i : Nat, i < 300 → (i : Int) < (Int32.toInt (σ 10)) → Int32.toInt ((φ 6) i) < i from (by with_reducible assumption))) (cwV 2 hts gX9_isLine_X9_failLine rfl rfl rfl ⟨rfl, hd_X9_failLine⟩ ⟨Nat.le_of_ble_eq_true rfl, Nat.le_of_ble_eq_true rfl⟩) (mPreV hP hK hI hN hS (va_recv hK hP (ci := 9) (q0 := 0) rfl rfl)) rfl rfl hl.1 rfl (lv_room (Nat.le_of_ble_eq_true rfl)) dX9_isLine_55 ⟨(by decide +kernel), (by decide +kernel)⟩) hS ?_
          clear hP hS; intro S_40 F_40 γ_40 ψ_40 H locs hw hP hS
          obtain ⟨s10_40, f6_40, rfl, rfl, (qf_40 : (Int32.toInt (σ 10)) ≤ (Int32.toInt s10_40) ∧ (Int32.toInt s10_40) ≤ (Int32.toInt (σ 10)) + 3), (qc_40 : ∀ i : Nat, i < 300 → (i : Int) < (Int32.toInt s10_40) → Int32.toInt (f6_40 i) < i)⟩ := hw
          have hLm1_40 := L_m1
          have hL9_40 := L_9
          refine lv_iconst (v := 0) hx hb dX9_isLine_58 (by decide) ?_
          subst eQ
          exact W.zret (v := 0) hx hb hr (by first | rfl | decide) (fun t ht hW => ⟨⟨0, ((up σ 10 s10_40), (up φ 6 f6_40), γ_40, ψ_40), rfl, ⟨s10_40, f6_40, rfl, rfl, (show (Int32.toInt (σ 10)) ≤ (Int32.toInt s10_40) ∧ (Int32.toInt s10_40) ≤ (Int32.toInt (σ 10)) + 3 from (by omega)), (show ∀ i : Nat, i < 300 → (i : Int) < (Int32.toInt s10_40) → Int32.toInt (f6_40 i) < i from (by with_reducible assumption)), (show (Int32.toInt 0) = 0 ∨ (((Int32.toInt sort) = 72 ∨ (Int32.toInt sort) = 80 ∨ (Int32.toInt sort) = 83) ∧ ((Int32.toInt sort) ≠ 80 ∨ (Int32.toInt (σ 3)) ≠ 0)) from (by have := L_0; omega))⟩, (by show va_P _ _ _ _; rw [ht]; exact hP)⟩, hS.F ht⟩) hS.2.2 dX9_isLine_59
    · have kc_28 := bI_ne rfl L_80 c_28
      refine lv_iload_n hx hb dX9_isLine_17 rfl (lv_at hl 1 rfl) ?_
      refine lv_bipush (v := 83) hx hb dX9_isLine_18 (by decide) ?_
      refine lv_icmp_ne (tgt := 51) hx hb dX9_isLine_20 (by decide) (fun c_41 => ?_) (fun c_41 => ?_)
      · have kc_41 := bI_ne rfl L_83 c_41
        refine lv_aload_n hx hb dX9_isLine_51 rfl (lv_at hl 0 rfl) ?_
        refine lv_bipush (v := 9) hx hb dX9_isLine_52 (by decide) ?_
        refine lv_iconst (v := (-1)) hx hb dX9_isLine_54 (by decide) ?_
        refine m_callv (va_runV (As := [.int 9, .int (-1)]) (rest := []) ⟨hx, hb, hml, hown, hts⟩ (c_X9_failLine l dC dI a κ σ φ (up γ 9 0) ψ 9 (-1) (show 1 ≤ (Int32.toInt 9) ∧ (Int32.toInt 9) ≤ 21 from (by have := L_9; omega)) (show (Int32.toInt (-1)) < (Int32.toInt (σ 10)) from (by have := L_m1; omega)) (show 0 ≤ (Int32.toInt (σ 10)) ∧ (Int32.toInt (σ 10)) ≤ 1999999970 from (by omega)) (show ∀ i : Nat, i < 300 → (i : Int) < (Int32.toInt (σ 10)) → Int32.toInt ((φ 6) i) < i from (by with_reducible assumption))) (cwV 2 hts gX9_isLine_X9_failLine rfl rfl rfl ⟨rfl, hd_X9_failLine⟩ ⟨Nat.le_of_ble_eq_true rfl, Nat.le_of_ble_eq_true rfl⟩) (mPreV hP hK hI hN hS (va_recv hK hP (ci := 9) (q0 := 0) rfl rfl)) rfl rfl hl.1 rfl (lv_room (Nat.le_of_ble_eq_true rfl)) dX9_isLine_55 ⟨(by decide +kernel), (by decide +kernel)⟩) hS ?_
        clear hP hS; intro S_42 F_42 γ_42 ψ_42 H locs hw hP hS
        obtain ⟨s10_42, f6_42, rfl, rfl, (qf_42 : (Int32.toInt (σ 10)) ≤ (Int32.toInt s10_42) ∧ (Int32.toInt s10_42) ≤ (Int32.toInt (σ 10)) + 3), (qc_42 : ∀ i : Nat, i < 300 → (i : Int) < (Int32.toInt s10_42) → Int32.toInt (f6_42 i) < i)⟩ := hw
        have hLm1_42 := L_m1
        have hL9_42 := L_9
        refine lv_iconst (v := 0) hx hb dX9_isLine_58 (by decide) ?_
        subst eQ
        exact W.zret (v := 0) hx hb hr (by first | rfl | decide) (fun t ht hW => ⟨⟨0, ((up σ 10 s10_42), (up φ 6 f6_42), γ_42, ψ_42), rfl, ⟨s10_42, f6_42, rfl, rfl, (show (Int32.toInt (σ 10)) ≤ (Int32.toInt s10_42) ∧ (Int32.toInt s10_42) ≤ (Int32.toInt (σ 10)) + 3 from (by omega)), (show ∀ i : Nat, i < 300 → (i : Int) < (Int32.toInt s10_42) → Int32.toInt (f6_42 i) < i from (by with_reducible assumption)), (show (Int32.toInt 0) = 0 ∨ (((Int32.toInt sort) = 72 ∨ (Int32.toInt sort) = 80 ∨ (Int32.toInt sort) = 83) ∧ ((Int32.toInt sort) ≠ 80 ∨ (Int32.toInt (σ 3)) ≠ 0)) from (by have := L_0; omega))⟩, (by show va_P _ _ _ _; rw [ht]; exact hP)⟩, hS.F ht⟩) hS.2.2 dX9_isLine_59
      · have kc_41 := bI_eq rfl L_83 c_41
        refine lv_aload_n hx hb dX9_isLine_23 rfl (lv_at hl 0 rfl) ?_
        refine mg_0_19 (v := (σ 6)) hx hb hts hinX9 hown hK hP (hts (.fieldLink RX9 194 "CensusDeskModel" "lineEnd" "I") (List.mem_of_getElem? (i := 2) rfl)) rfl dX9_isLine_24 ?_
        refine lv_aload_n hx hb dX9_isLine_27 rfl (lv_at hl 0 rfl) ?_
        refine mg_0_18 (v := (σ 5)) hx hb hts hinX9 hown hK hP (hts (.fieldLink RX9 171 "CensusDeskModel" "lineAt" "I") (List.mem_of_getElem? (i := 3) rfl)) rfl dX9_isLine_28 ?_
        refine lv_iconst (v := 1) hx hb dX9_isLine_31 (by decide) ?_
        refine lv_iadd hx hb dX9_isLine_32 ?_
        refine lv_topi (fun z_43 ez_43 => ?_)
        have tz_43 : (Int32.toInt z_43) = (Int32.toInt (σ 5)) + 1 := aI_add rfl L_1 ez_43 (by have := rng (σ 5); omega)
        refine lv_icmp_le (tgt := 60) hx hb dX9_isLine_33 (by decide) (fun c_44 => ?_) (fun c_44 => ?_)
        · have kc_44 := bI_le rfl rfl c_44
          refine lv_iload_n hx hb dX9_isLine_60 rfl (lv_at hl 1 rfl) ?_
          refine lv_bipush (v := 80) hx hb dX9_isLine_61 (by decide) ?_
          refine lv_icmp_ne (tgt := 86) hx hb dX9_isLine_63 (by decide) (fun c_45 => ?_) (fun c_45 => ?_)
          · have kc_45 := bI_ne rfl L_80 c_45
            refine lv_aload_n hx hb dX9_isLine_86 rfl (lv_at hl 0 rfl) ?_
            refine lv_iconst (v := 1) hx hb dX9_isLine_87 (by decide) ?_
            refine mp_0_49 (v := 1) hx hb hts hinX9 hown hK hP hI hS (hts (.fieldLink RX9 218 "CensusDeskModel" "cells" "I") (List.mem_of_getElem? (i := 5) rfl)) dX9_isLine_88 ?_
            clear hP hS; intro H locs hP hS
            refine lv_aload_n hx hb dX9_isLine_91 rfl (lv_at hl 0 rfl) ?_
            refine mg_0_18 (v := (σ 5)) hx hb hts hinX9 hown hK hP (hts (.fieldLink RX9 171 "CensusDeskModel" "lineAt" "I") (List.mem_of_getElem? (i := 3) rfl)) rfl dX9_isLine_92 ?_
            refine lv_istore_n (lv' := [(3, .int (σ 5)), (0, .ref (a 0)), (1, .int sort), (2, .int due)]) hx hb dX9_isLine_95 rfl hl (by decide) rfl ?_
            clear hl; intro ls hl
            exact J96 (_ + 1) (σ 5) (up (up γ 9 0) 13 1) ψ _ _ _ (show (Int32.toInt (σ 5)) ≤ (Int32.toInt (σ 5)) from (by omega)) (show ((Int32.toInt sort) = 72 ∨ (Int32.toInt sort) = 80 ∨ (Int32.toInt sort) = 83) ∧ ((Int32.toInt sort) ≠ 80 ∨ (Int32.toInt (σ 3)) ≠ 0) from (by omega)) (Nat.lt_succ_self _) hP hS (lv_sub hl [1, 3, 0] rfl)
          · have kc_45 := bI_eq rfl L_80 c_45
            refine lv_aload_n hx hb dX9_isLine_66 rfl (lv_at hl 0 rfl) ?_
            refine mg_0_12 (v := (σ 3)) hx hb hts hinX9 hown hK hP (hts (.fieldLink RX9 141 "CensusDeskModel" "inHouse" "Z") (List.mem_of_getElem? (i := 4) rfl)) rfl dX9_isLine_67 ?_
            refine lv_if_ne (tgt := 86) hx hb dX9_isLine_70 (by decide) (fun c_46 => ?_) (fun c_46 => ?_)
            · have kc_46 := bI_ne rfl L_0 c_46
              refine lv_aload_n hx hb dX9_isLine_86 rfl (lv_at hl 0 rfl) ?_
              refine lv_iconst (v := 1) hx hb dX9_isLine_87 (by decide) ?_
              refine mp_0_49 (v := 1) hx hb hts hinX9 hown hK hP hI hS (hts (.fieldLink RX9 218 "CensusDeskModel" "cells" "I") (List.mem_of_getElem? (i := 5) rfl)) dX9_isLine_88 ?_
              clear hP hS; intro H locs hP hS
              refine lv_aload_n hx hb dX9_isLine_91 rfl (lv_at hl 0 rfl) ?_
              refine mg_0_18 (v := (σ 5)) hx hb hts hinX9 hown hK hP (hts (.fieldLink RX9 171 "CensusDeskModel" "lineAt" "I") (List.mem_of_getElem? (i := 3) rfl)) rfl dX9_isLine_92 ?_
              refine lv_istore_n (lv' := [(3, .int (σ 5)), (0, .ref (a 0)), (1, .int sort), (2, .int due)]) hx hb dX9_isLine_95 rfl hl (by decide) rfl ?_
              clear hl; intro ls hl
              exact J96 (_ + 1) (σ 5) (up (up γ 9 0) 13 1) ψ _ _ _ (show (Int32.toInt (σ 5)) ≤ (Int32.toInt (σ 5)) from (by omega)) (show ((Int32.toInt sort) = 72 ∨ (Int32.toInt sort) = 80 ∨ (Int32.toInt sort) = 83) ∧ ((Int32.toInt sort) ≠ 80 ∨ (Int32.toInt (σ 3)) ≠ 0) from (by omega)) (Nat.lt_succ_self _) hP hS (lv_sub hl [1, 3, 0] rfl)
            · have kc_46 := bI_eq rfl L_0 c_46
              refine lv_aload_n hx hb dX9_isLine_73 rfl (lv_at hl 0 rfl) ?_
              refine lv_bipush (v := 19) hx hb dX9_isLine_74 (by decide) ?_
              refine lv_aload_n hx hb dX9_isLine_76 rfl (lv_at hl 0 rfl) ?_
              refine mg_0_18 (v := (σ 5)) hx hb hts hinX9 hown hK hP (hts (.fieldLink RX9 171 "CensusDeskModel" "lineAt" "I") (List.mem_of_getElem? (i := 3) rfl)) rfl dX9_isLine_77 ?_
              refine lv_iconst (v := (-1)) hx hb dX9_isLine_80 (by decide) ?_
              refine m_callv (va_runV (As := [.int 19, .int (σ 5), .int (-1)]) (rest := []) ⟨hx, hb, hml, hown, hts⟩ (c_X9_failSheet l dC dI a κ σ φ (up γ 9 0) ψ 19 (σ 5) (-1) (show 1 ≤ (Int32.toInt 19) ∧ (Int32.toInt 19) ≤ 21 from (by have := L_19; omega)) (show (Int32.toInt (-1)) < (Int32.toInt (σ 10)) from (by have := L_m1; omega)) (show 0 ≤ (Int32.toInt (σ 10)) ∧ (Int32.toInt (σ 10)) ≤ 2000000000 from (by omega)) (show ∀ i : Nat, i < 300 → (i : Int) < (Int32.toInt (σ 10)) → Int32.toInt ((φ 6) i) < i from (by with_reducible assumption))) (cwV 3 hts gX9_isLine_X9_failSheet rfl rfl rfl ⟨rfl, hd_X9_failSheet⟩ ⟨Nat.le_of_ble_eq_true rfl, Nat.le_of_ble_eq_true rfl⟩) (mPreV hP hK hI hN hS (va_recv hK hP (ci := 9) (q0 := 0) rfl rfl)) rfl rfl hl.1 rfl (lv_room (Nat.le_of_ble_eq_true rfl)) dX9_isLine_81 ⟨(by decide +kernel), (by decide +kernel)⟩) hS ?_
              clear hP hS; intro S_47 F_47 γ_47 ψ_47 H locs hw hP hS
              obtain ⟨s10_47, f6_47, rfl, rfl, (qf_47 : (Int32.toInt (σ 10)) ≤ (Int32.toInt s10_47) ∧ (Int32.toInt s10_47) ≤ (Int32.toInt (σ 10)) + 1), (qc_47 : ∀ i : Nat, i < 300 → (i : Int) < (Int32.toInt s10_47) → Int32.toInt (f6_47 i) < i)⟩ := hw
              have hLm1_47 := L_m1
              have hL19_47 := L_19
              refine lv_iconst (v := 0) hx hb dX9_isLine_84 (by decide) ?_
              subst eQ
              exact W.zret (v := 0) hx hb hr (by first | rfl | decide) (fun t ht hW => ⟨⟨0, ((up σ 10 s10_47), (up φ 6 f6_47), γ_47, ψ_47), rfl, ⟨s10_47, f6_47, rfl, rfl, (show (Int32.toInt (σ 10)) ≤ (Int32.toInt s10_47) ∧ (Int32.toInt s10_47) ≤ (Int32.toInt (σ 10)) + 3 from (by omega)), (show ∀ i : Nat, i < 300 → (i : Int) < (Int32.toInt s10_47) → Int32.toInt (f6_47 i) < i from (by with_reducible assumption)), (show (Int32.toInt 0) = 0 ∨ (((Int32.toInt sort) = 72 ∨ (Int32.toInt sort) = 80 ∨ (Int32.toInt sort) = 83) ∧ ((Int32.toInt sort) ≠ 80 ∨ (Int32.toInt (σ 3)) ≠ 0)) from (by have := L_0; omega))⟩, (by show va_P _ _ _ _; rw [ht]; exact hP)⟩, hS.F ht⟩) hS.2.2 dX9_isLine_85
        · have kc_44 := bI_nle rfl rfl c_44
          refine lv_aload_n hx hb dX9_isLine_36 rfl (lv_at hl 0 rfl) ?_
          refine lv_aload_n hx hb dX9_isLine_37 rfl (lv_at hl 0 rfl) ?_
          refine mg_0_18 (v := (σ 5)) hx hb hts hinX9 hown hK hP (hts (.fieldLink RX9 171 "CensusDeskModel" "lineAt" "I") (List.mem_of_getElem? (i := 3) rfl)) rfl dX9_isLine_38 ?_
          refine lv_iconst (v := 1) hx hb dX9_isLine_41 (by decide) ?_
          refine lv_iadd hx hb dX9_isLine_42 ?_
          refine lv_topi (fun z_48 ez_48 => ?_)
          have tz_48 : (Int32.toInt z_48) = (Int32.toInt (σ 5)) + 1 := aI_add rfl L_1 ez_48 (by have := rng (σ 5); omega)
          refine m_calli (va_runV (As := [.int z_48]) (rest := []) ⟨hx, hb, hml, hown, hts⟩ (c_X9_at l dC dI a κ σ φ (up γ 9 0) ψ z_48 (show 0 ≤ (Int32.toInt z_48) ∧ (Int32.toInt z_48) < 4000 from (by omega))) (cwV 1 hts gX9_isLine_X9_at rfl rfl rfl ⟨rfl, hd_X9_at⟩ ⟨Nat.le_of_ble_eq_true rfl, Nat.le_of_ble_eq_true rfl⟩) (mPreV hP hK hI hN hS (va_recv hK hP (ci := 9) (q0 := 0) rfl rfl)) rfl rfl hl.1 rfl (lv_room (Nat.le_of_ble_eq_true rfl)) dX9_isLine_43 ⟨(by decide +kernel), (by decide +kernel)⟩) hS ?_
          clear hP hS; intro r_49 S_49 F_49 γ_49 ψ_49 H locs hw hP hS
          obtain ⟨rfl, rfl, (qm_49 : (Int32.toInt r_49) = Int32.toInt (mat (φ 0) z_48)), (qr_49 : 0 ≤ (Int32.toInt r_49) ∧ (Int32.toInt r_49) ≤ 255)⟩ := hw
          refine lv_bipush (v := 124) hx hb dX9_isLine_46 (by decide) ?_
          refine lv_icmp_eq (tgt := 60) hx hb dX9_isLine_48 (by decide) (fun c_50 => ?_) (fun c_50 => ?_)
          · have kc_50 := bI_eq rfl L_124 c_50
            refine lv_iload_n hx hb dX9_isLine_60 rfl (lv_at hl 1 rfl) ?_
            refine lv_bipush (v := 80) hx hb dX9_isLine_61 (by decide) ?_
            refine lv_icmp_ne (tgt := 86) hx hb dX9_isLine_63 (by decide) (fun c_51 => ?_) (fun c_51 => ?_)
            · have kc_51 := bI_ne rfl L_80 c_51
              refine lv_aload_n hx hb dX9_isLine_86 rfl (lv_at hl 0 rfl) ?_
              refine lv_iconst (v := 1) hx hb dX9_isLine_87 (by decide) ?_
              refine mp_0_49 (v := 1) hx hb hts hinX9 hown hK hP hI hS (hts (.fieldLink RX9 218 "CensusDeskModel" "cells" "I") (List.mem_of_getElem? (i := 5) rfl)) dX9_isLine_88 ?_
              clear hP hS; intro H locs hP hS
              refine lv_aload_n hx hb dX9_isLine_91 rfl (lv_at hl 0 rfl) ?_
              refine mg_0_18 (v := (σ 5)) hx hb hts hinX9 hown hK hP (hts (.fieldLink RX9 171 "CensusDeskModel" "lineAt" "I") (List.mem_of_getElem? (i := 3) rfl)) rfl dX9_isLine_92 ?_
              refine lv_istore_n (lv' := [(3, .int (σ 5)), (0, .ref (a 0)), (1, .int sort), (2, .int due)]) hx hb dX9_isLine_95 rfl hl (by decide) rfl ?_
              clear hl; intro ls hl
              exact J96 (_ + 1) (σ 5) (up γ_49 13 1) ψ_49 _ _ _ (show (Int32.toInt (σ 5)) ≤ (Int32.toInt (σ 5)) from (by omega)) (show ((Int32.toInt sort) = 72 ∨ (Int32.toInt sort) = 80 ∨ (Int32.toInt sort) = 83) ∧ ((Int32.toInt sort) ≠ 80 ∨ (Int32.toInt (σ 3)) ≠ 0) from (by omega)) (Nat.lt_succ_self _) hP hS (lv_sub hl [1, 3, 0] rfl)
            · have kc_51 := bI_eq rfl L_80 c_51
              refine lv_aload_n hx hb dX9_isLine_66 rfl (lv_at hl 0 rfl) ?_
              refine mg_0_12 (v := (σ 3)) hx hb hts hinX9 hown hK hP (hts (.fieldLink RX9 141 "CensusDeskModel" "inHouse" "Z") (List.mem_of_getElem? (i := 4) rfl)) rfl dX9_isLine_67 ?_
              refine lv_if_ne (tgt := 86) hx hb dX9_isLine_70 (by decide) (fun c_52 => ?_) (fun c_52 => ?_)
              · have kc_52 := bI_ne rfl L_0 c_52
                refine lv_aload_n hx hb dX9_isLine_86 rfl (lv_at hl 0 rfl) ?_
                refine lv_iconst (v := 1) hx hb dX9_isLine_87 (by decide) ?_
                refine mp_0_49 (v := 1) hx hb hts hinX9 hown hK hP hI hS (hts (.fieldLink RX9 218 "CensusDeskModel" "cells" "I") (List.mem_of_getElem? (i := 5) rfl)) dX9_isLine_88 ?_
                clear hP hS; intro H locs hP hS
                refine lv_aload_n hx hb dX9_isLine_91 rfl (lv_at hl 0 rfl) ?_
                refine mg_0_18 (v := (σ 5)) hx hb hts hinX9 hown hK hP (hts (.fieldLink RX9 171 "CensusDeskModel" "lineAt" "I") (List.mem_of_getElem? (i := 3) rfl)) rfl dX9_isLine_92 ?_
                refine lv_istore_n (lv' := [(3, .int (σ 5)), (0, .ref (a 0)), (1, .int sort), (2, .int due)]) hx hb dX9_isLine_95 rfl hl (by decide) rfl ?_
                clear hl; intro ls hl
                exact J96 (_ + 1) (σ 5) (up γ_49 13 1) ψ_49 _ _ _ (show (Int32.toInt (σ 5)) ≤ (Int32.toInt (σ 5)) from (by omega)) (show ((Int32.toInt sort) = 72 ∨ (Int32.toInt sort) = 80 ∨ (Int32.toInt sort) = 83) ∧ ((Int32.toInt sort) ≠ 80 ∨ (Int32.toInt (σ 3)) ≠ 0) from (by omega)) (Nat.lt_succ_self _) hP hS (lv_sub hl [1, 3, 0] rfl)
              · have kc_52 := bI_eq rfl L_0 c_52
                refine lv_aload_n hx hb dX9_isLine_73 rfl (lv_at hl 0 rfl) ?_
                refine lv_bipush (v := 19) hx hb dX9_isLine_74 (by decide) ?_
                refine lv_aload_n hx hb dX9_isLine_76 rfl (lv_at hl 0 rfl) ?_
                refine mg_0_18 (v := (σ 5)) hx hb hts hinX9 hown hK hP (hts (.fieldLink RX9 171 "CensusDeskModel" "lineAt" "I") (List.mem_of_getElem? (i := 3) rfl)) rfl dX9_isLine_77 ?_
                refine lv_iconst (v := (-1)) hx hb dX9_isLine_80 (by decide) ?_
                refine m_callv (va_runV (As := [.int 19, .int (σ 5), .int (-1)]) (rest := []) ⟨hx, hb, hml, hown, hts⟩ (c_X9_failSheet l dC dI a κ σ φ γ_49 ψ_49 19 (σ 5) (-1) (show 1 ≤ (Int32.toInt 19) ∧ (Int32.toInt 19) ≤ 21 from (by have := L_19; omega)) (show (Int32.toInt (-1)) < (Int32.toInt (σ 10)) from (by have := L_m1; omega)) (show 0 ≤ (Int32.toInt (σ 10)) ∧ (Int32.toInt (σ 10)) ≤ 2000000000 from (by omega)) (show ∀ i : Nat, i < 300 → (i : Int) < (Int32.toInt (σ 10)) → Int32.toInt ((φ 6) i) < i from (by with_reducible assumption))) (cwV 3 hts gX9_isLine_X9_failSheet rfl rfl rfl ⟨rfl, hd_X9_failSheet⟩ ⟨Nat.le_of_ble_eq_true rfl, Nat.le_of_ble_eq_true rfl⟩) (mPreV hP hK hI hN hS (va_recv hK hP (ci := 9) (q0 := 0) rfl rfl)) rfl rfl hl.1 rfl (lv_room (Nat.le_of_ble_eq_true rfl)) dX9_isLine_81 ⟨(by decide +kernel), (by decide +kernel)⟩) hS ?_
                clear hP hS; intro S_53 F_53 γ_53 ψ_53 H locs hw hP hS
                obtain ⟨s10_53, f6_53, rfl, rfl, (qf_53 : (Int32.toInt (σ 10)) ≤ (Int32.toInt s10_53) ∧ (Int32.toInt s10_53) ≤ (Int32.toInt (σ 10)) + 1), (qc_53 : ∀ i : Nat, i < 300 → (i : Int) < (Int32.toInt s10_53) → Int32.toInt (f6_53 i) < i)⟩ := hw
                have hLm1_53 := L_m1
                have hL19_53 := L_19
                refine lv_iconst (v := 0) hx hb dX9_isLine_84 (by decide) ?_
                subst eQ
                exact W.zret (v := 0) hx hb hr (by first | rfl | decide) (fun t ht hW => ⟨⟨0, ((up σ 10 s10_53), (up φ 6 f6_53), γ_53, ψ_53), rfl, ⟨s10_53, f6_53, rfl, rfl, (show (Int32.toInt (σ 10)) ≤ (Int32.toInt s10_53) ∧ (Int32.toInt s10_53) ≤ (Int32.toInt (σ 10)) + 3 from (by omega)), (show ∀ i : Nat, i < 300 → (i : Int) < (Int32.toInt s10_53) → Int32.toInt (f6_53 i) < i from (by with_reducible assumption)), (show (Int32.toInt 0) = 0 ∨ (((Int32.toInt sort) = 72 ∨ (Int32.toInt sort) = 80 ∨ (Int32.toInt sort) = 83) ∧ ((Int32.toInt sort) ≠ 80 ∨ (Int32.toInt (σ 3)) ≠ 0)) from (by have := L_0; omega))⟩, (by show va_P _ _ _ _; rw [ht]; exact hP)⟩, hS.F ht⟩) hS.2.2 dX9_isLine_85
          · have kc_50 := bI_ne rfl L_124 c_50
            refine lv_aload_n hx hb dX9_isLine_51 rfl (lv_at hl 0 rfl) ?_
            refine lv_bipush (v := 9) hx hb dX9_isLine_52 (by decide) ?_
            refine lv_iconst (v := (-1)) hx hb dX9_isLine_54 (by decide) ?_
            refine m_callv (va_runV (As := [.int 9, .int (-1)]) (rest := []) ⟨hx, hb, hml, hown, hts⟩ (c_X9_failLine l dC dI a κ σ φ γ_49 ψ_49 9 (-1) (show 1 ≤ (Int32.toInt 9) ∧ (Int32.toInt 9) ≤ 21 from (by have := L_9; omega)) (show (Int32.toInt (-1)) < (Int32.toInt (σ 10)) from (by have := L_m1; omega)) (show 0 ≤ (Int32.toInt (σ 10)) ∧ (Int32.toInt (σ 10)) ≤ 1999999970 from (by omega)) (show ∀ i : Nat, i < 300 → (i : Int) < (Int32.toInt (σ 10)) → Int32.toInt ((φ 6) i) < i from (by with_reducible assumption))) (cwV 2 hts gX9_isLine_X9_failLine rfl rfl rfl ⟨rfl, hd_X9_failLine⟩ ⟨Nat.le_of_ble_eq_true rfl, Nat.le_of_ble_eq_true rfl⟩) (mPreV hP hK hI hN hS (va_recv hK hP (ci := 9) (q0 := 0) rfl rfl)) rfl rfl hl.1 rfl (lv_room (Nat.le_of_ble_eq_true rfl)) dX9_isLine_55 ⟨(by decide +kernel), (by decide +kernel)⟩) hS ?_
            clear hP hS; intro S_54 F_54 γ_54 ψ_54 H locs hw hP hS
            obtain ⟨s10_54, f6_54, rfl, rfl, (qf_54 : (Int32.toInt (σ 10)) ≤ (Int32.toInt s10_54) ∧ (Int32.toInt s10_54) ≤ (Int32.toInt (σ 10)) + 3), (qc_54 : ∀ i : Nat, i < 300 → (i : Int) < (Int32.toInt s10_54) → Int32.toInt (f6_54 i) < i)⟩ := hw
            have hLm1_54 := L_m1
            have hL9_54 := L_9
            refine lv_iconst (v := 0) hx hb dX9_isLine_58 (by decide) ?_
            subst eQ
            exact W.zret (v := 0) hx hb hr (by first | rfl | decide) (fun t ht hW => ⟨⟨0, ((up σ 10 s10_54), (up φ 6 f6_54), γ_54, ψ_54), rfl, ⟨s10_54, f6_54, rfl, rfl, (show (Int32.toInt (σ 10)) ≤ (Int32.toInt s10_54) ∧ (Int32.toInt s10_54) ≤ (Int32.toInt (σ 10)) + 3 from (by omega)), (show ∀ i : Nat, i < 300 → (i : Int) < (Int32.toInt s10_54) → Int32.toInt (f6_54 i) < i from (by with_reducible assumption)), (show (Int32.toInt 0) = 0 ∨ (((Int32.toInt sort) = 72 ∨ (Int32.toInt sort) = 80 ∨ (Int32.toInt sort) = 83) ∧ ((Int32.toInt sort) ≠ 80 ∨ (Int32.toInt (σ 3)) ≠ 0)) from (by have := L_0; omega))⟩, (by show va_P _ _ _ _; rw [ht]; exact hP)⟩, hS.F ht⟩) hS.2.2 dX9_isLine_59
set_option maxHeartbeats 4000000 in
set_option maxRecDepth 100000 in
theorem c_X9_readHouse (l : Launch) (dC : Nat → ClassId) (dI : Nat → Nat → Nat) (a : Nat → Nat) (κ : Nat → ClassId) (σ : Nat → Int32) (φ : Nat → Nat → Int32) (γ : Nat → Int32) (ψ : Nat → Nat → Int32)  (hl : 0 ≤ (Int32.toInt (σ 5)) ∧ (Int32.toInt (σ 5)) ≤ (Int32.toInt (σ 6)) ∧ (Int32.toInt (σ 6)) ≤ 4000) (hf : 0 ≤ (Int32.toInt (σ 10)) ∧ (Int32.toInt (σ 10)) ≤ 1000000000) (hfc : ∀ i : Nat, i < 300 → (i : Int) < (Int32.toInt (σ 10)) → Int32.toInt ((φ 6) i) < i) : Met l yX9_readHouse wsX9_readHouse ({ frames := 9, cells := 0, slots := 0, locals := 219 } : Room) (va_Pc [.ref (a 0)] (mPre dC dI a κ (σ, φ, γ, ψ))) (va_Qv (QV (fun S F => ∃ (s11 : Int32) (s10 : Int32) (f6 : Nat → Int32) (s12 : Int32), (up (up (up σ 11 s11) 10 s10) 12 s12) = S ∧ (up φ 6 f6) = F ∧ ((Int32.toInt (σ 10)) ≤ (Int32.toInt s10) ∧ (Int32.toInt s10) ≤ (Int32.toInt (σ 10)) + 41000) ∧ (∀ i : Nat, i < 300 → (i : Int) < (Int32.toInt s10) → Int32.toInt (f6 i) < i))) (mB dC dI a κ) (mA a)) 0 0 (mA a) := by
  refine Met.ofW (cc := cX9_readHouse) (maxL := 2) (ret := none) (by decide) rfl ?_
  intro p e s m args below meth c s₁ B hml hv
  obtain ⟨rfl, hP, hK, hI, hN⟩ := hv
  have hx := B.exec
  have hb := B.bytes
  have hr := B.returns
  have hts := atoms_spec (ws := wsX9_readHouse) B.pre
  have hown : s.vm.findClass RX9 = some m.cls := findClass_of_methodNamed B.named
  have hlocks := B.notSynchronized
  have hS : va_S (mA a) s.heap s.heap [] := va_S.rf
  have hinX9 : ∀ w ∈ wsX90, w ∈ wsX9_readHouse := fun _ h => List.mem_cons_of_mem _ (List.mem_append_right _ h)
  have hl := lv_entry ([.ref (a 0)]) (n := 2) (Nat.le_of_ble_eq_true rfl)
  rw [lg_entry_eq]
  generalize (lg_sl ([.ref (a 0)]) ++ List.replicate (2 - (lg_sl ([.ref (a 0)])).length) Slot.unset).toArray = ls at hl ⊢
  have hl : lv_has ls 2 [(0, .ref (a 0))] := hl
  refine lv_aload_n hx hb dX9_readHouse_0 rfl (lv_at hl 0 rfl) ?_
  refine lv_iconst (v := (-1)) hx hb dX9_readHouse_1 (by decide) ?_
  refine mp_0_15 (v := (-1)) hx hb hts hinX9 hown hK hP hI hS (hts (.fieldLink RX9 221 "CensusDeskModel" "number" "I") (List.mem_of_getElem? (i := 1) rfl)) dX9_readHouse_2 ?_
  clear hP hS; intro H locs hP hS
  refine lv_aload_n hx hb dX9_readHouse_5 rfl (lv_at hl 0 rfl) ?_
  refine lv_iconst (v := (-1)) hx hb dX9_readHouse_6 (by decide) ?_
  refine mp_0_16 (v := (-1)) hx hb hts hinX9 hown hK hP hI hS (hts (.fieldLink RX9 224 "CensusDeskModel" "told" "I") (List.mem_of_getElem? (i := 2) rfl)) dX9_readHouse_7 ?_
  clear hP hS; intro H locs hP hS
  refine lv_aload_n hx hb dX9_readHouse_10 rfl (lv_at hl 0 rfl) ?_
  refine lv_bipush (v := 72) hx hb dX9_readHouse_11 (by decide) ?_
  refine lv_iconst (v := 3) hx hb dX9_readHouse_13 (by decide) ?_
  refine m_calli (va_runV (As := [.int 72, .int 3]) (rest := []) ⟨hx, hb, hml, hown, hts⟩ (c_X9_isLine l dC dI a κ σ φ (up (up γ 7 (-1)) 8 (-1)) ψ 72 3 (show 0 ≤ (Int32.toInt (σ 5)) ∧ (Int32.toInt (σ 5)) ≤ (Int32.toInt (σ 6)) ∧ (Int32.toInt (σ 6)) ≤ 4000 from (by omega)) (show 0 ≤ (Int32.toInt (σ 10)) ∧ (Int32.toInt (σ 10)) ≤ 1500000000 from (by omega)) (show ∀ i : Nat, i < 300 → (i : Int) < (Int32.toInt (σ 10)) → Int32.toInt ((φ 6) i) < i from (by with_reducible assumption))) (cwV 2 hts gX9_readHouse_X9_isLine rfl rfl rfl ⟨rfl, hd_X9_isLine⟩ ⟨Nat.le_of_ble_eq_true rfl, Nat.le_of_ble_eq_true rfl⟩) (mPreV hP hK hI hN hS (va_recv hK hP (ci := 9) (q0 := 0) rfl rfl)) rfl rfl hl.1 rfl (lv_room (Nat.le_of_ble_eq_true rfl)) dX9_readHouse_14 ⟨(by decide +kernel), (by decide +kernel)⟩) hS ?_
  clear hP hS; intro r_1 S_1 F_1 γ_1 ψ_1 H locs hw hP hS
  obtain ⟨s10_1, f6_1, rfl, rfl, (qf_1 : (Int32.toInt (σ 10)) ≤ (Int32.toInt s10_1) ∧ (Int32.toInt s10_1) ≤ (Int32.toInt (σ 10)) + 3), (qc_1 : ∀ i : Nat, i < 300 → (i : Int) < (Int32.toInt s10_1) → Int32.toInt (f6_1 i) < i), (qi_1 : (Int32.toInt r_1) = 0 ∨ (((Int32.toInt 72) = 72 ∨ (Int32.toInt 72) = 80 ∨ (Int32.toInt 72) = 83) ∧ ((Int32.toInt 72) ≠ 80 ∨ (Int32.toInt (σ 3)) ≠ 0)))⟩ := hw
  have hL3_1 := L_3
  have hL72_1 := L_72
  refine lv_if_ne (tgt := 21) hx hb dX9_readHouse_17 (by decide) (fun c_2 => ?_) (fun c_2 => ?_)
  · have kc_2 := bI_ne rfl L_0 c_2
    refine lv_aload_n hx hb dX9_readHouse_21 rfl (lv_at hl 0 rfl) ?_
    refine lv_iconst (v := 1) hx hb dX9_readHouse_22 (by decide) ?_
    refine lv_sipush (v := 9999) hx hb dX9_readHouse_23 (by decide) ?_
    refine m_callv (va_runV (As := [.int 1, .int 9999]) (rest := []) ⟨hx, hb, hml, hown, hts⟩ (c_X9_readNumber l dC dI a κ (up σ 10 s10_1) (up φ 6 f6_1) γ_1 ψ_1 1 9999 (show 0 ≤ (Int32.toInt (σ 5)) ∧ (Int32.toInt (σ 5)) ≤ (Int32.toInt (σ 6)) ∧ (Int32.toInt (σ 6)) ≤ 4000 from (by omega)) (show 0 ≤ (Int32.toInt s10_1) ∧ (Int32.toInt s10_1) ≤ 1500000000 from (by omega)) (show ∀ i : Nat, i < 300 → (i : Int) < (Int32.toInt s10_1) → Int32.toInt (f6_1 i) < i from (by with_reducible assumption))) (cwV 2 hts gX9_readHouse_X9_readNumber rfl rfl rfl ⟨rfl, hd_X9_readNumber⟩ ⟨Nat.le_of_ble_eq_true rfl, Nat.le_of_ble_eq_true rfl⟩) (mPreV hP hK hI hN hS (va_recv hK hP (ci := 9) (q0 := 0) rfl rfl)) rfl rfl hl.1 rfl (lv_room (Nat.le_of_ble_eq_true rfl)) dX9_readHouse_26 ⟨(by decide +kernel), (by decide +kernel)⟩) hS ?_
    clear hP hS; intro S_3 F_3 γ_3 ψ_3 H locs hw hP hS
    obtain ⟨s11_3, s10_3, f6_3, s12_3, rfl, rfl, (qf_3 : (Int32.toInt s10_1) ≤ (Int32.toInt s10_3) ∧ (Int32.toInt s10_3) ≤ (Int32.toInt s10_1) + 20004), (qc_3 : ∀ i : Nat, i < 300 → (i : Int) < (Int32.toInt s10_3) → Int32.toInt (f6_3 i) < i)⟩ := hw
    have hL1_3 := L_1
    have hL9999_3 := L_9999
    refine lv_aload_n hx hb dX9_readHouse_29 rfl (lv_at hl 0 rfl) ?_
    refine mg_0_51 (v := s12_3) hx hb hts hinX9 hown hK hP (hts (.fieldLink RX9 212 "CensusDeskModel" "value" "I") (List.mem_of_getElem? (i := 3) rfl)) rfl dX9_readHouse_30 ?_
    refine lv_istore_n (lv' := [(1, .int s12_3), (0, .ref (a 0))]) hx hb dX9_readHouse_33 rfl hl (by decide) rfl ?_
    clear hl; intro ls hl
    refine lv_aload_n hx hb dX9_readHouse_34 rfl (lv_at hl 1 rfl) ?_
    refine mg_0_20 (v := (γ_3 9)) hx hb hts hinX9 hown hK hP (hts (.fieldLink RX9 177 "CensusDeskModel" "lineLost" "Z") (List.mem_of_getElem? (i := 4) rfl)) rfl dX9_readHouse_35 ?_
    refine lv_if_eq (tgt := 42) hx hb dX9_readHouse_38 (by decide) (fun c_4 => ?_) (fun c_4 => ?_)
    · have kc_4 := bI_eq rfl L_0 c_4
      refine lv_aload_n hx hb dX9_readHouse_42 rfl (lv_at hl 1 rfl) ?_
      refine lv_iconst (v := 2) hx hb dX9_readHouse_43 (by decide) ?_
      refine lv_bipush (v := 99) hx hb dX9_readHouse_44 (by decide) ?_
      refine m_callv (va_runV (As := [.int 2, .int 99]) (rest := []) ⟨hx, hb, hml, hown, hts⟩ (c_X9_readNumber l dC dI a κ (up (up (up (up σ 10 s10_1) 11 s11_3) 10 s10_3) 12 s12_3) (up (up φ 6 f6_1) 6 f6_3) γ_3 ψ_3 2 99 (show 0 ≤ (Int32.toInt (σ 5)) ∧ (Int32.toInt (σ 5)) ≤ (Int32.toInt (σ 6)) ∧ (Int32.toInt (σ 6)) ≤ 4000 from (by omega)) (show 0 ≤ (Int32.toInt s10_3) ∧ (Int32.toInt s10_3) ≤ 1500000000 from (by omega)) (show ∀ i : Nat, i < 300 → (i : Int) < (Int32.toInt s10_3) → Int32.toInt (f6_3 i) < i from (by with_reducible assumption))) (cwV 2 hts gX9_readHouse_X9_readNumber rfl rfl rfl ⟨rfl, hd_X9_readNumber⟩ ⟨Nat.le_of_ble_eq_true rfl, Nat.le_of_ble_eq_true rfl⟩) (mPreV hP hK hI hN hS (va_recv hK hP (ci := 9) (q0 := 0) rfl rfl)) rfl rfl hl.1 rfl (lv_room (Nat.le_of_ble_eq_true rfl)) dX9_readHouse_46 ⟨(by decide +kernel), (by decide +kernel)⟩) hS ?_
      clear hP hS; intro S_5 F_5 γ_5 ψ_5 H locs hw hP hS
      obtain ⟨s11_5, s10_5, f6_5, s12_5, rfl, rfl, (qf_5 : (Int32.toInt s10_3) ≤ (Int32.toInt s10_5) ∧ (Int32.toInt s10_5) ≤ (Int32.toInt s10_3) + 20004), (qc_5 : ∀ i : Nat, i < 300 → (i : Int) < (Int32.toInt s10_5) → Int32.toInt (f6_5 i) < i)⟩ := hw
      have hL2_5 := L_2
      have hL99_5 := L_99
      refine lv_aload_n hx hb dX9_readHouse_49 rfl (lv_at hl 1 rfl) ?_
      refine mg_0_20 (v := (γ_5 9)) hx hb hts hinX9 hown hK hP (hts (.fieldLink RX9 177 "CensusDeskModel" "lineLost" "Z") (List.mem_of_getElem? (i := 4) rfl)) rfl dX9_readHouse_50 ?_
      refine lv_if_ne (tgt := 69) hx hb dX9_readHouse_53 (by decide) (fun c_6 => ?_) (fun c_6 => ?_)
      · have kc_6 := bI_ne rfl L_0 c_6
        exact W.vret hx hb hr (fun t ht hW => ⟨⟨((up (up (up σ 11 s11_5) 10 s10_5) 12 s12_5), (up φ 6 f6_5), γ_5, ψ_5), rfl, ⟨s11_5, s10_5, f6_5, s12_5, rfl, rfl, (show (Int32.toInt (σ 10)) ≤ (Int32.toInt s10_5) ∧ (Int32.toInt s10_5) ≤ (Int32.toInt (σ 10)) + 41000 from (by omega)), (show ∀ i : Nat, i < 300 → (i : Int) < (Int32.toInt s10_5) → Int32.toInt (f6_5 i) < i from (by with_reducible assumption))⟩, (by show va_P _ _ _ _; rw [ht]; exact hP)⟩, hS.F ht⟩) hS.2.2 dX9_readHouse_69
      · have kc_6 := bI_eq rfl L_0 c_6
        refine lv_aload_n hx hb dX9_readHouse_56 rfl (lv_at hl 1 rfl) ?_
        refine lv_iload_n hx hb dX9_readHouse_57 rfl (lv_at hl 0 rfl) ?_
        refine mp_0_15 (v := s12_3) hx hb hts hinX9 hown hK hP hI hS (hts (.fieldLink RX9 221 "CensusDeskModel" "number" "I") (List.mem_of_getElem? (i := 1) rfl)) dX9_readHouse_58 ?_
        clear hP hS; intro H locs hP hS
        refine lv_aload_n hx hb dX9_readHouse_61 rfl (lv_at hl 1 rfl) ?_
        refine lv_aload_n hx hb dX9_readHouse_62 rfl (lv_at hl 1 rfl) ?_
        refine mg_0_51 (v := s12_5) hx hb hts hinX9 hown hK hP (hts (.fieldLink RX9 212 "CensusDeskModel" "value" "I") (List.mem_of_getElem? (i := 3) rfl)) rfl dX9_readHouse_63 ?_
        refine mp_0_16 (v := s12_5) hx hb hts hinX9 hown hK hP hI hS (hts (.fieldLink RX9 224 "CensusDeskModel" "told" "I") (List.mem_of_getElem? (i := 2) rfl)) dX9_readHouse_66 ?_
        clear hP hS; intro H locs hP hS
        exact W.vret hx hb hr (fun t ht hW => ⟨⟨((up (up (up σ 11 s11_5) 10 s10_5) 12 s12_5), (up φ 6 f6_5), (up (up γ_5 7 s12_3) 8 s12_5), ψ_5), rfl, ⟨s11_5, s10_5, f6_5, s12_5, rfl, rfl, (show (Int32.toInt (σ 10)) ≤ (Int32.toInt s10_5) ∧ (Int32.toInt s10_5) ≤ (Int32.toInt (σ 10)) + 41000 from (by omega)), (show ∀ i : Nat, i < 300 → (i : Int) < (Int32.toInt s10_5) → Int32.toInt (f6_5 i) < i from (by with_reducible assumption))⟩, (by show va_P _ _ _ _; rw [ht]; exact hP)⟩, hS.F ht⟩) hS.2.2 dX9_readHouse_69
    · have kc_4 := bI_ne rfl L_0 c_4
      exact W.vret hx hb hr (fun t ht hW => ⟨⟨((up (up (up σ 11 s11_3) 10 s10_3) 12 s12_3), (up φ 6 f6_3), γ_3, ψ_3), rfl, ⟨s11_3, s10_3, f6_3, s12_3, rfl, rfl, (show (Int32.toInt (σ 10)) ≤ (Int32.toInt s10_3) ∧ (Int32.toInt s10_3) ≤ (Int32.toInt (σ 10)) + 41000 from (by omega)), (show ∀ i : Nat, i < 300 → (i : Int) < (Int32.toInt s10_3) → Int32.toInt (f6_3 i) < i from (by with_reducible assumption))⟩, (by show va_P _ _ _ _; rw [ht]; exact hP)⟩, hS.F ht⟩) hS.2.2 dX9_readHouse_41
  · have kc_2 := bI_eq rfl L_0 c_2
    exact W.vret hx hb hr (fun t ht hW => ⟨⟨((up (up (up σ 11 (σ 11)) 10 s10_1) 12 (σ 12)), (up φ 6 f6_1), γ_1, ψ_1), rfl, ⟨(σ 11), s10_1, f6_1, (σ 12), rfl, rfl, (show (Int32.toInt (σ 10)) ≤ (Int32.toInt s10_1) ∧ (Int32.toInt s10_1) ≤ (Int32.toInt (σ 10)) + 41000 from (by omega)), (show ∀ i : Nat, i < 300 → (i : Int) < (Int32.toInt s10_1) → Int32.toInt (f6_1 i) < i from (by with_reducible assumption))⟩, (by show va_P _ _ _ _; rw [ht]; exact hP)⟩, hS.F ht⟩) hS.2.2 dX9_readHouse_20
