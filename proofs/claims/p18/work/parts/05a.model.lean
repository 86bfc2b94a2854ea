set_option maxHeartbeats 4000000 in
set_option maxRecDepth 100000 in
theorem c_X9_groupOf (l : Launch) (dC : Nat → ClassId) (dI : Nat → Nat → Nat) (a : Nat → Nat) (κ : Nat → ClassId) (σ : Nat → Int32) (φ : Nat → Nat → Int32) (γ : Nat → Int32) (ψ : Nat → Nat → Int32) (k : Int32) (hk : 1 ≤ (Int32.toInt k) ∧ (Int32.toInt k) ≤ 29) : Met l yX9_groupOf wsX9_groupOf ({ frames := 0, cells := 0, slots := 0, locals := 0 } : Room) (va_Pc [.int k] (mPre dC dI a κ (σ, φ, γ, ψ))) (va_Qi (QI (fun r S F => σ = S ∧ φ = F ∧ (((Int32.toInt k) = 29 ∧ (Int32.toInt r) = 0) ∨ ((Int32.toInt k) < (Int32.toInt r) ∧ (Int32.toInt r) ≤ 29)))) (mB dC dI a κ) (mA a)) 0 0 (mA a) := by
  refine Met.ofW (cc := cX9_groupOf) (maxL := 1) (ret := (some .int)) (by decide) rfl ?_
  intro p e s m args below meth c s₁ B hml hv
  obtain ⟨rfl, hP, hK, hI, hN⟩ := hv
  have hx := B.exec
  have hb := B.bytes
  have hr := B.returns
  have hts := atoms_spec (ws := wsX9_groupOf) B.pre
  have hown : s.vm.findClass RX9 = some m.cls := findClass_of_methodNamed B.named
  have hlocks := B.notSynchronized
  have hS : va_S (mA a) s.heap s.heap [] := va_S.rf
  have hl := lv_entry ([.int k]) (n := 1) (Nat.le_of_ble_eq_true rfl)
  rw [lg_entry_eq]
  generalize (lg_sl ([.int k]) ++ List.replicate (1 - (lg_sl ([.int k])).length) Slot.unset).toArray = ls at hl ⊢
  have hl : lv_has ls 1 [(0, .int k)] := hl
  refine lv_iload_n hx hb dX9_groupOf_0 rfl (lv_at hl 0 rfl) ?_
  refine lv_bipush (v := 24) hx hb dX9_groupOf_1 (by decide) ?_
  refine lv_icmp_le (tgt := 19) hx hb dX9_groupOf_3 (by decide) (fun c_1 => ?_) (fun c_1 => ?_)
  · have kc_1 := bI_le rfl L_24 c_1
    refine lv_iload_n hx hb dX9_groupOf_19 rfl (lv_at hl 0 rfl) ?_
    refine lv_bipush (v := 24) hx hb dX9_groupOf_20 (by decide) ?_
    refine lv_icmp_ne (tgt := 28) hx hb dX9_groupOf_22 (by decide) (fun c_2 => ?_) (fun c_2 => ?_)
    · have kc_2 := bI_ne rfl L_24 c_2
      refine lv_iload_n hx hb dX9_groupOf_28 rfl (lv_at hl 0 rfl) ?_
      refine lv_bipush (v := 21) hx hb dX9_groupOf_29 (by decide) ?_
      refine lv_icmp_le (tgt := 37) hx hb dX9_groupOf_31 (by decide) (fun c_3 => ?_) (fun c_3 => ?_)
      · have kc_3 := bI_le rfl L_21 c_3
        refine lv_iload_n hx hb dX9_groupOf_37 rfl (lv_at hl 0 rfl) ?_
        refine lv_bipush (v := 18) hx hb dX9_groupOf_38 (by decide) ?_
        refine lv_icmp_le (tgt := 46) hx hb dX9_groupOf_40 (by decide) (fun c_4 => ?_) (fun c_4 => ?_)
        · have kc_4 := bI_le rfl L_18 c_4
          refine lv_iload_n hx hb dX9_groupOf_46 rfl (lv_at hl 0 rfl) ?_
          refine lv_bipush (v := 13) hx hb dX9_groupOf_47 (by decide) ?_
          refine lv_icmp_le (tgt := 55) hx hb dX9_groupOf_49 (by decide) (fun c_5 => ?_) (fun c_5 => ?_)
          · have kc_5 := bI_le rfl L_13 c_5
            refine lv_iload_n hx hb dX9_groupOf_55 rfl (lv_at hl 0 rfl) ?_
            refine lv_bipush (v := 8) hx hb dX9_groupOf_56 (by decide) ?_
            refine lv_icmp_le (tgt := 64) hx hb dX9_groupOf_58 (by decide) (fun c_6 => ?_) (fun c_6 => ?_)
            · have kc_6 := bI_le rfl L_8 c_6
              refine lv_iload_n hx hb dX9_groupOf_64 rfl (lv_at hl 0 rfl) ?_
              refine lv_iconst (v := 1) hx hb dX9_groupOf_65 (by decide) ?_
              refine lv_icmp_ne (tgt := 74) hx hb dX9_groupOf_66 (by decide) (fun c_7 => ?_) (fun c_7 => ?_)
              · have kc_7 := bI_ne rfl L_1 c_7
                refine lv_iload_n hx hb dX9_groupOf_74 rfl (lv_at hl 0 rfl) ?_
                refine lv_iconst (v := 2) hx hb dX9_groupOf_75 (by decide) ?_
                refine lv_icmp_eq (tgt := 84) hx hb dX9_groupOf_76 (by decide) (fun c_8 => ?_) (fun c_8 => ?_)
                · have kc_8 := bI_eq rfl L_2 c_8
                  refine lv_bipush (v := 22) hx hb dX9_groupOf_84 (by decide) ?_
                  refine lv_goto (tgt := 106) hx hb dX9_groupOf_86 (by decide) ?_
                  exact W.iret (v := 22) hx hb hr (fun t ht hW => ⟨⟨22, (σ, φ, γ, ψ), rfl, ⟨rfl, rfl, (show ((Int32.toInt k) = 29 ∧ (Int32.toInt 22) = 0) ∨ ((Int32.toInt k) < (Int32.toInt 22) ∧ (Int32.toInt 22) ≤ 29) from (by have := L_22; omega))⟩, (by show va_P _ _ _ _; rw [ht]; exact hP)⟩, hS.F ht⟩) hS.2.2 dX9_groupOf_106
                · have kc_8 := bI_ne rfl L_2 c_8
                  refine lv_iload_n hx hb dX9_groupOf_79 rfl (lv_at hl 0 rfl) ?_
                  refine lv_iconst (v := 3) hx hb dX9_groupOf_80 (by decide) ?_
                  refine lv_icmp_ne (tgt := 89) hx hb dX9_groupOf_81 (by decide) (fun c_9 => ?_) (fun c_9 => ?_)
                  · have kc_9 := bI_ne rfl L_3 c_9
                    refine lv_iload_n hx hb dX9_groupOf_89 rfl (lv_at hl 0 rfl) ?_
                    refine lv_iconst (v := 4) hx hb dX9_groupOf_90 (by decide) ?_
                    refine lv_icmp_eq (tgt := 99) hx hb dX9_groupOf_91 (by decide) (fun c_10 => ?_) (fun c_10 => ?_)
                    · have kc_10 := bI_eq rfl L_4 c_10
                      refine lv_bipush (v := 23) hx hb dX9_groupOf_99 (by decide) ?_
                      refine lv_goto (tgt := 106) hx hb dX9_groupOf_101 (by decide) ?_
                      exact W.iret (v := 23) hx hb hr (fun t ht hW => ⟨⟨23, (σ, φ, γ, ψ), rfl, ⟨rfl, rfl, (show ((Int32.toInt k) = 29 ∧ (Int32.toInt 23) = 0) ∨ ((Int32.toInt k) < (Int32.toInt 23) ∧ (Int32.toInt 23) ≤ 29) from (by have := L_23; omega))⟩, (by show va_P _ _ _ _; rw [ht]; exact hP)⟩, hS.F ht⟩) hS.2.2 dX9_groupOf_106
                    · have kc_10 := bI_ne rfl L_4 c_10
                      refine lv_iload_n hx hb dX9_groupOf_94 rfl (lv_at hl 0 rfl) ?_
                      refine lv_iconst (v := 5) hx hb dX9_groupOf_95 (by decide) ?_
                      refine lv_icmp_ne (tgt := 104) hx hb dX9_groupOf_96 (by decide) (fun c_11 => ?_) (fun c_11 => ?_)
                      · have kc_11 := bI_ne rfl L_5 c_11
                        refine lv_bipush (v := 25) hx hb dX9_groupOf_104 (by decide) ?_
                        exact W.iret (v := 25) hx hb hr (fun t ht hW => ⟨⟨25, (σ, φ, γ, ψ), rfl, ⟨rfl, rfl, (show ((Int32.toInt k) = 29 ∧ (Int32.toInt 25) = 0) ∨ ((Int32.toInt k) < (Int32.toInt 25) ∧ (Int32.toInt 25) ≤ 29) from (by have := L_25; omega))⟩, (by show va_P _ _ _ _; rw [ht]; exact hP)⟩, hS.F ht⟩) hS.2.2 dX9_groupOf_106
                      · have kc_11 := bI_eq rfl L_5 c_11
                        refine lv_bipush (v := 23) hx hb dX9_groupOf_99 (by decide) ?_
                        refine lv_goto (tgt := 106) hx hb dX9_groupOf_101 (by decide) ?_
                        exact W.iret (v := 23) hx hb hr (fun t ht hW => ⟨⟨23, (σ, φ, γ, ψ), rfl, ⟨rfl, rfl, (show ((Int32.toInt k) = 29 ∧ (Int32.toInt 23) = 0) ∨ ((Int32.toInt k) < (Int32.toInt 23) ∧ (Int32.toInt 23) ≤ 29) from (by have := L_23; omega))⟩, (by show va_P _ _ _ _; rw [ht]; exact hP)⟩, hS.F ht⟩) hS.2.2 dX9_groupOf_106
                  · have kc_9 := bI_eq rfl L_3 c_9
                    refine lv_bipush (v := 22) hx hb dX9_groupOf_84 (by decide) ?_
                    refine lv_goto (tgt := 106) hx hb dX9_groupOf_86 (by decide) ?_
                    exact W.iret (v := 22) hx hb hr (fun t ht hW => ⟨⟨22, (σ, φ, γ, ψ), rfl, ⟨rfl, rfl, (show ((Int32.toInt k) = 29 ∧ (Int32.toInt 22) = 0) ∨ ((Int32.toInt k) < (Int32.toInt 22) ∧ (Int32.toInt 22) ≤ 29) from (by have := L_22; omega))⟩, (by show va_P _ _ _ _; rw [ht]; exact hP)⟩, hS.F ht⟩) hS.2.2 dX9_groupOf_106
              · have kc_7 := bI_eq rfl L_1 c_7
                refine lv_bipush (v := 24) hx hb dX9_groupOf_69 (by decide) ?_
                refine lv_goto (tgt := 106) hx hb dX9_groupOf_71 (by decide) ?_
                exact W.iret (v := 24) hx hb hr (fun t ht hW => ⟨⟨24, (σ, φ, γ, ψ), rfl, ⟨rfl, rfl, (show ((Int32.toInt k) = 29 ∧ (Int32.toInt 24) = 0) ∨ ((Int32.toInt k) < (Int32.toInt 24) ∧ (Int32.toInt 24) ≤ 29) from (by have := L_24; omega))⟩, (by show va_P _ _ _ _; rw [ht]; exact hP)⟩, hS.F ht⟩) hS.2.2 dX9_groupOf_106
            · have kc_6 := bI_nle rfl L_8 c_6
              refine lv_bipush (v := 26) hx hb dX9_groupOf_61 (by decide) ?_
              exact W.iret (v := 26) hx hb hr (fun t ht hW => ⟨⟨26, (σ, φ, γ, ψ), rfl, ⟨rfl, rfl, (show ((Int32.toInt k) = 29 ∧ (Int32.toInt 26) = 0) ∨ ((Int32.toInt k) < (Int32.toInt 26) ∧ (Int32.toInt 26) ≤ 29) from (by have := L_26; omega))⟩, (by show va_P _ _ _ _; rw [ht]; exact hP)⟩, hS.F ht⟩) hS.2.2 dX9_groupOf_63
          · have kc_5 := bI_nle rfl L_13 c_5
            refine lv_bipush (v := 27) hx hb dX9_groupOf_52 (by decide) ?_
            exact W.iret (v := 27) hx hb hr (fun t ht hW => ⟨⟨27, (σ, φ, γ, ψ), rfl, ⟨rfl, rfl, (show ((Int32.toInt k) = 29 ∧ (Int32.toInt 27) = 0) ∨ ((Int32.toInt k) < (Int32.toInt 27) ∧ (Int32.toInt 27) ≤ 29) from (by have := L_27; omega))⟩, (by show va_P _ _ _ _; rw [ht]; exact hP)⟩, hS.F ht⟩) hS.2.2 dX9_groupOf_54
        · have kc_4 := bI_nle rfl L_18 c_4
          refine lv_bipush (v := 28) hx hb dX9_groupOf_43 (by decide) ?_
          exact W.iret (v := 28) hx hb hr (fun t ht hW => ⟨⟨28, (σ, φ, γ, ψ), rfl, ⟨rfl, rfl, (show ((Int32.toInt k) = 29 ∧ (Int32.toInt 28) = 0) ∨ ((Int32.toInt k) < (Int32.toInt 28) ∧ (Int32.toInt 28) ≤ 29) from (by have := L_28; omega))⟩, (by show va_P _ _ _ _; rw [ht]; exact hP)⟩, hS.F ht⟩) hS.2.2 dX9_groupOf_45
      · have kc_3 := bI_nle rfl L_21 c_3
        refine lv_bipush (v := 25) hx hb dX9_groupOf_34 (by decide) ?_
        exact W.iret (v := 25) hx hb hr (fun t ht hW => ⟨⟨25, (σ, φ, γ, ψ), rfl, ⟨rfl, rfl, (show ((Int32.toInt k) = 29 ∧ (Int32.toInt 25) = 0) ∨ ((Int32.toInt k) < (Int32.toInt 25) ∧ (Int32.toInt 25) ≤ 29) from (by have := L_25; omega))⟩, (by show va_P _ _ _ _; rw [ht]; exact hP)⟩, hS.F ht⟩) hS.2.2 dX9_groupOf_36
    · have kc_2 := bI_eq rfl L_24 c_2
      refine lv_bipush (v := 29) hx hb dX9_groupOf_25 (by decide) ?_
      exact W.iret (v := 29) hx hb hr (fun t ht hW => ⟨⟨29, (σ, φ, γ, ψ), rfl, ⟨rfl, rfl, (show ((Int32.toInt k) = 29 ∧ (Int32.toInt 29) = 0) ∨ ((Int32.toInt k) < (Int32.toInt 29) ∧ (Int32.toInt 29) ≤ 29) from (by have := L_29; omega))⟩, (by show va_P _ _ _ _; rw [ht]; exact hP)⟩, hS.F ht⟩) hS.2.2 dX9_groupOf_27
  · have kc_1 := bI_nle rfl L_24 c_1
    refine lv_iload_n hx hb dX9_groupOf_6 rfl (lv_at hl 0 rfl) ?_
    refine lv_bipush (v := 29) hx hb dX9_groupOf_7 (by decide) ?_
    refine lv_icmp_ne (tgt := 16) hx hb dX9_groupOf_9 (by decide) (fun c_12 => ?_) (fun c_12 => ?_)
    · have kc_12 := bI_ne rfl L_29 c_12
      refine lv_bipush (v := 29) hx hb dX9_groupOf_16 (by decide) ?_
      exact W.iret (v := 29) hx hb hr (fun t ht hW => ⟨⟨29, (σ, φ, γ, ψ), rfl, ⟨rfl, rfl, (show ((Int32.toInt k) = 29 ∧ (Int32.toInt 29) = 0) ∨ ((Int32.toInt k) < (Int32.toInt 29) ∧ (Int32.toInt 29) ≤ 29) from (by have := L_29; omega))⟩, (by show va_P _ _ _ _; rw [ht]; exact hP)⟩, hS.F ht⟩) hS.2.2 dX9_groupOf_18
    · have kc_12 := bI_eq rfl L_29 c_12
      refine lv_iconst (v := 0) hx hb dX9_groupOf_12 (by decide) ?_
      refine lv_goto (tgt := 18) hx hb dX9_groupOf_13 (by decide) ?_
      exact W.iret (v := 0) hx hb hr (fun t ht hW => ⟨⟨0, (σ, φ, γ, ψ), rfl, ⟨rfl, rfl, (show ((Int32.toInt k) = 29 ∧ (Int32.toInt 0) = 0) ∨ ((Int32.toInt k) < (Int32.toInt 0) ∧ (Int32.toInt 0) ≤ 29) from (by have := L_0; omega))⟩, (by show va_P _ _ _ _; rw [ht]; exact hP)⟩, hS.F ht⟩) hS.2.2 dX9_groupOf_18
set_option maxHeartbeats 4000000 in
set_option maxRecDepth 100000 in
theorem c_X9_layerOf (l : Launch) (dC : Nat → ClassId) (dI : Nat → Nat → Nat) (a : Nat → Nat) (κ : Nat → ClassId) (σ : Nat → Int32) (φ : Nat → Nat → Int32) (γ : Nat → Int32) (ψ : Nat → Nat → Int32) (kind : Int32) : Met l yX9_layerOf wsX9_layerOf ({ frames := 0, cells := 0, slots := 0, locals := 0 } : Room) (va_Pc [.int kind] (mPre dC dI a κ (σ, φ, γ, ψ))) (va_Qi (QI (fun r S F => σ = S ∧ φ = F ∧ (1 ≤ (Int32.toInt r) ∧ (Int32.toInt r) ≤ 5))) (mB dC dI a κ) (mA a)) 0 0 (mA a) := by
  refine Met.ofW (cc := cX9_layerOf) (maxL := 1) (ret := (some .int)) (by decide) rfl ?_
  intro p e s m args below meth c s₁ B hml hv
  obtain ⟨rfl, hP, hK, hI, hN⟩ := hv
  have hx := B.exec
  have hb := B.bytes
  have hr := B.returns
  have hts := atoms_spec (ws := wsX9_layerOf) B.pre
  have hown : s.vm.findClass RX9 = some m.cls := findClass_of_methodNamed B.named
  have hlocks := B.notSynchronized
  have hS : va_S (mA a) s.heap s.heap [] := va_S.rf
  have hl := lv_entry ([.int kind]) (n := 1) (Nat.le_of_ble_eq_true rfl)
  rw [lg_entry_eq]
  generalize (lg_sl ([.int kind]) ++ List.replicate (1 - (lg_sl ([.int kind])).length) Slot.unset).toArray = ls at hl ⊢
  have hl : lv_has ls 1 [(0, .int kind)] := hl
  refine lv_iload_n hx hb dX9_layerOf_0 rfl (lv_at hl 0 rfl) ?_
  refine lv_iconst (v := 1) hx hb dX9_layerOf_1 (by decide) ?_
  refine lv_icmp_ne (tgt := 9) hx hb dX9_layerOf_2 (by decide) (fun c_1 => ?_) (fun c_1 => ?_)
  · have kc_1 := bI_ne rfl L_1 c_1
    refine lv_iload_n hx hb dX9_layerOf_9 rfl (lv_at hl 0 rfl) ?_
    refine lv_bipush (v := 9) hx hb dX9_layerOf_10 (by decide) ?_
    refine lv_icmp_ge (tgt := 19) hx hb dX9_layerOf_12 (by decide) (fun c_2 => ?_) (fun c_2 => ?_)
    · have kc_2 := bI_le L_9 rfl c_2
      refine lv_iload_n hx hb dX9_layerOf_19 rfl (lv_at hl 0 rfl) ?_
      refine lv_bipush (v := 14) hx hb dX9_layerOf_20 (by decide) ?_
      refine lv_icmp_ge (tgt := 29) hx hb dX9_layerOf_22 (by decide) (fun c_3 => ?_) (fun c_3 => ?_)
      · have kc_3 := bI_le L_14 rfl c_3
        refine lv_iload_n hx hb dX9_layerOf_29 rfl (lv_at hl 0 rfl) ?_
        refine lv_bipush (v := 19) hx hb dX9_layerOf_30 (by decide) ?_
        refine lv_icmp_ge (tgt := 39) hx hb dX9_layerOf_32 (by decide) (fun c_4 => ?_) (fun c_4 => ?_)
        · have kc_4 := bI_le L_19 rfl c_4
          refine lv_iconst (v := 5) hx hb dX9_layerOf_39 (by decide) ?_
          exact W.iret (v := 5) hx hb hr (fun t ht hW => ⟨⟨5, (σ, φ, γ, ψ), rfl, ⟨rfl, rfl, (show 1 ≤ (Int32.toInt 5) ∧ (Int32.toInt 5) ≤ 5 from (by have := L_5; omega))⟩, (by show va_P _ _ _ _; rw [ht]; exact hP)⟩, hS.F ht⟩) hS.2.2 dX9_layerOf_40
        · have kc_4 := bI_nle L_19 rfl c_4
          refine lv_iconst (v := 4) hx hb dX9_layerOf_35 (by decide) ?_
          refine lv_goto (tgt := 40) hx hb dX9_layerOf_36 (by decide) ?_
          exact W.iret (v := 4) hx hb hr (fun t ht hW => ⟨⟨4, (σ, φ, γ, ψ), rfl, ⟨rfl, rfl, (show 1 ≤ (Int32.toInt 4) ∧ (Int32.toInt 4) ≤ 5 from (by have := L_4; omega))⟩, (by show va_P _ _ _ _; rw [ht]; exact hP)⟩, hS.F ht⟩) hS.2.2 dX9_layerOf_40
      · have kc_3 := bI_nle L_14 rfl c_3
        refine lv_iconst (v := 3) hx hb dX9_layerOf_25 (by decide) ?_
        refine lv_goto (tgt := 40) hx hb dX9_layerOf_26 (by decide) ?_
        exact W.iret (v := 3) hx hb hr (fun t ht hW => ⟨⟨3, (σ, φ, γ, ψ), rfl, ⟨rfl, rfl, (show 1 ≤ (Int32.toInt 3) ∧ (Int32.toInt 3) ≤ 5 from (by have := L_3; omega))⟩, (by show va_P _ _ _ _; rw [ht]; exact hP)⟩, hS.F ht⟩) hS.2.2 dX9_layerOf_40
    · have kc_2 := bI_nle L_9 rfl c_2
      refine lv_iconst (v := 2) hx hb dX9_layerOf_15 (by decide) ?_
      refine lv_goto (tgt := 40) hx hb dX9_layerOf_16 (by decide) ?_
      exact W.iret (v := 2) hx hb hr (fun t ht hW => ⟨⟨2, (σ, φ, γ, ψ), rfl, ⟨rfl, rfl, (show 1 ≤ (Int32.toInt 2) ∧ (Int32.toInt 2) ≤ 5 from (by have := L_2; omega))⟩, (by show va_P _ _ _ _; rw [ht]; exact hP)⟩, hS.F ht⟩) hS.2.2 dX9_layerOf_40
  · have kc_1 := bI_eq rfl L_1 c_1
    refine lv_iconst (v := 1) hx hb dX9_layerOf_5 (by decide) ?_
    refine lv_goto (tgt := 40) hx hb dX9_layerOf_6 (by decide) ?_
    exact W.iret (v := 1) hx hb hr (fun t ht hW => ⟨⟨1, (σ, φ, γ, ψ), rfl, ⟨rfl, rfl, (show 1 ≤ (Int32.toInt 1) ∧ (Int32.toInt 1) ≤ 5 from (by have := L_1; omega))⟩, (by show va_P _ _ _ _; rw [ht]; exact hP)⟩, hS.F ht⟩) hS.2.2 dX9_layerOf_40
set_option maxHeartbeats 4000000 in
set_option maxRecDepth 100000 in
theorem c_X9_goesOn (l : Launch) (dC : Nat → ClassId) (dI : Nat → Nat → Nat) (a : Nat → Nat) (κ : Nat → ClassId) (σ : Nat → Int32) (φ : Nat → Nat → Int32) (γ : Nat → Int32) (ψ : Nat → Nat → Int32) (w : Int32) : Met l yX9_goesOn wsX9_goesOn ({ frames := 0, cells := 0, slots := 0, locals := 0 } : Room) (va_Pc [.int w] (mPre dC dI a κ (σ, φ, γ, ψ))) (va_Qi (QI (fun r S F => σ = S ∧ φ = F ∧ True)) (mB dC dI a κ) (mA a)) 0 0 (mA a) := by
  refine Met.ofW (cc := cX9_goesOn) (maxL := 1) (ret := (some .boolean)) (by decide) rfl ?_
  intro p e s m args below meth c s₁ B hml hv
  obtain ⟨rfl, hP, hK, hI, hN⟩ := hv
  have hx := B.exec
  have hb := B.bytes
  have hr := B.returns
  have hts := atoms_spec (ws := wsX9_goesOn) B.pre
  have hown : s.vm.findClass RX9 = some m.cls := findClass_of_methodNamed B.named
  have hlocks := B.notSynchronized
  have hS : va_S (mA a) s.heap s.heap [] := va_S.rf
  have hl := lv_entry ([.int w]) (n := 1) (Nat.le_of_ble_eq_true rfl)
  rw [lg_entry_eq]
  generalize (lg_sl ([.int w]) ++ List.replicate (1 - (lg_sl ([.int w])).length) Slot.unset).toArray = ls at hl ⊢
  have hl : lv_has ls 1 [(0, .int w)] := hl
  refine lv_iload_n hx hb dX9_goesOn_0 rfl (lv_at hl 0 rfl) ?_
  refine lv_iconst (v := 1) hx hb dX9_goesOn_1 (by decide) ?_
  refine lv_icmp_eq (tgt := 10) hx hb dX9_goesOn_2 (by decide) (fun c_1 => ?_) (fun c_1 => ?_)
  · have kc_1 := bI_eq rfl L_1 c_1
    refine lv_iconst (v := 1) hx hb dX9_goesOn_10 (by decide) ?_
    refine lv_goto (tgt := 15) hx hb dX9_goesOn_11 (by decide) ?_
    exact W.zret (v := 1) hx hb hr (by first | rfl | decide) (fun t ht hW => ⟨⟨1, (σ, φ, γ, ψ), rfl, ⟨rfl, rfl, trivial⟩, (by show va_P _ _ _ _; rw [ht]; exact hP)⟩, hS.F ht⟩) hS.2.2 dX9_goesOn_15
  · have kc_1 := bI_ne rfl L_1 c_1
    refine lv_iload_n hx hb dX9_goesOn_5 rfl (lv_at hl 0 rfl) ?_
    refine lv_iconst (v := 2) hx hb dX9_goesOn_6 (by decide) ?_
    refine lv_icmp_ne (tgt := 14) hx hb dX9_goesOn_7 (by decide) (fun c_2 => ?_) (fun c_2 => ?_)
    · have kc_2 := bI_ne rfl L_2 c_2
      refine lv_iconst (v := 0) hx hb dX9_goesOn_14 (by decide) ?_
      exact W.zret (v := 0) hx hb hr (by first | rfl | decide) (fun t ht hW => ⟨⟨0, (σ, φ, γ, ψ), rfl, ⟨rfl, rfl, trivial⟩, (by show va_P _ _ _ _; rw [ht]; exact hP)⟩, hS.F ht⟩) hS.2.2 dX9_goesOn_15
    · have kc_2 := bI_eq rfl L_2 c_2
      refine lv_iconst (v := 1) hx hb dX9_goesOn_10 (by decide) ?_
      refine lv_goto (tgt := 15) hx hb dX9_goesOn_11 (by decide) ?_
      exact W.zret (v := 1) hx hb hr (by first | rfl | decide) (fun t ht hW => ⟨⟨1, (σ, φ, γ, ψ), rfl, ⟨rfl, rfl, trivial⟩, (by show va_P _ _ _ _; rw [ht]; exact hP)⟩, hS.F ht⟩) hS.2.2 dX9_goesOn_15
set_option maxHeartbeats 4000000 in
set_option maxRecDepth 100000 in
theorem c_X9_fail (l : Launch) (dC : Nat → ClassId) (dI : Nat → Nat → Nat) (a : Nat → Nat) (κ : Nat → ClassId) (σ : Nat → Int32) (φ : Nat → Nat → Int32) (γ : Nat → Int32) (ψ : Nat → Nat → Int32) (kind : Int32) (place : Int32) (cause : Int32) (hk : 1 ≤ (Int32.toInt kind) ∧ (Int32.toInt kind) ≤ 21) (hc : (Int32.toInt cause) < (Int32.toInt (σ 10))) (hf : 0 ≤ (Int32.toInt (σ 10)) ∧ (Int32.toInt (σ 10)) ≤ 2000000000) (hfc : ∀ i : Nat, i < 300 → (i : Int) < (Int32.toInt (σ 10)) → Int32.toInt ((φ 6) i) < i) : Met l yX9_fail wsX9_fail ({ frames := 1, cells := 0, slots := 0, locals := 20 } : Room) (va_Pc [.ref (a 0), .int kind, .int place, .int cause] (mPre dC dI a κ (σ, φ, γ, ψ))) (va_Qi (QI (fun r S F => ∃ (s10 : Int32) (f6 : Nat → Int32), (up σ 10 s10) = S ∧ (up φ 6 f6) = F ∧ ((Int32.toInt r) = (Int32.toInt (σ 10)) ∧ (Int32.toInt s10) = (Int32.toInt (σ 10)) + 1) ∧ (∀ i : Nat, i < 300 → (i : Int) < (Int32.toInt s10) → Int32.toInt (f6 i) < i))) (mB dC dI a κ) (mA a)) 0 0 (mA a) := by
  refine Met.ofW (cc := cX9_fail) (maxL := 7) (ret := (some .int)) (by decide) rfl ?_
  intro p e s m args below meth c s₁ B hml hv
  obtain ⟨rfl, hP, hK, hI, hN⟩ := hv
  have hx := B.exec
  have hb := B.bytes
  have hr := B.returns
  have hts := atoms_spec (ws := wsX9_fail) B.pre
  have hown : s.vm.findClass RX9 = some m.cls := findClass_of_methodNamed B.named
  have hlocks := B.notSynchronized
  have hS : va_S (mA a) s.heap s.heap [] := va_S.rf
  have hinX9 : ∀ w ∈ wsX90, w ∈ wsX9_fail := fun _ h => List.mem_cons_of_mem _ (List.mem_append_right _ h)
  have hl := lv_entry ([.ref (a 0), .int kind, .int place, .int cause]) (n := 7) (Nat.le_of_ble_eq_true rfl)
  rw [lg_entry_eq]
  generalize (lg_sl ([.ref (a 0), .int kind, .int place, .int cause]) ++ List.replicate (7 - (lg_sl ([.ref (a 0), .int kind, .int place, .int cause])).length) Slot.unset).toArray = ls at hl ⊢
  have hl : lv_has ls 7 [(0, .ref (a 0)), (1, .int kind), (2, .int place), (3, .int cause)] := hl
  refine k_gen (fun QQ eQ => ?_)
  have J198 : ∀ (n : Int32) (f6_c198 : Nat → Int32) (γ : Nat → Int32) (ψ : Nat → Nat → Int32) (H : Heap) (locs : List Loc) (ls : Array Slot), ((Int32.toInt n) = (Int32.toInt (σ 10))) → (∀ i : Nat, i < 300 → (i : Int) < (Int32.toInt (σ 10)) + 1 → Int32.toInt (f6_c198 i) < i) → va_P (dC, dI) vwCl (mw a κ (σ, (up φ 6 f6_c198), γ, ψ)) H → va_S (mA a) s.heap H locs → lv_has ls 7 [(0, .ref (a 0)), (1, .int kind), (4, .int n)] → W p l e ({ frames := 1, cells := 0, slots := 0, locals := 20 } : Room) s m ([.ref (a 0), .int kind, .int place, .int cause] : List Value).toArray below meth c H locs 0 0 QQ (F0 m 198 ls []) := by
    intro n f6_c198 γ ψ H locs ls v0 vf hP hS hl
    refine lv_aload_n hx hb dX9_fail_198 rfl (lv_at hl 0 rfl) ?_
    refine mg_0_41 hx hb hts hinX9 hown hK hP (hts (.fieldLink RX9 65 "CensusDeskModel" "many" "[I") (List.mem_of_getElem? (i := 14) rfl)) dX9_fail_199 ?_
    refine lv_iload_n hx hb dX9_fail_202 rfl (lv_at hl 1 rfl) ?_
    refine lv_dup2_11 hx hb dX9_fail_203 rfl rfl ?_
    refine ml_19 (f := (ψ 11)) hx hb hK hP (i := kind) (vin rfl (by omega)) rfl dX9_fail_204 ?_
    refine lv_topi (fun z_1 ez_1 => ?_)
    refine lv_iconst (v := 1) hx hb dX9_fail_205 (by decide) ?_
    refine lv_iadd hx hb dX9_fail_206 ?_
    refine lv_topi (fun z_2 ez_2 => ?_)
    refine ms_19 (f := (ψ 11)) hx hb hK hP hI hS (i := kind) (x := z_2) (vin rfl (by omega)) rfl dX9_fail_207 ?_
    clear hP hS; intro H locs hP hS
    obtain ⟨f_3, ef_3⟩ : ∃ z : Nat → Int32, z = upd (ψ 11) (Int32.toNatClampNeg kind) z_2 := ⟨_, rfl⟩
    rw [← ef_3] at hP
    refine lv_aload_n hx hb dX9_fail_208 rfl (lv_at hl 0 rfl) ?_
    refine lv_dup hx hb dX9_fail_209 rfl ?_
    refine mg_0_40 (v := (σ 10)) hx hb hts hinX9 hown hK hP (hts (.fieldLink RX9 135 "CensusDeskModel" "fails" "I") (List.mem_of_getElem? (i := 5) rfl)) rfl dX9_fail_210 ?_
    refine lv_iconst (v := 1) hx hb dX9_fail_213 (by decide) ?_
    refine lv_iadd hx hb dX9_fail_214 ?_
    refine lv_topi (fun z_4 ez_4 => ?_)
    have tz_4 : (Int32.toInt z_4) = (Int32.toInt (σ 10)) + 1 := aI_add rfl L_1 ez_4 (by have := rng (σ 10); omega)
    refine mp_0_40 (v := z_4) hx hb hts hinX9 hown hK hP hI hS (hts (.fieldLink RX9 135 "CensusDeskModel" "fails" "I") (List.mem_of_getElem? (i := 5) rfl)) dX9_fail_215 ?_
    clear hP hS; intro H locs hP hS
    refine lv_aload_n hx hb dX9_fail_218 rfl (lv_at hl 0 rfl) ?_
    refine lv_aload_n hx hb dX9_fail_219 rfl (lv_at hl 0 rfl) ?_
    refine mg_0_7 (v := (γ 1)) hx hb hts hinX9 hown hK hP (hts (.fieldLink RX9 144 "CensusDeskModel" "stops" "Z") (List.mem_of_getElem? (i := 15) rfl)) rfl dX9_fail_220 ?_
    refine lv_if_ne (tgt := 234) hx hb dX9_fail_223 (by decide) (fun c_5 => ?_) (fun c_5 => ?_)
    · have kc_5 := bI_ne rfl L_0 c_5
      refine lv_iconst (v := 1) hx hb dX9_fail_234 (by decide) ?_
      refine lv_goto (tgt := 239) hx hb dX9_fail_235 (by decide) ?_
      refine mp_0_7 (v := 1) hx hb hts hinX9 hown hK hP hI hS (hts (.fieldLink RX9 144 "CensusDeskModel" "stops" "Z") (List.mem_of_getElem? (i := 15) rfl)) (by first | rfl | decide) (by first | rfl | decide) dX9_fail_239 ?_
      clear hP hS; intro H locs hP hS
      refine lv_iload hx hb dX9_fail_242 (lv_at hl 2 rfl) ?_
      have hfin : ∀ i : Nat, i < 300 → (i : Int) < (Int32.toInt z_4) → Int32.toInt (f6_c198 i) < i := fun i h1 h2 => vf i h1 (by omega)
      subst eQ
      exact W.iret (v := n) hx hb hr (fun t ht hW => ⟨⟨n, ((up σ 10 z_4), (up φ 6 f6_c198), (up γ 1 1), (up ψ 11 f_3)), rfl, ⟨z_4, f6_c198, rfl, rfl, (show (Int32.toInt n) = (Int32.toInt (σ 10)) ∧ (Int32.toInt z_4) = (Int32.toInt (σ 10)) + 1 from (by omega)), (show ∀ i : Nat, i < 300 → (i : Int) < (Int32.toInt z_4) → Int32.toInt (f6_c198 i) < i from (by with_reducible assumption))⟩, (by show va_P _ _ _ _; rw [ht]; exact hP)⟩, hS.F ht⟩) hS.2.2 dX9_fail_244
    · have kc_5 := bI_eq rfl L_0 c_5
      refine lv_aload_n hx hb dX9_fail_226 rfl (lv_at hl 0 rfl) ?_
      refine mg_0_44 (v := (γ 11)) hx hb hts hinX9 hown hK hP (hts (.fieldLink RX9 125 "CensusDeskModel" "way" "I") (List.mem_of_getElem? (i := 1) rfl)) rfl dX9_fail_227 ?_
      refine lv_iconst (v := 4) hx hb dX9_fail_230 (by decide) ?_
      refine lv_icmp_ne (tgt := 238) hx hb dX9_fail_231 (by decide) (fun c_6 => ?_) (fun c_6 => ?_)
      · have kc_6 := bI_ne rfl L_4 c_6
        refine lv_iconst (v := 0) hx hb dX9_fail_238 (by decide) ?_
        refine mp_0_7 (v := 0) hx hb hts hinX9 hown hK hP hI hS (hts (.fieldLink RX9 144 "CensusDeskModel" "stops" "Z") (List.mem_of_getElem? (i := 15) rfl)) (by first | rfl | decide) (by first | rfl | decide) dX9_fail_239 ?_
        clear hP hS; intro H locs hP hS
        refine lv_iload hx hb dX9_fail_242 (lv_at hl 2 rfl) ?_
        have hfin : ∀ i : Nat, i < 300 → (i : Int) < (Int32.toInt z_4) → Int32.toInt (f6_c198 i) < i := fun i h1 h2 => vf i h1 (by omega)
        subst eQ
        exact W.iret (v := n) hx hb hr (fun t ht hW => ⟨⟨n, ((up σ 10 z_4), (up φ 6 f6_c198), (up γ 1 0), (up ψ 11 f_3)), rfl, ⟨z_4, f6_c198, rfl, rfl, (show (Int32.toInt n) = (Int32.toInt (σ 10)) ∧ (Int32.toInt z_4) = (Int32.toInt (σ 10)) + 1 from (by omega)), (show ∀ i : Nat, i < 300 → (i : Int) < (Int32.toInt z_4) → Int32.toInt (f6_c198 i) < i from (by with_reducible assumption))⟩, (by show va_P _ _ _ _; rw [ht]; exact hP)⟩, hS.F ht⟩) hS.2.2 dX9_fail_244
      · have kc_6 := bI_eq rfl L_4 c_6
        refine lv_iconst (v := 1) hx hb dX9_fail_234 (by decide) ?_
        refine lv_goto (tgt := 239) hx hb dX9_fail_235 (by decide) ?_
        refine mp_0_7 (v := 1) hx hb hts hinX9 hown hK hP hI hS (hts (.fieldLink RX9 144 "CensusDeskModel" "stops" "Z") (List.mem_of_getElem? (i := 15) rfl)) (by first | rfl | decide) (by first | rfl | decide) dX9_fail_239 ?_
        clear hP hS; intro H locs hP hS
        refine lv_iload hx hb dX9_fail_242 (lv_at hl 2 rfl) ?_
        have hfin : ∀ i : Nat, i < 300 → (i : Int) < (Int32.toInt z_4) → Int32.toInt (f6_c198 i) < i := fun i h1 h2 => vf i h1 (by omega)
        subst eQ
        exact W.iret (v := n) hx hb hr (fun t ht hW => ⟨⟨n, ((up σ 10 z_4), (up φ 6 f6_c198), (up γ 1 1), (up ψ 11 f_3)), rfl, ⟨z_4, f6_c198, rfl, rfl, (show (Int32.toInt n) = (Int32.toInt (σ 10)) ∧ (Int32.toInt z_4) = (Int32.toInt (σ 10)) + 1 from (by omega)), (show ∀ i : Nat, i < 300 → (i : Int) < (Int32.toInt z_4) → Int32.toInt (f6_c198 i) < i from (by with_reducible assumption))⟩, (by show va_P _ _ _ _; rw [ht]; exact hP)⟩, hS.F ht⟩) hS.2.2 dX9_fail_244
  have J146 : ∀ (n : Int32) (first : Int32) (γ : Nat → Int32) (ψ : Nat → Nat → Int32) (H : Heap) (locs : List Loc) (ls : Array Slot), ((Int32.toInt n) = (Int32.toInt (σ 10))) → va_P (dC, dI) vwCl (mw a κ (σ, φ, γ, ψ)) H → va_S (mA a) s.heap H locs → lv_has ls 7 [(0, .ref (a 0)), (1, .int kind), (2, .int place), (3, .int cause), (4, .int n), (6, .int first)] → W p l e ({ frames := 1, cells := 0, slots := 0, locals := 20 } : Room) s m ([.ref (a 0), .int kind, .int place, .int cause] : List Value).toArray below meth c H locs 0 0 QQ (F0 m 146 ls []) := by
    intro n first γ ψ H locs ls v0 hP hS hl
    refine lv_iload hx hb dX9_fail_146 (lv_at hl 4 rfl) ?_
    refine lv_sipush (v := 300) hx hb dX9_fail_148 (by decide) ?_
    refine lv_icmp_ge (tgt := 198) hx hb dX9_fail_151 (by decide) (fun c_7 => ?_) (fun c_7 => ?_)
    · have kc_7 := bI_le L_300 rfl c_7
      have vf : ∀ i : Nat, i < 300 → (i : Int) < (Int32.toInt (σ 10)) + 1 → Int32.toInt ((φ 6) i) < i := fun i h1 h2 => hfc i h1 (by omega)
      exact J198 n (φ 6) γ ψ _ _ _ (show (Int32.toInt n) = (Int32.toInt (σ 10)) from (by omega)) (show ∀ i : Nat, i < 300 → (i : Int) < (Int32.toInt (σ 10)) + 1 → Int32.toInt ((φ 6) i) < i from (by with_reducible assumption)) hP hS (lv_sub hl [0, 1, 4] rfl)
    · have kc_7 := bI_nle L_300 rfl c_7
      refine lv_aload_n hx hb dX9_fail_154 rfl (lv_at hl 0 rfl) ?_
      refine mg_0_35 hx hb hts hinX9 hown hK hP (hts (.fieldLink RX9 50 "CensusDeskModel" "failKind" "[I") (List.mem_of_getElem? (i := 9) rfl)) dX9_fail_155 ?_
      refine lv_iload hx hb dX9_fail_158 (lv_at hl 4 rfl) ?_
      refine lv_iload_n hx hb dX9_fail_160 rfl (lv_at hl 1 rfl) ?_
      refine ms_14 (f := (ψ 7)) hx hb hK hP hI hS (i := n) (x := kind) (vin rfl (by omega)) rfl dX9_fail_161 ?_
      clear hP hS; intro H locs hP hS
      obtain ⟨f_8, ef_8⟩ : ∃ z : Nat → Int32, z = upd (ψ 7) (Int32.toNatClampNeg n) kind := ⟨_, rfl⟩
      rw [← ef_8] at hP
      refine lv_aload_n hx hb dX9_fail_162 rfl (lv_at hl 0 rfl) ?_
      refine mg_0_36 hx hb hts hinX9 hown hK hP (hts (.fieldLink RX9 53 "CensusDeskModel" "failPlace" "[I") (List.mem_of_getElem? (i := 10) rfl)) dX9_fail_163 ?_
      refine lv_iload hx hb dX9_fail_166 (lv_at hl 4 rfl) ?_
      refine lv_iload_n hx hb dX9_fail_168 rfl (lv_at hl 2 rfl) ?_
      refine ms_15 (f := (ψ 8)) hx hb hK hP hI hS (i := n) (x := place) (vin rfl (by omega)) rfl dX9_fail_169 ?_
      clear hP hS; intro H locs hP hS
      obtain ⟨f_9, ef_9⟩ : ∃ z : Nat → Int32, z = upd (ψ 8) (Int32.toNatClampNeg n) place := ⟨_, rfl⟩
      rw [← ef_9] at hP
      refine lv_aload_n hx hb dX9_fail_170 rfl (lv_at hl 0 rfl) ?_
      refine mg_0_37 hx hb hts hinX9 hown hK hP (hts (.fieldLink RX9 56 "CensusDeskModel" "failCause" "[I") (List.mem_of_getElem? (i := 11) rfl)) dX9_fail_171 ?_
      refine lv_iload hx hb dX9_fail_174 (lv_at hl 4 rfl) ?_
      refine lv_iload_n hx hb dX9_fail_176 rfl (lv_at hl 3 rfl) ?_
      refine ms_16 (f := (φ 6)) hx hb hK hP hI hS (i := n) (x := cause) (vin rfl (by omega)) rfl dX9_fail_177 ?_
      clear hP hS; intro H locs hP hS
      obtain ⟨f_10, ef_10⟩ : ∃ z : Nat → Int32, z = upd (φ 6) (Int32.toNatClampNeg n) cause := ⟨_, rfl⟩
      rw [← ef_10] at hP
      refine lv_aload_n hx hb dX9_fail_178 rfl (lv_at hl 0 rfl) ?_
      refine mg_0_38 hx hb hts hinX9 hown hK hP (hts (.fieldLink RX9 59 "CensusDeskModel" "failFirst" "[I") (List.mem_of_getElem? (i := 12) rfl)) dX9_fail_179 ?_
      refine lv_iload hx hb dX9_fail_182 (lv_at hl 4 rfl) ?_
      refine lv_iload hx hb dX9_fail_184 (lv_at hl 5 rfl) ?_
      refine ms_17 (f := (ψ 9)) hx hb hK hP hI hS (i := n) (x := first) (vin rfl (by omega)) rfl dX9_fail_186 ?_
      clear hP hS; intro H locs hP hS
      obtain ⟨f_11, ef_11⟩ : ∃ z : Nat → Int32, z = upd (ψ 9) (Int32.toNatClampNeg n) first := ⟨_, rfl⟩
      rw [← ef_11] at hP
      refine lv_aload_n hx hb dX9_fail_187 rfl (lv_at hl 0 rfl) ?_
      refine mg_0_39 hx hb hts hinX9 hown hK hP (hts (.fieldLink RX9 62 "CensusDeskModel" "failWay" "[I") (List.mem_of_getElem? (i := 13) rfl)) dX9_fail_188 ?_
      refine lv_iload hx hb dX9_fail_191 (lv_at hl 4 rfl) ?_
      refine lv_aload_n hx hb dX9_fail_193 rfl (lv_at hl 0 rfl) ?_
      refine mg_0_44 (v := (γ 11)) hx hb hts hinX9 hown hK hP (hts (.fieldLink RX9 125 "CensusDeskModel" "way" "I") (List.mem_of_getElem? (i := 1) rfl)) rfl dX9_fail_194 ?_
      refine ms_18 (f := (ψ 10)) hx hb hK hP hI hS (i := n) (x := (γ 11)) (vin rfl (by omega)) rfl dX9_fail_197 ?_
      clear hP hS; intro H locs hP hS
      obtain ⟨f_12, ef_12⟩ : ∃ z : Nat → Int32, z = upd (ψ 10) (Int32.toNatClampNeg n) (γ 11) := ⟨_, rfl⟩
      rw [← ef_12] at hP
      have hnn := tn_eq (x := n) (by omega)
      have vf : ∀ i : Nat, i < 300 → (i : Int) < (Int32.toInt (σ 10)) + 1 → Int32.toInt (f_10 i) < i := fun i h1 h2 => by
        by_cases hi : i = Int32.toNatClampNeg n
        · rw [ef_10, hi, pk_us]; omega
        · rw [ef_10, pk_un hi]; exact hfc i h1 (by omega)
      exact J198 n f_10 γ (up (up (up (up ψ 7 f_8) 8 f_9) 9 f_11) 10 f_12) _ _ _ (show (Int32.toInt n) = (Int32.toInt (σ 10)) from (by omega)) (show ∀ i : Nat, i < 300 → (i : Int) < (Int32.toInt (σ 10)) + 1 → Int32.toInt (f_10 i) < i from (by with_reducible assumption)) hP hS (lv_sub hl [0, 1, 4] rfl)
  have J63 : ∀ (γ : Nat → Int32) (ψ : Nat → Nat → Int32) (H : Heap) (locs : List Loc) (ls : Array Slot), va_P (dC, dI) vwCl (mw a κ (σ, φ, γ, ψ)) H → va_S (mA a) s.heap H locs → lv_has ls 7 [(0, .ref (a 0)), (1, .int kind), (2, .int place), (3, .int cause)] → W p l e ({ frames := 1, cells := 0, slots := 0, locals := 20 } : Room) s m ([.ref (a 0), .int kind, .int place, .int cause] : List Value).toArray below meth c H locs 0 0 QQ (F0 m 63 ls []) := by
    intro γ ψ H locs ls  hP hS hl
    refine lv_aload_n hx hb dX9_fail_63 rfl (lv_at hl 0 rfl) ?_
    refine mg_0_40 (v := (σ 10)) hx hb hts hinX9 hown hK hP (hts (.fieldLink RX9 135 "CensusDeskModel" "fails" "I") (List.mem_of_getElem? (i := 5) rfl)) rfl dX9_fail_64 ?_
    refine lv_istore (lv' := [(4, .int (σ 10)), (0, .ref (a 0)), (1, .int kind), (2, .int place), (3, .int cause)]) hx hb dX9_fail_67 hl (by decide) rfl ?_
    clear hl; intro ls hl
    refine lv_iload_n hx hb dX9_fail_69 rfl (lv_at hl 2 rfl) ?_
    refine m_calli (va_runS (As := [.int kind]) (rest := []) ⟨hx, hb, hml, hown, hts⟩ (c_X9_layerOf l dC dI a κ σ φ γ ψ kind ) (va_cwS 1 hts gX9_fail_X9_layerOf rfl rfl rfl hd_X9_layerOf ⟨Nat.le_of_ble_eq_true rfl, Nat.le_of_ble_eq_true rfl⟩) (mPreS hP hK hI hN hS) rfl rfl hl.1 rfl (lv_room (Nat.le_of_ble_eq_true rfl)) dX9_fail_70 ⟨(by decide +kernel), (by decide +kernel)⟩) hS ?_
    clear hP hS; intro r_13 S_13 F_13 γ_13 ψ_13 H locs hw hP hS
    obtain ⟨rfl, rfl, (ql_13 : 1 ≤ (Int32.toInt r_13) ∧ (Int32.toInt r_13) ≤ 5)⟩ := hw
    refine lv_istore (lv' := [(5, .int r_13), (4, .int (σ 10)), (0, .ref (a 0)), (1, .int kind), (2, .int place), (3, .int cause)]) hx hb dX9_fail_73 hl (by decide) rfl ?_
    clear hl; intro ls hl
    refine lv_iload hx hb dX9_fail_75 (lv_at hl 0 rfl) ?_
    refine lv_iconst (v := 5) hx hb dX9_fail_77 (by decide) ?_
    refine lv_icmp_eq (tgt := 88) hx hb dX9_fail_78 (by decide) (fun c_14 => ?_) (fun c_14 => ?_)
    · have kc_14 := bI_eq rfl L_5 c_14
      refine lv_aload_n hx hb dX9_fail_88 rfl (lv_at hl 2 rfl) ?_
      refine mg_0_43 hx hb hts hinX9 hown hK hP (hts (.fieldLink RX9 71 "CensusDeskModel" "firstOut" "[I") (List.mem_of_getElem? (i := 7) rfl)) dX9_fail_89 ?_
      refine lv_iload hx hb dX9_fail_92 (lv_at hl 0 rfl) ?_
      refine ml_21 (f := (ψ_13 13)) hx hb hK hP (i := r_13) (vin rfl (by omega)) rfl dX9_fail_94 ?_
      refine lv_topi (fun z_15 ez_15 => ?_)
      refine lv_goto (tgt := 105) hx hb dX9_fail_95 (by decide) ?_
      refine lv_istore (lv' := [(6, .int z_15), (5, .int r_13), (4, .int (σ 10)), (0, .ref (a 0)), (1, .int kind), (2, .int place), (3, .int cause)]) hx hb dX9_fail_105 hl (by decide) rfl ?_
      clear hl; intro ls hl
      refine lv_iload hx hb dX9_fail_107 (lv_at hl 0 rfl) ?_
      refine lv_if_ge (tgt := 146) hx hb dX9_fail_109 (by decide) (fun c_16 => ?_) (fun c_16 => ?_)
      · have kc_16 := bI_le L_0 rfl c_16
        exact J146 (σ 10) z_15 γ_13 ψ_13 _ _ _ (show (Int32.toInt (σ 10)) = (Int32.toInt (σ 10)) from (by omega)) hP hS (lv_sub hl [3, 4, 5, 6, 2, 0] rfl)
      · have kc_16 := bI_nle L_0 rfl c_16
        refine lv_iload hx hb dX9_fail_112 (lv_at hl 1 rfl) ?_
        refine lv_iconst (v := 5) hx hb dX9_fail_114 (by decide) ?_
        refine lv_icmp_eq (tgt := 125) hx hb dX9_fail_115 (by decide) (fun c_17 => ?_) (fun c_17 => ?_)
        · have kc_17 := bI_eq rfl L_5 c_17
          refine lv_aload_n hx hb dX9_fail_125 rfl (lv_at hl 3 rfl) ?_
          refine mg_0_43 hx hb hts hinX9 hown hK hP (hts (.fieldLink RX9 71 "CensusDeskModel" "firstOut" "[I") (List.mem_of_getElem? (i := 7) rfl)) dX9_fail_126 ?_
          refine lv_iload hx hb dX9_fail_129 (lv_at hl 1 rfl) ?_
          refine lv_iload hx hb dX9_fail_131 (lv_at hl 2 rfl) ?_
          refine ms_21 (f := (ψ_13 13)) hx hb hK hP hI hS (i := r_13) (x := (σ 10)) (vin rfl (by omega)) rfl dX9_fail_133 ?_
          clear hP hS; intro H locs hP hS
          obtain ⟨f_18, ef_18⟩ : ∃ z : Nat → Int32, z = upd (ψ_13 13) (Int32.toNatClampNeg r_13) (σ 10) := ⟨_, rfl⟩
          rw [← ef_18] at hP
          refine lv_goto (tgt := 146) hx hb dX9_fail_134 (by decide) ?_
          exact J146 (σ 10) z_15 γ_13 (up ψ_13 13 f_18) _ _ _ (show (Int32.toInt (σ 10)) = (Int32.toInt (σ 10)) from (by omega)) hP hS (lv_sub hl [3, 4, 5, 6, 2, 0] rfl)
        · have kc_17 := bI_ne rfl L_5 c_17
          refine lv_aload_n hx hb dX9_fail_118 rfl (lv_at hl 3 rfl) ?_
          refine mg_0_12 (v := (σ 3)) hx hb hts hinX9 hown hK hP (hts (.fieldLink RX9 141 "CensusDeskModel" "inHouse" "Z") (List.mem_of_getElem? (i := 6) rfl)) rfl dX9_fail_119 ?_
          refine lv_if_ne (tgt := 137) hx hb dX9_fail_122 (by decide) (fun c_19 => ?_) (fun c_19 => ?_)
          · have kc_19 := bI_ne rfl L_0 c_19
            refine lv_aload_n hx hb dX9_fail_137 rfl (lv_at hl 3 rfl) ?_
            refine mg_0_42 hx hb hts hinX9 hown hK hP (hts (.fieldLink RX9 68 "CensusDeskModel" "firstIn" "[I") (List.mem_of_getElem? (i := 8) rfl)) dX9_fail_138 ?_
            refine lv_iload hx hb dX9_fail_141 (lv_at hl 1 rfl) ?_
            refine lv_iload hx hb dX9_fail_143 (lv_at hl 2 rfl) ?_
            refine ms_20 (f := (ψ_13 12)) hx hb hK hP hI hS (i := r_13) (x := (σ 10)) (vin rfl (by omega)) rfl dX9_fail_145 ?_
            clear hP hS; intro H locs hP hS
            obtain ⟨f_20, ef_20⟩ : ∃ z : Nat → Int32, z = upd (ψ_13 12) (Int32.toNatClampNeg r_13) (σ 10) := ⟨_, rfl⟩
            rw [← ef_20] at hP
            exact J146 (σ 10) z_15 γ_13 (up ψ_13 12 f_20) _ _ _ (show (Int32.toInt (σ 10)) = (Int32.toInt (σ 10)) from (by omega)) hP hS (lv_sub hl [3, 4, 5, 6, 2, 0] rfl)
          · have kc_19 := bI_eq rfl L_0 c_19
            refine lv_aload_n hx hb dX9_fail_125 rfl (lv_at hl 3 rfl) ?_
            refine mg_0_43 hx hb hts hinX9 hown hK hP (hts (.fieldLink RX9 71 "CensusDeskModel" "firstOut" "[I") (List.mem_of_getElem? (i := 7) rfl)) dX9_fail_126 ?_
            refine lv_iload hx hb dX9_fail_129 (lv_at hl 1 rfl) ?_
            refine lv_iload hx hb dX9_fail_131 (lv_at hl 2 rfl) ?_
            refine ms_21 (f := (ψ_13 13)) hx hb hK hP hI hS (i := r_13) (x := (σ 10)) (vin rfl (by omega)) rfl dX9_fail_133 ?_
            clear hP hS; intro H locs hP hS
            obtain ⟨f_21, ef_21⟩ : ∃ z : Nat → Int32, z = upd (ψ_13 13) (Int32.toNatClampNeg r_13) (σ 10) := ⟨_, rfl⟩
            rw [← ef_21] at hP
            refine lv_goto (tgt := 146) hx hb dX9_fail_134 (by decide) ?_
            exact J146 (σ 10) z_15 γ_13 (up ψ_13 13 f_21) _ _ _ (show (Int32.toInt (σ 10)) = (Int32.toInt (σ 10)) from (by omega)) hP hS (lv_sub hl [3, 4, 5, 6, 2, 0] rfl)
    · have kc_14 := bI_ne rfl L_5 c_14
      refine lv_aload_n hx hb dX9_fail_81 rfl (lv_at hl 2 rfl) ?_
      refine mg_0_12 (v := (σ 3)) hx hb hts hinX9 hown hK hP (hts (.fieldLink RX9 141 "CensusDeskModel" "inHouse" "Z") (List.mem_of_getElem? (i := 6) rfl)) rfl dX9_fail_82 ?_
      refine lv_if_ne (tgt := 98) hx hb dX9_fail_85 (by decide) (fun c_22 => ?_) (fun c_22 => ?_)
      · have kc_22 := bI_ne rfl L_0 c_22
        refine lv_aload_n hx hb dX9_fail_98 rfl (lv_at hl 2 rfl) ?_
        refine mg_0_42 hx hb hts hinX9 hown hK hP (hts (.fieldLink RX9 68 "CensusDeskModel" "firstIn" "[I") (List.mem_of_getElem? (i := 8) rfl)) dX9_fail_99 ?_
        refine lv_iload hx hb dX9_fail_102 (lv_at hl 0 rfl) ?_
        refine ml_20 (f := (ψ_13 12)) hx hb hK hP (i := r_13) (vin rfl (by omega)) rfl dX9_fail_104 ?_
        refine lv_topi (fun z_23 ez_23 => ?_)
        refine lv_istore (lv' := [(6, .int z_23), (5, .int r_13), (4, .int (σ 10)), (0, .ref (a 0)), (1, .int kind), (2, .int place), (3, .int cause)]) hx hb dX9_fail_105 hl (by decide) rfl ?_
        clear hl; intro ls hl
        refine lv_iload hx hb dX9_fail_107 (lv_at hl 0 rfl) ?_
        refine lv_if_ge (tgt := 146) hx hb dX9_fail_109 (by decide) (fun c_24 => ?_) (fun c_24 => ?_)
        · have kc_24 := bI_le L_0 rfl c_24
          exact J146 (σ 10) z_23 γ_13 ψ_13 _ _ _ (show (Int32.toInt (σ 10)) = (Int32.toInt (σ 10)) from (by omega)) hP hS (lv_sub hl [3, 4, 5, 6, 2, 0] rfl)
        · have kc_24 := bI_nle L_0 rfl c_24
          refine lv_iload hx hb dX9_fail_112 (lv_at hl 1 rfl) ?_
          refine lv_iconst (v := 5) hx hb dX9_fail_114 (by decide) ?_
          refine lv_icmp_eq (tgt := 125) hx hb dX9_fail_115 (by decide) (fun c_25 => ?_) (fun c_25 => ?_)
          · have kc_25 := bI_eq rfl L_5 c_25
            refine lv_aload_n hx hb dX9_fail_125 rfl (lv_at hl 3 rfl) ?_
            refine mg_0_43 hx hb hts hinX9 hown hK hP (hts (.fieldLink RX9 71 "CensusDeskModel" "firstOut" "[I") (List.mem_of_getElem? (i := 7) rfl)) dX9_fail_126 ?_
            refine lv_iload hx hb dX9_fail_129 (lv_at hl 1 rfl) ?_
            refine lv_iload hx hb dX9_fail_131 (lv_at hl 2 rfl) ?_
            refine ms_21 (f := (ψ_13 13)) hx hb hK hP hI hS (i := r_13) (x := (σ 10)) (vin rfl (by omega)) rfl dX9_fail_133 ?_
            clear hP hS; intro H locs hP hS
            obtain ⟨f_26, ef_26⟩ : ∃ z : Nat → Int32, z = upd (ψ_13 13) (Int32.toNatClampNeg r_13) (σ 10) := ⟨_, rfl⟩
            rw [← ef_26] at hP
            refine lv_goto (tgt := 146) hx hb dX9_fail_134 (by decide) ?_
            exact J146 (σ 10) z_23 γ_13 (up ψ_13 13 f_26) _ _ _ (show (Int32.toInt (σ 10)) = (Int32.toInt (σ 10)) from (by omega)) hP hS (lv_sub hl [3, 4, 5, 6, 2, 0] rfl)
          · have kc_25 := bI_ne rfl L_5 c_25
            refine lv_aload_n hx hb dX9_fail_118 rfl (lv_at hl 3 rfl) ?_
            refine mg_0_12 (v := (σ 3)) hx hb hts hinX9 hown hK hP (hts (.fieldLink RX9 141 "CensusDeskModel" "inHouse" "Z") (List.mem_of_getElem? (i := 6) rfl)) rfl dX9_fail_119 ?_
            refine lv_if_ne (tgt := 137) hx hb dX9_fail_122 (by decide) (fun c_27 => ?_) (fun c_27 => ?_)
            · have kc_27 := bI_ne rfl L_0 c_27
              refine lv_aload_n hx hb dX9_fail_137 rfl (lv_at hl 3 rfl) ?_
              refine mg_0_42 hx hb hts hinX9 hown hK hP (hts (.fieldLink RX9 68 "CensusDeskModel" "firstIn" "[I") (List.mem_of_getElem? (i := 8) rfl)) dX9_fail_138 ?_
              refine lv_iload hx hb dX9_fail_141 (lv_at hl 1 rfl) ?_
              refine lv_iload hx hb dX9_fail_143 (lv_at hl 2 rfl) ?_
              refine ms_20 (f := (ψ_13 12)) hx hb hK hP hI hS (i := r_13) (x := (σ 10)) (vin rfl (by omega)) rfl dX9_fail_145 ?_
              clear hP hS; intro H locs hP hS
              obtain ⟨f_28, ef_28⟩ : ∃ z : Nat → Int32, z = upd (ψ_13 12) (Int32.toNatClampNeg r_13) (σ 10) := ⟨_, rfl⟩
              rw [← ef_28] at hP
              exact J146 (σ 10) z_23 γ_13 (up ψ_13 12 f_28) _ _ _ (show (Int32.toInt (σ 10)) = (Int32.toInt (σ 10)) from (by omega)) hP hS (lv_sub hl [3, 4, 5, 6, 2, 0] rfl)
            · have kc_27 := bI_eq rfl L_0 c_27
              refine lv_aload_n hx hb dX9_fail_125 rfl (lv_at hl 3 rfl) ?_
              refine mg_0_43 hx hb hts hinX9 hown hK hP (hts (.fieldLink RX9 71 "CensusDeskModel" "firstOut" "[I") (List.mem_of_getElem? (i := 7) rfl)) dX9_fail_126 ?_
              refine lv_iload hx hb dX9_fail_129 (lv_at hl 1 rfl) ?_
              refine lv_iload hx hb dX9_fail_131 (lv_at hl 2 rfl) ?_
              refine ms_21 (f := (ψ_13 13)) hx hb hK hP hI hS (i := r_13) (x := (σ 10)) (vin rfl (by omega)) rfl dX9_fail_133 ?_
              clear hP hS; intro H locs hP hS
              obtain ⟨f_29, ef_29⟩ : ∃ z : Nat → Int32, z = upd (ψ_13 13) (Int32.toNatClampNeg r_13) (σ 10) := ⟨_, rfl⟩
              rw [← ef_29] at hP
              refine lv_goto (tgt := 146) hx hb dX9_fail_134 (by decide) ?_
              exact J146 (σ 10) z_23 γ_13 (up ψ_13 13 f_29) _ _ _ (show (Int32.toInt (σ 10)) = (Int32.toInt (σ 10)) from (by omega)) hP hS (lv_sub hl [3, 4, 5, 6, 2, 0] rfl)
      · have kc_22 := bI_eq rfl L_0 c_22
        refine lv_aload_n hx hb dX9_fail_88 rfl (lv_at hl 2 rfl) ?_
        refine mg_0_43 hx hb hts hinX9 hown hK hP (hts (.fieldLink RX9 71 "CensusDeskModel" "firstOut" "[I") (List.mem_of_getElem? (i := 7) rfl)) dX9_fail_89 ?_
        refine lv_iload hx hb dX9_fail_92 (lv_at hl 0 rfl) ?_
        refine ml_21 (f := (ψ_13 13)) hx hb hK hP (i := r_13) (vin rfl (by omega)) rfl dX9_fail_94 ?_
        refine lv_topi (fun z_30 ez_30 => ?_)
        refine lv_goto (tgt := 105) hx hb dX9_fail_95 (by decide) ?_
        refine lv_istore (lv' := [(6, .int z_30), (5, .int r_13), (4, .int (σ 10)), (0, .ref (a 0)), (1, .int kind), (2, .int place), (3, .int cause)]) hx hb dX9_fail_105 hl (by decide) rfl ?_
        clear hl; intro ls hl
        refine lv_iload hx hb dX9_fail_107 (lv_at hl 0 rfl) ?_
        refine lv_if_ge (tgt := 146) hx hb dX9_fail_109 (by decide) (fun c_31 => ?_) (fun c_31 => ?_)
        · have kc_31 := bI_le L_0 rfl c_31
          exact J146 (σ 10) z_30 γ_13 ψ_13 _ _ _ (show (Int32.toInt (σ 10)) = (Int32.toInt (σ 10)) from (by omega)) hP hS (lv_sub hl [3, 4, 5, 6, 2, 0] rfl)
        · have kc_31 := bI_nle L_0 rfl c_31
          refine lv_iload hx hb dX9_fail_112 (lv_at hl 1 rfl) ?_
          refine lv_iconst (v := 5) hx hb dX9_fail_114 (by decide) ?_
          refine lv_icmp_eq (tgt := 125) hx hb dX9_fail_115 (by decide) (fun c_32 => ?_) (fun c_32 => ?_)
          · have kc_32 := bI_eq rfl L_5 c_32
            refine lv_aload_n hx hb dX9_fail_125 rfl (lv_at hl 3 rfl) ?_
            refine mg_0_43 hx hb hts hinX9 hown hK hP (hts (.fieldLink RX9 71 "CensusDeskModel" "firstOut" "[I") (List.mem_of_getElem? (i := 7) rfl)) dX9_fail_126 ?_
            refine lv_iload hx hb dX9_fail_129 (lv_at hl 1 rfl) ?_
            refine lv_iload hx hb dX9_fail_131 (lv_at hl 2 rfl) ?_
            refine ms_21 (f := (ψ_13 13)) hx hb hK hP hI hS (i := r_13) (x := (σ 10)) (vin rfl (by omega)) rfl dX9_fail_133 ?_
            clear hP hS; intro H locs hP hS
            obtain ⟨f_33, ef_33⟩ : ∃ z : Nat → Int32, z = upd (ψ_13 13) (Int32.toNatClampNeg r_13) (σ 10) := ⟨_, rfl⟩
            rw [← ef_33] at hP
            refine lv_goto (tgt := 146) hx hb dX9_fail_134 (by decide) ?_
            exact J146 (σ 10) z_30 γ_13 (up ψ_13 13 f_33) _ _ _ (show (Int32.toInt (σ 10)) = (Int32.toInt (σ 10)) from (by omega)) hP hS (lv_sub hl [3, 4, 5, 6, 2, 0] rfl)
          · have kc_32 := bI_ne rfl L_5 c_32
            refine lv_aload_n hx hb dX9_fail_118 rfl (lv_at hl 3 rfl) ?_
            refine mg_0_12 (v := (σ 3)) hx hb hts hinX9 hown hK hP (hts (.fieldLink RX9 141 "CensusDeskModel" "inHouse" "Z") (List.mem_of_getElem? (i := 6) rfl)) rfl dX9_fail_119 ?_
            refine lv_if_ne (tgt := 137) hx hb dX9_fail_122 (by decide) (fun c_34 => ?_) (fun c_34 => ?_)
            · have kc_34 := bI_ne rfl L_0 c_34
              refine lv_aload_n hx hb dX9_fail_137 rfl (lv_at hl 3 rfl) ?_
              refine mg_0_42 hx hb hts hinX9 hown hK hP (hts (.fieldLink RX9 68 "CensusDeskModel" "firstIn" "[I") (List.mem_of_getElem? (i := 8) rfl)) dX9_fail_138 ?_
              refine lv_iload hx hb dX9_fail_141 (lv_at hl 1 rfl) ?_
              refine lv_iload hx hb dX9_fail_143 (lv_at hl 2 rfl) ?_
              refine ms_20 (f := (ψ_13 12)) hx hb hK hP hI hS (i := r_13) (x := (σ 10)) (vin rfl (by omega)) rfl dX9_fail_145 ?_
              clear hP hS; intro H locs hP hS
              obtain ⟨f_35, ef_35⟩ : ∃ z : Nat → Int32, z = upd (ψ_13 12) (Int32.toNatClampNeg r_13) (σ 10) := ⟨_, rfl⟩
              rw [← ef_35] at hP
              exact J146 (σ 10) z_30 γ_13 (up ψ_13 12 f_35) _ _ _ (show (Int32.toInt (σ 10)) = (Int32.toInt (σ 10)) from (by omega)) hP hS (lv_sub hl [3, 4, 5, 6, 2, 0] rfl)
            · have kc_34 := bI_eq rfl L_0 c_34
              refine lv_aload_n hx hb dX9_fail_125 rfl (lv_at hl 3 rfl) ?_
              refine mg_0_43 hx hb hts hinX9 hown hK hP (hts (.fieldLink RX9 71 "CensusDeskModel" "firstOut" "[I") (List.mem_of_getElem? (i := 7) rfl)) dX9_fail_126 ?_
              refine lv_iload hx hb dX9_fail_129 (lv_at hl 1 rfl) ?_
              refine lv_iload hx hb dX9_fail_131 (lv_at hl 2 rfl) ?_
              refine ms_21 (f := (ψ_13 13)) hx hb hK hP hI hS (i := r_13) (x := (σ 10)) (vin rfl (by omega)) rfl dX9_fail_133 ?_
              clear hP hS; intro H locs hP hS
              obtain ⟨f_36, ef_36⟩ : ∃ z : Nat → Int32, z = upd (ψ_13 13) (Int32.toNatClampNeg r_13) (σ 10) := ⟨_, rfl⟩
              rw [← ef_36] at hP
              refine lv_goto (tgt := 146) hx hb dX9_fail_134 (by decide) ?_
              exact J146 (σ 10) z_30 γ_13 (up ψ_13 13 f_36) _ _ _ (show (Int32.toInt (σ 10)) = (Int32.toInt (σ 10)) from (by omega)) hP hS (lv_sub hl [3, 4, 5, 6, 2, 0] rfl)
  have J13 : ∀ (n13 : Nat), ∀ (k : Int32) (γ : Nat → Int32) (ψ : Nat → Nat → Int32) (H : Heap) (locs : List Loc) (ls : Array Slot), (0 ≤ (Int32.toInt k) ∧ (Int32.toInt k) ≤ 29) → (((30 - (Int32.toInt k)) % 30).toNat < n13) → va_P (dC, dI) vwCl (mw a κ (σ, φ, γ, ψ)) H → va_S (mA a) s.heap H locs → lv_has ls 7 [(0, .ref (a 0)), (1, .int kind), (2, .int place), (3, .int cause), (4, .int k)] → W p l e ({ frames := 1, cells := 0, slots := 0, locals := 20 } : Room) s m ([.ref (a 0), .int kind, .int place, .int cause] : List Value).toArray below meth c H locs 0 0 QQ (F0 m 13 ls []) := by
    intro n13
    induction n13 with
    | zero =>
      intro k γ ψ H locs ls v0 hm
      exact absurd hm (Nat.not_lt_zero _)
    | succ n13 ih13 =>
      intro k γ ψ H locs ls v0 hm hP hS hl
      refine lv_iload hx hb dX9_fail_13 (lv_at hl 4 rfl) ?_
      refine lv_if_eq (tgt := 63) hx hb dX9_fail_15 (by decide) (fun c_37 => ?_) (fun c_37 => ?_)
      · have kc_37 := bI_eq rfl L_0 c_37
        exact J63 γ ψ _ _ _  hP hS (lv_sub hl [0, 1, 2, 3] rfl)
      · have kc_37 := bI_ne rfl L_0 c_37
        refine lv_aload_n hx hb dX9_fail_18 rfl (lv_at hl 0 rfl) ?_
        refine mg_0_2 hx hb hts hinX9 hown hK hP (hts (.fieldLink RX9 13 "CensusDeskModel" "ruleWay" "[I") (List.mem_of_getElem? (i := 3) rfl)) dX9_fail_19 ?_
        refine lv_iload hx hb dX9_fail_22 (lv_at hl 4 rfl) ?_
        refine ml_2 (f := (ψ 0)) hx hb hK hP (i := k) (vin rfl (by omega)) rfl dX9_fail_24 ?_
        refine lv_topi (fun z_38 ez_38 => ?_)
        refine lv_if_lt (tgt := 53) hx hb dX9_fail_25 (by decide) (fun c_39 => ?_) (fun c_39 => ?_)
        · have kc_39 := bI_lt rfl L_0 c_39
          refine lv_iload hx hb dX9_fail_53 (lv_at hl 4 rfl) ?_
          refine m_calli (va_runS (As := [.int k]) (rest := []) ⟨hx, hb, hml, hown, hts⟩ (c_X9_groupOf l dC dI a κ σ φ γ ψ k (show 1 ≤ (Int32.toInt k) ∧ (Int32.toInt k) ≤ 29 from (by omega))) (va_cwS 1 hts gX9_fail_X9_groupOf rfl rfl rfl hd_X9_groupOf ⟨Nat.le_of_ble_eq_true rfl, Nat.le_of_ble_eq_true rfl⟩) (mPreS hP hK hI hN hS) rfl rfl hl.1 rfl (lv_room (Nat.le_of_ble_eq_true rfl)) dX9_fail_55 ⟨(by decide +kernel), (by decide +kernel)⟩) hS ?_
          clear hP hS; intro r_40 S_40 F_40 γ_40 ψ_40 H locs hw hP hS
          obtain ⟨rfl, rfl, (qg_40 : ((Int32.toInt k) = 29 ∧ (Int32.toInt r_40) = 0) ∨ ((Int32.toInt k) < (Int32.toInt r_40) ∧ (Int32.toInt r_40) ≤ 29))⟩ := hw
          refine lv_istore (lv' := [(4, .int r_40), (0, .ref (a 0)), (1, .int kind), (2, .int place), (3, .int cause)]) hx hb dX9_fail_58 hl (by decide) rfl ?_
          clear hl; intro ls hl
          refine lv_goto (tgt := 13) hx hb dX9_fail_60 (by decide) ?_
          exact ih13 r_40 γ_40 ψ_40 _ _ _ (show 0 ≤ (Int32.toInt r_40) ∧ (Int32.toInt r_40) ≤ 29 from (by omega)) (by omega) hP hS (lv_sub hl [1, 2, 3, 4, 0] rfl)
        · have kc_39 := bI_nlt rfl L_0 c_39
          refine lv_aload_n hx hb dX9_fail_28 rfl (lv_at hl 0 rfl) ?_
          refine lv_aload_n hx hb dX9_fail_29 rfl (lv_at hl 0 rfl) ?_
          refine mg_0_2 hx hb hts hinX9 hown hK hP (hts (.fieldLink RX9 13 "CensusDeskModel" "ruleWay" "[I") (List.mem_of_getElem? (i := 3) rfl)) dX9_fail_30 ?_
          refine lv_iload hx hb dX9_fail_33 (lv_at hl 4 rfl) ?_
          refine ml_2 (f := (ψ 0)) hx hb hK hP (i := k) (vin rfl (by omega)) rfl dX9_fail_35 ?_
          refine lv_topi (fun z_41 ez_41 => ?_)
          refine mp_0_44 (v := z_41) hx hb hts hinX9 hown hK hP hI hS (hts (.fieldLink RX9 125 "CensusDeskModel" "way" "I") (List.mem_of_getElem? (i := 1) rfl)) dX9_fail_36 ?_
          clear hP hS; intro H locs hP hS
          refine lv_aload_n hx hb dX9_fail_39 rfl (lv_at hl 0 rfl) ?_
          refine lv_aload_n hx hb dX9_fail_40 rfl (lv_at hl 0 rfl) ?_
          refine mg_0_3 hx hb hts hinX9 hown hK hP (hts (.fieldLink RX9 17 "CensusDeskModel" "ruleNumber" "[I") (List.mem_of_getElem? (i := 4) rfl)) dX9_fail_41 ?_
          refine lv_iload hx hb dX9_fail_44 (lv_at hl 4 rfl) ?_
          refine ml_3 (f := (ψ 1)) hx hb hK hP (i := k) (vin rfl (by omega)) rfl dX9_fail_46 ?_
          refine lv_topi (fun z_42 ez_42 => ?_)
          refine mp_0_45 (v := z_42) hx hb hts hinX9 hown hK hP hI hS (hts (.fieldLink RX9 128 "CensusDeskModel" "replaced" "I") (List.mem_of_getElem? (i := 2) rfl)) dX9_fail_47 ?_
          clear hP hS; intro H locs hP hS
          refine lv_goto (tgt := 63) hx hb dX9_fail_50 (by decide) ?_
          exact J63 (up (up γ 11 z_41) 12 z_42) ψ _ _ _  hP hS (lv_sub hl [0, 1, 2, 3] rfl)
  refine lv_aload_n hx hb dX9_fail_0 rfl (lv_at hl 0 rfl) ?_
  refine lv_iconst (v := 0) hx hb dX9_fail_1 (by decide) ?_
  refine mp_0_44 (v := 0) hx hb hts hinX9 hown hK hP hI hS (hts (.fieldLink RX9 125 "CensusDeskModel" "way" "I") (List.mem_of_getElem? (i := 1) rfl)) dX9_fail_2 ?_
  clear hP hS; intro H locs hP hS
  refine lv_aload_n hx hb dX9_fail_5 rfl (lv_at hl 0 rfl) ?_
  refine lv_iconst (v := (-1)) hx hb dX9_fail_6 (by decide) ?_
  refine mp_0_45 (v := (-1)) hx hb hts hinX9 hown hK hP hI hS (hts (.fieldLink RX9 128 "CensusDeskModel" "replaced" "I") (List.mem_of_getElem? (i := 2) rfl)) dX9_fail_7 ?_
  clear hP hS; intro H locs hP hS
  refine lv_iload_n hx hb dX9_fail_10 rfl (lv_at hl 1 rfl) ?_
  refine lv_istore (lv' := [(4, .int kind), (0, .ref (a 0)), (1, .int kind), (2, .int place), (3, .int cause)]) hx hb dX9_fail_11 hl (by decide) rfl ?_
  clear hl; intro ls hl
  exact J13 (_ + 1) kind (up (up γ 11 0) 12 (-1)) ψ _ _ _ (show 0 ≤ (Int32.toInt kind) ∧ (Int32.toInt kind) ≤ 29 from (by omega)) (Nat.lt_succ_self _) hP hS (lv_sub hl [1, 2, 3, 4, 0] rfl)
set_option maxHeartbeats 4000000 in
set_option maxRecDepth 100000 in
theorem c_X9_failSheet (l : Launch) (dC : Nat → ClassId) (dI : Nat → Nat → Nat) (a : Nat → Nat) (κ : Nat → ClassId) (σ : Nat → Int32) (φ : Nat → Nat → Int32) (γ : Nat → Int32) (ψ : Nat → Nat → Int32) (kind : Int32) (place : Int32) (cause : Int32) (hk : 1 ≤ (Int32.toInt kind) ∧ (Int32.toInt kind) ≤ 21) (hc : (Int32.toInt cause) < (Int32.toInt (σ 10))) (hf : 0 ≤ (Int32.toInt (σ 10)) ∧ (Int32.toInt (σ 10)) ≤ 2000000000) (hfc : ∀ i : Nat, i < 300 → (i : Int) < (Int32.toInt (σ 10)) → Int32.toInt ((φ 6) i) < i) : Met l yX9_failSheet wsX9_failSheet ({ frames := 2, cells := 0, slots := 0, locals := 46 } : Room) (va_Pc [.ref (a 0), .int kind, .int place, .int cause] (mPre dC dI a κ (σ, φ, γ, ψ))) (va_Qv (QV (fun S F => ∃ (s10 : Int32) (f6 : Nat → Int32), (up σ 10 s10) = S ∧ (up φ 6 f6) = F ∧ ((Int32.toInt (σ 10)) ≤ (Int32.toInt s10) ∧ (Int32.toInt s10) ≤ (Int32.toInt (σ 10)) + 1) ∧ (∀ i : Nat, i < 300 → (i : Int) < (Int32.toInt s10) → Int32.toInt (f6 i) < i))) (mB dC dI a κ) (mA a)) 0 0 (mA a) := by
  refine Met.ofW (cc := cX9_failSheet) (maxL := 5) (ret := none) (by decide) rfl ?_
  intro p e s m args below meth c s₁ B hml hv
  obtain ⟨rfl, hP, hK, hI, hN⟩ := hv
  have hx := B.exec
  have hb := B.bytes
  have hr := B.returns
  have hts := atoms_spec (ws := wsX9_failSheet) B.pre
  have hown : s.vm.findClass RX9 = some m.cls := findClass_of_methodNamed B.named
  have hlocks := B.notSynchronized
  have hS : va_S (mA a) s.heap s.heap [] := va_S.rf
  have hinX9 : ∀ w ∈ wsX90, w ∈ wsX9_failSheet := fun _ h => List.mem_cons_of_mem _ (List.mem_append_right _ h)
  have hl := lv_entry ([.ref (a 0), .int kind, .int place, .int cause]) (n := 5) (Nat.le_of_ble_eq_true rfl)
  rw [lg_entry_eq]
  generalize (lg_sl ([.ref (a 0), .int kind, .int place, .int cause]) ++ List.replicate (5 - (lg_sl ([.ref (a 0), .int kind, .int place, .int cause])).length) Slot.unset).toArray = ls at hl ⊢
  have hl : lv_has ls 5 [(0, .ref (a 0)), (1, .int kind), (2, .int place), (3, .int cause)] := hl
  refine lv_aload_n hx hb dX9_failSheet_0 rfl (lv_at hl 0 rfl) ?_
  refine lv_iload_n hx hb dX9_failSheet_1 rfl (lv_at hl 1 rfl) ?_
  refine lv_iload_n hx hb dX9_failSheet_2 rfl (lv_at hl 2 rfl) ?_
  refine lv_iload_n hx hb dX9_failSheet_3 rfl (lv_at hl 3 rfl) ?_
  refine m_calli (va_runV (As := [.int kind, .int place, .int cause]) (rest := []) ⟨hx, hb, hml, hown, hts⟩ (c_X9_fail l dC dI a κ σ φ γ ψ kind place cause (show 1 ≤ (Int32.toInt kind) ∧ (Int32.toInt kind) ≤ 21 from (by omega)) (show (Int32.toInt cause) < (Int32.toInt (σ 10)) from (by omega)) (show 0 ≤ (Int32.toInt (σ 10)) ∧ (Int32.toInt (σ 10)) ≤ 2000000000 from (by omega)) (show ∀ i : Nat, i < 300 → (i : Int) < (Int32.toInt (σ 10)) → Int32.toInt ((φ 6) i) < i from (by with_reducible assumption))) (cwV 3 hts gX9_failSheet_X9_fail rfl rfl rfl ⟨rfl, hd_X9_fail⟩ ⟨Nat.le_of_ble_eq_true rfl, Nat.le_of_ble_eq_true rfl⟩) (mPreV hP hK hI hN hS (va_recv hK hP (ci := 9) (q0 := 0) rfl rfl)) rfl rfl hl.1 rfl (lv_room (Nat.le_of_ble_eq_true rfl)) dX9_failSheet_4 ⟨(by decide +kernel), (by decide +kernel)⟩) hS ?_
  clear hP hS; intro r_1 S_1 F_1 γ_1 ψ_1 H locs hw hP hS
  obtain ⟨s10_1, f6_1, rfl, rfl, (qr_1 : (Int32.toInt r_1) = (Int32.toInt (σ 10)) ∧ (Int32.toInt s10_1) = (Int32.toInt (σ 10)) + 1), (qc_1 : ∀ i : Nat, i < 300 → (i : Int) < (Int32.toInt s10_1) → Int32.toInt (f6_1 i) < i)⟩ := hw
  refine lv_istore (lv' := [(4, .int r_1), (0, .ref (a 0)), (1, .int kind), (2, .int place), (3, .int cause)]) hx hb dX9_failSheet_7 hl (by decide) rfl ?_
  clear hl; intro ls hl
  refine lv_aload_n hx hb dX9_failSheet_9 rfl (lv_at hl 1 rfl) ?_
  refine lv_aload_n hx hb dX9_failSheet_10 rfl (lv_at hl 1 rfl) ?_
  refine mg_0_6 (v := (γ_1 0)) hx hb hts hinX9 hown hK hP (hts (.fieldLink RX9 151 "CensusDeskModel" "isRejected" "Z") (List.mem_of_getElem? (i := 1) rfl)) rfl dX9_failSheet_11 ?_
  refine lv_if_ne (tgt := 35) hx hb dX9_failSheet_14 (by decide) (fun c_2 => ?_) (fun c_2 => ?_)
  · have kc_2 := bI_ne rfl L_0 c_2
    refine lv_iconst (v := 1) hx hb dX9_failSheet_35 (by decide) ?_
    refine lv_goto (tgt := 40) hx hb dX9_failSheet_36 (by decide) ?_
    refine mp_0_6 (v := 1) hx hb hts hinX9 hown hK hP hI hS (hts (.fieldLink RX9 151 "CensusDeskModel" "isRejected" "Z") (List.mem_of_getElem? (i := 1) rfl)) (by first | rfl | decide) (by first | rfl | decide) dX9_failSheet_40 ?_
    clear hP hS; intro H locs hP hS
    exact W.vret hx hb hr (fun t ht hW => ⟨⟨((up σ 10 s10_1), (up φ 6 f6_1), (up γ_1 0 1), ψ_1), rfl, ⟨s10_1, f6_1, rfl, rfl, (show (Int32.toInt (σ 10)) ≤ (Int32.toInt s10_1) ∧ (Int32.toInt s10_1) ≤ (Int32.toInt (σ 10)) + 1 from (by omega)), (show ∀ i : Nat, i < 300 → (i : Int) < (Int32.toInt s10_1) → Int32.toInt (f6_1 i) < i from (by with_reducible assumption))⟩, (by show va_P _ _ _ _; rw [ht]; exact hP)⟩, hS.F ht⟩) hS.2.2 dX9_failSheet_43
  · have kc_2 := bI_eq rfl L_0 c_2
    refine lv_aload_n hx hb dX9_failSheet_17 rfl (lv_at hl 1 rfl) ?_
    refine mg_0_44 (v := (γ_1 11)) hx hb hts hinX9 hown hK hP (hts (.fieldLink RX9 125 "CensusDeskModel" "way" "I") (List.mem_of_getElem? (i := 2) rfl)) rfl dX9_failSheet_18 ?_
    refine m_calli (va_runS (As := [.int (γ_1 11)]) (rest := [.ref (a 0)]) ⟨hx, hb, hml, hown, hts⟩ (c_X9_goesOn l dC dI a κ (up σ 10 s10_1) (up φ 6 f6_1) γ_1 ψ_1 (γ_1 11) ) (va_cwS 1 hts gX9_failSheet_X9_goesOn rfl rfl rfl hd_X9_goesOn ⟨Nat.le_of_ble_eq_true rfl, Nat.le_of_ble_eq_true rfl⟩) (mPreS hP hK hI hN hS) rfl rfl hl.1 rfl (lv_room (Nat.le_of_ble_eq_true rfl)) dX9_failSheet_21 ⟨(by decide +kernel), (by decide +kernel)⟩) hS ?_
    clear hP hS; intro r_3 S_3 F_3 γ_3 ψ_3 H locs hw hP hS
    obtain ⟨rfl, rfl, -⟩ := hw
    refine lv_if_ne (tgt := 39) hx hb dX9_failSheet_24 (by decide) (fun c_4 => ?_) (fun c_4 => ?_)
    · have kc_4 := bI_ne rfl L_0 c_4
      refine lv_iconst (v := 0) hx hb dX9_failSheet_39 (by decide) ?_
      refine mp_0_6 (v := 0) hx hb hts hinX9 hown hK hP hI hS (hts (.fieldLink RX9 151 "CensusDeskModel" "isRejected" "Z") (List.mem_of_getElem? (i := 1) rfl)) (by first | rfl | decide) (by first | rfl | decide) dX9_failSheet_40 ?_
      clear hP hS; intro H locs hP hS
      exact W.vret hx hb hr (fun t ht hW => ⟨⟨((up σ 10 s10_1), (up φ 6 f6_1), (up γ_3 0 0), ψ_3), rfl, ⟨s10_1, f6_1, rfl, rfl, (show (Int32.toInt (σ 10)) ≤ (Int32.toInt s10_1) ∧ (Int32.toInt s10_1) ≤ (Int32.toInt (σ 10)) + 1 from (by omega)), (show ∀ i : Nat, i < 300 → (i : Int) < (Int32.toInt s10_1) → Int32.toInt (f6_1 i) < i from (by with_reducible assumption))⟩, (by show va_P _ _ _ _; rw [ht]; exact hP)⟩, hS.F ht⟩) hS.2.2 dX9_failSheet_43
    · have kc_4 := bI_eq rfl L_0 c_4
      refine lv_aload_n hx hb dX9_failSheet_27 rfl (lv_at hl 1 rfl) ?_
      refine mg_0_44 (v := (γ_3 11)) hx hb hts hinX9 hown hK hP (hts (.fieldLink RX9 125 "CensusDeskModel" "way" "I") (List.mem_of_getElem? (i := 2) rfl)) rfl dX9_failSheet_28 ?_
      refine lv_iconst (v := 4) hx hb dX9_failSheet_31 (by decide) ?_
      refine lv_icmp_eq (tgt := 39) hx hb dX9_failSheet_32 (by decide) (fun c_5 => ?_) (fun c_5 => ?_)
      · have kc_5 := bI_eq rfl L_4 c_5
        refine lv_iconst (v := 0) hx hb dX9_failSheet_39 (by decide) ?_
        refine mp_0_6 (v := 0) hx hb hts hinX9 hown hK hP hI hS (hts (.fieldLink RX9 151 "CensusDeskModel" "isRejected" "Z") (List.mem_of_getElem? (i := 1) rfl)) (by first | rfl | decide) (by first | rfl | decide) dX9_failSheet_40 ?_
        clear hP hS; intro H locs hP hS
        exact W.vret hx hb hr (fun t ht hW => ⟨⟨((up σ 10 s10_1), (up φ 6 f6_1), (up γ_3 0 0), ψ_3), rfl, ⟨s10_1, f6_1, rfl, rfl, (show (Int32.toInt (σ 10)) ≤ (Int32.toInt s10_1) ∧ (Int32.toInt s10_1) ≤ (Int32.toInt (σ 10)) + 1 from (by omega)), (show ∀ i : Nat, i < 300 → (i : Int) < (Int32.toInt s10_1) → Int32.toInt (f6_1 i) < i from (by with_reducible assumption))⟩, (by show va_P _ _ _ _; rw [ht]; exact hP)⟩, hS.F ht⟩) hS.2.2 dX9_failSheet_43
      · have kc_5 := bI_ne rfl L_4 c_5
        refine lv_iconst (v := 1) hx hb dX9_failSheet_35 (by decide) ?_
        refine lv_goto (tgt := 40) hx hb dX9_failSheet_36 (by decide) ?_
        refine mp_0_6 (v := 1) hx hb hts hinX9 hown hK hP hI hS (hts (.fieldLink RX9 151 "CensusDeskModel" "isRejected" "Z") (List.mem_of_getElem? (i := 1) rfl)) (by first | rfl | decide) (by first | rfl | decide) dX9_failSheet_40 ?_
        clear hP hS; intro H locs hP hS
        exact W.vret hx hb hr (fun t ht hW => ⟨⟨((up σ 10 s10_1), (up φ 6 f6_1), (up γ_3 0 1), ψ_3), rfl, ⟨s10_1, f6_1, rfl, rfl, (show (Int32.toInt (σ 10)) ≤ (Int32.toInt s10_1) ∧ (Int32.toInt s10_1) ≤ (Int32.toInt (σ 10)) + 1 from (by omega)), (show ∀ i : Nat, i < 300 → (i : Int) < (Int32.toInt s10_1) → Int32.toInt (f6_1 i) < i from (by with_reducible assumption))⟩, (by show va_P _ _ _ _; rw [ht]; exact hP)⟩, hS.F ht⟩) hS.2.2 dX9_failSheet_43
set_option maxHeartbeats 4000000 in
set_option maxRecDepth 100000 in
theorem c_X9_failHouse (l : Launch) (dC : Nat → ClassId) (dI : Nat → Nat → Nat) (a : Nat → Nat) (κ : Nat → ClassId) (σ : Nat → Int32) (φ : Nat → Nat → Int32) (γ : Nat → Int32) (ψ : Nat → Nat → Int32) (kind : Int32) (place : Int32) (cause : Int32) (hk : 1 ≤ (Int32.toInt kind) ∧ (Int32.toInt kind) ≤ 21) (hc : (Int32.toInt cause) < (Int32.toInt (σ 10))) (hf : 0 ≤ (Int32.toInt (σ 10)) ∧ (Int32.toInt (σ 10)) ≤ 1999999990) (hfc : ∀ i : Nat, i < 300 → (i : Int) < (Int32.toInt (σ 10)) → Int32.toInt ((φ 6) i) < i) : Met l yX9_failHouse wsX9_failHouse ({ frames := 3, cells := 0, slots := 0, locals := 70 } : Room) (va_Pc [.ref (a 0), .int kind, .int place, .int cause] (mPre dC dI a κ (σ, φ, γ, ψ))) (va_Qv (QV (fun S F => ∃ (s10 : Int32) (f6 : Nat → Int32), (up σ 10 s10) = S ∧ (up φ 6 f6) = F ∧ ((Int32.toInt (σ 10)) ≤ (Int32.toInt s10) ∧ (Int32.toInt s10) ≤ (Int32.toInt (σ 10)) + 2) ∧ (∀ i : Nat, i < 300 → (i : Int) < (Int32.toInt s10) → Int32.toInt (f6 i) < i))) (mB dC dI a κ) (mA a)) 0 0 (mA a) := by
  refine Met.ofW (cc := cX9_failHouse) (maxL := 6) (ret := none) (by decide) rfl ?_
  intro p e s m args below meth c s₁ B hml hv
  obtain ⟨rfl, hP, hK, hI, hN⟩ := hv
  have hx := B.exec
  have hb := B.bytes
  have hr := B.returns
  have hts := atoms_spec (ws := wsX9_failHouse) B.pre
  have hown : s.vm.findClass RX9 = some m.cls := findClass_of_methodNamed B.named
  have hlocks := B.notSynchronized
  have hS : va_S (mA a) s.heap s.heap [] := va_S.rf
  have hinX9 : ∀ w ∈ wsX90, w ∈ wsX9_failHouse := fun _ h => List.mem_cons_of_mem _ (List.mem_append_right _ h)
  have hl := lv_entry ([.ref (a 0), .int kind, .int place, .int cause]) (n := 6) (Nat.le_of_ble_eq_true rfl)
  rw [lg_entry_eq]
  generalize (lg_sl ([.ref (a 0), .int kind, .int place, .int cause]) ++ List.replicate (6 - (lg_sl ([.ref (a 0), .int kind, .int place, .int cause])).length) Slot.unset).toArray = ls at hl ⊢
  have hl : lv_has ls 6 [(0, .ref (a 0)), (1, .int kind), (2, .int place), (3, .int cause)] := hl
  refine lv_aload_n hx hb dX9_failHouse_0 rfl (lv_at hl 0 rfl) ?_
  refine lv_iload_n hx hb dX9_failHouse_1 rfl (lv_at hl 1 rfl) ?_
  refine lv_iload_n hx hb dX9_failHouse_2 rfl (lv_at hl 2 rfl) ?_
  refine lv_iload_n hx hb dX9_failHouse_3 rfl (lv_at hl 3 rfl) ?_
  refine m_calli (va_runV (As := [.int kind, .int place, .int cause]) (rest := []) ⟨hx, hb, hml, hown, hts⟩ (c_X9_fail l dC dI a κ σ φ γ ψ kind place cause (show 1 ≤ (Int32.toInt kind) ∧ (Int32.toInt kind) ≤ 21 from (by omega)) (show (Int32.toInt cause) < (Int32.toInt (σ 10)) from (by omega)) (show 0 ≤ (Int32.toInt (σ 10)) ∧ (Int32.toInt (σ 10)) ≤ 2000000000 from (by omega)) (show ∀ i : Nat, i < 300 → (i : Int) < (Int32.toInt (σ 10)) → Int32.toInt ((φ 6) i) < i from (by with_reducible assumption))) (cwV 3 hts gX9_failHouse_X9_fail rfl rfl rfl ⟨rfl, hd_X9_fail⟩ ⟨Nat.le_of_ble_eq_true rfl, Nat.le_of_ble_eq_true rfl⟩) (mPreV hP hK hI hN hS (va_recv hK hP (ci := 9) (q0 := 0) rfl rfl)) rfl rfl hl.1 rfl (lv_room (Nat.le_of_ble_eq_true rfl)) dX9_failHouse_4 ⟨(by decide +kernel), (by decide +kernel)⟩) hS ?_
  clear hP hS; intro r_1 S_1 F_1 γ_1 ψ_1 H locs hw hP hS
  obtain ⟨s10_1, f6_1, rfl, rfl, (qr_1 : (Int32.toInt r_1) = (Int32.toInt (σ 10)) ∧ (Int32.toInt s10_1) = (Int32.toInt (σ 10)) + 1), (qc_1 : ∀ i : Nat, i < 300 → (i : Int) < (Int32.toInt s10_1) → Int32.toInt (f6_1 i) < i)⟩ := hw
  refine lv_istore (lv' := [(4, .int r_1), (0, .ref (a 0)), (1, .int kind), (2, .int place), (3, .int cause)]) hx hb dX9_failHouse_7 hl (by decide) rfl ?_
  clear hl; intro ls hl
  refine lv_aload_n hx hb dX9_failHouse_9 rfl (lv_at hl 1 rfl) ?_
  refine mg_0_44 (v := (γ_1 11)) hx hb hts hinX9 hown hK hP (hts (.fieldLink RX9 125 "CensusDeskModel" "way" "I") (List.mem_of_getElem? (i := 1) rfl)) rfl dX9_failHouse_10 ?_
  refine m_calli (va_runS (As := [.int (γ_1 11)]) (rest := []) ⟨hx, hb, hml, hown, hts⟩ (c_X9_goesOn l dC dI a κ (up σ 10 s10_1) (up φ 6 f6_1) γ_1 ψ_1 (γ_1 11) ) (va_cwS 1 hts gX9_failHouse_X9_goesOn rfl rfl rfl hd_X9_goesOn ⟨Nat.le_of_ble_eq_true rfl, Nat.le_of_ble_eq_true rfl⟩) (mPreS hP hK hI hN hS) rfl rfl hl.1 rfl (lv_room (Nat.le_of_ble_eq_true rfl)) dX9_failHouse_13 ⟨(by decide +kernel), (by decide +kernel)⟩) hS ?_
  clear hP hS; intro r_2 S_2 F_2 γ_2 ψ_2 H locs hw hP hS
  obtain ⟨rfl, rfl, -⟩ := hw
  refine lv_if_eq (tgt := 20) hx hb dX9_failHouse_16 (by decide) (fun c_3 => ?_) (fun c_3 => ?_)
  · have kc_3 := bI_eq rfl L_0 c_3
    refine lv_aload_n hx hb dX9_failHouse_20 rfl (lv_at hl 1 rfl) ?_
    refine mg_0_44 (v := (γ_2 11)) hx hb hts hinX9 hown hK hP (hts (.fieldLink RX9 125 "CensusDeskModel" "way" "I") (List.mem_of_getElem? (i := 1) rfl)) rfl dX9_failHouse_21 ?_
    refine lv_if_ne (tgt := 31) hx hb dX9_failHouse_24 (by decide) (fun c_4 => ?_) (fun c_4 => ?_)
    · have kc_4 := bI_ne rfl L_0 c_4
      refine lv_iconst (v := 0) hx hb dX9_failHouse_31 (by decide) ?_
      refine lv_istore (lv' := [(5, .int 0), (4, .int r_1), (0, .ref (a 0)), (1, .int kind), (2, .int place), (3, .int cause)]) hx hb dX9_failHouse_32 hl (by decide) rfl ?_
      clear hl; intro ls hl
      refine lv_aload_n hx hb dX9_failHouse_34 rfl (lv_at hl 2 rfl) ?_
      refine lv_iconst (v := 1) hx hb dX9_failHouse_35 (by decide) ?_
      refine mp_0_13 (v := 1) hx hb hts hinX9 hown hK hP hI hS (hts (.fieldLink RX9 158 "CensusDeskModel" "houseLost" "Z") (List.mem_of_getElem? (i := 2) rfl)) (by first | rfl | decide) (by first | rfl | decide) dX9_failHouse_36 ?_
      clear hP hS; intro H locs hP hS
      refine lv_aload_n hx hb dX9_failHouse_39 rfl (lv_at hl 2 rfl) ?_
      refine lv_dup hx hb dX9_failHouse_40 rfl ?_
      refine mg_0_10 (v := (γ_2 3)) hx hb hts hinX9 hown hK hP (hts (.fieldLink RX9 161 "CensusDeskModel" "lost" "I") (List.mem_of_getElem? (i := 3) rfl)) rfl dX9_failHouse_41 ?_
      refine lv_iconst (v := 1) hx hb dX9_failHouse_44 (by decide) ?_
      refine lv_iadd hx hb dX9_failHouse_45 ?_
      refine lv_topi (fun z_5 ez_5 => ?_)
      refine mp_0_10 (v := z_5) hx hb hts hinX9 hown hK hP hI hS (hts (.fieldLink RX9 161 "CensusDeskModel" "lost" "I") (List.mem_of_getElem? (i := 3) rfl)) dX9_failHouse_46 ?_
      clear hP hS; intro H locs hP hS
      refine lv_iload hx hb dX9_failHouse_49 (lv_at hl 0 rfl) ?_
      refine lv_if_eq (tgt := 66) hx hb dX9_failHouse_51 (by decide) (fun c_6 => ?_) (fun c_6 => absurd c_6 (by decide))
      exact W.vret hx hb hr (fun t ht hW => ⟨⟨((up σ 10 s10_1), (up φ 6 f6_1), (up (up γ_2 5 1) 3 z_5), ψ_2), rfl, ⟨s10_1, f6_1, rfl, rfl, (show (Int32.toInt (σ 10)) ≤ (Int32.toInt s10_1) ∧ (Int32.toInt s10_1) ≤ (Int32.toInt (σ 10)) + 2 from (by omega)), (show ∀ i : Nat, i < 300 → (i : Int) < (Int32.toInt s10_1) → Int32.toInt (f6_1 i) < i from (by with_reducible assumption))⟩, (by show va_P _ _ _ _; rw [ht]; exact hP)⟩, hS.F ht⟩) hS.2.2 dX9_failHouse_66
    · have kc_4 := bI_eq rfl L_0 c_4
      refine lv_iconst (v := 1) hx hb dX9_failHouse_27 (by decide) ?_
      refine lv_goto (tgt := 32) hx hb dX9_failHouse_28 (by decide) ?_
      refine lv_istore (lv' := [(5, .int 1), (4, .int r_1), (0, .ref (a 0)), (1, .int kind), (2, .int place), (3, .int cause)]) hx hb dX9_failHouse_32 hl (by decide) rfl ?_
      clear hl; intro ls hl
      refine lv_aload_n hx hb dX9_failHouse_34 rfl (lv_at hl 2 rfl) ?_
      refine lv_iconst (v := 1) hx hb dX9_failHouse_35 (by decide) ?_
      refine mp_0_13 (v := 1) hx hb hts hinX9 hown hK hP hI hS (hts (.fieldLink RX9 158 "CensusDeskModel" "houseLost" "Z") (List.mem_of_getElem? (i := 2) rfl)) (by first | rfl | decide) (by first | rfl | decide) dX9_failHouse_36 ?_
      clear hP hS; intro H locs hP hS
      refine lv_aload_n hx hb dX9_failHouse_39 rfl (lv_at hl 2 rfl) ?_
      refine lv_dup hx hb dX9_failHouse_40 rfl ?_
      refine mg_0_10 (v := (γ_2 3)) hx hb hts hinX9 hown hK hP (hts (.fieldLink RX9 161 "CensusDeskModel" "lost" "I") (List.mem_of_getElem? (i := 3) rfl)) rfl dX9_failHouse_41 ?_
      refine lv_iconst (v := 1) hx hb dX9_failHouse_44 (by decide) ?_
      refine lv_iadd hx hb dX9_failHouse_45 ?_
      refine lv_topi (fun z_7 ez_7 => ?_)
      refine mp_0_10 (v := z_7) hx hb hts hinX9 hown hK hP hI hS (hts (.fieldLink RX9 161 "CensusDeskModel" "lost" "I") (List.mem_of_getElem? (i := 3) rfl)) dX9_failHouse_46 ?_
      clear hP hS; intro H locs hP hS
      refine lv_iload hx hb dX9_failHouse_49 (lv_at hl 0 rfl) ?_
      refine lv_if_eq (tgt := 66) hx hb dX9_failHouse_51 (by decide) (fun c_8 => absurd c_8 (by decide)) (fun c_8 => ?_)
      refine lv_aload_n hx hb dX9_failHouse_54 rfl (lv_at hl 2 rfl) ?_
      refine lv_bipush (v := 21) hx hb dX9_failHouse_55 (by decide) ?_
      refine lv_aload_n hx hb dX9_failHouse_57 rfl (lv_at hl 2 rfl) ?_
      refine mg_0_14 (v := (γ_2 6)) hx hb hts hinX9 hown hK hP (hts (.fieldLink RX9 164 "CensusDeskModel" "houseAt" "I") (List.mem_of_getElem? (i := 4) rfl)) rfl dX9_failHouse_58 ?_
      refine lv_iload hx hb dX9_failHouse_61 (lv_at hl 1 rfl) ?_
      refine m_callv (va_runV (As := [.int 21, .int (γ_2 6), .int r_1]) (rest := []) ⟨hx, hb, hml, hown, hts⟩ (c_X9_failSheet l dC dI a κ (up σ 10 s10_1) (up φ 6 f6_1) (up (up γ_2 5 1) 3 z_7) ψ_2 21 (γ_2 6) r_1 (show 1 ≤ (Int32.toInt 21) ∧ (Int32.toInt 21) ≤ 21 from (by have := L_21; omega)) (show (Int32.toInt r_1) < (Int32.toInt s10_1) from (by omega)) (show 0 ≤ (Int32.toInt s10_1) ∧ (Int32.toInt s10_1) ≤ 2000000000 from (by omega)) (show ∀ i : Nat, i < 300 → (i : Int) < (Int32.toInt s10_1) → Int32.toInt (f6_1 i) < i from (by with_reducible assumption))) (cwV 3 hts gX9_failHouse_X9_failSheet rfl rfl rfl ⟨rfl, hd_X9_failSheet⟩ ⟨Nat.le_of_ble_eq_true rfl, Nat.le_of_ble_eq_true rfl⟩) (mPreV hP hK hI hN hS (va_recv hK hP (ci := 9) (q0 := 0) rfl rfl)) rfl rfl hl.1 rfl (lv_room (Nat.le_of_ble_eq_true rfl)) dX9_failHouse_63 ⟨(by decide +kernel), (by decide +kernel)⟩) hS ?_
      clear hP hS; intro S_9 F_9 γ_9 ψ_9 H locs hw hP hS
      obtain ⟨s10_9, f6_9, rfl, rfl, (qf_9 : (Int32.toInt s10_1) ≤ (Int32.toInt s10_9) ∧ (Int32.toInt s10_9) ≤ (Int32.toInt s10_1) + 1), (qc_9 : ∀ i : Nat, i < 300 → (i : Int) < (Int32.toInt s10_9) → Int32.toInt (f6_9 i) < i)⟩ := hw
      have hL21_9 := L_21
      exact W.vret hx hb hr (fun t ht hW => ⟨⟨((up σ 10 s10_9), (up φ 6 f6_9), γ_9, ψ_9), rfl, ⟨s10_9, f6_9, rfl, rfl, (show (Int32.toInt (σ 10)) ≤ (Int32.toInt s10_9) ∧ (Int32.toInt s10_9) ≤ (Int32.toInt (σ 10)) + 2 from (by omega)), (show ∀ i : Nat, i < 300 → (i : Int) < (Int32.toInt s10_9) → Int32.toInt (f6_9 i) < i from (by with_reducible assumption))⟩, (by show va_P _ _ _ _; rw [ht]; exact hP)⟩, hS.F ht⟩) hS.2.2 dX9_failHouse_66
  · have kc_3 := bI_ne rfl L_0 c_3
    exact W.vret hx hb hr (fun t ht hW => ⟨⟨((up σ 10 s10_1), (up φ 6 f6_1), γ_2, ψ_2), rfl, ⟨s10_1, f6_1, rfl, rfl, (show (Int32.toInt (σ 10)) ≤ (Int32.toInt s10_1) ∧ (Int32.toInt s10_1) ≤ (Int32.toInt (σ 10)) + 2 from (by omega)), (show ∀ i : Nat, i < 300 → (i : Int) < (Int32.toInt s10_1) → Int32.toInt (f6_1 i) < i from (by with_reducible assumption))⟩, (by show va_P _ _ _ _; rw [ht]; exact hP)⟩, hS.F ht⟩) hS.2.2 dX9_failHouse_19
set_option maxHeartbeats 4000000 in
set_option maxRecDepth 100000 in
theorem c_X9_throwLine (l : Launch) (dC : Nat → ClassId) (dI : Nat → Nat → Nat) (a : Nat → Nat) (κ : Nat → ClassId) (σ : Nat → Int32) (φ : Nat → Nat → Int32) (γ : Nat → Int32) (ψ : Nat → Nat → Int32) (cause : Int32) (hc : (Int32.toInt cause) < (Int32.toInt (σ 10))) (hf : 0 ≤ (Int32.toInt (σ 10)) ∧ (Int32.toInt (σ 10)) ≤ 1999999980) (hfc : ∀ i : Nat, i < 300 → (i : Int) < (Int32.toInt (σ 10)) → Int32.toInt ((φ 6) i) < i) : Met l yX9_throwLine wsX9_throwLine ({ frames := 4, cells := 0, slots := 0, locals := 95 } : Room) (va_Pc [.ref (a 0), .int cause] (mPre dC dI a κ (σ, φ, γ, ψ))) (va_Qv (QV (fun S F => ∃ (s10 : Int32) (f6 : Nat → Int32), (up σ 10 s10) = S ∧ (up φ 6 f6) = F ∧ ((Int32.toInt (σ 10)) ≤ (Int32.toInt s10) ∧ (Int32.toInt s10) ≤ (Int32.toInt (σ 10)) + 2) ∧ (∀ i : Nat, i < 300 → (i : Int) < (Int32.toInt s10) → Int32.toInt (f6 i) < i))) (mB dC dI a κ) (mA a)) 0 0 (mA a) := by
  refine Met.ofW (cc := cX9_throwLine) (maxL := 2) (ret := none) (by decide) rfl ?_
  intro p e s m args below meth c s₁ B hml hv
  obtain ⟨rfl, hP, hK, hI, hN⟩ := hv
  have hx := B.exec
  have hb := B.bytes
  have hr := B.returns
  have hts := atoms_spec (ws := wsX9_throwLine) B.pre
  have hown : s.vm.findClass RX9 = some m.cls := findClass_of_methodNamed B.named
  have hlocks := B.notSynchronized
  have hS : va_S (mA a) s.heap s.heap [] := va_S.rf
  have hinX9 : ∀ w ∈ wsX90, w ∈ wsX9_throwLine := fun _ h => List.mem_cons_of_mem _ (List.mem_append_right _ h)
  have hl := lv_entry ([.ref (a 0), .int cause]) (n := 2) (Nat.le_of_ble_eq_true rfl)
  rw [lg_entry_eq]
  generalize (lg_sl ([.ref (a 0), .int cause]) ++ List.replicate (2 - (lg_sl ([.ref (a 0), .int cause])).length) Slot.unset).toArray = ls at hl ⊢
  have hl : lv_has ls 2 [(0, .ref (a 0)), (1, .int cause)] := hl
  refine lv_aload_n hx hb dX9_throwLine_0 rfl (lv_at hl 0 rfl) ?_
  refine mg_0_12 (v := (σ 3)) hx hb hts hinX9 hown hK hP (hts (.fieldLink RX9 141 "CensusDeskModel" "inHouse" "Z") (List.mem_of_getElem? (i := 1) rfl)) rfl dX9_throwLine_1 ?_
  refine lv_if_eq (tgt := 21) hx hb dX9_throwLine_4 (by decide) (fun c_1 => ?_) (fun c_1 => ?_)
  · have kc_1 := bI_eq rfl L_0 c_1
    refine lv_aload_n hx hb dX9_throwLine_21 rfl (lv_at hl 0 rfl) ?_
    refine lv_bipush (v := 21) hx hb dX9_throwLine_22 (by decide) ?_
    refine lv_aload_n hx hb dX9_throwLine_24 rfl (lv_at hl 0 rfl) ?_
    refine mg_0_18 (v := (σ 5)) hx hb hts hinX9 hown hK hP (hts (.fieldLink RX9 171 "CensusDeskModel" "lineAt" "I") (List.mem_of_getElem? (i := 2) rfl)) rfl dX9_throwLine_25 ?_
    refine lv_iload_n hx hb dX9_throwLine_28 rfl (lv_at hl 1 rfl) ?_
    refine m_callv (va_runV (As := [.int 21, .int (σ 5), .int cause]) (rest := []) ⟨hx, hb, hml, hown, hts⟩ (c_X9_failSheet l dC dI a κ σ φ γ ψ 21 (σ 5) cause (show 1 ≤ (Int32.toInt 21) ∧ (Int32.toInt 21) ≤ 21 from (by have := L_21; omega)) (show (Int32.toInt cause) < (Int32.toInt (σ 10)) from (by omega)) (show 0 ≤ (Int32.toInt (σ 10)) ∧ (Int32.toInt (σ 10)) ≤ 2000000000 from (by omega)) (show ∀ i : Nat, i < 300 → (i : Int) < (Int32.toInt (σ 10)) → Int32.toInt ((φ 6) i) < i from (by with_reducible assumption))) (cwV 3 hts gX9_throwLine_X9_failSheet rfl rfl rfl ⟨rfl, hd_X9_failSheet⟩ ⟨Nat.le_of_ble_eq_true rfl, Nat.le_of_ble_eq_true rfl⟩) (mPreV hP hK hI hN hS (va_recv hK hP (ci := 9) (q0 := 0) rfl rfl)) rfl rfl hl.1 rfl (lv_room (Nat.le_of_ble_eq_true rfl)) dX9_throwLine_29 ⟨(by decide +kernel), (by decide +kernel)⟩) hS ?_
    clear hP hS; intro S_2 F_2 γ_2 ψ_2 H locs hw hP hS
    obtain ⟨s10_2, f6_2, rfl, rfl, (qf_2 : (Int32.toInt (σ 10)) ≤ (Int32.toInt s10_2) ∧ (Int32.toInt s10_2) ≤ (Int32.toInt (σ 10)) + 1), (qc_2 : ∀ i : Nat, i < 300 → (i : Int) < (Int32.toInt s10_2) → Int32.toInt (f6_2 i) < i)⟩ := hw
    have hL21_2 := L_21
    exact W.vret hx hb hr (fun t ht hW => ⟨⟨((up σ 10 s10_2), (up φ 6 f6_2), γ_2, ψ_2), rfl, ⟨s10_2, f6_2, rfl, rfl, (show (Int32.toInt (σ 10)) ≤ (Int32.toInt s10_2) ∧ (Int32.toInt s10_2) ≤ (Int32.toInt (σ 10)) + 2 from (by omega)), (show ∀ i : Nat, i < 300 → (i : Int) < (Int32.toInt s10_2) → Int32.toInt (f6_2 i) < i from (by with_reducible assumption))⟩, (by show va_P _ _ _ _; rw [ht]; exact hP)⟩, hS.F ht⟩) hS.2.2 dX9_throwLine_32
  · have kc_1 := bI_ne rfl L_0 c_1
    refine lv_aload_n hx hb dX9_throwLine_7 rfl (lv_at hl 0 rfl) ?_
    refine lv_bipush (v := 18) hx hb dX9_throwLine_8 (by decide) ?_
    refine lv_aload_n hx hb dX9_throwLine_10 rfl (lv_at hl 0 rfl) ?_
    refine mg_0_18 (v := (σ 5)) hx hb hts hinX9 hown hK hP (hts (.fieldLink RX9 171 "CensusDeskModel" "lineAt" "I") (List.mem_of_getElem? (i := 2) rfl)) rfl dX9_throwLine_11 ?_
    refine lv_iload_n hx hb dX9_throwLine_14 rfl (lv_at hl 1 rfl) ?_
    refine m_callv (va_runV (As := [.int 18, .int (σ 5), .int cause]) (rest := []) ⟨hx, hb, hml, hown, hts⟩ (c_X9_failHouse l dC dI a κ σ φ γ ψ 18 (σ 5) cause (show 1 ≤ (Int32.toInt 18) ∧ (Int32.toInt 18) ≤ 21 from (by have := L_18; omega)) (show (Int32.toInt cause) < (Int32.toInt (σ 10)) from (by omega)) (show 0 ≤ (Int32.toInt (σ 10)) ∧ (Int32.toInt (σ 10)) ≤ 1999999990 from (by omega)) (show ∀ i : Nat, i < 300 → (i : Int) < (Int32.toInt (σ 10)) → Int32.toInt ((φ 6) i) < i from (by with_reducible assumption))) (cwV 3 hts gX9_throwLine_X9_failHouse rfl rfl rfl ⟨rfl, hd_X9_failHouse⟩ ⟨Nat.le_of_ble_eq_true rfl, Nat.le_of_ble_eq_true rfl⟩) (mPreV hP hK hI hN hS (va_recv hK hP (ci := 9) (q0 := 0) rfl rfl)) rfl rfl hl.1 rfl (lv_room (Nat.le_of_ble_eq_true rfl)) dX9_throwLine_15 ⟨(by decide +kernel), (by decide +kernel)⟩) hS ?_
    clear hP hS; intro S_3 F_3 γ_3 ψ_3 H locs hw hP hS
    obtain ⟨s10_3, f6_3, rfl, rfl, (qf_3 : (Int32.toInt (σ 10)) ≤ (Int32.toInt s10_3) ∧ (Int32.toInt s10_3) ≤ (Int32.toInt (σ 10)) + 2), (qc_3 : ∀ i : Nat, i < 300 → (i : Int) < (Int32.toInt s10_3) → Int32.toInt (f6_3 i) < i)⟩ := hw
    have hL18_3 := L_18
    refine lv_goto (tgt := 32) hx hb dX9_throwLine_18 (by decide) ?_
    exact W.vret hx hb hr (fun t ht hW => ⟨⟨((up σ 10 s10_3), (up φ 6 f6_3), γ_3, ψ_3), rfl, ⟨s10_3, f6_3, rfl, rfl, (show (Int32.toInt (σ 10)) ≤ (Int32.toInt s10_3) ∧ (Int32.toInt s10_3) ≤ (Int32.toInt (σ 10)) + 2 from (by omega)), (show ∀ i : Nat, i < 300 → (i : Int) < (Int32.toInt s10_3) → Int32.toInt (f6_3 i) < i from (by with_reducible assumption))⟩, (by show va_P _ _ _ _; rw [ht]; exact hP)⟩, hS.F ht⟩) hS.2.2 dX9_throwLine_32
