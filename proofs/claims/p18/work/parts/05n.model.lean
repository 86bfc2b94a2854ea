set_option maxHeartbeats 4000000 in
set_option maxRecDepth 100000 in
theorem c_X9_sheet (l : Launch) (dC : Nat → ClassId) (dI : Nat → Nat → Nat) (a : Nat → Nat) (κ : Nat → ClassId) (σ : Nat → Int32) (φ : Nat → Nat → Int32) (γ : Nat → Int32) (ψ : Nat → Nat → Int32) (what : Int32) (p_m_houseMany : PtR 0 2000 (φ 2)) (hh : 0 ≤ (Int32.toInt (σ 7)) ∧ (Int32.toInt (σ 7)) ≤ 2000) : Met l yX9_sheet wsX9_sheet ({ frames := 1, cells := 0, slots := 0, locals := 22 } : Room) (va_Pc [.ref (a 0), .int what] (mPre dC dI a κ (σ, φ, γ, ψ))) (va_Qi (QI (fun r S F => σ = S ∧ φ = F ∧ True)) (mB dC dI a κ) (mA a)) 0 0 (mA a) := by
  refine Met.ofW (cc := cX9_sheet) (maxL := 2) (ret := (some .int)) (by decide) rfl ?_
  intro p e s m args below meth c s₁ B hml hv
  obtain ⟨rfl, hP, hK, hI, hN⟩ := hv
  have hx := B.exec
  have hb := B.bytes
  have hr := B.returns
  have hts := atoms_spec (ws := wsX9_sheet) B.pre
  have hown : s.vm.findClass RX9 = some m.cls := findClass_of_methodNamed B.named
  have hlocks := B.notSynchronized
  have hS : va_S (mA a) s.heap s.heap [] := va_S.rf
  have hinX9 : ∀ w ∈ wsX90, w ∈ wsX9_sheet := fun _ h => List.mem_cons_of_mem _ (List.mem_append_right _ h)
  have hl := lv_entry ([.ref (a 0), .int what]) (n := 2) (Nat.le_of_ble_eq_true rfl)
  rw [lg_entry_eq]
  generalize (lg_sl ([.ref (a 0), .int what]) ++ List.replicate (2 - (lg_sl ([.ref (a 0), .int what])).length) Slot.unset).toArray = ls at hl ⊢
  have hl : lv_has ls 2 [(0, .ref (a 0)), (1, .int what)] := hl
  refine lv_iload_n hx hb dX9_sheet_0 rfl (lv_at hl 1 rfl) ?_
  rcases (show ((Int32.toInt what) < 0 ∨ 4 < (Int32.toInt what)) ∨ (Int32.toInt what) = 0 ∨ (Int32.toInt what) = 1 ∨ (Int32.toInt what) = 2 ∨ (Int32.toInt what) = 3 ∨ (Int32.toInt what) = 4 from by omega) with sw_1 | sw_1 | sw_1 | sw_1 | sw_1 | sw_1
  · refine lv_tableOut (tgt := 61) hx hb dX9_sheet_1 sw_1 (by decide) ?_
    refine lv_iconst (v := (-1)) hx hb dX9_sheet_61 (by decide) ?_
    exact W.iret (v := (-1)) hx hb hr (fun t ht hW => ⟨⟨(-1), (σ, φ, γ, ψ), rfl, ⟨rfl, rfl, trivial⟩, (by show va_P _ _ _ _; rw [ht]; exact hP)⟩, hS.F ht⟩) hS.2.2 dX9_sheet_62
  · refine lv_tableIn (off := 35) (tgt := 36) hx hb dX9_sheet_1 (by omega) (by omega) (by rw [sw_1]; rfl) (by decide) ?_
    refine lv_aload_n hx hb dX9_sheet_36 rfl (lv_at hl 0 rfl) ?_
    refine mg_0_9 (v := (γ 2)) hx hb hts hinX9 hown hK hP (hts (.fieldLink RX9 274 "CensusDeskModel" "lines" "I") (List.mem_of_getElem? (i := 1) rfl)) rfl dX9_sheet_37 ?_
    exact W.iret (v := (γ 2)) hx hb hr (fun t ht hW => ⟨⟨(γ 2), (σ, φ, γ, ψ), rfl, ⟨rfl, rfl, trivial⟩, (by show va_P _ _ _ _; rw [ht]; exact hP)⟩, hS.F ht⟩) hS.2.2 dX9_sheet_40
  · refine lv_tableIn (off := 40) (tgt := 41) hx hb dX9_sheet_1 (by omega) (by omega) (by rw [sw_1]; rfl) (by decide) ?_
    refine lv_aload_n hx hb dX9_sheet_41 rfl (lv_at hl 0 rfl) ?_
    refine mg_0_26 (v := (σ 7)) hx hb hts hinX9 hown hK hP (hts (.fieldLink RX9 234 "CensusDeskModel" "houses" "I") (List.mem_of_getElem? (i := 2) rfl)) rfl dX9_sheet_42 ?_
    exact W.iret (v := (σ 7)) hx hb hr (fun t ht hW => ⟨⟨(σ 7), (σ, φ, γ, ψ), rfl, ⟨rfl, rfl, trivial⟩, (by show va_P _ _ _ _; rw [ht]; exact hP)⟩, hS.F ht⟩) hS.2.2 dX9_sheet_45
  · refine lv_tableIn (off := 45) (tgt := 46) hx hb dX9_sheet_1 (by omega) (by omega) (by rw [sw_1]; rfl) (by decide) ?_
    refine lv_aload_n hx hb dX9_sheet_46 rfl (lv_at hl 0 rfl) ?_
    refine mg_0_10 (v := (γ 3)) hx hb hts hinX9 hown hK hP (hts (.fieldLink RX9 161 "CensusDeskModel" "lost" "I") (List.mem_of_getElem? (i := 3) rfl)) rfl dX9_sheet_47 ?_
    exact W.iret (v := (γ 3)) hx hb hr (fun t ht hW => ⟨⟨(γ 3), (σ, φ, γ, ψ), rfl, ⟨rfl, rfl, trivial⟩, (by show va_P _ _ _ _; rw [ht]; exact hP)⟩, hS.F ht⟩) hS.2.2 dX9_sheet_50
  · refine lv_tableIn (off := 50) (tgt := 51) hx hb dX9_sheet_1 (by omega) (by omega) (by rw [sw_1]; rfl) (by decide) ?_
    refine lv_aload_n hx hb dX9_sheet_51 rfl (lv_at hl 0 rfl) ?_
    refine m_calli (va_runV (As := []) (rest := []) ⟨hx, hb, hml, hown, hts⟩ (c_X9_takenPersons l dC dI a κ σ φ γ ψ  p_m_houseMany (show 0 ≤ (Int32.toInt (σ 7)) ∧ (Int32.toInt (σ 7)) ≤ 2000 from (by omega))) (cwV 0 hts gX9_sheet_X9_takenPersons rfl rfl rfl ⟨rfl, hd_X9_takenPersons⟩ ⟨Nat.le_of_ble_eq_true rfl, Nat.le_of_ble_eq_true rfl⟩) (mPreV hP hK hI hN hS (va_recv hK hP (ci := 9) (q0 := 0) rfl rfl)) rfl rfl hl.1 rfl (lv_room (Nat.le_of_ble_eq_true rfl)) dX9_sheet_52 ⟨(by decide +kernel), (by decide +kernel)⟩) hS ?_
    clear hP hS; intro r_2 S_2 F_2 γ_2 ψ_2 H locs hw hP hS
    obtain ⟨rfl, rfl, (qz_2 : (Int32.toInt r_2) = zsum (φ 2) (Int32.toNatClampNeg (σ 7))), (qr_2 : 0 ≤ (Int32.toInt r_2) ∧ (Int32.toInt r_2) ≤ 4000000)⟩ := hw
    exact W.iret (v := r_2) hx hb hr (fun t ht hW => ⟨⟨r_2, (σ, φ, γ_2, ψ_2), rfl, ⟨rfl, rfl, trivial⟩, (by show va_P _ _ _ _; rw [ht]; exact hP)⟩, hS.F ht⟩) hS.2.2 dX9_sheet_55
  · refine lv_tableIn (off := 55) (tgt := 56) hx hb dX9_sheet_1 (by omega) (by omega) (by rw [sw_1]; rfl) (by decide) ?_
    refine lv_aload_n hx hb dX9_sheet_56 rfl (lv_at hl 0 rfl) ?_
    refine mg_0_4 (v := (σ 1)) hx hb hts hinX9 hown hK hP (hts (.fieldLink RX9 261 "CensusDeskModel" "place" "I") (List.mem_of_getElem? (i := 4) rfl)) rfl dX9_sheet_57 ?_
    exact W.iret (v := (σ 1)) hx hb hr (fun t ht hW => ⟨⟨(σ 1), (σ, φ, γ, ψ), rfl, ⟨rfl, rfl, trivial⟩, (by show va_P _ _ _ _; rw [ht]; exact hP)⟩, hS.F ht⟩) hS.2.2 dX9_sheet_60
set_option maxHeartbeats 4000000 in
set_option maxRecDepth 100000 in
theorem c_X9_sum (l : Launch) (dC : Nat → ClassId) (dI : Nat → Nat → Nat) (a : Nat → Nat) (κ : Nat → ClassId) (σ : Nat → Int32) (φ : Nat → Nat → Int32) (γ : Nat → Int32) (ψ : Nat → Nat → Int32) (what : Int32) (hk : 0 ≤ (Int32.toInt (σ 13)) ∧ (Int32.toInt (σ 13)) ≤ 60 ∧ 0 ≤ (Int32.toInt (σ 14)) ∧ (Int32.toInt (σ 14)) ≤ 300) : Met l yX9_sum wsX9_sum ({ frames := 0, cells := 0, slots := 0, locals := 0 } : Room) (va_Pc [.ref (a 0), .int what] (mPre dC dI a κ (σ, φ, γ, ψ))) (va_Qi (QI (fun r S F => σ = S ∧ φ = F ∧ ((2 ≤ (Int32.toInt what) ∧ (Int32.toInt what) < 4) → r = icnt (what - 2) (φ 9) (Int32.toNatClampNeg (σ 14))) ∧ ((Int32.toInt what) = 4 → r = mage (φ 10) (Int32.toNatClampNeg (σ 14))))) (mB dC dI a κ) (mA a)) 0 0 (mA a) := by
  refine Met.ofW (cc := cX9_sum) (maxL := 4) (ret := (some .int)) (by decide) rfl ?_
  intro p e s m args below meth c s₁ B hml hv
  obtain ⟨rfl, hP, hK, hI, hN⟩ := hv
  have hx := B.exec
  have hb := B.bytes
  have hr := B.returns
  have hts := atoms_spec (ws := wsX9_sum) B.pre
  have hown : s.vm.findClass RX9 = some m.cls := findClass_of_methodNamed B.named
  have hlocks := B.notSynchronized
  have hS : va_S (mA a) s.heap s.heap [] := va_S.rf
  have hinX9 : ∀ w ∈ wsX90, w ∈ wsX9_sum := fun _ h => List.mem_cons_of_mem _ (List.mem_append_right _ h)
  have hl := lv_entry ([.ref (a 0), .int what]) (n := 4) (Nat.le_of_ble_eq_true rfl)
  rw [lg_entry_eq]
  generalize (lg_sl ([.ref (a 0), .int what]) ++ List.replicate (4 - (lg_sl ([.ref (a 0), .int what])).length) Slot.unset).toArray = ls at hl ⊢
  have hl : lv_has ls 4 [(0, .ref (a 0)), (1, .int what)] := hl
  refine k_gen (fun QQ eQ => ?_)
  have J84 : ∀ (n84 : Nat), ∀ (n : Int32) (q : Int32) (γ : Nat → Int32) (ψ : Nat → Nat → Int32) (H : Heap) (locs : List Loc) (ls : Array Slot), (0 ≤ (Int32.toInt q) ∧ (Int32.toInt q) ≤ (Int32.toInt (σ 14)) ∧ 2 ≤ (Int32.toInt what) ∧ (Int32.toInt what) ≤ 5) → ((Int32.toInt what) < 4 → n = icnt (what - 2) (φ 9) (Int32.toNatClampNeg q)) → ((Int32.toInt what) = 4 → n = mage (φ 10) (Int32.toNatClampNeg q)) → (((Int32.toInt (σ 14)) - (Int32.toInt q)).toNat < n84) → va_P (dC, dI) vwCl (mw a κ (σ, φ, γ, ψ)) H → va_S (mA a) s.heap H locs → lv_has ls 4 [(0, .ref (a 0)), (1, .int what), (2, .int n), (3, .int q)] → W p l e ({ frames := 0, cells := 0, slots := 0, locals := 0 } : Room) s m ([.ref (a 0), .int what] : List Value).toArray below meth c H locs 0 0 QQ (F0 m 84 ls []) := by
    intro n84
    induction n84 with
    | zero =>
      intro n q γ ψ H locs ls v0 va vb hm
      exact absurd hm (Nat.not_lt_zero _)
    | succ n84 ih84 =>
      intro n q γ ψ H locs ls v0 va vb hm hP hS hl
      refine lv_iload_n hx hb dX9_sum_84 rfl (lv_at hl 3 rfl) ?_
      refine lv_aload_n hx hb dX9_sum_85 rfl (lv_at hl 0 rfl) ?_
      refine mg_0_65 (v := (σ 14)) hx hb hts hinX9 hown hK hP (hts (.fieldLink RX9 298 "CensusDeskModel" "bookedPersons" "I") (List.mem_of_getElem? (i := 2) rfl)) rfl dX9_sum_86 ?_
      refine lv_icmp_ge (tgt := 167) hx hb dX9_sum_89 (by decide) (fun c_1 => ?_) (fun c_1 => ?_)
      · have kc_1 := bI_le rfl rfl c_1
        have eq_ : q = (σ 14) := Int32.toInt_inj.mp (by omega)
        rw [eq_] at va vb
        refine lv_iload_n hx hb dX9_sum_167 rfl (lv_at hl 2 rfl) ?_
        subst eQ
        exact W.iret (v := n) hx hb hr (fun t ht hW => ⟨⟨n, (σ, φ, γ, ψ), rfl, ⟨rfl, rfl, (fun h => va h.2), vb⟩, (by show va_P _ _ _ _; rw [ht]; exact hP)⟩, hS.F ht⟩) hS.2.2 dX9_sum_168
      · have kc_1 := bI_nle rfl rfl c_1
        refine lv_iload_n hx hb dX9_sum_92 rfl (lv_at hl 2 rfl) ?_
        refine lv_iload_n hx hb dX9_sum_93 rfl (lv_at hl 1 rfl) ?_
        refine lv_iconst (v := 4) hx hb dX9_sum_94 (by decide) ?_
        refine lv_icmp_ge (tgt := 118) hx hb dX9_sum_95 (by decide) (fun c_2 => ?_) (fun c_2 => ?_)
        · have kc_2 := bI_le L_4 rfl c_2
          refine lv_iload_n hx hb dX9_sum_118 rfl (lv_at hl 1 rfl) ?_
          refine lv_iconst (v := 4) hx hb dX9_sum_119 (by decide) ?_
          refine lv_icmp_ne (tgt := 145) hx hb dX9_sum_120 (by decide) (fun c_3 => ?_) (fun c_3 => ?_)
          · have kc_3 := bI_ne rfl L_4 c_3
            refine lv_aload_n hx hb dX9_sum_145 rfl (lv_at hl 0 rfl) ?_
            refine mg_0_60 hx hb hts hinX9 hown hK hP (hts (.fieldLink RX9 101 "CensusDeskModel" "bAge" "[I") (List.mem_of_getElem? (i := 7) rfl)) dX9_sum_146 ?_
            refine lv_iload_n hx hb dX9_sum_149 rfl (lv_at hl 3 rfl) ?_
            refine ml_31 (f := (φ 10)) hx hb hK hP (i := q) (vin rfl (by omega)) rfl dX9_sum_150 ?_
            refine lv_topi (fun z_4 ez_4 => ?_)
            have tz_4 : (Int32.toInt z_4) = Int32.toInt ((φ 10) (Int32.toNatClampNeg q)) := congrArg Int32.toInt ez_4
            refine lv_if_ge (tgt := 158) hx hb dX9_sum_151 (by decide) (fun c_5 => ?_) (fun c_5 => ?_)
            · have kc_5 := bI_le L_0 rfl c_5
              refine lv_iconst (v := 0) hx hb dX9_sum_158 (by decide) ?_
              refine lv_iadd hx hb dX9_sum_159 ?_
              refine lv_topi (fun z_6 ez_6 => ?_)
              refine lv_istore_n (lv' := [(2, .int z_6), (0, .ref (a 0)), (1, .int what), (3, .int q)]) hx hb dX9_sum_160 rfl hl (by decide) rfl ?_
              clear hl; intro ls hl
              obtain ⟨i_7, ei_7⟩ : ∃ z : Int32, z = q + 1 := ⟨_, rfl⟩
              refine lv_iinc (v := i_7) (lv' := [(3, .int i_7), (2, .int z_6), (0, .ref (a 0)), (1, .int what)]) hx hb dX9_sum_161 hl (k := 3) rfl (by rw [ei_7]; rfl) (by decide) rfl ?_
              clear hl; intro ls hl
              have ti_7 : (Int32.toInt i_7) = (Int32.toInt q) + 1 := aI_add rfl L_1 ei_7 (by have := rng q; have := rng (σ 14); omega)
              have hn : Int32.toNatClampNeg i_7 = Int32.toNatClampNeg q + 1 := tn_succ (by omega) ti_7
              have va : (Int32.toInt what) < 4 → z_6 = icnt (what - 2) (φ 9) (Int32.toNatClampNeg i_7) := fun h => absurd h (by omega)
              have vb : (Int32.toInt what) = 4 → z_6 = mage (φ 10) (Int32.toNatClampNeg i_7) := fun h => absurd h (by omega)
              refine lv_goto (tgt := 84) hx hb dX9_sum_164 (by decide) ?_
              exact ih84 z_6 i_7 γ ψ _ _ _ (show 0 ≤ (Int32.toInt i_7) ∧ (Int32.toInt i_7) ≤ (Int32.toInt (σ 14)) ∧ 2 ≤ (Int32.toInt what) ∧ (Int32.toInt what) ≤ 5 from (by omega)) (show (Int32.toInt what) < 4 → z_6 = icnt (what - 2) (φ 9) (Int32.toNatClampNeg i_7) from va) (show (Int32.toInt what) = 4 → z_6 = mage (φ 10) (Int32.toNatClampNeg i_7) from vb) (by omega) hP hS (lv_sub hl [2, 3, 1, 0] rfl)
            · have kc_5 := bI_nle L_0 rfl c_5
              refine lv_iconst (v := 1) hx hb dX9_sum_154 (by decide) ?_
              refine lv_goto (tgt := 159) hx hb dX9_sum_155 (by decide) ?_
              refine lv_iadd hx hb dX9_sum_159 ?_
              refine lv_topi (fun z_8 ez_8 => ?_)
              refine lv_istore_n (lv' := [(2, .int z_8), (0, .ref (a 0)), (1, .int what), (3, .int q)]) hx hb dX9_sum_160 rfl hl (by decide) rfl ?_
              clear hl; intro ls hl
              obtain ⟨i_9, ei_9⟩ : ∃ z : Int32, z = q + 1 := ⟨_, rfl⟩
              refine lv_iinc (v := i_9) (lv' := [(3, .int i_9), (2, .int z_8), (0, .ref (a 0)), (1, .int what)]) hx hb dX9_sum_161 hl (k := 3) rfl (by rw [ei_9]; rfl) (by decide) rfl ?_
              clear hl; intro ls hl
              have ti_9 : (Int32.toInt i_9) = (Int32.toInt q) + 1 := aI_add rfl L_1 ei_9 (by have := rng q; have := rng (σ 14); omega)
              have hn : Int32.toNatClampNeg i_9 = Int32.toNatClampNeg q + 1 := tn_succ (by omega) ti_9
              have va : (Int32.toInt what) < 4 → z_8 = icnt (what - 2) (φ 9) (Int32.toNatClampNeg i_9) := fun h => absurd h (by omega)
              have vb : (Int32.toInt what) = 4 → z_8 = mage (φ 10) (Int32.toNatClampNeg i_9) := fun h => absurd h (by omega)
              refine lv_goto (tgt := 84) hx hb dX9_sum_164 (by decide) ?_
              exact ih84 z_8 i_9 γ ψ _ _ _ (show 0 ≤ (Int32.toInt i_9) ∧ (Int32.toInt i_9) ≤ (Int32.toInt (σ 14)) ∧ 2 ≤ (Int32.toInt what) ∧ (Int32.toInt what) ≤ 5 from (by omega)) (show (Int32.toInt what) < 4 → z_8 = icnt (what - 2) (φ 9) (Int32.toNatClampNeg i_9) from va) (show (Int32.toInt what) = 4 → z_8 = mage (φ 10) (Int32.toNatClampNeg i_9) from vb) (by omega) hP hS (lv_sub hl [2, 3, 1, 0] rfl)
          · have kc_3 := bI_eq rfl L_4 c_3
            refine lv_aload_n hx hb dX9_sum_123 rfl (lv_at hl 0 rfl) ?_
            refine mg_0_60 hx hb hts hinX9 hown hK hP (hts (.fieldLink RX9 101 "CensusDeskModel" "bAge" "[I") (List.mem_of_getElem? (i := 7) rfl)) dX9_sum_124 ?_
            refine lv_iload_n hx hb dX9_sum_127 rfl (lv_at hl 3 rfl) ?_
            refine ml_31 (f := (φ 10)) hx hb hK hP (i := q) (vin rfl (by omega)) rfl dX9_sum_128 ?_
            refine lv_topi (fun z_10 ez_10 => ?_)
            have tz_10 : (Int32.toInt z_10) = Int32.toInt ((φ 10) (Int32.toNatClampNeg q)) := congrArg Int32.toInt ez_10
            refine lv_if_lt (tgt := 141) hx hb dX9_sum_129 (by decide) (fun c_11 => ?_) (fun c_11 => ?_)
            · have kc_11 := bI_lt rfl L_0 c_11
              refine lv_iconst (v := 0) hx hb dX9_sum_141 (by decide) ?_
              refine lv_goto (tgt := 159) hx hb dX9_sum_142 (by decide) ?_
              refine lv_iadd hx hb dX9_sum_159 ?_
              refine lv_topi (fun z_12 ez_12 => ?_)
              refine lv_istore_n (lv' := [(2, .int z_12), (0, .ref (a 0)), (1, .int what), (3, .int q)]) hx hb dX9_sum_160 rfl hl (by decide) rfl ?_
              clear hl; intro ls hl
              obtain ⟨i_13, ei_13⟩ : ∃ z : Int32, z = q + 1 := ⟨_, rfl⟩
              refine lv_iinc (v := i_13) (lv' := [(3, .int i_13), (2, .int z_12), (0, .ref (a 0)), (1, .int what)]) hx hb dX9_sum_161 hl (k := 3) rfl (by rw [ei_13]; rfl) (by decide) rfl ?_
              clear hl; intro ls hl
              have ti_13 : (Int32.toInt i_13) = (Int32.toInt q) + 1 := aI_add rfl L_1 ei_13 (by have := rng q; have := rng (σ 14); omega)
              have hn : Int32.toNatClampNeg i_13 = Int32.toNatClampNeg q + 1 := tn_succ (by omega) ti_13
              have va : (Int32.toInt what) < 4 → z_12 = icnt (what - 2) (φ 9) (Int32.toNatClampNeg i_13) := fun h => absurd h (by omega)
              have vb : (Int32.toInt what) = 4 → z_12 = mage (φ 10) (Int32.toNatClampNeg i_13) := fun h => by rw [hn, mage, ← vb h, ← ez_10, if_pos c_11]; exact ez_12
              refine lv_goto (tgt := 84) hx hb dX9_sum_164 (by decide) ?_
              exact ih84 z_12 i_13 γ ψ _ _ _ (show 0 ≤ (Int32.toInt i_13) ∧ (Int32.toInt i_13) ≤ (Int32.toInt (σ 14)) ∧ 2 ≤ (Int32.toInt what) ∧ (Int32.toInt what) ≤ 5 from (by omega)) (show (Int32.toInt what) < 4 → z_12 = icnt (what - 2) (φ 9) (Int32.toNatClampNeg i_13) from va) (show (Int32.toInt what) = 4 → z_12 = mage (φ 10) (Int32.toNatClampNeg i_13) from vb) (by omega) hP hS (lv_sub hl [2, 3, 1, 0] rfl)
            · have kc_11 := bI_nlt rfl L_0 c_11
              refine lv_aload_n hx hb dX9_sum_132 rfl (lv_at hl 0 rfl) ?_
              refine mg_0_60 hx hb hts hinX9 hown hK hP (hts (.fieldLink RX9 101 "CensusDeskModel" "bAge" "[I") (List.mem_of_getElem? (i := 7) rfl)) dX9_sum_133 ?_
              refine lv_iload_n hx hb dX9_sum_136 rfl (lv_at hl 3 rfl) ?_
              refine ml_31 (f := (φ 10)) hx hb hK hP (i := q) (vin rfl (by omega)) rfl dX9_sum_137 ?_
              refine lv_topi (fun z_14 ez_14 => ?_)
              have tz_14 : (Int32.toInt z_14) = Int32.toInt ((φ 10) (Int32.toNatClampNeg q)) := congrArg Int32.toInt ez_14
              refine lv_goto (tgt := 159) hx hb dX9_sum_138 (by decide) ?_
              refine lv_iadd hx hb dX9_sum_159 ?_
              refine lv_topi (fun z_15 ez_15 => ?_)
              refine lv_istore_n (lv' := [(2, .int z_15), (0, .ref (a 0)), (1, .int what), (3, .int q)]) hx hb dX9_sum_160 rfl hl (by decide) rfl ?_
              clear hl; intro ls hl
              obtain ⟨i_16, ei_16⟩ : ∃ z : Int32, z = q + 1 := ⟨_, rfl⟩
              refine lv_iinc (v := i_16) (lv' := [(3, .int i_16), (2, .int z_15), (0, .ref (a 0)), (1, .int what)]) hx hb dX9_sum_161 hl (k := 3) rfl (by rw [ei_16]; rfl) (by decide) rfl ?_
              clear hl; intro ls hl
              have ti_16 : (Int32.toInt i_16) = (Int32.toInt q) + 1 := aI_add rfl L_1 ei_16 (by have := rng q; have := rng (σ 14); omega)
              have hn : Int32.toNatClampNeg i_16 = Int32.toNatClampNeg q + 1 := tn_succ (by omega) ti_16
              have va : (Int32.toInt what) < 4 → z_15 = icnt (what - 2) (φ 9) (Int32.toNatClampNeg i_16) := fun h => absurd h (by omega)
              have vb : (Int32.toInt what) = 4 → z_15 = mage (φ 10) (Int32.toNatClampNeg i_16) := fun h => by rw [hn, mage, ← vb h, ← ez_10, if_neg c_11, ez_10, ← ez_14]; exact ez_15
              refine lv_goto (tgt := 84) hx hb dX9_sum_164 (by decide) ?_
              exact ih84 z_15 i_16 γ ψ _ _ _ (show 0 ≤ (Int32.toInt i_16) ∧ (Int32.toInt i_16) ≤ (Int32.toInt (σ 14)) ∧ 2 ≤ (Int32.toInt what) ∧ (Int32.toInt what) ≤ 5 from (by omega)) (show (Int32.toInt what) < 4 → z_15 = icnt (what - 2) (φ 9) (Int32.toNatClampNeg i_16) from va) (show (Int32.toInt what) = 4 → z_15 = mage (φ 10) (Int32.toNatClampNeg i_16) from vb) (by omega) hP hS (lv_sub hl [2, 3, 1, 0] rfl)
        · have kc_2 := bI_nle L_4 rfl c_2
          refine lv_aload_n hx hb dX9_sum_98 rfl (lv_at hl 0 rfl) ?_
          refine mg_0_59 hx hb hts hinX9 hown hK hP (hts (.fieldLink RX9 98 "CensusDeskModel" "bSex" "[I") (List.mem_of_getElem? (i := 6) rfl)) dX9_sum_99 ?_
          refine lv_iload_n hx hb dX9_sum_102 rfl (lv_at hl 3 rfl) ?_
          refine ml_30 (f := (φ 9)) hx hb hK hP (i := q) (vin rfl (by omega)) rfl dX9_sum_103 ?_
          refine lv_topi (fun z_17 ez_17 => ?_)
          have tz_17 : (Int32.toInt z_17) = Int32.toInt ((φ 9) (Int32.toNatClampNeg q)) := congrArg Int32.toInt ez_17
          refine lv_iload_n hx hb dX9_sum_104 rfl (lv_at hl 1 rfl) ?_
          refine lv_iconst (v := 2) hx hb dX9_sum_105 (by decide) ?_
          refine lv_isub hx hb dX9_sum_106 ?_
          refine lv_topi (fun z_18 ez_18 => ?_)
          refine lv_icmp_ne (tgt := 114) hx hb dX9_sum_107 (by decide) (fun c_19 => ?_) (fun c_19 => ?_)
          · have kc_19 := bI_ne rfl rfl c_19
            refine lv_iconst (v := 0) hx hb dX9_sum_114 (by decide) ?_
            refine lv_goto (tgt := 159) hx hb dX9_sum_115 (by decide) ?_
            refine lv_iadd hx hb dX9_sum_159 ?_
            refine lv_topi (fun z_20 ez_20 => ?_)
            refine lv_istore_n (lv' := [(2, .int z_20), (0, .ref (a 0)), (1, .int what), (3, .int q)]) hx hb dX9_sum_160 rfl hl (by decide) rfl ?_
            clear hl; intro ls hl
            obtain ⟨i_21, ei_21⟩ : ∃ z : Int32, z = q + 1 := ⟨_, rfl⟩
            refine lv_iinc (v := i_21) (lv' := [(3, .int i_21), (2, .int z_20), (0, .ref (a 0)), (1, .int what)]) hx hb dX9_sum_161 hl (k := 3) rfl (by rw [ei_21]; rfl) (by decide) rfl ?_
            clear hl; intro ls hl
            have ti_21 : (Int32.toInt i_21) = (Int32.toInt q) + 1 := aI_add rfl L_1 ei_21 (by have := rng q; have := rng (σ 14); omega)
            have hn : Int32.toNatClampNeg i_21 = Int32.toNatClampNeg q + 1 := tn_succ (by omega) ti_21
            have va : (Int32.toInt what) < 4 → z_20 = icnt (what - 2) (φ 9) (Int32.toNatClampNeg i_21) := fun h => by rw [hn, icnt, ← va h, ← ez_17, ← ez_18, if_neg c_19]; exact ez_20
            have vb : (Int32.toInt what) = 4 → z_20 = mage (φ 10) (Int32.toNatClampNeg i_21) := fun h => absurd h (by omega)
            refine lv_goto (tgt := 84) hx hb dX9_sum_164 (by decide) ?_
            exact ih84 z_20 i_21 γ ψ _ _ _ (show 0 ≤ (Int32.toInt i_21) ∧ (Int32.toInt i_21) ≤ (Int32.toInt (σ 14)) ∧ 2 ≤ (Int32.toInt what) ∧ (Int32.toInt what) ≤ 5 from (by omega)) (show (Int32.toInt what) < 4 → z_20 = icnt (what - 2) (φ 9) (Int32.toNatClampNeg i_21) from va) (show (Int32.toInt what) = 4 → z_20 = mage (φ 10) (Int32.toNatClampNeg i_21) from vb) (by omega) hP hS (lv_sub hl [2, 3, 1, 0] rfl)
          · have kc_19 := bI_eq rfl rfl c_19
            refine lv_iconst (v := 1) hx hb dX9_sum_110 (by decide) ?_
            refine lv_goto (tgt := 159) hx hb dX9_sum_111 (by decide) ?_
            refine lv_iadd hx hb dX9_sum_159 ?_
            refine lv_topi (fun z_22 ez_22 => ?_)
            refine lv_istore_n (lv' := [(2, .int z_22), (0, .ref (a 0)), (1, .int what), (3, .int q)]) hx hb dX9_sum_160 rfl hl (by decide) rfl ?_
            clear hl; intro ls hl
            obtain ⟨i_23, ei_23⟩ : ∃ z : Int32, z = q + 1 := ⟨_, rfl⟩
            refine lv_iinc (v := i_23) (lv' := [(3, .int i_23), (2, .int z_22), (0, .ref (a 0)), (1, .int what)]) hx hb dX9_sum_161 hl (k := 3) rfl (by rw [ei_23]; rfl) (by decide) rfl ?_
            clear hl; intro ls hl
            have ti_23 : (Int32.toInt i_23) = (Int32.toInt q) + 1 := aI_add rfl L_1 ei_23 (by have := rng q; have := rng (σ 14); omega)
            have hn : Int32.toNatClampNeg i_23 = Int32.toNatClampNeg q + 1 := tn_succ (by omega) ti_23
            have va : (Int32.toInt what) < 4 → z_22 = icnt (what - 2) (φ 9) (Int32.toNatClampNeg i_23) := fun h => by rw [hn, icnt, ← va h, ← ez_17, ← ez_18, if_pos c_19]; exact ez_22
            have vb : (Int32.toInt what) = 4 → z_22 = mage (φ 10) (Int32.toNatClampNeg i_23) := fun h => absurd h (by omega)
            refine lv_goto (tgt := 84) hx hb dX9_sum_164 (by decide) ?_
            exact ih84 z_22 i_23 γ ψ _ _ _ (show 0 ≤ (Int32.toInt i_23) ∧ (Int32.toInt i_23) ≤ (Int32.toInt (σ 14)) ∧ 2 ≤ (Int32.toInt what) ∧ (Int32.toInt what) ≤ 5 from (by omega)) (show (Int32.toInt what) < 4 → z_22 = icnt (what - 2) (φ 9) (Int32.toNatClampNeg i_23) from va) (show (Int32.toInt what) = 4 → z_22 = mage (φ 10) (Int32.toNatClampNeg i_23) from vb) (by omega) hP hS (lv_sub hl [2, 3, 1, 0] rfl)
  refine lv_iconst (v := 0) hx hb dX9_sum_0 (by decide) ?_
  refine lv_istore_n (lv' := [(2, .int 0), (0, .ref (a 0)), (1, .int what)]) hx hb dX9_sum_1 rfl hl (by decide) rfl ?_
  clear hl; intro ls hl
  refine lv_iload_n hx hb dX9_sum_2 rfl (lv_at hl 2 rfl) ?_
  rcases (show ((Int32.toInt what) < 0 ∨ 8 < (Int32.toInt what)) ∨ (Int32.toInt what) = 0 ∨ (Int32.toInt what) = 1 ∨ (Int32.toInt what) = 2 ∨ (Int32.toInt what) = 3 ∨ (Int32.toInt what) = 4 ∨ (Int32.toInt what) = 5 ∨ (Int32.toInt what) = 6 ∨ (Int32.toInt what) = 7 ∨ (Int32.toInt what) = 8 from by omega) with sw_24 | sw_24 | sw_24 | sw_24 | sw_24 | sw_24 | sw_24 | sw_24 | sw_24 | sw_24
  · refine lv_tableOut (tgt := 80) hx hb dX9_sum_3 sw_24 (by decide) ?_
    refine lv_iconst (v := (-1)) hx hb dX9_sum_80 (by decide) ?_
    subst eQ
    exact W.iret (v := (-1)) hx hb hr (fun t ht hW => ⟨⟨(-1), (σ, φ, γ, ψ), rfl, ⟨rfl, rfl, (fun h => absurd h (by omega)), (fun h => absurd h (by omega))⟩, (by show va_P _ _ _ _; rw [ht]; exact hP)⟩, hS.F ht⟩) hS.2.2 dX9_sum_81
  · refine lv_tableIn (off := 49) (tgt := 52) hx hb dX9_sum_3 (by omega) (by omega) (by rw [sw_24]; rfl) (by decide) ?_
    refine lv_aload_n hx hb dX9_sum_52 rfl (lv_at hl 1 rfl) ?_
    refine mg_0_58 (v := (σ 13)) hx hb hts hinX9 hown hK hP (hts (.fieldLink RX9 295 "CensusDeskModel" "booked" "I") (List.mem_of_getElem? (i := 1) rfl)) rfl dX9_sum_53 ?_
    subst eQ
    exact W.iret (v := (σ 13)) hx hb hr (fun t ht hW => ⟨⟨(σ 13), (σ, φ, γ, ψ), rfl, ⟨rfl, rfl, (fun h => absurd h (by omega)), (fun h => absurd h (by omega))⟩, (by show va_P _ _ _ _; rw [ht]; exact hP)⟩, hS.F ht⟩) hS.2.2 dX9_sum_56
  · refine lv_tableIn (off := 54) (tgt := 57) hx hb dX9_sum_3 (by omega) (by omega) (by rw [sw_24]; rfl) (by decide) ?_
    refine lv_aload_n hx hb dX9_sum_57 rfl (lv_at hl 1 rfl) ?_
    refine mg_0_65 (v := (σ 14)) hx hb hts hinX9 hown hK hP (hts (.fieldLink RX9 298 "CensusDeskModel" "bookedPersons" "I") (List.mem_of_getElem? (i := 2) rfl)) rfl dX9_sum_58 ?_
    subst eQ
    exact W.iret (v := (σ 14)) hx hb hr (fun t ht hW => ⟨⟨(σ 14), (σ, φ, γ, ψ), rfl, ⟨rfl, rfl, (fun h => absurd h (by omega)), (fun h => absurd h (by omega))⟩, (by show va_P _ _ _ _; rw [ht]; exact hP)⟩, hS.F ht⟩) hS.2.2 dX9_sum_61
  · refine lv_tableIn (off := 74) (tgt := 77) hx hb dX9_sum_3 (by omega) (by omega) (by rw [sw_24]; rfl) (by decide) ?_
    refine lv_goto (tgt := 82) hx hb dX9_sum_77 (by decide) ?_
    refine lv_iconst (v := 0) hx hb dX9_sum_82 (by decide) ?_
    refine lv_istore_n (lv' := [(3, .int 0), (2, .int 0), (0, .ref (a 0)), (1, .int what)]) hx hb dX9_sum_83 rfl hl (by decide) rfl ?_
    clear hl; intro ls hl
    exact J84 (_ + 1) 0 0 γ ψ _ _ _ (show 0 ≤ (Int32.toInt 0) ∧ (Int32.toInt 0) ≤ (Int32.toInt (σ 14)) ∧ 2 ≤ (Int32.toInt what) ∧ (Int32.toInt what) ≤ 5 from (by have := L_0; omega)) (show (Int32.toInt what) < 4 → 0 = icnt (what - 2) (φ 9) (Int32.toNatClampNeg 0) from (fun _ => rfl)) (show (Int32.toInt what) = 4 → 0 = mage (φ 10) (Int32.toNatClampNeg 0) from (fun _ => rfl)) (Nat.lt_succ_self _) hP hS (lv_sub hl [2, 3, 1, 0] rfl)
  · refine lv_tableIn (off := 74) (tgt := 77) hx hb dX9_sum_3 (by omega) (by omega) (by rw [sw_24]; rfl) (by decide) ?_
    refine lv_goto (tgt := 82) hx hb dX9_sum_77 (by decide) ?_
    refine lv_iconst (v := 0) hx hb dX9_sum_82 (by decide) ?_
    refine lv_istore_n (lv' := [(3, .int 0), (2, .int 0), (0, .ref (a 0)), (1, .int what)]) hx hb dX9_sum_83 rfl hl (by decide) rfl ?_
    clear hl; intro ls hl
    exact J84 (_ + 1) 0 0 γ ψ _ _ _ (show 0 ≤ (Int32.toInt 0) ∧ (Int32.toInt 0) ≤ (Int32.toInt (σ 14)) ∧ 2 ≤ (Int32.toInt what) ∧ (Int32.toInt what) ≤ 5 from (by have := L_0; omega)) (show (Int32.toInt what) < 4 → 0 = icnt (what - 2) (φ 9) (Int32.toNatClampNeg 0) from (fun _ => rfl)) (show (Int32.toInt what) = 4 → 0 = mage (φ 10) (Int32.toNatClampNeg 0) from (fun _ => rfl)) (Nat.lt_succ_self _) hP hS (lv_sub hl [2, 3, 1, 0] rfl)
  · refine lv_tableIn (off := 74) (tgt := 77) hx hb dX9_sum_3 (by omega) (by omega) (by rw [sw_24]; rfl) (by decide) ?_
    refine lv_goto (tgt := 82) hx hb dX9_sum_77 (by decide) ?_
    refine lv_iconst (v := 0) hx hb dX9_sum_82 (by decide) ?_
    refine lv_istore_n (lv' := [(3, .int 0), (2, .int 0), (0, .ref (a 0)), (1, .int what)]) hx hb dX9_sum_83 rfl hl (by decide) rfl ?_
    clear hl; intro ls hl
    exact J84 (_ + 1) 0 0 γ ψ _ _ _ (show 0 ≤ (Int32.toInt 0) ∧ (Int32.toInt 0) ≤ (Int32.toInt (σ 14)) ∧ 2 ≤ (Int32.toInt what) ∧ (Int32.toInt what) ≤ 5 from (by have := L_0; omega)) (show (Int32.toInt what) < 4 → 0 = icnt (what - 2) (φ 9) (Int32.toNatClampNeg 0) from (fun _ => rfl)) (show (Int32.toInt what) = 4 → 0 = mage (φ 10) (Int32.toNatClampNeg 0) from (fun _ => rfl)) (Nat.lt_succ_self _) hP hS (lv_sub hl [2, 3, 1, 0] rfl)
  · refine lv_tableIn (off := 74) (tgt := 77) hx hb dX9_sum_3 (by omega) (by omega) (by rw [sw_24]; rfl) (by decide) ?_
    refine lv_goto (tgt := 82) hx hb dX9_sum_77 (by decide) ?_
    refine lv_iconst (v := 0) hx hb dX9_sum_82 (by decide) ?_
    refine lv_istore_n (lv' := [(3, .int 0), (2, .int 0), (0, .ref (a 0)), (1, .int what)]) hx hb dX9_sum_83 rfl hl (by decide) rfl ?_
    clear hl; intro ls hl
    exact J84 (_ + 1) 0 0 γ ψ _ _ _ (show 0 ≤ (Int32.toInt 0) ∧ (Int32.toInt 0) ≤ (Int32.toInt (σ 14)) ∧ 2 ≤ (Int32.toInt what) ∧ (Int32.toInt what) ≤ 5 from (by have := L_0; omega)) (show (Int32.toInt what) < 4 → 0 = icnt (what - 2) (φ 9) (Int32.toNatClampNeg 0) from (fun _ => rfl)) (show (Int32.toInt what) = 4 → 0 = mage (φ 10) (Int32.toNatClampNeg 0) from (fun _ => rfl)) (Nat.lt_succ_self _) hP hS (lv_sub hl [2, 3, 1, 0] rfl)
  · refine lv_tableIn (off := 59) (tgt := 62) hx hb dX9_sum_3 (by omega) (by omega) (by rw [sw_24]; rfl) (by decide) ?_
    refine lv_aload_n hx hb dX9_sum_62 rfl (lv_at hl 1 rfl) ?_
    refine mg_0_66 (v := (σ 16)) hx hb hts hinX9 hown hK hP (hts (.fieldLink RX9 310 "CensusDeskModel" "sheetsBooked" "I") (List.mem_of_getElem? (i := 3) rfl)) rfl dX9_sum_63 ?_
    subst eQ
    exact W.iret (v := (σ 16)) hx hb hr (fun t ht hW => ⟨⟨(σ 16), (σ, φ, γ, ψ), rfl, ⟨rfl, rfl, (fun h => absurd h (by omega)), (fun h => absurd h (by omega))⟩, (by show va_P _ _ _ _; rw [ht]; exact hP)⟩, hS.F ht⟩) hS.2.2 dX9_sum_66
  · refine lv_tableIn (off := 64) (tgt := 67) hx hb dX9_sum_3 (by omega) (by omega) (by rw [sw_24]; rfl) (by decide) ?_
    refine lv_aload_n hx hb dX9_sum_67 rfl (lv_at hl 1 rfl) ?_
    refine mg_0_67 (v := (σ 17)) hx hb hts hinX9 hown hK hP (hts (.fieldLink RX9 292 "CensusDeskModel" "sheetsRejected" "I") (List.mem_of_getElem? (i := 4) rfl)) rfl dX9_sum_68 ?_
    subst eQ
    exact W.iret (v := (σ 17)) hx hb hr (fun t ht hW => ⟨⟨(σ 17), (σ, φ, γ, ψ), rfl, ⟨rfl, rfl, (fun h => absurd h (by omega)), (fun h => absurd h (by omega))⟩, (by show va_P _ _ _ _; rw [ht]; exact hP)⟩, hS.F ht⟩) hS.2.2 dX9_sum_71
  · refine lv_tableIn (off := 69) (tgt := 72) hx hb dX9_sum_3 (by omega) (by omega) (by rw [sw_24]; rfl) (by decide) ?_
    refine lv_aload_n hx hb dX9_sum_72 rfl (lv_at hl 1 rfl) ?_
    refine mg_0_68 (v := (σ 18)) hx hb hts hinX9 hown hK hP (hts (.fieldLink RX9 304 "CensusDeskModel" "sheetsWithoutRoom" "I") (List.mem_of_getElem? (i := 5) rfl)) rfl dX9_sum_73 ?_
    subst eQ
    exact W.iret (v := (σ 18)) hx hb hr (fun t ht hW => ⟨⟨(σ 18), (σ, φ, γ, ψ), rfl, ⟨rfl, rfl, (fun h => absurd h (by omega)), (fun h => absurd h (by omega))⟩, (by show va_P _ _ _ _; rw [ht]; exact hP)⟩, hS.F ht⟩) hS.2.2 dX9_sum_76
set_option maxHeartbeats 4000000 in
set_option maxRecDepth 100000 in
theorem c_X9_house (l : Launch) (dC : Nat → ClassId) (dI : Nat → Nat → Nat) (a : Nat → Nat) (κ : Nat → ClassId) (σ : Nat → Int32) (φ : Nat → Nat → Int32) (γ : Nat → Int32) (ψ : Nat → Nat → Int32) (i : Int32) (what : Int32) (hk : 0 ≤ (Int32.toInt (σ 13)) ∧ (Int32.toInt (σ 13)) ≤ 60 ∧ 0 ≤ (Int32.toInt (σ 14)) ∧ (Int32.toInt (σ 14)) ≤ 300) : Met l yX9_house wsX9_house ({ frames := 0, cells := 0, slots := 0, locals := 0 } : Room) (va_Pc [.ref (a 0), .int i, .int what] (mPre dC dI a κ (σ, φ, γ, ψ))) (va_Qi (QI (fun r S F => σ = S ∧ φ = F ∧ True)) (mB dC dI a κ) (mA a)) 0 0 (mA a) := by
  refine Met.ofW (cc := cX9_house) (maxL := 3) (ret := (some .int)) (by decide) rfl ?_
  intro p e s m args below meth c s₁ B hml hv
  obtain ⟨rfl, hP, hK, hI, hN⟩ := hv
  have hx := B.exec
  have hb := B.bytes
  have hr := B.returns
  have hts := atoms_spec (ws := wsX9_house) B.pre
  have hown : s.vm.findClass RX9 = some m.cls := findClass_of_methodNamed B.named
  have hlocks := B.notSynchronized
  have hS : va_S (mA a) s.heap s.heap [] := va_S.rf
  have hinX9 : ∀ w ∈ wsX90, w ∈ wsX9_house := fun _ h => List.mem_cons_of_mem _ (List.mem_append_right _ h)
  have hl := lv_entry ([.ref (a 0), .int i, .int what]) (n := 3) (Nat.le_of_ble_eq_true rfl)
  rw [lg_entry_eq]
  generalize (lg_sl ([.ref (a 0), .int i, .int what]) ++ List.replicate (3 - (lg_sl ([.ref (a 0), .int i, .int what])).length) Slot.unset).toArray = ls at hl ⊢
  have hl : lv_has ls 3 [(0, .ref (a 0)), (1, .int i), (2, .int what)] := hl
  refine lv_iload_n hx hb dX9_house_0 rfl (lv_at hl 1 rfl) ?_
  refine lv_if_lt (tgt := 21) hx hb dX9_house_1 (by decide) (fun c_1 => ?_) (fun c_1 => ?_)
  · have kc_1 := bI_lt rfl L_0 c_1
    refine lv_iconst (v := (-1)) hx hb dX9_house_21 (by decide) ?_
    exact W.iret (v := (-1)) hx hb hr (fun t ht hW => ⟨⟨(-1), (σ, φ, γ, ψ), rfl, ⟨rfl, rfl, trivial⟩, (by show va_P _ _ _ _; rw [ht]; exact hP)⟩, hS.F ht⟩) hS.2.2 dX9_house_22
  · have kc_1 := bI_nlt rfl L_0 c_1
    refine lv_iload_n hx hb dX9_house_4 rfl (lv_at hl 1 rfl) ?_
    refine lv_aload_n hx hb dX9_house_5 rfl (lv_at hl 0 rfl) ?_
    refine mg_0_58 (v := (σ 13)) hx hb hts hinX9 hown hK hP (hts (.fieldLink RX9 295 "CensusDeskModel" "booked" "I") (List.mem_of_getElem? (i := 1) rfl)) rfl dX9_house_6 ?_
    refine lv_icmp_ge (tgt := 21) hx hb dX9_house_9 (by decide) (fun c_2 => ?_) (fun c_2 => ?_)
    · have kc_2 := bI_le rfl rfl c_2
      refine lv_iconst (v := (-1)) hx hb dX9_house_21 (by decide) ?_
      exact W.iret (v := (-1)) hx hb hr (fun t ht hW => ⟨⟨(-1), (σ, φ, γ, ψ), rfl, ⟨rfl, rfl, trivial⟩, (by show va_P _ _ _ _; rw [ht]; exact hP)⟩, hS.F ht⟩) hS.2.2 dX9_house_22
    · have kc_2 := bI_nle rfl rfl c_2
      refine lv_iload_n hx hb dX9_house_12 rfl (lv_at hl 2 rfl) ?_
      refine lv_if_lt (tgt := 21) hx hb dX9_house_13 (by decide) (fun c_3 => ?_) (fun c_3 => ?_)
      · have kc_3 := bI_lt rfl L_0 c_3
        refine lv_iconst (v := (-1)) hx hb dX9_house_21 (by decide) ?_
        exact W.iret (v := (-1)) hx hb hr (fun t ht hW => ⟨⟨(-1), (σ, φ, γ, ψ), rfl, ⟨rfl, rfl, trivial⟩, (by show va_P _ _ _ _; rw [ht]; exact hP)⟩, hS.F ht⟩) hS.2.2 dX9_house_22
      · have kc_3 := bI_nlt rfl L_0 c_3
        refine lv_iload_n hx hb dX9_house_16 rfl (lv_at hl 2 rfl) ?_
        refine lv_iconst (v := 4) hx hb dX9_house_17 (by decide) ?_
        refine lv_icmp_le (tgt := 23) hx hb dX9_house_18 (by decide) (fun c_4 => ?_) (fun c_4 => ?_)
        · have kc_4 := bI_le rfl L_4 c_4
          refine lv_iload_n hx hb dX9_house_23 rfl (lv_at hl 2 rfl) ?_
          refine lv_if_ne (tgt := 36) hx hb dX9_house_24 (by decide) (fun c_5 => ?_) (fun c_5 => ?_)
          · have kc_5 := bI_ne rfl L_0 c_5
            refine lv_iload_n hx hb dX9_house_36 rfl (lv_at hl 2 rfl) ?_
            refine lv_iconst (v := 1) hx hb dX9_house_37 (by decide) ?_
            refine lv_icmp_ne (tgt := 50) hx hb dX9_house_38 (by decide) (fun c_6 => ?_) (fun c_6 => ?_)
            · have kc_6 := bI_ne rfl L_1 c_6
              refine lv_iload_n hx hb dX9_house_50 rfl (lv_at hl 2 rfl) ?_
              refine lv_iconst (v := 2) hx hb dX9_house_51 (by decide) ?_
              refine lv_icmp_ne (tgt := 64) hx hb dX9_house_52 (by decide) (fun c_7 => ?_) (fun c_7 => ?_)
              · have kc_7 := bI_ne rfl L_2 c_7
                refine lv_iload_n hx hb dX9_house_64 rfl (lv_at hl 2 rfl) ?_
                refine lv_iconst (v := 3) hx hb dX9_house_65 (by decide) ?_
                refine lv_icmp_ne (tgt := 78) hx hb dX9_house_66 (by decide) (fun c_8 => ?_) (fun c_8 => ?_)
                · have kc_8 := bI_ne rfl L_3 c_8
                  refine lv_aload_n hx hb dX9_house_78 rfl (lv_at hl 0 rfl) ?_
                  refine mg_0_57 hx hb hts hinX9 hown hK hP (hts (.fieldLink RX9 95 "CensusDeskModel" "bSheet" "[I") (List.mem_of_getElem? (i := 6) rfl)) dX9_house_79 ?_
                  refine lv_iload_n hx hb dX9_house_82 rfl (lv_at hl 1 rfl) ?_
                  refine ml_29 (f := (ψ 19)) hx hb hK hP (i := i) (vin rfl (by omega)) rfl dX9_house_83 ?_
                  refine lv_topi (fun z_9 ez_9 => ?_)
                  exact W.iret (v := z_9) hx hb hr (fun t ht hW => ⟨⟨z_9, (σ, φ, γ, ψ), rfl, ⟨rfl, rfl, trivial⟩, (by show va_P _ _ _ _; rw [ht]; exact hP)⟩, hS.F ht⟩) hS.2.2 dX9_house_84
                · have kc_8 := bI_eq rfl L_3 c_8
                  refine lv_aload_n hx hb dX9_house_69 rfl (lv_at hl 0 rfl) ?_
                  refine mg_0_56 hx hb hts hinX9 hown hK hP (hts (.fieldLink RX9 92 "CensusDeskModel" "bFirst" "[I") (List.mem_of_getElem? (i := 5) rfl)) dX9_house_70 ?_
                  refine lv_iload_n hx hb dX9_house_73 rfl (lv_at hl 1 rfl) ?_
                  refine ml_28 (f := (ψ 18)) hx hb hK hP (i := i) (vin rfl (by omega)) rfl dX9_house_74 ?_
                  refine lv_topi (fun z_10 ez_10 => ?_)
                  refine lv_goto (tgt := 84) hx hb dX9_house_75 (by decide) ?_
                  exact W.iret (v := z_10) hx hb hr (fun t ht hW => ⟨⟨z_10, (σ, φ, γ, ψ), rfl, ⟨rfl, rfl, trivial⟩, (by show va_P _ _ _ _; rw [ht]; exact hP)⟩, hS.F ht⟩) hS.2.2 dX9_house_84
              · have kc_7 := bI_eq rfl L_2 c_7
                refine lv_aload_n hx hb dX9_house_55 rfl (lv_at hl 0 rfl) ?_
                refine mg_0_55 hx hb hts hinX9 hown hK hP (hts (.fieldLink RX9 89 "CensusDeskModel" "bMany" "[I") (List.mem_of_getElem? (i := 4) rfl)) dX9_house_56 ?_
                refine lv_iload_n hx hb dX9_house_59 rfl (lv_at hl 1 rfl) ?_
                refine ml_27 (f := (φ 8)) hx hb hK hP (i := i) (vin rfl (by omega)) rfl dX9_house_60 ?_
                refine lv_topi (fun z_11 ez_11 => ?_)
                have tz_11 : (Int32.toInt z_11) = Int32.toInt ((φ 8) (Int32.toNatClampNeg i)) := congrArg Int32.toInt ez_11
                refine lv_goto (tgt := 84) hx hb dX9_house_61 (by decide) ?_
                exact W.iret (v := z_11) hx hb hr (fun t ht hW => ⟨⟨z_11, (σ, φ, γ, ψ), rfl, ⟨rfl, rfl, trivial⟩, (by show va_P _ _ _ _; rw [ht]; exact hP)⟩, hS.F ht⟩) hS.2.2 dX9_house_84
            · have kc_6 := bI_eq rfl L_1 c_6
              refine lv_aload_n hx hb dX9_house_41 rfl (lv_at hl 0 rfl) ?_
              refine mg_0_54 hx hb hts hinX9 hown hK hP (hts (.fieldLink RX9 86 "CensusDeskModel" "bTold" "[I") (List.mem_of_getElem? (i := 3) rfl)) dX9_house_42 ?_
              refine lv_iload_n hx hb dX9_house_45 rfl (lv_at hl 1 rfl) ?_
              refine ml_26 (f := (ψ 17)) hx hb hK hP (i := i) (vin rfl (by omega)) rfl dX9_house_46 ?_
              refine lv_topi (fun z_12 ez_12 => ?_)
              refine lv_goto (tgt := 84) hx hb dX9_house_47 (by decide) ?_
              exact W.iret (v := z_12) hx hb hr (fun t ht hW => ⟨⟨z_12, (σ, φ, γ, ψ), rfl, ⟨rfl, rfl, trivial⟩, (by show va_P _ _ _ _; rw [ht]; exact hP)⟩, hS.F ht⟩) hS.2.2 dX9_house_84
          · have kc_5 := bI_eq rfl L_0 c_5
            refine lv_aload_n hx hb dX9_house_27 rfl (lv_at hl 0 rfl) ?_
            refine mg_0_53 hx hb hts hinX9 hown hK hP (hts (.fieldLink RX9 83 "CensusDeskModel" "bNumber" "[I") (List.mem_of_getElem? (i := 2) rfl)) dX9_house_28 ?_
            refine lv_iload_n hx hb dX9_house_31 rfl (lv_at hl 1 rfl) ?_
            refine ml_25 (f := (ψ 16)) hx hb hK hP (i := i) (vin rfl (by omega)) rfl dX9_house_32 ?_
            refine lv_topi (fun z_13 ez_13 => ?_)
            refine lv_goto (tgt := 84) hx hb dX9_house_33 (by decide) ?_
            exact W.iret (v := z_13) hx hb hr (fun t ht hW => ⟨⟨z_13, (σ, φ, γ, ψ), rfl, ⟨rfl, rfl, trivial⟩, (by show va_P _ _ _ _; rw [ht]; exact hP)⟩, hS.F ht⟩) hS.2.2 dX9_house_84
        · have kc_4 := bI_nle rfl L_4 c_4
          refine lv_iconst (v := (-1)) hx hb dX9_house_21 (by decide) ?_
          exact W.iret (v := (-1)) hx hb hr (fun t ht hW => ⟨⟨(-1), (σ, φ, γ, ψ), rfl, ⟨rfl, rfl, trivial⟩, (by show va_P _ _ _ _; rw [ht]; exact hP)⟩, hS.F ht⟩) hS.2.2 dX9_house_22
set_option maxHeartbeats 4000000 in
set_option maxRecDepth 100000 in
theorem c_X9_person (l : Launch) (dC : Nat → ClassId) (dI : Nat → Nat → Nat) (a : Nat → Nat) (κ : Nat → ClassId) (σ : Nat → Int32) (φ : Nat → Nat → Int32) (γ : Nat → Int32) (ψ : Nat → Nat → Int32) (i : Int32) (what : Int32) (hk : 0 ≤ (Int32.toInt (σ 13)) ∧ (Int32.toInt (σ 13)) ≤ 60 ∧ 0 ≤ (Int32.toInt (σ 14)) ∧ (Int32.toInt (σ 14)) ≤ 300) : Met l yX9_person wsX9_person ({ frames := 0, cells := 0, slots := 0, locals := 0 } : Room) (va_Pc [.ref (a 0), .int i, .int what] (mPre dC dI a κ (σ, φ, γ, ψ))) (va_Qi (QI (fun r S F => σ = S ∧ φ = F ∧ True)) (mB dC dI a κ) (mA a)) 0 0 (mA a) := by
  refine Met.ofW (cc := cX9_person) (maxL := 3) (ret := (some .int)) (by decide) rfl ?_
  intro p e s m args below meth c s₁ B hml hv
  obtain ⟨rfl, hP, hK, hI, hN⟩ := hv
  have hx := B.exec
  have hb := B.bytes
  have hr := B.returns
  have hts := atoms_spec (ws := wsX9_person) B.pre
  have hown : s.vm.findClass RX9 = some m.cls := findClass_of_methodNamed B.named
  have hlocks := B.notSynchronized
  have hS : va_S (mA a) s.heap s.heap [] := va_S.rf
  have hinX9 : ∀ w ∈ wsX90, w ∈ wsX9_person := fun _ h => List.mem_cons_of_mem _ (List.mem_append_right _ h)
  have hl := lv_entry ([.ref (a 0), .int i, .int what]) (n := 3) (Nat.le_of_ble_eq_true rfl)
  rw [lg_entry_eq]
  generalize (lg_sl ([.ref (a 0), .int i, .int what]) ++ List.replicate (3 - (lg_sl ([.ref (a 0), .int i, .int what])).length) Slot.unset).toArray = ls at hl ⊢
  have hl : lv_has ls 3 [(0, .ref (a 0)), (1, .int i), (2, .int what)] := hl
  refine lv_iload_n hx hb dX9_person_0 rfl (lv_at hl 1 rfl) ?_
  refine lv_if_lt (tgt := 21) hx hb dX9_person_1 (by decide) (fun c_1 => ?_) (fun c_1 => ?_)
  · have kc_1 := bI_lt rfl L_0 c_1
    refine lv_iconst (v := (-1)) hx hb dX9_person_21 (by decide) ?_
    exact W.iret (v := (-1)) hx hb hr (fun t ht hW => ⟨⟨(-1), (σ, φ, γ, ψ), rfl, ⟨rfl, rfl, trivial⟩, (by show va_P _ _ _ _; rw [ht]; exact hP)⟩, hS.F ht⟩) hS.2.2 dX9_person_22
  · have kc_1 := bI_nlt rfl L_0 c_1
    refine lv_iload_n hx hb dX9_person_4 rfl (lv_at hl 1 rfl) ?_
    refine lv_aload_n hx hb dX9_person_5 rfl (lv_at hl 0 rfl) ?_
    refine mg_0_65 (v := (σ 14)) hx hb hts hinX9 hown hK hP (hts (.fieldLink RX9 298 "CensusDeskModel" "bookedPersons" "I") (List.mem_of_getElem? (i := 1) rfl)) rfl dX9_person_6 ?_
    refine lv_icmp_ge (tgt := 21) hx hb dX9_person_9 (by decide) (fun c_2 => ?_) (fun c_2 => ?_)
    · have kc_2 := bI_le rfl rfl c_2
      refine lv_iconst (v := (-1)) hx hb dX9_person_21 (by decide) ?_
      exact W.iret (v := (-1)) hx hb hr (fun t ht hW => ⟨⟨(-1), (σ, φ, γ, ψ), rfl, ⟨rfl, rfl, trivial⟩, (by show va_P _ _ _ _; rw [ht]; exact hP)⟩, hS.F ht⟩) hS.2.2 dX9_person_22
    · have kc_2 := bI_nle rfl rfl c_2
      refine lv_iload_n hx hb dX9_person_12 rfl (lv_at hl 2 rfl) ?_
      refine lv_if_lt (tgt := 21) hx hb dX9_person_13 (by decide) (fun c_3 => ?_) (fun c_3 => ?_)
      · have kc_3 := bI_lt rfl L_0 c_3
        refine lv_iconst (v := (-1)) hx hb dX9_person_21 (by decide) ?_
        exact W.iret (v := (-1)) hx hb hr (fun t ht hW => ⟨⟨(-1), (σ, φ, γ, ψ), rfl, ⟨rfl, rfl, trivial⟩, (by show va_P _ _ _ _; rw [ht]; exact hP)⟩, hS.F ht⟩) hS.2.2 dX9_person_22
      · have kc_3 := bI_nlt rfl L_0 c_3
        refine lv_iload_n hx hb dX9_person_16 rfl (lv_at hl 2 rfl) ?_
        refine lv_iconst (v := 4) hx hb dX9_person_17 (by decide) ?_
        refine lv_icmp_le (tgt := 23) hx hb dX9_person_18 (by decide) (fun c_4 => ?_) (fun c_4 => ?_)
        · have kc_4 := bI_le rfl L_4 c_4
          refine lv_iload_n hx hb dX9_person_23 rfl (lv_at hl 2 rfl) ?_
          refine lv_if_ne (tgt := 36) hx hb dX9_person_24 (by decide) (fun c_5 => ?_) (fun c_5 => ?_)
          · have kc_5 := bI_ne rfl L_0 c_5
            refine lv_iload_n hx hb dX9_person_36 rfl (lv_at hl 2 rfl) ?_
            refine lv_iconst (v := 1) hx hb dX9_person_37 (by decide) ?_
            refine lv_icmp_ne (tgt := 50) hx hb dX9_person_38 (by decide) (fun c_6 => ?_) (fun c_6 => ?_)
            · have kc_6 := bI_ne rfl L_1 c_6
              refine lv_iload_n hx hb dX9_person_50 rfl (lv_at hl 2 rfl) ?_
              refine lv_iconst (v := 2) hx hb dX9_person_51 (by decide) ?_
              refine lv_icmp_ne (tgt := 64) hx hb dX9_person_52 (by decide) (fun c_7 => ?_) (fun c_7 => ?_)
              · have kc_7 := bI_ne rfl L_2 c_7
                refine lv_iload_n hx hb dX9_person_64 rfl (lv_at hl 2 rfl) ?_
                refine lv_iconst (v := 3) hx hb dX9_person_65 (by decide) ?_
                refine lv_icmp_ne (tgt := 78) hx hb dX9_person_66 (by decide) (fun c_8 => ?_) (fun c_8 => ?_)
                · have kc_8 := bI_ne rfl L_3 c_8
                  refine lv_aload_n hx hb dX9_person_78 rfl (lv_at hl 0 rfl) ?_
                  refine mg_0_63 hx hb hts hinX9 hown hK hP (hts (.fieldLink RX9 110 "CensusDeskModel" "bHouse" "[I") (List.mem_of_getElem? (i := 6) rfl)) dX9_person_79 ?_
                  refine lv_iload_n hx hb dX9_person_82 rfl (lv_at hl 1 rfl) ?_
                  refine ml_34 (f := (ψ 21)) hx hb hK hP (i := i) (vin rfl (by omega)) rfl dX9_person_83 ?_
                  refine lv_topi (fun z_9 ez_9 => ?_)
                  exact W.iret (v := z_9) hx hb hr (fun t ht hW => ⟨⟨z_9, (σ, φ, γ, ψ), rfl, ⟨rfl, rfl, trivial⟩, (by show va_P _ _ _ _; rw [ht]; exact hP)⟩, hS.F ht⟩) hS.2.2 dX9_person_84
                · have kc_8 := bI_eq rfl L_3 c_8
                  refine lv_aload_n hx hb dX9_person_69 rfl (lv_at hl 0 rfl) ?_
                  refine mg_0_62 hx hb hts hinX9 hown hK hP (hts (.fieldLink RX9 107 "CensusDeskModel" "bSize" "[I") (List.mem_of_getElem? (i := 5) rfl)) dX9_person_70 ?_
                  refine lv_iload_n hx hb dX9_person_73 rfl (lv_at hl 1 rfl) ?_
                  refine ml_33 (f := (φ 11)) hx hb hK hP (i := i) (vin rfl (by omega)) rfl dX9_person_74 ?_
                  refine lv_topi (fun z_10 ez_10 => ?_)
                  have tz_10 : (Int32.toInt z_10) = Int32.toInt ((φ 11) (Int32.toNatClampNeg i)) := congrArg Int32.toInt ez_10
                  refine lv_goto (tgt := 84) hx hb dX9_person_75 (by decide) ?_
                  exact W.iret (v := z_10) hx hb hr (fun t ht hW => ⟨⟨z_10, (σ, φ, γ, ψ), rfl, ⟨rfl, rfl, trivial⟩, (by show va_P _ _ _ _; rw [ht]; exact hP)⟩, hS.F ht⟩) hS.2.2 dX9_person_84
              · have kc_7 := bI_eq rfl L_2 c_7
                refine lv_aload_n hx hb dX9_person_55 rfl (lv_at hl 0 rfl) ?_
                refine mg_0_61 hx hb hts hinX9 hown hK hP (hts (.fieldLink RX9 104 "CensusDeskModel" "bTrade" "[I") (List.mem_of_getElem? (i := 4) rfl)) dX9_person_56 ?_
                refine lv_iload_n hx hb dX9_person_59 rfl (lv_at hl 1 rfl) ?_
                refine ml_32 (f := (ψ 20)) hx hb hK hP (i := i) (vin rfl (by omega)) rfl dX9_person_60 ?_
                refine lv_topi (fun z_11 ez_11 => ?_)
                refine lv_goto (tgt := 84) hx hb dX9_person_61 (by decide) ?_
                exact W.iret (v := z_11) hx hb hr (fun t ht hW => ⟨⟨z_11, (σ, φ, γ, ψ), rfl, ⟨rfl, rfl, trivial⟩, (by show va_P _ _ _ _; rw [ht]; exact hP)⟩, hS.F ht⟩) hS.2.2 dX9_person_84
            · have kc_6 := bI_eq rfl L_1 c_6
              refine lv_aload_n hx hb dX9_person_41 rfl (lv_at hl 0 rfl) ?_
              refine mg_0_60 hx hb hts hinX9 hown hK hP (hts (.fieldLink RX9 101 "CensusDeskModel" "bAge" "[I") (List.mem_of_getElem? (i := 3) rfl)) dX9_person_42 ?_
              refine lv_iload_n hx hb dX9_person_45 rfl (lv_at hl 1 rfl) ?_
              refine ml_31 (f := (φ 10)) hx hb hK hP (i := i) (vin rfl (by omega)) rfl dX9_person_46 ?_
              refine lv_topi (fun z_12 ez_12 => ?_)
              have tz_12 : (Int32.toInt z_12) = Int32.toInt ((φ 10) (Int32.toNatClampNeg i)) := congrArg Int32.toInt ez_12
              refine lv_goto (tgt := 84) hx hb dX9_person_47 (by decide) ?_
              exact W.iret (v := z_12) hx hb hr (fun t ht hW => ⟨⟨z_12, (σ, φ, γ, ψ), rfl, ⟨rfl, rfl, trivial⟩, (by show va_P _ _ _ _; rw [ht]; exact hP)⟩, hS.F ht⟩) hS.2.2 dX9_person_84
          · have kc_5 := bI_eq rfl L_0 c_5
            refine lv_aload_n hx hb dX9_person_27 rfl (lv_at hl 0 rfl) ?_
            refine mg_0_59 hx hb hts hinX9 hown hK hP (hts (.fieldLink RX9 98 "CensusDeskModel" "bSex" "[I") (List.mem_of_getElem? (i := 2) rfl)) dX9_person_28 ?_
            refine lv_iload_n hx hb dX9_person_31 rfl (lv_at hl 1 rfl) ?_
            refine ml_30 (f := (φ 9)) hx hb hK hP (i := i) (vin rfl (by omega)) rfl dX9_person_32 ?_
            refine lv_topi (fun z_13 ez_13 => ?_)
            have tz_13 : (Int32.toInt z_13) = Int32.toInt ((φ 9) (Int32.toNatClampNeg i)) := congrArg Int32.toInt ez_13
            refine lv_goto (tgt := 84) hx hb dX9_person_33 (by decide) ?_
            exact W.iret (v := z_13) hx hb hr (fun t ht hW => ⟨⟨z_13, (σ, φ, γ, ψ), rfl, ⟨rfl, rfl, trivial⟩, (by show va_P _ _ _ _; rw [ht]; exact hP)⟩, hS.F ht⟩) hS.2.2 dX9_person_84
        · have kc_4 := bI_nle rfl L_4 c_4
          refine lv_iconst (v := (-1)) hx hb dX9_person_21 (by decide) ?_
          exact W.iret (v := (-1)) hx hb hr (fun t ht hW => ⟨⟨(-1), (σ, φ, γ, ψ), rfl, ⟨rfl, rfl, trivial⟩, (by show va_P _ _ _ _; rw [ht]; exact hP)⟩, hS.F ht⟩) hS.2.2 dX9_person_22
set_option maxHeartbeats 4000000 in
set_option maxRecDepth 100000 in
theorem c_X9_sign (l : Launch) (dC : Nat → ClassId) (dI : Nat → Nat → Nat) (a : Nat → Nat) (κ : Nat → ClassId) (σ : Nat → Int32) (φ : Nat → Nat → Int32) (γ : Nat → Int32) (ψ : Nat → Nat → Int32) (i : Int32) (k : Int32) (p_m_bSize : PtR 0 30 (φ 11)) (hk : 0 ≤ (Int32.toInt (σ 13)) ∧ (Int32.toInt (σ 13)) ≤ 60 ∧ 0 ≤ (Int32.toInt (σ 14)) ∧ (Int32.toInt (σ 14)) ≤ 300) : Met l yX9_sign wsX9_sign ({ frames := 0, cells := 0, slots := 0, locals := 0 } : Room) (va_Pc [.ref (a 0), .int i, .int k] (mPre dC dI a κ (σ, φ, γ, ψ))) (va_Qi (QI (fun r S F => σ = S ∧ φ = F ∧ True)) (mB dC dI a κ) (mA a)) 0 0 (mA a) := by
  refine Met.ofW (cc := cX9_sign) (maxL := 3) (ret := (some .int)) (by decide) rfl ?_
  intro p e s m args below meth c s₁ B hml hv
  obtain ⟨rfl, hP, hK, hI, hN⟩ := hv
  have hx := B.exec
  have hb := B.bytes
  have hr := B.returns
  have hts := atoms_spec (ws := wsX9_sign) B.pre
  have hown : s.vm.findClass RX9 = some m.cls := findClass_of_methodNamed B.named
  have hlocks := B.notSynchronized
  have hS : va_S (mA a) s.heap s.heap [] := va_S.rf
  have hinX9 : ∀ w ∈ wsX90, w ∈ wsX9_sign := fun _ h => List.mem_cons_of_mem _ (List.mem_append_right _ h)
  have hl := lv_entry ([.ref (a 0), .int i, .int k]) (n := 3) (Nat.le_of_ble_eq_true rfl)
  rw [lg_entry_eq]
  generalize (lg_sl ([.ref (a 0), .int i, .int k]) ++ List.replicate (3 - (lg_sl ([.ref (a 0), .int i, .int k])).length) Slot.unset).toArray = ls at hl ⊢
  have hl : lv_has ls 3 [(0, .ref (a 0)), (1, .int i), (2, .int k)] := hl
  refine lv_iload_n hx hb dX9_sign_0 rfl (lv_at hl 1 rfl) ?_
  refine lv_if_lt (tgt := 44) hx hb dX9_sign_1 (by decide) (fun c_1 => ?_) (fun c_1 => ?_)
  · have kc_1 := bI_lt rfl L_0 c_1
    refine lv_iconst (v := 0) hx hb dX9_sign_44 (by decide) ?_
    exact W.iret (v := 0) hx hb hr (fun t ht hW => ⟨⟨0, (σ, φ, γ, ψ), rfl, ⟨rfl, rfl, trivial⟩, (by show va_P _ _ _ _; rw [ht]; exact hP)⟩, hS.F ht⟩) hS.2.2 dX9_sign_45
  · have kc_1 := bI_nlt rfl L_0 c_1
    refine lv_iload_n hx hb dX9_sign_4 rfl (lv_at hl 1 rfl) ?_
    refine lv_aload_n hx hb dX9_sign_5 rfl (lv_at hl 0 rfl) ?_
    refine mg_0_65 (v := (σ 14)) hx hb hts hinX9 hown hK hP (hts (.fieldLink RX9 298 "CensusDeskModel" "bookedPersons" "I") (List.mem_of_getElem? (i := 1) rfl)) rfl dX9_sign_6 ?_
    refine lv_icmp_ge (tgt := 44) hx hb dX9_sign_9 (by decide) (fun c_2 => ?_) (fun c_2 => ?_)
    · have kc_2 := bI_le rfl rfl c_2
      refine lv_iconst (v := 0) hx hb dX9_sign_44 (by decide) ?_
      exact W.iret (v := 0) hx hb hr (fun t ht hW => ⟨⟨0, (σ, φ, γ, ψ), rfl, ⟨rfl, rfl, trivial⟩, (by show va_P _ _ _ _; rw [ht]; exact hP)⟩, hS.F ht⟩) hS.2.2 dX9_sign_45
    · have kc_2 := bI_nle rfl rfl c_2
      refine lv_iload_n hx hb dX9_sign_12 rfl (lv_at hl 2 rfl) ?_
      refine lv_if_lt (tgt := 44) hx hb dX9_sign_13 (by decide) (fun c_3 => ?_) (fun c_3 => ?_)
      · have kc_3 := bI_lt rfl L_0 c_3
        refine lv_iconst (v := 0) hx hb dX9_sign_44 (by decide) ?_
        exact W.iret (v := 0) hx hb hr (fun t ht hW => ⟨⟨0, (σ, φ, γ, ψ), rfl, ⟨rfl, rfl, trivial⟩, (by show va_P _ _ _ _; rw [ht]; exact hP)⟩, hS.F ht⟩) hS.2.2 dX9_sign_45
      · have kc_3 := bI_nlt rfl L_0 c_3
        refine lv_iload_n hx hb dX9_sign_16 rfl (lv_at hl 2 rfl) ?_
        refine lv_aload_n hx hb dX9_sign_17 rfl (lv_at hl 0 rfl) ?_
        refine mg_0_62 hx hb hts hinX9 hown hK hP (hts (.fieldLink RX9 107 "CensusDeskModel" "bSize" "[I") (List.mem_of_getElem? (i := 2) rfl)) dX9_sign_18 ?_
        refine lv_iload_n hx hb dX9_sign_21 rfl (lv_at hl 1 rfl) ?_
        refine ml_33 (f := (φ 11)) hx hb hK hP (i := i) (vin rfl (by omega)) rfl dX9_sign_22 ?_
        refine lv_topi (fun z_4 ez_4 => ?_)
        have tz_4 : (Int32.toInt z_4) = Int32.toInt ((φ 11) (Int32.toNatClampNeg i)) := congrArg Int32.toInt ez_4
        have pz_4 : 0 ≤ (Int32.toInt z_4) ∧ (Int32.toInt z_4) ≤ 30 := p_m_bSize.of ez_4
        refine lv_icmp_ge (tgt := 44) hx hb dX9_sign_23 (by decide) (fun c_5 => ?_) (fun c_5 => ?_)
        · have kc_5 := bI_le rfl rfl c_5
          refine lv_iconst (v := 0) hx hb dX9_sign_44 (by decide) ?_
          exact W.iret (v := 0) hx hb hr (fun t ht hW => ⟨⟨0, (σ, φ, γ, ψ), rfl, ⟨rfl, rfl, trivial⟩, (by show va_P _ _ _ _; rw [ht]; exact hP)⟩, hS.F ht⟩) hS.2.2 dX9_sign_45
        · have kc_5 := bI_nle rfl rfl c_5
          refine lv_aload_n hx hb dX9_sign_26 rfl (lv_at hl 0 rfl) ?_
          refine mg_0_64 hx hb hts hinX9 hown hK hP (hts (.fieldLink RX9 113 "CensusDeskModel" "bName" "[B") (List.mem_of_getElem? (i := 3) rfl)) dX9_sign_27 ?_
          refine lv_bipush (v := 30) hx hb dX9_sign_30 (by decide) ?_
          refine lv_iload_n hx hb dX9_sign_32 rfl (lv_at hl 1 rfl) ?_
          refine lv_imul hx hb dX9_sign_33 ?_
          refine lv_topi (fun z_6 ez_6 => ?_)
          have tz_6 : (Int32.toInt z_6) = 30 * (Int32.toInt i) := aI_mul L_30 rfl ez_6 (by have := rng i; omega)
          refine lv_iload_n hx hb dX9_sign_34 rfl (lv_at hl 2 rfl) ?_
          refine lv_iadd hx hb dX9_sign_35 ?_
          refine lv_topi (fun z_7 ez_7 => ?_)
          have tz_7 : (Int32.toInt z_7) = (Int32.toInt z_6) + (Int32.toInt k) := aI_add rfl rfl ez_7 (by have := rng z_6; have := rng k; omega)
          refine ml_35 (f := (ψ 22)) hx hb hK hP (i := z_7) (vin rfl (by omega)) rfl dX9_sign_36 ?_
          refine lv_topi (fun z_8 ez_8 => ?_)
          refine lv_sipush (v := 255) hx hb dX9_sign_37 (by decide) ?_
          refine lv_iand hx hb dX9_sign_40 ?_
          refine lv_topi (fun z_9 ez_9 => ?_)
          refine lv_goto (tgt := 45) hx hb dX9_sign_41 (by decide) ?_
          exact W.iret (v := z_9) hx hb hr (fun t ht hW => ⟨⟨z_9, (σ, φ, γ, ψ), rfl, ⟨rfl, rfl, trivial⟩, (by show va_P _ _ _ _; rw [ht]; exact hP)⟩, hS.F ht⟩) hS.2.2 dX9_sign_45
set_option maxHeartbeats 4000000 in
set_option maxRecDepth 100000 in
theorem c_X9_byteOf (l : Launch) (dC : Nat → ClassId) (dI : Nat → Nat → Nat) (a : Nat → Nat) (κ : Nat → ClassId) (σ : Nat → Int32) (φ : Nat → Nat → Int32) (γ : Nat → Int32) (ψ : Nat → Nat → Int32) (na : Int32) (nb : Int32) (nc : Int32) (nd : Int32) (k : Int32) : Met l yX9_byteOf wsX9_byteOf ({ frames := 0, cells := 0, slots := 0, locals := 0 } : Room) (va_Pc [.int na, .int nb, .int nc, .int nd, .int k] (mPre dC dI a κ (σ, φ, γ, ψ))) (va_Qi (QI (fun r S F => σ = S ∧ φ = F ∧ True)) (mB dC dI a κ) (mA a)) 0 0 (mA a) := by
  refine Met.ofW (cc := cX9_byteOf) (maxL := 6) (ret := (some .int)) (by decide) rfl ?_
  intro p e s m args below meth c s₁ B hml hv
  obtain ⟨rfl, hP, hK, hI, hN⟩ := hv
  have hx := B.exec
  have hb := B.bytes
  have hr := B.returns
  have hts := atoms_spec (ws := wsX9_byteOf) B.pre
  have hown : s.vm.findClass RX9 = some m.cls := findClass_of_methodNamed B.named
  have hlocks := B.notSynchronized
  have hS : va_S (mA a) s.heap s.heap [] := va_S.rf
  have hl := lv_entry ([.int na, .int nb, .int nc, .int nd, .int k]) (n := 6) (Nat.le_of_ble_eq_true rfl)
  rw [lg_entry_eq]
  generalize (lg_sl ([.int na, .int nb, .int nc, .int nd, .int k]) ++ List.replicate (6 - (lg_sl ([.int na, .int nb, .int nc, .int nd, .int k])).length) Slot.unset).toArray = ls at hl ⊢
  have hl : lv_has ls 6 [(0, .int na), (1, .int nb), (2, .int nc), (3, .int nd), (4, .int k)] := hl
  refine lv_iload hx hb dX9_byteOf_0 (lv_at hl 4 rfl) ?_
  refine lv_iconst (v := 4) hx hb dX9_byteOf_2 (by decide) ?_
  refine lv_icmp_ge (tgt := 10) hx hb dX9_byteOf_3 (by decide) (fun c_1 => ?_) (fun c_1 => ?_)
  · have kc_1 := bI_le L_4 rfl c_1
    refine lv_iload hx hb dX9_byteOf_10 (lv_at hl 4 rfl) ?_
    refine lv_bipush (v := 8) hx hb dX9_byteOf_12 (by decide) ?_
    refine lv_icmp_ge (tgt := 21) hx hb dX9_byteOf_14 (by decide) (fun c_2 => ?_) (fun c_2 => ?_)
    · have kc_2 := bI_le L_8 rfl c_2
      refine lv_iload hx hb dX9_byteOf_21 (lv_at hl 4 rfl) ?_
      refine lv_bipush (v := 12) hx hb dX9_byteOf_23 (by decide) ?_
      refine lv_icmp_ge (tgt := 32) hx hb dX9_byteOf_25 (by decide) (fun c_3 => ?_) (fun c_3 => ?_)
      · have kc_3 := bI_le L_12 rfl c_3
        refine lv_iload_n hx hb dX9_byteOf_32 rfl (lv_at hl 3 rfl) ?_
        refine lv_istore (lv' := [(5, .int nd), (0, .int na), (1, .int nb), (2, .int nc), (3, .int nd), (4, .int k)]) hx hb dX9_byteOf_33 hl (by decide) rfl ?_
        clear hl; intro ls hl
        refine lv_iload hx hb dX9_byteOf_35 (lv_at hl 0 rfl) ?_
        refine lv_bipush (v := 24) hx hb dX9_byteOf_37 (by decide) ?_
        refine lv_bipush (v := 8) hx hb dX9_byteOf_39 (by decide) ?_
        refine lv_iload hx hb dX9_byteOf_41 (lv_at hl 5 rfl) ?_
        refine lv_iconst (v := 4) hx hb dX9_byteOf_43 (by decide) ?_
        refine lv_irem hx hb dX9_byteOf_44 (by decide) ?_
        refine lv_topi (fun z_4 ez_4 => ?_)
        refine lv_imul hx hb dX9_byteOf_45 ?_
        refine lv_topi (fun z_5 ez_5 => ?_)
        refine lv_isub hx hb dX9_byteOf_46 ?_
        refine lv_topi (fun z_6 ez_6 => ?_)
        refine lv_ishr hx hb dX9_byteOf_47 ?_
        refine lv_topi (fun z_7 ez_7 => ?_)
        refine lv_sipush (v := 255) hx hb dX9_byteOf_48 (by decide) ?_
        refine lv_iand hx hb dX9_byteOf_51 ?_
        refine lv_topi (fun z_8 ez_8 => ?_)
        exact W.iret (v := z_8) hx hb hr (fun t ht hW => ⟨⟨z_8, (σ, φ, γ, ψ), rfl, ⟨rfl, rfl, trivial⟩, (by show va_P _ _ _ _; rw [ht]; exact hP)⟩, hS.F ht⟩) hS.2.2 dX9_byteOf_52
      · have kc_3 := bI_nle L_12 rfl c_3
        refine lv_iload_n hx hb dX9_byteOf_28 rfl (lv_at hl 2 rfl) ?_
        refine lv_goto (tgt := 33) hx hb dX9_byteOf_29 (by decide) ?_
        refine lv_istore (lv' := [(5, .int nc), (0, .int na), (1, .int nb), (2, .int nc), (3, .int nd), (4, .int k)]) hx hb dX9_byteOf_33 hl (by decide) rfl ?_
        clear hl; intro ls hl
        refine lv_iload hx hb dX9_byteOf_35 (lv_at hl 0 rfl) ?_
        refine lv_bipush (v := 24) hx hb dX9_byteOf_37 (by decide) ?_
        refine lv_bipush (v := 8) hx hb dX9_byteOf_39 (by decide) ?_
        refine lv_iload hx hb dX9_byteOf_41 (lv_at hl 5 rfl) ?_
        refine lv_iconst (v := 4) hx hb dX9_byteOf_43 (by decide) ?_
        refine lv_irem hx hb dX9_byteOf_44 (by decide) ?_
        refine lv_topi (fun z_9 ez_9 => ?_)
        refine lv_imul hx hb dX9_byteOf_45 ?_
        refine lv_topi (fun z_10 ez_10 => ?_)
        refine lv_isub hx hb dX9_byteOf_46 ?_
        refine lv_topi (fun z_11 ez_11 => ?_)
        refine lv_ishr hx hb dX9_byteOf_47 ?_
        refine lv_topi (fun z_12 ez_12 => ?_)
        refine lv_sipush (v := 255) hx hb dX9_byteOf_48 (by decide) ?_
        refine lv_iand hx hb dX9_byteOf_51 ?_
        refine lv_topi (fun z_13 ez_13 => ?_)
        exact W.iret (v := z_13) hx hb hr (fun t ht hW => ⟨⟨z_13, (σ, φ, γ, ψ), rfl, ⟨rfl, rfl, trivial⟩, (by show va_P _ _ _ _; rw [ht]; exact hP)⟩, hS.F ht⟩) hS.2.2 dX9_byteOf_52
    · have kc_2 := bI_nle L_8 rfl c_2
      refine lv_iload_n hx hb dX9_byteOf_17 rfl (lv_at hl 1 rfl) ?_
      refine lv_goto (tgt := 33) hx hb dX9_byteOf_18 (by decide) ?_
      refine lv_istore (lv' := [(5, .int nb), (0, .int na), (1, .int nb), (2, .int nc), (3, .int nd), (4, .int k)]) hx hb dX9_byteOf_33 hl (by decide) rfl ?_
      clear hl; intro ls hl
      refine lv_iload hx hb dX9_byteOf_35 (lv_at hl 0 rfl) ?_
      refine lv_bipush (v := 24) hx hb dX9_byteOf_37 (by decide) ?_
      refine lv_bipush (v := 8) hx hb dX9_byteOf_39 (by decide) ?_
      refine lv_iload hx hb dX9_byteOf_41 (lv_at hl 5 rfl) ?_
      refine lv_iconst (v := 4) hx hb dX9_byteOf_43 (by decide) ?_
      refine lv_irem hx hb dX9_byteOf_44 (by decide) ?_
      refine lv_topi (fun z_14 ez_14 => ?_)
      refine lv_imul hx hb dX9_byteOf_45 ?_
      refine lv_topi (fun z_15 ez_15 => ?_)
      refine lv_isub hx hb dX9_byteOf_46 ?_
      refine lv_topi (fun z_16 ez_16 => ?_)
      refine lv_ishr hx hb dX9_byteOf_47 ?_
      refine lv_topi (fun z_17 ez_17 => ?_)
      refine lv_sipush (v := 255) hx hb dX9_byteOf_48 (by decide) ?_
      refine lv_iand hx hb dX9_byteOf_51 ?_
      refine lv_topi (fun z_18 ez_18 => ?_)
      exact W.iret (v := z_18) hx hb hr (fun t ht hW => ⟨⟨z_18, (σ, φ, γ, ψ), rfl, ⟨rfl, rfl, trivial⟩, (by show va_P _ _ _ _; rw [ht]; exact hP)⟩, hS.F ht⟩) hS.2.2 dX9_byteOf_52
  · have kc_1 := bI_nle L_4 rfl c_1
    refine lv_iload_n hx hb dX9_byteOf_6 rfl (lv_at hl 0 rfl) ?_
    refine lv_goto (tgt := 33) hx hb dX9_byteOf_7 (by decide) ?_
    refine lv_istore (lv' := [(5, .int na), (0, .int na), (1, .int nb), (2, .int nc), (3, .int nd), (4, .int k)]) hx hb dX9_byteOf_33 hl (by decide) rfl ?_
    clear hl; intro ls hl
    refine lv_iload hx hb dX9_byteOf_35 (lv_at hl 0 rfl) ?_
    refine lv_bipush (v := 24) hx hb dX9_byteOf_37 (by decide) ?_
    refine lv_bipush (v := 8) hx hb dX9_byteOf_39 (by decide) ?_
    refine lv_iload hx hb dX9_byteOf_41 (lv_at hl 5 rfl) ?_
    refine lv_iconst (v := 4) hx hb dX9_byteOf_43 (by decide) ?_
    refine lv_irem hx hb dX9_byteOf_44 (by decide) ?_
    refine lv_topi (fun z_19 ez_19 => ?_)
    refine lv_imul hx hb dX9_byteOf_45 ?_
    refine lv_topi (fun z_20 ez_20 => ?_)
    refine lv_isub hx hb dX9_byteOf_46 ?_
    refine lv_topi (fun z_21 ez_21 => ?_)
    refine lv_ishr hx hb dX9_byteOf_47 ?_
    refine lv_topi (fun z_22 ez_22 => ?_)
    refine lv_sipush (v := 255) hx hb dX9_byteOf_48 (by decide) ?_
    refine lv_iand hx hb dX9_byteOf_51 ?_
    refine lv_topi (fun z_23 ez_23 => ?_)
    exact W.iret (v := z_23) hx hb hr (fun t ht hW => ⟨⟨z_23, (σ, φ, γ, ψ), rfl, ⟨rfl, rfl, trivial⟩, (by show va_P _ _ _ _; rw [ht]; exact hP)⟩, hS.F ht⟩) hS.2.2 dX9_byteOf_52
set_option maxHeartbeats 4000000 in
set_option maxRecDepth 100000 in
theorem c_X9_named (l : Launch) (dC : Nat → ClassId) (dI : Nat → Nat → Nat) (a : Nat → Nat) (κ : Nat → ClassId) (σ : Nat → Int32) (φ : Nat → Nat → Int32) (γ : Nat → Int32) (ψ : Nat → Nat → Int32) (na : Int32) (nb : Int32) (nc : Int32) (nd : Int32) (hk : 0 ≤ (Int32.toInt (σ 13)) ∧ (Int32.toInt (σ 13)) ≤ 60 ∧ 0 ≤ (Int32.toInt (σ 14)) ∧ (Int32.toInt (σ 14)) ≤ 300) : Met l yX9_named wsX9_named ({ frames := 1, cells := 0, slots := 0, locals := 25 } : Room) (va_Pc [.ref (a 0), .int na, .int nb, .int nc, .int nd] (mPre dC dI a κ (σ, φ, γ, ψ))) (va_Qi (QI (fun r S F => σ = S ∧ φ = F ∧ True)) (mB dC dI a κ) (mA a)) 0 0 (mA a) := by
  refine Met.ofW (cc := cX9_named) (maxL := 10) (ret := (some .int)) (by decide) rfl ?_
  intro p e s m args below meth c s₁ B hml hv
  obtain ⟨rfl, hP, hK, hI, hN⟩ := hv
  have hx := B.exec
  have hb := B.bytes
  have hr := B.returns
  have hts := atoms_spec (ws := wsX9_named) B.pre
  have hown : s.vm.findClass RX9 = some m.cls := findClass_of_methodNamed B.named
  have hlocks := B.notSynchronized
  have hS : va_S (mA a) s.heap s.heap [] := va_S.rf
  have hinX9 : ∀ w ∈ wsX90, w ∈ wsX9_named := fun _ h => List.mem_cons_of_mem _ (List.mem_append_right _ h)
  have hl := lv_entry ([.ref (a 0), .int na, .int nb, .int nc, .int nd]) (n := 10) (Nat.le_of_ble_eq_true rfl)
  rw [lg_entry_eq]
  generalize (lg_sl ([.ref (a 0), .int na, .int nb, .int nc, .int nd]) ++ List.replicate (10 - (lg_sl ([.ref (a 0), .int na, .int nb, .int nc, .int nd])).length) Slot.unset).toArray = ls at hl ⊢
  have hl : lv_has ls 10 [(0, .ref (a 0)), (1, .int na), (2, .int nb), (3, .int nc), (4, .int nd)] := hl
  refine k_gen (fun QQ eQ => ?_)
  have J35 : ∀ (n35 : Nat), ∀ (n : Int32) (mn : Int32) (q : Int32) (γ : Nat → Int32) (ψ : Nat → Nat → Int32) (H : Heap) (locs : List Loc) (ls : Array Slot), (0 ≤ (Int32.toInt n) ∧ (Int32.toInt n) ≤ 16 ∧ 0 ≤ (Int32.toInt q)) → (((Int32.toInt (σ 14)) - (Int32.toInt q)).toNat < n35) → va_P (dC, dI) vwCl (mw a κ (σ, φ, γ, ψ)) H → va_S (mA a) s.heap H locs → lv_has ls 10 [(0, .ref (a 0)), (1, .int na), (2, .int nb), (3, .int nc), (4, .int nd), (5, .int n), (6, .int mn), (7, .int q)] → W p l e ({ frames := 1, cells := 0, slots := 0, locals := 25 } : Room) s m ([.ref (a 0), .int na, .int nb, .int nc, .int nd] : List Value).toArray below meth c H locs 0 0 QQ (F0 m 35 ls []) := by
    intro n35
    induction n35 with
    | zero =>
      intro n mn q γ ψ H locs ls v0 hm
      exact absurd hm (Nat.not_lt_zero _)
    | succ n35 ih35 =>
      intro n mn q γ ψ H locs ls v0 hm hP hS hl
      have J71 : ∀ (n71 : Nat), ∀ (n : Int32) (mn : Int32) (q : Int32) (same : Int32) (k : Int32) (γ : Nat → Int32) (ψ : Nat → Nat → Int32) (H : Heap) (locs : List Loc) (ls : Array Slot), (0 ≤ (Int32.toInt n) ∧ (Int32.toInt n) ≤ 16 ∧ 0 ≤ (Int32.toInt q) ∧ (Int32.toInt q) < (Int32.toInt (σ 14)) ∧ 0 ≤ (Int32.toInt k) ∧ ((Int32.toInt (σ 14)) - (Int32.toInt q)).toNat < n35 + 1) → ((16 - (Int32.toInt k)).toNat < n71) → va_P (dC, dI) vwCl (mw a κ (σ, φ, γ, ψ)) H → va_S (mA a) s.heap H locs → lv_has ls 10 [(0, .ref (a 0)), (1, .int na), (2, .int nb), (3, .int nc), (4, .int nd), (5, .int n), (6, .int mn), (7, .int q), (8, .int same), (9, .int k)] → W p l e ({ frames := 1, cells := 0, slots := 0, locals := 25 } : Room) s m ([.ref (a 0), .int na, .int nb, .int nc, .int nd] : List Value).toArray below meth c H locs 0 0 QQ (F0 m 71 ls []) := by
        intro n71
        induction n71 with
        | zero =>
          intro n mn q same k γ ψ H locs ls v0 hm
          exact absurd hm (Nat.not_lt_zero _)
        | succ n71 ih71 =>
          intro n mn q same k γ ψ H locs ls v0 hm hP hS hl
          refine lv_iload hx hb dX9_named_71 (lv_at hl 9 rfl) ?_
          refine lv_iload hx hb dX9_named_73 (lv_at hl 5 rfl) ?_
          refine lv_icmp_ge (tgt := 126) hx hb dX9_named_75 (by decide) (fun c_1 => ?_) (fun c_1 => ?_)
          · have kc_1 := bI_le rfl rfl c_1
            refine lv_iload hx hb dX9_named_126 (lv_at hl 6 rfl) ?_
            refine lv_iload hx hb dX9_named_128 (lv_at hl 8 rfl) ?_
            refine lv_if_eq (tgt := 137) hx hb dX9_named_130 (by decide) (fun c_2 => ?_) (fun c_2 => ?_)
            · have kc_2 := bI_eq rfl L_0 c_2
              refine lv_iconst (v := 0) hx hb dX9_named_137 (by decide) ?_
              refine lv_iadd hx hb dX9_named_138 ?_
              refine lv_topi (fun z_3 ez_3 => ?_)
              refine lv_istore (lv' := [(6, .int z_3), (0, .ref (a 0)), (1, .int na), (2, .int nb), (3, .int nc), (4, .int nd), (5, .int n), (7, .int q), (8, .int same), (9, .int k)]) hx hb dX9_named_139 hl (by decide) rfl ?_
              clear hl; intro ls hl
              obtain ⟨i_4, ei_4⟩ : ∃ z : Int32, z = q + 1 := ⟨_, rfl⟩
              refine lv_iinc (v := i_4) (lv' := [(7, .int i_4), (6, .int z_3), (0, .ref (a 0)), (1, .int na), (2, .int nb), (3, .int nc), (4, .int nd), (5, .int n), (8, .int same), (9, .int k)]) hx hb dX9_named_141 hl (k := 7) rfl (by rw [ei_4]; rfl) (by decide) rfl ?_
              clear hl; intro ls hl
              have ti_4 : (Int32.toInt i_4) = (Int32.toInt q) + 1 := aI_add rfl L_1 ei_4 (by have := rng q; omega)
              refine lv_goto (tgt := 35) hx hb dX9_named_144 (by decide) ?_
              exact ih35 n z_3 i_4 γ ψ _ _ _ (show 0 ≤ (Int32.toInt n) ∧ (Int32.toInt n) ≤ 16 ∧ 0 ≤ (Int32.toInt i_4) from (by omega)) (by omega) hP hS (lv_sub hl [2, 3, 4, 5, 6, 7, 1, 0] rfl)
            · have kc_2 := bI_ne rfl L_0 c_2
              refine lv_iconst (v := 1) hx hb dX9_named_133 (by decide) ?_
              refine lv_goto (tgt := 138) hx hb dX9_named_134 (by decide) ?_
              refine lv_iadd hx hb dX9_named_138 ?_
              refine lv_topi (fun z_5 ez_5 => ?_)
              refine lv_istore (lv' := [(6, .int z_5), (0, .ref (a 0)), (1, .int na), (2, .int nb), (3, .int nc), (4, .int nd), (5, .int n), (7, .int q), (8, .int same), (9, .int k)]) hx hb dX9_named_139 hl (by decide) rfl ?_
              clear hl; intro ls hl
              obtain ⟨i_6, ei_6⟩ : ∃ z : Int32, z = q + 1 := ⟨_, rfl⟩
              refine lv_iinc (v := i_6) (lv' := [(7, .int i_6), (6, .int z_5), (0, .ref (a 0)), (1, .int na), (2, .int nb), (3, .int nc), (4, .int nd), (5, .int n), (8, .int same), (9, .int k)]) hx hb dX9_named_141 hl (k := 7) rfl (by rw [ei_6]; rfl) (by decide) rfl ?_
              clear hl; intro ls hl
              have ti_6 : (Int32.toInt i_6) = (Int32.toInt q) + 1 := aI_add rfl L_1 ei_6 (by have := rng q; omega)
              refine lv_goto (tgt := 35) hx hb dX9_named_144 (by decide) ?_
              exact ih35 n z_5 i_6 γ ψ _ _ _ (show 0 ≤ (Int32.toInt n) ∧ (Int32.toInt n) ≤ 16 ∧ 0 ≤ (Int32.toInt i_6) from (by omega)) (by omega) hP hS (lv_sub hl [2, 3, 4, 5, 6, 7, 1, 0] rfl)
          · have kc_1 := bI_nle rfl rfl c_1
            refine lv_iload hx hb dX9_named_78 (lv_at hl 8 rfl) ?_
            refine lv_if_eq (tgt := 126) hx hb dX9_named_80 (by decide) (fun c_7 => ?_) (fun c_7 => ?_)
            · have kc_7 := bI_eq rfl L_0 c_7
              refine lv_iload hx hb dX9_named_126 (lv_at hl 6 rfl) ?_
              refine lv_iload hx hb dX9_named_128 (lv_at hl 8 rfl) ?_
              refine lv_if_eq (tgt := 137) hx hb dX9_named_130 (by decide) (fun c_8 => ?_) (fun c_8 => ?_)
              · have kc_8 := bI_eq rfl L_0 c_8
                refine lv_iconst (v := 0) hx hb dX9_named_137 (by decide) ?_
                refine lv_iadd hx hb dX9_named_138 ?_
                refine lv_topi (fun z_9 ez_9 => ?_)
                refine lv_istore (lv' := [(6, .int z_9), (0, .ref (a 0)), (1, .int na), (2, .int nb), (3, .int nc), (4, .int nd), (5, .int n), (7, .int q), (8, .int same), (9, .int k)]) hx hb dX9_named_139 hl (by decide) rfl ?_
                clear hl; intro ls hl
                obtain ⟨i_10, ei_10⟩ : ∃ z : Int32, z = q + 1 := ⟨_, rfl⟩
                refine lv_iinc (v := i_10) (lv' := [(7, .int i_10), (6, .int z_9), (0, .ref (a 0)), (1, .int na), (2, .int nb), (3, .int nc), (4, .int nd), (5, .int n), (8, .int same), (9, .int k)]) hx hb dX9_named_141 hl (k := 7) rfl (by rw [ei_10]; rfl) (by decide) rfl ?_
                clear hl; intro ls hl
                have ti_10 : (Int32.toInt i_10) = (Int32.toInt q) + 1 := aI_add rfl L_1 ei_10 (by have := rng q; omega)
                refine lv_goto (tgt := 35) hx hb dX9_named_144 (by decide) ?_
                exact ih35 n z_9 i_10 γ ψ _ _ _ (show 0 ≤ (Int32.toInt n) ∧ (Int32.toInt n) ≤ 16 ∧ 0 ≤ (Int32.toInt i_10) from (by omega)) (by omega) hP hS (lv_sub hl [2, 3, 4, 5, 6, 7, 1, 0] rfl)
              · have kc_8 := bI_ne rfl L_0 c_8
                refine lv_iconst (v := 1) hx hb dX9_named_133 (by decide) ?_
                refine lv_goto (tgt := 138) hx hb dX9_named_134 (by decide) ?_
                refine lv_iadd hx hb dX9_named_138 ?_
                refine lv_topi (fun z_11 ez_11 => ?_)
                refine lv_istore (lv' := [(6, .int z_11), (0, .ref (a 0)), (1, .int na), (2, .int nb), (3, .int nc), (4, .int nd), (5, .int n), (7, .int q), (8, .int same), (9, .int k)]) hx hb dX9_named_139 hl (by decide) rfl ?_
                clear hl; intro ls hl
                obtain ⟨i_12, ei_12⟩ : ∃ z : Int32, z = q + 1 := ⟨_, rfl⟩
                refine lv_iinc (v := i_12) (lv' := [(7, .int i_12), (6, .int z_11), (0, .ref (a 0)), (1, .int na), (2, .int nb), (3, .int nc), (4, .int nd), (5, .int n), (8, .int same), (9, .int k)]) hx hb dX9_named_141 hl (k := 7) rfl (by rw [ei_12]; rfl) (by decide) rfl ?_
                clear hl; intro ls hl
                have ti_12 : (Int32.toInt i_12) = (Int32.toInt q) + 1 := aI_add rfl L_1 ei_12 (by have := rng q; omega)
                refine lv_goto (tgt := 35) hx hb dX9_named_144 (by decide) ?_
                exact ih35 n z_11 i_12 γ ψ _ _ _ (show 0 ≤ (Int32.toInt n) ∧ (Int32.toInt n) ≤ 16 ∧ 0 ≤ (Int32.toInt i_12) from (by omega)) (by omega) hP hS (lv_sub hl [2, 3, 4, 5, 6, 7, 1, 0] rfl)
            · have kc_7 := bI_ne rfl L_0 c_7
              refine lv_aload_n hx hb dX9_named_83 rfl (lv_at hl 0 rfl) ?_
              refine mg_0_64 hx hb hts hinX9 hown hK hP (hts (.fieldLink RX9 113 "CensusDeskModel" "bName" "[B") (List.mem_of_getElem? (i := 3) rfl)) dX9_named_84 ?_
              refine lv_bipush (v := 30) hx hb dX9_named_87 (by decide) ?_
              refine lv_iload hx hb dX9_named_89 (lv_at hl 7 rfl) ?_
              refine lv_imul hx hb dX9_named_91 ?_
              refine lv_topi (fun z_13 ez_13 => ?_)
              have tz_13 : (Int32.toInt z_13) = 30 * (Int32.toInt q) := aI_mul L_30 rfl ez_13 (by have := rng q; omega)
              refine lv_iload hx hb dX9_named_92 (lv_at hl 9 rfl) ?_
              refine lv_iadd hx hb dX9_named_94 ?_
              refine lv_topi (fun z_14 ez_14 => ?_)
              have tz_14 : (Int32.toInt z_14) = (Int32.toInt z_13) + (Int32.toInt k) := aI_add rfl rfl ez_14 (by have := rng z_13; have := rng k; omega)
              refine ml_35 (f := (ψ 22)) hx hb hK hP (i := z_14) (vin rfl (by omega)) rfl dX9_named_95 ?_
              refine lv_topi (fun z_15 ez_15 => ?_)
              refine lv_sipush (v := 255) hx hb dX9_named_96 (by decide) ?_
              refine lv_iand hx hb dX9_named_99 ?_
              refine lv_topi (fun z_16 ez_16 => ?_)
              refine lv_iload_n hx hb dX9_named_100 rfl (lv_at hl 1 rfl) ?_
              refine lv_iload_n hx hb dX9_named_101 rfl (lv_at hl 2 rfl) ?_
              refine lv_iload_n hx hb dX9_named_102 rfl (lv_at hl 3 rfl) ?_
              refine lv_iload hx hb dX9_named_103 (lv_at hl 4 rfl) ?_
              refine lv_iload hx hb dX9_named_105 (lv_at hl 9 rfl) ?_
              refine m_calli (va_runS (As := [.int na, .int nb, .int nc, .int nd, .int k]) (rest := [.int z_16]) ⟨hx, hb, hml, hown, hts⟩ (c_X9_byteOf l dC dI a κ σ φ γ ψ na nb nc nd k ) (va_cwS 5 hts gX9_named_X9_byteOf rfl rfl rfl hd_X9_byteOf ⟨Nat.le_of_ble_eq_true rfl, Nat.le_of_ble_eq_true rfl⟩) (mPreS hP hK hI hN hS) rfl rfl hl.1 rfl (lv_room (Nat.le_of_ble_eq_true rfl)) dX9_named_107 ⟨(by decide +kernel), (by decide +kernel)⟩) hS ?_
              clear hP hS; intro r_17 S_17 F_17 γ_17 ψ_17 H locs hw hP hS
              obtain ⟨rfl, rfl, -⟩ := hw
              refine lv_icmp_ne (tgt := 117) hx hb dX9_named_110 (by decide) (fun c_18 => ?_) (fun c_18 => ?_)
              · have kc_18 := bI_ne rfl rfl c_18
                refine lv_iconst (v := 0) hx hb dX9_named_117 (by decide) ?_
                refine lv_istore (lv' := [(8, .int 0), (0, .ref (a 0)), (1, .int na), (2, .int nb), (3, .int nc), (4, .int nd), (5, .int n), (6, .int mn), (7, .int q), (9, .int k)]) hx hb dX9_named_118 hl (by decide) rfl ?_
                clear hl; intro ls hl
                obtain ⟨i_19, ei_19⟩ : ∃ z : Int32, z = k + 1 := ⟨_, rfl⟩
                refine lv_iinc (v := i_19) (lv' := [(9, .int i_19), (8, .int 0), (0, .ref (a 0)), (1, .int na), (2, .int nb), (3, .int nc), (4, .int nd), (5, .int n), (6, .int mn), (7, .int q)]) hx hb dX9_named_120 hl (k := 9) rfl (by rw [ei_19]; rfl) (by decide) rfl ?_
                clear hl; intro ls hl
                have ti_19 : (Int32.toInt i_19) = (Int32.toInt k) + 1 := aI_add rfl L_1 ei_19 (by have := rng k; have := rng n; omega)
                refine lv_goto (tgt := 71) hx hb dX9_named_123 (by decide) ?_
                exact ih71 n mn q 0 i_19 γ_17 ψ_17 _ _ _ (show 0 ≤ (Int32.toInt n) ∧ (Int32.toInt n) ≤ 16 ∧ 0 ≤ (Int32.toInt q) ∧ (Int32.toInt q) < (Int32.toInt (σ 14)) ∧ 0 ≤ (Int32.toInt i_19) ∧ ((Int32.toInt (σ 14)) - (Int32.toInt q)).toNat < n35 + 1 from (by omega)) (by omega) hP hS (lv_sub hl [2, 3, 4, 5, 6, 7, 8, 9, 1, 0] rfl)
              · have kc_18 := bI_eq rfl rfl c_18
                refine lv_iconst (v := 1) hx hb dX9_named_113 (by decide) ?_
                refine lv_goto (tgt := 118) hx hb dX9_named_114 (by decide) ?_
                refine lv_istore (lv' := [(8, .int 1), (0, .ref (a 0)), (1, .int na), (2, .int nb), (3, .int nc), (4, .int nd), (5, .int n), (6, .int mn), (7, .int q), (9, .int k)]) hx hb dX9_named_118 hl (by decide) rfl ?_
                clear hl; intro ls hl
                obtain ⟨i_20, ei_20⟩ : ∃ z : Int32, z = k + 1 := ⟨_, rfl⟩
                refine lv_iinc (v := i_20) (lv' := [(9, .int i_20), (8, .int 1), (0, .ref (a 0)), (1, .int na), (2, .int nb), (3, .int nc), (4, .int nd), (5, .int n), (6, .int mn), (7, .int q)]) hx hb dX9_named_120 hl (k := 9) rfl (by rw [ei_20]; rfl) (by decide) rfl ?_
                clear hl; intro ls hl
                have ti_20 : (Int32.toInt i_20) = (Int32.toInt k) + 1 := aI_add rfl L_1 ei_20 (by have := rng k; have := rng n; omega)
                refine lv_goto (tgt := 71) hx hb dX9_named_123 (by decide) ?_
                exact ih71 n mn q 1 i_20 γ_17 ψ_17 _ _ _ (show 0 ≤ (Int32.toInt n) ∧ (Int32.toInt n) ≤ 16 ∧ 0 ≤ (Int32.toInt q) ∧ (Int32.toInt q) < (Int32.toInt (σ 14)) ∧ 0 ≤ (Int32.toInt i_20) ∧ ((Int32.toInt (σ 14)) - (Int32.toInt q)).toNat < n35 + 1 from (by omega)) (by omega) hP hS (lv_sub hl [2, 3, 4, 5, 6, 7, 8, 9, 1, 0] rfl)
      refine lv_iload hx hb dX9_named_35 (lv_at hl 7 rfl) ?_
      refine lv_aload_n hx hb dX9_named_37 rfl (lv_at hl 0 rfl) ?_
      refine mg_0_65 (v := (σ 14)) hx hb hts hinX9 hown hK hP (hts (.fieldLink RX9 298 "CensusDeskModel" "bookedPersons" "I") (List.mem_of_getElem? (i := 1) rfl)) rfl dX9_named_38 ?_
      refine lv_icmp_ge (tgt := 147) hx hb dX9_named_41 (by decide) (fun c_21 => ?_) (fun c_21 => ?_)
      · have kc_21 := bI_le rfl rfl c_21
        refine lv_iload hx hb dX9_named_147 (lv_at hl 6 rfl) ?_
        subst eQ
        exact W.iret (v := mn) hx hb hr (fun t ht hW => ⟨⟨mn, (σ, φ, γ, ψ), rfl, ⟨rfl, rfl, trivial⟩, (by show va_P _ _ _ _; rw [ht]; exact hP)⟩, hS.F ht⟩) hS.2.2 dX9_named_149
      · have kc_21 := bI_nle rfl rfl c_21
        refine lv_iload hx hb dX9_named_44 (lv_at hl 5 rfl) ?_
        refine lv_if_le (tgt := 147) hx hb dX9_named_46 (by decide) (fun c_22 => ?_) (fun c_22 => ?_)
        · have kc_22 := bI_le rfl L_0 c_22
          refine lv_iload hx hb dX9_named_147 (lv_at hl 6 rfl) ?_
          subst eQ
          exact W.iret (v := mn) hx hb hr (fun t ht hW => ⟨⟨mn, (σ, φ, γ, ψ), rfl, ⟨rfl, rfl, trivial⟩, (by show va_P _ _ _ _; rw [ht]; exact hP)⟩, hS.F ht⟩) hS.2.2 dX9_named_149
        · have kc_22 := bI_nle rfl L_0 c_22
          refine lv_aload_n hx hb dX9_named_49 rfl (lv_at hl 0 rfl) ?_
          refine mg_0_62 hx hb hts hinX9 hown hK hP (hts (.fieldLink RX9 107 "CensusDeskModel" "bSize" "[I") (List.mem_of_getElem? (i := 2) rfl)) dX9_named_50 ?_
          refine lv_iload hx hb dX9_named_53 (lv_at hl 7 rfl) ?_
          refine ml_33 (f := (φ 11)) hx hb hK hP (i := q) (vin rfl (by omega)) rfl dX9_named_55 ?_
          refine lv_topi (fun z_23 ez_23 => ?_)
          have tz_23 : (Int32.toInt z_23) = Int32.toInt ((φ 11) (Int32.toNatClampNeg q)) := congrArg Int32.toInt ez_23
          refine lv_iload hx hb dX9_named_56 (lv_at hl 5 rfl) ?_
          refine lv_icmp_ne (tgt := 65) hx hb dX9_named_58 (by decide) (fun c_24 => ?_) (fun c_24 => ?_)
          · have kc_24 := bI_ne rfl rfl c_24
            refine lv_iconst (v := 0) hx hb dX9_named_65 (by decide) ?_
            refine lv_istore (lv' := [(8, .int 0), (0, .ref (a 0)), (1, .int na), (2, .int nb), (3, .int nc), (4, .int nd), (5, .int n), (6, .int mn), (7, .int q)]) hx hb dX9_named_66 hl (by decide) rfl ?_
            clear hl; intro ls hl
            refine lv_iconst (v := 0) hx hb dX9_named_68 (by decide) ?_
            refine lv_istore (lv' := [(9, .int 0), (8, .int 0), (0, .ref (a 0)), (1, .int na), (2, .int nb), (3, .int nc), (4, .int nd), (5, .int n), (6, .int mn), (7, .int q)]) hx hb dX9_named_69 hl (by decide) rfl ?_
            clear hl; intro ls hl
            exact J71 (_ + 1) n mn q 0 0 γ ψ _ _ _ (show 0 ≤ (Int32.toInt n) ∧ (Int32.toInt n) ≤ 16 ∧ 0 ≤ (Int32.toInt q) ∧ (Int32.toInt q) < (Int32.toInt (σ 14)) ∧ 0 ≤ (Int32.toInt 0) ∧ ((Int32.toInt (σ 14)) - (Int32.toInt q)).toNat < n35 + 1 from (by have := L_0; omega)) (Nat.lt_succ_self _) hP hS (lv_sub hl [2, 3, 4, 5, 6, 7, 8, 9, 1, 0] rfl)
          · have kc_24 := bI_eq rfl rfl c_24
            refine lv_iconst (v := 1) hx hb dX9_named_61 (by decide) ?_
            refine lv_goto (tgt := 66) hx hb dX9_named_62 (by decide) ?_
            refine lv_istore (lv' := [(8, .int 1), (0, .ref (a 0)), (1, .int na), (2, .int nb), (3, .int nc), (4, .int nd), (5, .int n), (6, .int mn), (7, .int q)]) hx hb dX9_named_66 hl (by decide) rfl ?_
            clear hl; intro ls hl
            refine lv_iconst (v := 0) hx hb dX9_named_68 (by decide) ?_
            refine lv_istore (lv' := [(9, .int 0), (8, .int 1), (0, .ref (a 0)), (1, .int na), (2, .int nb), (3, .int nc), (4, .int nd), (5, .int n), (6, .int mn), (7, .int q)]) hx hb dX9_named_69 hl (by decide) rfl ?_
            clear hl; intro ls hl
            exact J71 (_ + 1) n mn q 1 0 γ ψ _ _ _ (show 0 ≤ (Int32.toInt n) ∧ (Int32.toInt n) ≤ 16 ∧ 0 ≤ (Int32.toInt q) ∧ (Int32.toInt q) < (Int32.toInt (σ 14)) ∧ 0 ≤ (Int32.toInt 0) ∧ ((Int32.toInt (σ 14)) - (Int32.toInt q)).toNat < n35 + 1 from (by have := L_0; omega)) (Nat.lt_succ_self _) hP hS (lv_sub hl [2, 3, 4, 5, 6, 7, 8, 9, 1, 0] rfl)
  have J3 : ∀ (n3 : Nat), ∀ (n : Int32) (γ : Nat → Int32) (ψ : Nat → Nat → Int32) (H : Heap) (locs : List Loc) (ls : Array Slot), (0 ≤ (Int32.toInt n) ∧ (Int32.toInt n) ≤ 16) → ((16 - (Int32.toInt n)).toNat < n3) → va_P (dC, dI) vwCl (mw a κ (σ, φ, γ, ψ)) H → va_S (mA a) s.heap H locs → lv_has ls 10 [(0, .ref (a 0)), (1, .int na), (2, .int nb), (3, .int nc), (4, .int nd), (5, .int n)] → W p l e ({ frames := 1, cells := 0, slots := 0, locals := 25 } : Room) s m ([.ref (a 0), .int na, .int nb, .int nc, .int nd] : List Value).toArray below meth c H locs 0 0 QQ (F0 m 3 ls []) := by
    intro n3
    induction n3 with
    | zero =>
      intro n γ ψ H locs ls v0 hm
      exact absurd hm (Nat.not_lt_zero _)
    | succ n3 ih3 =>
      intro n γ ψ H locs ls v0 hm hP hS hl
      refine lv_iload hx hb dX9_named_3 (lv_at hl 5 rfl) ?_
      refine lv_bipush (v := 16) hx hb dX9_named_5 (by decide) ?_
      refine lv_icmp_ge (tgt := 29) hx hb dX9_named_7 (by decide) (fun c_25 => ?_) (fun c_25 => ?_)
      · have kc_25 := bI_le L_16 rfl c_25
        refine lv_iconst (v := 0) hx hb dX9_named_29 (by decide) ?_
        refine lv_istore (lv' := [(6, .int 0), (0, .ref (a 0)), (1, .int na), (2, .int nb), (3, .int nc), (4, .int nd), (5, .int n)]) hx hb dX9_named_30 hl (by decide) rfl ?_
        clear hl; intro ls hl
        refine lv_iconst (v := 0) hx hb dX9_named_32 (by decide) ?_
        refine lv_istore (lv' := [(7, .int 0), (6, .int 0), (0, .ref (a 0)), (1, .int na), (2, .int nb), (3, .int nc), (4, .int nd), (5, .int n)]) hx hb dX9_named_33 hl (by decide) rfl ?_
        clear hl; intro ls hl
        exact J35 (_ + 1) n 0 0 γ ψ _ _ _ (show 0 ≤ (Int32.toInt n) ∧ (Int32.toInt n) ≤ 16 ∧ 0 ≤ (Int32.toInt 0) from (by have := L_0; omega)) (Nat.lt_succ_self _) hP hS (lv_sub hl [2, 3, 4, 5, 6, 7, 1, 0] rfl)
      · have kc_25 := bI_nle L_16 rfl c_25
        refine lv_iload_n hx hb dX9_named_10 rfl (lv_at hl 1 rfl) ?_
        refine lv_iload_n hx hb dX9_named_11 rfl (lv_at hl 2 rfl) ?_
        refine lv_iload_n hx hb dX9_named_12 rfl (lv_at hl 3 rfl) ?_
        refine lv_iload hx hb dX9_named_13 (lv_at hl 4 rfl) ?_
        refine lv_iload hx hb dX9_named_15 (lv_at hl 5 rfl) ?_
        refine m_calli (va_runS (As := [.int na, .int nb, .int nc, .int nd, .int n]) (rest := []) ⟨hx, hb, hml, hown, hts⟩ (c_X9_byteOf l dC dI a κ σ φ γ ψ na nb nc nd n ) (va_cwS 5 hts gX9_named_X9_byteOf rfl rfl rfl hd_X9_byteOf ⟨Nat.le_of_ble_eq_true rfl, Nat.le_of_ble_eq_true rfl⟩) (mPreS hP hK hI hN hS) rfl rfl hl.1 rfl (lv_room (Nat.le_of_ble_eq_true rfl)) dX9_named_17 ⟨(by decide +kernel), (by decide +kernel)⟩) hS ?_
        clear hP hS; intro r_26 S_26 F_26 γ_26 ψ_26 H locs hw hP hS
        obtain ⟨rfl, rfl, -⟩ := hw
        refine lv_if_eq (tgt := 29) hx hb dX9_named_20 (by decide) (fun c_27 => ?_) (fun c_27 => ?_)
        · have kc_27 := bI_eq rfl L_0 c_27
          refine lv_iconst (v := 0) hx hb dX9_named_29 (by decide) ?_
          refine lv_istore (lv' := [(6, .int 0), (0, .ref (a 0)), (1, .int na), (2, .int nb), (3, .int nc), (4, .int nd), (5, .int n)]) hx hb dX9_named_30 hl (by decide) rfl ?_
          clear hl; intro ls hl
          refine lv_iconst (v := 0) hx hb dX9_named_32 (by decide) ?_
          refine lv_istore (lv' := [(7, .int 0), (6, .int 0), (0, .ref (a 0)), (1, .int na), (2, .int nb), (3, .int nc), (4, .int nd), (5, .int n)]) hx hb dX9_named_33 hl (by decide) rfl ?_
          clear hl; intro ls hl
          exact J35 (_ + 1) n 0 0 γ_26 ψ_26 _ _ _ (show 0 ≤ (Int32.toInt n) ∧ (Int32.toInt n) ≤ 16 ∧ 0 ≤ (Int32.toInt 0) from (by have := L_0; omega)) (Nat.lt_succ_self _) hP hS (lv_sub hl [2, 3, 4, 5, 6, 7, 1, 0] rfl)
        · have kc_27 := bI_ne rfl L_0 c_27
          obtain ⟨i_28, ei_28⟩ : ∃ z : Int32, z = n + 1 := ⟨_, rfl⟩
          refine lv_iinc (v := i_28) (lv' := [(5, .int i_28), (0, .ref (a 0)), (1, .int na), (2, .int nb), (3, .int nc), (4, .int nd)]) hx hb dX9_named_23 hl (k := 5) rfl (by rw [ei_28]; rfl) (by decide) rfl ?_
          clear hl; intro ls hl
          have ti_28 : (Int32.toInt i_28) = (Int32.toInt n) + 1 := aI_add rfl L_1 ei_28 (by have := rng n; omega)
          refine lv_goto (tgt := 3) hx hb dX9_named_26 (by decide) ?_
          exact ih3 i_28 γ_26 ψ_26 _ _ _ (show 0 ≤ (Int32.toInt i_28) ∧ (Int32.toInt i_28) ≤ 16 from (by omega)) (by omega) hP hS (lv_sub hl [1, 2, 3, 4, 5, 0] rfl)
  refine lv_iconst (v := 0) hx hb dX9_named_0 (by decide) ?_
  refine lv_istore (lv' := [(5, .int 0), (0, .ref (a 0)), (1, .int na), (2, .int nb), (3, .int nc), (4, .int nd)]) hx hb dX9_named_1 hl (by decide) rfl ?_
  clear hl; intro ls hl
  exact J3 (_ + 1) 0 γ ψ _ _ _ (show 0 ≤ (Int32.toInt 0) ∧ (Int32.toInt 0) ≤ 16 from (by have := L_0; omega)) (Nat.lt_succ_self _) hP hS (lv_sub hl [1, 2, 3, 4, 5, 0] rfl)
