set_option maxHeartbeats 4000000 in
set_option maxRecDepth 100000 in
theorem c_X9_audit (l : Launch) (dC : Nat → ClassId) (dI : Nat → Nat → Nat) (a : Nat → Nat) (κ : Nat → ClassId) (σ : Nat → Int32) (φ : Nat → Nat → Int32) (γ : Nat → Int32) (ψ : Nat → Nat → Int32)  (p_m_bSex : PtR (-1) 1 (φ 9)) (p_m_bMany : PtR 0 2000 (φ 8)) (hk : 0 ≤ (Int32.toInt (σ 13)) ∧ (Int32.toInt (σ 13)) ≤ 60 ∧ 0 ≤ (Int32.toInt (σ 14)) ∧ (Int32.toInt (σ 14)) ≤ 300) (hms : (Int32.toInt (σ 14)) = zsum (φ 8) (Int32.toNatClampNeg (σ 13))) (hac : AC (σ 16) (σ 17) (σ 18) (σ 2) (σ 15)) : Met l yX9_audit wsX9_audit ({ frames := 1, cells := 0, slots := 0, locals := 23 } : Room) (va_Pc [.ref (a 0)] (mPre dC dI a κ (σ, φ, γ, ψ))) (va_Qi (QI (fun r S F => σ = S ∧ φ = F ∧ ((Int32.toInt r) = 0))) (mB dC dI a κ) (mA a)) 0 0 (mA a) := by
  refine Met.ofW (cc := cX9_audit) (maxL := 5) (ret := (some .int)) (by decide) rfl ?_
  intro p e s m args below meth c s₁ B hml hv
  obtain ⟨rfl, hP, hK, hI, hN⟩ := hv
  have hx := B.exec
  have hb := B.bytes
  have hr := B.returns
  have hts := atoms_spec (ws := wsX9_audit) B.pre
  have hown : s.vm.findClass RX9 = some m.cls := findClass_of_methodNamed B.named
  have hlocks := B.notSynchronized
  have hS : va_S (mA a) s.heap s.heap [] := va_S.rf
  have hinX9 : ∀ w ∈ wsX90, w ∈ wsX9_audit := fun _ h => List.mem_cons_of_mem _ (List.mem_append_right _ h)
  have hl := lv_entry ([.ref (a 0)]) (n := 5) (Nat.le_of_ble_eq_true rfl)
  rw [lg_entry_eq]
  generalize (lg_sl ([.ref (a 0)]) ++ List.replicate (5 - (lg_sl ([.ref (a 0)])).length) Slot.unset).toArray = ls at hl ⊢
  have hl : lv_has ls 5 [(0, .ref (a 0))] := hl
  refine k_gen (fun QQ eQ => ?_)
  have J34 : ∀ (n34 : Nat), ∀ (inH : Int32) (mis : Int32) (ages : Int32) (q : Int32) (γ : Nat → Int32) (ψ : Nat → Nat → Int32) (H : Heap) (locs : List Loc) (ls : Array Slot), (0 ≤ (Int32.toInt q) ∧ (Int32.toInt q) ≤ (Int32.toInt (σ 14)) ∧ (Int32.toInt inH) = (Int32.toInt (σ 14))) → (mis = ineg (φ 9) (Int32.toNatClampNeg q)) → (ages = mage (φ 10) (Int32.toNatClampNeg q)) → (((Int32.toInt (σ 14)) - (Int32.toInt q)).toNat < n34) → va_P (dC, dI) vwCl (mw a κ (σ, φ, γ, ψ)) H → va_S (mA a) s.heap H locs → lv_has ls 5 [(0, .ref (a 0)), (1, .int inH), (2, .int mis), (3, .int ages), (4, .int q)] → W p l e ({ frames := 1, cells := 0, slots := 0, locals := 23 } : Room) s m ([.ref (a 0)] : List Value).toArray below meth c H locs 0 0 QQ (F0 m 34 ls []) := by
    intro n34
    induction n34 with
    | zero =>
      intro inH mis ages q γ ψ H locs ls v0 w2 w3 hm
      exact absurd hm (Nat.not_lt_zero _)
    | succ n34 ih34 =>
      intro inH mis ages q γ ψ H locs ls v0 w2 w3 hm hP hS hl
      refine lv_iload hx hb dX9_audit_34 (lv_at hl 4 rfl) ?_
      refine lv_aload_n hx hb dX9_audit_36 rfl (lv_at hl 0 rfl) ?_
      refine mg_0_65 (v := (σ 14)) hx hb hts hinX9 hown hK hP (hts (.fieldLink RX9 298 "CensusDeskModel" "bookedPersons" "I") (List.mem_of_getElem? (i := 3) rfl)) rfl dX9_audit_37 ?_
      refine lv_icmp_ge (tgt := 91) hx hb dX9_audit_40 (by decide) (fun c_1 => ?_) (fun c_1 => ?_)
      · have kc_1 := bI_le rfl rfl c_1
        have eq_ : q = (σ 14) := Int32.toInt_inj.mp (by omega)
        rw [eq_] at w2 w3
        refine lv_iload_n hx hb dX9_audit_91 rfl (lv_at hl 1 rfl) ?_
        refine lv_aload_n hx hb dX9_audit_92 rfl (lv_at hl 0 rfl) ?_
        refine mg_0_65 (v := (σ 14)) hx hb hts hinX9 hown hK hP (hts (.fieldLink RX9 298 "CensusDeskModel" "bookedPersons" "I") (List.mem_of_getElem? (i := 3) rfl)) rfl dX9_audit_93 ?_
        refine lv_icmp_ne (tgt := 103) hx hb dX9_audit_96 (by decide) (fun c_2 => False.elim (by have kc_2 := bI_ne rfl rfl c_2; omega)) (fun c_2 => ?_)
        have kc_2 := bI_eq rfl rfl c_2
        refine lv_iconst (v := 0) hx hb dX9_audit_99 (by decide) ?_
        refine lv_goto (tgt := 104) hx hb dX9_audit_100 (by decide) ?_
        refine lv_istore (lv' := [(4, .int 0), (0, .ref (a 0)), (1, .int inH), (2, .int mis), (3, .int ages)]) hx hb dX9_audit_104 hl (by decide) rfl ?_
        clear hl; intro ls hl
        refine lv_iload hx hb dX9_audit_106 (lv_at hl 0 rfl) ?_
        refine lv_aload_n hx hb dX9_audit_108 rfl (lv_at hl 1 rfl) ?_
        refine lv_iconst (v := 2) hx hb dX9_audit_109 (by decide) ?_
        refine m_calli (va_runV (As := [.int 2]) (rest := [.int 0]) ⟨hx, hb, hml, hown, hts⟩ (c_X9_sum l dC dI a κ σ φ γ ψ 2 (show 0 ≤ (Int32.toInt (σ 13)) ∧ (Int32.toInt (σ 13)) ≤ 60 ∧ 0 ≤ (Int32.toInt (σ 14)) ∧ (Int32.toInt (σ 14)) ≤ 300 from (by omega))) (cwV 1 hts gX9_audit_X9_sum rfl rfl rfl ⟨rfl, hd_X9_sum⟩ ⟨Nat.le_of_ble_eq_true rfl, Nat.le_of_ble_eq_true rfl⟩) (mPreV hP hK hI hN hS (va_recv hK hP (ci := 9) (q0 := 0) rfl rfl)) rfl rfl hl.1 rfl (lv_room (Nat.le_of_ble_eq_true rfl)) dX9_audit_110 ⟨(by decide +kernel), (by decide +kernel)⟩) hS ?_
        clear hP hS; intro r_3 S_3 F_3 γ_3 ψ_3 H locs hw hP hS
        obtain ⟨rfl, rfl, (qa_3 : (2 ≤ (Int32.toInt 2) ∧ (Int32.toInt 2) < 4) → r_3 = icnt (2 - 2) (φ 9) (Int32.toNatClampNeg (σ 14))), (qb_3 : (Int32.toInt 2) = 4 → r_3 = mage (φ 10) (Int32.toNatClampNeg (σ 14)))⟩ := hw
        have hL2_3 := L_2
        refine lv_aload_n hx hb dX9_audit_113 rfl (lv_at hl 1 rfl) ?_
        refine lv_iconst (v := 3) hx hb dX9_audit_114 (by decide) ?_
        refine m_calli (va_runV (As := [.int 3]) (rest := [.int r_3, .int 0]) ⟨hx, hb, hml, hown, hts⟩ (c_X9_sum l dC dI a κ σ φ γ_3 ψ_3 3 (show 0 ≤ (Int32.toInt (σ 13)) ∧ (Int32.toInt (σ 13)) ≤ 60 ∧ 0 ≤ (Int32.toInt (σ 14)) ∧ (Int32.toInt (σ 14)) ≤ 300 from (by omega))) (cwV 1 hts gX9_audit_X9_sum rfl rfl rfl ⟨rfl, hd_X9_sum⟩ ⟨Nat.le_of_ble_eq_true rfl, Nat.le_of_ble_eq_true rfl⟩) (mPreV hP hK hI hN hS (va_recv hK hP (ci := 9) (q0 := 0) rfl rfl)) rfl rfl hl.1 rfl (lv_room (Nat.le_of_ble_eq_true rfl)) dX9_audit_115 ⟨(by decide +kernel), (by decide +kernel)⟩) hS ?_
        clear hP hS; intro r_4 S_4 F_4 γ_4 ψ_4 H locs hw hP hS
        obtain ⟨rfl, rfl, (qa_4 : (2 ≤ (Int32.toInt 3) ∧ (Int32.toInt 3) < 4) → r_4 = icnt (3 - 2) (φ 9) (Int32.toNatClampNeg (σ 14))), (qb_4 : (Int32.toInt 3) = 4 → r_4 = mage (φ 10) (Int32.toNatClampNeg (σ 14)))⟩ := hw
        have hL3_4 := L_3
        refine lv_iadd hx hb dX9_audit_118 ?_
        refine lv_topi (fun z_5 ez_5 => ?_)
        refine lv_iload_n hx hb dX9_audit_119 rfl (lv_at hl 3 rfl) ?_
        refine lv_iadd hx hb dX9_audit_120 ?_
        refine lv_topi (fun z_6 ez_6 => ?_)
        refine lv_aload_n hx hb dX9_audit_121 rfl (lv_at hl 1 rfl) ?_
        refine mg_0_65 (v := (σ 14)) hx hb hts hinX9 hown hK hP (hts (.fieldLink RX9 298 "CensusDeskModel" "bookedPersons" "I") (List.mem_of_getElem? (i := 3) rfl)) rfl dX9_audit_122 ?_
        refine lv_icmp_ne (tgt := 132) hx hb dX9_audit_125 (by decide) (fun c_7 => False.elim (by have kc_7 := bI_ne rfl rfl c_7; exact absurd (show z_6 = (σ 14) from by rw [ez_6, ez_5, qa_3 (by omega), qa_4 (by omega), w2]; exact (icnt3n p_m_bSex _).trans (tn_of (by omega))) c_7)) (fun c_7 => ?_)
        have kc_7 := bI_eq rfl rfl c_7
        refine lv_iconst (v := 0) hx hb dX9_audit_128 (by decide) ?_
        refine lv_goto (tgt := 133) hx hb dX9_audit_129 (by decide) ?_
        refine lv_iadd hx hb dX9_audit_133 ?_
        refine k_top (v := 0) (by decide) ?_
        refine lv_istore (lv' := [(4, .int 0), (0, .ref (a 0)), (1, .int inH), (2, .int mis), (3, .int ages)]) hx hb dX9_audit_134 hl (by decide) rfl ?_
        clear hl; intro ls hl
        refine lv_iload hx hb dX9_audit_136 (lv_at hl 0 rfl) ?_
        refine lv_iload_n hx hb dX9_audit_138 rfl (lv_at hl 4 rfl) ?_
        refine lv_aload_n hx hb dX9_audit_139 rfl (lv_at hl 1 rfl) ?_
        refine lv_iconst (v := 4) hx hb dX9_audit_140 (by decide) ?_
        refine m_calli (va_runV (As := [.int 4]) (rest := [.int ages, .int 0]) ⟨hx, hb, hml, hown, hts⟩ (c_X9_sum l dC dI a κ σ φ γ_4 ψ_4 4 (show 0 ≤ (Int32.toInt (σ 13)) ∧ (Int32.toInt (σ 13)) ≤ 60 ∧ 0 ≤ (Int32.toInt (σ 14)) ∧ (Int32.toInt (σ 14)) ≤ 300 from (by omega))) (cwV 1 hts gX9_audit_X9_sum rfl rfl rfl ⟨rfl, hd_X9_sum⟩ ⟨Nat.le_of_ble_eq_true rfl, Nat.le_of_ble_eq_true rfl⟩) (mPreV hP hK hI hN hS (va_recv hK hP (ci := 9) (q0 := 0) rfl rfl)) rfl rfl hl.1 rfl (lv_room (Nat.le_of_ble_eq_true rfl)) dX9_audit_141 ⟨(by decide +kernel), (by decide +kernel)⟩) hS ?_
        clear hP hS; intro r_8 S_8 F_8 γ_8 ψ_8 H locs hw hP hS
        obtain ⟨rfl, rfl, (qa_8 : (2 ≤ (Int32.toInt 4) ∧ (Int32.toInt 4) < 4) → r_8 = icnt (4 - 2) (φ 9) (Int32.toNatClampNeg (σ 14))), (qb_8 : (Int32.toInt 4) = 4 → r_8 = mage (φ 10) (Int32.toNatClampNeg (σ 14)))⟩ := hw
        have hL4_8 := L_4
        refine lv_icmp_ne (tgt := 151) hx hb dX9_audit_144 (by decide) (fun c_9 => False.elim (by have kc_9 := bI_ne rfl rfl c_9; exact absurd (show ages = r_8 from by rw [qb_8 (by omega)]; exact w3) c_9)) (fun c_9 => ?_)
        have kc_9 := bI_eq rfl rfl c_9
        refine lv_iconst (v := 0) hx hb dX9_audit_147 (by decide) ?_
        refine lv_goto (tgt := 152) hx hb dX9_audit_148 (by decide) ?_
        refine lv_iadd hx hb dX9_audit_152 ?_
        refine k_top (v := 0) (by decide) ?_
        refine lv_istore (lv' := [(4, .int 0), (0, .ref (a 0)), (1, .int inH), (2, .int mis), (3, .int ages)]) hx hb dX9_audit_153 hl (by decide) rfl ?_
        clear hl; intro ls hl
        refine lv_iload hx hb dX9_audit_155 (lv_at hl 0 rfl) ?_
        refine lv_aload_n hx hb dX9_audit_157 rfl (lv_at hl 1 rfl) ?_
        refine mg_0_8 (v := (σ 15)) hx hb hts hinX9 hown hK hP (hts (.fieldLink RX9 307 "CensusDeskModel" "sheets" "I") (List.mem_of_getElem? (i := 6) rfl)) rfl dX9_audit_158 ?_
        refine lv_aload_n hx hb dX9_audit_161 rfl (lv_at hl 1 rfl) ?_
        refine mg_0_66 (v := (σ 16)) hx hb hts hinX9 hown hK hP (hts (.fieldLink RX9 310 "CensusDeskModel" "sheetsBooked" "I") (List.mem_of_getElem? (i := 7) rfl)) rfl dX9_audit_162 ?_
        refine lv_aload_n hx hb dX9_audit_165 rfl (lv_at hl 1 rfl) ?_
        refine mg_0_67 (v := (σ 17)) hx hb hts hinX9 hown hK hP (hts (.fieldLink RX9 292 "CensusDeskModel" "sheetsRejected" "I") (List.mem_of_getElem? (i := 8) rfl)) rfl dX9_audit_166 ?_
        refine lv_iadd hx hb dX9_audit_169 ?_
        refine lv_topi (fun z_10 ez_10 => ?_)
        refine lv_aload_n hx hb dX9_audit_170 rfl (lv_at hl 1 rfl) ?_
        refine mg_0_68 (v := (σ 18)) hx hb hts hinX9 hown hK hP (hts (.fieldLink RX9 304 "CensusDeskModel" "sheetsWithoutRoom" "I") (List.mem_of_getElem? (i := 9) rfl)) rfl dX9_audit_171 ?_
        refine lv_iadd hx hb dX9_audit_174 ?_
        refine lv_topi (fun z_11 ez_11 => ?_)
        refine lv_aload_n hx hb dX9_audit_175 rfl (lv_at hl 1 rfl) ?_
        refine mg_0_5 (v := (σ 2)) hx hb hts hinX9 hown hK hP (hts (.fieldLink RX9 120 "CensusDeskModel" "isHeld" "Z") (List.mem_of_getElem? (i := 10) rfl)) rfl dX9_audit_176 ?_
        refine lv_if_eq (tgt := 186) hx hb dX9_audit_179 (by decide) (fun c_12 => ?_) (fun c_12 => ?_)
        · have kc_12 := bI_eq rfl L_0 c_12
          refine lv_iconst (v := 0) hx hb dX9_audit_186 (by decide) ?_
          refine lv_iadd hx hb dX9_audit_187 ?_
          refine lv_topi (fun z_13 ez_13 => ?_)
          refine lv_icmp_ne (tgt := 195) hx hb dX9_audit_188 (by decide) (fun c_14 => False.elim (by have kc_14 := bI_ne rfl rfl c_14; exact absurd (show (σ 15) = z_13 from by rw [ez_13, ez_11, ez_10]; unfold AC at hac; rw [if_pos c_12] at hac; exact hac.symm) c_14)) (fun c_14 => ?_)
          have kc_14 := bI_eq rfl rfl c_14
          refine lv_iconst (v := 0) hx hb dX9_audit_191 (by decide) ?_
          refine lv_goto (tgt := 196) hx hb dX9_audit_192 (by decide) ?_
          refine lv_iadd hx hb dX9_audit_196 ?_
          refine k_top (v := 0) (by decide) ?_
          refine lv_istore (lv' := [(4, .int 0), (0, .ref (a 0)), (1, .int inH), (2, .int mis), (3, .int ages)]) hx hb dX9_audit_197 hl (by decide) rfl ?_
          clear hl; intro ls hl
          refine lv_iload hx hb dX9_audit_199 (lv_at hl 0 rfl) ?_
          subst eQ
          exact W.iret (v := 0) hx hb hr (fun t ht hW => ⟨⟨0, (σ, φ, γ_8, ψ_8), rfl, ⟨rfl, rfl, (show (Int32.toInt 0) = 0 from (by have := L_0; omega))⟩, (by show va_P _ _ _ _; rw [ht]; exact hP)⟩, hS.F ht⟩) hS.2.2 dX9_audit_201
        · have kc_12 := bI_ne rfl L_0 c_12
          refine lv_iconst (v := 1) hx hb dX9_audit_182 (by decide) ?_
          refine lv_goto (tgt := 187) hx hb dX9_audit_183 (by decide) ?_
          refine lv_iadd hx hb dX9_audit_187 ?_
          refine lv_topi (fun z_15 ez_15 => ?_)
          refine lv_icmp_ne (tgt := 195) hx hb dX9_audit_188 (by decide) (fun c_16 => False.elim (by have kc_16 := bI_ne rfl rfl c_16; exact absurd (show (σ 15) = z_15 from by rw [ez_15, ez_11, ez_10]; unfold AC at hac; rw [if_neg c_12] at hac; exact hac.symm) c_16)) (fun c_16 => ?_)
          have kc_16 := bI_eq rfl rfl c_16
          refine lv_iconst (v := 0) hx hb dX9_audit_191 (by decide) ?_
          refine lv_goto (tgt := 196) hx hb dX9_audit_192 (by decide) ?_
          refine lv_iadd hx hb dX9_audit_196 ?_
          refine k_top (v := 0) (by decide) ?_
          refine lv_istore (lv' := [(4, .int 0), (0, .ref (a 0)), (1, .int inH), (2, .int mis), (3, .int ages)]) hx hb dX9_audit_197 hl (by decide) rfl ?_
          clear hl; intro ls hl
          refine lv_iload hx hb dX9_audit_199 (lv_at hl 0 rfl) ?_
          subst eQ
          exact W.iret (v := 0) hx hb hr (fun t ht hW => ⟨⟨0, (σ, φ, γ_8, ψ_8), rfl, ⟨rfl, rfl, (show (Int32.toInt 0) = 0 from (by have := L_0; omega))⟩, (by show va_P _ _ _ _; rw [ht]; exact hP)⟩, hS.F ht⟩) hS.2.2 dX9_audit_201
      · have kc_1 := bI_nle rfl rfl c_1
        refine lv_iload_n hx hb dX9_audit_43 rfl (lv_at hl 2 rfl) ?_
        refine lv_aload_n hx hb dX9_audit_44 rfl (lv_at hl 0 rfl) ?_
        refine mg_0_59 hx hb hts hinX9 hown hK hP (hts (.fieldLink RX9 98 "CensusDeskModel" "bSex" "[I") (List.mem_of_getElem? (i := 4) rfl)) dX9_audit_45 ?_
        refine lv_iload hx hb dX9_audit_48 (lv_at hl 4 rfl) ?_
        refine ml_30 (f := (φ 9)) hx hb hK hP (i := q) (vin rfl (by omega)) rfl dX9_audit_50 ?_
        refine lv_topi (fun z_17 ez_17 => ?_)
        have tz_17 : (Int32.toInt z_17) = Int32.toInt ((φ 9) (Int32.toNatClampNeg q)) := congrArg Int32.toInt ez_17
        have pz_17 : -1 ≤ (Int32.toInt z_17) ∧ (Int32.toInt z_17) ≤ 1 := p_m_bSex.of ez_17
        refine lv_if_ge (tgt := 58) hx hb dX9_audit_51 (by decide) (fun c_18 => ?_) (fun c_18 => ?_)
        · have kc_18 := bI_le L_0 rfl c_18
          refine lv_iconst (v := 0) hx hb dX9_audit_58 (by decide) ?_
          refine lv_iadd hx hb dX9_audit_59 ?_
          refine lv_topi (fun z_19 ez_19 => ?_)
          refine lv_istore_n (lv' := [(2, .int z_19), (0, .ref (a 0)), (1, .int inH), (3, .int ages), (4, .int q)]) hx hb dX9_audit_60 rfl hl (by decide) rfl ?_
          clear hl; intro ls hl
          refine lv_iload_n hx hb dX9_audit_61 rfl (lv_at hl 3 rfl) ?_
          refine lv_aload_n hx hb dX9_audit_62 rfl (lv_at hl 1 rfl) ?_
          refine mg_0_60 hx hb hts hinX9 hown hK hP (hts (.fieldLink RX9 101 "CensusDeskModel" "bAge" "[I") (List.mem_of_getElem? (i := 5) rfl)) dX9_audit_63 ?_
          refine lv_iload hx hb dX9_audit_66 (lv_at hl 4 rfl) ?_
          refine ml_31 (f := (φ 10)) hx hb hK hP (i := q) (vin rfl (by omega)) rfl dX9_audit_68 ?_
          refine lv_topi (fun z_20 ez_20 => ?_)
          have tz_20 : (Int32.toInt z_20) = Int32.toInt ((φ 10) (Int32.toNatClampNeg q)) := congrArg Int32.toInt ez_20
          refine lv_if_lt (tgt := 82) hx hb dX9_audit_69 (by decide) (fun c_21 => ?_) (fun c_21 => ?_)
          · have kc_21 := bI_lt rfl L_0 c_21
            refine lv_iconst (v := 0) hx hb dX9_audit_82 (by decide) ?_
            refine lv_iadd hx hb dX9_audit_83 ?_
            refine lv_topi (fun z_22 ez_22 => ?_)
            refine lv_istore_n (lv' := [(3, .int z_22), (2, .int z_19), (0, .ref (a 0)), (1, .int inH), (4, .int q)]) hx hb dX9_audit_84 rfl hl (by decide) rfl ?_
            clear hl; intro ls hl
            obtain ⟨i_23, ei_23⟩ : ∃ z : Int32, z = q + 1 := ⟨_, rfl⟩
            refine lv_iinc (v := i_23) (lv' := [(4, .int i_23), (3, .int z_22), (2, .int z_19), (0, .ref (a 0)), (1, .int inH)]) hx hb dX9_audit_85 hl (k := 4) rfl (by rw [ei_23]; rfl) (by decide) rfl ?_
            clear hl; intro ls hl
            have ti_23 : (Int32.toInt i_23) = (Int32.toInt q) + 1 := aI_add rfl L_1 ei_23 (by have := rng q; have := rng (σ 14); omega)
            have hn : Int32.toNatClampNeg i_23 = Int32.toNatClampNeg q + 1 := tn_succ (by omega) ti_23
            have w2 : z_19 = ineg (φ 9) (Int32.toNatClampNeg i_23) := by rw [hn, ineg, ← w2, ← ez_17, if_pos c_18]; exact ez_19
            have w3 : z_22 = mage (φ 10) (Int32.toNatClampNeg i_23) := by rw [hn, mage, ← w3, ← ez_20, if_pos c_21]; exact ez_22
            refine lv_goto (tgt := 34) hx hb dX9_audit_88 (by decide) ?_
            exact ih34 inH z_19 z_22 i_23 γ ψ _ _ _ (show 0 ≤ (Int32.toInt i_23) ∧ (Int32.toInt i_23) ≤ (Int32.toInt (σ 14)) ∧ (Int32.toInt inH) = (Int32.toInt (σ 14)) from (by omega)) (show z_19 = ineg (φ 9) (Int32.toNatClampNeg i_23) from (by with_reducible assumption)) (show z_22 = mage (φ 10) (Int32.toNatClampNeg i_23) from (by with_reducible assumption)) (by omega) hP hS (lv_sub hl [3, 4, 2, 1, 0] rfl)
          · have kc_21 := bI_nlt rfl L_0 c_21
            refine lv_aload_n hx hb dX9_audit_72 rfl (lv_at hl 1 rfl) ?_
            refine mg_0_60 hx hb hts hinX9 hown hK hP (hts (.fieldLink RX9 101 "CensusDeskModel" "bAge" "[I") (List.mem_of_getElem? (i := 5) rfl)) dX9_audit_73 ?_
            refine lv_iload hx hb dX9_audit_76 (lv_at hl 4 rfl) ?_
            refine ml_31 (f := (φ 10)) hx hb hK hP (i := q) (vin rfl (by omega)) rfl dX9_audit_78 ?_
            refine lv_topi (fun z_24 ez_24 => ?_)
            have tz_24 : (Int32.toInt z_24) = Int32.toInt ((φ 10) (Int32.toNatClampNeg q)) := congrArg Int32.toInt ez_24
            refine lv_goto (tgt := 83) hx hb dX9_audit_79 (by decide) ?_
            refine lv_iadd hx hb dX9_audit_83 ?_
            refine lv_topi (fun z_25 ez_25 => ?_)
            refine lv_istore_n (lv' := [(3, .int z_25), (2, .int z_19), (0, .ref (a 0)), (1, .int inH), (4, .int q)]) hx hb dX9_audit_84 rfl hl (by decide) rfl ?_
            clear hl; intro ls hl
            obtain ⟨i_26, ei_26⟩ : ∃ z : Int32, z = q + 1 := ⟨_, rfl⟩
            refine lv_iinc (v := i_26) (lv' := [(4, .int i_26), (3, .int z_25), (2, .int z_19), (0, .ref (a 0)), (1, .int inH)]) hx hb dX9_audit_85 hl (k := 4) rfl (by rw [ei_26]; rfl) (by decide) rfl ?_
            clear hl; intro ls hl
            have ti_26 : (Int32.toInt i_26) = (Int32.toInt q) + 1 := aI_add rfl L_1 ei_26 (by have := rng q; have := rng (σ 14); omega)
            have hn : Int32.toNatClampNeg i_26 = Int32.toNatClampNeg q + 1 := tn_succ (by omega) ti_26
            have w2 : z_19 = ineg (φ 9) (Int32.toNatClampNeg i_26) := by rw [hn, ineg, ← w2, ← ez_17, if_pos c_18]; exact ez_19
            have w3 : z_25 = mage (φ 10) (Int32.toNatClampNeg i_26) := by rw [hn, mage, ← w3, ← ez_20, if_neg c_21, ez_20, ← ez_24]; exact ez_25
            refine lv_goto (tgt := 34) hx hb dX9_audit_88 (by decide) ?_
            exact ih34 inH z_19 z_25 i_26 γ ψ _ _ _ (show 0 ≤ (Int32.toInt i_26) ∧ (Int32.toInt i_26) ≤ (Int32.toInt (σ 14)) ∧ (Int32.toInt inH) = (Int32.toInt (σ 14)) from (by omega)) (show z_19 = ineg (φ 9) (Int32.toNatClampNeg i_26) from (by with_reducible assumption)) (show z_25 = mage (φ 10) (Int32.toNatClampNeg i_26) from (by with_reducible assumption)) (by omega) hP hS (lv_sub hl [3, 4, 2, 1, 0] rfl)
        · have kc_18 := bI_nle L_0 rfl c_18
          refine lv_iconst (v := 1) hx hb dX9_audit_54 (by decide) ?_
          refine lv_goto (tgt := 59) hx hb dX9_audit_55 (by decide) ?_
          refine lv_iadd hx hb dX9_audit_59 ?_
          refine lv_topi (fun z_27 ez_27 => ?_)
          refine lv_istore_n (lv' := [(2, .int z_27), (0, .ref (a 0)), (1, .int inH), (3, .int ages), (4, .int q)]) hx hb dX9_audit_60 rfl hl (by decide) rfl ?_
          clear hl; intro ls hl
          refine lv_iload_n hx hb dX9_audit_61 rfl (lv_at hl 3 rfl) ?_
          refine lv_aload_n hx hb dX9_audit_62 rfl (lv_at hl 1 rfl) ?_
          refine mg_0_60 hx hb hts hinX9 hown hK hP (hts (.fieldLink RX9 101 "CensusDeskModel" "bAge" "[I") (List.mem_of_getElem? (i := 5) rfl)) dX9_audit_63 ?_
          refine lv_iload hx hb dX9_audit_66 (lv_at hl 4 rfl) ?_
          refine ml_31 (f := (φ 10)) hx hb hK hP (i := q) (vin rfl (by omega)) rfl dX9_audit_68 ?_
          refine lv_topi (fun z_28 ez_28 => ?_)
          have tz_28 : (Int32.toInt z_28) = Int32.toInt ((φ 10) (Int32.toNatClampNeg q)) := congrArg Int32.toInt ez_28
          refine lv_if_lt (tgt := 82) hx hb dX9_audit_69 (by decide) (fun c_29 => ?_) (fun c_29 => ?_)
          · have kc_29 := bI_lt rfl L_0 c_29
            refine lv_iconst (v := 0) hx hb dX9_audit_82 (by decide) ?_
            refine lv_iadd hx hb dX9_audit_83 ?_
            refine lv_topi (fun z_30 ez_30 => ?_)
            refine lv_istore_n (lv' := [(3, .int z_30), (2, .int z_27), (0, .ref (a 0)), (1, .int inH), (4, .int q)]) hx hb dX9_audit_84 rfl hl (by decide) rfl ?_
            clear hl; intro ls hl
            obtain ⟨i_31, ei_31⟩ : ∃ z : Int32, z = q + 1 := ⟨_, rfl⟩
            refine lv_iinc (v := i_31) (lv' := [(4, .int i_31), (3, .int z_30), (2, .int z_27), (0, .ref (a 0)), (1, .int inH)]) hx hb dX9_audit_85 hl (k := 4) rfl (by rw [ei_31]; rfl) (by decide) rfl ?_
            clear hl; intro ls hl
            have ti_31 : (Int32.toInt i_31) = (Int32.toInt q) + 1 := aI_add rfl L_1 ei_31 (by have := rng q; have := rng (σ 14); omega)
            have hn : Int32.toNatClampNeg i_31 = Int32.toNatClampNeg q + 1 := tn_succ (by omega) ti_31
            have w2 : z_27 = ineg (φ 9) (Int32.toNatClampNeg i_31) := by rw [hn, ineg, ← w2, ← ez_17, if_neg c_18]; exact ez_27
            have w3 : z_30 = mage (φ 10) (Int32.toNatClampNeg i_31) := by rw [hn, mage, ← w3, ← ez_28, if_pos c_29]; exact ez_30
            refine lv_goto (tgt := 34) hx hb dX9_audit_88 (by decide) ?_
            exact ih34 inH z_27 z_30 i_31 γ ψ _ _ _ (show 0 ≤ (Int32.toInt i_31) ∧ (Int32.toInt i_31) ≤ (Int32.toInt (σ 14)) ∧ (Int32.toInt inH) = (Int32.toInt (σ 14)) from (by omega)) (show z_27 = ineg (φ 9) (Int32.toNatClampNeg i_31) from (by with_reducible assumption)) (show z_30 = mage (φ 10) (Int32.toNatClampNeg i_31) from (by with_reducible assumption)) (by omega) hP hS (lv_sub hl [3, 4, 2, 1, 0] rfl)
          · have kc_29 := bI_nlt rfl L_0 c_29
            refine lv_aload_n hx hb dX9_audit_72 rfl (lv_at hl 1 rfl) ?_
            refine mg_0_60 hx hb hts hinX9 hown hK hP (hts (.fieldLink RX9 101 "CensusDeskModel" "bAge" "[I") (List.mem_of_getElem? (i := 5) rfl)) dX9_audit_73 ?_
            refine lv_iload hx hb dX9_audit_76 (lv_at hl 4 rfl) ?_
            refine ml_31 (f := (φ 10)) hx hb hK hP (i := q) (vin rfl (by omega)) rfl dX9_audit_78 ?_
            refine lv_topi (fun z_32 ez_32 => ?_)
            have tz_32 : (Int32.toInt z_32) = Int32.toInt ((φ 10) (Int32.toNatClampNeg q)) := congrArg Int32.toInt ez_32
            refine lv_goto (tgt := 83) hx hb dX9_audit_79 (by decide) ?_
            refine lv_iadd hx hb dX9_audit_83 ?_
            refine lv_topi (fun z_33 ez_33 => ?_)
            refine lv_istore_n (lv' := [(3, .int z_33), (2, .int z_27), (0, .ref (a 0)), (1, .int inH), (4, .int q)]) hx hb dX9_audit_84 rfl hl (by decide) rfl ?_
            clear hl; intro ls hl
            obtain ⟨i_34, ei_34⟩ : ∃ z : Int32, z = q + 1 := ⟨_, rfl⟩
            refine lv_iinc (v := i_34) (lv' := [(4, .int i_34), (3, .int z_33), (2, .int z_27), (0, .ref (a 0)), (1, .int inH)]) hx hb dX9_audit_85 hl (k := 4) rfl (by rw [ei_34]; rfl) (by decide) rfl ?_
            clear hl; intro ls hl
            have ti_34 : (Int32.toInt i_34) = (Int32.toInt q) + 1 := aI_add rfl L_1 ei_34 (by have := rng q; have := rng (σ 14); omega)
            have hn : Int32.toNatClampNeg i_34 = Int32.toNatClampNeg q + 1 := tn_succ (by omega) ti_34
            have w2 : z_27 = ineg (φ 9) (Int32.toNatClampNeg i_34) := by rw [hn, ineg, ← w2, ← ez_17, if_neg c_18]; exact ez_27
            have w3 : z_33 = mage (φ 10) (Int32.toNatClampNeg i_34) := by rw [hn, mage, ← w3, ← ez_28, if_neg c_29, ez_28, ← ez_32]; exact ez_33
            refine lv_goto (tgt := 34) hx hb dX9_audit_88 (by decide) ?_
            exact ih34 inH z_27 z_33 i_34 γ ψ _ _ _ (show 0 ≤ (Int32.toInt i_34) ∧ (Int32.toInt i_34) ≤ (Int32.toInt (σ 14)) ∧ (Int32.toInt inH) = (Int32.toInt (σ 14)) from (by omega)) (show z_27 = ineg (φ 9) (Int32.toNatClampNeg i_34) from (by with_reducible assumption)) (show z_33 = mage (φ 10) (Int32.toNatClampNeg i_34) from (by with_reducible assumption)) (by omega) hP hS (lv_sub hl [3, 4, 2, 1, 0] rfl)
  have J4 : ∀ (n4 : Nat), ∀ (inH : Int32) (h : Int32) (γ : Nat → Int32) (ψ : Nat → Nat → Int32) (H : Heap) (locs : List Loc) (ls : Array Slot), (0 ≤ (Int32.toInt h) ∧ (Int32.toInt h) ≤ (Int32.toInt (σ 13)) ∧ 0 ≤ (Int32.toInt inH) ∧ (Int32.toInt inH) ≤ 2000 * (Int32.toInt h)) → ((Int32.toInt inH) = zsum (φ 8) (Int32.toNatClampNeg h)) → (((Int32.toInt (σ 13)) - (Int32.toInt h)).toNat < n4) → va_P (dC, dI) vwCl (mw a κ (σ, φ, γ, ψ)) H → va_S (mA a) s.heap H locs → lv_has ls 5 [(0, .ref (a 0)), (1, .int inH), (2, .int h)] → W p l e ({ frames := 1, cells := 0, slots := 0, locals := 23 } : Room) s m ([.ref (a 0)] : List Value).toArray below meth c H locs 0 0 QQ (F0 m 4 ls []) := by
    intro n4
    induction n4 with
    | zero =>
      intro inH h γ ψ H locs ls v0 vz hm
      exact absurd hm (Nat.not_lt_zero _)
    | succ n4 ih4 =>
      intro inH h γ ψ H locs ls v0 vz hm hP hS hl
      refine lv_iload_n hx hb dX9_audit_4 rfl (lv_at hl 2 rfl) ?_
      refine lv_aload_n hx hb dX9_audit_5 rfl (lv_at hl 0 rfl) ?_
      refine mg_0_58 (v := (σ 13)) hx hb hts hinX9 hown hK hP (hts (.fieldLink RX9 295 "CensusDeskModel" "booked" "I") (List.mem_of_getElem? (i := 1) rfl)) rfl dX9_audit_6 ?_
      refine lv_icmp_ge (tgt := 27) hx hb dX9_audit_9 (by decide) (fun c_35 => ?_) (fun c_35 => ?_)
      · have kc_35 := bI_le rfl rfl c_35
        have eh : h = (σ 13) := Int32.toInt_inj.mp (by omega)
        have vz2 : Int32.toInt inH = zsum (φ 8) (Int32.toNatClampNeg (σ 13)) := by rw [vz, eh]
        refine lv_iconst (v := 0) hx hb dX9_audit_27 (by decide) ?_
        refine lv_istore_n (lv' := [(2, .int 0), (0, .ref (a 0)), (1, .int inH)]) hx hb dX9_audit_28 rfl hl (by decide) rfl ?_
        clear hl; intro ls hl
        refine lv_iconst (v := 0) hx hb dX9_audit_29 (by decide) ?_
        refine lv_istore_n (lv' := [(3, .int 0), (2, .int 0), (0, .ref (a 0)), (1, .int inH)]) hx hb dX9_audit_30 rfl hl (by decide) rfl ?_
        clear hl; intro ls hl
        refine lv_iconst (v := 0) hx hb dX9_audit_31 (by decide) ?_
        refine lv_istore (lv' := [(4, .int 0), (3, .int 0), (2, .int 0), (0, .ref (a 0)), (1, .int inH)]) hx hb dX9_audit_32 hl (by decide) rfl ?_
        clear hl; intro ls hl
        exact J34 (_ + 1) inH 0 0 0 γ ψ _ _ _ (show 0 ≤ (Int32.toInt 0) ∧ (Int32.toInt 0) ≤ (Int32.toInt (σ 14)) ∧ (Int32.toInt inH) = (Int32.toInt (σ 14)) from (by have := L_0; omega)) (show 0 = ineg (φ 9) (Int32.toNatClampNeg 0) from rfl) (show 0 = mage (φ 10) (Int32.toNatClampNeg 0) from rfl) (Nat.lt_succ_self _) hP hS (lv_sub hl [3, 4, 2, 1, 0] rfl)
      · have kc_35 := bI_nle rfl rfl c_35
        refine lv_iload_n hx hb dX9_audit_12 rfl (lv_at hl 1 rfl) ?_
        refine lv_aload_n hx hb dX9_audit_13 rfl (lv_at hl 0 rfl) ?_
        refine mg_0_55 hx hb hts hinX9 hown hK hP (hts (.fieldLink RX9 89 "CensusDeskModel" "bMany" "[I") (List.mem_of_getElem? (i := 2) rfl)) dX9_audit_14 ?_
        refine lv_iload_n hx hb dX9_audit_17 rfl (lv_at hl 2 rfl) ?_
        refine ml_27 (f := (φ 8)) hx hb hK hP (i := h) (vin rfl (by omega)) rfl dX9_audit_18 ?_
        refine lv_topi (fun z_36 ez_36 => ?_)
        have tz_36 : (Int32.toInt z_36) = Int32.toInt ((φ 8) (Int32.toNatClampNeg h)) := congrArg Int32.toInt ez_36
        have pz_36 : 0 ≤ (Int32.toInt z_36) ∧ (Int32.toInt z_36) ≤ 2000 := p_m_bMany.of ez_36
        refine lv_iadd hx hb dX9_audit_19 ?_
        refine lv_topi (fun z_37 ez_37 => ?_)
        have tz_37 : (Int32.toInt z_37) = (Int32.toInt inH) + (Int32.toInt z_36) := aI_add rfl rfl ez_37 (by have := rng inH; have := rng z_36; omega)
        refine lv_istore_n (lv' := [(1, .int z_37), (0, .ref (a 0)), (2, .int h)]) hx hb dX9_audit_20 rfl hl (by decide) rfl ?_
        clear hl; intro ls hl
        obtain ⟨i_38, ei_38⟩ : ∃ z : Int32, z = h + 1 := ⟨_, rfl⟩
        refine lv_iinc (v := i_38) (lv' := [(2, .int i_38), (1, .int z_37), (0, .ref (a 0))]) hx hb dX9_audit_21 hl (k := 2) rfl (by rw [ei_38]; rfl) (by decide) rfl ?_
        clear hl; intro ls hl
        have ti_38 : (Int32.toInt i_38) = (Int32.toInt h) + 1 := aI_add rfl L_1 ei_38 (by have := rng h; have := rng (σ 13); omega)
        have hz : zsum (φ 8) (Int32.toNatClampNeg i_38) = zsum (φ 8) (Int32.toNatClampNeg h) + Int32.toInt ((φ 8) (Int32.toNatClampNeg h)) := by rw [tn_succ (x := h) (by omega) ti_38, zsum]
        refine lv_goto (tgt := 4) hx hb dX9_audit_24 (by decide) ?_
        exact ih4 z_37 i_38 γ ψ _ _ _ (show 0 ≤ (Int32.toInt i_38) ∧ (Int32.toInt i_38) ≤ (Int32.toInt (σ 13)) ∧ 0 ≤ (Int32.toInt z_37) ∧ (Int32.toInt z_37) ≤ 2000 * (Int32.toInt i_38) from (by omega)) (show (Int32.toInt z_37) = zsum (φ 8) (Int32.toNatClampNeg i_38) from (by omega)) (by omega) hP hS (lv_sub hl [2, 1, 0] rfl)
  refine lv_iconst (v := 0) hx hb dX9_audit_0 (by decide) ?_
  refine lv_istore_n (lv' := [(1, .int 0), (0, .ref (a 0))]) hx hb dX9_audit_1 rfl hl (by decide) rfl ?_
  clear hl; intro ls hl
  refine lv_iconst (v := 0) hx hb dX9_audit_2 (by decide) ?_
  refine lv_istore_n (lv' := [(2, .int 0), (1, .int 0), (0, .ref (a 0))]) hx hb dX9_audit_3 rfl hl (by decide) rfl ?_
  clear hl; intro ls hl
  exact J4 (_ + 1) 0 0 γ ψ _ _ _ (show 0 ≤ (Int32.toInt 0) ∧ (Int32.toInt 0) ≤ (Int32.toInt (σ 13)) ∧ 0 ≤ (Int32.toInt 0) ∧ (Int32.toInt 0) ≤ 2000 * (Int32.toInt 0) from (by have := L_0; omega)) (show (Int32.toInt 0) = zsum (φ 8) (Int32.toNatClampNeg 0) from rfl) (Nat.lt_succ_self _) hP hS (lv_sub hl [2, 1, 0] rfl)
set_option maxHeartbeats 4000000 in
set_option maxRecDepth 100000 in
theorem c_X9_rule (l : Launch) (dC : Nat → ClassId) (dI : Nat → Nat → Nat) (a : Nat → Nat) (κ : Nat → ClassId) (σ : Nat → Int32) (φ : Nat → Nat → Int32) (γ : Nat → Int32) (ψ : Nat → Nat → Int32) (kind : Int32) (w : Int32) (na : Int32) : Met l yX9_rule wsX9_rule ({ frames := 0, cells := 0, slots := 0, locals := 0 } : Room) (va_Pc [.ref (a 0), .int kind, .int w, .int na] (mPre dC dI a κ (σ, φ, γ, ψ))) (va_Qi (QI (fun r S F => σ = S ∧ φ = F ∧ True)) (mB dC dI a κ) (mA a)) 0 0 (mA a) := by
  refine Met.ofW (cc := cX9_rule) (maxL := 5) (ret := (some .int)) (by decide) rfl ?_
  intro p e s m args below meth c s₁ B hml hv
  obtain ⟨rfl, hP, hK, hI, hN⟩ := hv
  have hx := B.exec
  have hb := B.bytes
  have hr := B.returns
  have hts := atoms_spec (ws := wsX9_rule) B.pre
  have hown : s.vm.findClass RX9 = some m.cls := findClass_of_methodNamed B.named
  have hlocks := B.notSynchronized
  have hS : va_S (mA a) s.heap s.heap [] := va_S.rf
  have hinX9 : ∀ w ∈ wsX90, w ∈ wsX9_rule := fun _ h => List.mem_cons_of_mem _ (List.mem_append_right _ h)
  have hl := lv_entry ([.ref (a 0), .int kind, .int w, .int na]) (n := 5) (Nat.le_of_ble_eq_true rfl)
  rw [lg_entry_eq]
  generalize (lg_sl ([.ref (a 0), .int kind, .int w, .int na]) ++ List.replicate (5 - (lg_sl ([.ref (a 0), .int kind, .int w, .int na])).length) Slot.unset).toArray = ls at hl ⊢
  have hl : lv_has ls 5 [(0, .ref (a 0)), (1, .int kind), (2, .int w), (3, .int na)] := hl
  refine lv_iload_n hx hb dX9_rule_0 rfl (lv_at hl 1 rfl) ?_
  refine lv_iconst (v := 1) hx hb dX9_rule_1 (by decide) ?_
  refine lv_icmp_lt (tgt := 32) hx hb dX9_rule_2 (by decide) (fun c_1 => ?_) (fun c_1 => ?_)
  · have kc_1 := bI_lt rfl L_1 c_1
    refine lv_bipush (v := (-3)) hx hb dX9_rule_32 (by decide) ?_
    exact W.iret (v := (-3)) hx hb hr (fun t ht hW => ⟨⟨(-3), (σ, φ, γ, ψ), rfl, ⟨rfl, rfl, trivial⟩, (by show va_P _ _ _ _; rw [ht]; exact hP)⟩, hS.F ht⟩) hS.2.2 dX9_rule_34
  · have kc_1 := bI_nlt rfl L_1 c_1
    refine lv_iload_n hx hb dX9_rule_5 rfl (lv_at hl 1 rfl) ?_
    refine lv_bipush (v := 29) hx hb dX9_rule_6 (by decide) ?_
    refine lv_icmp_gt (tgt := 32) hx hb dX9_rule_8 (by decide) (fun c_2 => ?_) (fun c_2 => ?_)
    · have kc_2 := bI_lt L_29 rfl c_2
      refine lv_bipush (v := (-3)) hx hb dX9_rule_32 (by decide) ?_
      exact W.iret (v := (-3)) hx hb hr (fun t ht hW => ⟨⟨(-3), (σ, φ, γ, ψ), rfl, ⟨rfl, rfl, trivial⟩, (by show va_P _ _ _ _; rw [ht]; exact hP)⟩, hS.F ht⟩) hS.2.2 dX9_rule_34
    · have kc_2 := bI_nlt L_29 rfl c_2
      refine lv_iload_n hx hb dX9_rule_11 rfl (lv_at hl 2 rfl) ?_
      refine lv_iconst (v := (-1)) hx hb dX9_rule_12 (by decide) ?_
      refine lv_icmp_lt (tgt := 32) hx hb dX9_rule_13 (by decide) (fun c_3 => ?_) (fun c_3 => ?_)
      · have kc_3 := bI_lt rfl L_m1 c_3
        refine lv_bipush (v := (-3)) hx hb dX9_rule_32 (by decide) ?_
        exact W.iret (v := (-3)) hx hb hr (fun t ht hW => ⟨⟨(-3), (σ, φ, γ, ψ), rfl, ⟨rfl, rfl, trivial⟩, (by show va_P _ _ _ _; rw [ht]; exact hP)⟩, hS.F ht⟩) hS.2.2 dX9_rule_34
      · have kc_3 := bI_nlt rfl L_m1 c_3
        refine lv_iload_n hx hb dX9_rule_16 rfl (lv_at hl 2 rfl) ?_
        refine lv_iconst (v := 4) hx hb dX9_rule_17 (by decide) ?_
        refine lv_icmp_gt (tgt := 32) hx hb dX9_rule_18 (by decide) (fun c_4 => ?_) (fun c_4 => ?_)
        · have kc_4 := bI_lt L_4 rfl c_4
          refine lv_bipush (v := (-3)) hx hb dX9_rule_32 (by decide) ?_
          exact W.iret (v := (-3)) hx hb hr (fun t ht hW => ⟨⟨(-3), (σ, φ, γ, ψ), rfl, ⟨rfl, rfl, trivial⟩, (by show va_P _ _ _ _; rw [ht]; exact hP)⟩, hS.F ht⟩) hS.2.2 dX9_rule_34
        · have kc_4 := bI_nlt L_4 rfl c_4
          refine lv_iload_n hx hb dX9_rule_21 rfl (lv_at hl 3 rfl) ?_
          refine lv_iconst (v := (-1)) hx hb dX9_rule_22 (by decide) ?_
          refine lv_icmp_lt (tgt := 32) hx hb dX9_rule_23 (by decide) (fun c_5 => ?_) (fun c_5 => ?_)
          · have kc_5 := bI_lt rfl L_m1 c_5
            refine lv_bipush (v := (-3)) hx hb dX9_rule_32 (by decide) ?_
            exact W.iret (v := (-3)) hx hb hr (fun t ht hW => ⟨⟨(-3), (σ, φ, γ, ψ), rfl, ⟨rfl, rfl, trivial⟩, (by show va_P _ _ _ _; rw [ht]; exact hP)⟩, hS.F ht⟩) hS.2.2 dX9_rule_34
          · have kc_5 := bI_nlt rfl L_m1 c_5
            refine lv_iload_n hx hb dX9_rule_26 rfl (lv_at hl 3 rfl) ?_
            refine lv_ldc (v := 999999) hx hb hown (hts (.constant RX9 124 (999999)) (List.mem_of_getElem? (i := 1) rfl)) dX9_rule_27 ?_
            refine lv_icmp_le (tgt := 35) hx hb dX9_rule_29 (by decide) (fun c_6 => ?_) (fun c_6 => ?_)
            · have kc_6 := bI_le rfl L_999999 c_6
              refine lv_aload_n hx hb dX9_rule_35 rfl (lv_at hl 0 rfl) ?_
              refine mg_0_5 (v := (σ 2)) hx hb hts hinX9 hown hK hP (hts (.fieldLink RX9 120 "CensusDeskModel" "isHeld" "Z") (List.mem_of_getElem? (i := 2) rfl)) rfl dX9_rule_36 ?_
              refine lv_if_eq (tgt := 45) hx hb dX9_rule_39 (by decide) (fun c_7 => ?_) (fun c_7 => ?_)
              · have kc_7 := bI_eq rfl L_0 c_7
                refine lv_aload_n hx hb dX9_rule_45 rfl (lv_at hl 0 rfl) ?_
                refine mg_0_2 hx hb hts hinX9 hown hK hP (hts (.fieldLink RX9 13 "CensusDeskModel" "ruleWay" "[I") (List.mem_of_getElem? (i := 3) rfl)) dX9_rule_46 ?_
                refine lv_iload_n hx hb dX9_rule_49 rfl (lv_at hl 1 rfl) ?_
                refine ml_2 (f := (ψ 0)) hx hb hK hP (i := kind) (vin rfl (by omega)) rfl dX9_rule_50 ?_
                refine lv_topi (fun z_8 ez_8 => ?_)
                refine lv_istore (lv' := [(4, .int z_8), (0, .ref (a 0)), (1, .int kind), (2, .int w), (3, .int na)]) hx hb dX9_rule_51 hl (by decide) rfl ?_
                clear hl; intro ls hl
                refine lv_aload_n hx hb dX9_rule_53 rfl (lv_at hl 1 rfl) ?_
                refine mg_0_2 hx hb hts hinX9 hown hK hP (hts (.fieldLink RX9 13 "CensusDeskModel" "ruleWay" "[I") (List.mem_of_getElem? (i := 3) rfl)) dX9_rule_54 ?_
                refine lv_iload_n hx hb dX9_rule_57 rfl (lv_at hl 2 rfl) ?_
                refine lv_iload_n hx hb dX9_rule_58 rfl (lv_at hl 3 rfl) ?_
                refine ms_2 (f := (ψ 0)) hx hb hK hP hI hS (i := kind) (x := w) (vin rfl (by omega)) rfl dX9_rule_59 ?_
                clear hP hS; intro H locs hP hS
                obtain ⟨f_9, ef_9⟩ : ∃ z : Nat → Int32, z = upd (ψ 0) (Int32.toNatClampNeg kind) w := ⟨_, rfl⟩
                rw [← ef_9] at hP
                refine lv_aload_n hx hb dX9_rule_60 rfl (lv_at hl 1 rfl) ?_
                refine mg_0_3 hx hb hts hinX9 hown hK hP (hts (.fieldLink RX9 17 "CensusDeskModel" "ruleNumber" "[I") (List.mem_of_getElem? (i := 4) rfl)) dX9_rule_61 ?_
                refine lv_iload_n hx hb dX9_rule_64 rfl (lv_at hl 2 rfl) ?_
                refine lv_iload_n hx hb dX9_rule_65 rfl (lv_at hl 4 rfl) ?_
                refine ms_3 (f := (ψ 1)) hx hb hK hP hI hS (i := kind) (x := na) (vin rfl (by omega)) rfl dX9_rule_66 ?_
                clear hP hS; intro H locs hP hS
                obtain ⟨f_10, ef_10⟩ : ∃ z : Nat → Int32, z = upd (ψ 1) (Int32.toNatClampNeg kind) na := ⟨_, rfl⟩
                rw [← ef_10] at hP
                refine lv_iload hx hb dX9_rule_67 (lv_at hl 0 rfl) ?_
                exact W.iret (v := z_8) hx hb hr (fun t ht hW => ⟨⟨z_8, (σ, φ, γ, (up (up ψ 0 f_9) 1 f_10)), rfl, ⟨rfl, rfl, trivial⟩, (by show va_P _ _ _ _; rw [ht]; exact hP)⟩, hS.F ht⟩) hS.2.2 dX9_rule_69
              · have kc_7 := bI_ne rfl L_0 c_7
                refine lv_bipush (v := (-2)) hx hb dX9_rule_42 (by decide) ?_
                exact W.iret (v := (-2)) hx hb hr (fun t ht hW => ⟨⟨(-2), (σ, φ, γ, ψ), rfl, ⟨rfl, rfl, trivial⟩, (by show va_P _ _ _ _; rw [ht]; exact hP)⟩, hS.F ht⟩) hS.2.2 dX9_rule_44
            · have kc_6 := bI_nle rfl L_999999 c_6
              refine lv_bipush (v := (-3)) hx hb dX9_rule_32 (by decide) ?_
              exact W.iret (v := (-3)) hx hb hr (fun t ht hW => ⟨⟨(-3), (σ, φ, γ, ψ), rfl, ⟨rfl, rfl, trivial⟩, (by show va_P _ _ _ _; rw [ht]; exact hP)⟩, hS.F ht⟩) hS.2.2 dX9_rule_34
set_option maxHeartbeats 4000000 in
set_option maxRecDepth 100000 in
theorem c_X9_feed (l : Launch) (dC : Nat → ClassId) (dI : Nat → Nat → Nat) (a : Nat → Nat) (κ : Nat → ClassId) (σ : Nat → Int32) (φ : Nat → Nat → Int32) (γ : Nat → Int32) (ψ : Nat → Nat → Int32) (na : Int32) (nb : Int32) (nc : Int32) (nd : Int32) (ne : Int32) (hfd : 0 ≤ (Int32.toInt (σ 0)) ∧ (Int32.toInt (σ 0)) ≤ 4000) (hr : (Int32.toInt (σ 2)) = 0 ∨ ((0 ≤ (Int32.toInt (σ 1)) ∧ (Int32.toInt (σ 1)) ≤ (Int32.toInt (σ 0)) ∧ 0 ≤ (Int32.toInt (σ 10)) ∧ (Int32.toInt (σ 10)) ≤ 200000 * (Int32.toInt (σ 1)) ∧ ((Int32.toInt (σ 3)) = 0 ∨ (Int32.toInt (σ 10)) + 10 ≤ 200000 * (Int32.toInt (σ 1)))) ∧ (0 ≤ (Int32.toInt (σ 8)) ∧ (2 * (Int32.toInt (σ 8)) ≤ (Int32.toInt (σ 1)) ∨ (2 * (Int32.toInt (σ 8)) ≤ (Int32.toInt (σ 1)) + 1 ∧ (Int32.toInt (σ 1)) = (Int32.toInt (σ 0))))) ∧ (0 ≤ (Int32.toInt (σ 7)) ∧ (((Int32.toInt (σ 3)) = 0 ∧ (2 * (Int32.toInt (σ 7)) ≤ (Int32.toInt (σ 1)) ∨ (2 * (Int32.toInt (σ 7)) ≤ (Int32.toInt (σ 1)) + 1 ∧ (Int32.toInt (σ 1)) = (Int32.toInt (σ 0))))) ∨ ((Int32.toInt (σ 3)) ≠ 0 ∧ (2 * (Int32.toInt (σ 7)) + 2 ≤ (Int32.toInt (σ 1)) ∨ (2 * (Int32.toInt (σ 7)) + 2 ≤ (Int32.toInt (σ 1)) + 1 ∧ (Int32.toInt (σ 1)) = (Int32.toInt (σ 0))))))) ∧ ((Int32.toInt (σ 3)) = 0 ∨ (0 ≤ (Int32.toInt (σ 4)) ∧ (Int32.toInt (σ 4)) ≤ (Int32.toInt (σ 8)))) ∧ (0 ≤ (Int32.toInt (σ 9)) ∧ (Int32.toInt (σ 9)) ≤ (Int32.toInt (σ 1))) ∧ ((Int32.toInt (σ 3)) = 0 ∨ (Int32.toInt (σ 8)) ≤ (Int32.toInt (σ 4)) ∨ Int32.toInt ((φ 4) (Int32.toNatClampNeg (σ 4))) ≤ (Int32.toInt (σ 1))))) : Met l yX9_feed wsX9_feed ({ frames := 0, cells := 0, slots := 0, locals := 0 } : Room) (va_Pc [.ref (a 0), .int na, .int nb, .int nc, .int nd, .int ne] (mPre dC dI a κ (σ, φ, γ, ψ))) (va_Qi (QI (fun r S F => ∃ (s0 : Int32) (f0 : Nat → Int32), (up σ 0 s0) = S ∧ (up φ 0 f0) = F ∧ (0 ≤ (Int32.toInt s0) ∧ (Int32.toInt s0) ≤ 4000) ∧ ((Int32.toInt (σ 2)) = 0 ∨ ((0 ≤ (Int32.toInt (σ 1)) ∧ (Int32.toInt (σ 1)) ≤ (Int32.toInt s0) ∧ 0 ≤ (Int32.toInt (σ 10)) ∧ (Int32.toInt (σ 10)) ≤ 200000 * (Int32.toInt (σ 1)) ∧ ((Int32.toInt (σ 3)) = 0 ∨ (Int32.toInt (σ 10)) + 10 ≤ 200000 * (Int32.toInt (σ 1)))) ∧ (0 ≤ (Int32.toInt (σ 8)) ∧ (2 * (Int32.toInt (σ 8)) ≤ (Int32.toInt (σ 1)) ∨ (2 * (Int32.toInt (σ 8)) ≤ (Int32.toInt (σ 1)) + 1 ∧ (Int32.toInt (σ 1)) = (Int32.toInt s0)))) ∧ (0 ≤ (Int32.toInt (σ 7)) ∧ (((Int32.toInt (σ 3)) = 0 ∧ (2 * (Int32.toInt (σ 7)) ≤ (Int32.toInt (σ 1)) ∨ (2 * (Int32.toInt (σ 7)) ≤ (Int32.toInt (σ 1)) + 1 ∧ (Int32.toInt (σ 1)) = (Int32.toInt s0)))) ∨ ((Int32.toInt (σ 3)) ≠ 0 ∧ (2 * (Int32.toInt (σ 7)) + 2 ≤ (Int32.toInt (σ 1)) ∨ (2 * (Int32.toInt (σ 7)) + 2 ≤ (Int32.toInt (σ 1)) + 1 ∧ (Int32.toInt (σ 1)) = (Int32.toInt s0)))))) ∧ ((Int32.toInt (σ 3)) = 0 ∨ (0 ≤ (Int32.toInt (σ 4)) ∧ (Int32.toInt (σ 4)) ≤ (Int32.toInt (σ 8)))) ∧ (0 ≤ (Int32.toInt (σ 9)) ∧ (Int32.toInt (σ 9)) ≤ (Int32.toInt (σ 1))) ∧ ((Int32.toInt (σ 3)) = 0 ∨ (Int32.toInt (σ 8)) ≤ (Int32.toInt (σ 4)) ∨ Int32.toInt ((φ 4) (Int32.toNatClampNeg (σ 4))) ≤ (Int32.toInt (σ 1))))))) (mB dC dI a κ) (mA a)) 0 0 (mA a) := by
  refine Met.ofW (cc := cX9_feed) (maxL := 8) (ret := (some .int)) (by decide) rfl ?_
  intro p e s m args below meth c s₁ B hml hv
  obtain ⟨rfl, hP, hK, hI, hN⟩ := hv
  have hx := B.exec
  have hb := B.bytes
  have hr := B.returns
  have hts := atoms_spec (ws := wsX9_feed) B.pre
  have hown : s.vm.findClass RX9 = some m.cls := findClass_of_methodNamed B.named
  have hlocks := B.notSynchronized
  have hS : va_S (mA a) s.heap s.heap [] := va_S.rf
  have hinX9 : ∀ w ∈ wsX90, w ∈ wsX9_feed := fun _ h => List.mem_cons_of_mem _ (List.mem_append_right _ h)
  have hl := lv_entry ([.ref (a 0), .int na, .int nb, .int nc, .int nd, .int ne]) (n := 8) (Nat.le_of_ble_eq_true rfl)
  rw [lg_entry_eq]
  generalize (lg_sl ([.ref (a 0), .int na, .int nb, .int nc, .int nd, .int ne]) ++ List.replicate (8 - (lg_sl ([.ref (a 0), .int na, .int nb, .int nc, .int nd, .int ne])).length) Slot.unset).toArray = ls at hl ⊢
  have hl : lv_has ls 8 [(0, .ref (a 0)), (1, .int na), (2, .int nb), (3, .int nc), (4, .int nd), (5, .int ne)] := hl
  refine k_gen (fun QQ eQ => ?_)
  have J28 : ∀ (n28 : Nat), ∀ (k : Int32) (s0_c28 : Int32) (f0_c28 : Nat → Int32) (γ : Nat → Int32) (ψ : Nat → Nat → Int32) (H : Heap) (locs : List Loc) (ls : Array Slot), (0 ≤ (Int32.toInt k) ∧ (Int32.toInt k) ≤ 20 ∧ (Int32.toInt s0_c28) = (Int32.toInt (σ 0)) + (Int32.toInt k) ∧ 0 ≤ (Int32.toInt (σ 0)) ∧ (Int32.toInt (σ 0)) + 20 ≤ 4000 ∧ (Int32.toInt (σ 2)) = 0) → ((20 - (Int32.toInt k)).toNat < n28) → va_P (dC, dI) vwCl (mw a κ ((up σ 0 s0_c28), (up φ 0 f0_c28), γ, ψ)) H → va_S (mA a) s.heap H locs → lv_has ls 8 [(0, .ref (a 0)), (1, .int na), (2, .int nb), (3, .int nc), (4, .int nd), (5, .int ne), (6, .int k)] → W p l e ({ frames := 0, cells := 0, slots := 0, locals := 0 } : Room) s m ([.ref (a 0), .int na, .int nb, .int nc, .int nd, .int ne] : List Value).toArray below meth c H locs 0 0 QQ (F0 m 28 ls []) := by
    intro n28
    induction n28 with
    | zero =>
      intro k s0_c28 f0_c28 γ ψ H locs ls v0 hm
      exact absurd hm (Nat.not_lt_zero _)
    | succ n28 ih28 =>
      intro k s0_c28 f0_c28 γ ψ H locs ls v0 hm hP hS hl
      refine lv_iload hx hb dX9_feed_28 (lv_at hl 6 rfl) ?_
      refine lv_bipush (v := 20) hx hb dX9_feed_30 (by decide) ?_
      refine lv_icmp_ge (tgt := 122) hx hb dX9_feed_32 (by decide) (fun c_1 => ?_) (fun c_1 => ?_)
      · have kc_1 := bI_le L_20 rfl c_1
        refine lv_aload_n hx hb dX9_feed_122 rfl (lv_at hl 0 rfl) ?_
        refine mg_0_1 (v := s0_c28) hx hb hts hinX9 hown hK hP (hts (.fieldLink RX9 116 "CensusDeskModel" "fed" "I") (List.mem_of_getElem? (i := 1) rfl)) rfl dX9_feed_123 ?_
        subst eQ
        exact W.iret (v := s0_c28) hx hb hr (fun t ht hW => ⟨⟨s0_c28, ((up σ 0 s0_c28), (up φ 0 f0_c28), γ, ψ), rfl, ⟨s0_c28, f0_c28, rfl, rfl, (show 0 ≤ (Int32.toInt s0_c28) ∧ (Int32.toInt s0_c28) ≤ 4000 from (by omega)), (show (Int32.toInt (σ 2)) = 0 ∨ ((0 ≤ (Int32.toInt (σ 1)) ∧ (Int32.toInt (σ 1)) ≤ (Int32.toInt s0_c28) ∧ 0 ≤ (Int32.toInt (σ 10)) ∧ (Int32.toInt (σ 10)) ≤ 200000 * (Int32.toInt (σ 1)) ∧ ((Int32.toInt (σ 3)) = 0 ∨ (Int32.toInt (σ 10)) + 10 ≤ 200000 * (Int32.toInt (σ 1)))) ∧ (0 ≤ (Int32.toInt (σ 8)) ∧ (2 * (Int32.toInt (σ 8)) ≤ (Int32.toInt (σ 1)) ∨ (2 * (Int32.toInt (σ 8)) ≤ (Int32.toInt (σ 1)) + 1 ∧ (Int32.toInt (σ 1)) = (Int32.toInt s0_c28)))) ∧ (0 ≤ (Int32.toInt (σ 7)) ∧ (((Int32.toInt (σ 3)) = 0 ∧ (2 * (Int32.toInt (σ 7)) ≤ (Int32.toInt (σ 1)) ∨ (2 * (Int32.toInt (σ 7)) ≤ (Int32.toInt (σ 1)) + 1 ∧ (Int32.toInt (σ 1)) = (Int32.toInt s0_c28)))) ∨ ((Int32.toInt (σ 3)) ≠ 0 ∧ (2 * (Int32.toInt (σ 7)) + 2 ≤ (Int32.toInt (σ 1)) ∨ (2 * (Int32.toInt (σ 7)) + 2 ≤ (Int32.toInt (σ 1)) + 1 ∧ (Int32.toInt (σ 1)) = (Int32.toInt s0_c28)))))) ∧ ((Int32.toInt (σ 3)) = 0 ∨ (0 ≤ (Int32.toInt (σ 4)) ∧ (Int32.toInt (σ 4)) ≤ (Int32.toInt (σ 8)))) ∧ (0 ≤ (Int32.toInt (σ 9)) ∧ (Int32.toInt (σ 9)) ≤ (Int32.toInt (σ 1))) ∧ ((Int32.toInt (σ 3)) = 0 ∨ (Int32.toInt (σ 8)) ≤ (Int32.toInt (σ 4)) ∨ Int32.toInt ((φ 4) (Int32.toNatClampNeg (σ 4))) ≤ (Int32.toInt (σ 1)))) from (by omega))⟩, (by show va_P _ _ _ _; rw [ht]; exact hP)⟩, hS.F ht⟩) hS.2.2 dX9_feed_126
      · have kc_1 := bI_nle L_20 rfl c_1
        refine lv_iload hx hb dX9_feed_35 (lv_at hl 6 rfl) ?_
        refine lv_iconst (v := 4) hx hb dX9_feed_37 (by decide) ?_
        refine lv_icmp_ge (tgt := 45) hx hb dX9_feed_38 (by decide) (fun c_2 => ?_) (fun c_2 => ?_)
        · have kc_2 := bI_le L_4 rfl c_2
          refine lv_iload hx hb dX9_feed_45 (lv_at hl 6 rfl) ?_
          refine lv_bipush (v := 8) hx hb dX9_feed_47 (by decide) ?_
          refine lv_icmp_ge (tgt := 56) hx hb dX9_feed_49 (by decide) (fun c_3 => ?_) (fun c_3 => ?_)
          · have kc_3 := bI_le L_8 rfl c_3
            refine lv_iload hx hb dX9_feed_56 (lv_at hl 6 rfl) ?_
            refine lv_bipush (v := 12) hx hb dX9_feed_58 (by decide) ?_
            refine lv_icmp_ge (tgt := 67) hx hb dX9_feed_60 (by decide) (fun c_4 => ?_) (fun c_4 => ?_)
            · have kc_4 := bI_le L_12 rfl c_4
              refine lv_iload hx hb dX9_feed_67 (lv_at hl 6 rfl) ?_
              refine lv_bipush (v := 16) hx hb dX9_feed_69 (by decide) ?_
              refine lv_icmp_ge (tgt := 79) hx hb dX9_feed_71 (by decide) (fun c_5 => ?_) (fun c_5 => ?_)
              · have kc_5 := bI_le L_16 rfl c_5
                refine lv_iload hx hb dX9_feed_79 (lv_at hl 5 rfl) ?_
                refine lv_istore (lv' := [(7, .int ne), (0, .ref (a 0)), (1, .int na), (2, .int nb), (3, .int nc), (4, .int nd), (5, .int ne), (6, .int k)]) hx hb dX9_feed_81 hl (by decide) rfl ?_
                clear hl; intro ls hl
                refine lv_aload_n hx hb dX9_feed_83 rfl (lv_at hl 1 rfl) ?_
                refine mg_0_0 hx hb hts hinX9 hown hK hP (hts (.fieldLink RX9 9 "CensusDeskModel" "tape" "[B") (List.mem_of_getElem? (i := 3) rfl)) dX9_feed_84 ?_
                refine lv_aload_n hx hb dX9_feed_87 rfl (lv_at hl 1 rfl) ?_
                refine mg_0_1 (v := s0_c28) hx hb hts hinX9 hown hK hP (hts (.fieldLink RX9 116 "CensusDeskModel" "fed" "I") (List.mem_of_getElem? (i := 1) rfl)) rfl dX9_feed_88 ?_
                refine lv_iload hx hb dX9_feed_91 (lv_at hl 0 rfl) ?_
                refine lv_bipush (v := 24) hx hb dX9_feed_93 (by decide) ?_
                refine lv_bipush (v := 8) hx hb dX9_feed_95 (by decide) ?_
                refine lv_iload hx hb dX9_feed_97 (lv_at hl 7 rfl) ?_
                refine lv_iconst (v := 4) hx hb dX9_feed_99 (by decide) ?_
                refine lv_irem hx hb dX9_feed_100 (by decide) ?_
                refine lv_topi (fun z_6 ez_6 => ?_)
                refine lv_imul hx hb dX9_feed_101 ?_
                refine lv_topi (fun z_7 ez_7 => ?_)
                refine lv_isub hx hb dX9_feed_102 ?_
                refine lv_topi (fun z_8 ez_8 => ?_)
                refine lv_ishr hx hb dX9_feed_103 ?_
                refine lv_topi (fun z_9 ez_9 => ?_)
                obtain ⟨z_10, ez_10⟩ : ∃ z : Int32, (Int32.toInt8 z_9).toInt32 = z := ⟨_, rfl⟩
                refine lv_i2b (v := z_10) hx hb dX9_feed_104 ez_10 ?_
                refine ms_1 (f := f0_c28) hx hb hK hP hI hS (i := s0_c28) (x := z_10) (vin rfl (by omega)) rfl dX9_feed_105 ?_
                clear hP hS; intro H locs hP hS
                obtain ⟨f_11, ef_11⟩ : ∃ z : Nat → Int32, z = upd f0_c28 (Int32.toNatClampNeg s0_c28) (vp_nar .byte z_10) := ⟨_, rfl⟩
                rw [← ef_11] at hP
                refine lv_aload_n hx hb dX9_feed_106 rfl (lv_at hl 1 rfl) ?_
                refine lv_dup hx hb dX9_feed_107 rfl ?_
                refine mg_0_1 (v := s0_c28) hx hb hts hinX9 hown hK hP (hts (.fieldLink RX9 116 "CensusDeskModel" "fed" "I") (List.mem_of_getElem? (i := 1) rfl)) rfl dX9_feed_108 ?_
                refine lv_iconst (v := 1) hx hb dX9_feed_111 (by decide) ?_
                refine lv_iadd hx hb dX9_feed_112 ?_
                refine lv_topi (fun z_12 ez_12 => ?_)
                have tz_12 : (Int32.toInt z_12) = (Int32.toInt s0_c28) + 1 := aI_add rfl L_1 ez_12 (by have := rng s0_c28; omega)
                refine mp_0_1 (v := z_12) hx hb hts hinX9 hown hK hP hI hS (hts (.fieldLink RX9 116 "CensusDeskModel" "fed" "I") (List.mem_of_getElem? (i := 1) rfl)) dX9_feed_113 ?_
                clear hP hS; intro H locs hP hS
                obtain ⟨i_13, ei_13⟩ : ∃ z : Int32, z = k + 1 := ⟨_, rfl⟩
                refine lv_iinc (v := i_13) (lv' := [(6, .int i_13), (7, .int ne), (0, .ref (a 0)), (1, .int na), (2, .int nb), (3, .int nc), (4, .int nd), (5, .int ne)]) hx hb dX9_feed_116 hl (k := 7) rfl (by rw [ei_13]; rfl) (by decide) rfl ?_
                clear hl; intro ls hl
                have ti_13 : (Int32.toInt i_13) = (Int32.toInt k) + 1 := aI_add rfl L_1 ei_13 (by have := rng k; omega)
                refine lv_goto (tgt := 28) hx hb dX9_feed_119 (by decide) ?_
                exact ih28 i_13 z_12 f_11 γ ψ _ _ _ (show 0 ≤ (Int32.toInt i_13) ∧ (Int32.toInt i_13) ≤ 20 ∧ (Int32.toInt z_12) = (Int32.toInt (σ 0)) + (Int32.toInt i_13) ∧ 0 ≤ (Int32.toInt (σ 0)) ∧ (Int32.toInt (σ 0)) + 20 ≤ 4000 ∧ (Int32.toInt (σ 2)) = 0 from (by omega)) (by omega) hP hS (lv_sub hl [2, 3, 4, 5, 6, 7, 0] rfl)
              · have kc_5 := bI_nle L_16 rfl c_5
                refine lv_iload hx hb dX9_feed_74 (lv_at hl 4 rfl) ?_
                refine lv_goto (tgt := 81) hx hb dX9_feed_76 (by decide) ?_
                refine lv_istore (lv' := [(7, .int nd), (0, .ref (a 0)), (1, .int na), (2, .int nb), (3, .int nc), (4, .int nd), (5, .int ne), (6, .int k)]) hx hb dX9_feed_81 hl (by decide) rfl ?_
                clear hl; intro ls hl
                refine lv_aload_n hx hb dX9_feed_83 rfl (lv_at hl 1 rfl) ?_
                refine mg_0_0 hx hb hts hinX9 hown hK hP (hts (.fieldLink RX9 9 "CensusDeskModel" "tape" "[B") (List.mem_of_getElem? (i := 3) rfl)) dX9_feed_84 ?_
                refine lv_aload_n hx hb dX9_feed_87 rfl (lv_at hl 1 rfl) ?_
                refine mg_0_1 (v := s0_c28) hx hb hts hinX9 hown hK hP (hts (.fieldLink RX9 116 "CensusDeskModel" "fed" "I") (List.mem_of_getElem? (i := 1) rfl)) rfl dX9_feed_88 ?_
                refine lv_iload hx hb dX9_feed_91 (lv_at hl 0 rfl) ?_
                refine lv_bipush (v := 24) hx hb dX9_feed_93 (by decide) ?_
                refine lv_bipush (v := 8) hx hb dX9_feed_95 (by decide) ?_
                refine lv_iload hx hb dX9_feed_97 (lv_at hl 7 rfl) ?_
                refine lv_iconst (v := 4) hx hb dX9_feed_99 (by decide) ?_
                refine lv_irem hx hb dX9_feed_100 (by decide) ?_
                refine lv_topi (fun z_14 ez_14 => ?_)
                refine lv_imul hx hb dX9_feed_101 ?_
                refine lv_topi (fun z_15 ez_15 => ?_)
                refine lv_isub hx hb dX9_feed_102 ?_
                refine lv_topi (fun z_16 ez_16 => ?_)
                refine lv_ishr hx hb dX9_feed_103 ?_
                refine lv_topi (fun z_17 ez_17 => ?_)
                obtain ⟨z_18, ez_18⟩ : ∃ z : Int32, (Int32.toInt8 z_17).toInt32 = z := ⟨_, rfl⟩
                refine lv_i2b (v := z_18) hx hb dX9_feed_104 ez_18 ?_
                refine ms_1 (f := f0_c28) hx hb hK hP hI hS (i := s0_c28) (x := z_18) (vin rfl (by omega)) rfl dX9_feed_105 ?_
                clear hP hS; intro H locs hP hS
                obtain ⟨f_19, ef_19⟩ : ∃ z : Nat → Int32, z = upd f0_c28 (Int32.toNatClampNeg s0_c28) (vp_nar .byte z_18) := ⟨_, rfl⟩
                rw [← ef_19] at hP
                refine lv_aload_n hx hb dX9_feed_106 rfl (lv_at hl 1 rfl) ?_
                refine lv_dup hx hb dX9_feed_107 rfl ?_
                refine mg_0_1 (v := s0_c28) hx hb hts hinX9 hown hK hP (hts (.fieldLink RX9 116 "CensusDeskModel" "fed" "I") (List.mem_of_getElem? (i := 1) rfl)) rfl dX9_feed_108 ?_
                refine lv_iconst (v := 1) hx hb dX9_feed_111 (by decide) ?_
                refine lv_iadd hx hb dX9_feed_112 ?_
                refine lv_topi (fun z_20 ez_20 => ?_)
                have tz_20 : (Int32.toInt z_20) = (Int32.toInt s0_c28) + 1 := aI_add rfl L_1 ez_20 (by have := rng s0_c28; omega)
                refine mp_0_1 (v := z_20) hx hb hts hinX9 hown hK hP hI hS (hts (.fieldLink RX9 116 "CensusDeskModel" "fed" "I") (List.mem_of_getElem? (i := 1) rfl)) dX9_feed_113 ?_
                clear hP hS; intro H locs hP hS
                obtain ⟨i_21, ei_21⟩ : ∃ z : Int32, z = k + 1 := ⟨_, rfl⟩
                refine lv_iinc (v := i_21) (lv' := [(6, .int i_21), (7, .int nd), (0, .ref (a 0)), (1, .int na), (2, .int nb), (3, .int nc), (4, .int nd), (5, .int ne)]) hx hb dX9_feed_116 hl (k := 7) rfl (by rw [ei_21]; rfl) (by decide) rfl ?_
                clear hl; intro ls hl
                have ti_21 : (Int32.toInt i_21) = (Int32.toInt k) + 1 := aI_add rfl L_1 ei_21 (by have := rng k; omega)
                refine lv_goto (tgt := 28) hx hb dX9_feed_119 (by decide) ?_
                exact ih28 i_21 z_20 f_19 γ ψ _ _ _ (show 0 ≤ (Int32.toInt i_21) ∧ (Int32.toInt i_21) ≤ 20 ∧ (Int32.toInt z_20) = (Int32.toInt (σ 0)) + (Int32.toInt i_21) ∧ 0 ≤ (Int32.toInt (σ 0)) ∧ (Int32.toInt (σ 0)) + 20 ≤ 4000 ∧ (Int32.toInt (σ 2)) = 0 from (by omega)) (by omega) hP hS (lv_sub hl [2, 3, 4, 5, 6, 7, 0] rfl)
            · have kc_4 := bI_nle L_12 rfl c_4
              refine lv_iload_n hx hb dX9_feed_63 rfl (lv_at hl 3 rfl) ?_
              refine lv_goto (tgt := 81) hx hb dX9_feed_64 (by decide) ?_
              refine lv_istore (lv' := [(7, .int nc), (0, .ref (a 0)), (1, .int na), (2, .int nb), (3, .int nc), (4, .int nd), (5, .int ne), (6, .int k)]) hx hb dX9_feed_81 hl (by decide) rfl ?_
              clear hl; intro ls hl
              refine lv_aload_n hx hb dX9_feed_83 rfl (lv_at hl 1 rfl) ?_
              refine mg_0_0 hx hb hts hinX9 hown hK hP (hts (.fieldLink RX9 9 "CensusDeskModel" "tape" "[B") (List.mem_of_getElem? (i := 3) rfl)) dX9_feed_84 ?_
              refine lv_aload_n hx hb dX9_feed_87 rfl (lv_at hl 1 rfl) ?_
              refine mg_0_1 (v := s0_c28) hx hb hts hinX9 hown hK hP (hts (.fieldLink RX9 116 "CensusDeskModel" "fed" "I") (List.mem_of_getElem? (i := 1) rfl)) rfl dX9_feed_88 ?_
              refine lv_iload hx hb dX9_feed_91 (lv_at hl 0 rfl) ?_
              refine lv_bipush (v := 24) hx hb dX9_feed_93 (by decide) ?_
              refine lv_bipush (v := 8) hx hb dX9_feed_95 (by decide) ?_
              refine lv_iload hx hb dX9_feed_97 (lv_at hl 7 rfl) ?_
              refine lv_iconst (v := 4) hx hb dX9_feed_99 (by decide) ?_
              refine lv_irem hx hb dX9_feed_100 (by decide) ?_
              refine lv_topi (fun z_22 ez_22 => ?_)
              refine lv_imul hx hb dX9_feed_101 ?_
              refine lv_topi (fun z_23 ez_23 => ?_)
              refine lv_isub hx hb dX9_feed_102 ?_
              refine lv_topi (fun z_24 ez_24 => ?_)
              refine lv_ishr hx hb dX9_feed_103 ?_
              refine lv_topi (fun z_25 ez_25 => ?_)
              obtain ⟨z_26, ez_26⟩ : ∃ z : Int32, (Int32.toInt8 z_25).toInt32 = z := ⟨_, rfl⟩
              refine lv_i2b (v := z_26) hx hb dX9_feed_104 ez_26 ?_
              refine ms_1 (f := f0_c28) hx hb hK hP hI hS (i := s0_c28) (x := z_26) (vin rfl (by omega)) rfl dX9_feed_105 ?_
              clear hP hS; intro H locs hP hS
              obtain ⟨f_27, ef_27⟩ : ∃ z : Nat → Int32, z = upd f0_c28 (Int32.toNatClampNeg s0_c28) (vp_nar .byte z_26) := ⟨_, rfl⟩
              rw [← ef_27] at hP
              refine lv_aload_n hx hb dX9_feed_106 rfl (lv_at hl 1 rfl) ?_
              refine lv_dup hx hb dX9_feed_107 rfl ?_
              refine mg_0_1 (v := s0_c28) hx hb hts hinX9 hown hK hP (hts (.fieldLink RX9 116 "CensusDeskModel" "fed" "I") (List.mem_of_getElem? (i := 1) rfl)) rfl dX9_feed_108 ?_
              refine lv_iconst (v := 1) hx hb dX9_feed_111 (by decide) ?_
              refine lv_iadd hx hb dX9_feed_112 ?_
              refine lv_topi (fun z_28 ez_28 => ?_)
              have tz_28 : (Int32.toInt z_28) = (Int32.toInt s0_c28) + 1 := aI_add rfl L_1 ez_28 (by have := rng s0_c28; omega)
              refine mp_0_1 (v := z_28) hx hb hts hinX9 hown hK hP hI hS (hts (.fieldLink RX9 116 "CensusDeskModel" "fed" "I") (List.mem_of_getElem? (i := 1) rfl)) dX9_feed_113 ?_
              clear hP hS; intro H locs hP hS
              obtain ⟨i_29, ei_29⟩ : ∃ z : Int32, z = k + 1 := ⟨_, rfl⟩
              refine lv_iinc (v := i_29) (lv' := [(6, .int i_29), (7, .int nc), (0, .ref (a 0)), (1, .int na), (2, .int nb), (3, .int nc), (4, .int nd), (5, .int ne)]) hx hb dX9_feed_116 hl (k := 7) rfl (by rw [ei_29]; rfl) (by decide) rfl ?_
              clear hl; intro ls hl
              have ti_29 : (Int32.toInt i_29) = (Int32.toInt k) + 1 := aI_add rfl L_1 ei_29 (by have := rng k; omega)
              refine lv_goto (tgt := 28) hx hb dX9_feed_119 (by decide) ?_
              exact ih28 i_29 z_28 f_27 γ ψ _ _ _ (show 0 ≤ (Int32.toInt i_29) ∧ (Int32.toInt i_29) ≤ 20 ∧ (Int32.toInt z_28) = (Int32.toInt (σ 0)) + (Int32.toInt i_29) ∧ 0 ≤ (Int32.toInt (σ 0)) ∧ (Int32.toInt (σ 0)) + 20 ≤ 4000 ∧ (Int32.toInt (σ 2)) = 0 from (by omega)) (by omega) hP hS (lv_sub hl [2, 3, 4, 5, 6, 7, 0] rfl)
          · have kc_3 := bI_nle L_8 rfl c_3
            refine lv_iload_n hx hb dX9_feed_52 rfl (lv_at hl 2 rfl) ?_
            refine lv_goto (tgt := 81) hx hb dX9_feed_53 (by decide) ?_
            refine lv_istore (lv' := [(7, .int nb), (0, .ref (a 0)), (1, .int na), (2, .int nb), (3, .int nc), (4, .int nd), (5, .int ne), (6, .int k)]) hx hb dX9_feed_81 hl (by decide) rfl ?_
            clear hl; intro ls hl
            refine lv_aload_n hx hb dX9_feed_83 rfl (lv_at hl 1 rfl) ?_
            refine mg_0_0 hx hb hts hinX9 hown hK hP (hts (.fieldLink RX9 9 "CensusDeskModel" "tape" "[B") (List.mem_of_getElem? (i := 3) rfl)) dX9_feed_84 ?_
            refine lv_aload_n hx hb dX9_feed_87 rfl (lv_at hl 1 rfl) ?_
            refine mg_0_1 (v := s0_c28) hx hb hts hinX9 hown hK hP (hts (.fieldLink RX9 116 "CensusDeskModel" "fed" "I") (List.mem_of_getElem? (i := 1) rfl)) rfl dX9_feed_88 ?_
            refine lv_iload hx hb dX9_feed_91 (lv_at hl 0 rfl) ?_
            refine lv_bipush (v := 24) hx hb dX9_feed_93 (by decide) ?_
            refine lv_bipush (v := 8) hx hb dX9_feed_95 (by decide) ?_
            refine lv_iload hx hb dX9_feed_97 (lv_at hl 7 rfl) ?_
            refine lv_iconst (v := 4) hx hb dX9_feed_99 (by decide) ?_
            refine lv_irem hx hb dX9_feed_100 (by decide) ?_
            refine lv_topi (fun z_30 ez_30 => ?_)
            refine lv_imul hx hb dX9_feed_101 ?_
            refine lv_topi (fun z_31 ez_31 => ?_)
            refine lv_isub hx hb dX9_feed_102 ?_
            refine lv_topi (fun z_32 ez_32 => ?_)
            refine lv_ishr hx hb dX9_feed_103 ?_
            refine lv_topi (fun z_33 ez_33 => ?_)
            obtain ⟨z_34, ez_34⟩ : ∃ z : Int32, (Int32.toInt8 z_33).toInt32 = z := ⟨_, rfl⟩
            refine lv_i2b (v := z_34) hx hb dX9_feed_104 ez_34 ?_
            refine ms_1 (f := f0_c28) hx hb hK hP hI hS (i := s0_c28) (x := z_34) (vin rfl (by omega)) rfl dX9_feed_105 ?_
            clear hP hS; intro H locs hP hS
            obtain ⟨f_35, ef_35⟩ : ∃ z : Nat → Int32, z = upd f0_c28 (Int32.toNatClampNeg s0_c28) (vp_nar .byte z_34) := ⟨_, rfl⟩
            rw [← ef_35] at hP
            refine lv_aload_n hx hb dX9_feed_106 rfl (lv_at hl 1 rfl) ?_
            refine lv_dup hx hb dX9_feed_107 rfl ?_
            refine mg_0_1 (v := s0_c28) hx hb hts hinX9 hown hK hP (hts (.fieldLink RX9 116 "CensusDeskModel" "fed" "I") (List.mem_of_getElem? (i := 1) rfl)) rfl dX9_feed_108 ?_
            refine lv_iconst (v := 1) hx hb dX9_feed_111 (by decide) ?_
            refine lv_iadd hx hb dX9_feed_112 ?_
            refine lv_topi (fun z_36 ez_36 => ?_)
            have tz_36 : (Int32.toInt z_36) = (Int32.toInt s0_c28) + 1 := aI_add rfl L_1 ez_36 (by have := rng s0_c28; omega)
            refine mp_0_1 (v := z_36) hx hb hts hinX9 hown hK hP hI hS (hts (.fieldLink RX9 116 "CensusDeskModel" "fed" "I") (List.mem_of_getElem? (i := 1) rfl)) dX9_feed_113 ?_
            clear hP hS; intro H locs hP hS
            obtain ⟨i_37, ei_37⟩ : ∃ z : Int32, z = k + 1 := ⟨_, rfl⟩
            refine lv_iinc (v := i_37) (lv' := [(6, .int i_37), (7, .int nb), (0, .ref (a 0)), (1, .int na), (2, .int nb), (3, .int nc), (4, .int nd), (5, .int ne)]) hx hb dX9_feed_116 hl (k := 7) rfl (by rw [ei_37]; rfl) (by decide) rfl ?_
            clear hl; intro ls hl
            have ti_37 : (Int32.toInt i_37) = (Int32.toInt k) + 1 := aI_add rfl L_1 ei_37 (by have := rng k; omega)
            refine lv_goto (tgt := 28) hx hb dX9_feed_119 (by decide) ?_
            exact ih28 i_37 z_36 f_35 γ ψ _ _ _ (show 0 ≤ (Int32.toInt i_37) ∧ (Int32.toInt i_37) ≤ 20 ∧ (Int32.toInt z_36) = (Int32.toInt (σ 0)) + (Int32.toInt i_37) ∧ 0 ≤ (Int32.toInt (σ 0)) ∧ (Int32.toInt (σ 0)) + 20 ≤ 4000 ∧ (Int32.toInt (σ 2)) = 0 from (by omega)) (by omega) hP hS (lv_sub hl [2, 3, 4, 5, 6, 7, 0] rfl)
        · have kc_2 := bI_nle L_4 rfl c_2
          refine lv_iload_n hx hb dX9_feed_41 rfl (lv_at hl 1 rfl) ?_
          refine lv_goto (tgt := 81) hx hb dX9_feed_42 (by decide) ?_
          refine lv_istore (lv' := [(7, .int na), (0, .ref (a 0)), (1, .int na), (2, .int nb), (3, .int nc), (4, .int nd), (5, .int ne), (6, .int k)]) hx hb dX9_feed_81 hl (by decide) rfl ?_
          clear hl; intro ls hl
          refine lv_aload_n hx hb dX9_feed_83 rfl (lv_at hl 1 rfl) ?_
          refine mg_0_0 hx hb hts hinX9 hown hK hP (hts (.fieldLink RX9 9 "CensusDeskModel" "tape" "[B") (List.mem_of_getElem? (i := 3) rfl)) dX9_feed_84 ?_
          refine lv_aload_n hx hb dX9_feed_87 rfl (lv_at hl 1 rfl) ?_
          refine mg_0_1 (v := s0_c28) hx hb hts hinX9 hown hK hP (hts (.fieldLink RX9 116 "CensusDeskModel" "fed" "I") (List.mem_of_getElem? (i := 1) rfl)) rfl dX9_feed_88 ?_
          refine lv_iload hx hb dX9_feed_91 (lv_at hl 0 rfl) ?_
          refine lv_bipush (v := 24) hx hb dX9_feed_93 (by decide) ?_
          refine lv_bipush (v := 8) hx hb dX9_feed_95 (by decide) ?_
          refine lv_iload hx hb dX9_feed_97 (lv_at hl 7 rfl) ?_
          refine lv_iconst (v := 4) hx hb dX9_feed_99 (by decide) ?_
          refine lv_irem hx hb dX9_feed_100 (by decide) ?_
          refine lv_topi (fun z_38 ez_38 => ?_)
          refine lv_imul hx hb dX9_feed_101 ?_
          refine lv_topi (fun z_39 ez_39 => ?_)
          refine lv_isub hx hb dX9_feed_102 ?_
          refine lv_topi (fun z_40 ez_40 => ?_)
          refine lv_ishr hx hb dX9_feed_103 ?_
          refine lv_topi (fun z_41 ez_41 => ?_)
          obtain ⟨z_42, ez_42⟩ : ∃ z : Int32, (Int32.toInt8 z_41).toInt32 = z := ⟨_, rfl⟩
          refine lv_i2b (v := z_42) hx hb dX9_feed_104 ez_42 ?_
          refine ms_1 (f := f0_c28) hx hb hK hP hI hS (i := s0_c28) (x := z_42) (vin rfl (by omega)) rfl dX9_feed_105 ?_
          clear hP hS; intro H locs hP hS
          obtain ⟨f_43, ef_43⟩ : ∃ z : Nat → Int32, z = upd f0_c28 (Int32.toNatClampNeg s0_c28) (vp_nar .byte z_42) := ⟨_, rfl⟩
          rw [← ef_43] at hP
          refine lv_aload_n hx hb dX9_feed_106 rfl (lv_at hl 1 rfl) ?_
          refine lv_dup hx hb dX9_feed_107 rfl ?_
          refine mg_0_1 (v := s0_c28) hx hb hts hinX9 hown hK hP (hts (.fieldLink RX9 116 "CensusDeskModel" "fed" "I") (List.mem_of_getElem? (i := 1) rfl)) rfl dX9_feed_108 ?_
          refine lv_iconst (v := 1) hx hb dX9_feed_111 (by decide) ?_
          refine lv_iadd hx hb dX9_feed_112 ?_
          refine lv_topi (fun z_44 ez_44 => ?_)
          have tz_44 : (Int32.toInt z_44) = (Int32.toInt s0_c28) + 1 := aI_add rfl L_1 ez_44 (by have := rng s0_c28; omega)
          refine mp_0_1 (v := z_44) hx hb hts hinX9 hown hK hP hI hS (hts (.fieldLink RX9 116 "CensusDeskModel" "fed" "I") (List.mem_of_getElem? (i := 1) rfl)) dX9_feed_113 ?_
          clear hP hS; intro H locs hP hS
          obtain ⟨i_45, ei_45⟩ : ∃ z : Int32, z = k + 1 := ⟨_, rfl⟩
          refine lv_iinc (v := i_45) (lv' := [(6, .int i_45), (7, .int na), (0, .ref (a 0)), (1, .int na), (2, .int nb), (3, .int nc), (4, .int nd), (5, .int ne)]) hx hb dX9_feed_116 hl (k := 7) rfl (by rw [ei_45]; rfl) (by decide) rfl ?_
          clear hl; intro ls hl
          have ti_45 : (Int32.toInt i_45) = (Int32.toInt k) + 1 := aI_add rfl L_1 ei_45 (by have := rng k; omega)
          refine lv_goto (tgt := 28) hx hb dX9_feed_119 (by decide) ?_
          exact ih28 i_45 z_44 f_43 γ ψ _ _ _ (show 0 ≤ (Int32.toInt i_45) ∧ (Int32.toInt i_45) ≤ 20 ∧ (Int32.toInt z_44) = (Int32.toInt (σ 0)) + (Int32.toInt i_45) ∧ 0 ≤ (Int32.toInt (σ 0)) ∧ (Int32.toInt (σ 0)) + 20 ≤ 4000 ∧ (Int32.toInt (σ 2)) = 0 from (by omega)) (by omega) hP hS (lv_sub hl [2, 3, 4, 5, 6, 7, 0] rfl)
  refine lv_aload_n hx hb dX9_feed_0 rfl (lv_at hl 0 rfl) ?_
  refine mg_0_1 (v := (σ 0)) hx hb hts hinX9 hown hK hP (hts (.fieldLink RX9 116 "CensusDeskModel" "fed" "I") (List.mem_of_getElem? (i := 1) rfl)) rfl dX9_feed_1 ?_
  refine lv_bipush (v := 20) hx hb dX9_feed_4 (by decide) ?_
  refine lv_iadd hx hb dX9_feed_6 ?_
  refine lv_topi (fun z_46 ez_46 => ?_)
  have tz_46 : (Int32.toInt z_46) = (Int32.toInt (σ 0)) + 20 := aI_add rfl L_20 ez_46 (by have := rng (σ 0); omega)
  refine lv_sipush (v := 4000) hx hb dX9_feed_7 (by decide) ?_
  refine lv_icmp_le (tgt := 15) hx hb dX9_feed_10 (by decide) (fun c_47 => ?_) (fun c_47 => ?_)
  · have kc_47 := bI_le rfl L_4000 c_47
    refine lv_aload_n hx hb dX9_feed_15 rfl (lv_at hl 0 rfl) ?_
    refine mg_0_5 (v := (σ 2)) hx hb hts hinX9 hown hK hP (hts (.fieldLink RX9 120 "CensusDeskModel" "isHeld" "Z") (List.mem_of_getElem? (i := 2) rfl)) rfl dX9_feed_16 ?_
    refine lv_if_eq (tgt := 25) hx hb dX9_feed_19 (by decide) (fun c_48 => ?_) (fun c_48 => ?_)
    · have kc_48 := bI_eq rfl L_0 c_48
      refine lv_iconst (v := 0) hx hb dX9_feed_25 (by decide) ?_
      refine lv_istore (lv' := [(6, .int 0), (0, .ref (a 0)), (1, .int na), (2, .int nb), (3, .int nc), (4, .int nd), (5, .int ne)]) hx hb dX9_feed_26 hl (by decide) rfl ?_
      clear hl; intro ls hl
      exact J28 (_ + 1) 0 (σ 0) (φ 0) γ ψ _ _ _ (show 0 ≤ (Int32.toInt 0) ∧ (Int32.toInt 0) ≤ 20 ∧ (Int32.toInt (σ 0)) = (Int32.toInt (σ 0)) + (Int32.toInt 0) ∧ 0 ≤ (Int32.toInt (σ 0)) ∧ (Int32.toInt (σ 0)) + 20 ≤ 4000 ∧ (Int32.toInt (σ 2)) = 0 from (by have := L_0; omega)) (Nat.lt_succ_self _) hP hS (lv_sub hl [1, 2, 3, 4, 5, 6, 0] rfl)
    · have kc_48 := bI_ne rfl L_0 c_48
      refine lv_bipush (v := (-2)) hx hb dX9_feed_22 (by decide) ?_
      subst eQ
      exact W.iret (v := (-2)) hx hb hr (fun t ht hW => ⟨⟨(-2), ((up σ 0 (σ 0)), (up φ 0 (φ 0)), γ, ψ), rfl, ⟨(σ 0), (φ 0), rfl, rfl, (show 0 ≤ (Int32.toInt (σ 0)) ∧ (Int32.toInt (σ 0)) ≤ 4000 from (by omega)), (show (Int32.toInt (σ 2)) = 0 ∨ ((0 ≤ (Int32.toInt (σ 1)) ∧ (Int32.toInt (σ 1)) ≤ (Int32.toInt (σ 0)) ∧ 0 ≤ (Int32.toInt (σ 10)) ∧ (Int32.toInt (σ 10)) ≤ 200000 * (Int32.toInt (σ 1)) ∧ ((Int32.toInt (σ 3)) = 0 ∨ (Int32.toInt (σ 10)) + 10 ≤ 200000 * (Int32.toInt (σ 1)))) ∧ (0 ≤ (Int32.toInt (σ 8)) ∧ (2 * (Int32.toInt (σ 8)) ≤ (Int32.toInt (σ 1)) ∨ (2 * (Int32.toInt (σ 8)) ≤ (Int32.toInt (σ 1)) + 1 ∧ (Int32.toInt (σ 1)) = (Int32.toInt (σ 0))))) ∧ (0 ≤ (Int32.toInt (σ 7)) ∧ (((Int32.toInt (σ 3)) = 0 ∧ (2 * (Int32.toInt (σ 7)) ≤ (Int32.toInt (σ 1)) ∨ (2 * (Int32.toInt (σ 7)) ≤ (Int32.toInt (σ 1)) + 1 ∧ (Int32.toInt (σ 1)) = (Int32.toInt (σ 0))))) ∨ ((Int32.toInt (σ 3)) ≠ 0 ∧ (2 * (Int32.toInt (σ 7)) + 2 ≤ (Int32.toInt (σ 1)) ∨ (2 * (Int32.toInt (σ 7)) + 2 ≤ (Int32.toInt (σ 1)) + 1 ∧ (Int32.toInt (σ 1)) = (Int32.toInt (σ 0))))))) ∧ ((Int32.toInt (σ 3)) = 0 ∨ (0 ≤ (Int32.toInt (σ 4)) ∧ (Int32.toInt (σ 4)) ≤ (Int32.toInt (σ 8)))) ∧ (0 ≤ (Int32.toInt (σ 9)) ∧ (Int32.toInt (σ 9)) ≤ (Int32.toInt (σ 1))) ∧ ((Int32.toInt (σ 3)) = 0 ∨ (Int32.toInt (σ 8)) ≤ (Int32.toInt (σ 4)) ∨ Int32.toInt ((φ 4) (Int32.toNatClampNeg (σ 4))) ≤ (Int32.toInt (σ 1)))) from (by omega))⟩, (by show va_P _ _ _ _; rw [ht]; exact hP)⟩, hS.F ht⟩) hS.2.2 dX9_feed_24
  · have kc_47 := bI_nle rfl L_4000 c_47
    refine lv_iconst (v := (-1)) hx hb dX9_feed_13 (by decide) ?_
    subst eQ
    exact W.iret (v := (-1)) hx hb hr (fun t ht hW => ⟨⟨(-1), ((up σ 0 (σ 0)), (up φ 0 (φ 0)), γ, ψ), rfl, ⟨(σ 0), (φ 0), rfl, rfl, (show 0 ≤ (Int32.toInt (σ 0)) ∧ (Int32.toInt (σ 0)) ≤ 4000 from (by omega)), (show (Int32.toInt (σ 2)) = 0 ∨ ((0 ≤ (Int32.toInt (σ 1)) ∧ (Int32.toInt (σ 1)) ≤ (Int32.toInt (σ 0)) ∧ 0 ≤ (Int32.toInt (σ 10)) ∧ (Int32.toInt (σ 10)) ≤ 200000 * (Int32.toInt (σ 1)) ∧ ((Int32.toInt (σ 3)) = 0 ∨ (Int32.toInt (σ 10)) + 10 ≤ 200000 * (Int32.toInt (σ 1)))) ∧ (0 ≤ (Int32.toInt (σ 8)) ∧ (2 * (Int32.toInt (σ 8)) ≤ (Int32.toInt (σ 1)) ∨ (2 * (Int32.toInt (σ 8)) ≤ (Int32.toInt (σ 1)) + 1 ∧ (Int32.toInt (σ 1)) = (Int32.toInt (σ 0))))) ∧ (0 ≤ (Int32.toInt (σ 7)) ∧ (((Int32.toInt (σ 3)) = 0 ∧ (2 * (Int32.toInt (σ 7)) ≤ (Int32.toInt (σ 1)) ∨ (2 * (Int32.toInt (σ 7)) ≤ (Int32.toInt (σ 1)) + 1 ∧ (Int32.toInt (σ 1)) = (Int32.toInt (σ 0))))) ∨ ((Int32.toInt (σ 3)) ≠ 0 ∧ (2 * (Int32.toInt (σ 7)) + 2 ≤ (Int32.toInt (σ 1)) ∨ (2 * (Int32.toInt (σ 7)) + 2 ≤ (Int32.toInt (σ 1)) + 1 ∧ (Int32.toInt (σ 1)) = (Int32.toInt (σ 0))))))) ∧ ((Int32.toInt (σ 3)) = 0 ∨ (0 ≤ (Int32.toInt (σ 4)) ∧ (Int32.toInt (σ 4)) ≤ (Int32.toInt (σ 8)))) ∧ (0 ≤ (Int32.toInt (σ 9)) ∧ (Int32.toInt (σ 9)) ≤ (Int32.toInt (σ 1))) ∧ ((Int32.toInt (σ 3)) = 0 ∨ (Int32.toInt (σ 8)) ≤ (Int32.toInt (σ 4)) ∨ Int32.toInt ((φ 4) (Int32.toNatClampNeg (σ 4))) ≤ (Int32.toInt (σ 1)))) from (by omega))⟩, (by show va_P _ _ _ _; rw [ht]; exact hP)⟩, hS.F ht⟩) hS.2.2 dX9_feed_14
set_option maxHeartbeats 4000000 in
set_option maxRecDepth 100000 in
theorem c_X9_end (l : Launch) (dC : Nat → ClassId) (dI : Nat → Nat → Nat) (a : Nat → Nat) (κ : Nat → ClassId) (σ : Nat → Int32) (φ : Nat → Nat → Int32) (γ : Nat → Int32) (ψ : Nat → Nat → Int32) (n : Int32) (hfd : 0 ≤ (Int32.toInt (σ 0)) ∧ (Int32.toInt (σ 0)) ≤ 4000) (hr : (Int32.toInt (σ 2)) = 0 ∨ ((0 ≤ (Int32.toInt (σ 1)) ∧ (Int32.toInt (σ 1)) ≤ (Int32.toInt (σ 0)) ∧ 0 ≤ (Int32.toInt (σ 10)) ∧ (Int32.toInt (σ 10)) ≤ 200000 * (Int32.toInt (σ 1)) ∧ ((Int32.toInt (σ 3)) = 0 ∨ (Int32.toInt (σ 10)) + 10 ≤ 200000 * (Int32.toInt (σ 1)))) ∧ (0 ≤ (Int32.toInt (σ 8)) ∧ (2 * (Int32.toInt (σ 8)) ≤ (Int32.toInt (σ 1)) ∨ (2 * (Int32.toInt (σ 8)) ≤ (Int32.toInt (σ 1)) + 1 ∧ (Int32.toInt (σ 1)) = (Int32.toInt (σ 0))))) ∧ (0 ≤ (Int32.toInt (σ 7)) ∧ (((Int32.toInt (σ 3)) = 0 ∧ (2 * (Int32.toInt (σ 7)) ≤ (Int32.toInt (σ 1)) ∨ (2 * (Int32.toInt (σ 7)) ≤ (Int32.toInt (σ 1)) + 1 ∧ (Int32.toInt (σ 1)) = (Int32.toInt (σ 0))))) ∨ ((Int32.toInt (σ 3)) ≠ 0 ∧ (2 * (Int32.toInt (σ 7)) + 2 ≤ (Int32.toInt (σ 1)) ∨ (2 * (Int32.toInt (σ 7)) + 2 ≤ (Int32.toInt (σ 1)) + 1 ∧ (Int32.toInt (σ 1)) = (Int32.toInt (σ 0))))))) ∧ ((Int32.toInt (σ 3)) = 0 ∨ (0 ≤ (Int32.toInt (σ 4)) ∧ (Int32.toInt (σ 4)) ≤ (Int32.toInt (σ 8)))) ∧ (0 ≤ (Int32.toInt (σ 9)) ∧ (Int32.toInt (σ 9)) ≤ (Int32.toInt (σ 1))) ∧ ((Int32.toInt (σ 3)) = 0 ∨ (Int32.toInt (σ 8)) ≤ (Int32.toInt (σ 4)) ∨ Int32.toInt ((φ 4) (Int32.toNatClampNeg (σ 4))) ≤ (Int32.toInt (σ 1))))) : Met l yX9_end wsX9_end ({ frames := 0, cells := 0, slots := 0, locals := 0 } : Room) (va_Pc [.ref (a 0), .int n] (mPre dC dI a κ (σ, φ, γ, ψ))) (va_Qi (QI (fun r S F => ∃ (s0 : Int32), (up σ 0 s0) = S ∧ φ = F ∧ (0 ≤ (Int32.toInt s0) ∧ (Int32.toInt s0) ≤ 4000) ∧ ((Int32.toInt (σ 2)) = 0 ∨ ((0 ≤ (Int32.toInt (σ 1)) ∧ (Int32.toInt (σ 1)) ≤ (Int32.toInt s0) ∧ 0 ≤ (Int32.toInt (σ 10)) ∧ (Int32.toInt (σ 10)) ≤ 200000 * (Int32.toInt (σ 1)) ∧ ((Int32.toInt (σ 3)) = 0 ∨ (Int32.toInt (σ 10)) + 10 ≤ 200000 * (Int32.toInt (σ 1)))) ∧ (0 ≤ (Int32.toInt (σ 8)) ∧ (2 * (Int32.toInt (σ 8)) ≤ (Int32.toInt (σ 1)) ∨ (2 * (Int32.toInt (σ 8)) ≤ (Int32.toInt (σ 1)) + 1 ∧ (Int32.toInt (σ 1)) = (Int32.toInt s0)))) ∧ (0 ≤ (Int32.toInt (σ 7)) ∧ (((Int32.toInt (σ 3)) = 0 ∧ (2 * (Int32.toInt (σ 7)) ≤ (Int32.toInt (σ 1)) ∨ (2 * (Int32.toInt (σ 7)) ≤ (Int32.toInt (σ 1)) + 1 ∧ (Int32.toInt (σ 1)) = (Int32.toInt s0)))) ∨ ((Int32.toInt (σ 3)) ≠ 0 ∧ (2 * (Int32.toInt (σ 7)) + 2 ≤ (Int32.toInt (σ 1)) ∨ (2 * (Int32.toInt (σ 7)) + 2 ≤ (Int32.toInt (σ 1)) + 1 ∧ (Int32.toInt (σ 1)) = (Int32.toInt s0)))))) ∧ ((Int32.toInt (σ 3)) = 0 ∨ (0 ≤ (Int32.toInt (σ 4)) ∧ (Int32.toInt (σ 4)) ≤ (Int32.toInt (σ 8)))) ∧ (0 ≤ (Int32.toInt (σ 9)) ∧ (Int32.toInt (σ 9)) ≤ (Int32.toInt (σ 1))) ∧ ((Int32.toInt (σ 3)) = 0 ∨ (Int32.toInt (σ 8)) ≤ (Int32.toInt (σ 4)) ∨ Int32.toInt ((φ 4) (Int32.toNatClampNeg (σ 4))) ≤ (Int32.toInt (σ 1))))))) (mB dC dI a κ) (mA a)) 0 0 (mA a) := by
  refine Met.ofW (cc := cX9_end) (maxL := 2) (ret := (some .int)) (by decide) rfl ?_
  intro p e s m args below meth c s₁ B hml hv
  obtain ⟨rfl, hP, hK, hI, hN⟩ := hv
  have hx := B.exec
  have hb := B.bytes
  have hr := B.returns
  have hts := atoms_spec (ws := wsX9_end) B.pre
  have hown : s.vm.findClass RX9 = some m.cls := findClass_of_methodNamed B.named
  have hlocks := B.notSynchronized
  have hS : va_S (mA a) s.heap s.heap [] := va_S.rf
  have hinX9 : ∀ w ∈ wsX90, w ∈ wsX9_end := fun _ h => List.mem_cons_of_mem _ (List.mem_append_right _ h)
  have hl := lv_entry ([.ref (a 0), .int n]) (n := 2) (Nat.le_of_ble_eq_true rfl)
  rw [lg_entry_eq]
  generalize (lg_sl ([.ref (a 0), .int n]) ++ List.replicate (2 - (lg_sl ([.ref (a 0), .int n])).length) Slot.unset).toArray = ls at hl ⊢
  have hl : lv_has ls 2 [(0, .ref (a 0)), (1, .int n)] := hl
  refine lv_iload_n hx hb dX9_end_0 rfl (lv_at hl 1 rfl) ?_
  refine lv_if_lt (tgt := 12) hx hb dX9_end_1 (by decide) (fun c_1 => ?_) (fun c_1 => ?_)
  · have kc_1 := bI_lt rfl L_0 c_1
    refine lv_iconst (v := (-1)) hx hb dX9_end_12 (by decide) ?_
    exact W.iret (v := (-1)) hx hb hr (fun t ht hW => ⟨⟨(-1), ((up σ 0 (σ 0)), φ, γ, ψ), rfl, ⟨(σ 0), rfl, rfl, (show 0 ≤ (Int32.toInt (σ 0)) ∧ (Int32.toInt (σ 0)) ≤ 4000 from (by omega)), (show (Int32.toInt (σ 2)) = 0 ∨ ((0 ≤ (Int32.toInt (σ 1)) ∧ (Int32.toInt (σ 1)) ≤ (Int32.toInt (σ 0)) ∧ 0 ≤ (Int32.toInt (σ 10)) ∧ (Int32.toInt (σ 10)) ≤ 200000 * (Int32.toInt (σ 1)) ∧ ((Int32.toInt (σ 3)) = 0 ∨ (Int32.toInt (σ 10)) + 10 ≤ 200000 * (Int32.toInt (σ 1)))) ∧ (0 ≤ (Int32.toInt (σ 8)) ∧ (2 * (Int32.toInt (σ 8)) ≤ (Int32.toInt (σ 1)) ∨ (2 * (Int32.toInt (σ 8)) ≤ (Int32.toInt (σ 1)) + 1 ∧ (Int32.toInt (σ 1)) = (Int32.toInt (σ 0))))) ∧ (0 ≤ (Int32.toInt (σ 7)) ∧ (((Int32.toInt (σ 3)) = 0 ∧ (2 * (Int32.toInt (σ 7)) ≤ (Int32.toInt (σ 1)) ∨ (2 * (Int32.toInt (σ 7)) ≤ (Int32.toInt (σ 1)) + 1 ∧ (Int32.toInt (σ 1)) = (Int32.toInt (σ 0))))) ∨ ((Int32.toInt (σ 3)) ≠ 0 ∧ (2 * (Int32.toInt (σ 7)) + 2 ≤ (Int32.toInt (σ 1)) ∨ (2 * (Int32.toInt (σ 7)) + 2 ≤ (Int32.toInt (σ 1)) + 1 ∧ (Int32.toInt (σ 1)) = (Int32.toInt (σ 0))))))) ∧ ((Int32.toInt (σ 3)) = 0 ∨ (0 ≤ (Int32.toInt (σ 4)) ∧ (Int32.toInt (σ 4)) ≤ (Int32.toInt (σ 8)))) ∧ (0 ≤ (Int32.toInt (σ 9)) ∧ (Int32.toInt (σ 9)) ≤ (Int32.toInt (σ 1))) ∧ ((Int32.toInt (σ 3)) = 0 ∨ (Int32.toInt (σ 8)) ≤ (Int32.toInt (σ 4)) ∨ Int32.toInt ((φ 4) (Int32.toNatClampNeg (σ 4))) ≤ (Int32.toInt (σ 1)))) from (by omega))⟩, (by show va_P _ _ _ _; rw [ht]; exact hP)⟩, hS.F ht⟩) hS.2.2 dX9_end_13
  · have kc_1 := bI_nlt rfl L_0 c_1
    refine lv_iload_n hx hb dX9_end_4 rfl (lv_at hl 1 rfl) ?_
    refine lv_aload_n hx hb dX9_end_5 rfl (lv_at hl 0 rfl) ?_
    refine mg_0_1 (v := (σ 0)) hx hb hts hinX9 hown hK hP (hts (.fieldLink RX9 116 "CensusDeskModel" "fed" "I") (List.mem_of_getElem? (i := 1) rfl)) rfl dX9_end_6 ?_
    refine lv_icmp_le (tgt := 14) hx hb dX9_end_9 (by decide) (fun c_2 => ?_) (fun c_2 => ?_)
    · have kc_2 := bI_le rfl rfl c_2
      refine lv_aload_n hx hb dX9_end_14 rfl (lv_at hl 0 rfl) ?_
      refine mg_0_5 (v := (σ 2)) hx hb hts hinX9 hown hK hP (hts (.fieldLink RX9 120 "CensusDeskModel" "isHeld" "Z") (List.mem_of_getElem? (i := 2) rfl)) rfl dX9_end_15 ?_
      refine lv_if_eq (tgt := 24) hx hb dX9_end_18 (by decide) (fun c_3 => ?_) (fun c_3 => ?_)
      · have kc_3 := bI_eq rfl L_0 c_3
        refine lv_aload_n hx hb dX9_end_24 rfl (lv_at hl 0 rfl) ?_
        refine lv_iload_n hx hb dX9_end_25 rfl (lv_at hl 1 rfl) ?_
        refine mp_0_1 (v := n) hx hb hts hinX9 hown hK hP hI hS (hts (.fieldLink RX9 116 "CensusDeskModel" "fed" "I") (List.mem_of_getElem? (i := 1) rfl)) dX9_end_26 ?_
        clear hP hS; intro H locs hP hS
        refine lv_iload_n hx hb dX9_end_29 rfl (lv_at hl 1 rfl) ?_
        exact W.iret (v := n) hx hb hr (fun t ht hW => ⟨⟨n, ((up σ 0 n), φ, γ, ψ), rfl, ⟨n, rfl, rfl, (show 0 ≤ (Int32.toInt n) ∧ (Int32.toInt n) ≤ 4000 from (by omega)), (show (Int32.toInt (σ 2)) = 0 ∨ ((0 ≤ (Int32.toInt (σ 1)) ∧ (Int32.toInt (σ 1)) ≤ (Int32.toInt n) ∧ 0 ≤ (Int32.toInt (σ 10)) ∧ (Int32.toInt (σ 10)) ≤ 200000 * (Int32.toInt (σ 1)) ∧ ((Int32.toInt (σ 3)) = 0 ∨ (Int32.toInt (σ 10)) + 10 ≤ 200000 * (Int32.toInt (σ 1)))) ∧ (0 ≤ (Int32.toInt (σ 8)) ∧ (2 * (Int32.toInt (σ 8)) ≤ (Int32.toInt (σ 1)) ∨ (2 * (Int32.toInt (σ 8)) ≤ (Int32.toInt (σ 1)) + 1 ∧ (Int32.toInt (σ 1)) = (Int32.toInt n)))) ∧ (0 ≤ (Int32.toInt (σ 7)) ∧ (((Int32.toInt (σ 3)) = 0 ∧ (2 * (Int32.toInt (σ 7)) ≤ (Int32.toInt (σ 1)) ∨ (2 * (Int32.toInt (σ 7)) ≤ (Int32.toInt (σ 1)) + 1 ∧ (Int32.toInt (σ 1)) = (Int32.toInt n)))) ∨ ((Int32.toInt (σ 3)) ≠ 0 ∧ (2 * (Int32.toInt (σ 7)) + 2 ≤ (Int32.toInt (σ 1)) ∨ (2 * (Int32.toInt (σ 7)) + 2 ≤ (Int32.toInt (σ 1)) + 1 ∧ (Int32.toInt (σ 1)) = (Int32.toInt n)))))) ∧ ((Int32.toInt (σ 3)) = 0 ∨ (0 ≤ (Int32.toInt (σ 4)) ∧ (Int32.toInt (σ 4)) ≤ (Int32.toInt (σ 8)))) ∧ (0 ≤ (Int32.toInt (σ 9)) ∧ (Int32.toInt (σ 9)) ≤ (Int32.toInt (σ 1))) ∧ ((Int32.toInt (σ 3)) = 0 ∨ (Int32.toInt (σ 8)) ≤ (Int32.toInt (σ 4)) ∨ Int32.toInt ((φ 4) (Int32.toNatClampNeg (σ 4))) ≤ (Int32.toInt (σ 1)))) from (by omega))⟩, (by show va_P _ _ _ _; rw [ht]; exact hP)⟩, hS.F ht⟩) hS.2.2 dX9_end_30
      · have kc_3 := bI_ne rfl L_0 c_3
        refine lv_bipush (v := (-2)) hx hb dX9_end_21 (by decide) ?_
        exact W.iret (v := (-2)) hx hb hr (fun t ht hW => ⟨⟨(-2), ((up σ 0 (σ 0)), φ, γ, ψ), rfl, ⟨(σ 0), rfl, rfl, (show 0 ≤ (Int32.toInt (σ 0)) ∧ (Int32.toInt (σ 0)) ≤ 4000 from (by omega)), (show (Int32.toInt (σ 2)) = 0 ∨ ((0 ≤ (Int32.toInt (σ 1)) ∧ (Int32.toInt (σ 1)) ≤ (Int32.toInt (σ 0)) ∧ 0 ≤ (Int32.toInt (σ 10)) ∧ (Int32.toInt (σ 10)) ≤ 200000 * (Int32.toInt (σ 1)) ∧ ((Int32.toInt (σ 3)) = 0 ∨ (Int32.toInt (σ 10)) + 10 ≤ 200000 * (Int32.toInt (σ 1)))) ∧ (0 ≤ (Int32.toInt (σ 8)) ∧ (2 * (Int32.toInt (σ 8)) ≤ (Int32.toInt (σ 1)) ∨ (2 * (Int32.toInt (σ 8)) ≤ (Int32.toInt (σ 1)) + 1 ∧ (Int32.toInt (σ 1)) = (Int32.toInt (σ 0))))) ∧ (0 ≤ (Int32.toInt (σ 7)) ∧ (((Int32.toInt (σ 3)) = 0 ∧ (2 * (Int32.toInt (σ 7)) ≤ (Int32.toInt (σ 1)) ∨ (2 * (Int32.toInt (σ 7)) ≤ (Int32.toInt (σ 1)) + 1 ∧ (Int32.toInt (σ 1)) = (Int32.toInt (σ 0))))) ∨ ((Int32.toInt (σ 3)) ≠ 0 ∧ (2 * (Int32.toInt (σ 7)) + 2 ≤ (Int32.toInt (σ 1)) ∨ (2 * (Int32.toInt (σ 7)) + 2 ≤ (Int32.toInt (σ 1)) + 1 ∧ (Int32.toInt (σ 1)) = (Int32.toInt (σ 0))))))) ∧ ((Int32.toInt (σ 3)) = 0 ∨ (0 ≤ (Int32.toInt (σ 4)) ∧ (Int32.toInt (σ 4)) ≤ (Int32.toInt (σ 8)))) ∧ (0 ≤ (Int32.toInt (σ 9)) ∧ (Int32.toInt (σ 9)) ≤ (Int32.toInt (σ 1))) ∧ ((Int32.toInt (σ 3)) = 0 ∨ (Int32.toInt (σ 8)) ≤ (Int32.toInt (σ 4)) ∨ Int32.toInt ((φ 4) (Int32.toNatClampNeg (σ 4))) ≤ (Int32.toInt (σ 1)))) from (by omega))⟩, (by show va_P _ _ _ _; rw [ht]; exact hP)⟩, hS.F ht⟩) hS.2.2 dX9_end_23
    · have kc_2 := bI_nle rfl rfl c_2
      refine lv_iconst (v := (-1)) hx hb dX9_end_12 (by decide) ?_
      exact W.iret (v := (-1)) hx hb hr (fun t ht hW => ⟨⟨(-1), ((up σ 0 (σ 0)), φ, γ, ψ), rfl, ⟨(σ 0), rfl, rfl, (show 0 ≤ (Int32.toInt (σ 0)) ∧ (Int32.toInt (σ 0)) ≤ 4000 from (by omega)), (show (Int32.toInt (σ 2)) = 0 ∨ ((0 ≤ (Int32.toInt (σ 1)) ∧ (Int32.toInt (σ 1)) ≤ (Int32.toInt (σ 0)) ∧ 0 ≤ (Int32.toInt (σ 10)) ∧ (Int32.toInt (σ 10)) ≤ 200000 * (Int32.toInt (σ 1)) ∧ ((Int32.toInt (σ 3)) = 0 ∨ (Int32.toInt (σ 10)) + 10 ≤ 200000 * (Int32.toInt (σ 1)))) ∧ (0 ≤ (Int32.toInt (σ 8)) ∧ (2 * (Int32.toInt (σ 8)) ≤ (Int32.toInt (σ 1)) ∨ (2 * (Int32.toInt (σ 8)) ≤ (Int32.toInt (σ 1)) + 1 ∧ (Int32.toInt (σ 1)) = (Int32.toInt (σ 0))))) ∧ (0 ≤ (Int32.toInt (σ 7)) ∧ (((Int32.toInt (σ 3)) = 0 ∧ (2 * (Int32.toInt (σ 7)) ≤ (Int32.toInt (σ 1)) ∨ (2 * (Int32.toInt (σ 7)) ≤ (Int32.toInt (σ 1)) + 1 ∧ (Int32.toInt (σ 1)) = (Int32.toInt (σ 0))))) ∨ ((Int32.toInt (σ 3)) ≠ 0 ∧ (2 * (Int32.toInt (σ 7)) + 2 ≤ (Int32.toInt (σ 1)) ∨ (2 * (Int32.toInt (σ 7)) + 2 ≤ (Int32.toInt (σ 1)) + 1 ∧ (Int32.toInt (σ 1)) = (Int32.toInt (σ 0))))))) ∧ ((Int32.toInt (σ 3)) = 0 ∨ (0 ≤ (Int32.toInt (σ 4)) ∧ (Int32.toInt (σ 4)) ≤ (Int32.toInt (σ 8)))) ∧ (0 ≤ (Int32.toInt (σ 9)) ∧ (Int32.toInt (σ 9)) ≤ (Int32.toInt (σ 1))) ∧ ((Int32.toInt (σ 3)) = 0 ∨ (Int32.toInt (σ 8)) ≤ (Int32.toInt (σ 4)) ∨ Int32.toInt ((φ 4) (Int32.toNatClampNeg (σ 4))) ≤ (Int32.toInt (σ 1)))) from (by omega))⟩, (by show va_P _ _ _ _; rw [ht]; exact hP)⟩, hS.F ht⟩) hS.2.2 dX9_end_13
