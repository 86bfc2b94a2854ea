set_option maxHeartbeats 4000000 in
set_option maxRecDepth 100000 in
theorem c_X9_endHouse (l : Launch) (dC : Nat → ClassId) (dI : Nat → Nat → Nat) (a : Nat → Nat) (κ : Nat → ClassId) (σ : Nat → Int32) (φ : Nat → Nat → Int32) (γ : Nat → Int32) (ψ : Nat → Nat → Int32)  (p_m_nameAt : PtR 0 4000 (φ 4)) (p_m_houseFirst : PtR 0 2000 (φ 1)) (p_m_houseMany : PtR 0 2000 (φ 2)) (hf : 0 ≤ (Int32.toInt (σ 10)) ∧ (Int32.toInt (σ 10)) ≤ 1000000000) (hfc : ∀ i : Nat, i < 300 → (i : Int) < (Int32.toInt (σ 10)) → Int32.toInt ((φ 6) i) < i) (hp : 0 ≤ (Int32.toInt (σ 4)) ∧ (Int32.toInt (σ 4)) ≤ (Int32.toInt (σ 8)) ∧ (Int32.toInt (σ 8)) ≤ 2000) (hh : 0 ≤ (Int32.toInt (σ 7)) ∧ (Int32.toInt (σ 7)) < 2100) (hn : 0 ≤ (Int32.toInt (σ 9)) ∧ (Int32.toInt (σ 9)) ≤ (Int32.toInt (σ 1))) (hNF : (Int32.toInt (σ 8)) ≤ (Int32.toInt (σ 4)) ∨ Int32.toInt ((φ 4) (Int32.toNatClampNeg (σ 4))) ≤ (Int32.toInt (σ 1))) (hHS : ∀ i : Nat, Int32.toInt ((φ 1) i) + Int32.toInt ((φ 2) i) ≤ 2000) : Met l yX9_endHouse wsX9_endHouse ({ frames := 4, cells := 0, slots := 0, locals := 95 } : Room) (va_Pc [.ref (a 0)] (mPre dC dI a κ (σ, φ, γ, ψ))) (va_Qv (QV (fun S F => ∃ (s10 : Int32) (f6 : Nat → Int32) (s3 : Int32) (s9 : Int32) (s8 : Int32) (f1 : Nat → Int32) (f2 : Nat → Int32) (s7 : Int32), (up (up (up (up (up σ 10 s10) 3 s3) 9 s9) 8 s8) 7 s7) = S ∧ (up (up (up φ 6 f6) 1 f1) 2 f2) = F ∧ PtR 0 2000 f1 ∧ PtR 0 2000 f2 ∧ ((Int32.toInt (σ 10)) ≤ (Int32.toInt s10) ∧ (Int32.toInt s10) ≤ (Int32.toInt (σ 10)) + 6) ∧ (∀ i : Nat, i < 300 → (i : Int) < (Int32.toInt s10) → Int32.toInt (f6 i) < i) ∧ ((Int32.toInt s3) = 0) ∧ ((Int32.toInt (σ 7)) ≤ (Int32.toInt s7) ∧ (Int32.toInt s7) ≤ (Int32.toInt (σ 7)) + 1) ∧ (0 ≤ (Int32.toInt s8) ∧ (Int32.toInt s8) ≤ (Int32.toInt (σ 8))) ∧ (0 ≤ (Int32.toInt s9) ∧ (Int32.toInt s9) ≤ (Int32.toInt (σ 1))) ∧ (∀ i : Nat, Int32.toInt (f1 i) + Int32.toInt (f2 i) ≤ 2000))) (mB dC dI a κ) (mA a)) 0 0 (mA a) := by
  refine Met.ofW (cc := cX9_endHouse) (maxL := 2) (ret := none) (by decide) rfl ?_
  intro p e s m args below meth c s₁ B hml hv
  obtain ⟨rfl, hP, hK, hI, hN⟩ := hv
  have hx := B.exec
  have hb := B.bytes
  have hr := B.returns
  have hts := atoms_spec (ws := wsX9_endHouse) B.pre
  have hown : s.vm.findClass RX9 = some m.cls := findClass_of_methodNamed B.named
  have hlocks := B.notSynchronized
  have hS : va_S (mA a) s.heap s.heap [] := va_S.rf
  have hinX9 : ∀ w ∈ wsX90, w ∈ wsX9_endHouse := fun _ h => List.mem_cons_of_mem _ (List.mem_append_right _ h)
  have hl := lv_entry ([.ref (a 0)]) (n := 2) (Nat.le_of_ble_eq_true rfl)
  rw [lg_entry_eq]
  generalize (lg_sl ([.ref (a 0)]) ++ List.replicate (2 - (lg_sl ([.ref (a 0)])).length) Slot.unset).toArray = ls at hl ⊢
  have hl : lv_has ls 2 [(0, .ref (a 0))] := hl
  refine k_gen (fun QQ eQ => ?_)
  have J101 : ∀ (n : Int32) (s10_c101 : Int32) (f6_c101 : Nat → Int32) (γ : Nat → Int32) (ψ : Nat → Nat → Int32) (H : Heap) (locs : List Loc) (ls : Array Slot), ((Int32.toInt n) = (Int32.toInt (σ 8)) - (Int32.toInt (σ 4))) → ((Int32.toInt (σ 10)) ≤ (Int32.toInt s10_c101) ∧ (Int32.toInt s10_c101) ≤ (Int32.toInt (σ 10)) + 6) → (∀ i : Nat, i < 300 → (i : Int) < (Int32.toInt s10_c101) → Int32.toInt (f6_c101 i) < i) → va_P (dC, dI) vwCl (mw a κ ((up σ 10 s10_c101), (up φ 6 f6_c101), γ, ψ)) H → va_S (mA a) s.heap H locs → lv_has ls 2 [(0, .ref (a 0)), (1, .int n)] → W p l e ({ frames := 4, cells := 0, slots := 0, locals := 95 } : Room) s m ([.ref (a 0)] : List Value).toArray below meth c H locs 0 0 QQ (F0 m 101 ls []) := by
    intro n s10_c101 f6_c101 γ ψ H locs ls v0 vf hfc hP hS hl
    refine lv_aload_n hx hb dX9_endHouse_101 rfl (lv_at hl 0 rfl) ?_
    refine lv_iconst (v := 0) hx hb dX9_endHouse_102 (by decide) ?_
    refine mp_0_12 (v := 0) hx hb hts hinX9 hown hK hP hI hS (hts (.fieldLink RX9 141 "CensusDeskModel" "inHouse" "Z") (List.mem_of_getElem? (i := 8) rfl)) (by first | rfl | decide) (by first | rfl | decide) dX9_endHouse_103 ?_
    clear hP hS; intro H locs hP hS
    refine lv_aload_n hx hb dX9_endHouse_106 rfl (lv_at hl 0 rfl) ?_
    refine mg_0_13 (v := (γ 5)) hx hb hts hinX9 hown hK hP (hts (.fieldLink RX9 158 "CensusDeskModel" "houseLost" "Z") (List.mem_of_getElem? (i := 3) rfl)) rfl dX9_endHouse_107 ?_
    refine lv_if_eq (tgt := 153) hx hb dX9_endHouse_110 (by decide) (fun c_1 => ?_) (fun c_1 => ?_)
    · have kc_1 := bI_eq rfl L_0 c_1
      refine lv_aload_n hx hb dX9_endHouse_153 rfl (lv_at hl 0 rfl) ?_
      refine mg_0_22 hx hb hts hinX9 hown hK hP (hts (.fieldLink RX9 20 "CensusDeskModel" "houseNumber" "[I") (List.mem_of_getElem? (i := 11) rfl)) dX9_endHouse_154 ?_
      refine lv_aload_n hx hb dX9_endHouse_157 rfl (lv_at hl 0 rfl) ?_
      refine mg_0_26 (v := (σ 7)) hx hb hts hinX9 hown hK hP (hts (.fieldLink RX9 234 "CensusDeskModel" "houses" "I") (List.mem_of_getElem? (i := 12) rfl)) rfl dX9_endHouse_158 ?_
      refine lv_aload_n hx hb dX9_endHouse_161 rfl (lv_at hl 0 rfl) ?_
      refine mg_0_15 (v := (γ 7)) hx hb hts hinX9 hown hK hP (hts (.fieldLink RX9 221 "CensusDeskModel" "number" "I") (List.mem_of_getElem? (i := 6) rfl)) rfl dX9_endHouse_162 ?_
      refine ms_4 (f := (ψ 2)) hx hb hK hP hI hS (i := (σ 7)) (x := (γ 7)) (vin rfl (by omega)) rfl dX9_endHouse_165 ?_
      clear hP hS; intro H locs hP hS
      obtain ⟨f_2, ef_2⟩ : ∃ z : Nat → Int32, z = upd (ψ 2) (Int32.toNatClampNeg (σ 7)) (γ 7) := ⟨_, rfl⟩
      rw [← ef_2] at hP
      refine lv_aload_n hx hb dX9_endHouse_166 rfl (lv_at hl 0 rfl) ?_
      refine mg_0_23 hx hb hts hinX9 hown hK hP (hts (.fieldLink RX9 23 "CensusDeskModel" "houseTold" "[I") (List.mem_of_getElem? (i := 13) rfl)) dX9_endHouse_167 ?_
      refine lv_aload_n hx hb dX9_endHouse_170 rfl (lv_at hl 0 rfl) ?_
      refine mg_0_26 (v := (σ 7)) hx hb hts hinX9 hown hK hP (hts (.fieldLink RX9 234 "CensusDeskModel" "houses" "I") (List.mem_of_getElem? (i := 12) rfl)) rfl dX9_endHouse_171 ?_
      refine lv_aload_n hx hb dX9_endHouse_174 rfl (lv_at hl 0 rfl) ?_
      refine mg_0_16 (v := (γ 8)) hx hb hts hinX9 hown hK hP (hts (.fieldLink RX9 224 "CensusDeskModel" "told" "I") (List.mem_of_getElem? (i := 5) rfl)) rfl dX9_endHouse_175 ?_
      refine ms_5 (f := (ψ 3)) hx hb hK hP hI hS (i := (σ 7)) (x := (γ 8)) (vin rfl (by omega)) rfl dX9_endHouse_178 ?_
      clear hP hS; intro H locs hP hS
      obtain ⟨f_3, ef_3⟩ : ∃ z : Nat → Int32, z = upd (ψ 3) (Int32.toNatClampNeg (σ 7)) (γ 8) := ⟨_, rfl⟩
      rw [← ef_3] at hP
      refine lv_aload_n hx hb dX9_endHouse_179 rfl (lv_at hl 0 rfl) ?_
      refine mg_0_24 hx hb hts hinX9 hown hK hP (hts (.fieldLink RX9 26 "CensusDeskModel" "houseFirst" "[I") (List.mem_of_getElem? (i := 14) rfl)) dX9_endHouse_180 ?_
      refine lv_aload_n hx hb dX9_endHouse_183 rfl (lv_at hl 0 rfl) ?_
      refine mg_0_26 (v := (σ 7)) hx hb hts hinX9 hown hK hP (hts (.fieldLink RX9 234 "CensusDeskModel" "houses" "I") (List.mem_of_getElem? (i := 12) rfl)) rfl dX9_endHouse_184 ?_
      refine lv_aload_n hx hb dX9_endHouse_187 rfl (lv_at hl 0 rfl) ?_
      refine mg_0_17 (v := (σ 4)) hx hb hts hinX9 hown hK hP (hts (.fieldLink RX9 255 "CensusDeskModel" "firstPerson" "I") (List.mem_of_getElem? (i := 2) rfl)) rfl dX9_endHouse_188 ?_
      refine ms_6 (f := (φ 1)) hx hb hK hP hI hS (i := (σ 7)) (x := (σ 4)) (vin rfl (by omega)) rfl dX9_endHouse_191 ?_
      clear hP hS; intro H locs hP hS
      obtain ⟨f_4, ef_4⟩ : ∃ z : Nat → Int32, z = upd (φ 1) (Int32.toNatClampNeg (σ 7)) (σ 4) := ⟨_, rfl⟩
      rw [← ef_4] at hP
      have pf_4 : PtR 0 2000 f_4 := p_m_houseFirst.set ef_4 (by omega) (by omega)
      refine lv_aload_n hx hb dX9_endHouse_192 rfl (lv_at hl 0 rfl) ?_
      refine mg_0_25 hx hb hts hinX9 hown hK hP (hts (.fieldLink RX9 29 "CensusDeskModel" "houseMany" "[I") (List.mem_of_getElem? (i := 15) rfl)) dX9_endHouse_193 ?_
      refine lv_aload_n hx hb dX9_endHouse_196 rfl (lv_at hl 0 rfl) ?_
      refine mg_0_26 (v := (σ 7)) hx hb hts hinX9 hown hK hP (hts (.fieldLink RX9 234 "CensusDeskModel" "houses" "I") (List.mem_of_getElem? (i := 12) rfl)) rfl dX9_endHouse_197 ?_
      refine lv_iload_n hx hb dX9_endHouse_200 rfl (lv_at hl 1 rfl) ?_
      refine ms_7 (f := (φ 2)) hx hb hK hP hI hS (i := (σ 7)) (x := n) (vin rfl (by omega)) rfl dX9_endHouse_201 ?_
      clear hP hS; intro H locs hP hS
      obtain ⟨f_5, ef_5⟩ : ∃ z : Nat → Int32, z = upd (φ 2) (Int32.toNatClampNeg (σ 7)) n := ⟨_, rfl⟩
      rw [← ef_5] at hP
      have pf_5 : PtR 0 2000 f_5 := p_m_houseMany.set ef_5 (by omega) (by omega)
      have hHS2 : ∀ i : Nat, Int32.toInt (f_4 i) + Int32.toInt (f_5 i) ≤ 2000 := fun i => by
        by_cases hi : i = Int32.toNatClampNeg (σ 7)
        · rw [ef_4, ef_5, hi, pk_us, pk_us]; omega
        · rw [ef_4, ef_5, pk_un hi, pk_un hi]; exact hHS i
      refine lv_aload_n hx hb dX9_endHouse_202 rfl (lv_at hl 0 rfl) ?_
      refine lv_dup hx hb dX9_endHouse_203 rfl ?_
      refine mg_0_26 (v := (σ 7)) hx hb hts hinX9 hown hK hP (hts (.fieldLink RX9 234 "CensusDeskModel" "houses" "I") (List.mem_of_getElem? (i := 12) rfl)) rfl dX9_endHouse_204 ?_
      refine lv_iconst (v := 1) hx hb dX9_endHouse_207 (by decide) ?_
      refine lv_iadd hx hb dX9_endHouse_208 ?_
      refine lv_topi (fun z_6 ez_6 => ?_)
      have tz_6 : (Int32.toInt z_6) = (Int32.toInt (σ 7)) + 1 := aI_add rfl L_1 ez_6 (by have := rng (σ 7); omega)
      refine mp_0_26 (v := z_6) hx hb hts hinX9 hown hK hP hI hS (hts (.fieldLink RX9 234 "CensusDeskModel" "houses" "I") (List.mem_of_getElem? (i := 12) rfl)) dX9_endHouse_209 ?_
      clear hP hS; intro H locs hP hS
      refine lv_aload_n hx hb dX9_endHouse_212 rfl (lv_at hl 0 rfl) ?_
      refine lv_aload_n hx hb dX9_endHouse_213 rfl (lv_at hl 0 rfl) ?_
      refine mg_0_15 (v := (γ 7)) hx hb hts hinX9 hown hK hP (hts (.fieldLink RX9 221 "CensusDeskModel" "number" "I") (List.mem_of_getElem? (i := 6) rfl)) rfl dX9_endHouse_214 ?_
      refine lv_if_lt (tgt := 227) hx hb dX9_endHouse_217 (by decide) (fun c_7 => ?_) (fun c_7 => ?_)
      · have kc_7 := bI_lt rfl L_0 c_7
        refine lv_aload_n hx hb dX9_endHouse_227 rfl (lv_at hl 0 rfl) ?_
        refine mg_0_11 (v := (γ 4)) hx hb hts hinX9 hown hK hP (hts (.fieldLink RX9 258 "CensusDeskModel" "lastNumber" "I") (List.mem_of_getElem? (i := 7) rfl)) rfl dX9_endHouse_228 ?_
        refine mp_0_11 (v := (γ 4)) hx hb hts hinX9 hown hK hP hI hS (hts (.fieldLink RX9 258 "CensusDeskModel" "lastNumber" "I") (List.mem_of_getElem? (i := 7) rfl)) dX9_endHouse_231 ?_
        clear hP hS; intro H locs hP hS
        subst eQ
        exact W.vret hx hb hr (fun t ht hW => ⟨⟨((up (up (up (up (up σ 10 s10_c101) 3 0) 9 (σ 9)) 8 (σ 8)) 7 z_6), (up (up (up φ 6 f6_c101) 1 f_4) 2 f_5), (up γ 4 (γ 4)), (up (up ψ 2 f_2) 3 f_3)), rfl, ⟨s10_c101, f6_c101, 0, (σ 9), (σ 8), f_4, f_5, z_6, rfl, rfl, pf_4, pf_5, (show (Int32.toInt (σ 10)) ≤ (Int32.toInt s10_c101) ∧ (Int32.toInt s10_c101) ≤ (Int32.toInt (σ 10)) + 6 from (by omega)), (show ∀ i : Nat, i < 300 → (i : Int) < (Int32.toInt s10_c101) → Int32.toInt (f6_c101 i) < i from (by with_reducible assumption)), (show (Int32.toInt 0) = 0 from (by have := L_0; omega)), (show (Int32.toInt (σ 7)) ≤ (Int32.toInt z_6) ∧ (Int32.toInt z_6) ≤ (Int32.toInt (σ 7)) + 1 from (by omega)), (show 0 ≤ (Int32.toInt (σ 8)) ∧ (Int32.toInt (σ 8)) ≤ (Int32.toInt (σ 8)) from (by omega)), (show 0 ≤ (Int32.toInt (σ 9)) ∧ (Int32.toInt (σ 9)) ≤ (Int32.toInt (σ 1)) from (by omega)), (show ∀ i : Nat, Int32.toInt (f_4 i) + Int32.toInt (f_5 i) ≤ 2000 from (by with_reducible assumption))⟩, (by show va_P _ _ _ _; rw [ht]; exact hP)⟩, hS.F ht⟩) hS.2.2 dX9_endHouse_234
      · have kc_7 := bI_nlt rfl L_0 c_7
        refine lv_aload_n hx hb dX9_endHouse_220 rfl (lv_at hl 0 rfl) ?_
        refine mg_0_15 (v := (γ 7)) hx hb hts hinX9 hown hK hP (hts (.fieldLink RX9 221 "CensusDeskModel" "number" "I") (List.mem_of_getElem? (i := 6) rfl)) rfl dX9_endHouse_221 ?_
        refine lv_goto (tgt := 231) hx hb dX9_endHouse_224 (by decide) ?_
        refine mp_0_11 (v := (γ 7)) hx hb hts hinX9 hown hK hP hI hS (hts (.fieldLink RX9 258 "CensusDeskModel" "lastNumber" "I") (List.mem_of_getElem? (i := 7) rfl)) dX9_endHouse_231 ?_
        clear hP hS; intro H locs hP hS
        subst eQ
        exact W.vret hx hb hr (fun t ht hW => ⟨⟨((up (up (up (up (up σ 10 s10_c101) 3 0) 9 (σ 9)) 8 (σ 8)) 7 z_6), (up (up (up φ 6 f6_c101) 1 f_4) 2 f_5), (up γ 4 (γ 7)), (up (up ψ 2 f_2) 3 f_3)), rfl, ⟨s10_c101, f6_c101, 0, (σ 9), (σ 8), f_4, f_5, z_6, rfl, rfl, pf_4, pf_5, (show (Int32.toInt (σ 10)) ≤ (Int32.toInt s10_c101) ∧ (Int32.toInt s10_c101) ≤ (Int32.toInt (σ 10)) + 6 from (by omega)), (show ∀ i : Nat, i < 300 → (i : Int) < (Int32.toInt s10_c101) → Int32.toInt (f6_c101 i) < i from (by with_reducible assumption)), (show (Int32.toInt 0) = 0 from (by have := L_0; omega)), (show (Int32.toInt (σ 7)) ≤ (Int32.toInt z_6) ∧ (Int32.toInt z_6) ≤ (Int32.toInt (σ 7)) + 1 from (by omega)), (show 0 ≤ (Int32.toInt (σ 8)) ∧ (Int32.toInt (σ 8)) ≤ (Int32.toInt (σ 8)) from (by omega)), (show 0 ≤ (Int32.toInt (σ 9)) ∧ (Int32.toInt (σ 9)) ≤ (Int32.toInt (σ 1)) from (by omega)), (show ∀ i : Nat, Int32.toInt (f_4 i) + Int32.toInt (f_5 i) ≤ 2000 from (by with_reducible assumption))⟩, (by show va_P _ _ _ _; rw [ht]; exact hP)⟩, hS.F ht⟩) hS.2.2 dX9_endHouse_234
    · have kc_1 := bI_ne rfl L_0 c_1
      refine lv_aload_n hx hb dX9_endHouse_113 rfl (lv_at hl 0 rfl) ?_
      refine lv_aload_n hx hb dX9_endHouse_114 rfl (lv_at hl 0 rfl) ?_
      refine mg_0_32 (v := (σ 8)) hx hb hts hinX9 hown hK hP (hts (.fieldLink RX9 252 "CensusDeskModel" "persons" "I") (List.mem_of_getElem? (i := 1) rfl)) rfl dX9_endHouse_115 ?_
      refine lv_aload_n hx hb dX9_endHouse_118 rfl (lv_at hl 0 rfl) ?_
      refine mg_0_17 (v := (σ 4)) hx hb hts hinX9 hown hK hP (hts (.fieldLink RX9 255 "CensusDeskModel" "firstPerson" "I") (List.mem_of_getElem? (i := 2) rfl)) rfl dX9_endHouse_119 ?_
      refine lv_icmp_le (tgt := 137) hx hb dX9_endHouse_122 (by decide) (fun c_8 => ?_) (fun c_8 => ?_)
      · have kc_8 := bI_le rfl rfl c_8
        refine lv_aload_n hx hb dX9_endHouse_137 rfl (lv_at hl 0 rfl) ?_
        refine mg_0_34 (v := (σ 9)) hx hb hts hinX9 hown hK hP (hts (.fieldLink RX9 240 "CensusDeskModel" "nameEnd" "I") (List.mem_of_getElem? (i := 10) rfl)) rfl dX9_endHouse_138 ?_
        refine mp_0_34 (v := (σ 9)) hx hb hts hinX9 hown hK hP hI hS (hts (.fieldLink RX9 240 "CensusDeskModel" "nameEnd" "I") (List.mem_of_getElem? (i := 10) rfl)) dX9_endHouse_141 ?_
        clear hP hS; intro H locs hP hS
        refine lv_aload_n hx hb dX9_endHouse_144 rfl (lv_at hl 0 rfl) ?_
        refine lv_aload_n hx hb dX9_endHouse_145 rfl (lv_at hl 0 rfl) ?_
        refine mg_0_17 (v := (σ 4)) hx hb hts hinX9 hown hK hP (hts (.fieldLink RX9 255 "CensusDeskModel" "firstPerson" "I") (List.mem_of_getElem? (i := 2) rfl)) rfl dX9_endHouse_146 ?_
        refine mp_0_32 (v := (σ 4)) hx hb hts hinX9 hown hK hP hI hS (hts (.fieldLink RX9 252 "CensusDeskModel" "persons" "I") (List.mem_of_getElem? (i := 1) rfl)) dX9_endHouse_149 ?_
        clear hP hS; intro H locs hP hS
        subst eQ
        exact W.vret hx hb hr (fun t ht hW => ⟨⟨((up (up (up (up (up σ 10 s10_c101) 3 0) 9 (σ 9)) 8 (σ 4)) 7 (σ 7)), (up (up (up φ 6 f6_c101) 1 (φ 1)) 2 (φ 2)), γ, ψ), rfl, ⟨s10_c101, f6_c101, 0, (σ 9), (σ 4), (φ 1), (φ 2), (σ 7), rfl, rfl, p_m_houseFirst, p_m_houseMany, (show (Int32.toInt (σ 10)) ≤ (Int32.toInt s10_c101) ∧ (Int32.toInt s10_c101) ≤ (Int32.toInt (σ 10)) + 6 from (by omega)), (show ∀ i : Nat, i < 300 → (i : Int) < (Int32.toInt s10_c101) → Int32.toInt (f6_c101 i) < i from (by with_reducible assumption)), (show (Int32.toInt 0) = 0 from (by have := L_0; omega)), (show (Int32.toInt (σ 7)) ≤ (Int32.toInt (σ 7)) ∧ (Int32.toInt (σ 7)) ≤ (Int32.toInt (σ 7)) + 1 from (by omega)), (show 0 ≤ (Int32.toInt (σ 4)) ∧ (Int32.toInt (σ 4)) ≤ (Int32.toInt (σ 8)) from (by omega)), (show 0 ≤ (Int32.toInt (σ 9)) ∧ (Int32.toInt (σ 9)) ≤ (Int32.toInt (σ 1)) from (by omega)), (show ∀ i : Nat, Int32.toInt ((φ 1) i) + Int32.toInt ((φ 2) i) ≤ 2000 from (by with_reducible assumption))⟩, (by show va_P _ _ _ _; rw [ht]; exact hP)⟩, hS.F ht⟩) hS.2.2 dX9_endHouse_152
      · have kc_8 := bI_nle rfl rfl c_8
        refine lv_aload_n hx hb dX9_endHouse_125 rfl (lv_at hl 0 rfl) ?_
        refine mg_0_30 hx hb hts hinX9 hown hK hP (hts (.fieldLink RX9 41 "CensusDeskModel" "nameAt" "[I") (List.mem_of_getElem? (i := 9) rfl)) dX9_endHouse_126 ?_
        refine lv_aload_n hx hb dX9_endHouse_129 rfl (lv_at hl 0 rfl) ?_
        refine mg_0_17 (v := (σ 4)) hx hb hts hinX9 hown hK hP (hts (.fieldLink RX9 255 "CensusDeskModel" "firstPerson" "I") (List.mem_of_getElem? (i := 2) rfl)) rfl dX9_endHouse_130 ?_
        refine ml_11 (f := (φ 4)) hx hb hK hP (i := (σ 4)) (vin rfl (by omega)) rfl dX9_endHouse_133 ?_
        refine lv_topi (fun z_9 ez_9 => ?_)
        have tz_9 : (Int32.toInt z_9) = Int32.toInt ((φ 4) (Int32.toNatClampNeg (σ 4))) := congrArg Int32.toInt ez_9
        have pz_9 : 0 ≤ (Int32.toInt z_9) ∧ (Int32.toInt z_9) ≤ 4000 := p_m_nameAt.of ez_9
        refine lv_goto (tgt := 141) hx hb dX9_endHouse_134 (by decide) ?_
        refine mp_0_34 (v := z_9) hx hb hts hinX9 hown hK hP hI hS (hts (.fieldLink RX9 240 "CensusDeskModel" "nameEnd" "I") (List.mem_of_getElem? (i := 10) rfl)) dX9_endHouse_141 ?_
        clear hP hS; intro H locs hP hS
        refine lv_aload_n hx hb dX9_endHouse_144 rfl (lv_at hl 0 rfl) ?_
        refine lv_aload_n hx hb dX9_endHouse_145 rfl (lv_at hl 0 rfl) ?_
        refine mg_0_17 (v := (σ 4)) hx hb hts hinX9 hown hK hP (hts (.fieldLink RX9 255 "CensusDeskModel" "firstPerson" "I") (List.mem_of_getElem? (i := 2) rfl)) rfl dX9_endHouse_146 ?_
        refine mp_0_32 (v := (σ 4)) hx hb hts hinX9 hown hK hP hI hS (hts (.fieldLink RX9 252 "CensusDeskModel" "persons" "I") (List.mem_of_getElem? (i := 1) rfl)) dX9_endHouse_149 ?_
        clear hP hS; intro H locs hP hS
        subst eQ
        exact W.vret hx hb hr (fun t ht hW => ⟨⟨((up (up (up (up (up σ 10 s10_c101) 3 0) 9 z_9) 8 (σ 4)) 7 (σ 7)), (up (up (up φ 6 f6_c101) 1 (φ 1)) 2 (φ 2)), γ, ψ), rfl, ⟨s10_c101, f6_c101, 0, z_9, (σ 4), (φ 1), (φ 2), (σ 7), rfl, rfl, p_m_houseFirst, p_m_houseMany, (show (Int32.toInt (σ 10)) ≤ (Int32.toInt s10_c101) ∧ (Int32.toInt s10_c101) ≤ (Int32.toInt (σ 10)) + 6 from (by omega)), (show ∀ i : Nat, i < 300 → (i : Int) < (Int32.toInt s10_c101) → Int32.toInt (f6_c101 i) < i from (by with_reducible assumption)), (show (Int32.toInt 0) = 0 from (by have := L_0; omega)), (show (Int32.toInt (σ 7)) ≤ (Int32.toInt (σ 7)) ∧ (Int32.toInt (σ 7)) ≤ (Int32.toInt (σ 7)) + 1 from (by omega)), (show 0 ≤ (Int32.toInt (σ 4)) ∧ (Int32.toInt (σ 4)) ≤ (Int32.toInt (σ 8)) from (by omega)), (show 0 ≤ (Int32.toInt z_9) ∧ (Int32.toInt z_9) ≤ (Int32.toInt (σ 1)) from (by omega)), (show ∀ i : Nat, Int32.toInt ((φ 1) i) + Int32.toInt ((φ 2) i) ≤ 2000 from (by with_reducible assumption))⟩, (by show va_P _ _ _ _; rw [ht]; exact hP)⟩, hS.F ht⟩) hS.2.2 dX9_endHouse_152
  have J65 : ∀ (n : Int32) (s10_c65 : Int32) (f6_c65 : Nat → Int32) (γ : Nat → Int32) (ψ : Nat → Nat → Int32) (H : Heap) (locs : List Loc) (ls : Array Slot), ((Int32.toInt n) = (Int32.toInt (σ 8)) - (Int32.toInt (σ 4))) → ((Int32.toInt (σ 10)) ≤ (Int32.toInt s10_c65) ∧ (Int32.toInt s10_c65) ≤ (Int32.toInt (σ 10)) + 4) → (∀ i : Nat, i < 300 → (i : Int) < (Int32.toInt s10_c65) → Int32.toInt (f6_c65 i) < i) → va_P (dC, dI) vwCl (mw a κ ((up σ 10 s10_c65), (up φ 6 f6_c65), γ, ψ)) H → va_S (mA a) s.heap H locs → lv_has ls 2 [(0, .ref (a 0)), (1, .int n)] → W p l e ({ frames := 4, cells := 0, slots := 0, locals := 95 } : Room) s m ([.ref (a 0)] : List Value).toArray below meth c H locs 0 0 QQ (F0 m 65 ls []) := by
    intro n s10_c65 f6_c65 γ ψ H locs ls v0 vf hfc hP hS hl
    refine lv_aload_n hx hb dX9_endHouse_65 rfl (lv_at hl 0 rfl) ?_
    refine mg_0_13 (v := (γ 5)) hx hb hts hinX9 hown hK hP (hts (.fieldLink RX9 158 "CensusDeskModel" "houseLost" "Z") (List.mem_of_getElem? (i := 3) rfl)) rfl dX9_endHouse_66 ?_
    refine lv_if_ne (tgt := 101) hx hb dX9_endHouse_69 (by decide) (fun c_10 => ?_) (fun c_10 => ?_)
    · have kc_10 := bI_ne rfl L_0 c_10
      exact J101 n s10_c65 f6_c65 γ ψ _ _ _ (show (Int32.toInt n) = (Int32.toInt (σ 8)) - (Int32.toInt (σ 4)) from (by omega)) (show (Int32.toInt (σ 10)) ≤ (Int32.toInt s10_c65) ∧ (Int32.toInt s10_c65) ≤ (Int32.toInt (σ 10)) + 6 from (by omega)) (show ∀ i : Nat, i < 300 → (i : Int) < (Int32.toInt s10_c65) → Int32.toInt (f6_c65 i) < i from (by with_reducible assumption)) hP hS (lv_sub hl [0, 1] rfl)
    · have kc_10 := bI_eq rfl L_0 c_10
      refine lv_aload_n hx hb dX9_endHouse_72 rfl (lv_at hl 0 rfl) ?_
      refine mg_0_15 (v := (γ 7)) hx hb hts hinX9 hown hK hP (hts (.fieldLink RX9 221 "CensusDeskModel" "number" "I") (List.mem_of_getElem? (i := 6) rfl)) rfl dX9_endHouse_73 ?_
      refine lv_if_lt (tgt := 101) hx hb dX9_endHouse_76 (by decide) (fun c_11 => ?_) (fun c_11 => ?_)
      · have kc_11 := bI_lt rfl L_0 c_11
        exact J101 n s10_c65 f6_c65 γ ψ _ _ _ (show (Int32.toInt n) = (Int32.toInt (σ 8)) - (Int32.toInt (σ 4)) from (by omega)) (show (Int32.toInt (σ 10)) ≤ (Int32.toInt s10_c65) ∧ (Int32.toInt s10_c65) ≤ (Int32.toInt (σ 10)) + 6 from (by omega)) (show ∀ i : Nat, i < 300 → (i : Int) < (Int32.toInt s10_c65) → Int32.toInt (f6_c65 i) < i from (by with_reducible assumption)) hP hS (lv_sub hl [0, 1] rfl)
      · have kc_11 := bI_nlt rfl L_0 c_11
        refine lv_aload_n hx hb dX9_endHouse_79 rfl (lv_at hl 0 rfl) ?_
        refine mg_0_15 (v := (γ 7)) hx hb hts hinX9 hown hK hP (hts (.fieldLink RX9 221 "CensusDeskModel" "number" "I") (List.mem_of_getElem? (i := 6) rfl)) rfl dX9_endHouse_80 ?_
        refine lv_aload_n hx hb dX9_endHouse_83 rfl (lv_at hl 0 rfl) ?_
        refine mg_0_11 (v := (γ 4)) hx hb hts hinX9 hown hK hP (hts (.fieldLink RX9 258 "CensusDeskModel" "lastNumber" "I") (List.mem_of_getElem? (i := 7) rfl)) rfl dX9_endHouse_84 ?_
        refine lv_icmp_gt (tgt := 101) hx hb dX9_endHouse_87 (by decide) (fun c_12 => ?_) (fun c_12 => ?_)
        · have kc_12 := bI_lt rfl rfl c_12
          exact J101 n s10_c65 f6_c65 γ ψ _ _ _ (show (Int32.toInt n) = (Int32.toInt (σ 8)) - (Int32.toInt (σ 4)) from (by omega)) (show (Int32.toInt (σ 10)) ≤ (Int32.toInt s10_c65) ∧ (Int32.toInt s10_c65) ≤ (Int32.toInt (σ 10)) + 6 from (by omega)) (show ∀ i : Nat, i < 300 → (i : Int) < (Int32.toInt s10_c65) → Int32.toInt (f6_c65 i) < i from (by with_reducible assumption)) hP hS (lv_sub hl [0, 1] rfl)
        · have kc_12 := bI_nlt rfl rfl c_12
          refine lv_aload_n hx hb dX9_endHouse_90 rfl (lv_at hl 0 rfl) ?_
          refine lv_bipush (v := 16) hx hb dX9_endHouse_91 (by decide) ?_
          refine lv_aload_n hx hb dX9_endHouse_93 rfl (lv_at hl 0 rfl) ?_
          refine mg_0_14 (v := (γ 6)) hx hb hts hinX9 hown hK hP (hts (.fieldLink RX9 164 "CensusDeskModel" "houseAt" "I") (List.mem_of_getElem? (i := 4) rfl)) rfl dX9_endHouse_94 ?_
          refine lv_iconst (v := (-1)) hx hb dX9_endHouse_97 (by decide) ?_
          refine m_callv (va_runV (As := [.int 16, .int (γ 6), .int (-1)]) (rest := []) ⟨hx, hb, hml, hown, hts⟩ (c_X9_failHouse l dC dI a κ (up σ 10 s10_c65) (up φ 6 f6_c65) γ ψ 16 (γ 6) (-1) (show 1 ≤ (Int32.toInt 16) ∧ (Int32.toInt 16) ≤ 21 from (by have := L_16; omega)) (show (Int32.toInt (-1)) < (Int32.toInt s10_c65) from (by have := L_m1; omega)) (show 0 ≤ (Int32.toInt s10_c65) ∧ (Int32.toInt s10_c65) ≤ 1999999990 from (by omega)) (show ∀ i : Nat, i < 300 → (i : Int) < (Int32.toInt s10_c65) → Int32.toInt (f6_c65 i) < i from (by with_reducible assumption))) (cwV 3 hts gX9_endHouse_X9_failHouse rfl rfl rfl ⟨rfl, hd_X9_failHouse⟩ ⟨Nat.le_of_ble_eq_true rfl, Nat.le_of_ble_eq_true rfl⟩) (mPreV hP hK hI hN hS (va_recv hK hP (ci := 9) (q0 := 0) rfl rfl)) rfl rfl hl.1 rfl (lv_room (Nat.le_of_ble_eq_true rfl)) dX9_endHouse_98 ⟨(by decide +kernel), (by decide +kernel)⟩) hS ?_
          clear hP hS; intro S_13 F_13 γ_13 ψ_13 H locs hw hP hS
          obtain ⟨s10_13, f6_13, rfl, rfl, (qf_13 : (Int32.toInt s10_c65) ≤ (Int32.toInt s10_13) ∧ (Int32.toInt s10_13) ≤ (Int32.toInt s10_c65) + 2), (qc_13 : ∀ i : Nat, i < 300 → (i : Int) < (Int32.toInt s10_13) → Int32.toInt (f6_13 i) < i)⟩ := hw
          have hLm1_13 := L_m1
          have hL16_13 := L_16
          exact J101 n s10_13 f6_13 γ_13 ψ_13 _ _ _ (show (Int32.toInt n) = (Int32.toInt (σ 8)) - (Int32.toInt (σ 4)) from (by omega)) (show (Int32.toInt (σ 10)) ≤ (Int32.toInt s10_13) ∧ (Int32.toInt s10_13) ≤ (Int32.toInt (σ 10)) + 6 from (by omega)) (show ∀ i : Nat, i < 300 → (i : Int) < (Int32.toInt s10_13) → Int32.toInt (f6_13 i) < i from (by with_reducible assumption)) hP hS (lv_sub hl [0, 1] rfl)
  have J32 : ∀ (n : Int32) (s10_c32 : Int32) (f6_c32 : Nat → Int32) (γ : Nat → Int32) (ψ : Nat → Nat → Int32) (H : Heap) (locs : List Loc) (ls : Array Slot), ((Int32.toInt n) = (Int32.toInt (σ 8)) - (Int32.toInt (σ 4))) → ((Int32.toInt (σ 10)) ≤ (Int32.toInt s10_c32) ∧ (Int32.toInt s10_c32) ≤ (Int32.toInt (σ 10)) + 2) → (∀ i : Nat, i < 300 → (i : Int) < (Int32.toInt s10_c32) → Int32.toInt (f6_c32 i) < i) → va_P (dC, dI) vwCl (mw a κ ((up σ 10 s10_c32), (up φ 6 f6_c32), γ, ψ)) H → va_S (mA a) s.heap H locs → lv_has ls 2 [(0, .ref (a 0)), (1, .int n)] → W p l e ({ frames := 4, cells := 0, slots := 0, locals := 95 } : Room) s m ([.ref (a 0)] : List Value).toArray below meth c H locs 0 0 QQ (F0 m 32 ls []) := by
    intro n s10_c32 f6_c32 γ ψ H locs ls v0 vf hfc hP hS hl
    refine lv_aload_n hx hb dX9_endHouse_32 rfl (lv_at hl 0 rfl) ?_
    refine mg_0_13 (v := (γ 5)) hx hb hts hinX9 hown hK hP (hts (.fieldLink RX9 158 "CensusDeskModel" "houseLost" "Z") (List.mem_of_getElem? (i := 3) rfl)) rfl dX9_endHouse_33 ?_
    refine lv_if_ne (tgt := 65) hx hb dX9_endHouse_36 (by decide) (fun c_14 => ?_) (fun c_14 => ?_)
    · have kc_14 := bI_ne rfl L_0 c_14
      exact J65 n s10_c32 f6_c32 γ ψ _ _ _ (show (Int32.toInt n) = (Int32.toInt (σ 8)) - (Int32.toInt (σ 4)) from (by omega)) (show (Int32.toInt (σ 10)) ≤ (Int32.toInt s10_c32) ∧ (Int32.toInt s10_c32) ≤ (Int32.toInt (σ 10)) + 4 from (by omega)) (show ∀ i : Nat, i < 300 → (i : Int) < (Int32.toInt s10_c32) → Int32.toInt (f6_c32 i) < i from (by with_reducible assumption)) hP hS (lv_sub hl [0, 1] rfl)
    · have kc_14 := bI_eq rfl L_0 c_14
      refine lv_aload_n hx hb dX9_endHouse_39 rfl (lv_at hl 0 rfl) ?_
      refine mg_0_16 (v := (γ 8)) hx hb hts hinX9 hown hK hP (hts (.fieldLink RX9 224 "CensusDeskModel" "told" "I") (List.mem_of_getElem? (i := 5) rfl)) rfl dX9_endHouse_40 ?_
      refine lv_if_lt (tgt := 65) hx hb dX9_endHouse_43 (by decide) (fun c_15 => ?_) (fun c_15 => ?_)
      · have kc_15 := bI_lt rfl L_0 c_15
        exact J65 n s10_c32 f6_c32 γ ψ _ _ _ (show (Int32.toInt n) = (Int32.toInt (σ 8)) - (Int32.toInt (σ 4)) from (by omega)) (show (Int32.toInt (σ 10)) ≤ (Int32.toInt s10_c32) ∧ (Int32.toInt s10_c32) ≤ (Int32.toInt (σ 10)) + 4 from (by omega)) (show ∀ i : Nat, i < 300 → (i : Int) < (Int32.toInt s10_c32) → Int32.toInt (f6_c32 i) < i from (by with_reducible assumption)) hP hS (lv_sub hl [0, 1] rfl)
      · have kc_15 := bI_nlt rfl L_0 c_15
        refine lv_aload_n hx hb dX9_endHouse_46 rfl (lv_at hl 0 rfl) ?_
        refine mg_0_16 (v := (γ 8)) hx hb hts hinX9 hown hK hP (hts (.fieldLink RX9 224 "CensusDeskModel" "told" "I") (List.mem_of_getElem? (i := 5) rfl)) rfl dX9_endHouse_47 ?_
        refine lv_iload_n hx hb dX9_endHouse_50 rfl (lv_at hl 1 rfl) ?_
        refine lv_icmp_eq (tgt := 65) hx hb dX9_endHouse_51 (by decide) (fun c_16 => ?_) (fun c_16 => ?_)
        · have kc_16 := bI_eq rfl rfl c_16
          exact J65 n s10_c32 f6_c32 γ ψ _ _ _ (show (Int32.toInt n) = (Int32.toInt (σ 8)) - (Int32.toInt (σ 4)) from (by omega)) (show (Int32.toInt (σ 10)) ≤ (Int32.toInt s10_c32) ∧ (Int32.toInt s10_c32) ≤ (Int32.toInt (σ 10)) + 4 from (by omega)) (show ∀ i : Nat, i < 300 → (i : Int) < (Int32.toInt s10_c32) → Int32.toInt (f6_c32 i) < i from (by with_reducible assumption)) hP hS (lv_sub hl [0, 1] rfl)
        · have kc_16 := bI_ne rfl rfl c_16
          refine lv_aload_n hx hb dX9_endHouse_54 rfl (lv_at hl 0 rfl) ?_
          refine lv_bipush (v := 15) hx hb dX9_endHouse_55 (by decide) ?_
          refine lv_aload_n hx hb dX9_endHouse_57 rfl (lv_at hl 0 rfl) ?_
          refine mg_0_14 (v := (γ 6)) hx hb hts hinX9 hown hK hP (hts (.fieldLink RX9 164 "CensusDeskModel" "houseAt" "I") (List.mem_of_getElem? (i := 4) rfl)) rfl dX9_endHouse_58 ?_
          refine lv_iconst (v := (-1)) hx hb dX9_endHouse_61 (by decide) ?_
          refine m_callv (va_runV (As := [.int 15, .int (γ 6), .int (-1)]) (rest := []) ⟨hx, hb, hml, hown, hts⟩ (c_X9_failHouse l dC dI a κ (up σ 10 s10_c32) (up φ 6 f6_c32) γ ψ 15 (γ 6) (-1) (show 1 ≤ (Int32.toInt 15) ∧ (Int32.toInt 15) ≤ 21 from (by have := L_15; omega)) (show (Int32.toInt (-1)) < (Int32.toInt s10_c32) from (by have := L_m1; omega)) (show 0 ≤ (Int32.toInt s10_c32) ∧ (Int32.toInt s10_c32) ≤ 1999999990 from (by omega)) (show ∀ i : Nat, i < 300 → (i : Int) < (Int32.toInt s10_c32) → Int32.toInt (f6_c32 i) < i from (by with_reducible assumption))) (cwV 3 hts gX9_endHouse_X9_failHouse rfl rfl rfl ⟨rfl, hd_X9_failHouse⟩ ⟨Nat.le_of_ble_eq_true rfl, Nat.le_of_ble_eq_true rfl⟩) (mPreV hP hK hI hN hS (va_recv hK hP (ci := 9) (q0 := 0) rfl rfl)) rfl rfl hl.1 rfl (lv_room (Nat.le_of_ble_eq_true rfl)) dX9_endHouse_62 ⟨(by decide +kernel), (by decide +kernel)⟩) hS ?_
          clear hP hS; intro S_17 F_17 γ_17 ψ_17 H locs hw hP hS
          obtain ⟨s10_17, f6_17, rfl, rfl, (qf_17 : (Int32.toInt s10_c32) ≤ (Int32.toInt s10_17) ∧ (Int32.toInt s10_17) ≤ (Int32.toInt s10_c32) + 2), (qc_17 : ∀ i : Nat, i < 300 → (i : Int) < (Int32.toInt s10_17) → Int32.toInt (f6_17 i) < i)⟩ := hw
          have hLm1_17 := L_m1
          have hL15_17 := L_15
          exact J65 n s10_17 f6_17 γ_17 ψ_17 _ _ _ (show (Int32.toInt n) = (Int32.toInt (σ 8)) - (Int32.toInt (σ 4)) from (by omega)) (show (Int32.toInt (σ 10)) ≤ (Int32.toInt s10_17) ∧ (Int32.toInt s10_17) ≤ (Int32.toInt (σ 10)) + 4 from (by omega)) (show ∀ i : Nat, i < 300 → (i : Int) < (Int32.toInt s10_17) → Int32.toInt (f6_17 i) < i from (by with_reducible assumption)) hP hS (lv_sub hl [0, 1] rfl)
  refine lv_aload_n hx hb dX9_endHouse_0 rfl (lv_at hl 0 rfl) ?_
  refine mg_0_32 (v := (σ 8)) hx hb hts hinX9 hown hK hP (hts (.fieldLink RX9 252 "CensusDeskModel" "persons" "I") (List.mem_of_getElem? (i := 1) rfl)) rfl dX9_endHouse_1 ?_
  refine lv_aload_n hx hb dX9_endHouse_4 rfl (lv_at hl 0 rfl) ?_
  refine mg_0_17 (v := (σ 4)) hx hb hts hinX9 hown hK hP (hts (.fieldLink RX9 255 "CensusDeskModel" "firstPerson" "I") (List.mem_of_getElem? (i := 2) rfl)) rfl dX9_endHouse_5 ?_
  refine lv_isub hx hb dX9_endHouse_8 ?_
  refine lv_topi (fun z_18 ez_18 => ?_)
  have tz_18 : (Int32.toInt z_18) = (Int32.toInt (σ 8)) - (Int32.toInt (σ 4)) := aI_sub rfl rfl ez_18 (by have := rng (σ 8); have := rng (σ 4); omega)
  refine lv_istore_n (lv' := [(1, .int z_18), (0, .ref (a 0))]) hx hb dX9_endHouse_9 rfl hl (by decide) rfl ?_
  clear hl; intro ls hl
  refine lv_aload_n hx hb dX9_endHouse_10 rfl (lv_at hl 1 rfl) ?_
  refine mg_0_13 (v := (γ 5)) hx hb hts hinX9 hown hK hP (hts (.fieldLink RX9 158 "CensusDeskModel" "houseLost" "Z") (List.mem_of_getElem? (i := 3) rfl)) rfl dX9_endHouse_11 ?_
  refine lv_if_ne (tgt := 32) hx hb dX9_endHouse_14 (by decide) (fun c_19 => ?_) (fun c_19 => ?_)
  · have kc_19 := bI_ne rfl L_0 c_19
    exact J32 z_18 (σ 10) (φ 6) γ ψ _ _ _ (show (Int32.toInt z_18) = (Int32.toInt (σ 8)) - (Int32.toInt (σ 4)) from (by omega)) (show (Int32.toInt (σ 10)) ≤ (Int32.toInt (σ 10)) ∧ (Int32.toInt (σ 10)) ≤ (Int32.toInt (σ 10)) + 2 from (by omega)) (show ∀ i : Nat, i < 300 → (i : Int) < (Int32.toInt (σ 10)) → Int32.toInt ((φ 6) i) < i from (by with_reducible assumption)) hP hS (lv_sub hl [1, 0] rfl)
  · have kc_19 := bI_eq rfl L_0 c_19
    refine lv_iload_n hx hb dX9_endHouse_17 rfl (lv_at hl 0 rfl) ?_
    refine lv_if_ne (tgt := 32) hx hb dX9_endHouse_18 (by decide) (fun c_20 => ?_) (fun c_20 => ?_)
    · have kc_20 := bI_ne rfl L_0 c_20
      exact J32 z_18 (σ 10) (φ 6) γ ψ _ _ _ (show (Int32.toInt z_18) = (Int32.toInt (σ 8)) - (Int32.toInt (σ 4)) from (by omega)) (show (Int32.toInt (σ 10)) ≤ (Int32.toInt (σ 10)) ∧ (Int32.toInt (σ 10)) ≤ (Int32.toInt (σ 10)) + 2 from (by omega)) (show ∀ i : Nat, i < 300 → (i : Int) < (Int32.toInt (σ 10)) → Int32.toInt ((φ 6) i) < i from (by with_reducible assumption)) hP hS (lv_sub hl [1, 0] rfl)
    · have kc_20 := bI_eq rfl L_0 c_20
      refine lv_aload_n hx hb dX9_endHouse_21 rfl (lv_at hl 1 rfl) ?_
      refine lv_bipush (v := 14) hx hb dX9_endHouse_22 (by decide) ?_
      refine lv_aload_n hx hb dX9_endHouse_24 rfl (lv_at hl 1 rfl) ?_
      refine mg_0_14 (v := (γ 6)) hx hb hts hinX9 hown hK hP (hts (.fieldLink RX9 164 "CensusDeskModel" "houseAt" "I") (List.mem_of_getElem? (i := 4) rfl)) rfl dX9_endHouse_25 ?_
      refine lv_iconst (v := (-1)) hx hb dX9_endHouse_28 (by decide) ?_
      refine m_callv (va_runV (As := [.int 14, .int (γ 6), .int (-1)]) (rest := []) ⟨hx, hb, hml, hown, hts⟩ (c_X9_failHouse l dC dI a κ σ φ γ ψ 14 (γ 6) (-1) (show 1 ≤ (Int32.toInt 14) ∧ (Int32.toInt 14) ≤ 21 from (by have := L_14; omega)) (show (Int32.toInt (-1)) < (Int32.toInt (σ 10)) from (by have := L_m1; omega)) (show 0 ≤ (Int32.toInt (σ 10)) ∧ (Int32.toInt (σ 10)) ≤ 1999999990 from (by omega)) (show ∀ i : Nat, i < 300 → (i : Int) < (Int32.toInt (σ 10)) → Int32.toInt ((φ 6) i) < i from (by with_reducible assumption))) (cwV 3 hts gX9_endHouse_X9_failHouse rfl rfl rfl ⟨rfl, hd_X9_failHouse⟩ ⟨Nat.le_of_ble_eq_true rfl, Nat.le_of_ble_eq_true rfl⟩) (mPreV hP hK hI hN hS (va_recv hK hP (ci := 9) (q0 := 0) rfl rfl)) rfl rfl hl.1 rfl (lv_room (Nat.le_of_ble_eq_true rfl)) dX9_endHouse_29 ⟨(by decide +kernel), (by decide +kernel)⟩) hS ?_
      clear hP hS; intro S_21 F_21 γ_21 ψ_21 H locs hw hP hS
      obtain ⟨s10_21, f6_21, rfl, rfl, (qf_21 : (Int32.toInt (σ 10)) ≤ (Int32.toInt s10_21) ∧ (Int32.toInt s10_21) ≤ (Int32.toInt (σ 10)) + 2), (qc_21 : ∀ i : Nat, i < 300 → (i : Int) < (Int32.toInt s10_21) → Int32.toInt (f6_21 i) < i)⟩ := hw
      have hLm1_21 := L_m1
      have hL14_21 := L_14
      exact J32 z_18 s10_21 f6_21 γ_21 ψ_21 _ _ _ (show (Int32.toInt z_18) = (Int32.toInt (σ 8)) - (Int32.toInt (σ 4)) from (by omega)) (show (Int32.toInt (σ 10)) ≤ (Int32.toInt s10_21) ∧ (Int32.toInt s10_21) ≤ (Int32.toInt (σ 10)) + 2 from (by omega)) (show ∀ i : Nat, i < 300 → (i : Int) < (Int32.toInt s10_21) → Int32.toInt (f6_21 i) < i from (by with_reducible assumption)) hP hS (lv_sub hl [1, 0] rfl)
set_option maxHeartbeats 4000000 in
set_option maxRecDepth 100000 in
theorem c_X9_takenPersons (l : Launch) (dC : Nat → ClassId) (dI : Nat → Nat → Nat) (a : Nat → Nat) (κ : Nat → ClassId) (σ : Nat → Int32) (φ : Nat → Nat → Int32) (γ : Nat → Int32) (ψ : Nat → Nat → Int32)  (p_m_houseMany : PtR 0 2000 (φ 2)) (hh : 0 ≤ (Int32.toInt (σ 7)) ∧ (Int32.toInt (σ 7)) ≤ 2000) : Met l yX9_takenPersons wsX9_takenPersons ({ frames := 0, cells := 0, slots := 0, locals := 0 } : Room) (va_Pc [.ref (a 0)] (mPre dC dI a κ (σ, φ, γ, ψ))) (va_Qi (QI (fun r S F => σ = S ∧ φ = F ∧ ((Int32.toInt r) = zsum (φ 2) (Int32.toNatClampNeg (σ 7))) ∧ (0 ≤ (Int32.toInt r) ∧ (Int32.toInt r) ≤ 4000000))) (mB dC dI a κ) (mA a)) 0 0 (mA a) := by
  refine Met.ofW (cc := cX9_takenPersons) (maxL := 3) (ret := (some .int)) (by decide) rfl ?_
  intro p e s m args below meth c s₁ B hml hv
  obtain ⟨rfl, hP, hK, hI, hN⟩ := hv
  have hx := B.exec
  have hb := B.bytes
  have hr := B.returns
  have hts := atoms_spec (ws := wsX9_takenPersons) B.pre
  have hown : s.vm.findClass RX9 = some m.cls := findClass_of_methodNamed B.named
  have hlocks := B.notSynchronized
  have hS : va_S (mA a) s.heap s.heap [] := va_S.rf
  have hinX9 : ∀ w ∈ wsX90, w ∈ wsX9_takenPersons := fun _ h => List.mem_cons_of_mem _ (List.mem_append_right _ h)
  have hl := lv_entry ([.ref (a 0)]) (n := 3) (Nat.le_of_ble_eq_true rfl)
  rw [lg_entry_eq]
  generalize (lg_sl ([.ref (a 0)]) ++ List.replicate (3 - (lg_sl ([.ref (a 0)])).length) Slot.unset).toArray = ls at hl ⊢
  have hl : lv_has ls 3 [(0, .ref (a 0))] := hl
  refine k_gen (fun QQ eQ => ?_)
  have J4 : ∀ (n4 : Nat), ∀ (n : Int32) (h : Int32) (γ : Nat → Int32) (ψ : Nat → Nat → Int32) (H : Heap) (locs : List Loc) (ls : Array Slot), (0 ≤ (Int32.toInt h) ∧ (Int32.toInt h) ≤ (Int32.toInt (σ 7)) ∧ 0 ≤ (Int32.toInt n) ∧ (Int32.toInt n) ≤ 2000 * (Int32.toInt h)) → ((Int32.toInt n) = zsum (φ 2) (Int32.toNatClampNeg h)) → (((Int32.toInt (σ 7)) - (Int32.toInt h)).toNat < n4) → va_P (dC, dI) vwCl (mw a κ (σ, φ, γ, ψ)) H → va_S (mA a) s.heap H locs → lv_has ls 3 [(0, .ref (a 0)), (1, .int n), (2, .int h)] → W p l e ({ frames := 0, cells := 0, slots := 0, locals := 0 } : Room) s m ([.ref (a 0)] : List Value).toArray below meth c H locs 0 0 QQ (F0 m 4 ls []) := by
    intro n4
    induction n4 with
    | zero =>
      intro n h γ ψ H locs ls v0 vz hm
      exact absurd hm (Nat.not_lt_zero _)
    | succ n4 ih4 =>
      intro n h γ ψ H locs ls v0 vz hm hP hS hl
      refine lv_iload_n hx hb dX9_takenPersons_4 rfl (lv_at hl 2 rfl) ?_
      refine lv_aload_n hx hb dX9_takenPersons_5 rfl (lv_at hl 0 rfl) ?_
      refine mg_0_26 (v := (σ 7)) hx hb hts hinX9 hown hK hP (hts (.fieldLink RX9 234 "CensusDeskModel" "houses" "I") (List.mem_of_getElem? (i := 1) rfl)) rfl dX9_takenPersons_6 ?_
      refine lv_icmp_ge (tgt := 27) hx hb dX9_takenPersons_9 (by decide) (fun c_1 => ?_) (fun c_1 => ?_)
      · have kc_1 := bI_le rfl rfl c_1
        have eh : h = (σ 7) := Int32.toInt_inj.mp (by omega)
        have vz2 : Int32.toInt n = zsum (φ 2) (Int32.toNatClampNeg (σ 7)) := by rw [vz, eh]
        refine lv_iload_n hx hb dX9_takenPersons_27 rfl (lv_at hl 1 rfl) ?_
        subst eQ
        exact W.iret (v := n) hx hb hr (fun t ht hW => ⟨⟨n, (σ, φ, γ, ψ), rfl, ⟨rfl, rfl, (show (Int32.toInt n) = zsum (φ 2) (Int32.toNatClampNeg (σ 7)) from (by omega)), (show 0 ≤ (Int32.toInt n) ∧ (Int32.toInt n) ≤ 4000000 from (by omega))⟩, (by show va_P _ _ _ _; rw [ht]; exact hP)⟩, hS.F ht⟩) hS.2.2 dX9_takenPersons_28
      · have kc_1 := bI_nle rfl rfl c_1
        refine lv_iload_n hx hb dX9_takenPersons_12 rfl (lv_at hl 1 rfl) ?_
        refine lv_aload_n hx hb dX9_takenPersons_13 rfl (lv_at hl 0 rfl) ?_
        refine mg_0_25 hx hb hts hinX9 hown hK hP (hts (.fieldLink RX9 29 "CensusDeskModel" "houseMany" "[I") (List.mem_of_getElem? (i := 2) rfl)) dX9_takenPersons_14 ?_
        refine lv_iload_n hx hb dX9_takenPersons_17 rfl (lv_at hl 2 rfl) ?_
        refine ml_7 (f := (φ 2)) hx hb hK hP (i := h) (vin rfl (by omega)) rfl dX9_takenPersons_18 ?_
        refine lv_topi (fun z_2 ez_2 => ?_)
        have tz_2 : (Int32.toInt z_2) = Int32.toInt ((φ 2) (Int32.toNatClampNeg h)) := congrArg Int32.toInt ez_2
        have pz_2 : 0 ≤ (Int32.toInt z_2) ∧ (Int32.toInt z_2) ≤ 2000 := p_m_houseMany.of ez_2
        refine lv_iadd hx hb dX9_takenPersons_19 ?_
        refine lv_topi (fun z_3 ez_3 => ?_)
        have tz_3 : (Int32.toInt z_3) = (Int32.toInt n) + (Int32.toInt z_2) := aI_add rfl rfl ez_3 (by have := rng n; have := rng z_2; omega)
        refine lv_istore_n (lv' := [(1, .int z_3), (0, .ref (a 0)), (2, .int h)]) hx hb dX9_takenPersons_20 rfl hl (by decide) rfl ?_
        clear hl; intro ls hl
        obtain ⟨i_4, ei_4⟩ : ∃ z : Int32, z = h + 1 := ⟨_, rfl⟩
        refine lv_iinc (v := i_4) (lv' := [(2, .int i_4), (1, .int z_3), (0, .ref (a 0))]) hx hb dX9_takenPersons_21 hl (k := 2) rfl (by rw [ei_4]; rfl) (by decide) rfl ?_
        clear hl; intro ls hl
        have ti_4 : (Int32.toInt i_4) = (Int32.toInt h) + 1 := aI_add rfl L_1 ei_4 (by have := rng h; have := rng (σ 7); omega)
        have hz : zsum (φ 2) (Int32.toNatClampNeg i_4) = zsum (φ 2) (Int32.toNatClampNeg h) + Int32.toInt ((φ 2) (Int32.toNatClampNeg h)) := by rw [tn_succ (x := h) (by omega) ti_4, zsum]
        refine lv_goto (tgt := 4) hx hb dX9_takenPersons_24 (by decide) ?_
        exact ih4 z_3 i_4 γ ψ _ _ _ (show 0 ≤ (Int32.toInt i_4) ∧ (Int32.toInt i_4) ≤ (Int32.toInt (σ 7)) ∧ 0 ≤ (Int32.toInt z_3) ∧ (Int32.toInt z_3) ≤ 2000 * (Int32.toInt i_4) from (by omega)) (show (Int32.toInt z_3) = zsum (φ 2) (Int32.toNatClampNeg i_4) from (by omega)) (by omega) hP hS (lv_sub hl [2, 1, 0] rfl)
  refine lv_iconst (v := 0) hx hb dX9_takenPersons_0 (by decide) ?_
  refine lv_istore_n (lv' := [(1, .int 0), (0, .ref (a 0))]) hx hb dX9_takenPersons_1 rfl hl (by decide) rfl ?_
  clear hl; intro ls hl
  refine lv_iconst (v := 0) hx hb dX9_takenPersons_2 (by decide) ?_
  refine lv_istore_n (lv' := [(2, .int 0), (1, .int 0), (0, .ref (a 0))]) hx hb dX9_takenPersons_3 rfl hl (by decide) rfl ?_
  clear hl; intro ls hl
  exact J4 (_ + 1) 0 0 γ ψ _ _ _ (show 0 ≤ (Int32.toInt 0) ∧ (Int32.toInt 0) ≤ (Int32.toInt (σ 7)) ∧ 0 ≤ (Int32.toInt 0) ∧ (Int32.toInt 0) ≤ 2000 * (Int32.toInt 0) from (by have := L_0; omega)) (show (Int32.toInt 0) = zsum (φ 2) (Int32.toNatClampNeg 0) from rfl) (Nat.lt_succ_self _) hP hS (lv_sub hl [2, 1, 0] rfl)
set_option maxHeartbeats 4000000 in
set_option maxRecDepth 100000 in
theorem c_X9_book (l : Launch) (dC : Nat → ClassId) (dI : Nat → Nat → Nat) (a : Nat → Nat) (κ : Nat → ClassId) (σ : Nat → Int32) (φ : Nat → Nat → Int32) (γ : Nat → Int32) (ψ : Nat → Nat → Int32)  (p_m_sex : PtR (-1) 1 (φ 3)) (p_m_nameAt : PtR 0 4000 (φ 4)) (p_m_nameSize : PtR 0 30 (φ 5)) (p_m_houseFirst : PtR 0 2000 (φ 1)) (p_m_houseMany : PtR 0 2000 (φ 2)) (p_m_bMany : PtR 0 2000 (φ 8)) (p_m_bSex : PtR (-1) 1 (φ 9)) (p_m_bSize : PtR 0 30 (φ 11)) (hh : 0 ≤ (Int32.toInt (σ 7)) ∧ (Int32.toInt (σ 7)) ≤ 2000) (hb : 0 ≤ (Int32.toInt (σ 13)) ∧ (Int32.toInt (σ 13)) ≤ 60 ∧ 0 ≤ (Int32.toInt (σ 14)) ∧ (Int32.toInt (σ 14)) ≤ 300) (hms : (Int32.toInt (σ 14)) = zsum (φ 8) (Int32.toNatClampNeg (σ 13))) (hNA : ∀ i : Nat, Int32.toInt ((φ 4) i) + Int32.toInt ((φ 5) i) ≤ 4000) (hHS : ∀ i : Nat, Int32.toInt ((φ 1) i) + Int32.toInt ((φ 2) i) ≤ 2000) : Met l yX9_book wsX9_book ({ frames := 1, cells := 0, slots := 0, locals := 22 } : Room) (va_Pc [.ref (a 0)] (mPre dC dI a κ (σ, φ, γ, ψ))) (va_Qi (QI (fun r S F => ∃ (s13 : Int32) (s14 : Int32) (f8 : Nat → Int32) (f9 : Nat → Int32) (f10 : Nat → Int32) (f11 : Nat → Int32) (s16 : Int32) (s18 : Int32), (up (up (up (up σ 13 s13) 14 s14) 16 s16) 18 s18) = S ∧ (up (up (up (up φ 8 f8) 9 f9) 10 f10) 11 f11) = F ∧ PtR 0 2000 f8 ∧ PtR (-1) 1 f9 ∧ PtR 0 30 f11 ∧ (0 ≤ (Int32.toInt s13) ∧ (Int32.toInt s13) ≤ 60 ∧ 0 ≤ (Int32.toInt s14) ∧ (Int32.toInt s14) ≤ 300) ∧ ((Int32.toInt s14) = zsum f8 (Int32.toNatClampNeg s13)) ∧ ((r = 3 ∧ s16 = (σ 16) ∧ s18 = (σ 18) + 1) ∨ (r = 0 ∧ s16 = (σ 16) + 1 ∧ s18 = (σ 18))))) (mB dC dI a κ) (mA a)) 0 0 (mA a) := by
  refine Met.ofW (cc := cX9_book) (maxL := 4) (ret := (some .int)) (by decide) rfl ?_
  intro p e s m args below meth c s₁ B hml hv
  obtain ⟨rfl, hP, hK, hI, hN⟩ := hv
  have hx := B.exec
  have hb := B.bytes
  have hr := B.returns
  have hts := atoms_spec (ws := wsX9_book) B.pre
  have hown : s.vm.findClass RX9 = some m.cls := findClass_of_methodNamed B.named
  have hlocks := B.notSynchronized
  have hS : va_S (mA a) s.heap s.heap [] := va_S.rf
  have hinX9 : ∀ w ∈ wsX90, w ∈ wsX9_book := fun _ h => List.mem_cons_of_mem _ (List.mem_append_right _ h)
  have hl := lv_entry ([.ref (a 0)]) (n := 4) (Nat.le_of_ble_eq_true rfl)
  rw [lg_entry_eq]
  generalize (lg_sl ([.ref (a 0)]) ++ List.replicate (4 - (lg_sl ([.ref (a 0)])).length) Slot.unset).toArray = ls at hl ⊢
  have hl : lv_has ls 4 [(0, .ref (a 0))] := hl
  refine k_gen (fun QQ eQ => ?_)
  have J43 : ∀ (n43 : Nat), ∀ (h : Int32) (s13_c43 : Int32) (s14_c43 : Int32) (f8_c43 : Nat → Int32) (f9_c43 : Nat → Int32) (f10_c43 : Nat → Int32) (f11_c43 : Nat → Int32) (γ : Nat → Int32) (ψ : Nat → Nat → Int32) (H : Heap) (locs : List Loc) (ls : Array Slot), (PtR 0 2000 f8_c43) → (PtR (-1) 1 f9_c43) → (PtR 0 30 f11_c43) → (0 ≤ (Int32.toInt h) ∧ (Int32.toInt h) ≤ (Int32.toInt (σ 7)) ∧ (Int32.toInt s13_c43) = (Int32.toInt (σ 13)) + (Int32.toInt h) ∧ (Int32.toInt s14_c43) = (Int32.toInt (σ 14)) + zsum (φ 2) (Int32.toNatClampNeg h)) → ((Int32.toInt s14_c43) = zsum f8_c43 (Int32.toNatClampNeg s13_c43)) → ((Int32.toInt (σ 13)) + (Int32.toInt (σ 7)) ≤ 60 ∧ (Int32.toInt (σ 14)) + zsum (φ 2) (Int32.toNatClampNeg (σ 7)) ≤ 300) → (((Int32.toInt (σ 7)) - (Int32.toInt h)).toNat < n43) → va_P (dC, dI) vwCl (mw a κ ((up (up σ 13 s13_c43) 14 s14_c43), (up (up (up (up φ 8 f8_c43) 9 f9_c43) 10 f10_c43) 11 f11_c43), γ, ψ)) H → va_S (mA a) s.heap H locs → lv_has ls 4 [(0, .ref (a 0)), (1, .int h)] → W p l e ({ frames := 1, cells := 0, slots := 0, locals := 22 } : Room) s m ([.ref (a 0)] : List Value).toArray below meth c H locs 0 0 QQ (F0 m 43 ls []) := by
    intro n43
    induction n43 with
    | zero =>
      intro h s13_c43 s14_c43 f8_c43 f9_c43 f10_c43 f11_c43 γ ψ H locs ls pf8_c43 pf9_c43 pf11_c43 v0 vm vl hm
      exact absurd hm (Nat.not_lt_zero _)
    | succ n43 ih43 =>
      intro h s13_c43 s14_c43 f8_c43 f9_c43 f10_c43 f11_c43 γ ψ H locs ls pf8_c43 pf9_c43 pf11_c43 v0 vm vl hm hP hS hl
      have J131 : ∀ (n131 : Nat), ∀ (h : Int32) (q : Int32) (s13_c131 : Int32) (s14_c131 : Int32) (f8_c131 : Nat → Int32) (f9_c131 : Nat → Int32) (f10_c131 : Nat → Int32) (f11_c131 : Nat → Int32) (γ : Nat → Int32) (ψ : Nat → Nat → Int32) (H : Heap) (locs : List Loc) (ls : Array Slot), (PtR 0 2000 f8_c131) → (PtR (-1) 1 f9_c131) → (PtR 0 30 f11_c131) → (0 ≤ (Int32.toInt h) ∧ (Int32.toInt h) < (Int32.toInt (σ 7)) ∧ (Int32.toInt s13_c131) = (Int32.toInt (σ 13)) + (Int32.toInt h) ∧ Int32.toInt ((φ 1) (Int32.toNatClampNeg h)) ≤ (Int32.toInt q) ∧ (Int32.toInt q) ≤ Int32.toInt ((φ 1) (Int32.toNatClampNeg h)) + Int32.toInt ((φ 2) (Int32.toNatClampNeg h)) ∧ Int32.toInt (f8_c131 (Int32.toNatClampNeg s13_c131)) = Int32.toInt ((φ 2) (Int32.toNatClampNeg h)) ∧ (Int32.toInt s14_c131) = (Int32.toInt (σ 14)) + zsum (φ 2) (Int32.toNatClampNeg h) + ((Int32.toInt q) - Int32.toInt ((φ 1) (Int32.toNatClampNeg h))) ∧ (Int32.toInt s14_c131) = zsum f8_c131 (Int32.toNatClampNeg s13_c131) + ((Int32.toInt q) - Int32.toInt ((φ 1) (Int32.toNatClampNeg h)))) → ((Int32.toInt (σ 13)) + (Int32.toInt (σ 7)) ≤ 60 ∧ (Int32.toInt (σ 14)) + zsum (φ 2) (Int32.toNatClampNeg (σ 7)) ≤ 300) → (((Int32.toInt (σ 7)) - (Int32.toInt h)).toNat < n43 + 1) → ((2000 - (Int32.toInt q)).toNat < n131) → va_P (dC, dI) vwCl (mw a κ ((up (up σ 13 s13_c131) 14 s14_c131), (up (up (up (up φ 8 f8_c131) 9 f9_c131) 10 f10_c131) 11 f11_c131), γ, ψ)) H → va_S (mA a) s.heap H locs → lv_has ls 4 [(0, .ref (a 0)), (1, .int h), (2, .int q)] → W p l e ({ frames := 1, cells := 0, slots := 0, locals := 22 } : Room) s m ([.ref (a 0)] : List Value).toArray below meth c H locs 0 0 QQ (F0 m 131 ls []) := by
        intro n131
        induction n131 with
        | zero =>
          intro h q s13_c131 s14_c131 f8_c131 f9_c131 f10_c131 f11_c131 γ ψ H locs ls pf8_c131 pf9_c131 pf11_c131 v0 vl vn hm
          exact absurd hm (Nat.not_lt_zero _)
        | succ n131 ih131 =>
          intro h q s13_c131 s14_c131 f8_c131 f9_c131 f10_c131 f11_c131 γ ψ H locs ls pf8_c131 pf9_c131 pf11_c131 v0 vl vn hm hP hS hl
          have J223 : ∀ (n223 : Nat), ∀ (h : Int32) (q : Int32) (k : Int32) (s13_c223 : Int32) (s14_c223 : Int32) (f8_c223 : Nat → Int32) (f9_c223 : Nat → Int32) (f10_c223 : Nat → Int32) (f11_c223 : Nat → Int32) (γ : Nat → Int32) (ψ : Nat → Nat → Int32) (H : Heap) (locs : List Loc) (ls : Array Slot), (PtR 0 2000 f8_c223) → (PtR (-1) 1 f9_c223) → (PtR 0 30 f11_c223) → (0 ≤ (Int32.toInt h) ∧ (Int32.toInt h) < (Int32.toInt (σ 7)) ∧ (Int32.toInt s13_c223) = (Int32.toInt (σ 13)) + (Int32.toInt h) ∧ Int32.toInt ((φ 1) (Int32.toNatClampNeg h)) ≤ (Int32.toInt q) ∧ (Int32.toInt q) ≤ Int32.toInt ((φ 1) (Int32.toNatClampNeg h)) + Int32.toInt ((φ 2) (Int32.toNatClampNeg h)) ∧ Int32.toInt (f8_c223 (Int32.toNatClampNeg s13_c223)) = Int32.toInt ((φ 2) (Int32.toNatClampNeg h)) ∧ (Int32.toInt s14_c223) = (Int32.toInt (σ 14)) + zsum (φ 2) (Int32.toNatClampNeg h) + ((Int32.toInt q) - Int32.toInt ((φ 1) (Int32.toNatClampNeg h))) ∧ (Int32.toInt s14_c223) = zsum f8_c223 (Int32.toNatClampNeg s13_c223) + ((Int32.toInt q) - Int32.toInt ((φ 1) (Int32.toNatClampNeg h)))) → ((Int32.toInt q) < Int32.toInt ((φ 1) (Int32.toNatClampNeg h)) + Int32.toInt ((φ 2) (Int32.toNatClampNeg h))) → ((Int32.toInt (σ 13)) + (Int32.toInt (σ 7)) ≤ 60 ∧ (Int32.toInt (σ 14)) + zsum (φ 2) (Int32.toNatClampNeg (σ 7)) ≤ 300) → (0 ≤ (Int32.toInt k)) → (((Int32.toInt (σ 7)) - (Int32.toInt h)).toNat < n43 + 1 ∧ (2000 - (Int32.toInt q)).toNat < n131 + 1) → ((30 - (Int32.toInt k)).toNat < n223) → va_P (dC, dI) vwCl (mw a κ ((up (up σ 13 s13_c223) 14 s14_c223), (up (up (up (up φ 8 f8_c223) 9 f9_c223) 10 f10_c223) 11 f11_c223), γ, ψ)) H → va_S (mA a) s.heap H locs → lv_has ls 4 [(0, .ref (a 0)), (1, .int h), (2, .int q), (3, .int k)] → W p l e ({ frames := 1, cells := 0, slots := 0, locals := 22 } : Room) s m ([.ref (a 0)] : List Value).toArray below meth c H locs 0 0 QQ (F0 m 223 ls []) := by
            intro n223
            induction n223 with
            | zero =>
              intro h q k s13_c223 s14_c223 f8_c223 f9_c223 f10_c223 f11_c223 γ ψ H locs ls pf8_c223 pf9_c223 pf11_c223 v0 vq vl v1 vn hm
              exact absurd hm (Nat.not_lt_zero _)
            | succ n223 ih223 =>
              intro h q k s13_c223 s14_c223 f8_c223 f9_c223 f10_c223 f11_c223 γ ψ H locs ls pf8_c223 pf9_c223 pf11_c223 v0 vq vl v1 vn hm hP hS hl
              have hs1 := hHS (Int32.toNatClampNeg h)
              have hs2 := p_m_houseFirst (Int32.toNatClampNeg h)
              have hs3 := p_m_houseMany (Int32.toNatClampNeg h)
              have hz1 := zsum_next p_m_houseMany (by decide) (m := Int32.toNatClampNeg h) (n := Int32.toNatClampNeg (σ 7)) (by have := tn_eq (x := h) (by omega); have := tn_eq (x := (σ 7)) (by omega); omega)
              have hz2 := zsum_nn p_m_houseMany (by decide) (Int32.toNatClampNeg h)
              refine lv_iload_n hx hb dX9_book_223 rfl (lv_at hl 3 rfl) ?_
              refine lv_aload_n hx hb dX9_book_224 rfl (lv_at hl 0 rfl) ?_
              refine mg_0_31 hx hb hts hinX9 hown hK hP (hts (.fieldLink RX9 44 "CensusDeskModel" "nameSize" "[I") (List.mem_of_getElem? (i := 22) rfl)) dX9_book_225 ?_
              refine lv_iload_n hx hb dX9_book_228 rfl (lv_at hl 2 rfl) ?_
              refine ml_12 (f := (φ 5)) hx hb hK hP (i := q) (vin rfl (by omega)) rfl dX9_book_229 ?_
              refine lv_topi (fun z_1 ez_1 => ?_)
              have tz_1 : (Int32.toInt z_1) = Int32.toInt ((φ 5) (Int32.toNatClampNeg q)) := congrArg Int32.toInt ez_1
              have pz_1 : 0 ≤ (Int32.toInt z_1) ∧ (Int32.toInt z_1) ≤ 30 := p_m_nameSize.of ez_1
              refine lv_icmp_ge (tgt := 266) hx hb dX9_book_230 (by decide) (fun c_2 => ?_) (fun c_2 => ?_)
              · have kc_2 := bI_le rfl rfl c_2
                refine lv_aload_n hx hb dX9_book_266 rfl (lv_at hl 0 rfl) ?_
                refine lv_dup hx hb dX9_book_267 rfl ?_
                refine mg_0_65 (v := s14_c223) hx hb hts hinX9 hown hK hP (hts (.fieldLink RX9 298 "CensusDeskModel" "bookedPersons" "I") (List.mem_of_getElem? (i := 3) rfl)) rfl dX9_book_268 ?_
                refine lv_iconst (v := 1) hx hb dX9_book_271 (by decide) ?_
                refine lv_iadd hx hb dX9_book_272 ?_
                refine lv_topi (fun z_3 ez_3 => ?_)
                have tz_3 : (Int32.toInt z_3) = (Int32.toInt s14_c223) + 1 := aI_add rfl L_1 ez_3 (by have := rng s14_c223; omega)
                refine mp_0_65 (v := z_3) hx hb hts hinX9 hown hK hP hI hS (hts (.fieldLink RX9 298 "CensusDeskModel" "bookedPersons" "I") (List.mem_of_getElem? (i := 3) rfl)) dX9_book_273 ?_
                clear hP hS; intro H locs hP hS
                obtain ⟨i_4, ei_4⟩ : ∃ z : Int32, z = q + 1 := ⟨_, rfl⟩
                refine lv_iinc (v := i_4) (lv' := [(2, .int i_4), (0, .ref (a 0)), (1, .int h), (3, .int k)]) hx hb dX9_book_276 hl (k := 2) rfl (by rw [ei_4]; rfl) (by decide) rfl ?_
                clear hl; intro ls hl
                have ti_4 : (Int32.toInt i_4) = (Int32.toInt q) + 1 := aI_add rfl L_1 ei_4 (by have := rng q; omega)
                refine lv_goto (tgt := 131) hx hb dX9_book_279 (by decide) ?_
                exact ih131 h i_4 s13_c223 z_3 f8_c223 f9_c223 f10_c223 f11_c223 γ ψ _ _ _ pf8_c223 pf9_c223 pf11_c223 (show 0 ≤ (Int32.toInt h) ∧ (Int32.toInt h) < (Int32.toInt (σ 7)) ∧ (Int32.toInt s13_c223) = (Int32.toInt (σ 13)) + (Int32.toInt h) ∧ Int32.toInt ((φ 1) (Int32.toNatClampNeg h)) ≤ (Int32.toInt i_4) ∧ (Int32.toInt i_4) ≤ Int32.toInt ((φ 1) (Int32.toNatClampNeg h)) + Int32.toInt ((φ 2) (Int32.toNatClampNeg h)) ∧ Int32.toInt (f8_c223 (Int32.toNatClampNeg s13_c223)) = Int32.toInt ((φ 2) (Int32.toNatClampNeg h)) ∧ (Int32.toInt z_3) = (Int32.toInt (σ 14)) + zsum (φ 2) (Int32.toNatClampNeg h) + ((Int32.toInt i_4) - Int32.toInt ((φ 1) (Int32.toNatClampNeg h))) ∧ (Int32.toInt z_3) = zsum f8_c223 (Int32.toNatClampNeg s13_c223) + ((Int32.toInt i_4) - Int32.toInt ((φ 1) (Int32.toNatClampNeg h))) from (by omega)) (show (Int32.toInt (σ 13)) + (Int32.toInt (σ 7)) ≤ 60 ∧ (Int32.toInt (σ 14)) + zsum (φ 2) (Int32.toNatClampNeg (σ 7)) ≤ 300 from (by omega)) (show ((Int32.toInt (σ 7)) - (Int32.toInt h)).toNat < n43 + 1 from (by omega)) (by omega) hP hS (lv_sub hl [1, 2, 0] rfl)
              · have kc_2 := bI_nle rfl rfl c_2
                have hna := hNA (Int32.toNatClampNeg q)
                refine lv_aload_n hx hb dX9_book_233 rfl (lv_at hl 0 rfl) ?_
                refine mg_0_64 hx hb hts hinX9 hown hK hP (hts (.fieldLink RX9 113 "CensusDeskModel" "bName" "[B") (List.mem_of_getElem? (i := 24) rfl)) dX9_book_234 ?_
                refine lv_bipush (v := 30) hx hb dX9_book_237 (by decide) ?_
                refine lv_aload_n hx hb dX9_book_239 rfl (lv_at hl 0 rfl) ?_
                refine mg_0_65 (v := s14_c223) hx hb hts hinX9 hown hK hP (hts (.fieldLink RX9 298 "CensusDeskModel" "bookedPersons" "I") (List.mem_of_getElem? (i := 3) rfl)) rfl dX9_book_240 ?_
                refine lv_imul hx hb dX9_book_243 ?_
                refine lv_topi (fun z_5 ez_5 => ?_)
                have tz_5 : (Int32.toInt z_5) = 30 * (Int32.toInt s14_c223) := aI_mul L_30 rfl ez_5 (by have := rng s14_c223; omega)
                refine lv_iload_n hx hb dX9_book_244 rfl (lv_at hl 3 rfl) ?_
                refine lv_iadd hx hb dX9_book_245 ?_
                refine lv_topi (fun z_6 ez_6 => ?_)
                have tz_6 : (Int32.toInt z_6) = (Int32.toInt z_5) + (Int32.toInt k) := aI_add rfl rfl ez_6 (by have := rng z_5; have := rng k; omega)
                refine lv_aload_n hx hb dX9_book_246 rfl (lv_at hl 0 rfl) ?_
                refine mg_0_33 hx hb hts hinX9 hown hK hP (hts (.fieldLink RX9 47 "CensusDeskModel" "names" "[B") (List.mem_of_getElem? (i := 25) rfl)) dX9_book_247 ?_
                refine lv_aload_n hx hb dX9_book_250 rfl (lv_at hl 0 rfl) ?_
                refine mg_0_30 hx hb hts hinX9 hown hK hP (hts (.fieldLink RX9 41 "CensusDeskModel" "nameAt" "[I") (List.mem_of_getElem? (i := 26) rfl)) dX9_book_251 ?_
                refine lv_iload_n hx hb dX9_book_254 rfl (lv_at hl 2 rfl) ?_
                refine ml_11 (f := (φ 4)) hx hb hK hP (i := q) (vin rfl (by omega)) rfl dX9_book_255 ?_
                refine lv_topi (fun z_7 ez_7 => ?_)
                have tz_7 : (Int32.toInt z_7) = Int32.toInt ((φ 4) (Int32.toNatClampNeg q)) := congrArg Int32.toInt ez_7
                have pz_7 : 0 ≤ (Int32.toInt z_7) ∧ (Int32.toInt z_7) ≤ 4000 := p_m_nameAt.of ez_7
                refine lv_iload_n hx hb dX9_book_256 rfl (lv_at hl 3 rfl) ?_
                refine lv_iadd hx hb dX9_book_257 ?_
                refine lv_topi (fun z_8 ez_8 => ?_)
                have tz_8 : (Int32.toInt z_8) = (Int32.toInt z_7) + (Int32.toInt k) := aI_add rfl rfl ez_8 (by have := rng z_7; have := rng k; omega)
                refine ml_13 (f := (ψ 6)) hx hb hK hP (i := z_8) (vin rfl (by omega)) rfl dX9_book_258 ?_
                refine lv_topi (fun z_9 ez_9 => ?_)
                refine ms_35 (f := (ψ 22)) hx hb hK hP hI hS (i := z_6) (x := z_9) (vin rfl (by omega)) rfl dX9_book_259 ?_
                clear hP hS; intro H locs hP hS
                obtain ⟨f_10, ef_10⟩ : ∃ z : Nat → Int32, z = upd (ψ 22) (Int32.toNatClampNeg z_6) (vp_nar .byte z_9) := ⟨_, rfl⟩
                rw [← ef_10] at hP
                obtain ⟨i_11, ei_11⟩ : ∃ z : Int32, z = k + 1 := ⟨_, rfl⟩
                refine lv_iinc (v := i_11) (lv' := [(3, .int i_11), (0, .ref (a 0)), (1, .int h), (2, .int q)]) hx hb dX9_book_260 hl (k := 3) rfl (by rw [ei_11]; rfl) (by decide) rfl ?_
                clear hl; intro ls hl
                have ti_11 : (Int32.toInt i_11) = (Int32.toInt k) + 1 := aI_add rfl L_1 ei_11 (by have := rng k; have := rng z_1; omega)
                refine lv_goto (tgt := 223) hx hb dX9_book_263 (by decide) ?_
                exact ih223 h q i_11 s13_c223 s14_c223 f8_c223 f9_c223 f10_c223 f11_c223 γ (up ψ 22 f_10) _ _ _ pf8_c223 pf9_c223 pf11_c223 (show 0 ≤ (Int32.toInt h) ∧ (Int32.toInt h) < (Int32.toInt (σ 7)) ∧ (Int32.toInt s13_c223) = (Int32.toInt (σ 13)) + (Int32.toInt h) ∧ Int32.toInt ((φ 1) (Int32.toNatClampNeg h)) ≤ (Int32.toInt q) ∧ (Int32.toInt q) ≤ Int32.toInt ((φ 1) (Int32.toNatClampNeg h)) + Int32.toInt ((φ 2) (Int32.toNatClampNeg h)) ∧ Int32.toInt (f8_c223 (Int32.toNatClampNeg s13_c223)) = Int32.toInt ((φ 2) (Int32.toNatClampNeg h)) ∧ (Int32.toInt s14_c223) = (Int32.toInt (σ 14)) + zsum (φ 2) (Int32.toNatClampNeg h) + ((Int32.toInt q) - Int32.toInt ((φ 1) (Int32.toNatClampNeg h))) ∧ (Int32.toInt s14_c223) = zsum f8_c223 (Int32.toNatClampNeg s13_c223) + ((Int32.toInt q) - Int32.toInt ((φ 1) (Int32.toNatClampNeg h))) from (by omega)) (show (Int32.toInt q) < Int32.toInt ((φ 1) (Int32.toNatClampNeg h)) + Int32.toInt ((φ 2) (Int32.toNatClampNeg h)) from (by omega)) (show (Int32.toInt (σ 13)) + (Int32.toInt (σ 7)) ≤ 60 ∧ (Int32.toInt (σ 14)) + zsum (φ 2) (Int32.toNatClampNeg (σ 7)) ≤ 300 from (by omega)) (show 0 ≤ (Int32.toInt i_11) from (by omega)) (show ((Int32.toInt (σ 7)) - (Int32.toInt h)).toNat < n43 + 1 ∧ (2000 - (Int32.toInt q)).toNat < n131 + 1 from (by omega)) (by omega) hP hS (lv_sub hl [1, 2, 3, 0] rfl)
          have hs1 := hHS (Int32.toNatClampNeg h)
          have hs2 := p_m_houseFirst (Int32.toNatClampNeg h)
          have hs3 := p_m_houseMany (Int32.toNatClampNeg h)
          have hz1 := zsum_next p_m_houseMany (by decide) (m := Int32.toNatClampNeg h) (n := Int32.toNatClampNeg (σ 7)) (by have := tn_eq (x := h) (by omega); have := tn_eq (x := (σ 7)) (by omega); omega)
          have hz2 := zsum_nn p_m_houseMany (by decide) (Int32.toNatClampNeg h)
          refine lv_iload_n hx hb dX9_book_131 rfl (lv_at hl 2 rfl) ?_
          refine lv_aload_n hx hb dX9_book_132 rfl (lv_at hl 0 rfl) ?_
          refine mg_0_24 hx hb hts hinX9 hown hK hP (hts (.fieldLink RX9 26 "CensusDeskModel" "houseFirst" "[I") (List.mem_of_getElem? (i := 14) rfl)) dX9_book_133 ?_
          refine lv_iload_n hx hb dX9_book_136 rfl (lv_at hl 1 rfl) ?_
          refine ml_6 (f := (φ 1)) hx hb hK hP (i := h) (vin rfl (by omega)) rfl dX9_book_137 ?_
          refine lv_topi (fun z_12 ez_12 => ?_)
          have tz_12 : (Int32.toInt z_12) = Int32.toInt ((φ 1) (Int32.toNatClampNeg h)) := congrArg Int32.toInt ez_12
          have pz_12 : 0 ≤ (Int32.toInt z_12) ∧ (Int32.toInt z_12) ≤ 2000 := p_m_houseFirst.of ez_12
          refine lv_aload_n hx hb dX9_book_138 rfl (lv_at hl 0 rfl) ?_
          refine mg_0_25 hx hb hts hinX9 hown hK hP (hts (.fieldLink RX9 29 "CensusDeskModel" "houseMany" "[I") (List.mem_of_getElem? (i := 10) rfl)) dX9_book_139 ?_
          refine lv_iload_n hx hb dX9_book_142 rfl (lv_at hl 1 rfl) ?_
          refine ml_7 (f := (φ 2)) hx hb hK hP (i := h) (vin rfl (by omega)) rfl dX9_book_143 ?_
          refine lv_topi (fun z_13 ez_13 => ?_)
          have tz_13 : (Int32.toInt z_13) = Int32.toInt ((φ 2) (Int32.toNatClampNeg h)) := congrArg Int32.toInt ez_13
          have pz_13 : 0 ≤ (Int32.toInt z_13) ∧ (Int32.toInt z_13) ≤ 2000 := p_m_houseMany.of ez_13
          refine lv_iadd hx hb dX9_book_144 ?_
          refine lv_topi (fun z_14 ez_14 => ?_)
          have tz_14 : (Int32.toInt z_14) = (Int32.toInt z_12) + (Int32.toInt z_13) := aI_add rfl rfl ez_14 (by have := rng z_12; have := rng z_13; omega)
          refine lv_icmp_ge (tgt := 282) hx hb dX9_book_145 (by decide) (fun c_15 => ?_) (fun c_15 => ?_)
          · have kc_15 := bI_le rfl rfl c_15
            refine lv_aload_n hx hb dX9_book_282 rfl (lv_at hl 0 rfl) ?_
            refine lv_dup hx hb dX9_book_283 rfl ?_
            refine mg_0_58 (v := s13_c131) hx hb hts hinX9 hown hK hP (hts (.fieldLink RX9 295 "CensusDeskModel" "booked" "I") (List.mem_of_getElem? (i := 1) rfl)) rfl dX9_book_284 ?_
            refine lv_iconst (v := 1) hx hb dX9_book_287 (by decide) ?_
            refine lv_iadd hx hb dX9_book_288 ?_
            refine lv_topi (fun z_16 ez_16 => ?_)
            have tz_16 : (Int32.toInt z_16) = (Int32.toInt s13_c131) + 1 := aI_add rfl L_1 ez_16 (by have := rng s13_c131; omega)
            refine mp_0_58 (v := z_16) hx hb hts hinX9 hown hK hP hI hS (hts (.fieldLink RX9 295 "CensusDeskModel" "booked" "I") (List.mem_of_getElem? (i := 1) rfl)) dX9_book_289 ?_
            clear hP hS; intro H locs hP hS
            have hzc : zsum f8_c131 (Int32.toNatClampNeg z_16) = zsum f8_c131 (Int32.toNatClampNeg s13_c131) + Int32.toInt (f8_c131 (Int32.toNatClampNeg s13_c131)) := by rw [tn_succ (x := s13_c131) (by omega) tz_16, zsum]
            obtain ⟨i_17, ei_17⟩ : ∃ z : Int32, z = h + 1 := ⟨_, rfl⟩
            refine lv_iinc (v := i_17) (lv' := [(1, .int i_17), (0, .ref (a 0)), (2, .int q)]) hx hb dX9_book_292 hl (k := 1) rfl (by rw [ei_17]; rfl) (by decide) rfl ?_
            clear hl; intro ls hl
            have ti_17 : (Int32.toInt i_17) = (Int32.toInt h) + 1 := aI_add rfl L_1 ei_17 (by have := rng h; omega)
            have hzd : zsum (φ 2) (Int32.toNatClampNeg i_17) = zsum (φ 2) (Int32.toNatClampNeg h) + Int32.toInt ((φ 2) (Int32.toNatClampNeg h)) := by rw [tn_succ (x := h) (by omega) ti_17, zsum]
            refine lv_goto (tgt := 43) hx hb dX9_book_295 (by decide) ?_
            exact ih43 i_17 z_16 s14_c131 f8_c131 f9_c131 f10_c131 f11_c131 γ ψ _ _ _ pf8_c131 pf9_c131 pf11_c131 (show 0 ≤ (Int32.toInt i_17) ∧ (Int32.toInt i_17) ≤ (Int32.toInt (σ 7)) ∧ (Int32.toInt z_16) = (Int32.toInt (σ 13)) + (Int32.toInt i_17) ∧ (Int32.toInt s14_c131) = (Int32.toInt (σ 14)) + zsum (φ 2) (Int32.toNatClampNeg i_17) from (by omega)) (show (Int32.toInt s14_c131) = zsum f8_c131 (Int32.toNatClampNeg z_16) from (by omega)) (show (Int32.toInt (σ 13)) + (Int32.toInt (σ 7)) ≤ 60 ∧ (Int32.toInt (σ 14)) + zsum (φ 2) (Int32.toNatClampNeg (σ 7)) ≤ 300 from (by omega)) (by omega) hP hS (lv_sub hl [1, 0] rfl)
          · have kc_15 := bI_nle rfl rfl c_15
            refine lv_aload_n hx hb dX9_book_148 rfl (lv_at hl 0 rfl) ?_
            refine mg_0_59 hx hb hts hinX9 hown hK hP (hts (.fieldLink RX9 98 "CensusDeskModel" "bSex" "[I") (List.mem_of_getElem? (i := 15) rfl)) dX9_book_149 ?_
            refine lv_aload_n hx hb dX9_book_152 rfl (lv_at hl 0 rfl) ?_
            refine mg_0_65 (v := s14_c131) hx hb hts hinX9 hown hK hP (hts (.fieldLink RX9 298 "CensusDeskModel" "bookedPersons" "I") (List.mem_of_getElem? (i := 3) rfl)) rfl dX9_book_153 ?_
            refine lv_aload_n hx hb dX9_book_156 rfl (lv_at hl 0 rfl) ?_
            refine mg_0_27 hx hb hts hinX9 hown hK hP (hts (.fieldLink RX9 32 "CensusDeskModel" "sex" "[I") (List.mem_of_getElem? (i := 16) rfl)) dX9_book_157 ?_
            refine lv_iload_n hx hb dX9_book_160 rfl (lv_at hl 2 rfl) ?_
            refine ml_8 (f := (φ 3)) hx hb hK hP (i := q) (vin rfl (by omega)) rfl dX9_book_161 ?_
            refine lv_topi (fun z_18 ez_18 => ?_)
            have tz_18 : (Int32.toInt z_18) = Int32.toInt ((φ 3) (Int32.toNatClampNeg q)) := congrArg Int32.toInt ez_18
            have pz_18 : -1 ≤ (Int32.toInt z_18) ∧ (Int32.toInt z_18) ≤ 1 := p_m_sex.of ez_18
            refine ms_30 (f := f9_c131) hx hb hK hP hI hS (i := s14_c131) (x := z_18) (vin rfl (by omega)) rfl dX9_book_162 ?_
            clear hP hS; intro H locs hP hS
            obtain ⟨f_19, ef_19⟩ : ∃ z : Nat → Int32, z = upd f9_c131 (Int32.toNatClampNeg s14_c131) z_18 := ⟨_, rfl⟩
            rw [← ef_19] at hP
            have pf_19 : PtR (-1) 1 f_19 := pf9_c131.set ef_19 (by omega) (by omega)
            refine lv_aload_n hx hb dX9_book_163 rfl (lv_at hl 0 rfl) ?_
            refine mg_0_60 hx hb hts hinX9 hown hK hP (hts (.fieldLink RX9 101 "CensusDeskModel" "bAge" "[I") (List.mem_of_getElem? (i := 17) rfl)) dX9_book_164 ?_
            refine lv_aload_n hx hb dX9_book_167 rfl (lv_at hl 0 rfl) ?_
            refine mg_0_65 (v := s14_c131) hx hb hts hinX9 hown hK hP (hts (.fieldLink RX9 298 "CensusDeskModel" "bookedPersons" "I") (List.mem_of_getElem? (i := 3) rfl)) rfl dX9_book_168 ?_
            refine lv_aload_n hx hb dX9_book_171 rfl (lv_at hl 0 rfl) ?_
            refine mg_0_28 hx hb hts hinX9 hown hK hP (hts (.fieldLink RX9 35 "CensusDeskModel" "age" "[I") (List.mem_of_getElem? (i := 18) rfl)) dX9_book_172 ?_
            refine lv_iload_n hx hb dX9_book_175 rfl (lv_at hl 2 rfl) ?_
            refine ml_9 (f := (ψ 4)) hx hb hK hP (i := q) (vin rfl (by omega)) rfl dX9_book_176 ?_
            refine lv_topi (fun z_20 ez_20 => ?_)
            refine ms_31 (f := f10_c131) hx hb hK hP hI hS (i := s14_c131) (x := z_20) (vin rfl (by omega)) rfl dX9_book_177 ?_
            clear hP hS; intro H locs hP hS
            obtain ⟨f_21, ef_21⟩ : ∃ z : Nat → Int32, z = upd f10_c131 (Int32.toNatClampNeg s14_c131) z_20 := ⟨_, rfl⟩
            rw [← ef_21] at hP
            refine lv_aload_n hx hb dX9_book_178 rfl (lv_at hl 0 rfl) ?_
            refine mg_0_61 hx hb hts hinX9 hown hK hP (hts (.fieldLink RX9 104 "CensusDeskModel" "bTrade" "[I") (List.mem_of_getElem? (i := 19) rfl)) dX9_book_179 ?_
            refine lv_aload_n hx hb dX9_book_182 rfl (lv_at hl 0 rfl) ?_
            refine mg_0_65 (v := s14_c131) hx hb hts hinX9 hown hK hP (hts (.fieldLink RX9 298 "CensusDeskModel" "bookedPersons" "I") (List.mem_of_getElem? (i := 3) rfl)) rfl dX9_book_183 ?_
            refine lv_aload_n hx hb dX9_book_186 rfl (lv_at hl 0 rfl) ?_
            refine mg_0_29 hx hb hts hinX9 hown hK hP (hts (.fieldLink RX9 38 "CensusDeskModel" "trade" "[I") (List.mem_of_getElem? (i := 20) rfl)) dX9_book_187 ?_
            refine lv_iload_n hx hb dX9_book_190 rfl (lv_at hl 2 rfl) ?_
            refine ml_10 (f := (ψ 5)) hx hb hK hP (i := q) (vin rfl (by omega)) rfl dX9_book_191 ?_
            refine lv_topi (fun z_22 ez_22 => ?_)
            refine ms_32 (f := (ψ 20)) hx hb hK hP hI hS (i := s14_c131) (x := z_22) (vin rfl (by omega)) rfl dX9_book_192 ?_
            clear hP hS; intro H locs hP hS
            obtain ⟨f_23, ef_23⟩ : ∃ z : Nat → Int32, z = upd (ψ 20) (Int32.toNatClampNeg s14_c131) z_22 := ⟨_, rfl⟩
            rw [← ef_23] at hP
            refine lv_aload_n hx hb dX9_book_193 rfl (lv_at hl 0 rfl) ?_
            refine mg_0_62 hx hb hts hinX9 hown hK hP (hts (.fieldLink RX9 107 "CensusDeskModel" "bSize" "[I") (List.mem_of_getElem? (i := 21) rfl)) dX9_book_194 ?_
            refine lv_aload_n hx hb dX9_book_197 rfl (lv_at hl 0 rfl) ?_
            refine mg_0_65 (v := s14_c131) hx hb hts hinX9 hown hK hP (hts (.fieldLink RX9 298 "CensusDeskModel" "bookedPersons" "I") (List.mem_of_getElem? (i := 3) rfl)) rfl dX9_book_198 ?_
            refine lv_aload_n hx hb dX9_book_201 rfl (lv_at hl 0 rfl) ?_
            refine mg_0_31 hx hb hts hinX9 hown hK hP (hts (.fieldLink RX9 44 "CensusDeskModel" "nameSize" "[I") (List.mem_of_getElem? (i := 22) rfl)) dX9_book_202 ?_
            refine lv_iload_n hx hb dX9_book_205 rfl (lv_at hl 2 rfl) ?_
            refine ml_12 (f := (φ 5)) hx hb hK hP (i := q) (vin rfl (by omega)) rfl dX9_book_206 ?_
            refine lv_topi (fun z_24 ez_24 => ?_)
            have tz_24 : (Int32.toInt z_24) = Int32.toInt ((φ 5) (Int32.toNatClampNeg q)) := congrArg Int32.toInt ez_24
            have pz_24 : 0 ≤ (Int32.toInt z_24) ∧ (Int32.toInt z_24) ≤ 30 := p_m_nameSize.of ez_24
            refine ms_33 (f := f11_c131) hx hb hK hP hI hS (i := s14_c131) (x := z_24) (vin rfl (by omega)) rfl dX9_book_207 ?_
            clear hP hS; intro H locs hP hS
            obtain ⟨f_25, ef_25⟩ : ∃ z : Nat → Int32, z = upd f11_c131 (Int32.toNatClampNeg s14_c131) z_24 := ⟨_, rfl⟩
            rw [← ef_25] at hP
            have pf_25 : PtR 0 30 f_25 := pf11_c131.set ef_25 (by omega) (by omega)
            refine lv_aload_n hx hb dX9_book_208 rfl (lv_at hl 0 rfl) ?_
            refine mg_0_63 hx hb hts hinX9 hown hK hP (hts (.fieldLink RX9 110 "CensusDeskModel" "bHouse" "[I") (List.mem_of_getElem? (i := 23) rfl)) dX9_book_209 ?_
            refine lv_aload_n hx hb dX9_book_212 rfl (lv_at hl 0 rfl) ?_
            refine mg_0_65 (v := s14_c131) hx hb hts hinX9 hown hK hP (hts (.fieldLink RX9 298 "CensusDeskModel" "bookedPersons" "I") (List.mem_of_getElem? (i := 3) rfl)) rfl dX9_book_213 ?_
            refine lv_aload_n hx hb dX9_book_216 rfl (lv_at hl 0 rfl) ?_
            refine mg_0_58 (v := s13_c131) hx hb hts hinX9 hown hK hP (hts (.fieldLink RX9 295 "CensusDeskModel" "booked" "I") (List.mem_of_getElem? (i := 1) rfl)) rfl dX9_book_217 ?_
            refine ms_34 (f := (ψ 21)) hx hb hK hP hI hS (i := s14_c131) (x := s13_c131) (vin rfl (by omega)) rfl dX9_book_220 ?_
            clear hP hS; intro H locs hP hS
            obtain ⟨f_26, ef_26⟩ : ∃ z : Nat → Int32, z = upd (ψ 21) (Int32.toNatClampNeg s14_c131) s13_c131 := ⟨_, rfl⟩
            rw [← ef_26] at hP
            refine lv_iconst (v := 0) hx hb dX9_book_221 (by decide) ?_
            refine lv_istore_n (lv' := [(3, .int 0), (0, .ref (a 0)), (1, .int h), (2, .int q)]) hx hb dX9_book_222 rfl hl (by decide) rfl ?_
            clear hl; intro ls hl
            exact J223 (_ + 1) h q 0 s13_c131 s14_c131 f8_c131 f_19 f_21 f_25 γ (up (up ψ 20 f_23) 21 f_26) _ _ _ pf8_c131 pf_19 pf_25 (show 0 ≤ (Int32.toInt h) ∧ (Int32.toInt h) < (Int32.toInt (σ 7)) ∧ (Int32.toInt s13_c131) = (Int32.toInt (σ 13)) + (Int32.toInt h) ∧ Int32.toInt ((φ 1) (Int32.toNatClampNeg h)) ≤ (Int32.toInt q) ∧ (Int32.toInt q) ≤ Int32.toInt ((φ 1) (Int32.toNatClampNeg h)) + Int32.toInt ((φ 2) (Int32.toNatClampNeg h)) ∧ Int32.toInt (f8_c131 (Int32.toNatClampNeg s13_c131)) = Int32.toInt ((φ 2) (Int32.toNatClampNeg h)) ∧ (Int32.toInt s14_c131) = (Int32.toInt (σ 14)) + zsum (φ 2) (Int32.toNatClampNeg h) + ((Int32.toInt q) - Int32.toInt ((φ 1) (Int32.toNatClampNeg h))) ∧ (Int32.toInt s14_c131) = zsum f8_c131 (Int32.toNatClampNeg s13_c131) + ((Int32.toInt q) - Int32.toInt ((φ 1) (Int32.toNatClampNeg h))) from (by omega)) (show (Int32.toInt q) < Int32.toInt ((φ 1) (Int32.toNatClampNeg h)) + Int32.toInt ((φ 2) (Int32.toNatClampNeg h)) from (by omega)) (show (Int32.toInt (σ 13)) + (Int32.toInt (σ 7)) ≤ 60 ∧ (Int32.toInt (σ 14)) + zsum (φ 2) (Int32.toNatClampNeg (σ 7)) ≤ 300 from (by omega)) (show 0 ≤ (Int32.toInt 0) from (by have := L_0; omega)) (show ((Int32.toInt (σ 7)) - (Int32.toInt h)).toNat < n43 + 1 ∧ (2000 - (Int32.toInt q)).toNat < n131 + 1 from (by omega)) (Nat.lt_succ_self _) hP hS (lv_sub hl [1, 2, 3, 0] rfl)
      refine lv_iload_n hx hb dX9_book_43 rfl (lv_at hl 1 rfl) ?_
      refine lv_aload_n hx hb dX9_book_44 rfl (lv_at hl 0 rfl) ?_
      refine mg_0_26 (v := (σ 7)) hx hb hts hinX9 hown hK hP (hts (.fieldLink RX9 234 "CensusDeskModel" "houses" "I") (List.mem_of_getElem? (i := 2) rfl)) rfl dX9_book_45 ?_
      refine lv_icmp_ge (tgt := 298) hx hb dX9_book_48 (by decide) (fun c_27 => ?_) (fun c_27 => ?_)
      · have kc_27 := bI_le rfl rfl c_27
        have hz3 := zsum_nn p_m_houseMany (by decide) (Int32.toNatClampNeg h)
        have hz4 := zsum_mono p_m_houseMany (by decide) (m := Int32.toNatClampNeg h) (n := Int32.toNatClampNeg (σ 7)) (by have := tn_eq (x := h) (by omega); have := tn_eq (x := (σ 7)) (by omega); omega)
        refine lv_aload_n hx hb dX9_book_298 rfl (lv_at hl 0 rfl) ?_
        refine lv_dup hx hb dX9_book_299 rfl ?_
        refine mg_0_66 (v := (σ 16)) hx hb hts hinX9 hown hK hP (hts (.fieldLink RX9 310 "CensusDeskModel" "sheetsBooked" "I") (List.mem_of_getElem? (i := 27) rfl)) rfl dX9_book_300 ?_
        refine lv_iconst (v := 1) hx hb dX9_book_303 (by decide) ?_
        refine lv_iadd hx hb dX9_book_304 ?_
        refine lv_topi (fun z_28 ez_28 => ?_)
        refine mp_0_66 (v := z_28) hx hb hts hinX9 hown hK hP hI hS (hts (.fieldLink RX9 310 "CensusDeskModel" "sheetsBooked" "I") (List.mem_of_getElem? (i := 27) rfl)) dX9_book_305 ?_
        clear hP hS; intro H locs hP hS
        refine lv_iconst (v := 0) hx hb dX9_book_308 (by decide) ?_
        subst eQ
        exact W.iret (v := 0) hx hb hr (fun t ht hW => ⟨⟨0, ((up (up (up (up σ 13 s13_c43) 14 s14_c43) 16 z_28) 18 (σ 18)), (up (up (up (up φ 8 f8_c43) 9 f9_c43) 10 f10_c43) 11 f11_c43), γ, ψ), rfl, ⟨s13_c43, s14_c43, f8_c43, f9_c43, f10_c43, f11_c43, z_28, (σ 18), rfl, rfl, pf8_c43, pf9_c43, pf11_c43, (show 0 ≤ (Int32.toInt s13_c43) ∧ (Int32.toInt s13_c43) ≤ 60 ∧ 0 ≤ (Int32.toInt s14_c43) ∧ (Int32.toInt s14_c43) ≤ 300 from (by omega)), (show (Int32.toInt s14_c43) = zsum f8_c43 (Int32.toNatClampNeg s13_c43) from (by omega)), (Or.inr ⟨rfl, ez_28, rfl⟩)⟩, (by show va_P _ _ _ _; rw [ht]; exact hP)⟩, hS.F ht⟩) hS.2.2 dX9_book_309
      · have kc_27 := bI_nle rfl rfl c_27
        have hs1 := hHS (Int32.toNatClampNeg h)
        have hs2 := p_m_houseFirst (Int32.toNatClampNeg h)
        have hs3 := p_m_houseMany (Int32.toNatClampNeg h)
        have hz1 := zsum_next p_m_houseMany (by decide) (m := Int32.toNatClampNeg h) (n := Int32.toNatClampNeg (σ 7)) (by have := tn_eq (x := h) (by omega); have := tn_eq (x := (σ 7)) (by omega); omega)
        have hz2 := zsum_nn p_m_houseMany (by decide) (Int32.toNatClampNeg h)
        refine lv_aload_n hx hb dX9_book_51 rfl (lv_at hl 0 rfl) ?_
        refine mg_0_53 hx hb hts hinX9 hown hK hP (hts (.fieldLink RX9 83 "CensusDeskModel" "bNumber" "[I") (List.mem_of_getElem? (i := 5) rfl)) dX9_book_52 ?_
        refine lv_aload_n hx hb dX9_book_55 rfl (lv_at hl 0 rfl) ?_
        refine mg_0_58 (v := s13_c43) hx hb hts hinX9 hown hK hP (hts (.fieldLink RX9 295 "CensusDeskModel" "booked" "I") (List.mem_of_getElem? (i := 1) rfl)) rfl dX9_book_56 ?_
        refine lv_aload_n hx hb dX9_book_59 rfl (lv_at hl 0 rfl) ?_
        refine mg_0_22 hx hb hts hinX9 hown hK hP (hts (.fieldLink RX9 20 "CensusDeskModel" "houseNumber" "[I") (List.mem_of_getElem? (i := 6) rfl)) dX9_book_60 ?_
        refine lv_iload_n hx hb dX9_book_63 rfl (lv_at hl 1 rfl) ?_
        refine ml_4 (f := (ψ 2)) hx hb hK hP (i := h) (vin rfl (by omega)) rfl dX9_book_64 ?_
        refine lv_topi (fun z_29 ez_29 => ?_)
        refine ms_25 (f := (ψ 16)) hx hb hK hP hI hS (i := s13_c43) (x := z_29) (vin rfl (by omega)) rfl dX9_book_65 ?_
        clear hP hS; intro H locs hP hS
        obtain ⟨f_30, ef_30⟩ : ∃ z : Nat → Int32, z = upd (ψ 16) (Int32.toNatClampNeg s13_c43) z_29 := ⟨_, rfl⟩
        rw [← ef_30] at hP
        refine lv_aload_n hx hb dX9_book_66 rfl (lv_at hl 0 rfl) ?_
        refine mg_0_54 hx hb hts hinX9 hown hK hP (hts (.fieldLink RX9 86 "CensusDeskModel" "bTold" "[I") (List.mem_of_getElem? (i := 7) rfl)) dX9_book_67 ?_
        refine lv_aload_n hx hb dX9_book_70 rfl (lv_at hl 0 rfl) ?_
        refine mg_0_58 (v := s13_c43) hx hb hts hinX9 hown hK hP (hts (.fieldLink RX9 295 "CensusDeskModel" "booked" "I") (List.mem_of_getElem? (i := 1) rfl)) rfl dX9_book_71 ?_
        refine lv_aload_n hx hb dX9_book_74 rfl (lv_at hl 0 rfl) ?_
        refine mg_0_23 hx hb hts hinX9 hown hK hP (hts (.fieldLink RX9 23 "CensusDeskModel" "houseTold" "[I") (List.mem_of_getElem? (i := 8) rfl)) dX9_book_75 ?_
        refine lv_iload_n hx hb dX9_book_78 rfl (lv_at hl 1 rfl) ?_
        refine ml_5 (f := (ψ 3)) hx hb hK hP (i := h) (vin rfl (by omega)) rfl dX9_book_79 ?_
        refine lv_topi (fun z_31 ez_31 => ?_)
        refine ms_26 (f := (ψ 17)) hx hb hK hP hI hS (i := s13_c43) (x := z_31) (vin rfl (by omega)) rfl dX9_book_80 ?_
        clear hP hS; intro H locs hP hS
        obtain ⟨f_32, ef_32⟩ : ∃ z : Nat → Int32, z = upd (ψ 17) (Int32.toNatClampNeg s13_c43) z_31 := ⟨_, rfl⟩
        rw [← ef_32] at hP
        refine lv_aload_n hx hb dX9_book_81 rfl (lv_at hl 0 rfl) ?_
        refine mg_0_55 hx hb hts hinX9 hown hK hP (hts (.fieldLink RX9 89 "CensusDeskModel" "bMany" "[I") (List.mem_of_getElem? (i := 9) rfl)) dX9_book_82 ?_
        refine lv_aload_n hx hb dX9_book_85 rfl (lv_at hl 0 rfl) ?_
        refine mg_0_58 (v := s13_c43) hx hb hts hinX9 hown hK hP (hts (.fieldLink RX9 295 "CensusDeskModel" "booked" "I") (List.mem_of_getElem? (i := 1) rfl)) rfl dX9_book_86 ?_
        refine lv_aload_n hx hb dX9_book_89 rfl (lv_at hl 0 rfl) ?_
        refine mg_0_25 hx hb hts hinX9 hown hK hP (hts (.fieldLink RX9 29 "CensusDeskModel" "houseMany" "[I") (List.mem_of_getElem? (i := 10) rfl)) dX9_book_90 ?_
        refine lv_iload_n hx hb dX9_book_93 rfl (lv_at hl 1 rfl) ?_
        refine ml_7 (f := (φ 2)) hx hb hK hP (i := h) (vin rfl (by omega)) rfl dX9_book_94 ?_
        refine lv_topi (fun z_33 ez_33 => ?_)
        have tz_33 : (Int32.toInt z_33) = Int32.toInt ((φ 2) (Int32.toNatClampNeg h)) := congrArg Int32.toInt ez_33
        have pz_33 : 0 ≤ (Int32.toInt z_33) ∧ (Int32.toInt z_33) ≤ 2000 := p_m_houseMany.of ez_33
        refine ms_27 (f := f8_c43) hx hb hK hP hI hS (i := s13_c43) (x := z_33) (vin rfl (by omega)) rfl dX9_book_95 ?_
        clear hP hS; intro H locs hP hS
        obtain ⟨f_34, ef_34⟩ : ∃ z : Nat → Int32, z = upd f8_c43 (Int32.toNatClampNeg s13_c43) z_33 := ⟨_, rfl⟩
        rw [← ef_34] at hP
        have pf_34 : PtR 0 2000 f_34 := pf8_c43.set ef_34 (by omega) (by omega)
        have hbm : Int32.toInt (f_34 (Int32.toNatClampNeg s13_c43)) = (Int32.toInt z_33) := by rw [ef_34, pk_us]
        have hzb : zsum f_34 (Int32.toNatClampNeg s13_c43) = zsum f8_c43 (Int32.toNatClampNeg s13_c43) := zsum_cong (fun i hi => by rw [ef_34, pk_un (by omega)])
        refine lv_aload_n hx hb dX9_book_96 rfl (lv_at hl 0 rfl) ?_
        refine mg_0_56 hx hb hts hinX9 hown hK hP (hts (.fieldLink RX9 92 "CensusDeskModel" "bFirst" "[I") (List.mem_of_getElem? (i := 11) rfl)) dX9_book_97 ?_
        refine lv_aload_n hx hb dX9_book_100 rfl (lv_at hl 0 rfl) ?_
        refine mg_0_58 (v := s13_c43) hx hb hts hinX9 hown hK hP (hts (.fieldLink RX9 295 "CensusDeskModel" "booked" "I") (List.mem_of_getElem? (i := 1) rfl)) rfl dX9_book_101 ?_
        refine lv_aload_n hx hb dX9_book_104 rfl (lv_at hl 0 rfl) ?_
        refine mg_0_65 (v := s14_c43) hx hb hts hinX9 hown hK hP (hts (.fieldLink RX9 298 "CensusDeskModel" "bookedPersons" "I") (List.mem_of_getElem? (i := 3) rfl)) rfl dX9_book_105 ?_
        refine ms_28 (f := (ψ 18)) hx hb hK hP hI hS (i := s13_c43) (x := s14_c43) (vin rfl (by omega)) rfl dX9_book_108 ?_
        clear hP hS; intro H locs hP hS
        obtain ⟨f_35, ef_35⟩ : ∃ z : Nat → Int32, z = upd (ψ 18) (Int32.toNatClampNeg s13_c43) s14_c43 := ⟨_, rfl⟩
        rw [← ef_35] at hP
        refine lv_aload_n hx hb dX9_book_109 rfl (lv_at hl 0 rfl) ?_
        refine mg_0_57 hx hb hts hinX9 hown hK hP (hts (.fieldLink RX9 95 "CensusDeskModel" "bSheet" "[I") (List.mem_of_getElem? (i := 12) rfl)) dX9_book_110 ?_
        refine lv_aload_n hx hb dX9_book_113 rfl (lv_at hl 0 rfl) ?_
        refine mg_0_58 (v := s13_c43) hx hb hts hinX9 hown hK hP (hts (.fieldLink RX9 295 "CensusDeskModel" "booked" "I") (List.mem_of_getElem? (i := 1) rfl)) rfl dX9_book_114 ?_
        refine lv_aload_n hx hb dX9_book_117 rfl (lv_at hl 0 rfl) ?_
        refine mg_0_8 (v := (σ 15)) hx hb hts hinX9 hown hK hP (hts (.fieldLink RX9 307 "CensusDeskModel" "sheets" "I") (List.mem_of_getElem? (i := 13) rfl)) rfl dX9_book_118 ?_
        refine lv_iconst (v := 1) hx hb dX9_book_121 (by decide) ?_
        refine lv_isub hx hb dX9_book_122 ?_
        refine lv_topi (fun z_36 ez_36 => ?_)
        refine ms_29 (f := (ψ 19)) hx hb hK hP hI hS (i := s13_c43) (x := z_36) (vin rfl (by omega)) rfl dX9_book_123 ?_
        clear hP hS; intro H locs hP hS
        obtain ⟨f_37, ef_37⟩ : ∃ z : Nat → Int32, z = upd (ψ 19) (Int32.toNatClampNeg s13_c43) z_36 := ⟨_, rfl⟩
        rw [← ef_37] at hP
        refine lv_aload_n hx hb dX9_book_124 rfl (lv_at hl 0 rfl) ?_
        refine mg_0_24 hx hb hts hinX9 hown hK hP (hts (.fieldLink RX9 26 "CensusDeskModel" "houseFirst" "[I") (List.mem_of_getElem? (i := 14) rfl)) dX9_book_125 ?_
        refine lv_iload_n hx hb dX9_book_128 rfl (lv_at hl 1 rfl) ?_
        refine ml_6 (f := (φ 1)) hx hb hK hP (i := h) (vin rfl (by omega)) rfl dX9_book_129 ?_
        refine lv_topi (fun z_38 ez_38 => ?_)
        have tz_38 : (Int32.toInt z_38) = Int32.toInt ((φ 1) (Int32.toNatClampNeg h)) := congrArg Int32.toInt ez_38
        have pz_38 : 0 ≤ (Int32.toInt z_38) ∧ (Int32.toInt z_38) ≤ 2000 := p_m_houseFirst.of ez_38
        refine lv_istore_n (lv' := [(2, .int z_38), (0, .ref (a 0)), (1, .int h)]) hx hb dX9_book_130 rfl hl (by decide) rfl ?_
        clear hl; intro ls hl
        exact J131 (_ + 1) h z_38 s13_c43 s14_c43 f_34 f9_c43 f10_c43 f11_c43 γ (up (up (up (up ψ 16 f_30) 17 f_32) 18 f_35) 19 f_37) _ _ _ pf_34 pf9_c43 pf11_c43 (show 0 ≤ (Int32.toInt h) ∧ (Int32.toInt h) < (Int32.toInt (σ 7)) ∧ (Int32.toInt s13_c43) = (Int32.toInt (σ 13)) + (Int32.toInt h) ∧ Int32.toInt ((φ 1) (Int32.toNatClampNeg h)) ≤ (Int32.toInt z_38) ∧ (Int32.toInt z_38) ≤ Int32.toInt ((φ 1) (Int32.toNatClampNeg h)) + Int32.toInt ((φ 2) (Int32.toNatClampNeg h)) ∧ Int32.toInt (f_34 (Int32.toNatClampNeg s13_c43)) = Int32.toInt ((φ 2) (Int32.toNatClampNeg h)) ∧ (Int32.toInt s14_c43) = (Int32.toInt (σ 14)) + zsum (φ 2) (Int32.toNatClampNeg h) + ((Int32.toInt z_38) - Int32.toInt ((φ 1) (Int32.toNatClampNeg h))) ∧ (Int32.toInt s14_c43) = zsum f_34 (Int32.toNatClampNeg s13_c43) + ((Int32.toInt z_38) - Int32.toInt ((φ 1) (Int32.toNatClampNeg h))) from (by omega)) (show (Int32.toInt (σ 13)) + (Int32.toInt (σ 7)) ≤ 60 ∧ (Int32.toInt (σ 14)) + zsum (φ 2) (Int32.toNatClampNeg (σ 7)) ≤ 300 from (by omega)) (show ((Int32.toInt (σ 7)) - (Int32.toInt h)).toNat < n43 + 1 from (by omega)) (Nat.lt_succ_self _) hP hS (lv_sub hl [1, 2, 0] rfl)
  refine lv_aload_n hx hb dX9_book_0 rfl (lv_at hl 0 rfl) ?_
  refine mg_0_58 (v := (σ 13)) hx hb hts hinX9 hown hK hP (hts (.fieldLink RX9 295 "CensusDeskModel" "booked" "I") (List.mem_of_getElem? (i := 1) rfl)) rfl dX9_book_1 ?_
  refine lv_aload_n hx hb dX9_book_4 rfl (lv_at hl 0 rfl) ?_
  refine mg_0_26 (v := (σ 7)) hx hb hts hinX9 hown hK hP (hts (.fieldLink RX9 234 "CensusDeskModel" "houses" "I") (List.mem_of_getElem? (i := 2) rfl)) rfl dX9_book_5 ?_
  refine lv_iadd hx hb dX9_book_8 ?_
  refine lv_topi (fun z_39 ez_39 => ?_)
  have tz_39 : (Int32.toInt z_39) = (Int32.toInt (σ 13)) + (Int32.toInt (σ 7)) := aI_add rfl rfl ez_39 (by have := rng (σ 13); have := rng (σ 7); omega)
  refine lv_bipush (v := 60) hx hb dX9_book_9 (by decide) ?_
  refine lv_icmp_gt (tgt := 29) hx hb dX9_book_11 (by decide) (fun c_40 => ?_) (fun c_40 => ?_)
  · have kc_40 := bI_lt L_60 rfl c_40
    refine lv_aload_n hx hb dX9_book_29 rfl (lv_at hl 0 rfl) ?_
    refine lv_dup hx hb dX9_book_30 rfl ?_
    refine mg_0_68 (v := (σ 18)) hx hb hts hinX9 hown hK hP (hts (.fieldLink RX9 304 "CensusDeskModel" "sheetsWithoutRoom" "I") (List.mem_of_getElem? (i := 4) rfl)) rfl dX9_book_31 ?_
    refine lv_iconst (v := 1) hx hb dX9_book_34 (by decide) ?_
    refine lv_iadd hx hb dX9_book_35 ?_
    refine lv_topi (fun z_41 ez_41 => ?_)
    refine mp_0_68 (v := z_41) hx hb hts hinX9 hown hK hP hI hS (hts (.fieldLink RX9 304 "CensusDeskModel" "sheetsWithoutRoom" "I") (List.mem_of_getElem? (i := 4) rfl)) dX9_book_36 ?_
    clear hP hS; intro H locs hP hS
    refine lv_iconst (v := 3) hx hb dX9_book_39 (by decide) ?_
    subst eQ
    exact W.iret (v := 3) hx hb hr (fun t ht hW => ⟨⟨3, ((up (up (up (up σ 13 (σ 13)) 14 (σ 14)) 16 (σ 16)) 18 z_41), (up (up (up (up φ 8 (φ 8)) 9 (φ 9)) 10 (φ 10)) 11 (φ 11)), γ, ψ), rfl, ⟨(σ 13), (σ 14), (φ 8), (φ 9), (φ 10), (φ 11), (σ 16), z_41, rfl, rfl, p_m_bMany, p_m_bSex, p_m_bSize, (show 0 ≤ (Int32.toInt (σ 13)) ∧ (Int32.toInt (σ 13)) ≤ 60 ∧ 0 ≤ (Int32.toInt (σ 14)) ∧ (Int32.toInt (σ 14)) ≤ 300 from (by omega)), (show (Int32.toInt (σ 14)) = zsum (φ 8) (Int32.toNatClampNeg (σ 13)) from (by omega)), (Or.inl ⟨rfl, rfl, ez_41⟩)⟩, (by show va_P _ _ _ _; rw [ht]; exact hP)⟩, hS.F ht⟩) hS.2.2 dX9_book_40
  · have kc_40 := bI_nlt L_60 rfl c_40
    refine lv_aload_n hx hb dX9_book_14 rfl (lv_at hl 0 rfl) ?_
    refine mg_0_65 (v := (σ 14)) hx hb hts hinX9 hown hK hP (hts (.fieldLink RX9 298 "CensusDeskModel" "bookedPersons" "I") (List.mem_of_getElem? (i := 3) rfl)) rfl dX9_book_15 ?_
    refine lv_aload_n hx hb dX9_book_18 rfl (lv_at hl 0 rfl) ?_
    refine m_calli (va_runV (As := []) (rest := [.int (σ 14)]) ⟨hx, hb, hml, hown, hts⟩ (c_X9_takenPersons l dC dI a κ σ φ γ ψ  p_m_houseMany (show 0 ≤ (Int32.toInt (σ 7)) ∧ (Int32.toInt (σ 7)) ≤ 2000 from (by omega))) (cwV 0 hts gX9_book_X9_takenPersons rfl rfl rfl ⟨rfl, hd_X9_takenPersons⟩ ⟨Nat.le_of_ble_eq_true rfl, Nat.le_of_ble_eq_true rfl⟩) (mPreV hP hK hI hN hS (va_recv hK hP (ci := 9) (q0 := 0) rfl rfl)) rfl rfl hl.1 rfl (lv_room (Nat.le_of_ble_eq_true rfl)) dX9_book_19 ⟨(by decide +kernel), (by decide +kernel)⟩) hS ?_
    clear hP hS; intro r_42 S_42 F_42 γ_42 ψ_42 H locs hw hP hS
    obtain ⟨rfl, rfl, (qz_42 : (Int32.toInt r_42) = zsum (φ 2) (Int32.toNatClampNeg (σ 7))), (qr_42 : 0 ≤ (Int32.toInt r_42) ∧ (Int32.toInt r_42) ≤ 4000000)⟩ := hw
    refine lv_iadd hx hb dX9_book_22 ?_
    refine lv_topi (fun z_43 ez_43 => ?_)
    have tz_43 : (Int32.toInt z_43) = (Int32.toInt (σ 14)) + (Int32.toInt r_42) := aI_add rfl rfl ez_43 (by have := rng (σ 14); have := rng r_42; omega)
    refine lv_sipush (v := 300) hx hb dX9_book_23 (by decide) ?_
    refine lv_icmp_le (tgt := 41) hx hb dX9_book_26 (by decide) (fun c_44 => ?_) (fun c_44 => ?_)
    · have kc_44 := bI_le rfl L_300 c_44
      refine lv_iconst (v := 0) hx hb dX9_book_41 (by decide) ?_
      refine lv_istore_n (lv' := [(1, .int 0), (0, .ref (a 0))]) hx hb dX9_book_42 rfl hl (by decide) rfl ?_
      clear hl; intro ls hl
      exact J43 (_ + 1) 0 (σ 13) (σ 14) (φ 8) (φ 9) (φ 10) (φ 11) γ_42 ψ_42 _ _ _ p_m_bMany p_m_bSex p_m_bSize (show 0 ≤ (Int32.toInt 0) ∧ (Int32.toInt 0) ≤ (Int32.toInt (σ 7)) ∧ (Int32.toInt (σ 13)) = (Int32.toInt (σ 13)) + (Int32.toInt 0) ∧ (Int32.toInt (σ 14)) = (Int32.toInt (σ 14)) + zsum (φ 2) (Int32.toNatClampNeg 0) from ⟨by have := L_0; omega, by have := L_0; omega, by have := L_0; omega, (Int.add_zero _).symm⟩) (show (Int32.toInt (σ 14)) = zsum (φ 8) (Int32.toNatClampNeg (σ 13)) from (by omega)) (show (Int32.toInt (σ 13)) + (Int32.toInt (σ 7)) ≤ 60 ∧ (Int32.toInt (σ 14)) + zsum (φ 2) (Int32.toNatClampNeg (σ 7)) ≤ 300 from (by omega)) (Nat.lt_succ_self _) hP hS (lv_sub hl [1, 0] rfl)
    · have kc_44 := bI_nle rfl L_300 c_44
      refine lv_aload_n hx hb dX9_book_29 rfl (lv_at hl 0 rfl) ?_
      refine lv_dup hx hb dX9_book_30 rfl ?_
      refine mg_0_68 (v := (σ 18)) hx hb hts hinX9 hown hK hP (hts (.fieldLink RX9 304 "CensusDeskModel" "sheetsWithoutRoom" "I") (List.mem_of_getElem? (i := 4) rfl)) rfl dX9_book_31 ?_
      refine lv_iconst (v := 1) hx hb dX9_book_34 (by decide) ?_
      refine lv_iadd hx hb dX9_book_35 ?_
      refine lv_topi (fun z_45 ez_45 => ?_)
      refine mp_0_68 (v := z_45) hx hb hts hinX9 hown hK hP hI hS (hts (.fieldLink RX9 304 "CensusDeskModel" "sheetsWithoutRoom" "I") (List.mem_of_getElem? (i := 4) rfl)) dX9_book_36 ?_
      clear hP hS; intro H locs hP hS
      refine lv_iconst (v := 3) hx hb dX9_book_39 (by decide) ?_
      subst eQ
      exact W.iret (v := 3) hx hb hr (fun t ht hW => ⟨⟨3, ((up (up (up (up σ 13 (σ 13)) 14 (σ 14)) 16 (σ 16)) 18 z_45), (up (up (up (up φ 8 (φ 8)) 9 (φ 9)) 10 (φ 10)) 11 (φ 11)), γ_42, ψ_42), rfl, ⟨(σ 13), (σ 14), (φ 8), (φ 9), (φ 10), (φ 11), (σ 16), z_45, rfl, rfl, p_m_bMany, p_m_bSex, p_m_bSize, (show 0 ≤ (Int32.toInt (σ 13)) ∧ (Int32.toInt (σ 13)) ≤ 60 ∧ 0 ≤ (Int32.toInt (σ 14)) ∧ (Int32.toInt (σ 14)) ≤ 300 from (by omega)), (show (Int32.toInt (σ 14)) = zsum (φ 8) (Int32.toNatClampNeg (σ 13)) from (by omega)), (Or.inl ⟨rfl, rfl, ez_45⟩)⟩, (by show va_P _ _ _ _; rw [ht]; exact hP)⟩, hS.F ht⟩) hS.2.2 dX9_book_40
