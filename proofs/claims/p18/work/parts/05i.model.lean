set_option maxHeartbeats 4000000 in
set_option maxRecDepth 100000 in
theorem c_X9_readPerson (l : Launch) (dC : Nat → ClassId) (dI : Nat → Nat → Nat) (a : Nat → Nat) (κ : Nat → ClassId) (σ : Nat → Int32) (φ : Nat → Nat → Int32) (γ : Nat → Int32) (ψ : Nat → Nat → Int32) (sort : Int32) (p_m_sex : PtR (-1) 1 (φ 3)) (p_m_nameAt : PtR 0 4000 (φ 4)) (p_m_nameSize : PtR 0 30 (φ 5)) (hl : 0 ≤ (Int32.toInt (σ 5)) ∧ (Int32.toInt (σ 5)) ≤ (Int32.toInt (σ 6)) ∧ (Int32.toInt (σ 6)) ≤ 4000) (hf : 0 ≤ (Int32.toInt (σ 10)) ∧ (Int32.toInt (σ 10)) ≤ 1000000000) (hfc : ∀ i : Nat, i < 300 → (i : Int) < (Int32.toInt (σ 10)) → Int32.toInt ((φ 6) i) < i) (hso : (Int32.toInt sort) ≠ 72 ∧ (Int32.toInt sort) ≠ 83) (hpc : (Int32.toInt (σ 3)) = 0 ∨ (0 ≤ (Int32.toInt (σ 4)) ∧ (Int32.toInt (σ 4)) ≤ (Int32.toInt (σ 8)) ∧ (Int32.toInt (σ 8)) ≤ 2000)) (hn : 0 ≤ (Int32.toInt (σ 9)) ∧ (Int32.toInt (σ 9)) ≤ (Int32.toInt (σ 5))) (hNA : ∀ i : Nat, Int32.toInt ((φ 4) i) + Int32.toInt ((φ 5) i) ≤ 4000) (hNF : (Int32.toInt (σ 3)) = 0 ∨ (Int32.toInt (σ 8)) ≤ (Int32.toInt (σ 4)) ∨ Int32.toInt ((φ 4) (Int32.toNatClampNeg (σ 4))) ≤ (Int32.toInt (σ 5))) : Met l yX9_readPerson wsX9_readPerson ({ frames := 9, cells := 0, slots := 0, locals := 219 } : Room) (va_Pc [.ref (a 0), .int sort] (mPre dC dI a κ (σ, φ, γ, ψ))) (va_Qv (QV (fun S F => ∃ (s10 : Int32) (f6 : Nat → Int32) (s11 : Int32) (s12 : Int32) (f7 : Nat → Int32) (f3 : Nat → Int32) (f4 : Nat → Int32) (f5 : Nat → Int32) (s9 : Int32) (s8 : Int32), (up (up (up (up (up σ 10 s10) 11 s11) 12 s12) 9 s9) 8 s8) = S ∧ (up (up (up (up (up φ 6 f6) 7 f7) 3 f3) 4 f4) 5 f5) = F ∧ PtR (-1) 1 f3 ∧ PtR 0 4000 f4 ∧ PtR 0 30 f5 ∧ ((Int32.toInt (σ 10)) ≤ (Int32.toInt s10) ∧ (Int32.toInt s10) ≤ (Int32.toInt (σ 10)) + 90000) ∧ (∀ i : Nat, i < 300 → (i : Int) < (Int32.toInt s10) → Int32.toInt (f6 i) < i) ∧ ((Int32.toInt (σ 8)) ≤ (Int32.toInt s8) ∧ (Int32.toInt s8) ≤ (Int32.toInt (σ 8)) + 1) ∧ (0 ≤ (Int32.toInt s9) ∧ (Int32.toInt s9) ≤ (Int32.toInt (σ 6))) ∧ (∀ i : Nat, Int32.toInt (f4 i) + Int32.toInt (f5 i) ≤ 4000) ∧ ((Int32.toInt (σ 3)) = 0 ∨ (Int32.toInt s8) ≤ (Int32.toInt (σ 4)) ∨ Int32.toInt (f4 (Int32.toNatClampNeg (σ 4))) ≤ (Int32.toInt (σ 5))))) (mB dC dI a κ) (mA a)) 0 0 (mA a) := by
  refine Met.ofW (cc := cX9_readPerson) (maxL := 5) (ret := none) (by decide) rfl ?_
  intro p e s m args below meth c s₁ B hml hv
  obtain ⟨rfl, hP, hK, hI, hN⟩ := hv
  have hx := B.exec
  have hb := B.bytes
  have hr := B.returns
  have hts := atoms_spec (ws := wsX9_readPerson) B.pre
  have hown : s.vm.findClass RX9 = some m.cls := findClass_of_methodNamed B.named
  have hlocks := B.notSynchronized
  have hS : va_S (mA a) s.heap s.heap [] := va_S.rf
  have hinX9 : ∀ w ∈ wsX90, w ∈ wsX9_readPerson := fun _ h => List.mem_cons_of_mem _ (List.mem_append_right _ h)
  have hl := lv_entry ([.ref (a 0), .int sort]) (n := 5) (Nat.le_of_ble_eq_true rfl)
  rw [lg_entry_eq]
  generalize (lg_sl ([.ref (a 0), .int sort]) ++ List.replicate (5 - (lg_sl ([.ref (a 0), .int sort])).length) Slot.unset).toArray = ls at hl ⊢
  have hl : lv_has ls 5 [(0, .ref (a 0)), (1, .int sort)] := hl
  refine k_gen (fun QQ eQ => ?_)
  have J233 : ∀ (size : Int32) (s10_c233 : Int32) (f6_c233 : Nat → Int32) (s11_c233 : Int32) (s12_c233 : Int32) (f7_c233 : Nat → Int32) (γ : Nat → Int32) (ψ : Nat → Nat → Int32) (H : Heap) (locs : List Loc) (ls : Array Slot), (0 ≤ (Int32.toInt (σ 4)) ∧ (Int32.toInt (σ 4)) ≤ (Int32.toInt (σ 8)) ∧ (Int32.toInt (σ 8)) ≤ 2000 ∧ (Int32.toInt (σ 3)) ≠ 0) → (0 ≤ (Int32.toInt size) ∧ (Int32.toInt size) ≤ 30 ∧ (Int32.toInt size) ≤ (Int32.toInt (σ 6)) - (Int32.toInt (σ 5))) → ((Int32.toInt (σ 10)) ≤ (Int32.toInt s10_c233) ∧ (Int32.toInt s10_c233) ≤ (Int32.toInt (σ 10)) + 80040) → (∀ i : Nat, i < 300 → (i : Int) < (Int32.toInt s10_c233) → Int32.toInt (f6_c233 i) < i) → (-1 ≤ Int32.toInt (f7_c233 0) ∧ Int32.toInt (f7_c233 0) ≤ 1) → va_P (dC, dI) vwCl (mw a κ ((up (up (up σ 10 s10_c233) 11 s11_c233) 12 s12_c233), (up (up φ 6 f6_c233) 7 f7_c233), γ, ψ)) H → va_S (mA a) s.heap H locs → lv_has ls 5 [(0, .ref (a 0)), (2, .int size)] → W p l e ({ frames := 9, cells := 0, slots := 0, locals := 219 } : Room) s m ([.ref (a 0), .int sort] : List Value).toArray below meth c H locs 0 0 QQ (F0 m 233 ls []) := by
    intro size s10_c233 f6_c233 s11_c233 s12_c233 f7_c233 γ ψ H locs ls hp v0 vf hfc v1 hP hS hl
    refine lv_aload_n hx hb dX9_readPerson_233 rfl (lv_at hl 0 rfl) ?_
    refine mg_0_27 hx hb hts hinX9 hown hK hP (hts (.fieldLink RX9 32 "CensusDeskModel" "sex" "[I") (List.mem_of_getElem? (i := 10) rfl)) dX9_readPerson_234 ?_
    refine lv_aload_n hx hb dX9_readPerson_237 rfl (lv_at hl 0 rfl) ?_
    refine mg_0_32 (v := (σ 8)) hx hb hts hinX9 hown hK hP (hts (.fieldLink RX9 252 "CensusDeskModel" "persons" "I") (List.mem_of_getElem? (i := 11) rfl)) rfl dX9_readPerson_238 ?_
    refine lv_aload_n hx hb dX9_readPerson_241 rfl (lv_at hl 0 rfl) ?_
    refine mg_0_52 hx hb hts hinX9 hown hK hP (hts (.fieldLink RX9 80 "CensusDeskModel" "fields" "[I") (List.mem_of_getElem? (i := 6) rfl)) dX9_readPerson_242 ?_
    refine lv_iconst (v := 0) hx hb dX9_readPerson_245 (by decide) ?_
    refine ml_24 (f := f7_c233) hx hb hK hP (i := 0) (vp_in_nI (n := 0) (by decide) (by decide)) rfl dX9_readPerson_246 ?_
    refine lv_topi (fun z_1 ez_1 => ?_)
    have tz_1 : (Int32.toInt z_1) = Int32.toInt (f7_c233 0) := congrArg Int32.toInt ez_1
    refine ms_8 (f := (φ 3)) hx hb hK hP hI hS (i := (σ 8)) (x := z_1) (vin rfl (by omega)) rfl dX9_readPerson_247 ?_
    clear hP hS; intro H locs hP hS
    obtain ⟨f_2, ef_2⟩ : ∃ z : Nat → Int32, z = upd (φ 3) (Int32.toNatClampNeg (σ 8)) z_1 := ⟨_, rfl⟩
    rw [← ef_2] at hP
    have pf_2 : PtR (-1) 1 f_2 := p_m_sex.set ef_2 (by omega) (by omega)
    refine lv_aload_n hx hb dX9_readPerson_248 rfl (lv_at hl 0 rfl) ?_
    refine mg_0_28 hx hb hts hinX9 hown hK hP (hts (.fieldLink RX9 35 "CensusDeskModel" "age" "[I") (List.mem_of_getElem? (i := 12) rfl)) dX9_readPerson_249 ?_
    refine lv_aload_n hx hb dX9_readPerson_252 rfl (lv_at hl 0 rfl) ?_
    refine mg_0_32 (v := (σ 8)) hx hb hts hinX9 hown hK hP (hts (.fieldLink RX9 252 "CensusDeskModel" "persons" "I") (List.mem_of_getElem? (i := 11) rfl)) rfl dX9_readPerson_253 ?_
    refine lv_aload_n hx hb dX9_readPerson_256 rfl (lv_at hl 0 rfl) ?_
    refine mg_0_52 hx hb hts hinX9 hown hK hP (hts (.fieldLink RX9 80 "CensusDeskModel" "fields" "[I") (List.mem_of_getElem? (i := 6) rfl)) dX9_readPerson_257 ?_
    refine lv_iconst (v := 1) hx hb dX9_readPerson_260 (by decide) ?_
    refine ml_24 (f := f7_c233) hx hb hK hP (i := 1) (vp_in_nI (n := 1) (by decide) (by decide)) rfl dX9_readPerson_261 ?_
    refine lv_topi (fun z_3 ez_3 => ?_)
    have tz_3 : (Int32.toInt z_3) = Int32.toInt (f7_c233 1) := congrArg Int32.toInt ez_3
    refine ms_9 (f := (ψ 4)) hx hb hK hP hI hS (i := (σ 8)) (x := z_3) (vin rfl (by omega)) rfl dX9_readPerson_262 ?_
    clear hP hS; intro H locs hP hS
    obtain ⟨f_4, ef_4⟩ : ∃ z : Nat → Int32, z = upd (ψ 4) (Int32.toNatClampNeg (σ 8)) z_3 := ⟨_, rfl⟩
    rw [← ef_4] at hP
    refine lv_aload_n hx hb dX9_readPerson_263 rfl (lv_at hl 0 rfl) ?_
    refine mg_0_29 hx hb hts hinX9 hown hK hP (hts (.fieldLink RX9 38 "CensusDeskModel" "trade" "[I") (List.mem_of_getElem? (i := 13) rfl)) dX9_readPerson_264 ?_
    refine lv_aload_n hx hb dX9_readPerson_267 rfl (lv_at hl 0 rfl) ?_
    refine mg_0_32 (v := (σ 8)) hx hb hts hinX9 hown hK hP (hts (.fieldLink RX9 252 "CensusDeskModel" "persons" "I") (List.mem_of_getElem? (i := 11) rfl)) rfl dX9_readPerson_268 ?_
    refine lv_aload_n hx hb dX9_readPerson_271 rfl (lv_at hl 0 rfl) ?_
    refine mg_0_52 hx hb hts hinX9 hown hK hP (hts (.fieldLink RX9 80 "CensusDeskModel" "fields" "[I") (List.mem_of_getElem? (i := 6) rfl)) dX9_readPerson_272 ?_
    refine lv_iconst (v := 2) hx hb dX9_readPerson_275 (by decide) ?_
    refine ml_24 (f := f7_c233) hx hb hK hP (i := 2) (vp_in_nI (n := 2) (by decide) (by decide)) rfl dX9_readPerson_276 ?_
    refine lv_topi (fun z_5 ez_5 => ?_)
    have tz_5 : (Int32.toInt z_5) = Int32.toInt (f7_c233 2) := congrArg Int32.toInt ez_5
    refine ms_10 (f := (ψ 5)) hx hb hK hP hI hS (i := (σ 8)) (x := z_5) (vin rfl (by omega)) rfl dX9_readPerson_277 ?_
    clear hP hS; intro H locs hP hS
    obtain ⟨f_6, ef_6⟩ : ∃ z : Nat → Int32, z = upd (ψ 5) (Int32.toNatClampNeg (σ 8)) z_5 := ⟨_, rfl⟩
    rw [← ef_6] at hP
    refine lv_aload_n hx hb dX9_readPerson_278 rfl (lv_at hl 0 rfl) ?_
    refine mg_0_30 hx hb hts hinX9 hown hK hP (hts (.fieldLink RX9 41 "CensusDeskModel" "nameAt" "[I") (List.mem_of_getElem? (i := 14) rfl)) dX9_readPerson_279 ?_
    refine lv_aload_n hx hb dX9_readPerson_282 rfl (lv_at hl 0 rfl) ?_
    refine mg_0_32 (v := (σ 8)) hx hb hts hinX9 hown hK hP (hts (.fieldLink RX9 252 "CensusDeskModel" "persons" "I") (List.mem_of_getElem? (i := 11) rfl)) rfl dX9_readPerson_283 ?_
    refine lv_aload_n hx hb dX9_readPerson_286 rfl (lv_at hl 0 rfl) ?_
    refine mg_0_34 (v := (σ 9)) hx hb hts hinX9 hown hK hP (hts (.fieldLink RX9 240 "CensusDeskModel" "nameEnd" "I") (List.mem_of_getElem? (i := 4) rfl)) rfl dX9_readPerson_287 ?_
    refine ms_11 (f := (φ 4)) hx hb hK hP hI hS (i := (σ 8)) (x := (σ 9)) (vin rfl (by omega)) rfl dX9_readPerson_290 ?_
    clear hP hS; intro H locs hP hS
    obtain ⟨f_7, ef_7⟩ : ∃ z : Nat → Int32, z = upd (φ 4) (Int32.toNatClampNeg (σ 8)) (σ 9) := ⟨_, rfl⟩
    rw [← ef_7] at hP
    have pf_7 : PtR 0 4000 f_7 := p_m_nameAt.set ef_7 (by omega) (by omega)
    refine lv_aload_n hx hb dX9_readPerson_291 rfl (lv_at hl 0 rfl) ?_
    refine mg_0_31 hx hb hts hinX9 hown hK hP (hts (.fieldLink RX9 44 "CensusDeskModel" "nameSize" "[I") (List.mem_of_getElem? (i := 15) rfl)) dX9_readPerson_292 ?_
    refine lv_aload_n hx hb dX9_readPerson_295 rfl (lv_at hl 0 rfl) ?_
    refine mg_0_32 (v := (σ 8)) hx hb hts hinX9 hown hK hP (hts (.fieldLink RX9 252 "CensusDeskModel" "persons" "I") (List.mem_of_getElem? (i := 11) rfl)) rfl dX9_readPerson_296 ?_
    refine lv_iload_n hx hb dX9_readPerson_299 rfl (lv_at hl 1 rfl) ?_
    refine ms_12 (f := (φ 5)) hx hb hK hP hI hS (i := (σ 8)) (x := size) (vin rfl (by omega)) rfl dX9_readPerson_300 ?_
    clear hP hS; intro H locs hP hS
    obtain ⟨f_8, ef_8⟩ : ∃ z : Nat → Int32, z = upd (φ 5) (Int32.toNatClampNeg (σ 8)) size := ⟨_, rfl⟩
    rw [← ef_8] at hP
    have pf_8 : PtR 0 30 f_8 := p_m_nameSize.set ef_8 (by omega) (by omega)
    have hpn := tn_eq (x := (σ 8)) (by omega)
    have hfn := tn_eq (x := (σ 4)) (by omega)
    have hNA2 : ∀ i : Nat, Int32.toInt (f_7 i) + Int32.toInt (f_8 i) ≤ 4000 := fun i => by
      by_cases hi : i = Int32.toNatClampNeg (σ 8)
      · rw [ef_7, ef_8, hi, pk_us, pk_us]; omega
      · rw [ef_7, ef_8, pk_un hi, pk_un hi]; exact hNA i
    have hNF2 : Int32.toInt (f_7 (Int32.toNatClampNeg (σ 4))) ≤ (Int32.toInt (σ 5)) := by
      by_cases hi : Int32.toNatClampNeg (σ 4) = Int32.toNatClampNeg (σ 8)
      · rw [ef_7, hi, pk_us]; omega
      · rw [ef_7, pk_un hi]; omega
    refine lv_aload_n hx hb dX9_readPerson_301 rfl (lv_at hl 0 rfl) ?_
    refine lv_dup hx hb dX9_readPerson_302 rfl ?_
    refine mg_0_34 (v := (σ 9)) hx hb hts hinX9 hown hK hP (hts (.fieldLink RX9 240 "CensusDeskModel" "nameEnd" "I") (List.mem_of_getElem? (i := 4) rfl)) rfl dX9_readPerson_303 ?_
    refine lv_iload_n hx hb dX9_readPerson_306 rfl (lv_at hl 1 rfl) ?_
    refine lv_iadd hx hb dX9_readPerson_307 ?_
    refine lv_topi (fun z_9 ez_9 => ?_)
    have tz_9 : (Int32.toInt z_9) = (Int32.toInt (σ 9)) + (Int32.toInt size) := aI_add rfl rfl ez_9 (by have := rng (σ 9); have := rng size; omega)
    refine mp_0_34 (v := z_9) hx hb hts hinX9 hown hK hP hI hS (hts (.fieldLink RX9 240 "CensusDeskModel" "nameEnd" "I") (List.mem_of_getElem? (i := 4) rfl)) dX9_readPerson_308 ?_
    clear hP hS; intro H locs hP hS
    refine lv_aload_n hx hb dX9_readPerson_311 rfl (lv_at hl 0 rfl) ?_
    refine lv_dup hx hb dX9_readPerson_312 rfl ?_
    refine mg_0_32 (v := (σ 8)) hx hb hts hinX9 hown hK hP (hts (.fieldLink RX9 252 "CensusDeskModel" "persons" "I") (List.mem_of_getElem? (i := 11) rfl)) rfl dX9_readPerson_313 ?_
    refine lv_iconst (v := 1) hx hb dX9_readPerson_316 (by decide) ?_
    refine lv_iadd hx hb dX9_readPerson_317 ?_
    refine lv_topi (fun z_10 ez_10 => ?_)
    have tz_10 : (Int32.toInt z_10) = (Int32.toInt (σ 8)) + 1 := aI_add rfl L_1 ez_10 (by have := rng (σ 8); omega)
    refine mp_0_32 (v := z_10) hx hb hts hinX9 hown hK hP hI hS (hts (.fieldLink RX9 252 "CensusDeskModel" "persons" "I") (List.mem_of_getElem? (i := 11) rfl)) dX9_readPerson_318 ?_
    clear hP hS; intro H locs hP hS
    subst eQ
    exact W.vret hx hb hr (fun t ht hW => ⟨⟨((up (up (up (up (up σ 10 s10_c233) 11 s11_c233) 12 s12_c233) 9 z_9) 8 z_10), (up (up (up (up (up φ 6 f6_c233) 7 f7_c233) 3 f_2) 4 f_7) 5 f_8), γ, (up (up ψ 4 f_4) 5 f_6)), rfl, ⟨s10_c233, f6_c233, s11_c233, s12_c233, f7_c233, f_2, f_7, f_8, z_9, z_10, rfl, rfl, pf_2, pf_7, pf_8, (show (Int32.toInt (σ 10)) ≤ (Int32.toInt s10_c233) ∧ (Int32.toInt s10_c233) ≤ (Int32.toInt (σ 10)) + 90000 from (by omega)), (show ∀ i : Nat, i < 300 → (i : Int) < (Int32.toInt s10_c233) → Int32.toInt (f6_c233 i) < i from (by with_reducible assumption)), (show (Int32.toInt (σ 8)) ≤ (Int32.toInt z_10) ∧ (Int32.toInt z_10) ≤ (Int32.toInt (σ 8)) + 1 from (by omega)), (show 0 ≤ (Int32.toInt z_9) ∧ (Int32.toInt z_9) ≤ (Int32.toInt (σ 6)) from (by omega)), (show ∀ i : Nat, Int32.toInt (f_7 i) + Int32.toInt (f_8 i) ≤ 4000 from (by with_reducible assumption)), (show (Int32.toInt (σ 3)) = 0 ∨ (Int32.toInt z_10) ≤ (Int32.toInt (σ 4)) ∨ Int32.toInt (f_7 (Int32.toNatClampNeg (σ 4))) ≤ (Int32.toInt (σ 5)) from (by omega))⟩, (by show va_P _ _ _ _; rw [ht]; exact hP)⟩, hS.F ht⟩) hS.2.2 dX9_readPerson_321
  have J164 : ∀ (size : Int32) (s10_c164 : Int32) (f6_c164 : Nat → Int32) (s11_c164 : Int32) (s12_c164 : Int32) (f7_c164 : Nat → Int32) (γ : Nat → Int32) (ψ : Nat → Nat → Int32) (H : Heap) (locs : List Loc) (ls : Array Slot), (0 ≤ (Int32.toInt (σ 4)) ∧ (Int32.toInt (σ 4)) ≤ (Int32.toInt (σ 8)) ∧ (Int32.toInt (σ 8)) ≤ 2000 ∧ (Int32.toInt (σ 3)) ≠ 0) → (0 ≤ (Int32.toInt size) ∧ (Int32.toInt size) ≤ 30 ∧ (Int32.toInt size) ≤ (Int32.toInt (σ 6)) - (Int32.toInt (σ 5))) → ((Int32.toInt (σ 10)) ≤ (Int32.toInt s10_c164) ∧ (Int32.toInt s10_c164) ≤ (Int32.toInt (σ 10)) + 80030) → (∀ i : Nat, i < 300 → (i : Int) < (Int32.toInt s10_c164) → Int32.toInt (f6_c164 i) < i) → ((Int32.toInt (γ 9)) ≠ 0 ∨ (-1 ≤ Int32.toInt (f7_c164 0) ∧ Int32.toInt (f7_c164 0) ≤ 1)) → va_P (dC, dI) vwCl (mw a κ ((up (up (up σ 10 s10_c164) 11 s11_c164) 12 s12_c164), (up (up φ 6 f6_c164) 7 f7_c164), γ, ψ)) H → va_S (mA a) s.heap H locs → lv_has ls 5 [(0, .ref (a 0)), (2, .int size)] → W p l e ({ frames := 9, cells := 0, slots := 0, locals := 219 } : Room) s m ([.ref (a 0), .int sort] : List Value).toArray below meth c H locs 0 0 QQ (F0 m 164 ls []) := by
    intro size s10_c164 f6_c164 s11_c164 s12_c164 f7_c164 γ ψ H locs ls hp v0 vf hfc v1 hP hS hl
    refine lv_aload_n hx hb dX9_readPerson_164 rfl (lv_at hl 0 rfl) ?_
    refine mg_0_20 (v := (γ 9)) hx hb hts hinX9 hown hK hP (hts (.fieldLink RX9 177 "CensusDeskModel" "lineLost" "Z") (List.mem_of_getElem? (i := 1) rfl)) rfl dX9_readPerson_165 ?_
    refine lv_if_eq (tgt := 172) hx hb dX9_readPerson_168 (by decide) (fun c_11 => ?_) (fun c_11 => ?_)
    · have kc_11 := bI_eq rfl L_0 c_11
      refine lv_aload_n hx hb dX9_readPerson_172 rfl (lv_at hl 0 rfl) ?_
      refine lv_iload_n hx hb dX9_readPerson_173 rfl (lv_at hl 1 rfl) ?_
      refine m_calli (va_runV (As := [.int size]) (rest := []) ⟨hx, hb, hml, hown, hts⟩ (c_X9_isTwice l dC dI a κ (up (up (up σ 10 s10_c164) 11 s11_c164) 12 s12_c164) (up (up φ 6 f6_c164) 7 f7_c164) γ ψ size p_m_nameAt p_m_nameSize (show 0 ≤ (Int32.toInt (σ 4)) ∧ (Int32.toInt (σ 4)) ≤ (Int32.toInt (σ 8)) ∧ (Int32.toInt (σ 8)) ≤ 2000 from (by omega)) (show 0 ≤ (Int32.toInt size) ∧ 0 ≤ (Int32.toInt (σ 9)) ∧ (Int32.toInt (σ 9)) + (Int32.toInt size) ≤ 4000 from (by omega)) (show ∀ i : Nat, Int32.toInt ((φ 4) i) + Int32.toInt ((φ 5) i) ≤ 4000 from (by with_reducible assumption))) (cwV 1 hts gX9_readPerson_X9_isTwice rfl rfl rfl ⟨rfl, hd_X9_isTwice⟩ ⟨Nat.le_of_ble_eq_true rfl, Nat.le_of_ble_eq_true rfl⟩) (mPreV hP hK hI hN hS (va_recv hK hP (ci := 9) (q0 := 0) rfl rfl)) rfl rfl hl.1 rfl (lv_room (Nat.le_of_ble_eq_true rfl)) dX9_readPerson_174 ⟨(by decide +kernel), (by decide +kernel)⟩) hS ?_
      clear hP hS; intro r_12 S_12 F_12 γ_12 ψ_12 H locs hw hP hS
      obtain ⟨rfl, rfl, -⟩ := hw
      refine lv_if_eq (tgt := 233) hx hb dX9_readPerson_177 (by decide) (fun c_13 => ?_) (fun c_13 => ?_)
      · have kc_13 := bI_eq rfl L_0 c_13
        exact J233 size s10_c164 f6_c164 s11_c164 s12_c164 f7_c164 γ_12 ψ_12 _ _ _ (show 0 ≤ (Int32.toInt (σ 4)) ∧ (Int32.toInt (σ 4)) ≤ (Int32.toInt (σ 8)) ∧ (Int32.toInt (σ 8)) ≤ 2000 ∧ (Int32.toInt (σ 3)) ≠ 0 from (by omega)) (show 0 ≤ (Int32.toInt size) ∧ (Int32.toInt size) ≤ 30 ∧ (Int32.toInt size) ≤ (Int32.toInt (σ 6)) - (Int32.toInt (σ 5)) from (by omega)) (show (Int32.toInt (σ 10)) ≤ (Int32.toInt s10_c164) ∧ (Int32.toInt s10_c164) ≤ (Int32.toInt (σ 10)) + 80040 from (by omega)) (show ∀ i : Nat, i < 300 → (i : Int) < (Int32.toInt s10_c164) → Int32.toInt (f6_c164 i) < i from (by with_reducible assumption)) (show -1 ≤ Int32.toInt (f7_c164 0) ∧ Int32.toInt (f7_c164 0) ≤ 1 from (by omega)) hP hS (lv_sub hl [0, 1] rfl)
      · have kc_13 := bI_ne rfl L_0 c_13
        refine lv_aload_n hx hb dX9_readPerson_180 rfl (lv_at hl 0 rfl) ?_
        refine lv_bipush (v := 17) hx hb dX9_readPerson_181 (by decide) ?_
        refine lv_aload_n hx hb dX9_readPerson_183 rfl (lv_at hl 0 rfl) ?_
        refine mg_0_18 (v := (σ 5)) hx hb hts hinX9 hown hK hP (hts (.fieldLink RX9 171 "CensusDeskModel" "lineAt" "I") (List.mem_of_getElem? (i := 8) rfl)) rfl dX9_readPerson_184 ?_
        refine lv_iconst (v := (-1)) hx hb dX9_readPerson_187 (by decide) ?_
        refine m_calli (va_runV (As := [.int 17, .int (σ 5), .int (-1)]) (rest := []) ⟨hx, hb, hml, hown, hts⟩ (c_X9_fail l dC dI a κ (up (up (up σ 10 s10_c164) 11 s11_c164) 12 s12_c164) (up (up φ 6 f6_c164) 7 f7_c164) γ_12 ψ_12 17 (σ 5) (-1) (show 1 ≤ (Int32.toInt 17) ∧ (Int32.toInt 17) ≤ 21 from (by have := L_17; omega)) (show (Int32.toInt (-1)) < (Int32.toInt s10_c164) from (by have := L_m1; omega)) (show 0 ≤ (Int32.toInt s10_c164) ∧ (Int32.toInt s10_c164) ≤ 2000000000 from (by omega)) (show ∀ i : Nat, i < 300 → (i : Int) < (Int32.toInt s10_c164) → Int32.toInt (f6_c164 i) < i from (by with_reducible assumption))) (cwV 3 hts gX9_readPerson_X9_fail rfl rfl rfl ⟨rfl, hd_X9_fail⟩ ⟨Nat.le_of_ble_eq_true rfl, Nat.le_of_ble_eq_true rfl⟩) (mPreV hP hK hI hN hS (va_recv hK hP (ci := 9) (q0 := 0) rfl rfl)) rfl rfl hl.1 rfl (lv_room (Nat.le_of_ble_eq_true rfl)) dX9_readPerson_188 ⟨(by decide +kernel), (by decide +kernel)⟩) hS ?_
        clear hP hS; intro r_14 S_14 F_14 γ_14 ψ_14 H locs hw hP hS
        obtain ⟨s10_14, f6_14, rfl, rfl, (qr_14 : (Int32.toInt r_14) = (Int32.toInt s10_c164) ∧ (Int32.toInt s10_14) = (Int32.toInt s10_c164) + 1), (qc_14 : ∀ i : Nat, i < 300 → (i : Int) < (Int32.toInt s10_14) → Int32.toInt (f6_14 i) < i)⟩ := hw
        have hLm1_14 := L_m1
        have hL17_14 := L_17
        refine lv_istore_n (lv' := [(3, .int r_14), (0, .ref (a 0)), (2, .int size)]) hx hb dX9_readPerson_191 rfl hl (by decide) rfl ?_
        clear hl; intro ls hl
        refine lv_aload_n hx hb dX9_readPerson_192 rfl (lv_at hl 1 rfl) ?_
        refine mg_0_44 (v := (γ_14 11)) hx hb hts hinX9 hown hK hP (hts (.fieldLink RX9 125 "CensusDeskModel" "way" "I") (List.mem_of_getElem? (i := 9) rfl)) rfl dX9_readPerson_193 ?_
        refine lv_if_ne (tgt := 203) hx hb dX9_readPerson_196 (by decide) (fun c_15 => ?_) (fun c_15 => ?_)
        · have kc_15 := bI_ne rfl L_0 c_15
          refine lv_iconst (v := 0) hx hb dX9_readPerson_203 (by decide) ?_
          refine lv_istore (lv' := [(4, .int 0), (3, .int r_14), (0, .ref (a 0)), (2, .int size)]) hx hb dX9_readPerson_204 hl (by decide) rfl ?_
          clear hl; intro ls hl
          refine lv_aload_n hx hb dX9_readPerson_206 rfl (lv_at hl 2 rfl) ?_
          refine mg_0_44 (v := (γ_14 11)) hx hb hts hinX9 hown hK hP (hts (.fieldLink RX9 125 "CensusDeskModel" "way" "I") (List.mem_of_getElem? (i := 9) rfl)) rfl dX9_readPerson_207 ?_
          refine m_calli (va_runS (As := [.int (γ_14 11)]) (rest := []) ⟨hx, hb, hml, hown, hts⟩ (c_X9_goesOn l dC dI a κ (up (up (up (up σ 10 s10_c164) 11 s11_c164) 12 s12_c164) 10 s10_14) (up (up (up φ 6 f6_c164) 7 f7_c164) 6 f6_14) γ_14 ψ_14 (γ_14 11) ) (va_cwS 1 hts gX9_readPerson_X9_goesOn rfl rfl rfl hd_X9_goesOn ⟨Nat.le_of_ble_eq_true rfl, Nat.le_of_ble_eq_true rfl⟩) (mPreS hP hK hI hN hS) rfl rfl hl.1 rfl (lv_room (Nat.le_of_ble_eq_true rfl)) dX9_readPerson_210 ⟨(by decide +kernel), (by decide +kernel)⟩) hS ?_
          clear hP hS; intro r_16 S_16 F_16 γ_16 ψ_16 H locs hw hP hS
          obtain ⟨rfl, rfl, -⟩ := hw
          refine lv_if_ne (tgt := 233) hx hb dX9_readPerson_213 (by decide) (fun c_17 => ?_) (fun c_17 => ?_)
          · have kc_17 := bI_ne rfl L_0 c_17
            exact J233 size s10_14 f6_14 s11_c164 s12_c164 f7_c164 γ_16 ψ_16 _ _ _ (show 0 ≤ (Int32.toInt (σ 4)) ∧ (Int32.toInt (σ 4)) ≤ (Int32.toInt (σ 8)) ∧ (Int32.toInt (σ 8)) ≤ 2000 ∧ (Int32.toInt (σ 3)) ≠ 0 from (by omega)) (show 0 ≤ (Int32.toInt size) ∧ (Int32.toInt size) ≤ 30 ∧ (Int32.toInt size) ≤ (Int32.toInt (σ 6)) - (Int32.toInt (σ 5)) from (by omega)) (show (Int32.toInt (σ 10)) ≤ (Int32.toInt s10_14) ∧ (Int32.toInt s10_14) ≤ (Int32.toInt (σ 10)) + 80040 from (by omega)) (show ∀ i : Nat, i < 300 → (i : Int) < (Int32.toInt s10_14) → Int32.toInt (f6_14 i) < i from (by with_reducible assumption)) (show -1 ≤ Int32.toInt (f7_c164 0) ∧ Int32.toInt (f7_c164 0) ≤ 1 from (by omega)) hP hS (lv_sub hl [2, 3] rfl)
          · have kc_17 := bI_eq rfl L_0 c_17
            refine lv_iload hx hb dX9_readPerson_216 (lv_at hl 0 rfl) ?_
            refine lv_if_eq (tgt := 232) hx hb dX9_readPerson_218 (by decide) (fun c_18 => ?_) (fun c_18 => absurd c_18 (by decide))
            subst eQ
            exact W.vret hx hb hr (fun t ht hW => ⟨⟨((up (up (up (up (up σ 10 s10_14) 11 s11_c164) 12 s12_c164) 9 (σ 9)) 8 (σ 8)), (up (up (up (up (up φ 6 f6_14) 7 f7_c164) 3 (φ 3)) 4 (φ 4)) 5 (φ 5)), γ_16, ψ_16), rfl, ⟨s10_14, f6_14, s11_c164, s12_c164, f7_c164, (φ 3), (φ 4), (φ 5), (σ 9), (σ 8), rfl, rfl, p_m_sex, p_m_nameAt, p_m_nameSize, (show (Int32.toInt (σ 10)) ≤ (Int32.toInt s10_14) ∧ (Int32.toInt s10_14) ≤ (Int32.toInt (σ 10)) + 90000 from (by omega)), (show ∀ i : Nat, i < 300 → (i : Int) < (Int32.toInt s10_14) → Int32.toInt (f6_14 i) < i from (by with_reducible assumption)), (show (Int32.toInt (σ 8)) ≤ (Int32.toInt (σ 8)) ∧ (Int32.toInt (σ 8)) ≤ (Int32.toInt (σ 8)) + 1 from (by omega)), (show 0 ≤ (Int32.toInt (σ 9)) ∧ (Int32.toInt (σ 9)) ≤ (Int32.toInt (σ 6)) from (by omega)), (show ∀ i : Nat, Int32.toInt ((φ 4) i) + Int32.toInt ((φ 5) i) ≤ 4000 from (by with_reducible assumption)), (show (Int32.toInt (σ 3)) = 0 ∨ (Int32.toInt (σ 8)) ≤ (Int32.toInt (σ 4)) ∨ Int32.toInt ((φ 4) (Int32.toNatClampNeg (σ 4))) ≤ (Int32.toInt (σ 5)) from (by omega))⟩, (by show va_P _ _ _ _; rw [ht]; exact hP)⟩, hS.F ht⟩) hS.2.2 dX9_readPerson_232
        · have kc_15 := bI_eq rfl L_0 c_15
          refine lv_iconst (v := 1) hx hb dX9_readPerson_199 (by decide) ?_
          refine lv_goto (tgt := 204) hx hb dX9_readPerson_200 (by decide) ?_
          refine lv_istore (lv' := [(4, .int 1), (3, .int r_14), (0, .ref (a 0)), (2, .int size)]) hx hb dX9_readPerson_204 hl (by decide) rfl ?_
          clear hl; intro ls hl
          refine lv_aload_n hx hb dX9_readPerson_206 rfl (lv_at hl 2 rfl) ?_
          refine mg_0_44 (v := (γ_14 11)) hx hb hts hinX9 hown hK hP (hts (.fieldLink RX9 125 "CensusDeskModel" "way" "I") (List.mem_of_getElem? (i := 9) rfl)) rfl dX9_readPerson_207 ?_
          refine m_calli (va_runS (As := [.int (γ_14 11)]) (rest := []) ⟨hx, hb, hml, hown, hts⟩ (c_X9_goesOn l dC dI a κ (up (up (up (up σ 10 s10_c164) 11 s11_c164) 12 s12_c164) 10 s10_14) (up (up (up φ 6 f6_c164) 7 f7_c164) 6 f6_14) γ_14 ψ_14 (γ_14 11) ) (va_cwS 1 hts gX9_readPerson_X9_goesOn rfl rfl rfl hd_X9_goesOn ⟨Nat.le_of_ble_eq_true rfl, Nat.le_of_ble_eq_true rfl⟩) (mPreS hP hK hI hN hS) rfl rfl hl.1 rfl (lv_room (Nat.le_of_ble_eq_true rfl)) dX9_readPerson_210 ⟨(by decide +kernel), (by decide +kernel)⟩) hS ?_
          clear hP hS; intro r_19 S_19 F_19 γ_19 ψ_19 H locs hw hP hS
          obtain ⟨rfl, rfl, -⟩ := hw
          refine lv_if_ne (tgt := 233) hx hb dX9_readPerson_213 (by decide) (fun c_20 => ?_) (fun c_20 => ?_)
          · have kc_20 := bI_ne rfl L_0 c_20
            exact J233 size s10_14 f6_14 s11_c164 s12_c164 f7_c164 γ_19 ψ_19 _ _ _ (show 0 ≤ (Int32.toInt (σ 4)) ∧ (Int32.toInt (σ 4)) ≤ (Int32.toInt (σ 8)) ∧ (Int32.toInt (σ 8)) ≤ 2000 ∧ (Int32.toInt (σ 3)) ≠ 0 from (by omega)) (show 0 ≤ (Int32.toInt size) ∧ (Int32.toInt size) ≤ 30 ∧ (Int32.toInt size) ≤ (Int32.toInt (σ 6)) - (Int32.toInt (σ 5)) from (by omega)) (show (Int32.toInt (σ 10)) ≤ (Int32.toInt s10_14) ∧ (Int32.toInt s10_14) ≤ (Int32.toInt (σ 10)) + 80040 from (by omega)) (show ∀ i : Nat, i < 300 → (i : Int) < (Int32.toInt s10_14) → Int32.toInt (f6_14 i) < i from (by with_reducible assumption)) (show -1 ≤ Int32.toInt (f7_c164 0) ∧ Int32.toInt (f7_c164 0) ≤ 1 from (by omega)) hP hS (lv_sub hl [2, 3] rfl)
          · have kc_20 := bI_eq rfl L_0 c_20
            refine lv_iload hx hb dX9_readPerson_216 (lv_at hl 0 rfl) ?_
            refine lv_if_eq (tgt := 232) hx hb dX9_readPerson_218 (by decide) (fun c_21 => absurd c_21 (by decide)) (fun c_21 => ?_)
            refine lv_aload_n hx hb dX9_readPerson_221 rfl (lv_at hl 2 rfl) ?_
            refine lv_bipush (v := 18) hx hb dX9_readPerson_222 (by decide) ?_
            refine lv_aload_n hx hb dX9_readPerson_224 rfl (lv_at hl 2 rfl) ?_
            refine mg_0_18 (v := (σ 5)) hx hb hts hinX9 hown hK hP (hts (.fieldLink RX9 171 "CensusDeskModel" "lineAt" "I") (List.mem_of_getElem? (i := 8) rfl)) rfl dX9_readPerson_225 ?_
            refine lv_iload_n hx hb dX9_readPerson_228 rfl (lv_at hl 1 rfl) ?_
            refine m_callv (va_runV (As := [.int 18, .int (σ 5), .int r_14]) (rest := []) ⟨hx, hb, hml, hown, hts⟩ (c_X9_failHouse l dC dI a κ (up (up (up (up σ 10 s10_c164) 11 s11_c164) 12 s12_c164) 10 s10_14) (up (up (up φ 6 f6_c164) 7 f7_c164) 6 f6_14) γ_19 ψ_19 18 (σ 5) r_14 (show 1 ≤ (Int32.toInt 18) ∧ (Int32.toInt 18) ≤ 21 from (by have := L_18; omega)) (show (Int32.toInt r_14) < (Int32.toInt s10_14) from (by omega)) (show 0 ≤ (Int32.toInt s10_14) ∧ (Int32.toInt s10_14) ≤ 1999999990 from (by omega)) (show ∀ i : Nat, i < 300 → (i : Int) < (Int32.toInt s10_14) → Int32.toInt (f6_14 i) < i from (by with_reducible assumption))) (cwV 3 hts gX9_readPerson_X9_failHouse rfl rfl rfl ⟨rfl, hd_X9_failHouse⟩ ⟨Nat.le_of_ble_eq_true rfl, Nat.le_of_ble_eq_true rfl⟩) (mPreV hP hK hI hN hS (va_recv hK hP (ci := 9) (q0 := 0) rfl rfl)) rfl rfl hl.1 rfl (lv_room (Nat.le_of_ble_eq_true rfl)) dX9_readPerson_229 ⟨(by decide +kernel), (by decide +kernel)⟩) hS ?_
            clear hP hS; intro S_22 F_22 γ_22 ψ_22 H locs hw hP hS
            obtain ⟨s10_22, f6_22, rfl, rfl, (qf_22 : (Int32.toInt s10_14) ≤ (Int32.toInt s10_22) ∧ (Int32.toInt s10_22) ≤ (Int32.toInt s10_14) + 2), (qc_22 : ∀ i : Nat, i < 300 → (i : Int) < (Int32.toInt s10_22) → Int32.toInt (f6_22 i) < i)⟩ := hw
            have hL18_22 := L_18
            subst eQ
            exact W.vret hx hb hr (fun t ht hW => ⟨⟨((up (up (up (up (up σ 10 s10_22) 11 s11_c164) 12 s12_c164) 9 (σ 9)) 8 (σ 8)), (up (up (up (up (up φ 6 f6_22) 7 f7_c164) 3 (φ 3)) 4 (φ 4)) 5 (φ 5)), γ_22, ψ_22), rfl, ⟨s10_22, f6_22, s11_c164, s12_c164, f7_c164, (φ 3), (φ 4), (φ 5), (σ 9), (σ 8), rfl, rfl, p_m_sex, p_m_nameAt, p_m_nameSize, (show (Int32.toInt (σ 10)) ≤ (Int32.toInt s10_22) ∧ (Int32.toInt s10_22) ≤ (Int32.toInt (σ 10)) + 90000 from (by omega)), (show ∀ i : Nat, i < 300 → (i : Int) < (Int32.toInt s10_22) → Int32.toInt (f6_22 i) < i from (by with_reducible assumption)), (show (Int32.toInt (σ 8)) ≤ (Int32.toInt (σ 8)) ∧ (Int32.toInt (σ 8)) ≤ (Int32.toInt (σ 8)) + 1 from (by omega)), (show 0 ≤ (Int32.toInt (σ 9)) ∧ (Int32.toInt (σ 9)) ≤ (Int32.toInt (σ 6)) from (by omega)), (show ∀ i : Nat, Int32.toInt ((φ 4) i) + Int32.toInt ((φ 5) i) ≤ 4000 from (by with_reducible assumption)), (show (Int32.toInt (σ 3)) = 0 ∨ (Int32.toInt (σ 8)) ≤ (Int32.toInt (σ 4)) ∨ Int32.toInt ((φ 4) (Int32.toNatClampNeg (σ 4))) ≤ (Int32.toInt (σ 5)) from (by omega))⟩, (by show va_P _ _ _ _; rw [ht]; exact hP)⟩, hS.F ht⟩) hS.2.2 dX9_readPerson_232
    · have kc_11 := bI_ne rfl L_0 c_11
      subst eQ
      exact W.vret hx hb hr (fun t ht hW => ⟨⟨((up (up (up (up (up σ 10 s10_c164) 11 s11_c164) 12 s12_c164) 9 (σ 9)) 8 (σ 8)), (up (up (up (up (up φ 6 f6_c164) 7 f7_c164) 3 (φ 3)) 4 (φ 4)) 5 (φ 5)), γ, ψ), rfl, ⟨s10_c164, f6_c164, s11_c164, s12_c164, f7_c164, (φ 3), (φ 4), (φ 5), (σ 9), (σ 8), rfl, rfl, p_m_sex, p_m_nameAt, p_m_nameSize, (show (Int32.toInt (σ 10)) ≤ (Int32.toInt s10_c164) ∧ (Int32.toInt s10_c164) ≤ (Int32.toInt (σ 10)) + 90000 from (by omega)), (show ∀ i : Nat, i < 300 → (i : Int) < (Int32.toInt s10_c164) → Int32.toInt (f6_c164 i) < i from (by with_reducible assumption)), (show (Int32.toInt (σ 8)) ≤ (Int32.toInt (σ 8)) ∧ (Int32.toInt (σ 8)) ≤ (Int32.toInt (σ 8)) + 1 from (by omega)), (show 0 ≤ (Int32.toInt (σ 9)) ∧ (Int32.toInt (σ 9)) ≤ (Int32.toInt (σ 6)) from (by omega)), (show ∀ i : Nat, Int32.toInt ((φ 4) i) + Int32.toInt ((φ 5) i) ≤ 4000 from (by with_reducible assumption)), (show (Int32.toInt (σ 3)) = 0 ∨ (Int32.toInt (σ 8)) ≤ (Int32.toInt (σ 4)) ∨ Int32.toInt ((φ 4) (Int32.toNatClampNeg (σ 4))) ≤ (Int32.toInt (σ 5)) from (by omega))⟩, (by show va_P _ _ _ _; rw [ht]; exact hP)⟩, hS.F ht⟩) hS.2.2 dX9_readPerson_171
  have J61 : ∀ (n61 : Nat), ∀ (size : Int32) (k : Int32) (s10_c61 : Int32) (f6_c61 : Nat → Int32) (s11_c61 : Int32) (s12_c61 : Int32) (f7_c61 : Nat → Int32) (γ : Nat → Int32) (ψ : Nat → Nat → Int32) (H : Heap) (locs : List Loc) (ls : Array Slot), (0 ≤ (Int32.toInt (σ 4)) ∧ (Int32.toInt (σ 4)) ≤ (Int32.toInt (σ 8)) ∧ (Int32.toInt (σ 8)) ≤ 2000 ∧ (Int32.toInt (σ 3)) ≠ 0) → (0 ≤ (Int32.toInt k) ∧ (Int32.toInt k) ≤ 3 ∧ 0 ≤ (Int32.toInt size) ∧ (Int32.toInt size) ≤ 30 ∧ (Int32.toInt size) ≤ (Int32.toInt (σ 6)) - (Int32.toInt (σ 5))) → ((Int32.toInt (σ 10)) ≤ (Int32.toInt s10_c61) ∧ (Int32.toInt s10_c61) ≤ (Int32.toInt (σ 10)) + 20007 + 20004 * (Int32.toInt k)) → (∀ i : Nat, i < 300 → (i : Int) < (Int32.toInt s10_c61) → Int32.toInt (f6_c61 i) < i) → ((Int32.toInt k) = 0 ∨ (-1 ≤ Int32.toInt (f7_c61 0) ∧ Int32.toInt (f7_c61 0) ≤ 1)) → ((3 - (Int32.toInt k)).toNat < n61) → va_P (dC, dI) vwCl (mw a κ ((up (up (up σ 10 s10_c61) 11 s11_c61) 12 s12_c61), (up (up φ 6 f6_c61) 7 f7_c61), γ, ψ)) H → va_S (mA a) s.heap H locs → lv_has ls 5 [(0, .ref (a 0)), (2, .int size), (3, .int k)] → W p l e ({ frames := 9, cells := 0, slots := 0, locals := 219 } : Room) s m ([.ref (a 0), .int sort] : List Value).toArray below meth c H locs 0 0 QQ (F0 m 61 ls []) := by
    intro n61
    induction n61 with
    | zero =>
      intro size k s10_c61 f6_c61 s11_c61 s12_c61 f7_c61 γ ψ H locs ls hp v0 vf hfc v1 hm
      exact absurd hm (Nat.not_lt_zero _)
    | succ n61 ih61 =>
      intro size k s10_c61 f6_c61 s11_c61 s12_c61 f7_c61 γ ψ H locs ls hp v0 vf hfc v1 hm hP hS hl
      refine lv_iload_n hx hb dX9_readPerson_61 rfl (lv_at hl 2 rfl) ?_
      refine lv_iconst (v := 3) hx hb dX9_readPerson_62 (by decide) ?_
      refine lv_icmp_ge (tgt := 121) hx hb dX9_readPerson_63 (by decide) (fun c_23 => ?_) (fun c_23 => ?_)
      · have kc_23 := bI_le L_3 rfl c_23
        refine lv_aload_n hx hb dX9_readPerson_121 rfl (lv_at hl 0 rfl) ?_
        refine mg_0_20 (v := (γ 9)) hx hb hts hinX9 hown hK hP (hts (.fieldLink RX9 177 "CensusDeskModel" "lineLost" "Z") (List.mem_of_getElem? (i := 1) rfl)) rfl dX9_readPerson_122 ?_
        refine lv_if_ne (tgt := 164) hx hb dX9_readPerson_125 (by decide) (fun c_24 => ?_) (fun c_24 => ?_)
        · have kc_24 := bI_ne rfl L_0 c_24
          exact J164 size s10_c61 f6_c61 s11_c61 s12_c61 f7_c61 γ ψ _ _ _ (show 0 ≤ (Int32.toInt (σ 4)) ∧ (Int32.toInt (σ 4)) ≤ (Int32.toInt (σ 8)) ∧ (Int32.toInt (σ 8)) ≤ 2000 ∧ (Int32.toInt (σ 3)) ≠ 0 from (by omega)) (show 0 ≤ (Int32.toInt size) ∧ (Int32.toInt size) ≤ 30 ∧ (Int32.toInt size) ≤ (Int32.toInt (σ 6)) - (Int32.toInt (σ 5)) from (by omega)) (show (Int32.toInt (σ 10)) ≤ (Int32.toInt s10_c61) ∧ (Int32.toInt s10_c61) ≤ (Int32.toInt (σ 10)) + 80030 from (by omega)) (show ∀ i : Nat, i < 300 → (i : Int) < (Int32.toInt s10_c61) → Int32.toInt (f6_c61 i) < i from (by with_reducible assumption)) (show (Int32.toInt (γ 9)) ≠ 0 ∨ (-1 ≤ Int32.toInt (f7_c61 0) ∧ Int32.toInt (f7_c61 0) ≤ 1) from (by omega)) hP hS (lv_sub hl [0, 1] rfl)
        · have kc_24 := bI_eq rfl L_0 c_24
          refine lv_aload_n hx hb dX9_readPerson_128 rfl (lv_at hl 0 rfl) ?_
          refine mg_0_52 hx hb hts hinX9 hown hK hP (hts (.fieldLink RX9 80 "CensusDeskModel" "fields" "[I") (List.mem_of_getElem? (i := 6) rfl)) dX9_readPerson_129 ?_
          refine lv_iconst (v := 1) hx hb dX9_readPerson_132 (by decide) ?_
          refine ml_24 (f := f7_c61) hx hb hK hP (i := 1) (vp_in_nI (n := 1) (by decide) (by decide)) rfl dX9_readPerson_133 ?_
          refine lv_topi (fun z_25 ez_25 => ?_)
          have tz_25 : (Int32.toInt z_25) = Int32.toInt (f7_c61 1) := congrArg Int32.toInt ez_25
          refine lv_if_lt (tgt := 164) hx hb dX9_readPerson_134 (by decide) (fun c_26 => ?_) (fun c_26 => ?_)
          · have kc_26 := bI_lt rfl L_0 c_26
            exact J164 size s10_c61 f6_c61 s11_c61 s12_c61 f7_c61 γ ψ _ _ _ (show 0 ≤ (Int32.toInt (σ 4)) ∧ (Int32.toInt (σ 4)) ≤ (Int32.toInt (σ 8)) ∧ (Int32.toInt (σ 8)) ≤ 2000 ∧ (Int32.toInt (σ 3)) ≠ 0 from (by omega)) (show 0 ≤ (Int32.toInt size) ∧ (Int32.toInt size) ≤ 30 ∧ (Int32.toInt size) ≤ (Int32.toInt (σ 6)) - (Int32.toInt (σ 5)) from (by omega)) (show (Int32.toInt (σ 10)) ≤ (Int32.toInt s10_c61) ∧ (Int32.toInt s10_c61) ≤ (Int32.toInt (σ 10)) + 80030 from (by omega)) (show ∀ i : Nat, i < 300 → (i : Int) < (Int32.toInt s10_c61) → Int32.toInt (f6_c61 i) < i from (by with_reducible assumption)) (show (Int32.toInt (γ 9)) ≠ 0 ∨ (-1 ≤ Int32.toInt (f7_c61 0) ∧ Int32.toInt (f7_c61 0) ≤ 1) from (by omega)) hP hS (lv_sub hl [0, 1] rfl)
          · have kc_26 := bI_nlt rfl L_0 c_26
            refine lv_aload_n hx hb dX9_readPerson_137 rfl (lv_at hl 0 rfl) ?_
            refine mg_0_52 hx hb hts hinX9 hown hK hP (hts (.fieldLink RX9 80 "CensusDeskModel" "fields" "[I") (List.mem_of_getElem? (i := 6) rfl)) dX9_readPerson_138 ?_
            refine lv_iconst (v := 1) hx hb dX9_readPerson_141 (by decide) ?_
            refine ml_24 (f := f7_c61) hx hb hK hP (i := 1) (vp_in_nI (n := 1) (by decide) (by decide)) rfl dX9_readPerson_142 ?_
            refine lv_topi (fun z_27 ez_27 => ?_)
            have tz_27 : (Int32.toInt z_27) = Int32.toInt (f7_c61 1) := congrArg Int32.toInt ez_27
            refine lv_bipush (v := 10) hx hb dX9_readPerson_143 (by decide) ?_
            refine lv_icmp_ge (tgt := 164) hx hb dX9_readPerson_145 (by decide) (fun c_28 => ?_) (fun c_28 => ?_)
            · have kc_28 := bI_le L_10 rfl c_28
              exact J164 size s10_c61 f6_c61 s11_c61 s12_c61 f7_c61 γ ψ _ _ _ (show 0 ≤ (Int32.toInt (σ 4)) ∧ (Int32.toInt (σ 4)) ≤ (Int32.toInt (σ 8)) ∧ (Int32.toInt (σ 8)) ≤ 2000 ∧ (Int32.toInt (σ 3)) ≠ 0 from (by omega)) (show 0 ≤ (Int32.toInt size) ∧ (Int32.toInt size) ≤ 30 ∧ (Int32.toInt size) ≤ (Int32.toInt (σ 6)) - (Int32.toInt (σ 5)) from (by omega)) (show (Int32.toInt (σ 10)) ≤ (Int32.toInt s10_c61) ∧ (Int32.toInt s10_c61) ≤ (Int32.toInt (σ 10)) + 80030 from (by omega)) (show ∀ i : Nat, i < 300 → (i : Int) < (Int32.toInt s10_c61) → Int32.toInt (f6_c61 i) < i from (by with_reducible assumption)) (show (Int32.toInt (γ 9)) ≠ 0 ∨ (-1 ≤ Int32.toInt (f7_c61 0) ∧ Int32.toInt (f7_c61 0) ≤ 1) from (by omega)) hP hS (lv_sub hl [0, 1] rfl)
            · have kc_28 := bI_nle L_10 rfl c_28
              refine lv_aload_n hx hb dX9_readPerson_148 rfl (lv_at hl 0 rfl) ?_
              refine mg_0_52 hx hb hts hinX9 hown hK hP (hts (.fieldLink RX9 80 "CensusDeskModel" "fields" "[I") (List.mem_of_getElem? (i := 6) rfl)) dX9_readPerson_149 ?_
              refine lv_iconst (v := 2) hx hb dX9_readPerson_152 (by decide) ?_
              refine ml_24 (f := f7_c61) hx hb hK hP (i := 2) (vp_in_nI (n := 2) (by decide) (by decide)) rfl dX9_readPerson_153 ?_
              refine lv_topi (fun z_29 ez_29 => ?_)
              have tz_29 : (Int32.toInt z_29) = Int32.toInt (f7_c61 2) := congrArg Int32.toInt ez_29
              refine lv_if_le (tgt := 164) hx hb dX9_readPerson_154 (by decide) (fun c_30 => ?_) (fun c_30 => ?_)
              · have kc_30 := bI_le rfl L_0 c_30
                exact J164 size s10_c61 f6_c61 s11_c61 s12_c61 f7_c61 γ ψ _ _ _ (show 0 ≤ (Int32.toInt (σ 4)) ∧ (Int32.toInt (σ 4)) ≤ (Int32.toInt (σ 8)) ∧ (Int32.toInt (σ 8)) ≤ 2000 ∧ (Int32.toInt (σ 3)) ≠ 0 from (by omega)) (show 0 ≤ (Int32.toInt size) ∧ (Int32.toInt size) ≤ 30 ∧ (Int32.toInt size) ≤ (Int32.toInt (σ 6)) - (Int32.toInt (σ 5)) from (by omega)) (show (Int32.toInt (σ 10)) ≤ (Int32.toInt s10_c61) ∧ (Int32.toInt s10_c61) ≤ (Int32.toInt (σ 10)) + 80030 from (by omega)) (show ∀ i : Nat, i < 300 → (i : Int) < (Int32.toInt s10_c61) → Int32.toInt (f6_c61 i) < i from (by with_reducible assumption)) (show (Int32.toInt (γ 9)) ≠ 0 ∨ (-1 ≤ Int32.toInt (f7_c61 0) ∧ Int32.toInt (f7_c61 0) ≤ 1) from (by omega)) hP hS (lv_sub hl [0, 1] rfl)
              · have kc_30 := bI_nle rfl L_0 c_30
                refine lv_aload_n hx hb dX9_readPerson_157 rfl (lv_at hl 0 rfl) ?_
                refine lv_bipush (v := 12) hx hb dX9_readPerson_158 (by decide) ?_
                refine lv_iconst (v := (-1)) hx hb dX9_readPerson_160 (by decide) ?_
                refine m_callv (va_runV (As := [.int 12, .int (-1)]) (rest := []) ⟨hx, hb, hml, hown, hts⟩ (c_X9_failLine l dC dI a κ (up (up (up σ 10 s10_c61) 11 s11_c61) 12 s12_c61) (up (up φ 6 f6_c61) 7 f7_c61) γ ψ 12 (-1) (show 1 ≤ (Int32.toInt 12) ∧ (Int32.toInt 12) ≤ 21 from (by have := L_12; omega)) (show (Int32.toInt (-1)) < (Int32.toInt s10_c61) from (by have := L_m1; omega)) (show 0 ≤ (Int32.toInt s10_c61) ∧ (Int32.toInt s10_c61) ≤ 1999999970 from (by omega)) (show ∀ i : Nat, i < 300 → (i : Int) < (Int32.toInt s10_c61) → Int32.toInt (f6_c61 i) < i from (by with_reducible assumption))) (cwV 2 hts gX9_readPerson_X9_failLine rfl rfl rfl ⟨rfl, hd_X9_failLine⟩ ⟨Nat.le_of_ble_eq_true rfl, Nat.le_of_ble_eq_true rfl⟩) (mPreV hP hK hI hN hS (va_recv hK hP (ci := 9) (q0 := 0) rfl rfl)) rfl rfl hl.1 rfl (lv_room (Nat.le_of_ble_eq_true rfl)) dX9_readPerson_161 ⟨(by decide +kernel), (by decide +kernel)⟩) hS ?_
                clear hP hS; intro S_31 F_31 γ_31 ψ_31 H locs hw hP hS
                obtain ⟨s10_31, f6_31, rfl, rfl, (qf_31 : (Int32.toInt s10_c61) ≤ (Int32.toInt s10_31) ∧ (Int32.toInt s10_31) ≤ (Int32.toInt s10_c61) + 3), (qc_31 : ∀ i : Nat, i < 300 → (i : Int) < (Int32.toInt s10_31) → Int32.toInt (f6_31 i) < i)⟩ := hw
                have hLm1_31 := L_m1
                have hL12_31 := L_12
                exact J164 size s10_31 f6_31 s11_c61 s12_c61 f7_c61 γ_31 ψ_31 _ _ _ (show 0 ≤ (Int32.toInt (σ 4)) ∧ (Int32.toInt (σ 4)) ≤ (Int32.toInt (σ 8)) ∧ (Int32.toInt (σ 8)) ≤ 2000 ∧ (Int32.toInt (σ 3)) ≠ 0 from (by omega)) (show 0 ≤ (Int32.toInt size) ∧ (Int32.toInt size) ≤ 30 ∧ (Int32.toInt size) ≤ (Int32.toInt (σ 6)) - (Int32.toInt (σ 5)) from (by omega)) (show (Int32.toInt (σ 10)) ≤ (Int32.toInt s10_31) ∧ (Int32.toInt s10_31) ≤ (Int32.toInt (σ 10)) + 80030 from (by omega)) (show ∀ i : Nat, i < 300 → (i : Int) < (Int32.toInt s10_31) → Int32.toInt (f6_31 i) < i from (by with_reducible assumption)) (show (Int32.toInt (γ_31 9)) ≠ 0 ∨ (-1 ≤ Int32.toInt (f7_c61 0) ∧ Int32.toInt (f7_c61 0) ≤ 1) from (by omega)) hP hS (lv_sub hl [0, 1] rfl)
      · have kc_23 := bI_nle L_3 rfl c_23
        refine lv_aload_n hx hb dX9_readPerson_66 rfl (lv_at hl 0 rfl) ?_
        refine mg_0_20 (v := (γ 9)) hx hb hts hinX9 hown hK hP (hts (.fieldLink RX9 177 "CensusDeskModel" "lineLost" "Z") (List.mem_of_getElem? (i := 1) rfl)) rfl dX9_readPerson_67 ?_
        refine lv_if_ne (tgt := 121) hx hb dX9_readPerson_70 (by decide) (fun c_32 => ?_) (fun c_32 => ?_)
        · have kc_32 := bI_ne rfl L_0 c_32
          refine lv_aload_n hx hb dX9_readPerson_121 rfl (lv_at hl 0 rfl) ?_
          refine mg_0_20 (v := (γ 9)) hx hb hts hinX9 hown hK hP (hts (.fieldLink RX9 177 "CensusDeskModel" "lineLost" "Z") (List.mem_of_getElem? (i := 1) rfl)) rfl dX9_readPerson_122 ?_
          refine lv_if_ne (tgt := 164) hx hb dX9_readPerson_125 (by decide) (fun c_33 => ?_) (fun c_33 => ?_)
          · have kc_33 := bI_ne rfl L_0 c_33
            exact J164 size s10_c61 f6_c61 s11_c61 s12_c61 f7_c61 γ ψ _ _ _ (show 0 ≤ (Int32.toInt (σ 4)) ∧ (Int32.toInt (σ 4)) ≤ (Int32.toInt (σ 8)) ∧ (Int32.toInt (σ 8)) ≤ 2000 ∧ (Int32.toInt (σ 3)) ≠ 0 from (by omega)) (show 0 ≤ (Int32.toInt size) ∧ (Int32.toInt size) ≤ 30 ∧ (Int32.toInt size) ≤ (Int32.toInt (σ 6)) - (Int32.toInt (σ 5)) from (by omega)) (show (Int32.toInt (σ 10)) ≤ (Int32.toInt s10_c61) ∧ (Int32.toInt s10_c61) ≤ (Int32.toInt (σ 10)) + 80030 from (by omega)) (show ∀ i : Nat, i < 300 → (i : Int) < (Int32.toInt s10_c61) → Int32.toInt (f6_c61 i) < i from (by with_reducible assumption)) (show (Int32.toInt (γ 9)) ≠ 0 ∨ (-1 ≤ Int32.toInt (f7_c61 0) ∧ Int32.toInt (f7_c61 0) ≤ 1) from (by omega)) hP hS (lv_sub hl [0, 1] rfl)
          · have kc_33 := bI_eq rfl L_0 c_33
            refine lv_aload_n hx hb dX9_readPerson_128 rfl (lv_at hl 0 rfl) ?_
            refine mg_0_52 hx hb hts hinX9 hown hK hP (hts (.fieldLink RX9 80 "CensusDeskModel" "fields" "[I") (List.mem_of_getElem? (i := 6) rfl)) dX9_readPerson_129 ?_
            refine lv_iconst (v := 1) hx hb dX9_readPerson_132 (by decide) ?_
            refine ml_24 (f := f7_c61) hx hb hK hP (i := 1) (vp_in_nI (n := 1) (by decide) (by decide)) rfl dX9_readPerson_133 ?_
            refine lv_topi (fun z_34 ez_34 => ?_)
            have tz_34 : (Int32.toInt z_34) = Int32.toInt (f7_c61 1) := congrArg Int32.toInt ez_34
            refine lv_if_lt (tgt := 164) hx hb dX9_readPerson_134 (by decide) (fun c_35 => ?_) (fun c_35 => ?_)
            · have kc_35 := bI_lt rfl L_0 c_35
              exact J164 size s10_c61 f6_c61 s11_c61 s12_c61 f7_c61 γ ψ _ _ _ (show 0 ≤ (Int32.toInt (σ 4)) ∧ (Int32.toInt (σ 4)) ≤ (Int32.toInt (σ 8)) ∧ (Int32.toInt (σ 8)) ≤ 2000 ∧ (Int32.toInt (σ 3)) ≠ 0 from (by omega)) (show 0 ≤ (Int32.toInt size) ∧ (Int32.toInt size) ≤ 30 ∧ (Int32.toInt size) ≤ (Int32.toInt (σ 6)) - (Int32.toInt (σ 5)) from (by omega)) (show (Int32.toInt (σ 10)) ≤ (Int32.toInt s10_c61) ∧ (Int32.toInt s10_c61) ≤ (Int32.toInt (σ 10)) + 80030 from (by omega)) (show ∀ i : Nat, i < 300 → (i : Int) < (Int32.toInt s10_c61) → Int32.toInt (f6_c61 i) < i from (by with_reducible assumption)) (show (Int32.toInt (γ 9)) ≠ 0 ∨ (-1 ≤ Int32.toInt (f7_c61 0) ∧ Int32.toInt (f7_c61 0) ≤ 1) from (by omega)) hP hS (lv_sub hl [0, 1] rfl)
            · have kc_35 := bI_nlt rfl L_0 c_35
              refine lv_aload_n hx hb dX9_readPerson_137 rfl (lv_at hl 0 rfl) ?_
              refine mg_0_52 hx hb hts hinX9 hown hK hP (hts (.fieldLink RX9 80 "CensusDeskModel" "fields" "[I") (List.mem_of_getElem? (i := 6) rfl)) dX9_readPerson_138 ?_
              refine lv_iconst (v := 1) hx hb dX9_readPerson_141 (by decide) ?_
              refine ml_24 (f := f7_c61) hx hb hK hP (i := 1) (vp_in_nI (n := 1) (by decide) (by decide)) rfl dX9_readPerson_142 ?_
              refine lv_topi (fun z_36 ez_36 => ?_)
              have tz_36 : (Int32.toInt z_36) = Int32.toInt (f7_c61 1) := congrArg Int32.toInt ez_36
              refine lv_bipush (v := 10) hx hb dX9_readPerson_143 (by decide) ?_
              refine lv_icmp_ge (tgt := 164) hx hb dX9_readPerson_145 (by decide) (fun c_37 => ?_) (fun c_37 => ?_)
              · have kc_37 := bI_le L_10 rfl c_37
                exact J164 size s10_c61 f6_c61 s11_c61 s12_c61 f7_c61 γ ψ _ _ _ (show 0 ≤ (Int32.toInt (σ 4)) ∧ (Int32.toInt (σ 4)) ≤ (Int32.toInt (σ 8)) ∧ (Int32.toInt (σ 8)) ≤ 2000 ∧ (Int32.toInt (σ 3)) ≠ 0 from (by omega)) (show 0 ≤ (Int32.toInt size) ∧ (Int32.toInt size) ≤ 30 ∧ (Int32.toInt size) ≤ (Int32.toInt (σ 6)) - (Int32.toInt (σ 5)) from (by omega)) (show (Int32.toInt (σ 10)) ≤ (Int32.toInt s10_c61) ∧ (Int32.toInt s10_c61) ≤ (Int32.toInt (σ 10)) + 80030 from (by omega)) (show ∀ i : Nat, i < 300 → (i : Int) < (Int32.toInt s10_c61) → Int32.toInt (f6_c61 i) < i from (by with_reducible assumption)) (show (Int32.toInt (γ 9)) ≠ 0 ∨ (-1 ≤ Int32.toInt (f7_c61 0) ∧ Int32.toInt (f7_c61 0) ≤ 1) from (by omega)) hP hS (lv_sub hl [0, 1] rfl)
              · have kc_37 := bI_nle L_10 rfl c_37
                refine lv_aload_n hx hb dX9_readPerson_148 rfl (lv_at hl 0 rfl) ?_
                refine mg_0_52 hx hb hts hinX9 hown hK hP (hts (.fieldLink RX9 80 "CensusDeskModel" "fields" "[I") (List.mem_of_getElem? (i := 6) rfl)) dX9_readPerson_149 ?_
                refine lv_iconst (v := 2) hx hb dX9_readPerson_152 (by decide) ?_
                refine ml_24 (f := f7_c61) hx hb hK hP (i := 2) (vp_in_nI (n := 2) (by decide) (by decide)) rfl dX9_readPerson_153 ?_
                refine lv_topi (fun z_38 ez_38 => ?_)
                have tz_38 : (Int32.toInt z_38) = Int32.toInt (f7_c61 2) := congrArg Int32.toInt ez_38
                refine lv_if_le (tgt := 164) hx hb dX9_readPerson_154 (by decide) (fun c_39 => ?_) (fun c_39 => ?_)
                · have kc_39 := bI_le rfl L_0 c_39
                  exact J164 size s10_c61 f6_c61 s11_c61 s12_c61 f7_c61 γ ψ _ _ _ (show 0 ≤ (Int32.toInt (σ 4)) ∧ (Int32.toInt (σ 4)) ≤ (Int32.toInt (σ 8)) ∧ (Int32.toInt (σ 8)) ≤ 2000 ∧ (Int32.toInt (σ 3)) ≠ 0 from (by omega)) (show 0 ≤ (Int32.toInt size) ∧ (Int32.toInt size) ≤ 30 ∧ (Int32.toInt size) ≤ (Int32.toInt (σ 6)) - (Int32.toInt (σ 5)) from (by omega)) (show (Int32.toInt (σ 10)) ≤ (Int32.toInt s10_c61) ∧ (Int32.toInt s10_c61) ≤ (Int32.toInt (σ 10)) + 80030 from (by omega)) (show ∀ i : Nat, i < 300 → (i : Int) < (Int32.toInt s10_c61) → Int32.toInt (f6_c61 i) < i from (by with_reducible assumption)) (show (Int32.toInt (γ 9)) ≠ 0 ∨ (-1 ≤ Int32.toInt (f7_c61 0) ∧ Int32.toInt (f7_c61 0) ≤ 1) from (by omega)) hP hS (lv_sub hl [0, 1] rfl)
                · have kc_39 := bI_nle rfl L_0 c_39
                  refine lv_aload_n hx hb dX9_readPerson_157 rfl (lv_at hl 0 rfl) ?_
                  refine lv_bipush (v := 12) hx hb dX9_readPerson_158 (by decide) ?_
                  refine lv_iconst (v := (-1)) hx hb dX9_readPerson_160 (by decide) ?_
                  refine m_callv (va_runV (As := [.int 12, .int (-1)]) (rest := []) ⟨hx, hb, hml, hown, hts⟩ (c_X9_failLine l dC dI a κ (up (up (up σ 10 s10_c61) 11 s11_c61) 12 s12_c61) (up (up φ 6 f6_c61) 7 f7_c61) γ ψ 12 (-1) (show 1 ≤ (Int32.toInt 12) ∧ (Int32.toInt 12) ≤ 21 from (by have := L_12; omega)) (show (Int32.toInt (-1)) < (Int32.toInt s10_c61) from (by have := L_m1; omega)) (show 0 ≤ (Int32.toInt s10_c61) ∧ (Int32.toInt s10_c61) ≤ 1999999970 from (by omega)) (show ∀ i : Nat, i < 300 → (i : Int) < (Int32.toInt s10_c61) → Int32.toInt (f6_c61 i) < i from (by with_reducible assumption))) (cwV 2 hts gX9_readPerson_X9_failLine rfl rfl rfl ⟨rfl, hd_X9_failLine⟩ ⟨Nat.le_of_ble_eq_true rfl, Nat.le_of_ble_eq_true rfl⟩) (mPreV hP hK hI hN hS (va_recv hK hP (ci := 9) (q0 := 0) rfl rfl)) rfl rfl hl.1 rfl (lv_room (Nat.le_of_ble_eq_true rfl)) dX9_readPerson_161 ⟨(by decide +kernel), (by decide +kernel)⟩) hS ?_
                  clear hP hS; intro S_40 F_40 γ_40 ψ_40 H locs hw hP hS
                  obtain ⟨s10_40, f6_40, rfl, rfl, (qf_40 : (Int32.toInt s10_c61) ≤ (Int32.toInt s10_40) ∧ (Int32.toInt s10_40) ≤ (Int32.toInt s10_c61) + 3), (qc_40 : ∀ i : Nat, i < 300 → (i : Int) < (Int32.toInt s10_40) → Int32.toInt (f6_40 i) < i)⟩ := hw
                  have hLm1_40 := L_m1
                  have hL12_40 := L_12
                  exact J164 size s10_40 f6_40 s11_c61 s12_c61 f7_c61 γ_40 ψ_40 _ _ _ (show 0 ≤ (Int32.toInt (σ 4)) ∧ (Int32.toInt (σ 4)) ≤ (Int32.toInt (σ 8)) ∧ (Int32.toInt (σ 8)) ≤ 2000 ∧ (Int32.toInt (σ 3)) ≠ 0 from (by omega)) (show 0 ≤ (Int32.toInt size) ∧ (Int32.toInt size) ≤ 30 ∧ (Int32.toInt size) ≤ (Int32.toInt (σ 6)) - (Int32.toInt (σ 5)) from (by omega)) (show (Int32.toInt (σ 10)) ≤ (Int32.toInt s10_40) ∧ (Int32.toInt s10_40) ≤ (Int32.toInt (σ 10)) + 80030 from (by omega)) (show ∀ i : Nat, i < 300 → (i : Int) < (Int32.toInt s10_40) → Int32.toInt (f6_40 i) < i from (by with_reducible assumption)) (show (Int32.toInt (γ_40 9)) ≠ 0 ∨ (-1 ≤ Int32.toInt (f7_c61 0) ∧ Int32.toInt (f7_c61 0) ≤ 1) from (by omega)) hP hS (lv_sub hl [0, 1] rfl)
        · have kc_32 := bI_eq rfl L_0 c_32
          refine lv_iload_n hx hb dX9_readPerson_73 rfl (lv_at hl 2 rfl) ?_
          refine lv_if_ne (tgt := 85) hx hb dX9_readPerson_74 (by decide) (fun c_41 => ?_) (fun c_41 => ?_)
          · have kc_41 := bI_ne rfl L_0 c_41
            refine lv_iload_n hx hb dX9_readPerson_85 rfl (lv_at hl 2 rfl) ?_
            refine lv_iconst (v := 1) hx hb dX9_readPerson_86 (by decide) ?_
            refine lv_icmp_ne (tgt := 100) hx hb dX9_readPerson_87 (by decide) (fun c_42 => ?_) (fun c_42 => ?_)
            · have kc_42 := bI_ne rfl L_1 c_42
              refine lv_aload_n hx hb dX9_readPerson_100 rfl (lv_at hl 0 rfl) ?_
              refine lv_iconst (v := 4) hx hb dX9_readPerson_101 (by decide) ?_
              refine m_callv (va_runV (As := [.int 4]) (rest := []) ⟨hx, hb, hml, hown, hts⟩ (c_X9_readTrade l dC dI a κ (up (up (up σ 10 s10_c61) 11 s11_c61) 12 s12_c61) (up (up φ 6 f6_c61) 7 f7_c61) γ ψ 4 (show 0 ≤ (Int32.toInt (σ 5)) ∧ (Int32.toInt (σ 5)) ≤ (Int32.toInt (σ 6)) ∧ (Int32.toInt (σ 6)) ≤ 4000 from (by omega)) (show 0 ≤ (Int32.toInt s10_c61) ∧ (Int32.toInt s10_c61) ≤ 1500000000 from (by omega)) (show ∀ i : Nat, i < 300 → (i : Int) < (Int32.toInt s10_c61) → Int32.toInt (f6_c61 i) < i from (by with_reducible assumption))) (cwV 1 hts gX9_readPerson_X9_readTrade rfl rfl rfl ⟨rfl, hd_X9_readTrade⟩ ⟨Nat.le_of_ble_eq_true rfl, Nat.le_of_ble_eq_true rfl⟩) (mPreV hP hK hI hN hS (va_recv hK hP (ci := 9) (q0 := 0) rfl rfl)) rfl rfl hl.1 rfl (lv_room (Nat.le_of_ble_eq_true rfl)) dX9_readPerson_102 ⟨(by decide +kernel), (by decide +kernel)⟩) hS ?_
              clear hP hS; intro S_43 F_43 γ_43 ψ_43 H locs hw hP hS
              obtain ⟨s11_43, s10_43, f6_43, s12_43, rfl, rfl, (qf_43 : (Int32.toInt s10_c61) ≤ (Int32.toInt s10_43) ∧ (Int32.toInt s10_43) ≤ (Int32.toInt s10_c61) + 20004), (qc_43 : ∀ i : Nat, i < 300 → (i : Int) < (Int32.toInt s10_43) → Int32.toInt (f6_43 i) < i)⟩ := hw
              have hL4_43 := L_4
              refine lv_aload_n hx hb dX9_readPerson_105 rfl (lv_at hl 0 rfl) ?_
              refine mg_0_52 hx hb hts hinX9 hown hK hP (hts (.fieldLink RX9 80 "CensusDeskModel" "fields" "[I") (List.mem_of_getElem? (i := 6) rfl)) dX9_readPerson_106 ?_
              refine lv_iload_n hx hb dX9_readPerson_109 rfl (lv_at hl 2 rfl) ?_
              refine lv_aload_n hx hb dX9_readPerson_110 rfl (lv_at hl 0 rfl) ?_
              refine mg_0_51 (v := s12_43) hx hb hts hinX9 hown hK hP (hts (.fieldLink RX9 212 "CensusDeskModel" "value" "I") (List.mem_of_getElem? (i := 7) rfl)) rfl dX9_readPerson_111 ?_
              refine ms_24 (f := f7_c61) hx hb hK hP hI hS (i := k) (x := s12_43) (vin rfl (by omega)) rfl dX9_readPerson_114 ?_
              clear hP hS; intro H locs hP hS
              obtain ⟨f_44, ef_44⟩ : ∃ z : Nat → Int32, z = upd f7_c61 (Int32.toNatClampNeg k) s12_43 := ⟨_, rfl⟩
              rw [← ef_44] at hP
              have hkn := tn_eq (x := k) (by omega)
              have hva : Int32.toInt k ≠ 0 → Int32.toInt (f_44 0) = Int32.toInt (f7_c61 0) := fun h => by rw [ef_44, pk_un (by omega)]
              have hvb : Int32.toInt k = 0 → Int32.toInt (f_44 0) = (Int32.toInt s12_43) := fun h => by rw [ef_44, show Int32.toNatClampNeg k = 0 by omega, pk_us]
              obtain ⟨i_45, ei_45⟩ : ∃ z : Int32, z = k + 1 := ⟨_, rfl⟩
              refine lv_iinc (v := i_45) (lv' := [(3, .int i_45), (0, .ref (a 0)), (2, .int size)]) hx hb dX9_readPerson_115 hl (k := 2) rfl (by rw [ei_45]; rfl) (by decide) rfl ?_
              clear hl; intro ls hl
              have ti_45 : (Int32.toInt i_45) = (Int32.toInt k) + 1 := aI_add rfl L_1 ei_45 (by have := rng k; omega)
              refine lv_goto (tgt := 61) hx hb dX9_readPerson_118 (by decide) ?_
              exact ih61 size i_45 s10_43 f6_43 s11_43 s12_43 f_44 γ_43 ψ_43 _ _ _ (show 0 ≤ (Int32.toInt (σ 4)) ∧ (Int32.toInt (σ 4)) ≤ (Int32.toInt (σ 8)) ∧ (Int32.toInt (σ 8)) ≤ 2000 ∧ (Int32.toInt (σ 3)) ≠ 0 from (by omega)) (show 0 ≤ (Int32.toInt i_45) ∧ (Int32.toInt i_45) ≤ 3 ∧ 0 ≤ (Int32.toInt size) ∧ (Int32.toInt size) ≤ 30 ∧ (Int32.toInt size) ≤ (Int32.toInt (σ 6)) - (Int32.toInt (σ 5)) from (by omega)) (show (Int32.toInt (σ 10)) ≤ (Int32.toInt s10_43) ∧ (Int32.toInt s10_43) ≤ (Int32.toInt (σ 10)) + 20007 + 20004 * (Int32.toInt i_45) from (by omega)) (show ∀ i : Nat, i < 300 → (i : Int) < (Int32.toInt s10_43) → Int32.toInt (f6_43 i) < i from (by with_reducible assumption)) (show (Int32.toInt i_45) = 0 ∨ (-1 ≤ Int32.toInt (f_44 0) ∧ Int32.toInt (f_44 0) ≤ 1) from (by omega)) (by omega) hP hS (lv_sub hl [1, 2, 0] rfl)
            · have kc_42 := bI_eq rfl L_1 c_42
              refine lv_aload_n hx hb dX9_readPerson_90 rfl (lv_at hl 0 rfl) ?_
              refine lv_iconst (v := 3) hx hb dX9_readPerson_91 (by decide) ?_
              refine lv_bipush (v := 120) hx hb dX9_readPerson_92 (by decide) ?_
              refine m_callv (va_runV (As := [.int 3, .int 120]) (rest := []) ⟨hx, hb, hml, hown, hts⟩ (c_X9_readNumber l dC dI a κ (up (up (up σ 10 s10_c61) 11 s11_c61) 12 s12_c61) (up (up φ 6 f6_c61) 7 f7_c61) γ ψ 3 120 (show 0 ≤ (Int32.toInt (σ 5)) ∧ (Int32.toInt (σ 5)) ≤ (Int32.toInt (σ 6)) ∧ (Int32.toInt (σ 6)) ≤ 4000 from (by omega)) (show 0 ≤ (Int32.toInt s10_c61) ∧ (Int32.toInt s10_c61) ≤ 1500000000 from (by omega)) (show ∀ i : Nat, i < 300 → (i : Int) < (Int32.toInt s10_c61) → Int32.toInt (f6_c61 i) < i from (by with_reducible assumption))) (cwV 2 hts gX9_readPerson_X9_readNumber rfl rfl rfl ⟨rfl, hd_X9_readNumber⟩ ⟨Nat.le_of_ble_eq_true rfl, Nat.le_of_ble_eq_true rfl⟩) (mPreV hP hK hI hN hS (va_recv hK hP (ci := 9) (q0 := 0) rfl rfl)) rfl rfl hl.1 rfl (lv_room (Nat.le_of_ble_eq_true rfl)) dX9_readPerson_94 ⟨(by decide +kernel), (by decide +kernel)⟩) hS ?_
              clear hP hS; intro S_46 F_46 γ_46 ψ_46 H locs hw hP hS
              obtain ⟨s11_46, s10_46, f6_46, s12_46, rfl, rfl, (qf_46 : (Int32.toInt s10_c61) ≤ (Int32.toInt s10_46) ∧ (Int32.toInt s10_46) ≤ (Int32.toInt s10_c61) + 20004), (qc_46 : ∀ i : Nat, i < 300 → (i : Int) < (Int32.toInt s10_46) → Int32.toInt (f6_46 i) < i)⟩ := hw
              have hL3_46 := L_3
              have hL120_46 := L_120
              refine lv_goto (tgt := 105) hx hb dX9_readPerson_97 (by decide) ?_
              refine lv_aload_n hx hb dX9_readPerson_105 rfl (lv_at hl 0 rfl) ?_
              refine mg_0_52 hx hb hts hinX9 hown hK hP (hts (.fieldLink RX9 80 "CensusDeskModel" "fields" "[I") (List.mem_of_getElem? (i := 6) rfl)) dX9_readPerson_106 ?_
              refine lv_iload_n hx hb dX9_readPerson_109 rfl (lv_at hl 2 rfl) ?_
              refine lv_aload_n hx hb dX9_readPerson_110 rfl (lv_at hl 0 rfl) ?_
              refine mg_0_51 (v := s12_46) hx hb hts hinX9 hown hK hP (hts (.fieldLink RX9 212 "CensusDeskModel" "value" "I") (List.mem_of_getElem? (i := 7) rfl)) rfl dX9_readPerson_111 ?_
              refine ms_24 (f := f7_c61) hx hb hK hP hI hS (i := k) (x := s12_46) (vin rfl (by omega)) rfl dX9_readPerson_114 ?_
              clear hP hS; intro H locs hP hS
              obtain ⟨f_47, ef_47⟩ : ∃ z : Nat → Int32, z = upd f7_c61 (Int32.toNatClampNeg k) s12_46 := ⟨_, rfl⟩
              rw [← ef_47] at hP
              have hkn := tn_eq (x := k) (by omega)
              have hva : Int32.toInt k ≠ 0 → Int32.toInt (f_47 0) = Int32.toInt (f7_c61 0) := fun h => by rw [ef_47, pk_un (by omega)]
              have hvb : Int32.toInt k = 0 → Int32.toInt (f_47 0) = (Int32.toInt s12_46) := fun h => by rw [ef_47, show Int32.toNatClampNeg k = 0 by omega, pk_us]
              obtain ⟨i_48, ei_48⟩ : ∃ z : Int32, z = k + 1 := ⟨_, rfl⟩
              refine lv_iinc (v := i_48) (lv' := [(3, .int i_48), (0, .ref (a 0)), (2, .int size)]) hx hb dX9_readPerson_115 hl (k := 2) rfl (by rw [ei_48]; rfl) (by decide) rfl ?_
              clear hl; intro ls hl
              have ti_48 : (Int32.toInt i_48) = (Int32.toInt k) + 1 := aI_add rfl L_1 ei_48 (by have := rng k; omega)
              refine lv_goto (tgt := 61) hx hb dX9_readPerson_118 (by decide) ?_
              exact ih61 size i_48 s10_46 f6_46 s11_46 s12_46 f_47 γ_46 ψ_46 _ _ _ (show 0 ≤ (Int32.toInt (σ 4)) ∧ (Int32.toInt (σ 4)) ≤ (Int32.toInt (σ 8)) ∧ (Int32.toInt (σ 8)) ≤ 2000 ∧ (Int32.toInt (σ 3)) ≠ 0 from (by omega)) (show 0 ≤ (Int32.toInt i_48) ∧ (Int32.toInt i_48) ≤ 3 ∧ 0 ≤ (Int32.toInt size) ∧ (Int32.toInt size) ≤ 30 ∧ (Int32.toInt size) ≤ (Int32.toInt (σ 6)) - (Int32.toInt (σ 5)) from (by omega)) (show (Int32.toInt (σ 10)) ≤ (Int32.toInt s10_46) ∧ (Int32.toInt s10_46) ≤ (Int32.toInt (σ 10)) + 20007 + 20004 * (Int32.toInt i_48) from (by omega)) (show ∀ i : Nat, i < 300 → (i : Int) < (Int32.toInt s10_46) → Int32.toInt (f6_46 i) < i from (by with_reducible assumption)) (show (Int32.toInt i_48) = 0 ∨ (-1 ≤ Int32.toInt (f_47 0) ∧ Int32.toInt (f_47 0) ≤ 1) from (by omega)) (by omega) hP hS (lv_sub hl [1, 2, 0] rfl)
          · have kc_41 := bI_eq rfl L_0 c_41
            refine lv_aload_n hx hb dX9_readPerson_77 rfl (lv_at hl 0 rfl) ?_
            refine lv_iconst (v := 2) hx hb dX9_readPerson_78 (by decide) ?_
            refine m_callv (va_runV (As := [.int 2]) (rest := []) ⟨hx, hb, hml, hown, hts⟩ (c_X9_readSex l dC dI a κ (up (up (up σ 10 s10_c61) 11 s11_c61) 12 s12_c61) (up (up φ 6 f6_c61) 7 f7_c61) γ ψ 2 (show 0 ≤ (Int32.toInt (σ 5)) ∧ (Int32.toInt (σ 5)) ≤ (Int32.toInt (σ 6)) ∧ (Int32.toInt (σ 6)) ≤ 4000 from (by omega)) (show 0 ≤ (Int32.toInt s10_c61) ∧ (Int32.toInt s10_c61) ≤ 1500000000 from (by omega)) (show ∀ i : Nat, i < 300 → (i : Int) < (Int32.toInt s10_c61) → Int32.toInt (f6_c61 i) < i from (by with_reducible assumption))) (cwV 1 hts gX9_readPerson_X9_readSex rfl rfl rfl ⟨rfl, hd_X9_readSex⟩ ⟨Nat.le_of_ble_eq_true rfl, Nat.le_of_ble_eq_true rfl⟩) (mPreV hP hK hI hN hS (va_recv hK hP (ci := 9) (q0 := 0) rfl rfl)) rfl rfl hl.1 rfl (lv_room (Nat.le_of_ble_eq_true rfl)) dX9_readPerson_79 ⟨(by decide +kernel), (by decide +kernel)⟩) hS ?_
            clear hP hS; intro S_49 F_49 γ_49 ψ_49 H locs hw hP hS
            obtain ⟨s11_49, s10_49, f6_49, s12_49, rfl, rfl, (qf_49 : (Int32.toInt s10_c61) ≤ (Int32.toInt s10_49) ∧ (Int32.toInt s10_49) ≤ (Int32.toInt s10_c61) + 20004), (qc_49 : ∀ i : Nat, i < 300 → (i : Int) < (Int32.toInt s10_49) → Int32.toInt (f6_49 i) < i), (qv_49 : -1 ≤ (Int32.toInt s12_49) ∧ (Int32.toInt s12_49) ≤ 1)⟩ := hw
            have hL2_49 := L_2
            refine lv_goto (tgt := 105) hx hb dX9_readPerson_82 (by decide) ?_
            refine lv_aload_n hx hb dX9_readPerson_105 rfl (lv_at hl 0 rfl) ?_
            refine mg_0_52 hx hb hts hinX9 hown hK hP (hts (.fieldLink RX9 80 "CensusDeskModel" "fields" "[I") (List.mem_of_getElem? (i := 6) rfl)) dX9_readPerson_106 ?_
            refine lv_iload_n hx hb dX9_readPerson_109 rfl (lv_at hl 2 rfl) ?_
            refine lv_aload_n hx hb dX9_readPerson_110 rfl (lv_at hl 0 rfl) ?_
            refine mg_0_51 (v := s12_49) hx hb hts hinX9 hown hK hP (hts (.fieldLink RX9 212 "CensusDeskModel" "value" "I") (List.mem_of_getElem? (i := 7) rfl)) rfl dX9_readPerson_111 ?_
            refine ms_24 (f := f7_c61) hx hb hK hP hI hS (i := k) (x := s12_49) (vin rfl (by omega)) rfl dX9_readPerson_114 ?_
            clear hP hS; intro H locs hP hS
            obtain ⟨f_50, ef_50⟩ : ∃ z : Nat → Int32, z = upd f7_c61 (Int32.toNatClampNeg k) s12_49 := ⟨_, rfl⟩
            rw [← ef_50] at hP
            have hkn := tn_eq (x := k) (by omega)
            have hva : Int32.toInt k ≠ 0 → Int32.toInt (f_50 0) = Int32.toInt (f7_c61 0) := fun h => by rw [ef_50, pk_un (by omega)]
            have hvb : Int32.toInt k = 0 → Int32.toInt (f_50 0) = (Int32.toInt s12_49) := fun h => by rw [ef_50, show Int32.toNatClampNeg k = 0 by omega, pk_us]
            obtain ⟨i_51, ei_51⟩ : ∃ z : Int32, z = k + 1 := ⟨_, rfl⟩
            refine lv_iinc (v := i_51) (lv' := [(3, .int i_51), (0, .ref (a 0)), (2, .int size)]) hx hb dX9_readPerson_115 hl (k := 2) rfl (by rw [ei_51]; rfl) (by decide) rfl ?_
            clear hl; intro ls hl
            have ti_51 : (Int32.toInt i_51) = (Int32.toInt k) + 1 := aI_add rfl L_1 ei_51 (by have := rng k; omega)
            refine lv_goto (tgt := 61) hx hb dX9_readPerson_118 (by decide) ?_
            exact ih61 size i_51 s10_49 f6_49 s11_49 s12_49 f_50 γ_49 ψ_49 _ _ _ (show 0 ≤ (Int32.toInt (σ 4)) ∧ (Int32.toInt (σ 4)) ≤ (Int32.toInt (σ 8)) ∧ (Int32.toInt (σ 8)) ≤ 2000 ∧ (Int32.toInt (σ 3)) ≠ 0 from (by omega)) (show 0 ≤ (Int32.toInt i_51) ∧ (Int32.toInt i_51) ≤ 3 ∧ 0 ≤ (Int32.toInt size) ∧ (Int32.toInt size) ≤ 30 ∧ (Int32.toInt size) ≤ (Int32.toInt (σ 6)) - (Int32.toInt (σ 5)) from (by omega)) (show (Int32.toInt (σ 10)) ≤ (Int32.toInt s10_49) ∧ (Int32.toInt s10_49) ≤ (Int32.toInt (σ 10)) + 20007 + 20004 * (Int32.toInt i_51) from (by omega)) (show ∀ i : Nat, i < 300 → (i : Int) < (Int32.toInt s10_49) → Int32.toInt (f6_49 i) < i from (by with_reducible assumption)) (show (Int32.toInt i_51) = 0 ∨ (-1 ≤ Int32.toInt (f_50 0) ∧ Int32.toInt (f_50 0) ≤ 1) from (by omega)) (by omega) hP hS (lv_sub hl [1, 2, 0] rfl)
  have J30 : ∀ (n30 : Nat), ∀ (size : Int32) (k : Int32) (s10_c30 : Int32) (f6_c30 : Nat → Int32) (s11_c30 : Int32) (γ : Nat → Int32) (ψ : Nat → Nat → Int32) (H : Heap) (locs : List Loc) (ls : Array Slot), (0 ≤ (Int32.toInt (σ 4)) ∧ (Int32.toInt (σ 4)) ≤ (Int32.toInt (σ 8)) ∧ (Int32.toInt (σ 8)) ≤ 2000 ∧ (Int32.toInt (σ 3)) ≠ 0) → (0 ≤ (Int32.toInt k) ∧ 0 ≤ (Int32.toInt size) ∧ (Int32.toInt size) ≤ 30 ∧ (Int32.toInt size) ≤ (Int32.toInt (σ 6)) - (Int32.toInt (σ 5))) → ((Int32.toInt (σ 10)) ≤ (Int32.toInt s10_c30) ∧ (Int32.toInt s10_c30) ≤ (Int32.toInt (σ 10)) + 20007) → (∀ i : Nat, i < 300 → (i : Int) < (Int32.toInt s10_c30) → Int32.toInt (f6_c30 i) < i) → (((Int32.toInt size) - (Int32.toInt k)).toNat < n30) → va_P (dC, dI) vwCl (mw a κ ((up (up σ 10 s10_c30) 11 s11_c30), (up φ 6 f6_c30), γ, ψ)) H → va_S (mA a) s.heap H locs → lv_has ls 5 [(0, .ref (a 0)), (2, .int size), (3, .int k)] → W p l e ({ frames := 9, cells := 0, slots := 0, locals := 219 } : Room) s m ([.ref (a 0), .int sort] : List Value).toArray below meth c H locs 0 0 QQ (F0 m 30 ls []) := by
    intro n30
    induction n30 with
    | zero =>
      intro size k s10_c30 f6_c30 s11_c30 γ ψ H locs ls hp v0 vf hfc hm
      exact absurd hm (Nat.not_lt_zero _)
    | succ n30 ih30 =>
      intro size k s10_c30 f6_c30 s11_c30 γ ψ H locs ls hp v0 vf hfc hm hP hS hl
      refine lv_iload_n hx hb dX9_readPerson_30 rfl (lv_at hl 2 rfl) ?_
      refine lv_iload_n hx hb dX9_readPerson_31 rfl (lv_at hl 1 rfl) ?_
      refine lv_icmp_ge (tgt := 59) hx hb dX9_readPerson_32 (by decide) (fun c_52 => ?_) (fun c_52 => ?_)
      · have kc_52 := bI_le rfl rfl c_52
        refine lv_iconst (v := 0) hx hb dX9_readPerson_59 (by decide) ?_
        refine lv_istore_n (lv' := [(3, .int 0), (0, .ref (a 0)), (2, .int size)]) hx hb dX9_readPerson_60 rfl hl (by decide) rfl ?_
        clear hl; intro ls hl
        exact J61 (_ + 1) size 0 s10_c30 f6_c30 s11_c30 (σ 12) (φ 7) γ ψ _ _ _ (show 0 ≤ (Int32.toInt (σ 4)) ∧ (Int32.toInt (σ 4)) ≤ (Int32.toInt (σ 8)) ∧ (Int32.toInt (σ 8)) ≤ 2000 ∧ (Int32.toInt (σ 3)) ≠ 0 from (by omega)) (show 0 ≤ (Int32.toInt 0) ∧ (Int32.toInt 0) ≤ 3 ∧ 0 ≤ (Int32.toInt size) ∧ (Int32.toInt size) ≤ 30 ∧ (Int32.toInt size) ≤ (Int32.toInt (σ 6)) - (Int32.toInt (σ 5)) from (by have := L_0; omega)) (show (Int32.toInt (σ 10)) ≤ (Int32.toInt s10_c30) ∧ (Int32.toInt s10_c30) ≤ (Int32.toInt (σ 10)) + 20007 + 20004 * (Int32.toInt 0) from (by have := L_0; omega)) (show ∀ i : Nat, i < 300 → (i : Int) < (Int32.toInt s10_c30) → Int32.toInt (f6_c30 i) < i from (by with_reducible assumption)) (show (Int32.toInt 0) = 0 ∨ (-1 ≤ Int32.toInt ((φ 7) 0) ∧ Int32.toInt ((φ 7) 0) ≤ 1) from (by have := L_0; omega)) (Nat.lt_succ_self _) hP hS (lv_sub hl [1, 2, 0] rfl)
      · have kc_52 := bI_nle rfl rfl c_52
        refine lv_aload_n hx hb dX9_readPerson_35 rfl (lv_at hl 0 rfl) ?_
        refine mg_0_33 hx hb hts hinX9 hown hK hP (hts (.fieldLink RX9 47 "CensusDeskModel" "names" "[B") (List.mem_of_getElem? (i := 3) rfl)) dX9_readPerson_36 ?_
        refine lv_aload_n hx hb dX9_readPerson_39 rfl (lv_at hl 0 rfl) ?_
        refine mg_0_34 (v := (σ 9)) hx hb hts hinX9 hown hK hP (hts (.fieldLink RX9 240 "CensusDeskModel" "nameEnd" "I") (List.mem_of_getElem? (i := 4) rfl)) rfl dX9_readPerson_40 ?_
        refine lv_iload_n hx hb dX9_readPerson_43 rfl (lv_at hl 2 rfl) ?_
        refine lv_iadd hx hb dX9_readPerson_44 ?_
        refine lv_topi (fun z_53 ez_53 => ?_)
        have tz_53 : (Int32.toInt z_53) = (Int32.toInt (σ 9)) + (Int32.toInt k) := aI_add rfl rfl ez_53 (by have := rng (σ 9); have := rng k; omega)
        refine lv_aload_n hx hb dX9_readPerson_45 rfl (lv_at hl 0 rfl) ?_
        refine mg_0_46 hx hb hts hinX9 hown hK hP (hts (.fieldLink RX9 74 "CensusDeskModel" "sign" "[I") (List.mem_of_getElem? (i := 5) rfl)) dX9_readPerson_46 ?_
        refine lv_iload_n hx hb dX9_readPerson_49 rfl (lv_at hl 2 rfl) ?_
        refine ml_22 (f := (ψ 14)) hx hb hK hP (i := k) (vin rfl (by omega)) rfl dX9_readPerson_50 ?_
        refine lv_topi (fun z_54 ez_54 => ?_)
        obtain ⟨z_55, ez_55⟩ : ∃ z : Int32, (Int32.toInt8 z_54).toInt32 = z := ⟨_, rfl⟩
        refine lv_i2b (v := z_55) hx hb dX9_readPerson_51 ez_55 ?_
        refine ms_13 (f := (ψ 6)) hx hb hK hP hI hS (i := z_53) (x := z_55) (vin rfl (by omega)) rfl dX9_readPerson_52 ?_
        clear hP hS; intro H locs hP hS
        obtain ⟨f_56, ef_56⟩ : ∃ z : Nat → Int32, z = upd (ψ 6) (Int32.toNatClampNeg z_53) (vp_nar .byte z_55) := ⟨_, rfl⟩
        rw [← ef_56] at hP
        obtain ⟨i_57, ei_57⟩ : ∃ z : Int32, z = k + 1 := ⟨_, rfl⟩
        refine lv_iinc (v := i_57) (lv' := [(3, .int i_57), (0, .ref (a 0)), (2, .int size)]) hx hb dX9_readPerson_53 hl (k := 2) rfl (by rw [ei_57]; rfl) (by decide) rfl ?_
        clear hl; intro ls hl
        have ti_57 : (Int32.toInt i_57) = (Int32.toInt k) + 1 := aI_add rfl L_1 ei_57 (by have := rng k; have := rng size; omega)
        refine lv_goto (tgt := 30) hx hb dX9_readPerson_56 (by decide) ?_
        exact ih30 size i_57 s10_c30 f6_c30 s11_c30 γ (up ψ 6 f_56) _ _ _ (show 0 ≤ (Int32.toInt (σ 4)) ∧ (Int32.toInt (σ 4)) ≤ (Int32.toInt (σ 8)) ∧ (Int32.toInt (σ 8)) ≤ 2000 ∧ (Int32.toInt (σ 3)) ≠ 0 from (by omega)) (show 0 ≤ (Int32.toInt i_57) ∧ 0 ≤ (Int32.toInt size) ∧ (Int32.toInt size) ≤ 30 ∧ (Int32.toInt size) ≤ (Int32.toInt (σ 6)) - (Int32.toInt (σ 5)) from (by omega)) (show (Int32.toInt (σ 10)) ≤ (Int32.toInt s10_c30) ∧ (Int32.toInt s10_c30) ≤ (Int32.toInt (σ 10)) + 20007 from (by omega)) (show ∀ i : Nat, i < 300 → (i : Int) < (Int32.toInt s10_c30) → Int32.toInt (f6_c30 i) < i from (by with_reducible assumption)) (by omega) hP hS (lv_sub hl [1, 2, 0] rfl)
  refine lv_aload_n hx hb dX9_readPerson_0 rfl (lv_at hl 0 rfl) ?_
  refine lv_iload_n hx hb dX9_readPerson_1 rfl (lv_at hl 1 rfl) ?_
  refine lv_iconst (v := 5) hx hb dX9_readPerson_2 (by decide) ?_
  refine m_calli (va_runV (As := [.int sort, .int 5]) (rest := []) ⟨hx, hb, hml, hown, hts⟩ (c_X9_isLine l dC dI a κ σ φ γ ψ sort 5 (show 0 ≤ (Int32.toInt (σ 5)) ∧ (Int32.toInt (σ 5)) ≤ (Int32.toInt (σ 6)) ∧ (Int32.toInt (σ 6)) ≤ 4000 from (by omega)) (show 0 ≤ (Int32.toInt (σ 10)) ∧ (Int32.toInt (σ 10)) ≤ 1500000000 from (by omega)) (show ∀ i : Nat, i < 300 → (i : Int) < (Int32.toInt (σ 10)) → Int32.toInt ((φ 6) i) < i from (by with_reducible assumption))) (cwV 2 hts gX9_readPerson_X9_isLine rfl rfl rfl ⟨rfl, hd_X9_isLine⟩ ⟨Nat.le_of_ble_eq_true rfl, Nat.le_of_ble_eq_true rfl⟩) (mPreV hP hK hI hN hS (va_recv hK hP (ci := 9) (q0 := 0) rfl rfl)) rfl rfl hl.1 rfl (lv_room (Nat.le_of_ble_eq_true rfl)) dX9_readPerson_3 ⟨(by decide +kernel), (by decide +kernel)⟩) hS ?_
  clear hP hS; intro r_58 S_58 F_58 γ_58 ψ_58 H locs hw hP hS
  obtain ⟨s10_58, f6_58, rfl, rfl, (qf_58 : (Int32.toInt (σ 10)) ≤ (Int32.toInt s10_58) ∧ (Int32.toInt s10_58) ≤ (Int32.toInt (σ 10)) + 3), (qc_58 : ∀ i : Nat, i < 300 → (i : Int) < (Int32.toInt s10_58) → Int32.toInt (f6_58 i) < i), (qi_58 : (Int32.toInt r_58) = 0 ∨ (((Int32.toInt sort) = 72 ∨ (Int32.toInt sort) = 80 ∨ (Int32.toInt sort) = 83) ∧ ((Int32.toInt sort) ≠ 80 ∨ (Int32.toInt (σ 3)) ≠ 0)))⟩ := hw
  have hL5_58 := L_5
  refine lv_if_ne (tgt := 10) hx hb dX9_readPerson_6 (by decide) (fun c_59 => ?_) (fun c_59 => ?_)
  · have kc_59 := bI_ne rfl L_0 c_59
    refine lv_aload_n hx hb dX9_readPerson_10 rfl (lv_at hl 0 rfl) ?_
    refine lv_iconst (v := 1) hx hb dX9_readPerson_11 (by decide) ?_
    refine m_callv (va_runV (As := [.int 1]) (rest := []) ⟨hx, hb, hml, hown, hts⟩ (c_X9_readName l dC dI a κ (up σ 10 s10_58) (up φ 6 f6_58) γ_58 ψ_58 1 (show 0 ≤ (Int32.toInt (σ 5)) ∧ (Int32.toInt (σ 5)) ≤ (Int32.toInt (σ 6)) ∧ (Int32.toInt (σ 6)) ≤ 4000 from (by omega)) (show 0 ≤ (Int32.toInt s10_58) ∧ (Int32.toInt s10_58) ≤ 1500000000 from (by omega)) (show ∀ i : Nat, i < 300 → (i : Int) < (Int32.toInt s10_58) → Int32.toInt (f6_58 i) < i from (by with_reducible assumption))) (cwV 1 hts gX9_readPerson_X9_readName rfl rfl rfl ⟨rfl, hd_X9_readName⟩ ⟨Nat.le_of_ble_eq_true rfl, Nat.le_of_ble_eq_true rfl⟩) (mPreV hP hK hI hN hS (va_recv hK hP (ci := 9) (q0 := 0) rfl rfl)) rfl rfl hl.1 rfl (lv_room (Nat.le_of_ble_eq_true rfl)) dX9_readPerson_12 ⟨(by decide +kernel), (by decide +kernel)⟩) hS ?_
    clear hP hS; intro S_60 F_60 γ_60 ψ_60 H locs hw hP hS
    obtain ⟨s11_60, s10_60, f6_60, rfl, rfl, (qf_60 : (Int32.toInt s10_58) ≤ (Int32.toInt s10_60) ∧ (Int32.toInt s10_60) ≤ (Int32.toInt s10_58) + 20004), (qc_60 : ∀ i : Nat, i < 300 → (i : Int) < (Int32.toInt s10_60) → Int32.toInt (f6_60 i) < i), (qs_60 : 0 ≤ (Int32.toInt s11_60) ∧ (Int32.toInt s11_60) ≤ 30 ∧ (Int32.toInt s11_60) ≤ (Int32.toInt (σ 6)) - (Int32.toInt (σ 5)))⟩ := hw
    have hL1_60 := L_1
    refine lv_aload_n hx hb dX9_readPerson_15 rfl (lv_at hl 0 rfl) ?_
    refine mg_0_20 (v := (γ_60 9)) hx hb hts hinX9 hown hK hP (hts (.fieldLink RX9 177 "CensusDeskModel" "lineLost" "Z") (List.mem_of_getElem? (i := 1) rfl)) rfl dX9_readPerson_16 ?_
    refine lv_if_eq (tgt := 23) hx hb dX9_readPerson_19 (by decide) (fun c_61 => ?_) (fun c_61 => ?_)
    · have kc_61 := bI_eq rfl L_0 c_61
      refine lv_aload_n hx hb dX9_readPerson_23 rfl (lv_at hl 0 rfl) ?_
      refine mg_0_48 (v := s11_60) hx hb hts hinX9 hown hK hP (hts (.fieldLink RX9 191 "CensusDeskModel" "signs" "I") (List.mem_of_getElem? (i := 2) rfl)) rfl dX9_readPerson_24 ?_
      refine lv_istore_n (lv' := [(2, .int s11_60), (0, .ref (a 0)), (1, .int sort)]) hx hb dX9_readPerson_27 rfl hl (by decide) rfl ?_
      clear hl; intro ls hl
      refine lv_iconst (v := 0) hx hb dX9_readPerson_28 (by decide) ?_
      refine lv_istore_n (lv' := [(3, .int 0), (2, .int s11_60), (0, .ref (a 0)), (1, .int sort)]) hx hb dX9_readPerson_29 rfl hl (by decide) rfl ?_
      clear hl; intro ls hl
      exact J30 (_ + 1) s11_60 0 s10_60 f6_60 s11_60 γ_60 ψ_60 _ _ _ (show 0 ≤ (Int32.toInt (σ 4)) ∧ (Int32.toInt (σ 4)) ≤ (Int32.toInt (σ 8)) ∧ (Int32.toInt (σ 8)) ≤ 2000 ∧ (Int32.toInt (σ 3)) ≠ 0 from (by omega)) (show 0 ≤ (Int32.toInt 0) ∧ 0 ≤ (Int32.toInt s11_60) ∧ (Int32.toInt s11_60) ≤ 30 ∧ (Int32.toInt s11_60) ≤ (Int32.toInt (σ 6)) - (Int32.toInt (σ 5)) from (by have := L_0; omega)) (show (Int32.toInt (σ 10)) ≤ (Int32.toInt s10_60) ∧ (Int32.toInt s10_60) ≤ (Int32.toInt (σ 10)) + 20007 from (by omega)) (show ∀ i : Nat, i < 300 → (i : Int) < (Int32.toInt s10_60) → Int32.toInt (f6_60 i) < i from (by with_reducible assumption)) (Nat.lt_succ_self _) hP hS (lv_sub hl [2, 1, 0] rfl)
    · have kc_61 := bI_ne rfl L_0 c_61
      subst eQ
      exact W.vret hx hb hr (fun t ht hW => ⟨⟨((up (up (up (up (up σ 10 s10_60) 11 s11_60) 12 (σ 12)) 9 (σ 9)) 8 (σ 8)), (up (up (up (up (up φ 6 f6_60) 7 (φ 7)) 3 (φ 3)) 4 (φ 4)) 5 (φ 5)), γ_60, ψ_60), rfl, ⟨s10_60, f6_60, s11_60, (σ 12), (φ 7), (φ 3), (φ 4), (φ 5), (σ 9), (σ 8), rfl, rfl, p_m_sex, p_m_nameAt, p_m_nameSize, (show (Int32.toInt (σ 10)) ≤ (Int32.toInt s10_60) ∧ (Int32.toInt s10_60) ≤ (Int32.toInt (σ 10)) + 90000 from (by omega)), (show ∀ i : Nat, i < 300 → (i : Int) < (Int32.toInt s10_60) → Int32.toInt (f6_60 i) < i from (by with_reducible assumption)), (show (Int32.toInt (σ 8)) ≤ (Int32.toInt (σ 8)) ∧ (Int32.toInt (σ 8)) ≤ (Int32.toInt (σ 8)) + 1 from (by omega)), (show 0 ≤ (Int32.toInt (σ 9)) ∧ (Int32.toInt (σ 9)) ≤ (Int32.toInt (σ 6)) from (by omega)), (show ∀ i : Nat, Int32.toInt ((φ 4) i) + Int32.toInt ((φ 5) i) ≤ 4000 from (by with_reducible assumption)), (show (Int32.toInt (σ 3)) = 0 ∨ (Int32.toInt (σ 8)) ≤ (Int32.toInt (σ 4)) ∨ Int32.toInt ((φ 4) (Int32.toNatClampNeg (σ 4))) ≤ (Int32.toInt (σ 5)) from (by omega))⟩, (by show va_P _ _ _ _; rw [ht]; exact hP)⟩, hS.F ht⟩) hS.2.2 dX9_readPerson_22
  · have kc_59 := bI_eq rfl L_0 c_59
    subst eQ
    exact W.vret hx hb hr (fun t ht hW => ⟨⟨((up (up (up (up (up σ 10 s10_58) 11 (σ 11)) 12 (σ 12)) 9 (σ 9)) 8 (σ 8)), (up (up (up (up (up φ 6 f6_58) 7 (φ 7)) 3 (φ 3)) 4 (φ 4)) 5 (φ 5)), γ_58, ψ_58), rfl, ⟨s10_58, f6_58, (σ 11), (σ 12), (φ 7), (φ 3), (φ 4), (φ 5), (σ 9), (σ 8), rfl, rfl, p_m_sex, p_m_nameAt, p_m_nameSize, (show (Int32.toInt (σ 10)) ≤ (Int32.toInt s10_58) ∧ (Int32.toInt s10_58) ≤ (Int32.toInt (σ 10)) + 90000 from (by omega)), (show ∀ i : Nat, i < 300 → (i : Int) < (Int32.toInt s10_58) → Int32.toInt (f6_58 i) < i from (by with_reducible assumption)), (show (Int32.toInt (σ 8)) ≤ (Int32.toInt (σ 8)) ∧ (Int32.toInt (σ 8)) ≤ (Int32.toInt (σ 8)) + 1 from (by omega)), (show 0 ≤ (Int32.toInt (σ 9)) ∧ (Int32.toInt (σ 9)) ≤ (Int32.toInt (σ 6)) from (by omega)), (show ∀ i : Nat, Int32.toInt ((φ 4) i) + Int32.toInt ((φ 5) i) ≤ 4000 from (by with_reducible assumption)), (show (Int32.toInt (σ 3)) = 0 ∨ (Int32.toInt (σ 8)) ≤ (Int32.toInt (σ 4)) ∨ Int32.toInt ((φ 4) (Int32.toNatClampNeg (σ 4))) ≤ (Int32.toInt (σ 5)) from (by omega))⟩, (by show va_P _ _ _ _; rw [ht]; exact hP)⟩, hS.F ht⟩) hS.2.2 dX9_readPerson_9
set_option maxHeartbeats 4000000 in
set_option maxRecDepth 100000 in
theorem c_X9_beginHouse (l : Launch) (dC : Nat → ClassId) (dI : Nat → Nat → Nat) (a : Nat → Nat) (κ : Nat → ClassId) (σ : Nat → Int32) (φ : Nat → Nat → Int32) (γ : Nat → Int32) (ψ : Nat → Nat → Int32)  : Met l yX9_beginHouse wsX9_beginHouse ({ frames := 0, cells := 0, slots := 0, locals := 0 } : Room) (va_Pc [.ref (a 0)] (mPre dC dI a κ (σ, φ, γ, ψ))) (va_Qv (QV (fun S F => ∃ (s3 : Int32) (s4 : Int32), (up (up σ 3 s3) 4 s4) = S ∧ φ = F ∧ ((Int32.toInt s3) = 1 ∧ (Int32.toInt s4) = (Int32.toInt (σ 8))))) (mB dC dI a κ) (mA a)) 0 0 (mA a) := by
  refine Met.ofW (cc := cX9_beginHouse) (maxL := 2) (ret := none) (by decide) rfl ?_
  intro p e s m args below meth c s₁ B hml hv
  obtain ⟨rfl, hP, hK, hI, hN⟩ := hv
  have hx := B.exec
  have hb := B.bytes
  have hr := B.returns
  have hts := atoms_spec (ws := wsX9_beginHouse) B.pre
  have hown : s.vm.findClass RX9 = some m.cls := findClass_of_methodNamed B.named
  have hlocks := B.notSynchronized
  have hS : va_S (mA a) s.heap s.heap [] := va_S.rf
  have hinX9 : ∀ w ∈ wsX90, w ∈ wsX9_beginHouse := fun _ h => List.mem_cons_of_mem _ (List.mem_append_right _ h)
  have hl := lv_entry ([.ref (a 0)]) (n := 2) (Nat.le_of_ble_eq_true rfl)
  rw [lg_entry_eq]
  generalize (lg_sl ([.ref (a 0)]) ++ List.replicate (2 - (lg_sl ([.ref (a 0)])).length) Slot.unset).toArray = ls at hl ⊢
  have hl : lv_has ls 2 [(0, .ref (a 0))] := hl
  refine k_gen (fun QQ eQ => ?_)
  have J28 : ∀ (n28 : Nat), ∀ (k : Int32) (s3_c28 : Int32) (s4_c28 : Int32) (γ : Nat → Int32) (ψ : Nat → Nat → Int32) (H : Heap) (locs : List Loc) (ls : Array Slot), (0 ≤ (Int32.toInt k) ∧ (Int32.toInt s3_c28) = 1 ∧ (Int32.toInt s4_c28) = (Int32.toInt (σ 8))) → ((6 - (Int32.toInt k)).toNat < n28) → va_P (dC, dI) vwCl (mw a κ ((up (up σ 3 s3_c28) 4 s4_c28), φ, γ, ψ)) H → va_S (mA a) s.heap H locs → lv_has ls 2 [(0, .ref (a 0)), (1, .int k)] → W p l e ({ frames := 0, cells := 0, slots := 0, locals := 0 } : Room) s m ([.ref (a 0)] : List Value).toArray below meth c H locs 0 0 QQ (F0 m 28 ls []) := by
    intro n28
    induction n28 with
    | zero =>
      intro k s3_c28 s4_c28 γ ψ H locs ls v0 hm
      exact absurd hm (Nat.not_lt_zero _)
    | succ n28 ih28 =>
      intro k s3_c28 s4_c28 γ ψ H locs ls v0 hm hP hS hl
      refine lv_iload_n hx hb dX9_beginHouse_28 rfl (lv_at hl 1 rfl) ?_
      refine lv_bipush (v := 6) hx hb dX9_beginHouse_29 (by decide) ?_
      refine lv_icmp_ge (tgt := 47) hx hb dX9_beginHouse_31 (by decide) (fun c_1 => ?_) (fun c_1 => ?_)
      · have kc_1 := bI_le L_6 rfl c_1
        subst eQ
        exact W.vret hx hb hr (fun t ht hW => ⟨⟨((up (up σ 3 s3_c28) 4 s4_c28), φ, γ, ψ), rfl, ⟨s3_c28, s4_c28, rfl, rfl, (show (Int32.toInt s3_c28) = 1 ∧ (Int32.toInt s4_c28) = (Int32.toInt (σ 8)) from (by omega))⟩, (by show va_P _ _ _ _; rw [ht]; exact hP)⟩, hS.F ht⟩) hS.2.2 dX9_beginHouse_47
      · have kc_1 := bI_nle L_6 rfl c_1
        refine lv_aload_n hx hb dX9_beginHouse_34 rfl (lv_at hl 0 rfl) ?_
        refine mg_0_42 hx hb hts hinX9 hown hK hP (hts (.fieldLink RX9 68 "CensusDeskModel" "firstIn" "[I") (List.mem_of_getElem? (i := 7) rfl)) dX9_beginHouse_35 ?_
        refine lv_iload_n hx hb dX9_beginHouse_38 rfl (lv_at hl 1 rfl) ?_
        refine lv_iconst (v := (-1)) hx hb dX9_beginHouse_39 (by decide) ?_
        refine ms_20 (f := (ψ 12)) hx hb hK hP hI hS (i := k) (x := (-1)) (vin rfl (by omega)) rfl dX9_beginHouse_40 ?_
        clear hP hS; intro H locs hP hS
        obtain ⟨f_2, ef_2⟩ : ∃ z : Nat → Int32, z = upd (ψ 12) (Int32.toNatClampNeg k) (-1) := ⟨_, rfl⟩
        rw [← ef_2] at hP
        obtain ⟨i_3, ei_3⟩ : ∃ z : Int32, z = k + 1 := ⟨_, rfl⟩
        refine lv_iinc (v := i_3) (lv' := [(1, .int i_3), (0, .ref (a 0))]) hx hb dX9_beginHouse_41 hl (k := 1) rfl (by rw [ei_3]; rfl) (by decide) rfl ?_
        clear hl; intro ls hl
        have ti_3 : (Int32.toInt i_3) = (Int32.toInt k) + 1 := aI_add rfl L_1 ei_3 (by have := rng k; omega)
        refine lv_goto (tgt := 28) hx hb dX9_beginHouse_44 (by decide) ?_
        exact ih28 i_3 s3_c28 s4_c28 γ (up ψ 12 f_2) _ _ _ (show 0 ≤ (Int32.toInt i_3) ∧ (Int32.toInt s3_c28) = 1 ∧ (Int32.toInt s4_c28) = (Int32.toInt (σ 8)) from (by omega)) (by omega) hP hS (lv_sub hl [1, 0] rfl)
  refine lv_aload_n hx hb dX9_beginHouse_0 rfl (lv_at hl 0 rfl) ?_
  refine lv_iconst (v := 1) hx hb dX9_beginHouse_1 (by decide) ?_
  refine mp_0_12 (v := 1) hx hb hts hinX9 hown hK hP hI hS (hts (.fieldLink RX9 141 "CensusDeskModel" "inHouse" "Z") (List.mem_of_getElem? (i := 1) rfl)) (by first | rfl | decide) (by first | rfl | decide) dX9_beginHouse_2 ?_
  clear hP hS; intro H locs hP hS
  refine lv_aload_n hx hb dX9_beginHouse_5 rfl (lv_at hl 0 rfl) ?_
  refine lv_iconst (v := 0) hx hb dX9_beginHouse_6 (by decide) ?_
  refine mp_0_13 (v := 0) hx hb hts hinX9 hown hK hP hI hS (hts (.fieldLink RX9 158 "CensusDeskModel" "houseLost" "Z") (List.mem_of_getElem? (i := 2) rfl)) (by first | rfl | decide) (by first | rfl | decide) dX9_beginHouse_7 ?_
  clear hP hS; intro H locs hP hS
  refine lv_aload_n hx hb dX9_beginHouse_10 rfl (lv_at hl 0 rfl) ?_
  refine lv_aload_n hx hb dX9_beginHouse_11 rfl (lv_at hl 0 rfl) ?_
  refine mg_0_18 (v := (σ 5)) hx hb hts hinX9 hown hK hP (hts (.fieldLink RX9 171 "CensusDeskModel" "lineAt" "I") (List.mem_of_getElem? (i := 3) rfl)) rfl dX9_beginHouse_12 ?_
  refine mp_0_14 (v := (σ 5)) hx hb hts hinX9 hown hK hP hI hS (hts (.fieldLink RX9 164 "CensusDeskModel" "houseAt" "I") (List.mem_of_getElem? (i := 4) rfl)) dX9_beginHouse_15 ?_
  clear hP hS; intro H locs hP hS
  refine lv_aload_n hx hb dX9_beginHouse_18 rfl (lv_at hl 0 rfl) ?_
  refine lv_aload_n hx hb dX9_beginHouse_19 rfl (lv_at hl 0 rfl) ?_
  refine mg_0_32 (v := (σ 8)) hx hb hts hinX9 hown hK hP (hts (.fieldLink RX9 252 "CensusDeskModel" "persons" "I") (List.mem_of_getElem? (i := 5) rfl)) rfl dX9_beginHouse_20 ?_
  refine mp_0_17 (v := (σ 8)) hx hb hts hinX9 hown hK hP hI hS (hts (.fieldLink RX9 255 "CensusDeskModel" "firstPerson" "I") (List.mem_of_getElem? (i := 6) rfl)) dX9_beginHouse_23 ?_
  clear hP hS; intro H locs hP hS
  refine lv_iconst (v := 0) hx hb dX9_beginHouse_26 (by decide) ?_
  refine lv_istore_n (lv' := [(1, .int 0), (0, .ref (a 0))]) hx hb dX9_beginHouse_27 rfl hl (by decide) rfl ?_
  clear hl; intro ls hl
  exact J28 (_ + 1) 0 1 (σ 8) (up (up γ 5 0) 6 (σ 5)) ψ _ _ _ (show 0 ≤ (Int32.toInt 0) ∧ (Int32.toInt 1) = 1 ∧ (Int32.toInt (σ 8)) = (Int32.toInt (σ 8)) from (by have := L_0; have := L_1; omega)) (Nat.lt_succ_self _) hP hS (lv_sub hl [1, 0] rfl)
