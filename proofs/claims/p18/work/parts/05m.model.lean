set_option maxHeartbeats 4000000 in
set_option maxRecDepth 100000 in
theorem c_X9_receive (l : Launch) (dC : Nat → ClassId) (dI : Nat → Nat → Nat) (a : Nat → Nat) (κ : Nat → ClassId) (σ : Nat → Int32) (φ : Nat → Nat → Int32) (γ : Nat → Int32) (ψ : Nat → Nat → Int32)  (p_m_sex : PtR (-1) 1 (φ 3)) (p_m_nameAt : PtR 0 4000 (φ 4)) (p_m_nameSize : PtR 0 30 (φ 5)) (p_m_houseFirst : PtR 0 2000 (φ 1)) (p_m_houseMany : PtR 0 2000 (φ 2)) (p_m_bMany : PtR 0 2000 (φ 8)) (p_m_bSex : PtR (-1) 1 (φ 9)) (p_m_bSize : PtR 0 30 (φ 11)) (hfd : 0 ≤ (Int32.toInt (σ 0)) ∧ (Int32.toInt (σ 0)) ≤ 4000) (hk : 0 ≤ (Int32.toInt (σ 13)) ∧ (Int32.toInt (σ 13)) ≤ 60 ∧ 0 ≤ (Int32.toInt (σ 14)) ∧ (Int32.toInt (σ 14)) ≤ 300) (hms : (Int32.toInt (σ 14)) = zsum (φ 8) (Int32.toNatClampNeg (σ 13))) (hh : 0 ≤ (Int32.toInt (σ 7)) ∧ (Int32.toInt (σ 7)) ≤ 2000) (hf : 0 ≤ (Int32.toInt (σ 10)) ∧ (Int32.toInt (σ 10)) ≤ 1000000000) (hfc : ∀ i : Nat, i < 300 → (i : Int) < (Int32.toInt (σ 10)) → Int32.toInt ((φ 6) i) < i) (hNA : ∀ i : Nat, Int32.toInt ((φ 4) i) + Int32.toInt ((φ 5) i) ≤ 4000) (hHS : ∀ i : Nat, Int32.toInt ((φ 1) i) + Int32.toInt ((φ 2) i) ≤ 2000) (hac : AC (σ 16) (σ 17) (σ 18) (σ 2) (σ 15)) (hr : (Int32.toInt (σ 2)) = 0 ∨ ((0 ≤ (Int32.toInt (σ 1)) ∧ (Int32.toInt (σ 1)) ≤ (Int32.toInt (σ 0)) ∧ 0 ≤ (Int32.toInt (σ 10)) ∧ (Int32.toInt (σ 10)) ≤ 200000 * (Int32.toInt (σ 1)) ∧ ((Int32.toInt (σ 3)) = 0 ∨ (Int32.toInt (σ 10)) + 10 ≤ 200000 * (Int32.toInt (σ 1)))) ∧ (0 ≤ (Int32.toInt (σ 8)) ∧ (2 * (Int32.toInt (σ 8)) ≤ (Int32.toInt (σ 1)) ∨ (2 * (Int32.toInt (σ 8)) ≤ (Int32.toInt (σ 1)) + 1 ∧ (Int32.toInt (σ 1)) = (Int32.toInt (σ 0))))) ∧ (0 ≤ (Int32.toInt (σ 7)) ∧ (((Int32.toInt (σ 3)) = 0 ∧ (2 * (Int32.toInt (σ 7)) ≤ (Int32.toInt (σ 1)) ∨ (2 * (Int32.toInt (σ 7)) ≤ (Int32.toInt (σ 1)) + 1 ∧ (Int32.toInt (σ 1)) = (Int32.toInt (σ 0))))) ∨ ((Int32.toInt (σ 3)) ≠ 0 ∧ (2 * (Int32.toInt (σ 7)) + 2 ≤ (Int32.toInt (σ 1)) ∨ (2 * (Int32.toInt (σ 7)) + 2 ≤ (Int32.toInt (σ 1)) + 1 ∧ (Int32.toInt (σ 1)) = (Int32.toInt (σ 0))))))) ∧ ((Int32.toInt (σ 3)) = 0 ∨ (0 ≤ (Int32.toInt (σ 4)) ∧ (Int32.toInt (σ 4)) ≤ (Int32.toInt (σ 8)))) ∧ (0 ≤ (Int32.toInt (σ 9)) ∧ (Int32.toInt (σ 9)) ≤ (Int32.toInt (σ 1))) ∧ ((Int32.toInt (σ 3)) = 0 ∨ (Int32.toInt (σ 8)) ≤ (Int32.toInt (σ 4)) ∨ Int32.toInt ((φ 4) (Int32.toNatClampNeg (σ 4))) ≤ (Int32.toInt (σ 1))))) : Met l yX9_receive wsX9_receive ({ frames := 12, cells := 0, slots := 0, locals := 285 } : Room) (va_Pc [.ref (a 0)] (mPre dC dI a κ (σ, φ, γ, ψ))) (va_Qi (QI (fun r S F => ∃ (s15 : Int32) (s2 : Int32) (s1 : Int32) (s10 : Int32) (f6 : Nat → Int32) (s3 : Int32) (s4 : Int32) (s5 : Int32) (s6 : Int32) (s7 : Int32) (s8 : Int32) (s9 : Int32) (s11 : Int32) (s12 : Int32) (f7 : Nat → Int32) (f3 : Nat → Int32) (f4 : Nat → Int32) (f5 : Nat → Int32) (f1 : Nat → Int32) (f2 : Nat → Int32) (s13 : Int32) (s14 : Int32) (f8 : Nat → Int32) (f9 : Nat → Int32) (f10 : Nat → Int32) (f11 : Nat → Int32) (s16 : Int32) (s17 : Int32) (s18 : Int32), (up (up (up (up (up (up (up (up (up (up (up (up (up (up (up (up (up (up σ 15 s15) 2 s2) 1 s1) 10 s10) 3 s3) 4 s4) 5 s5) 6 s6) 7 s7) 8 s8) 9 s9) 11 s11) 12 s12) 13 s13) 14 s14) 16 s16) 17 s17) 18 s18) = S ∧ (up (up (up (up (up (up (up (up (up (up (up φ 6 f6) 7 f7) 3 f3) 4 f4) 5 f5) 1 f1) 2 f2) 8 f8) 9 f9) 10 f10) 11 f11) = F ∧ PtR (-1) 1 f3 ∧ PtR 0 4000 f4 ∧ PtR 0 30 f5 ∧ PtR 0 2000 f1 ∧ PtR 0 2000 f2 ∧ PtR 0 2000 f8 ∧ PtR (-1) 1 f9 ∧ PtR 0 30 f11 ∧ (0 ≤ (Int32.toInt s13) ∧ (Int32.toInt s13) ≤ 60 ∧ 0 ≤ (Int32.toInt s14) ∧ (Int32.toInt s14) ≤ 300) ∧ ((Int32.toInt s14) = zsum f8 (Int32.toNatClampNeg s13)) ∧ (0 ≤ (Int32.toInt s7) ∧ (Int32.toInt s7) ≤ 2000) ∧ (0 ≤ (Int32.toInt s10) ∧ (Int32.toInt s10) ≤ 1000000000) ∧ (∀ i : Nat, i < 300 → (i : Int) < (Int32.toInt s10) → Int32.toInt (f6 i) < i) ∧ (∀ i : Nat, Int32.toInt (f4 i) + Int32.toInt (f5 i) ≤ 4000) ∧ (∀ i : Nat, Int32.toInt (f1 i) + Int32.toInt (f2 i) ≤ 2000) ∧ (AC s16 s17 s18 s2 s15) ∧ ((Int32.toInt s2) = 0 ∨ ((0 ≤ (Int32.toInt s1) ∧ (Int32.toInt s1) ≤ (Int32.toInt (σ 0)) ∧ 0 ≤ (Int32.toInt s10) ∧ (Int32.toInt s10) ≤ 200000 * (Int32.toInt s1) ∧ ((Int32.toInt s3) = 0 ∨ (Int32.toInt s10) + 10 ≤ 200000 * (Int32.toInt s1))) ∧ (0 ≤ (Int32.toInt s8) ∧ (2 * (Int32.toInt s8) ≤ (Int32.toInt s1) ∨ (2 * (Int32.toInt s8) ≤ (Int32.toInt s1) + 1 ∧ (Int32.toInt s1) = (Int32.toInt (σ 0))))) ∧ (0 ≤ (Int32.toInt s7) ∧ (((Int32.toInt s3) = 0 ∧ (2 * (Int32.toInt s7) ≤ (Int32.toInt s1) ∨ (2 * (Int32.toInt s7) ≤ (Int32.toInt s1) + 1 ∧ (Int32.toInt s1) = (Int32.toInt (σ 0))))) ∨ ((Int32.toInt s3) ≠ 0 ∧ (2 * (Int32.toInt s7) + 2 ≤ (Int32.toInt s1) ∨ (2 * (Int32.toInt s7) + 2 ≤ (Int32.toInt s1) + 1 ∧ (Int32.toInt s1) = (Int32.toInt (σ 0))))))) ∧ ((Int32.toInt s3) = 0 ∨ (0 ≤ (Int32.toInt s4) ∧ (Int32.toInt s4) ≤ (Int32.toInt s8))) ∧ (0 ≤ (Int32.toInt s9) ∧ (Int32.toInt s9) ≤ (Int32.toInt s1)) ∧ ((Int32.toInt s3) = 0 ∨ (Int32.toInt s8) ≤ (Int32.toInt s4) ∨ Int32.toInt (f4 (Int32.toNatClampNeg s4)) ≤ (Int32.toInt s1)))))) (mB dC dI a κ) (mA a)) 0 0 (mA a) := by
  refine Met.ofW (cc := cX9_receive) (maxL := 2) (ret := (some .int)) (by decide) rfl ?_
  intro p e s m args below meth c s₁ B hml hv
  obtain ⟨rfl, hP, hK, hI, hN⟩ := hv
  have hx := B.exec
  have hb := B.bytes
  have hr := B.returns
  have hts := atoms_spec (ws := wsX9_receive) B.pre
  have hown : s.vm.findClass RX9 = some m.cls := findClass_of_methodNamed B.named
  have hlocks := B.notSynchronized
  have hS : va_S (mA a) s.heap s.heap [] := va_S.rf
  have hinX9 : ∀ w ∈ wsX90, w ∈ wsX9_receive := fun _ h => List.mem_cons_of_mem _ (List.mem_append_right _ h)
  have hl := lv_entry ([.ref (a 0)]) (n := 2) (Nat.le_of_ble_eq_true rfl)
  rw [lg_entry_eq]
  generalize (lg_sl ([.ref (a 0)]) ++ List.replicate (2 - (lg_sl ([.ref (a 0)])).length) Slot.unset).toArray = ls at hl ⊢
  have hl : lv_has ls 2 [(0, .ref (a 0))] := hl
  refine k_gen (fun QQ eQ => ?_)
  have J98 : ∀ (n98 : Nat), ∀ (k : Int32) (s15_c98 : Int32) (s1_c98 : Int32) (s3_c98 : Int32) (s7_c98 : Int32) (s8_c98 : Int32) (s9_c98 : Int32) (s10_c98 : Int32) (γ : Nat → Int32) (ψ : Nat → Nat → Int32) (H : Heap) (locs : List Loc) (ls : Array Slot), (0 ≤ (Int32.toInt k) ∧ (Int32.toInt s1_c98) = 0 ∧ (Int32.toInt s3_c98) = 0 ∧ (Int32.toInt s7_c98) = 0 ∧ (Int32.toInt s8_c98) = 0 ∧ (Int32.toInt s9_c98) = 0 ∧ (Int32.toInt s10_c98) = 0) → ((σ 16) + (σ 17) + (σ 18) + 1 = s15_c98) → ((σ 2) = 0) → ((6 - (Int32.toInt k)).toNat < n98) → va_P (dC, dI) vwCl (mw a κ ((up (up (up (up (up (up (up σ 15 s15_c98) 1 s1_c98) 3 s3_c98) 7 s7_c98) 8 s8_c98) 9 s9_c98) 10 s10_c98), φ, γ, ψ)) H → va_S (mA a) s.heap H locs → lv_has ls 2 [(0, .ref (a 0)), (1, .int k)] → W p l e ({ frames := 12, cells := 0, slots := 0, locals := 285 } : Room) s m ([.ref (a 0)] : List Value).toArray below meth c H locs 0 0 QQ (F0 m 98 ls []) := by
    intro n98
    induction n98 with
    | zero =>
      intro k s15_c98 s1_c98 s3_c98 s7_c98 s8_c98 s9_c98 s10_c98 γ ψ H locs ls v0 hpa vh hm
      exact absurd hm (Nat.not_lt_zero _)
    | succ n98 ih98 =>
      intro k s15_c98 s1_c98 s3_c98 s7_c98 s8_c98 s9_c98 s10_c98 γ ψ H locs ls v0 hpa vh hm hP hS hl
      refine lv_iload_n hx hb dX9_receive_98 rfl (lv_at hl 1 rfl) ?_
      refine lv_bipush (v := 6) hx hb dX9_receive_99 (by decide) ?_
      refine lv_icmp_ge (tgt := 117) hx hb dX9_receive_101 (by decide) (fun c_1 => ?_) (fun c_1 => ?_)
      · have kc_1 := bI_le L_6 rfl c_1
        refine lv_aload_n hx hb dX9_receive_117 rfl (lv_at hl 0 rfl) ?_
        refine m_calli (va_runV (As := []) (rest := []) ⟨hx, hb, hml, hown, hts⟩ (c_X9_readOn l dC dI a κ (up (up (up (up (up (up (up σ 15 s15_c98) 1 s1_c98) 3 s3_c98) 7 s7_c98) 8 s8_c98) 9 s9_c98) 10 s10_c98) φ γ ψ  p_m_sex p_m_nameAt p_m_nameSize p_m_houseFirst p_m_houseMany p_m_bMany p_m_bSex p_m_bSize (show 0 ≤ (Int32.toInt (σ 0)) ∧ (Int32.toInt (σ 0)) ≤ 4000 from (by omega)) (show 0 ≤ (Int32.toInt (σ 13)) ∧ (Int32.toInt (σ 13)) ≤ 60 ∧ 0 ≤ (Int32.toInt (σ 14)) ∧ (Int32.toInt (σ 14)) ≤ 300 from (by omega)) (show (Int32.toInt (σ 14)) = zsum (φ 8) (Int32.toNatClampNeg (σ 13)) from (by omega)) (show (0 ≤ (Int32.toInt s1_c98) ∧ (Int32.toInt s1_c98) ≤ (Int32.toInt (σ 0)) ∧ 0 ≤ (Int32.toInt s10_c98) ∧ (Int32.toInt s10_c98) ≤ 200000 * (Int32.toInt s1_c98) ∧ ((Int32.toInt s3_c98) = 0 ∨ (Int32.toInt s10_c98) + 10 ≤ 200000 * (Int32.toInt s1_c98))) ∧ (0 ≤ (Int32.toInt s8_c98) ∧ (2 * (Int32.toInt s8_c98) ≤ (Int32.toInt s1_c98) ∨ (2 * (Int32.toInt s8_c98) ≤ (Int32.toInt s1_c98) + 1 ∧ (Int32.toInt s1_c98) = (Int32.toInt (σ 0))))) ∧ (0 ≤ (Int32.toInt s7_c98) ∧ (((Int32.toInt s3_c98) = 0 ∧ (2 * (Int32.toInt s7_c98) ≤ (Int32.toInt s1_c98) ∨ (2 * (Int32.toInt s7_c98) ≤ (Int32.toInt s1_c98) + 1 ∧ (Int32.toInt s1_c98) = (Int32.toInt (σ 0))))) ∨ ((Int32.toInt s3_c98) ≠ 0 ∧ (2 * (Int32.toInt s7_c98) + 2 ≤ (Int32.toInt s1_c98) ∨ (2 * (Int32.toInt s7_c98) + 2 ≤ (Int32.toInt s1_c98) + 1 ∧ (Int32.toInt s1_c98) = (Int32.toInt (σ 0))))))) ∧ ((Int32.toInt s3_c98) = 0 ∨ (0 ≤ (Int32.toInt (σ 4)) ∧ (Int32.toInt (σ 4)) ≤ (Int32.toInt s8_c98))) ∧ (0 ≤ (Int32.toInt s9_c98) ∧ (Int32.toInt s9_c98) ≤ (Int32.toInt s1_c98)) ∧ ((Int32.toInt s3_c98) = 0 ∨ (Int32.toInt s8_c98) ≤ (Int32.toInt (σ 4)) ∨ Int32.toInt ((φ 4) (Int32.toNatClampNeg (σ 4))) ≤ (Int32.toInt s1_c98)) from (by omega)) (show ∀ i : Nat, i < 300 → (i : Int) < (Int32.toInt s10_c98) → Int32.toInt ((φ 6) i) < i from (fun i h1 h2 => by omega)) (show ∀ i : Nat, Int32.toInt ((φ 4) i) + Int32.toInt ((φ 5) i) ≤ 4000 from (by with_reducible assumption)) (show ∀ i : Nat, Int32.toInt ((φ 1) i) + Int32.toInt ((φ 2) i) ≤ 2000 from (by with_reducible assumption)) (show (σ 16) + (σ 17) + (σ 18) + 1 = s15_c98 from (by with_reducible assumption))) (cwV 0 hts gX9_receive_X9_readOn rfl rfl rfl ⟨rfl, hd_X9_readOn⟩ ⟨Nat.le_of_ble_eq_true rfl, Nat.le_of_ble_eq_true rfl⟩) (mPreV hP hK hI hN hS (va_recv hK hP (ci := 9) (q0 := 0) rfl rfl)) rfl rfl hl.1 rfl (lv_room (Nat.le_of_ble_eq_true rfl)) dX9_receive_118 ⟨(by decide +kernel), (by decide +kernel)⟩) hS ?_
        clear hP hS; intro r_2 S_2 F_2 γ_2 ψ_2 H locs hw hP hS
        obtain ⟨s2_2, s1_2, s10_2, f6_2, s3_2, s4_2, s5_2, s6_2, s7_2, s8_2, s9_2, s11_2, s12_2, f7_2, f3_2, f4_2, f5_2, f1_2, f2_2, s13_2, s14_2, f8_2, f9_2, f10_2, f11_2, s16_2, s17_2, s18_2, rfl, rfl, pf3_2, pf4_2, pf5_2, pf1_2, pf2_2, pf8_2, pf9_2, pf11_2, (qk_2 : 0 ≤ (Int32.toInt s13_2) ∧ (Int32.toInt s13_2) ≤ 60 ∧ 0 ≤ (Int32.toInt s14_2) ∧ (Int32.toInt s14_2) ≤ 300), (qm_2 : (Int32.toInt s14_2) = zsum f8_2 (Int32.toNatClampNeg s13_2)), (qh_2 : 0 ≤ (Int32.toInt s7_2) ∧ (Int32.toInt s7_2) ≤ 2000), (qf_2 : 0 ≤ (Int32.toInt s10_2) ∧ (Int32.toInt s10_2) ≤ 1000000000), (qc_2 : ∀ i : Nat, i < 300 → (i : Int) < (Int32.toInt s10_2) → Int32.toInt (f6_2 i) < i), (qA_2 : ∀ i : Nat, Int32.toInt (f4_2 i) + Int32.toInt (f5_2 i) ≤ 4000), (qS_2 : ∀ i : Nat, Int32.toInt (f1_2 i) + Int32.toInt (f2_2 i) ≤ 2000), (qac_2 : AC s16_2 s17_2 s18_2 s2_2 s15_c98), (qr_2 : (Int32.toInt s2_2) = 0 ∨ ((0 ≤ (Int32.toInt s1_2) ∧ (Int32.toInt s1_2) ≤ (Int32.toInt (σ 0)) ∧ 0 ≤ (Int32.toInt s10_2) ∧ (Int32.toInt s10_2) ≤ 200000 * (Int32.toInt s1_2) ∧ ((Int32.toInt s3_2) = 0 ∨ (Int32.toInt s10_2) + 10 ≤ 200000 * (Int32.toInt s1_2))) ∧ (0 ≤ (Int32.toInt s8_2) ∧ (2 * (Int32.toInt s8_2) ≤ (Int32.toInt s1_2) ∨ (2 * (Int32.toInt s8_2) ≤ (Int32.toInt s1_2) + 1 ∧ (Int32.toInt s1_2) = (Int32.toInt (σ 0))))) ∧ (0 ≤ (Int32.toInt s7_2) ∧ (((Int32.toInt s3_2) = 0 ∧ (2 * (Int32.toInt s7_2) ≤ (Int32.toInt s1_2) ∨ (2 * (Int32.toInt s7_2) ≤ (Int32.toInt s1_2) + 1 ∧ (Int32.toInt s1_2) = (Int32.toInt (σ 0))))) ∨ ((Int32.toInt s3_2) ≠ 0 ∧ (2 * (Int32.toInt s7_2) + 2 ≤ (Int32.toInt s1_2) ∨ (2 * (Int32.toInt s7_2) + 2 ≤ (Int32.toInt s1_2) + 1 ∧ (Int32.toInt s1_2) = (Int32.toInt (σ 0))))))) ∧ ((Int32.toInt s3_2) = 0 ∨ (0 ≤ (Int32.toInt s4_2) ∧ (Int32.toInt s4_2) ≤ (Int32.toInt s8_2))) ∧ (0 ≤ (Int32.toInt s9_2) ∧ (Int32.toInt s9_2) ≤ (Int32.toInt s1_2)) ∧ ((Int32.toInt s3_2) = 0 ∨ (Int32.toInt s8_2) ≤ (Int32.toInt s4_2) ∨ Int32.toInt (f4_2 (Int32.toNatClampNeg s4_2)) ≤ (Int32.toInt s1_2))))⟩ := hw
        subst eQ
        exact W.iret (v := r_2) hx hb hr (fun t ht hW => ⟨⟨r_2, ((up (up (up (up (up (up (up (up (up (up (up (up (up (up (up (up (up (up σ 15 s15_c98) 2 s2_2) 1 s1_2) 10 s10_2) 3 s3_2) 4 s4_2) 5 s5_2) 6 s6_2) 7 s7_2) 8 s8_2) 9 s9_2) 11 s11_2) 12 s12_2) 13 s13_2) 14 s14_2) 16 s16_2) 17 s17_2) 18 s18_2), (up (up (up (up (up (up (up (up (up (up (up φ 6 f6_2) 7 f7_2) 3 f3_2) 4 f4_2) 5 f5_2) 1 f1_2) 2 f2_2) 8 f8_2) 9 f9_2) 10 f10_2) 11 f11_2), γ_2, ψ_2), rfl, ⟨s15_c98, s2_2, s1_2, s10_2, f6_2, s3_2, s4_2, s5_2, s6_2, s7_2, s8_2, s9_2, s11_2, s12_2, f7_2, f3_2, f4_2, f5_2, f1_2, f2_2, s13_2, s14_2, f8_2, f9_2, f10_2, f11_2, s16_2, s17_2, s18_2, rfl, rfl, pf3_2, pf4_2, pf5_2, pf1_2, pf2_2, pf8_2, pf9_2, pf11_2, (show 0 ≤ (Int32.toInt s13_2) ∧ (Int32.toInt s13_2) ≤ 60 ∧ 0 ≤ (Int32.toInt s14_2) ∧ (Int32.toInt s14_2) ≤ 300 from (by omega)), (show (Int32.toInt s14_2) = zsum f8_2 (Int32.toNatClampNeg s13_2) from (by omega)), (show 0 ≤ (Int32.toInt s7_2) ∧ (Int32.toInt s7_2) ≤ 2000 from (by omega)), (show 0 ≤ (Int32.toInt s10_2) ∧ (Int32.toInt s10_2) ≤ 1000000000 from (by omega)), (show ∀ i : Nat, i < 300 → (i : Int) < (Int32.toInt s10_2) → Int32.toInt (f6_2 i) < i from (by with_reducible assumption)), (show ∀ i : Nat, Int32.toInt (f4_2 i) + Int32.toInt (f5_2 i) ≤ 4000 from (by with_reducible assumption)), (show ∀ i : Nat, Int32.toInt (f1_2 i) + Int32.toInt (f2_2 i) ≤ 2000 from (by with_reducible assumption)), (show AC s16_2 s17_2 s18_2 s2_2 s15_c98 from (by with_reducible assumption)), (show (Int32.toInt s2_2) = 0 ∨ ((0 ≤ (Int32.toInt s1_2) ∧ (Int32.toInt s1_2) ≤ (Int32.toInt (σ 0)) ∧ 0 ≤ (Int32.toInt s10_2) ∧ (Int32.toInt s10_2) ≤ 200000 * (Int32.toInt s1_2) ∧ ((Int32.toInt s3_2) = 0 ∨ (Int32.toInt s10_2) + 10 ≤ 200000 * (Int32.toInt s1_2))) ∧ (0 ≤ (Int32.toInt s8_2) ∧ (2 * (Int32.toInt s8_2) ≤ (Int32.toInt s1_2) ∨ (2 * (Int32.toInt s8_2) ≤ (Int32.toInt s1_2) + 1 ∧ (Int32.toInt s1_2) = (Int32.toInt (σ 0))))) ∧ (0 ≤ (Int32.toInt s7_2) ∧ (((Int32.toInt s3_2) = 0 ∧ (2 * (Int32.toInt s7_2) ≤ (Int32.toInt s1_2) ∨ (2 * (Int32.toInt s7_2) ≤ (Int32.toInt s1_2) + 1 ∧ (Int32.toInt s1_2) = (Int32.toInt (σ 0))))) ∨ ((Int32.toInt s3_2) ≠ 0 ∧ (2 * (Int32.toInt s7_2) + 2 ≤ (Int32.toInt s1_2) ∨ (2 * (Int32.toInt s7_2) + 2 ≤ (Int32.toInt s1_2) + 1 ∧ (Int32.toInt s1_2) = (Int32.toInt (σ 0))))))) ∧ ((Int32.toInt s3_2) = 0 ∨ (0 ≤ (Int32.toInt s4_2) ∧ (Int32.toInt s4_2) ≤ (Int32.toInt s8_2))) ∧ (0 ≤ (Int32.toInt s9_2) ∧ (Int32.toInt s9_2) ≤ (Int32.toInt s1_2)) ∧ ((Int32.toInt s3_2) = 0 ∨ (Int32.toInt s8_2) ≤ (Int32.toInt s4_2) ∨ Int32.toInt (f4_2 (Int32.toNatClampNeg s4_2)) ≤ (Int32.toInt s1_2))) from (by omega))⟩, (by show va_P _ _ _ _; rw [ht]; exact hP)⟩, hS.F ht⟩) hS.2.2 dX9_receive_121
      · have kc_1 := bI_nle L_6 rfl c_1
        refine lv_aload_n hx hb dX9_receive_104 rfl (lv_at hl 0 rfl) ?_
        refine mg_0_43 hx hb hts hinX9 hown hK hP (hts (.fieldLink RX9 71 "CensusDeskModel" "firstOut" "[I") (List.mem_of_getElem? (i := 15) rfl)) dX9_receive_105 ?_
        refine lv_iload_n hx hb dX9_receive_108 rfl (lv_at hl 1 rfl) ?_
        refine lv_iconst (v := (-1)) hx hb dX9_receive_109 (by decide) ?_
        refine ms_21 (f := (ψ 13)) hx hb hK hP hI hS (i := k) (x := (-1)) (vin rfl (by omega)) rfl dX9_receive_110 ?_
        clear hP hS; intro H locs hP hS
        obtain ⟨f_3, ef_3⟩ : ∃ z : Nat → Int32, z = upd (ψ 13) (Int32.toNatClampNeg k) (-1) := ⟨_, rfl⟩
        rw [← ef_3] at hP
        obtain ⟨i_4, ei_4⟩ : ∃ z : Int32, z = k + 1 := ⟨_, rfl⟩
        refine lv_iinc (v := i_4) (lv' := [(1, .int i_4), (0, .ref (a 0))]) hx hb dX9_receive_111 hl (k := 1) rfl (by rw [ei_4]; rfl) (by decide) rfl ?_
        clear hl; intro ls hl
        have ti_4 : (Int32.toInt i_4) = (Int32.toInt k) + 1 := aI_add rfl L_1 ei_4 (by have := rng k; omega)
        refine lv_goto (tgt := 98) hx hb dX9_receive_114 (by decide) ?_
        exact ih98 i_4 s15_c98 s1_c98 s3_c98 s7_c98 s8_c98 s9_c98 s10_c98 γ (up ψ 13 f_3) _ _ _ (show 0 ≤ (Int32.toInt i_4) ∧ (Int32.toInt s1_c98) = 0 ∧ (Int32.toInt s3_c98) = 0 ∧ (Int32.toInt s7_c98) = 0 ∧ (Int32.toInt s8_c98) = 0 ∧ (Int32.toInt s9_c98) = 0 ∧ (Int32.toInt s10_c98) = 0 from (by omega)) (show (σ 16) + (σ 17) + (σ 18) + 1 = s15_c98 from (by with_reducible assumption)) (show (σ 2) = 0 from (by with_reducible assumption)) (by omega) hP hS (lv_sub hl [1, 0] rfl)
  have J77 : ∀ (n77 : Nat), ∀ (k : Int32) (s15_c77 : Int32) (s1_c77 : Int32) (s3_c77 : Int32) (s7_c77 : Int32) (s8_c77 : Int32) (s9_c77 : Int32) (s10_c77 : Int32) (γ : Nat → Int32) (ψ : Nat → Nat → Int32) (H : Heap) (locs : List Loc) (ls : Array Slot), (0 ≤ (Int32.toInt k) ∧ (Int32.toInt s1_c77) = 0 ∧ (Int32.toInt s3_c77) = 0 ∧ (Int32.toInt s7_c77) = 0 ∧ (Int32.toInt s8_c77) = 0 ∧ (Int32.toInt s9_c77) = 0 ∧ (Int32.toInt s10_c77) = 0) → ((σ 16) + (σ 17) + (σ 18) + 1 = s15_c77) → ((σ 2) = 0) → ((22 - (Int32.toInt k)).toNat < n77) → va_P (dC, dI) vwCl (mw a κ ((up (up (up (up (up (up (up σ 15 s15_c77) 1 s1_c77) 3 s3_c77) 7 s7_c77) 8 s8_c77) 9 s9_c77) 10 s10_c77), φ, γ, ψ)) H → va_S (mA a) s.heap H locs → lv_has ls 2 [(0, .ref (a 0)), (1, .int k)] → W p l e ({ frames := 12, cells := 0, slots := 0, locals := 285 } : Room) s m ([.ref (a 0)] : List Value).toArray below meth c H locs 0 0 QQ (F0 m 77 ls []) := by
    intro n77
    induction n77 with
    | zero =>
      intro k s15_c77 s1_c77 s3_c77 s7_c77 s8_c77 s9_c77 s10_c77 γ ψ H locs ls v0 hpa vh hm
      exact absurd hm (Nat.not_lt_zero _)
    | succ n77 ih77 =>
      intro k s15_c77 s1_c77 s3_c77 s7_c77 s8_c77 s9_c77 s10_c77 γ ψ H locs ls v0 hpa vh hm hP hS hl
      refine lv_iload_n hx hb dX9_receive_77 rfl (lv_at hl 1 rfl) ?_
      refine lv_bipush (v := 22) hx hb dX9_receive_78 (by decide) ?_
      refine lv_icmp_ge (tgt := 96) hx hb dX9_receive_80 (by decide) (fun c_5 => ?_) (fun c_5 => ?_)
      · have kc_5 := bI_le L_22 rfl c_5
        refine lv_iconst (v := 0) hx hb dX9_receive_96 (by decide) ?_
        refine lv_istore_n (lv' := [(1, .int 0), (0, .ref (a 0))]) hx hb dX9_receive_97 rfl hl (by decide) rfl ?_
        clear hl; intro ls hl
        exact J98 (_ + 1) 0 s15_c77 s1_c77 s3_c77 s7_c77 s8_c77 s9_c77 s10_c77 γ ψ _ _ _ (show 0 ≤ (Int32.toInt 0) ∧ (Int32.toInt s1_c77) = 0 ∧ (Int32.toInt s3_c77) = 0 ∧ (Int32.toInt s7_c77) = 0 ∧ (Int32.toInt s8_c77) = 0 ∧ (Int32.toInt s9_c77) = 0 ∧ (Int32.toInt s10_c77) = 0 from (by have := L_0; omega)) (show (σ 16) + (σ 17) + (σ 18) + 1 = s15_c77 from (by with_reducible assumption)) (show (σ 2) = 0 from (by with_reducible assumption)) (Nat.lt_succ_self _) hP hS (lv_sub hl [1, 0] rfl)
      · have kc_5 := bI_nle L_22 rfl c_5
        refine lv_aload_n hx hb dX9_receive_83 rfl (lv_at hl 0 rfl) ?_
        refine mg_0_41 hx hb hts hinX9 hown hK hP (hts (.fieldLink RX9 65 "CensusDeskModel" "many" "[I") (List.mem_of_getElem? (i := 14) rfl)) dX9_receive_84 ?_
        refine lv_iload_n hx hb dX9_receive_87 rfl (lv_at hl 1 rfl) ?_
        refine lv_iconst (v := 0) hx hb dX9_receive_88 (by decide) ?_
        refine ms_19 (f := (ψ 11)) hx hb hK hP hI hS (i := k) (x := 0) (vin rfl (by omega)) rfl dX9_receive_89 ?_
        clear hP hS; intro H locs hP hS
        obtain ⟨f_6, ef_6⟩ : ∃ z : Nat → Int32, z = upd (ψ 11) (Int32.toNatClampNeg k) 0 := ⟨_, rfl⟩
        rw [← ef_6] at hP
        obtain ⟨i_7, ei_7⟩ : ∃ z : Int32, z = k + 1 := ⟨_, rfl⟩
        refine lv_iinc (v := i_7) (lv' := [(1, .int i_7), (0, .ref (a 0))]) hx hb dX9_receive_90 hl (k := 1) rfl (by rw [ei_7]; rfl) (by decide) rfl ?_
        clear hl; intro ls hl
        have ti_7 : (Int32.toInt i_7) = (Int32.toInt k) + 1 := aI_add rfl L_1 ei_7 (by have := rng k; omega)
        refine lv_goto (tgt := 77) hx hb dX9_receive_93 (by decide) ?_
        exact ih77 i_7 s15_c77 s1_c77 s3_c77 s7_c77 s8_c77 s9_c77 s10_c77 γ (up ψ 11 f_6) _ _ _ (show 0 ≤ (Int32.toInt i_7) ∧ (Int32.toInt s1_c77) = 0 ∧ (Int32.toInt s3_c77) = 0 ∧ (Int32.toInt s7_c77) = 0 ∧ (Int32.toInt s8_c77) = 0 ∧ (Int32.toInt s9_c77) = 0 ∧ (Int32.toInt s10_c77) = 0 from (by omega)) (show (σ 16) + (σ 17) + (σ 18) + 1 = s15_c77 from (by with_reducible assumption)) (show (σ 2) = 0 from (by with_reducible assumption)) (by omega) hP hS (lv_sub hl [1, 0] rfl)
  refine lv_aload_n hx hb dX9_receive_0 rfl (lv_at hl 0 rfl) ?_
  refine mg_0_5 (v := (σ 2)) hx hb hts hinX9 hown hK hP (hts (.fieldLink RX9 120 "CensusDeskModel" "isHeld" "Z") (List.mem_of_getElem? (i := 1) rfl)) rfl dX9_receive_1 ?_
  refine lv_if_eq (tgt := 10) hx hb dX9_receive_4 (by decide) (fun c_8 => ?_) (fun c_8 => ?_)
  · have kc_8 := bI_eq rfl L_0 c_8
    refine lv_aload_n hx hb dX9_receive_10 rfl (lv_at hl 0 rfl) ?_
    refine lv_dup hx hb dX9_receive_11 rfl ?_
    refine mg_0_8 (v := (σ 15)) hx hb hts hinX9 hown hK hP (hts (.fieldLink RX9 307 "CensusDeskModel" "sheets" "I") (List.mem_of_getElem? (i := 2) rfl)) rfl dX9_receive_12 ?_
    refine lv_iconst (v := 1) hx hb dX9_receive_15 (by decide) ?_
    refine lv_iadd hx hb dX9_receive_16 ?_
    refine lv_topi (fun z_9 ez_9 => ?_)
    refine mp_0_8 (v := z_9) hx hb hts hinX9 hown hK hP hI hS (hts (.fieldLink RX9 307 "CensusDeskModel" "sheets" "I") (List.mem_of_getElem? (i := 2) rfl)) dX9_receive_17 ?_
    clear hP hS; intro H locs hP hS
    have hpa : (σ 16) + (σ 17) + (σ 18) + 1 = z_9 := by rw [ez_9, ← hac.of0 c_8]
    have vh : (σ 2) = 0 := c_8
    refine lv_aload_n hx hb dX9_receive_20 rfl (lv_at hl 0 rfl) ?_
    refine lv_iconst (v := 0) hx hb dX9_receive_21 (by decide) ?_
    refine mp_0_4 (v := 0) hx hb hts hinX9 hown hK hP hI hS (hts (.fieldLink RX9 261 "CensusDeskModel" "place" "I") (List.mem_of_getElem? (i := 3) rfl)) dX9_receive_22 ?_
    clear hP hS; intro H locs hP hS
    refine lv_aload_n hx hb dX9_receive_25 rfl (lv_at hl 0 rfl) ?_
    refine lv_iconst (v := 0) hx hb dX9_receive_26 (by decide) ?_
    refine mp_0_6 (v := 0) hx hb hts hinX9 hown hK hP hI hS (hts (.fieldLink RX9 151 "CensusDeskModel" "isRejected" "Z") (List.mem_of_getElem? (i := 4) rfl)) (by first | rfl | decide) (by first | rfl | decide) dX9_receive_27 ?_
    clear hP hS; intro H locs hP hS
    refine lv_aload_n hx hb dX9_receive_30 rfl (lv_at hl 0 rfl) ?_
    refine lv_iconst (v := 0) hx hb dX9_receive_31 (by decide) ?_
    refine mp_0_7 (v := 0) hx hb hts hinX9 hown hK hP hI hS (hts (.fieldLink RX9 144 "CensusDeskModel" "stops" "Z") (List.mem_of_getElem? (i := 5) rfl)) (by first | rfl | decide) (by first | rfl | decide) dX9_receive_32 ?_
    clear hP hS; intro H locs hP hS
    refine lv_aload_n hx hb dX9_receive_35 rfl (lv_at hl 0 rfl) ?_
    refine lv_iconst (v := 0) hx hb dX9_receive_36 (by decide) ?_
    refine mp_0_9 (v := 0) hx hb hts hinX9 hown hK hP hI hS (hts (.fieldLink RX9 274 "CensusDeskModel" "lines" "I") (List.mem_of_getElem? (i := 6) rfl)) dX9_receive_37 ?_
    clear hP hS; intro H locs hP hS
    refine lv_aload_n hx hb dX9_receive_40 rfl (lv_at hl 0 rfl) ?_
    refine lv_iconst (v := 0) hx hb dX9_receive_41 (by decide) ?_
    refine mp_0_10 (v := 0) hx hb hts hinX9 hown hK hP hI hS (hts (.fieldLink RX9 161 "CensusDeskModel" "lost" "I") (List.mem_of_getElem? (i := 7) rfl)) dX9_receive_42 ?_
    clear hP hS; intro H locs hP hS
    refine lv_aload_n hx hb dX9_receive_45 rfl (lv_at hl 0 rfl) ?_
    refine lv_iconst (v := (-1)) hx hb dX9_receive_46 (by decide) ?_
    refine mp_0_11 (v := (-1)) hx hb hts hinX9 hown hK hP hI hS (hts (.fieldLink RX9 258 "CensusDeskModel" "lastNumber" "I") (List.mem_of_getElem? (i := 8) rfl)) dX9_receive_47 ?_
    clear hP hS; intro H locs hP hS
    refine lv_aload_n hx hb dX9_receive_50 rfl (lv_at hl 0 rfl) ?_
    refine lv_iconst (v := 0) hx hb dX9_receive_51 (by decide) ?_
    refine mp_0_12 (v := 0) hx hb hts hinX9 hown hK hP hI hS (hts (.fieldLink RX9 141 "CensusDeskModel" "inHouse" "Z") (List.mem_of_getElem? (i := 9) rfl)) (by first | rfl | decide) (by first | rfl | decide) dX9_receive_52 ?_
    clear hP hS; intro H locs hP hS
    refine lv_aload_n hx hb dX9_receive_55 rfl (lv_at hl 0 rfl) ?_
    refine lv_iconst (v := 0) hx hb dX9_receive_56 (by decide) ?_
    refine mp_0_26 (v := 0) hx hb hts hinX9 hown hK hP hI hS (hts (.fieldLink RX9 234 "CensusDeskModel" "houses" "I") (List.mem_of_getElem? (i := 10) rfl)) dX9_receive_57 ?_
    clear hP hS; intro H locs hP hS
    refine lv_aload_n hx hb dX9_receive_60 rfl (lv_at hl 0 rfl) ?_
    refine lv_iconst (v := 0) hx hb dX9_receive_61 (by decide) ?_
    refine mp_0_32 (v := 0) hx hb hts hinX9 hown hK hP hI hS (hts (.fieldLink RX9 252 "CensusDeskModel" "persons" "I") (List.mem_of_getElem? (i := 11) rfl)) dX9_receive_62 ?_
    clear hP hS; intro H locs hP hS
    refine lv_aload_n hx hb dX9_receive_65 rfl (lv_at hl 0 rfl) ?_
    refine lv_iconst (v := 0) hx hb dX9_receive_66 (by decide) ?_
    refine mp_0_34 (v := 0) hx hb hts hinX9 hown hK hP hI hS (hts (.fieldLink RX9 240 "CensusDeskModel" "nameEnd" "I") (List.mem_of_getElem? (i := 12) rfl)) dX9_receive_67 ?_
    clear hP hS; intro H locs hP hS
    refine lv_aload_n hx hb dX9_receive_70 rfl (lv_at hl 0 rfl) ?_
    refine lv_iconst (v := 0) hx hb dX9_receive_71 (by decide) ?_
    refine mp_0_40 (v := 0) hx hb hts hinX9 hown hK hP hI hS (hts (.fieldLink RX9 135 "CensusDeskModel" "fails" "I") (List.mem_of_getElem? (i := 13) rfl)) dX9_receive_72 ?_
    clear hP hS; intro H locs hP hS
    refine lv_iconst (v := 0) hx hb dX9_receive_75 (by decide) ?_
    refine lv_istore_n (lv' := [(1, .int 0), (0, .ref (a 0))]) hx hb dX9_receive_76 rfl hl (by decide) rfl ?_
    clear hl; intro ls hl
    exact J77 (_ + 1) 0 z_9 0 0 0 0 0 0 (up (up (up (up (up γ 0 0) 1 0) 2 0) 3 0) 4 (-1)) ψ _ _ _ (show 0 ≤ (Int32.toInt 0) ∧ (Int32.toInt 0) = 0 ∧ (Int32.toInt 0) = 0 ∧ (Int32.toInt 0) = 0 ∧ (Int32.toInt 0) = 0 ∧ (Int32.toInt 0) = 0 ∧ (Int32.toInt 0) = 0 from (by have := L_0; omega)) (show (σ 16) + (σ 17) + (σ 18) + 1 = z_9 from (by with_reducible assumption)) (show (σ 2) = 0 from (by with_reducible assumption)) (Nat.lt_succ_self _) hP hS (lv_sub hl [1, 0] rfl)
  · have kc_8 := bI_ne rfl L_0 c_8
    refine lv_bipush (v := (-2)) hx hb dX9_receive_7 (by decide) ?_
    subst eQ
    exact W.iret (v := (-2)) hx hb hr (fun t ht hW => ⟨⟨(-2), ((up (up (up (up (up (up (up (up (up (up (up (up (up (up (up (up (up (up σ 15 (σ 15)) 2 (σ 2)) 1 (σ 1)) 10 (σ 10)) 3 (σ 3)) 4 (σ 4)) 5 (σ 5)) 6 (σ 6)) 7 (σ 7)) 8 (σ 8)) 9 (σ 9)) 11 (σ 11)) 12 (σ 12)) 13 (σ 13)) 14 (σ 14)) 16 (σ 16)) 17 (σ 17)) 18 (σ 18)), (up (up (up (up (up (up (up (up (up (up (up φ 6 (φ 6)) 7 (φ 7)) 3 (φ 3)) 4 (φ 4)) 5 (φ 5)) 1 (φ 1)) 2 (φ 2)) 8 (φ 8)) 9 (φ 9)) 10 (φ 10)) 11 (φ 11)), γ, ψ), rfl, ⟨(σ 15), (σ 2), (σ 1), (σ 10), (φ 6), (σ 3), (σ 4), (σ 5), (σ 6), (σ 7), (σ 8), (σ 9), (σ 11), (σ 12), (φ 7), (φ 3), (φ 4), (φ 5), (φ 1), (φ 2), (σ 13), (σ 14), (φ 8), (φ 9), (φ 10), (φ 11), (σ 16), (σ 17), (σ 18), rfl, rfl, p_m_sex, p_m_nameAt, p_m_nameSize, p_m_houseFirst, p_m_houseMany, p_m_bMany, p_m_bSex, p_m_bSize, (show 0 ≤ (Int32.toInt (σ 13)) ∧ (Int32.toInt (σ 13)) ≤ 60 ∧ 0 ≤ (Int32.toInt (σ 14)) ∧ (Int32.toInt (σ 14)) ≤ 300 from (by omega)), (show (Int32.toInt (σ 14)) = zsum (φ 8) (Int32.toNatClampNeg (σ 13)) from (by omega)), (show 0 ≤ (Int32.toInt (σ 7)) ∧ (Int32.toInt (σ 7)) ≤ 2000 from (by omega)), (show 0 ≤ (Int32.toInt (σ 10)) ∧ (Int32.toInt (σ 10)) ≤ 1000000000 from (by omega)), (show ∀ i : Nat, i < 300 → (i : Int) < (Int32.toInt (σ 10)) → Int32.toInt ((φ 6) i) < i from (by with_reducible assumption)), (show ∀ i : Nat, Int32.toInt ((φ 4) i) + Int32.toInt ((φ 5) i) ≤ 4000 from (by with_reducible assumption)), (show ∀ i : Nat, Int32.toInt ((φ 1) i) + Int32.toInt ((φ 2) i) ≤ 2000 from (by with_reducible assumption)), (show AC (σ 16) (σ 17) (σ 18) (σ 2) (σ 15) from (by with_reducible assumption)), (show (Int32.toInt (σ 2)) = 0 ∨ ((0 ≤ (Int32.toInt (σ 1)) ∧ (Int32.toInt (σ 1)) ≤ (Int32.toInt (σ 0)) ∧ 0 ≤ (Int32.toInt (σ 10)) ∧ (Int32.toInt (σ 10)) ≤ 200000 * (Int32.toInt (σ 1)) ∧ ((Int32.toInt (σ 3)) = 0 ∨ (Int32.toInt (σ 10)) + 10 ≤ 200000 * (Int32.toInt (σ 1)))) ∧ (0 ≤ (Int32.toInt (σ 8)) ∧ (2 * (Int32.toInt (σ 8)) ≤ (Int32.toInt (σ 1)) ∨ (2 * (Int32.toInt (σ 8)) ≤ (Int32.toInt (σ 1)) + 1 ∧ (Int32.toInt (σ 1)) = (Int32.toInt (σ 0))))) ∧ (0 ≤ (Int32.toInt (σ 7)) ∧ (((Int32.toInt (σ 3)) = 0 ∧ (2 * (Int32.toInt (σ 7)) ≤ (Int32.toInt (σ 1)) ∨ (2 * (Int32.toInt (σ 7)) ≤ (Int32.toInt (σ 1)) + 1 ∧ (Int32.toInt (σ 1)) = (Int32.toInt (σ 0))))) ∨ ((Int32.toInt (σ 3)) ≠ 0 ∧ (2 * (Int32.toInt (σ 7)) + 2 ≤ (Int32.toInt (σ 1)) ∨ (2 * (Int32.toInt (σ 7)) + 2 ≤ (Int32.toInt (σ 1)) + 1 ∧ (Int32.toInt (σ 1)) = (Int32.toInt (σ 0))))))) ∧ ((Int32.toInt (σ 3)) = 0 ∨ (0 ≤ (Int32.toInt (σ 4)) ∧ (Int32.toInt (σ 4)) ≤ (Int32.toInt (σ 8)))) ∧ (0 ≤ (Int32.toInt (σ 9)) ∧ (Int32.toInt (σ 9)) ≤ (Int32.toInt (σ 1))) ∧ ((Int32.toInt (σ 3)) = 0 ∨ (Int32.toInt (σ 8)) ≤ (Int32.toInt (σ 4)) ∨ Int32.toInt ((φ 4) (Int32.toNatClampNeg (σ 4))) ≤ (Int32.toInt (σ 1)))) from (by omega))⟩, (by show va_P _ _ _ _; rw [ht]; exact hP)⟩, hS.F ht⟩) hS.2.2 dX9_receive_9
set_option maxHeartbeats 4000000 in
set_option maxRecDepth 100000 in
theorem c_X9_resume (l : Launch) (dC : Nat → ClassId) (dI : Nat → Nat → Nat) (a : Nat → Nat) (κ : Nat → ClassId) (σ : Nat → Int32) (φ : Nat → Nat → Int32) (γ : Nat → Int32) (ψ : Nat → Nat → Int32)  (p_m_sex : PtR (-1) 1 (φ 3)) (p_m_nameAt : PtR 0 4000 (φ 4)) (p_m_nameSize : PtR 0 30 (φ 5)) (p_m_houseFirst : PtR 0 2000 (φ 1)) (p_m_houseMany : PtR 0 2000 (φ 2)) (p_m_bMany : PtR 0 2000 (φ 8)) (p_m_bSex : PtR (-1) 1 (φ 9)) (p_m_bSize : PtR 0 30 (φ 11)) (hfd : 0 ≤ (Int32.toInt (σ 0)) ∧ (Int32.toInt (σ 0)) ≤ 4000) (hk : 0 ≤ (Int32.toInt (σ 13)) ∧ (Int32.toInt (σ 13)) ≤ 60 ∧ 0 ≤ (Int32.toInt (σ 14)) ∧ (Int32.toInt (σ 14)) ≤ 300) (hms : (Int32.toInt (σ 14)) = zsum (φ 8) (Int32.toNatClampNeg (σ 13))) (hh : 0 ≤ (Int32.toInt (σ 7)) ∧ (Int32.toInt (σ 7)) ≤ 2000) (hf : 0 ≤ (Int32.toInt (σ 10)) ∧ (Int32.toInt (σ 10)) ≤ 1000000000) (hfc : ∀ i : Nat, i < 300 → (i : Int) < (Int32.toInt (σ 10)) → Int32.toInt ((φ 6) i) < i) (hNA : ∀ i : Nat, Int32.toInt ((φ 4) i) + Int32.toInt ((φ 5) i) ≤ 4000) (hHS : ∀ i : Nat, Int32.toInt ((φ 1) i) + Int32.toInt ((φ 2) i) ≤ 2000) (hac : AC (σ 16) (σ 17) (σ 18) (σ 2) (σ 15)) (hr : (Int32.toInt (σ 2)) = 0 ∨ ((0 ≤ (Int32.toInt (σ 1)) ∧ (Int32.toInt (σ 1)) ≤ (Int32.toInt (σ 0)) ∧ 0 ≤ (Int32.toInt (σ 10)) ∧ (Int32.toInt (σ 10)) ≤ 200000 * (Int32.toInt (σ 1)) ∧ ((Int32.toInt (σ 3)) = 0 ∨ (Int32.toInt (σ 10)) + 10 ≤ 200000 * (Int32.toInt (σ 1)))) ∧ (0 ≤ (Int32.toInt (σ 8)) ∧ (2 * (Int32.toInt (σ 8)) ≤ (Int32.toInt (σ 1)) ∨ (2 * (Int32.toInt (σ 8)) ≤ (Int32.toInt (σ 1)) + 1 ∧ (Int32.toInt (σ 1)) = (Int32.toInt (σ 0))))) ∧ (0 ≤ (Int32.toInt (σ 7)) ∧ (((Int32.toInt (σ 3)) = 0 ∧ (2 * (Int32.toInt (σ 7)) ≤ (Int32.toInt (σ 1)) ∨ (2 * (Int32.toInt (σ 7)) ≤ (Int32.toInt (σ 1)) + 1 ∧ (Int32.toInt (σ 1)) = (Int32.toInt (σ 0))))) ∨ ((Int32.toInt (σ 3)) ≠ 0 ∧ (2 * (Int32.toInt (σ 7)) + 2 ≤ (Int32.toInt (σ 1)) ∨ (2 * (Int32.toInt (σ 7)) + 2 ≤ (Int32.toInt (σ 1)) + 1 ∧ (Int32.toInt (σ 1)) = (Int32.toInt (σ 0))))))) ∧ ((Int32.toInt (σ 3)) = 0 ∨ (0 ≤ (Int32.toInt (σ 4)) ∧ (Int32.toInt (σ 4)) ≤ (Int32.toInt (σ 8)))) ∧ (0 ≤ (Int32.toInt (σ 9)) ∧ (Int32.toInt (σ 9)) ≤ (Int32.toInt (σ 1))) ∧ ((Int32.toInt (σ 3)) = 0 ∨ (Int32.toInt (σ 8)) ≤ (Int32.toInt (σ 4)) ∨ Int32.toInt ((φ 4) (Int32.toNatClampNeg (σ 4))) ≤ (Int32.toInt (σ 1))))) : Met l yX9_resume wsX9_resume ({ frames := 12, cells := 0, slots := 0, locals := 285 } : Room) (va_Pc [.ref (a 0)] (mPre dC dI a κ (σ, φ, γ, ψ))) (va_Qi (QI (fun r S F => ∃ (s2 : Int32) (s1 : Int32) (s10 : Int32) (f6 : Nat → Int32) (s3 : Int32) (s4 : Int32) (s5 : Int32) (s6 : Int32) (s7 : Int32) (s8 : Int32) (s9 : Int32) (s11 : Int32) (s12 : Int32) (f7 : Nat → Int32) (f3 : Nat → Int32) (f4 : Nat → Int32) (f5 : Nat → Int32) (f1 : Nat → Int32) (f2 : Nat → Int32) (s13 : Int32) (s14 : Int32) (f8 : Nat → Int32) (f9 : Nat → Int32) (f10 : Nat → Int32) (f11 : Nat → Int32) (s16 : Int32) (s17 : Int32) (s18 : Int32), (up (up (up (up (up (up (up (up (up (up (up (up (up (up (up (up (up σ 2 s2) 1 s1) 10 s10) 3 s3) 4 s4) 5 s5) 6 s6) 7 s7) 8 s8) 9 s9) 11 s11) 12 s12) 13 s13) 14 s14) 16 s16) 17 s17) 18 s18) = S ∧ (up (up (up (up (up (up (up (up (up (up (up φ 6 f6) 7 f7) 3 f3) 4 f4) 5 f5) 1 f1) 2 f2) 8 f8) 9 f9) 10 f10) 11 f11) = F ∧ PtR (-1) 1 f3 ∧ PtR 0 4000 f4 ∧ PtR 0 30 f5 ∧ PtR 0 2000 f1 ∧ PtR 0 2000 f2 ∧ PtR 0 2000 f8 ∧ PtR (-1) 1 f9 ∧ PtR 0 30 f11 ∧ (0 ≤ (Int32.toInt s13) ∧ (Int32.toInt s13) ≤ 60 ∧ 0 ≤ (Int32.toInt s14) ∧ (Int32.toInt s14) ≤ 300) ∧ ((Int32.toInt s14) = zsum f8 (Int32.toNatClampNeg s13)) ∧ (0 ≤ (Int32.toInt s7) ∧ (Int32.toInt s7) ≤ 2000) ∧ (0 ≤ (Int32.toInt s10) ∧ (Int32.toInt s10) ≤ 1000000000) ∧ (∀ i : Nat, i < 300 → (i : Int) < (Int32.toInt s10) → Int32.toInt (f6 i) < i) ∧ (∀ i : Nat, Int32.toInt (f4 i) + Int32.toInt (f5 i) ≤ 4000) ∧ (∀ i : Nat, Int32.toInt (f1 i) + Int32.toInt (f2 i) ≤ 2000) ∧ (AC s16 s17 s18 s2 (σ 15)) ∧ ((Int32.toInt s2) = 0 ∨ ((0 ≤ (Int32.toInt s1) ∧ (Int32.toInt s1) ≤ (Int32.toInt (σ 0)) ∧ 0 ≤ (Int32.toInt s10) ∧ (Int32.toInt s10) ≤ 200000 * (Int32.toInt s1) ∧ ((Int32.toInt s3) = 0 ∨ (Int32.toInt s10) + 10 ≤ 200000 * (Int32.toInt s1))) ∧ (0 ≤ (Int32.toInt s8) ∧ (2 * (Int32.toInt s8) ≤ (Int32.toInt s1) ∨ (2 * (Int32.toInt s8) ≤ (Int32.toInt s1) + 1 ∧ (Int32.toInt s1) = (Int32.toInt (σ 0))))) ∧ (0 ≤ (Int32.toInt s7) ∧ (((Int32.toInt s3) = 0 ∧ (2 * (Int32.toInt s7) ≤ (Int32.toInt s1) ∨ (2 * (Int32.toInt s7) ≤ (Int32.toInt s1) + 1 ∧ (Int32.toInt s1) = (Int32.toInt (σ 0))))) ∨ ((Int32.toInt s3) ≠ 0 ∧ (2 * (Int32.toInt s7) + 2 ≤ (Int32.toInt s1) ∨ (2 * (Int32.toInt s7) + 2 ≤ (Int32.toInt s1) + 1 ∧ (Int32.toInt s1) = (Int32.toInt (σ 0))))))) ∧ ((Int32.toInt s3) = 0 ∨ (0 ≤ (Int32.toInt s4) ∧ (Int32.toInt s4) ≤ (Int32.toInt s8))) ∧ (0 ≤ (Int32.toInt s9) ∧ (Int32.toInt s9) ≤ (Int32.toInt s1)) ∧ ((Int32.toInt s3) = 0 ∨ (Int32.toInt s8) ≤ (Int32.toInt s4) ∨ Int32.toInt (f4 (Int32.toNatClampNeg s4)) ≤ (Int32.toInt s1)))))) (mB dC dI a κ) (mA a)) 0 0 (mA a) := by
  refine Met.ofW (cc := cX9_resume) (maxL := 1) (ret := (some .int)) (by decide) rfl ?_
  intro p e s m args below meth c s₁ B hml hv
  obtain ⟨rfl, hP, hK, hI, hN⟩ := hv
  have hx := B.exec
  have hb := B.bytes
  have hr := B.returns
  have hts := atoms_spec (ws := wsX9_resume) B.pre
  have hown : s.vm.findClass RX9 = some m.cls := findClass_of_methodNamed B.named
  have hlocks := B.notSynchronized
  have hS : va_S (mA a) s.heap s.heap [] := va_S.rf
  have hinX9 : ∀ w ∈ wsX90, w ∈ wsX9_resume := fun _ h => List.mem_cons_of_mem _ (List.mem_append_right _ h)
  have hl := lv_entry ([.ref (a 0)]) (n := 1) (Nat.le_of_ble_eq_true rfl)
  rw [lg_entry_eq]
  generalize (lg_sl ([.ref (a 0)]) ++ List.replicate (1 - (lg_sl ([.ref (a 0)])).length) Slot.unset).toArray = ls at hl ⊢
  have hl : lv_has ls 1 [(0, .ref (a 0))] := hl
  refine lv_aload_n hx hb dX9_resume_0 rfl (lv_at hl 0 rfl) ?_
  refine mg_0_5 (v := (σ 2)) hx hb hts hinX9 hown hK hP (hts (.fieldLink RX9 120 "CensusDeskModel" "isHeld" "Z") (List.mem_of_getElem? (i := 1) rfl)) rfl dX9_resume_1 ?_
  refine lv_if_eq (tgt := 14) hx hb dX9_resume_4 (by decide) (fun c_1 => ?_) (fun c_1 => ?_)
  · have kc_1 := bI_eq rfl L_0 c_1
    refine lv_iconst (v := (-1)) hx hb dX9_resume_14 (by decide) ?_
    exact W.iret (v := (-1)) hx hb hr (fun t ht hW => ⟨⟨(-1), ((up (up (up (up (up (up (up (up (up (up (up (up (up (up (up (up (up σ 2 (σ 2)) 1 (σ 1)) 10 (σ 10)) 3 (σ 3)) 4 (σ 4)) 5 (σ 5)) 6 (σ 6)) 7 (σ 7)) 8 (σ 8)) 9 (σ 9)) 11 (σ 11)) 12 (σ 12)) 13 (σ 13)) 14 (σ 14)) 16 (σ 16)) 17 (σ 17)) 18 (σ 18)), (up (up (up (up (up (up (up (up (up (up (up φ 6 (φ 6)) 7 (φ 7)) 3 (φ 3)) 4 (φ 4)) 5 (φ 5)) 1 (φ 1)) 2 (φ 2)) 8 (φ 8)) 9 (φ 9)) 10 (φ 10)) 11 (φ 11)), γ, ψ), rfl, ⟨(σ 2), (σ 1), (σ 10), (φ 6), (σ 3), (σ 4), (σ 5), (σ 6), (σ 7), (σ 8), (σ 9), (σ 11), (σ 12), (φ 7), (φ 3), (φ 4), (φ 5), (φ 1), (φ 2), (σ 13), (σ 14), (φ 8), (φ 9), (φ 10), (φ 11), (σ 16), (σ 17), (σ 18), rfl, rfl, p_m_sex, p_m_nameAt, p_m_nameSize, p_m_houseFirst, p_m_houseMany, p_m_bMany, p_m_bSex, p_m_bSize, (show 0 ≤ (Int32.toInt (σ 13)) ∧ (Int32.toInt (σ 13)) ≤ 60 ∧ 0 ≤ (Int32.toInt (σ 14)) ∧ (Int32.toInt (σ 14)) ≤ 300 from (by omega)), (show (Int32.toInt (σ 14)) = zsum (φ 8) (Int32.toNatClampNeg (σ 13)) from (by omega)), (show 0 ≤ (Int32.toInt (σ 7)) ∧ (Int32.toInt (σ 7)) ≤ 2000 from (by omega)), (show 0 ≤ (Int32.toInt (σ 10)) ∧ (Int32.toInt (σ 10)) ≤ 1000000000 from (by omega)), (show ∀ i : Nat, i < 300 → (i : Int) < (Int32.toInt (σ 10)) → Int32.toInt ((φ 6) i) < i from (by with_reducible assumption)), (show ∀ i : Nat, Int32.toInt ((φ 4) i) + Int32.toInt ((φ 5) i) ≤ 4000 from (by with_reducible assumption)), (show ∀ i : Nat, Int32.toInt ((φ 1) i) + Int32.toInt ((φ 2) i) ≤ 2000 from (by with_reducible assumption)), (show AC (σ 16) (σ 17) (σ 18) (σ 2) (σ 15) from (by with_reducible assumption)), (show (Int32.toInt (σ 2)) = 0 ∨ ((0 ≤ (Int32.toInt (σ 1)) ∧ (Int32.toInt (σ 1)) ≤ (Int32.toInt (σ 0)) ∧ 0 ≤ (Int32.toInt (σ 10)) ∧ (Int32.toInt (σ 10)) ≤ 200000 * (Int32.toInt (σ 1)) ∧ ((Int32.toInt (σ 3)) = 0 ∨ (Int32.toInt (σ 10)) + 10 ≤ 200000 * (Int32.toInt (σ 1)))) ∧ (0 ≤ (Int32.toInt (σ 8)) ∧ (2 * (Int32.toInt (σ 8)) ≤ (Int32.toInt (σ 1)) ∨ (2 * (Int32.toInt (σ 8)) ≤ (Int32.toInt (σ 1)) + 1 ∧ (Int32.toInt (σ 1)) = (Int32.toInt (σ 0))))) ∧ (0 ≤ (Int32.toInt (σ 7)) ∧ (((Int32.toInt (σ 3)) = 0 ∧ (2 * (Int32.toInt (σ 7)) ≤ (Int32.toInt (σ 1)) ∨ (2 * (Int32.toInt (σ 7)) ≤ (Int32.toInt (σ 1)) + 1 ∧ (Int32.toInt (σ 1)) = (Int32.toInt (σ 0))))) ∨ ((Int32.toInt (σ 3)) ≠ 0 ∧ (2 * (Int32.toInt (σ 7)) + 2 ≤ (Int32.toInt (σ 1)) ∨ (2 * (Int32.toInt (σ 7)) + 2 ≤ (Int32.toInt (σ 1)) + 1 ∧ (Int32.toInt (σ 1)) = (Int32.toInt (σ 0))))))) ∧ ((Int32.toInt (σ 3)) = 0 ∨ (0 ≤ (Int32.toInt (σ 4)) ∧ (Int32.toInt (σ 4)) ≤ (Int32.toInt (σ 8)))) ∧ (0 ≤ (Int32.toInt (σ 9)) ∧ (Int32.toInt (σ 9)) ≤ (Int32.toInt (σ 1))) ∧ ((Int32.toInt (σ 3)) = 0 ∨ (Int32.toInt (σ 8)) ≤ (Int32.toInt (σ 4)) ∨ Int32.toInt ((φ 4) (Int32.toNatClampNeg (σ 4))) ≤ (Int32.toInt (σ 1)))) from (by omega))⟩, (by show va_P _ _ _ _; rw [ht]; exact hP)⟩, hS.F ht⟩) hS.2.2 dX9_resume_15
  · have kc_1 := bI_ne rfl L_0 c_1
    have hpa : (σ 16) + (σ 17) + (σ 18) + 1 = (σ 15) := hac.of1 c_1
    refine lv_aload_n hx hb dX9_resume_7 rfl (lv_at hl 0 rfl) ?_
    refine m_calli (va_runV (As := []) (rest := []) ⟨hx, hb, hml, hown, hts⟩ (c_X9_readOn l dC dI a κ σ φ γ ψ  p_m_sex p_m_nameAt p_m_nameSize p_m_houseFirst p_m_houseMany p_m_bMany p_m_bSex p_m_bSize (show 0 ≤ (Int32.toInt (σ 0)) ∧ (Int32.toInt (σ 0)) ≤ 4000 from (by omega)) (show 0 ≤ (Int32.toInt (σ 13)) ∧ (Int32.toInt (σ 13)) ≤ 60 ∧ 0 ≤ (Int32.toInt (σ 14)) ∧ (Int32.toInt (σ 14)) ≤ 300 from (by omega)) (show (Int32.toInt (σ 14)) = zsum (φ 8) (Int32.toNatClampNeg (σ 13)) from (by omega)) (show (0 ≤ (Int32.toInt (σ 1)) ∧ (Int32.toInt (σ 1)) ≤ (Int32.toInt (σ 0)) ∧ 0 ≤ (Int32.toInt (σ 10)) ∧ (Int32.toInt (σ 10)) ≤ 200000 * (Int32.toInt (σ 1)) ∧ ((Int32.toInt (σ 3)) = 0 ∨ (Int32.toInt (σ 10)) + 10 ≤ 200000 * (Int32.toInt (σ 1)))) ∧ (0 ≤ (Int32.toInt (σ 8)) ∧ (2 * (Int32.toInt (σ 8)) ≤ (Int32.toInt (σ 1)) ∨ (2 * (Int32.toInt (σ 8)) ≤ (Int32.toInt (σ 1)) + 1 ∧ (Int32.toInt (σ 1)) = (Int32.toInt (σ 0))))) ∧ (0 ≤ (Int32.toInt (σ 7)) ∧ (((Int32.toInt (σ 3)) = 0 ∧ (2 * (Int32.toInt (σ 7)) ≤ (Int32.toInt (σ 1)) ∨ (2 * (Int32.toInt (σ 7)) ≤ (Int32.toInt (σ 1)) + 1 ∧ (Int32.toInt (σ 1)) = (Int32.toInt (σ 0))))) ∨ ((Int32.toInt (σ 3)) ≠ 0 ∧ (2 * (Int32.toInt (σ 7)) + 2 ≤ (Int32.toInt (σ 1)) ∨ (2 * (Int32.toInt (σ 7)) + 2 ≤ (Int32.toInt (σ 1)) + 1 ∧ (Int32.toInt (σ 1)) = (Int32.toInt (σ 0))))))) ∧ ((Int32.toInt (σ 3)) = 0 ∨ (0 ≤ (Int32.toInt (σ 4)) ∧ (Int32.toInt (σ 4)) ≤ (Int32.toInt (σ 8)))) ∧ (0 ≤ (Int32.toInt (σ 9)) ∧ (Int32.toInt (σ 9)) ≤ (Int32.toInt (σ 1))) ∧ ((Int32.toInt (σ 3)) = 0 ∨ (Int32.toInt (σ 8)) ≤ (Int32.toInt (σ 4)) ∨ Int32.toInt ((φ 4) (Int32.toNatClampNeg (σ 4))) ≤ (Int32.toInt (σ 1))) from (by omega)) (show ∀ i : Nat, i < 300 → (i : Int) < (Int32.toInt (σ 10)) → Int32.toInt ((φ 6) i) < i from (by with_reducible assumption)) (show ∀ i : Nat, Int32.toInt ((φ 4) i) + Int32.toInt ((φ 5) i) ≤ 4000 from (by with_reducible assumption)) (show ∀ i : Nat, Int32.toInt ((φ 1) i) + Int32.toInt ((φ 2) i) ≤ 2000 from (by with_reducible assumption)) (show (σ 16) + (σ 17) + (σ 18) + 1 = (σ 15) from (by with_reducible assumption))) (cwV 0 hts gX9_resume_X9_readOn rfl rfl rfl ⟨rfl, hd_X9_readOn⟩ ⟨Nat.le_of_ble_eq_true rfl, Nat.le_of_ble_eq_true rfl⟩) (mPreV hP hK hI hN hS (va_recv hK hP (ci := 9) (q0 := 0) rfl rfl)) rfl rfl hl.1 rfl (lv_room (Nat.le_of_ble_eq_true rfl)) dX9_resume_8 ⟨(by decide +kernel), (by decide +kernel)⟩) hS ?_
    clear hP hS; intro r_2 S_2 F_2 γ_2 ψ_2 H locs hw hP hS
    obtain ⟨s2_2, s1_2, s10_2, f6_2, s3_2, s4_2, s5_2, s6_2, s7_2, s8_2, s9_2, s11_2, s12_2, f7_2, f3_2, f4_2, f5_2, f1_2, f2_2, s13_2, s14_2, f8_2, f9_2, f10_2, f11_2, s16_2, s17_2, s18_2, rfl, rfl, pf3_2, pf4_2, pf5_2, pf1_2, pf2_2, pf8_2, pf9_2, pf11_2, (qk_2 : 0 ≤ (Int32.toInt s13_2) ∧ (Int32.toInt s13_2) ≤ 60 ∧ 0 ≤ (Int32.toInt s14_2) ∧ (Int32.toInt s14_2) ≤ 300), (qm_2 : (Int32.toInt s14_2) = zsum f8_2 (Int32.toNatClampNeg s13_2)), (qh_2 : 0 ≤ (Int32.toInt s7_2) ∧ (Int32.toInt s7_2) ≤ 2000), (qf_2 : 0 ≤ (Int32.toInt s10_2) ∧ (Int32.toInt s10_2) ≤ 1000000000), (qc_2 : ∀ i : Nat, i < 300 → (i : Int) < (Int32.toInt s10_2) → Int32.toInt (f6_2 i) < i), (qA_2 : ∀ i : Nat, Int32.toInt (f4_2 i) + Int32.toInt (f5_2 i) ≤ 4000), (qS_2 : ∀ i : Nat, Int32.toInt (f1_2 i) + Int32.toInt (f2_2 i) ≤ 2000), (qac_2 : AC s16_2 s17_2 s18_2 s2_2 (σ 15)), (qr_2 : (Int32.toInt s2_2) = 0 ∨ ((0 ≤ (Int32.toInt s1_2) ∧ (Int32.toInt s1_2) ≤ (Int32.toInt (σ 0)) ∧ 0 ≤ (Int32.toInt s10_2) ∧ (Int32.toInt s10_2) ≤ 200000 * (Int32.toInt s1_2) ∧ ((Int32.toInt s3_2) = 0 ∨ (Int32.toInt s10_2) + 10 ≤ 200000 * (Int32.toInt s1_2))) ∧ (0 ≤ (Int32.toInt s8_2) ∧ (2 * (Int32.toInt s8_2) ≤ (Int32.toInt s1_2) ∨ (2 * (Int32.toInt s8_2) ≤ (Int32.toInt s1_2) + 1 ∧ (Int32.toInt s1_2) = (Int32.toInt (σ 0))))) ∧ (0 ≤ (Int32.toInt s7_2) ∧ (((Int32.toInt s3_2) = 0 ∧ (2 * (Int32.toInt s7_2) ≤ (Int32.toInt s1_2) ∨ (2 * (Int32.toInt s7_2) ≤ (Int32.toInt s1_2) + 1 ∧ (Int32.toInt s1_2) = (Int32.toInt (σ 0))))) ∨ ((Int32.toInt s3_2) ≠ 0 ∧ (2 * (Int32.toInt s7_2) + 2 ≤ (Int32.toInt s1_2) ∨ (2 * (Int32.toInt s7_2) + 2 ≤ (Int32.toInt s1_2) + 1 ∧ (Int32.toInt s1_2) = (Int32.toInt (σ 0))))))) ∧ ((Int32.toInt s3_2) = 0 ∨ (0 ≤ (Int32.toInt s4_2) ∧ (Int32.toInt s4_2) ≤ (Int32.toInt s8_2))) ∧ (0 ≤ (Int32.toInt s9_2) ∧ (Int32.toInt s9_2) ≤ (Int32.toInt s1_2)) ∧ ((Int32.toInt s3_2) = 0 ∨ (Int32.toInt s8_2) ≤ (Int32.toInt s4_2) ∨ Int32.toInt (f4_2 (Int32.toNatClampNeg s4_2)) ≤ (Int32.toInt s1_2))))⟩ := hw
    refine lv_goto (tgt := 15) hx hb dX9_resume_11 (by decide) ?_
    exact W.iret (v := r_2) hx hb hr (fun t ht hW => ⟨⟨r_2, ((up (up (up (up (up (up (up (up (up (up (up (up (up (up (up (up (up σ 2 s2_2) 1 s1_2) 10 s10_2) 3 s3_2) 4 s4_2) 5 s5_2) 6 s6_2) 7 s7_2) 8 s8_2) 9 s9_2) 11 s11_2) 12 s12_2) 13 s13_2) 14 s14_2) 16 s16_2) 17 s17_2) 18 s18_2), (up (up (up (up (up (up (up (up (up (up (up φ 6 f6_2) 7 f7_2) 3 f3_2) 4 f4_2) 5 f5_2) 1 f1_2) 2 f2_2) 8 f8_2) 9 f9_2) 10 f10_2) 11 f11_2), γ_2, ψ_2), rfl, ⟨s2_2, s1_2, s10_2, f6_2, s3_2, s4_2, s5_2, s6_2, s7_2, s8_2, s9_2, s11_2, s12_2, f7_2, f3_2, f4_2, f5_2, f1_2, f2_2, s13_2, s14_2, f8_2, f9_2, f10_2, f11_2, s16_2, s17_2, s18_2, rfl, rfl, pf3_2, pf4_2, pf5_2, pf1_2, pf2_2, pf8_2, pf9_2, pf11_2, (show 0 ≤ (Int32.toInt s13_2) ∧ (Int32.toInt s13_2) ≤ 60 ∧ 0 ≤ (Int32.toInt s14_2) ∧ (Int32.toInt s14_2) ≤ 300 from (by omega)), (show (Int32.toInt s14_2) = zsum f8_2 (Int32.toNatClampNeg s13_2) from (by omega)), (show 0 ≤ (Int32.toInt s7_2) ∧ (Int32.toInt s7_2) ≤ 2000 from (by omega)), (show 0 ≤ (Int32.toInt s10_2) ∧ (Int32.toInt s10_2) ≤ 1000000000 from (by omega)), (show ∀ i : Nat, i < 300 → (i : Int) < (Int32.toInt s10_2) → Int32.toInt (f6_2 i) < i from (by with_reducible assumption)), (show ∀ i : Nat, Int32.toInt (f4_2 i) + Int32.toInt (f5_2 i) ≤ 4000 from (by with_reducible assumption)), (show ∀ i : Nat, Int32.toInt (f1_2 i) + Int32.toInt (f2_2 i) ≤ 2000 from (by with_reducible assumption)), (show AC s16_2 s17_2 s18_2 s2_2 (σ 15) from (by with_reducible assumption)), (show (Int32.toInt s2_2) = 0 ∨ ((0 ≤ (Int32.toInt s1_2) ∧ (Int32.toInt s1_2) ≤ (Int32.toInt (σ 0)) ∧ 0 ≤ (Int32.toInt s10_2) ∧ (Int32.toInt s10_2) ≤ 200000 * (Int32.toInt s1_2) ∧ ((Int32.toInt s3_2) = 0 ∨ (Int32.toInt s10_2) + 10 ≤ 200000 * (Int32.toInt s1_2))) ∧ (0 ≤ (Int32.toInt s8_2) ∧ (2 * (Int32.toInt s8_2) ≤ (Int32.toInt s1_2) ∨ (2 * (Int32.toInt s8_2) ≤ (Int32.toInt s1_2) + 1 ∧ (Int32.toInt s1_2) = (Int32.toInt (σ 0))))) ∧ (0 ≤ (Int32.toInt s7_2) ∧ (((Int32.toInt s3_2) = 0 ∧ (2 * (Int32.toInt s7_2) ≤ (Int32.toInt s1_2) ∨ (2 * (Int32.toInt s7_2) ≤ (Int32.toInt s1_2) + 1 ∧ (Int32.toInt s1_2) = (Int32.toInt (σ 0))))) ∨ ((Int32.toInt s3_2) ≠ 0 ∧ (2 * (Int32.toInt s7_2) + 2 ≤ (Int32.toInt s1_2) ∨ (2 * (Int32.toInt s7_2) + 2 ≤ (Int32.toInt s1_2) + 1 ∧ (Int32.toInt s1_2) = (Int32.toInt (σ 0))))))) ∧ ((Int32.toInt s3_2) = 0 ∨ (0 ≤ (Int32.toInt s4_2) ∧ (Int32.toInt s4_2) ≤ (Int32.toInt s8_2))) ∧ (0 ≤ (Int32.toInt s9_2) ∧ (Int32.toInt s9_2) ≤ (Int32.toInt s1_2)) ∧ ((Int32.toInt s3_2) = 0 ∨ (Int32.toInt s8_2) ≤ (Int32.toInt s4_2) ∨ Int32.toInt (f4_2 (Int32.toNatClampNeg s4_2)) ≤ (Int32.toInt s1_2))) from (by omega))⟩, (by show va_P _ _ _ _; rw [ht]; exact hP)⟩, hS.F ht⟩) hS.2.2 dX9_resume_15
set_option maxHeartbeats 4000000 in
set_option maxRecDepth 100000 in
theorem c_X9_drop (l : Launch) (dC : Nat → ClassId) (dI : Nat → Nat → Nat) (a : Nat → Nat) (κ : Nat → ClassId) (σ : Nat → Int32) (φ : Nat → Nat → Int32) (γ : Nat → Int32) (ψ : Nat → Nat → Int32)  (hac : AC (σ 16) (σ 17) (σ 18) (σ 2) (σ 15)) (hr : (Int32.toInt (σ 2)) = 0 ∨ ((0 ≤ (Int32.toInt (σ 1)) ∧ (Int32.toInt (σ 1)) ≤ (Int32.toInt (σ 0)) ∧ 0 ≤ (Int32.toInt (σ 10)) ∧ (Int32.toInt (σ 10)) ≤ 200000 * (Int32.toInt (σ 1)) ∧ ((Int32.toInt (σ 3)) = 0 ∨ (Int32.toInt (σ 10)) + 10 ≤ 200000 * (Int32.toInt (σ 1)))) ∧ (0 ≤ (Int32.toInt (σ 8)) ∧ (2 * (Int32.toInt (σ 8)) ≤ (Int32.toInt (σ 1)) ∨ (2 * (Int32.toInt (σ 8)) ≤ (Int32.toInt (σ 1)) + 1 ∧ (Int32.toInt (σ 1)) = (Int32.toInt (σ 0))))) ∧ (0 ≤ (Int32.toInt (σ 7)) ∧ (((Int32.toInt (σ 3)) = 0 ∧ (2 * (Int32.toInt (σ 7)) ≤ (Int32.toInt (σ 1)) ∨ (2 * (Int32.toInt (σ 7)) ≤ (Int32.toInt (σ 1)) + 1 ∧ (Int32.toInt (σ 1)) = (Int32.toInt (σ 0))))) ∨ ((Int32.toInt (σ 3)) ≠ 0 ∧ (2 * (Int32.toInt (σ 7)) + 2 ≤ (Int32.toInt (σ 1)) ∨ (2 * (Int32.toInt (σ 7)) + 2 ≤ (Int32.toInt (σ 1)) + 1 ∧ (Int32.toInt (σ 1)) = (Int32.toInt (σ 0))))))) ∧ ((Int32.toInt (σ 3)) = 0 ∨ (0 ≤ (Int32.toInt (σ 4)) ∧ (Int32.toInt (σ 4)) ≤ (Int32.toInt (σ 8)))) ∧ (0 ≤ (Int32.toInt (σ 9)) ∧ (Int32.toInt (σ 9)) ≤ (Int32.toInt (σ 1))) ∧ ((Int32.toInt (σ 3)) = 0 ∨ (Int32.toInt (σ 8)) ≤ (Int32.toInt (σ 4)) ∨ Int32.toInt ((φ 4) (Int32.toNatClampNeg (σ 4))) ≤ (Int32.toInt (σ 1))))) : Met l yX9_drop wsX9_drop ({ frames := 0, cells := 0, slots := 0, locals := 0 } : Room) (va_Pc [.ref (a 0)] (mPre dC dI a κ (σ, φ, γ, ψ))) (va_Qi (QI (fun r S F => ∃ (s2 : Int32) (s17 : Int32), (up (up σ 2 s2) 17 s17) = S ∧ φ = F ∧ (AC (σ 16) s17 (σ 18) s2 (σ 15)) ∧ ((Int32.toInt s2) = 0 ∨ ((0 ≤ (Int32.toInt (σ 1)) ∧ (Int32.toInt (σ 1)) ≤ (Int32.toInt (σ 0)) ∧ 0 ≤ (Int32.toInt (σ 10)) ∧ (Int32.toInt (σ 10)) ≤ 200000 * (Int32.toInt (σ 1)) ∧ ((Int32.toInt (σ 3)) = 0 ∨ (Int32.toInt (σ 10)) + 10 ≤ 200000 * (Int32.toInt (σ 1)))) ∧ (0 ≤ (Int32.toInt (σ 8)) ∧ (2 * (Int32.toInt (σ 8)) ≤ (Int32.toInt (σ 1)) ∨ (2 * (Int32.toInt (σ 8)) ≤ (Int32.toInt (σ 1)) + 1 ∧ (Int32.toInt (σ 1)) = (Int32.toInt (σ 0))))) ∧ (0 ≤ (Int32.toInt (σ 7)) ∧ (((Int32.toInt (σ 3)) = 0 ∧ (2 * (Int32.toInt (σ 7)) ≤ (Int32.toInt (σ 1)) ∨ (2 * (Int32.toInt (σ 7)) ≤ (Int32.toInt (σ 1)) + 1 ∧ (Int32.toInt (σ 1)) = (Int32.toInt (σ 0))))) ∨ ((Int32.toInt (σ 3)) ≠ 0 ∧ (2 * (Int32.toInt (σ 7)) + 2 ≤ (Int32.toInt (σ 1)) ∨ (2 * (Int32.toInt (σ 7)) + 2 ≤ (Int32.toInt (σ 1)) + 1 ∧ (Int32.toInt (σ 1)) = (Int32.toInt (σ 0))))))) ∧ ((Int32.toInt (σ 3)) = 0 ∨ (0 ≤ (Int32.toInt (σ 4)) ∧ (Int32.toInt (σ 4)) ≤ (Int32.toInt (σ 8)))) ∧ (0 ≤ (Int32.toInt (σ 9)) ∧ (Int32.toInt (σ 9)) ≤ (Int32.toInt (σ 1))) ∧ ((Int32.toInt (σ 3)) = 0 ∨ (Int32.toInt (σ 8)) ≤ (Int32.toInt (σ 4)) ∨ Int32.toInt ((φ 4) (Int32.toNatClampNeg (σ 4))) ≤ (Int32.toInt (σ 1))))))) (mB dC dI a κ) (mA a)) 0 0 (mA a) := by
  refine Met.ofW (cc := cX9_drop) (maxL := 1) (ret := (some .int)) (by decide) rfl ?_
  intro p e s m args below meth c s₁ B hml hv
  obtain ⟨rfl, hP, hK, hI, hN⟩ := hv
  have hx := B.exec
  have hb := B.bytes
  have hr := B.returns
  have hts := atoms_spec (ws := wsX9_drop) B.pre
  have hown : s.vm.findClass RX9 = some m.cls := findClass_of_methodNamed B.named
  have hlocks := B.notSynchronized
  have hS : va_S (mA a) s.heap s.heap [] := va_S.rf
  have hinX9 : ∀ w ∈ wsX90, w ∈ wsX9_drop := fun _ h => List.mem_cons_of_mem _ (List.mem_append_right _ h)
  have hl := lv_entry ([.ref (a 0)]) (n := 1) (Nat.le_of_ble_eq_true rfl)
  rw [lg_entry_eq]
  generalize (lg_sl ([.ref (a 0)]) ++ List.replicate (1 - (lg_sl ([.ref (a 0)])).length) Slot.unset).toArray = ls at hl ⊢
  have hl : lv_has ls 1 [(0, .ref (a 0))] := hl
  refine lv_aload_n hx hb dX9_drop_0 rfl (lv_at hl 0 rfl) ?_
  refine mg_0_5 (v := (σ 2)) hx hb hts hinX9 hown hK hP (hts (.fieldLink RX9 120 "CensusDeskModel" "isHeld" "Z") (List.mem_of_getElem? (i := 1) rfl)) rfl dX9_drop_1 ?_
  refine lv_if_ne (tgt := 9) hx hb dX9_drop_4 (by decide) (fun c_1 => ?_) (fun c_1 => ?_)
  · have kc_1 := bI_ne rfl L_0 c_1
    refine lv_aload_n hx hb dX9_drop_9 rfl (lv_at hl 0 rfl) ?_
    refine lv_iconst (v := 0) hx hb dX9_drop_10 (by decide) ?_
    refine mp_0_5 (v := 0) hx hb hts hinX9 hown hK hP hI hS (hts (.fieldLink RX9 120 "CensusDeskModel" "isHeld" "Z") (List.mem_of_getElem? (i := 1) rfl)) (by first | rfl | decide) (by first | rfl | decide) dX9_drop_11 ?_
    clear hP hS; intro H locs hP hS
    refine lv_aload_n hx hb dX9_drop_14 rfl (lv_at hl 0 rfl) ?_
    refine lv_dup hx hb dX9_drop_15 rfl ?_
    refine mg_0_67 (v := (σ 17)) hx hb hts hinX9 hown hK hP (hts (.fieldLink RX9 292 "CensusDeskModel" "sheetsRejected" "I") (List.mem_of_getElem? (i := 2) rfl)) rfl dX9_drop_16 ?_
    refine lv_iconst (v := 1) hx hb dX9_drop_19 (by decide) ?_
    refine lv_iadd hx hb dX9_drop_20 ?_
    refine lv_topi (fun z_2 ez_2 => ?_)
    refine mp_0_67 (v := z_2) hx hb hts hinX9 hown hK hP hI hS (hts (.fieldLink RX9 292 "CensusDeskModel" "sheetsRejected" "I") (List.mem_of_getElem? (i := 2) rfl)) dX9_drop_21 ?_
    clear hP hS; intro H locs hP hS
    refine lv_aload_n hx hb dX9_drop_24 rfl (lv_at hl 0 rfl) ?_
    refine mg_0_26 (v := (σ 7)) hx hb hts hinX9 hown hK hP (hts (.fieldLink RX9 234 "CensusDeskModel" "houses" "I") (List.mem_of_getElem? (i := 3) rfl)) rfl dX9_drop_25 ?_
    exact W.iret (v := (σ 7)) hx hb hr (fun t ht hW => ⟨⟨(σ 7), ((up (up σ 2 0) 17 z_2), φ, γ, ψ), rfl, ⟨0, z_2, rfl, rfl, (AC.r rfl (hac.of1 c_1) ez_2), (show (Int32.toInt 0) = 0 ∨ ((0 ≤ (Int32.toInt (σ 1)) ∧ (Int32.toInt (σ 1)) ≤ (Int32.toInt (σ 0)) ∧ 0 ≤ (Int32.toInt (σ 10)) ∧ (Int32.toInt (σ 10)) ≤ 200000 * (Int32.toInt (σ 1)) ∧ ((Int32.toInt (σ 3)) = 0 ∨ (Int32.toInt (σ 10)) + 10 ≤ 200000 * (Int32.toInt (σ 1)))) ∧ (0 ≤ (Int32.toInt (σ 8)) ∧ (2 * (Int32.toInt (σ 8)) ≤ (Int32.toInt (σ 1)) ∨ (2 * (Int32.toInt (σ 8)) ≤ (Int32.toInt (σ 1)) + 1 ∧ (Int32.toInt (σ 1)) = (Int32.toInt (σ 0))))) ∧ (0 ≤ (Int32.toInt (σ 7)) ∧ (((Int32.toInt (σ 3)) = 0 ∧ (2 * (Int32.toInt (σ 7)) ≤ (Int32.toInt (σ 1)) ∨ (2 * (Int32.toInt (σ 7)) ≤ (Int32.toInt (σ 1)) + 1 ∧ (Int32.toInt (σ 1)) = (Int32.toInt (σ 0))))) ∨ ((Int32.toInt (σ 3)) ≠ 0 ∧ (2 * (Int32.toInt (σ 7)) + 2 ≤ (Int32.toInt (σ 1)) ∨ (2 * (Int32.toInt (σ 7)) + 2 ≤ (Int32.toInt (σ 1)) + 1 ∧ (Int32.toInt (σ 1)) = (Int32.toInt (σ 0))))))) ∧ ((Int32.toInt (σ 3)) = 0 ∨ (0 ≤ (Int32.toInt (σ 4)) ∧ (Int32.toInt (σ 4)) ≤ (Int32.toInt (σ 8)))) ∧ (0 ≤ (Int32.toInt (σ 9)) ∧ (Int32.toInt (σ 9)) ≤ (Int32.toInt (σ 1))) ∧ ((Int32.toInt (σ 3)) = 0 ∨ (Int32.toInt (σ 8)) ≤ (Int32.toInt (σ 4)) ∨ Int32.toInt ((φ 4) (Int32.toNatClampNeg (σ 4))) ≤ (Int32.toInt (σ 1)))) from (by have := L_0; omega))⟩, (by show va_P _ _ _ _; rw [ht]; exact hP)⟩, hS.F ht⟩) hS.2.2 dX9_drop_28
  · have kc_1 := bI_eq rfl L_0 c_1
    refine lv_iconst (v := (-1)) hx hb dX9_drop_7 (by decide) ?_
    exact W.iret (v := (-1)) hx hb hr (fun t ht hW => ⟨⟨(-1), ((up (up σ 2 (σ 2)) 17 (σ 17)), φ, γ, ψ), rfl, ⟨(σ 2), (σ 17), rfl, rfl, hac, (show (Int32.toInt (σ 2)) = 0 ∨ ((0 ≤ (Int32.toInt (σ 1)) ∧ (Int32.toInt (σ 1)) ≤ (Int32.toInt (σ 0)) ∧ 0 ≤ (Int32.toInt (σ 10)) ∧ (Int32.toInt (σ 10)) ≤ 200000 * (Int32.toInt (σ 1)) ∧ ((Int32.toInt (σ 3)) = 0 ∨ (Int32.toInt (σ 10)) + 10 ≤ 200000 * (Int32.toInt (σ 1)))) ∧ (0 ≤ (Int32.toInt (σ 8)) ∧ (2 * (Int32.toInt (σ 8)) ≤ (Int32.toInt (σ 1)) ∨ (2 * (Int32.toInt (σ 8)) ≤ (Int32.toInt (σ 1)) + 1 ∧ (Int32.toInt (σ 1)) = (Int32.toInt (σ 0))))) ∧ (0 ≤ (Int32.toInt (σ 7)) ∧ (((Int32.toInt (σ 3)) = 0 ∧ (2 * (Int32.toInt (σ 7)) ≤ (Int32.toInt (σ 1)) ∨ (2 * (Int32.toInt (σ 7)) ≤ (Int32.toInt (σ 1)) + 1 ∧ (Int32.toInt (σ 1)) = (Int32.toInt (σ 0))))) ∨ ((Int32.toInt (σ 3)) ≠ 0 ∧ (2 * (Int32.toInt (σ 7)) + 2 ≤ (Int32.toInt (σ 1)) ∨ (2 * (Int32.toInt (σ 7)) + 2 ≤ (Int32.toInt (σ 1)) + 1 ∧ (Int32.toInt (σ 1)) = (Int32.toInt (σ 0))))))) ∧ ((Int32.toInt (σ 3)) = 0 ∨ (0 ≤ (Int32.toInt (σ 4)) ∧ (Int32.toInt (σ 4)) ≤ (Int32.toInt (σ 8)))) ∧ (0 ≤ (Int32.toInt (σ 9)) ∧ (Int32.toInt (σ 9)) ≤ (Int32.toInt (σ 1))) ∧ ((Int32.toInt (σ 3)) = 0 ∨ (Int32.toInt (σ 8)) ≤ (Int32.toInt (σ 4)) ∨ Int32.toInt ((φ 4) (Int32.toNatClampNeg (σ 4))) ≤ (Int32.toInt (σ 1)))) from (by omega))⟩, (by show va_P _ _ _ _; rw [ht]; exact hP)⟩, hS.F ht⟩) hS.2.2 dX9_drop_8
set_option maxHeartbeats 4000000 in
set_option maxRecDepth 100000 in
theorem c_X9_failures (l : Launch) (dC : Nat → ClassId) (dI : Nat → Nat → Nat) (a : Nat → Nat) (κ : Nat → ClassId) (σ : Nat → Int32) (φ : Nat → Nat → Int32) (γ : Nat → Int32) (ψ : Nat → Nat → Int32)  : Met l yX9_failures wsX9_failures ({ frames := 0, cells := 0, slots := 0, locals := 0 } : Room) (va_Pc [.ref (a 0)] (mPre dC dI a κ (σ, φ, γ, ψ))) (va_Qi (QI (fun r S F => σ = S ∧ φ = F ∧ True)) (mB dC dI a κ) (mA a)) 0 0 (mA a) := by
  refine Met.ofW (cc := cX9_failures) (maxL := 1) (ret := (some .int)) (by decide) rfl ?_
  intro p e s m args below meth c s₁ B hml hv
  obtain ⟨rfl, hP, hK, hI, hN⟩ := hv
  have hx := B.exec
  have hb := B.bytes
  have hr := B.returns
  have hts := atoms_spec (ws := wsX9_failures) B.pre
  have hown : s.vm.findClass RX9 = some m.cls := findClass_of_methodNamed B.named
  have hlocks := B.notSynchronized
  have hS : va_S (mA a) s.heap s.heap [] := va_S.rf
  have hinX9 : ∀ w ∈ wsX90, w ∈ wsX9_failures := fun _ h => List.mem_cons_of_mem _ (List.mem_append_right _ h)
  have hl := lv_entry ([.ref (a 0)]) (n := 1) (Nat.le_of_ble_eq_true rfl)
  rw [lg_entry_eq]
  generalize (lg_sl ([.ref (a 0)]) ++ List.replicate (1 - (lg_sl ([.ref (a 0)])).length) Slot.unset).toArray = ls at hl ⊢
  have hl : lv_has ls 1 [(0, .ref (a 0))] := hl
  refine lv_aload_n hx hb dX9_failures_0 rfl (lv_at hl 0 rfl) ?_
  refine mg_0_40 (v := (σ 10)) hx hb hts hinX9 hown hK hP (hts (.fieldLink RX9 135 "CensusDeskModel" "fails" "I") (List.mem_of_getElem? (i := 1) rfl)) rfl dX9_failures_1 ?_
  exact W.iret (v := (σ 10)) hx hb hr (fun t ht hW => ⟨⟨(σ 10), (σ, φ, γ, ψ), rfl, ⟨rfl, rfl, trivial⟩, (by show va_P _ _ _ _; rw [ht]; exact hP)⟩, hS.F ht⟩) hS.2.2 dX9_failures_4
set_option maxHeartbeats 4000000 in
set_option maxRecDepth 100000 in
theorem c_X9_failure (l : Launch) (dC : Nat → ClassId) (dI : Nat → Nat → Nat) (a : Nat → Nat) (κ : Nat → ClassId) (σ : Nat → Int32) (φ : Nat → Nat → Int32) (γ : Nat → Int32) (ψ : Nat → Nat → Int32) (i : Int32) (what : Int32) : Met l yX9_failure wsX9_failure ({ frames := 0, cells := 0, slots := 0, locals := 0 } : Room) (va_Pc [.ref (a 0), .int i, .int what] (mPre dC dI a κ (σ, φ, γ, ψ))) (va_Qi (QI (fun r S F => σ = S ∧ φ = F ∧ True)) (mB dC dI a κ) (mA a)) 0 0 (mA a) := by
  refine Met.ofW (cc := cX9_failure) (maxL := 3) (ret := (some .int)) (by decide) rfl ?_
  intro p e s m args below meth c s₁ B hml hv
  obtain ⟨rfl, hP, hK, hI, hN⟩ := hv
  have hx := B.exec
  have hb := B.bytes
  have hr := B.returns
  have hts := atoms_spec (ws := wsX9_failure) B.pre
  have hown : s.vm.findClass RX9 = some m.cls := findClass_of_methodNamed B.named
  have hlocks := B.notSynchronized
  have hS : va_S (mA a) s.heap s.heap [] := va_S.rf
  have hinX9 : ∀ w ∈ wsX90, w ∈ wsX9_failure := fun _ h => List.mem_cons_of_mem _ (List.mem_append_right _ h)
  have hl := lv_entry ([.ref (a 0), .int i, .int what]) (n := 3) (Nat.le_of_ble_eq_true rfl)
  rw [lg_entry_eq]
  generalize (lg_sl ([.ref (a 0), .int i, .int what]) ++ List.replicate (3 - (lg_sl ([.ref (a 0), .int i, .int what])).length) Slot.unset).toArray = ls at hl ⊢
  have hl : lv_has ls 3 [(0, .ref (a 0)), (1, .int i), (2, .int what)] := hl
  refine lv_iload_n hx hb dX9_failure_0 rfl (lv_at hl 1 rfl) ?_
  refine lv_if_lt (tgt := 28) hx hb dX9_failure_1 (by decide) (fun c_1 => ?_) (fun c_1 => ?_)
  · have kc_1 := bI_lt rfl L_0 c_1
    refine lv_iconst (v := (-1)) hx hb dX9_failure_28 (by decide) ?_
    exact W.iret (v := (-1)) hx hb hr (fun t ht hW => ⟨⟨(-1), (σ, φ, γ, ψ), rfl, ⟨rfl, rfl, trivial⟩, (by show va_P _ _ _ _; rw [ht]; exact hP)⟩, hS.F ht⟩) hS.2.2 dX9_failure_29
  · have kc_1 := bI_nlt rfl L_0 c_1
    refine lv_iload_n hx hb dX9_failure_4 rfl (lv_at hl 1 rfl) ?_
    refine lv_aload_n hx hb dX9_failure_5 rfl (lv_at hl 0 rfl) ?_
    refine mg_0_40 (v := (σ 10)) hx hb hts hinX9 hown hK hP (hts (.fieldLink RX9 135 "CensusDeskModel" "fails" "I") (List.mem_of_getElem? (i := 1) rfl)) rfl dX9_failure_6 ?_
    refine lv_icmp_ge (tgt := 28) hx hb dX9_failure_9 (by decide) (fun c_2 => ?_) (fun c_2 => ?_)
    · have kc_2 := bI_le rfl rfl c_2
      refine lv_iconst (v := (-1)) hx hb dX9_failure_28 (by decide) ?_
      exact W.iret (v := (-1)) hx hb hr (fun t ht hW => ⟨⟨(-1), (σ, φ, γ, ψ), rfl, ⟨rfl, rfl, trivial⟩, (by show va_P _ _ _ _; rw [ht]; exact hP)⟩, hS.F ht⟩) hS.2.2 dX9_failure_29
    · have kc_2 := bI_nle rfl rfl c_2
      refine lv_iload_n hx hb dX9_failure_12 rfl (lv_at hl 1 rfl) ?_
      refine lv_sipush (v := 300) hx hb dX9_failure_13 (by decide) ?_
      refine lv_icmp_ge (tgt := 28) hx hb dX9_failure_16 (by decide) (fun c_3 => ?_) (fun c_3 => ?_)
      · have kc_3 := bI_le L_300 rfl c_3
        refine lv_iconst (v := (-1)) hx hb dX9_failure_28 (by decide) ?_
        exact W.iret (v := (-1)) hx hb hr (fun t ht hW => ⟨⟨(-1), (σ, φ, γ, ψ), rfl, ⟨rfl, rfl, trivial⟩, (by show va_P _ _ _ _; rw [ht]; exact hP)⟩, hS.F ht⟩) hS.2.2 dX9_failure_29
      · have kc_3 := bI_nle L_300 rfl c_3
        refine lv_iload_n hx hb dX9_failure_19 rfl (lv_at hl 2 rfl) ?_
        refine lv_if_lt (tgt := 28) hx hb dX9_failure_20 (by decide) (fun c_4 => ?_) (fun c_4 => ?_)
        · have kc_4 := bI_lt rfl L_0 c_4
          refine lv_iconst (v := (-1)) hx hb dX9_failure_28 (by decide) ?_
          exact W.iret (v := (-1)) hx hb hr (fun t ht hW => ⟨⟨(-1), (σ, φ, γ, ψ), rfl, ⟨rfl, rfl, trivial⟩, (by show va_P _ _ _ _; rw [ht]; exact hP)⟩, hS.F ht⟩) hS.2.2 dX9_failure_29
        · have kc_4 := bI_nlt rfl L_0 c_4
          refine lv_iload_n hx hb dX9_failure_23 rfl (lv_at hl 2 rfl) ?_
          refine lv_iconst (v := 4) hx hb dX9_failure_24 (by decide) ?_
          refine lv_icmp_le (tgt := 30) hx hb dX9_failure_25 (by decide) (fun c_5 => ?_) (fun c_5 => ?_)
          · have kc_5 := bI_le rfl L_4 c_5
            refine lv_iload_n hx hb dX9_failure_30 rfl (lv_at hl 2 rfl) ?_
            refine lv_if_ne (tgt := 43) hx hb dX9_failure_31 (by decide) (fun c_6 => ?_) (fun c_6 => ?_)
            · have kc_6 := bI_ne rfl L_0 c_6
              refine lv_iload_n hx hb dX9_failure_43 rfl (lv_at hl 2 rfl) ?_
              refine lv_iconst (v := 1) hx hb dX9_failure_44 (by decide) ?_
              refine lv_icmp_ne (tgt := 57) hx hb dX9_failure_45 (by decide) (fun c_7 => ?_) (fun c_7 => ?_)
              · have kc_7 := bI_ne rfl L_1 c_7
                refine lv_iload_n hx hb dX9_failure_57 rfl (lv_at hl 2 rfl) ?_
                refine lv_iconst (v := 2) hx hb dX9_failure_58 (by decide) ?_
                refine lv_icmp_ne (tgt := 71) hx hb dX9_failure_59 (by decide) (fun c_8 => ?_) (fun c_8 => ?_)
                · have kc_8 := bI_ne rfl L_2 c_8
                  refine lv_iload_n hx hb dX9_failure_71 rfl (lv_at hl 2 rfl) ?_
                  refine lv_iconst (v := 3) hx hb dX9_failure_72 (by decide) ?_
                  refine lv_icmp_ne (tgt := 85) hx hb dX9_failure_73 (by decide) (fun c_9 => ?_) (fun c_9 => ?_)
                  · have kc_9 := bI_ne rfl L_3 c_9
                    refine lv_aload_n hx hb dX9_failure_85 rfl (lv_at hl 0 rfl) ?_
                    refine mg_0_39 hx hb hts hinX9 hown hK hP (hts (.fieldLink RX9 62 "CensusDeskModel" "failWay" "[I") (List.mem_of_getElem? (i := 6) rfl)) dX9_failure_86 ?_
                    refine lv_iload_n hx hb dX9_failure_89 rfl (lv_at hl 1 rfl) ?_
                    refine ml_18 (f := (ψ 10)) hx hb hK hP (i := i) (vin rfl (by omega)) rfl dX9_failure_90 ?_
                    refine lv_topi (fun z_10 ez_10 => ?_)
                    exact W.iret (v := z_10) hx hb hr (fun t ht hW => ⟨⟨z_10, (σ, φ, γ, ψ), rfl, ⟨rfl, rfl, trivial⟩, (by show va_P _ _ _ _; rw [ht]; exact hP)⟩, hS.F ht⟩) hS.2.2 dX9_failure_91
                  · have kc_9 := bI_eq rfl L_3 c_9
                    refine lv_aload_n hx hb dX9_failure_76 rfl (lv_at hl 0 rfl) ?_
                    refine mg_0_38 hx hb hts hinX9 hown hK hP (hts (.fieldLink RX9 59 "CensusDeskModel" "failFirst" "[I") (List.mem_of_getElem? (i := 5) rfl)) dX9_failure_77 ?_
                    refine lv_iload_n hx hb dX9_failure_80 rfl (lv_at hl 1 rfl) ?_
                    refine ml_17 (f := (ψ 9)) hx hb hK hP (i := i) (vin rfl (by omega)) rfl dX9_failure_81 ?_
                    refine lv_topi (fun z_11 ez_11 => ?_)
                    refine lv_goto (tgt := 91) hx hb dX9_failure_82 (by decide) ?_
                    exact W.iret (v := z_11) hx hb hr (fun t ht hW => ⟨⟨z_11, (σ, φ, γ, ψ), rfl, ⟨rfl, rfl, trivial⟩, (by show va_P _ _ _ _; rw [ht]; exact hP)⟩, hS.F ht⟩) hS.2.2 dX9_failure_91
                · have kc_8 := bI_eq rfl L_2 c_8
                  refine lv_aload_n hx hb dX9_failure_62 rfl (lv_at hl 0 rfl) ?_
                  refine mg_0_37 hx hb hts hinX9 hown hK hP (hts (.fieldLink RX9 56 "CensusDeskModel" "failCause" "[I") (List.mem_of_getElem? (i := 4) rfl)) dX9_failure_63 ?_
                  refine lv_iload_n hx hb dX9_failure_66 rfl (lv_at hl 1 rfl) ?_
                  refine ml_16 (f := (φ 6)) hx hb hK hP (i := i) (vin rfl (by omega)) rfl dX9_failure_67 ?_
                  refine lv_topi (fun z_12 ez_12 => ?_)
                  have tz_12 : (Int32.toInt z_12) = Int32.toInt ((φ 6) (Int32.toNatClampNeg i)) := congrArg Int32.toInt ez_12
                  refine lv_goto (tgt := 91) hx hb dX9_failure_68 (by decide) ?_
                  exact W.iret (v := z_12) hx hb hr (fun t ht hW => ⟨⟨z_12, (σ, φ, γ, ψ), rfl, ⟨rfl, rfl, trivial⟩, (by show va_P _ _ _ _; rw [ht]; exact hP)⟩, hS.F ht⟩) hS.2.2 dX9_failure_91
              · have kc_7 := bI_eq rfl L_1 c_7
                refine lv_aload_n hx hb dX9_failure_48 rfl (lv_at hl 0 rfl) ?_
                refine mg_0_36 hx hb hts hinX9 hown hK hP (hts (.fieldLink RX9 53 "CensusDeskModel" "failPlace" "[I") (List.mem_of_getElem? (i := 3) rfl)) dX9_failure_49 ?_
                refine lv_iload_n hx hb dX9_failure_52 rfl (lv_at hl 1 rfl) ?_
                refine ml_15 (f := (ψ 8)) hx hb hK hP (i := i) (vin rfl (by omega)) rfl dX9_failure_53 ?_
                refine lv_topi (fun z_13 ez_13 => ?_)
                refine lv_goto (tgt := 91) hx hb dX9_failure_54 (by decide) ?_
                exact W.iret (v := z_13) hx hb hr (fun t ht hW => ⟨⟨z_13, (σ, φ, γ, ψ), rfl, ⟨rfl, rfl, trivial⟩, (by show va_P _ _ _ _; rw [ht]; exact hP)⟩, hS.F ht⟩) hS.2.2 dX9_failure_91
            · have kc_6 := bI_eq rfl L_0 c_6
              refine lv_aload_n hx hb dX9_failure_34 rfl (lv_at hl 0 rfl) ?_
              refine mg_0_35 hx hb hts hinX9 hown hK hP (hts (.fieldLink RX9 50 "CensusDeskModel" "failKind" "[I") (List.mem_of_getElem? (i := 2) rfl)) dX9_failure_35 ?_
              refine lv_iload_n hx hb dX9_failure_38 rfl (lv_at hl 1 rfl) ?_
              refine ml_14 (f := (ψ 7)) hx hb hK hP (i := i) (vin rfl (by omega)) rfl dX9_failure_39 ?_
              refine lv_topi (fun z_14 ez_14 => ?_)
              refine lv_goto (tgt := 91) hx hb dX9_failure_40 (by decide) ?_
              exact W.iret (v := z_14) hx hb hr (fun t ht hW => ⟨⟨z_14, (σ, φ, γ, ψ), rfl, ⟨rfl, rfl, trivial⟩, (by show va_P _ _ _ _; rw [ht]; exact hP)⟩, hS.F ht⟩) hS.2.2 dX9_failure_91
          · have kc_5 := bI_nle rfl L_4 c_5
            refine lv_iconst (v := (-1)) hx hb dX9_failure_28 (by decide) ?_
            exact W.iret (v := (-1)) hx hb hr (fun t ht hW => ⟨⟨(-1), (σ, φ, γ, ψ), rfl, ⟨rfl, rfl, trivial⟩, (by show va_P _ _ _ _; rw [ht]; exact hP)⟩, hS.F ht⟩) hS.2.2 dX9_failure_29
set_option maxHeartbeats 4000000 in
set_option maxRecDepth 100000 in
theorem c_X9_many (l : Launch) (dC : Nat → ClassId) (dI : Nat → Nat → Nat) (a : Nat → Nat) (κ : Nat → ClassId) (σ : Nat → Int32) (φ : Nat → Nat → Int32) (γ : Nat → Int32) (ψ : Nat → Nat → Int32) (kind : Int32) : Met l yX9_many wsX9_many ({ frames := 1, cells := 0, slots := 0, locals := 20 } : Room) (va_Pc [.ref (a 0), .int kind] (mPre dC dI a κ (σ, φ, γ, ψ))) (va_Qi (QI (fun r S F => σ = S ∧ φ = F ∧ True)) (mB dC dI a κ) (mA a)) 0 0 (mA a) := by
  refine Met.ofW (cc := cX9_many) (maxL := 6) (ret := (some .int)) (by decide) rfl ?_
  intro p e s m args below meth c s₁ B hml hv
  obtain ⟨rfl, hP, hK, hI, hN⟩ := hv
  have hx := B.exec
  have hb := B.bytes
  have hr := B.returns
  have hts := atoms_spec (ws := wsX9_many) B.pre
  have hown : s.vm.findClass RX9 = some m.cls := findClass_of_methodNamed B.named
  have hlocks := B.notSynchronized
  have hS : va_S (mA a) s.heap s.heap [] := va_S.rf
  have hinX9 : ∀ w ∈ wsX90, w ∈ wsX9_many := fun _ h => List.mem_cons_of_mem _ (List.mem_append_right _ h)
  have hl := lv_entry ([.ref (a 0), .int kind]) (n := 6) (Nat.le_of_ble_eq_true rfl)
  rw [lg_entry_eq]
  generalize (lg_sl ([.ref (a 0), .int kind]) ++ List.replicate (6 - (lg_sl ([.ref (a 0), .int kind])).length) Slot.unset).toArray = ls at hl ⊢
  have hl : lv_has ls 6 [(0, .ref (a 0)), (1, .int kind)] := hl
  refine k_gen (fun QQ eQ => ?_)
  have J17 : ∀ (n17 : Nat), ∀ (n : Int32) (k : Int32) (γ : Nat → Int32) (ψ : Nat → Nat → Int32) (H : Heap) (locs : List Loc) (ls : Array Slot), (1 ≤ (Int32.toInt k)) → ((22 - (Int32.toInt k)).toNat < n17) → va_P (dC, dI) vwCl (mw a κ (σ, φ, γ, ψ)) H → va_S (mA a) s.heap H locs → lv_has ls 6 [(0, .ref (a 0)), (1, .int kind), (2, .int n), (3, .int k)] → W p l e ({ frames := 1, cells := 0, slots := 0, locals := 20 } : Room) s m ([.ref (a 0), .int kind] : List Value).toArray below meth c H locs 0 0 QQ (F0 m 17 ls []) := by
    intro n17
    induction n17 with
    | zero =>
      intro n k γ ψ H locs ls v0 hm
      exact absurd hm (Nat.not_lt_zero _)
    | succ n17 ih17 =>
      intro n k γ ψ H locs ls v0 hm hP hS hl
      have J29 : ∀ (n29 : Nat), ∀ (n : Int32) (k : Int32) (is_ : Int32) (g : Int32) (γ : Nat → Int32) (ψ : Nat → Nat → Int32) (H : Heap) (locs : List Loc) (ls : Array Slot), (1 ≤ (Int32.toInt k) ∧ (Int32.toInt k) < 22 ∧ 0 ≤ (Int32.toInt g) ∧ (Int32.toInt g) ≤ 29 ∧ (22 - (Int32.toInt k)).toNat < n17 + 1) → (((30 - (Int32.toInt g)) % 30).toNat < n29) → va_P (dC, dI) vwCl (mw a κ (σ, φ, γ, ψ)) H → va_S (mA a) s.heap H locs → lv_has ls 6 [(0, .ref (a 0)), (1, .int kind), (2, .int n), (3, .int k), (4, .int is_), (5, .int g)] → W p l e ({ frames := 1, cells := 0, slots := 0, locals := 20 } : Room) s m ([.ref (a 0), .int kind] : List Value).toArray below meth c H locs 0 0 QQ (F0 m 29 ls []) := by
        intro n29
        induction n29 with
        | zero =>
          intro n k is_ g γ ψ H locs ls v0 hm
          exact absurd hm (Nat.not_lt_zero _)
        | succ n29 ih29 =>
          intro n k is_ g γ ψ H locs ls v0 hm hP hS hl
          refine lv_iload hx hb dX9_many_29 (lv_at hl 5 rfl) ?_
          refine lv_if_eq (tgt := 62) hx hb dX9_many_31 (by decide) (fun c_1 => ?_) (fun c_1 => ?_)
          · have kc_1 := bI_eq rfl L_0 c_1
            refine lv_iload_n hx hb dX9_many_62 rfl (lv_at hl 2 rfl) ?_
            refine lv_iload hx hb dX9_many_63 (lv_at hl 4 rfl) ?_
            refine lv_if_eq (tgt := 77) hx hb dX9_many_65 (by decide) (fun c_2 => ?_) (fun c_2 => ?_)
            · have kc_2 := bI_eq rfl L_0 c_2
              refine lv_iconst (v := 0) hx hb dX9_many_77 (by decide) ?_
              refine lv_iadd hx hb dX9_many_78 ?_
              refine lv_topi (fun z_3 ez_3 => ?_)
              refine lv_istore_n (lv' := [(2, .int z_3), (0, .ref (a 0)), (1, .int kind), (3, .int k), (4, .int is_), (5, .int g)]) hx hb dX9_many_79 rfl hl (by decide) rfl ?_
              clear hl; intro ls hl
              obtain ⟨i_4, ei_4⟩ : ∃ z : Int32, z = k + 1 := ⟨_, rfl⟩
              refine lv_iinc (v := i_4) (lv' := [(3, .int i_4), (2, .int z_3), (0, .ref (a 0)), (1, .int kind), (4, .int is_), (5, .int g)]) hx hb dX9_many_80 hl (k := 3) rfl (by rw [ei_4]; rfl) (by decide) rfl ?_
              clear hl; intro ls hl
              have ti_4 : (Int32.toInt i_4) = (Int32.toInt k) + 1 := aI_add rfl L_1 ei_4 (by have := rng k; omega)
              refine lv_goto (tgt := 17) hx hb dX9_many_83 (by decide) ?_
              exact ih17 z_3 i_4 γ ψ _ _ _ (show 1 ≤ (Int32.toInt i_4) from (by omega)) (by omega) hP hS (lv_sub hl [2, 3, 1, 0] rfl)
            · have kc_2 := bI_ne rfl L_0 c_2
              refine lv_aload_n hx hb dX9_many_68 rfl (lv_at hl 0 rfl) ?_
              refine mg_0_41 hx hb hts hinX9 hown hK hP (hts (.fieldLink RX9 65 "CensusDeskModel" "many" "[I") (List.mem_of_getElem? (i := 1) rfl)) dX9_many_69 ?_
              refine lv_iload_n hx hb dX9_many_72 rfl (lv_at hl 3 rfl) ?_
              refine ml_19 (f := (ψ 11)) hx hb hK hP (i := k) (vin rfl (by omega)) rfl dX9_many_73 ?_
              refine lv_topi (fun z_5 ez_5 => ?_)
              refine lv_goto (tgt := 78) hx hb dX9_many_74 (by decide) ?_
              refine lv_iadd hx hb dX9_many_78 ?_
              refine lv_topi (fun z_6 ez_6 => ?_)
              refine lv_istore_n (lv' := [(2, .int z_6), (0, .ref (a 0)), (1, .int kind), (3, .int k), (4, .int is_), (5, .int g)]) hx hb dX9_many_79 rfl hl (by decide) rfl ?_
              clear hl; intro ls hl
              obtain ⟨i_7, ei_7⟩ : ∃ z : Int32, z = k + 1 := ⟨_, rfl⟩
              refine lv_iinc (v := i_7) (lv' := [(3, .int i_7), (2, .int z_6), (0, .ref (a 0)), (1, .int kind), (4, .int is_), (5, .int g)]) hx hb dX9_many_80 hl (k := 3) rfl (by rw [ei_7]; rfl) (by decide) rfl ?_
              clear hl; intro ls hl
              have ti_7 : (Int32.toInt i_7) = (Int32.toInt k) + 1 := aI_add rfl L_1 ei_7 (by have := rng k; omega)
              refine lv_goto (tgt := 17) hx hb dX9_many_83 (by decide) ?_
              exact ih17 z_6 i_7 γ ψ _ _ _ (show 1 ≤ (Int32.toInt i_7) from (by omega)) (by omega) hP hS (lv_sub hl [2, 3, 1, 0] rfl)
          · have kc_1 := bI_ne rfl L_0 c_1
            refine lv_iload hx hb dX9_many_34 (lv_at hl 4 rfl) ?_
            refine lv_if_ne (tgt := 45) hx hb dX9_many_36 (by decide) (fun c_8 => ?_) (fun c_8 => ?_)
            · have kc_8 := bI_ne rfl L_0 c_8
              refine lv_iconst (v := 1) hx hb dX9_many_45 (by decide) ?_
              refine lv_goto (tgt := 50) hx hb dX9_many_46 (by decide) ?_
              refine lv_istore (lv' := [(4, .int 1), (0, .ref (a 0)), (1, .int kind), (2, .int n), (3, .int k), (5, .int g)]) hx hb dX9_many_50 hl (by decide) rfl ?_
              clear hl; intro ls hl
              refine lv_iload hx hb dX9_many_52 (lv_at hl 5 rfl) ?_
              refine m_calli (va_runS (As := [.int g]) (rest := []) ⟨hx, hb, hml, hown, hts⟩ (c_X9_groupOf l dC dI a κ σ φ γ ψ g (show 1 ≤ (Int32.toInt g) ∧ (Int32.toInt g) ≤ 29 from (by omega))) (va_cwS 1 hts gX9_many_X9_groupOf rfl rfl rfl hd_X9_groupOf ⟨Nat.le_of_ble_eq_true rfl, Nat.le_of_ble_eq_true rfl⟩) (mPreS hP hK hI hN hS) rfl rfl hl.1 rfl (lv_room (Nat.le_of_ble_eq_true rfl)) dX9_many_54 ⟨(by decide +kernel), (by decide +kernel)⟩) hS ?_
              clear hP hS; intro r_9 S_9 F_9 γ_9 ψ_9 H locs hw hP hS
              obtain ⟨rfl, rfl, (qg_9 : ((Int32.toInt g) = 29 ∧ (Int32.toInt r_9) = 0) ∨ ((Int32.toInt g) < (Int32.toInt r_9) ∧ (Int32.toInt r_9) ≤ 29))⟩ := hw
              refine lv_istore (lv' := [(5, .int r_9), (4, .int 1), (0, .ref (a 0)), (1, .int kind), (2, .int n), (3, .int k)]) hx hb dX9_many_57 hl (by decide) rfl ?_
              clear hl; intro ls hl
              refine lv_goto (tgt := 29) hx hb dX9_many_59 (by decide) ?_
              exact ih29 n k 1 r_9 γ_9 ψ_9 _ _ _ (show 1 ≤ (Int32.toInt k) ∧ (Int32.toInt k) < 22 ∧ 0 ≤ (Int32.toInt r_9) ∧ (Int32.toInt r_9) ≤ 29 ∧ (22 - (Int32.toInt k)).toNat < n17 + 1 from (by omega)) (by omega) hP hS (lv_sub hl [2, 3, 4, 5, 1, 0] rfl)
            · have kc_8 := bI_eq rfl L_0 c_8
              refine lv_iload hx hb dX9_many_39 (lv_at hl 5 rfl) ?_
              refine lv_iload_n hx hb dX9_many_41 rfl (lv_at hl 1 rfl) ?_
              refine lv_icmp_ne (tgt := 49) hx hb dX9_many_42 (by decide) (fun c_10 => ?_) (fun c_10 => ?_)
              · have kc_10 := bI_ne rfl rfl c_10
                refine lv_iconst (v := 0) hx hb dX9_many_49 (by decide) ?_
                refine lv_istore (lv' := [(4, .int 0), (0, .ref (a 0)), (1, .int kind), (2, .int n), (3, .int k), (5, .int g)]) hx hb dX9_many_50 hl (by decide) rfl ?_
                clear hl; intro ls hl
                refine lv_iload hx hb dX9_many_52 (lv_at hl 5 rfl) ?_
                refine m_calli (va_runS (As := [.int g]) (rest := []) ⟨hx, hb, hml, hown, hts⟩ (c_X9_groupOf l dC dI a κ σ φ γ ψ g (show 1 ≤ (Int32.toInt g) ∧ (Int32.toInt g) ≤ 29 from (by omega))) (va_cwS 1 hts gX9_many_X9_groupOf rfl rfl rfl hd_X9_groupOf ⟨Nat.le_of_ble_eq_true rfl, Nat.le_of_ble_eq_true rfl⟩) (mPreS hP hK hI hN hS) rfl rfl hl.1 rfl (lv_room (Nat.le_of_ble_eq_true rfl)) dX9_many_54 ⟨(by decide +kernel), (by decide +kernel)⟩) hS ?_
                clear hP hS; intro r_11 S_11 F_11 γ_11 ψ_11 H locs hw hP hS
                obtain ⟨rfl, rfl, (qg_11 : ((Int32.toInt g) = 29 ∧ (Int32.toInt r_11) = 0) ∨ ((Int32.toInt g) < (Int32.toInt r_11) ∧ (Int32.toInt r_11) ≤ 29))⟩ := hw
                refine lv_istore (lv' := [(5, .int r_11), (4, .int 0), (0, .ref (a 0)), (1, .int kind), (2, .int n), (3, .int k)]) hx hb dX9_many_57 hl (by decide) rfl ?_
                clear hl; intro ls hl
                refine lv_goto (tgt := 29) hx hb dX9_many_59 (by decide) ?_
                exact ih29 n k 0 r_11 γ_11 ψ_11 _ _ _ (show 1 ≤ (Int32.toInt k) ∧ (Int32.toInt k) < 22 ∧ 0 ≤ (Int32.toInt r_11) ∧ (Int32.toInt r_11) ≤ 29 ∧ (22 - (Int32.toInt k)).toNat < n17 + 1 from (by omega)) (by omega) hP hS (lv_sub hl [2, 3, 4, 5, 1, 0] rfl)
              · have kc_10 := bI_eq rfl rfl c_10
                refine lv_iconst (v := 1) hx hb dX9_many_45 (by decide) ?_
                refine lv_goto (tgt := 50) hx hb dX9_many_46 (by decide) ?_
                refine lv_istore (lv' := [(4, .int 1), (0, .ref (a 0)), (1, .int kind), (2, .int n), (3, .int k), (5, .int g)]) hx hb dX9_many_50 hl (by decide) rfl ?_
                clear hl; intro ls hl
                refine lv_iload hx hb dX9_many_52 (lv_at hl 5 rfl) ?_
                refine m_calli (va_runS (As := [.int g]) (rest := []) ⟨hx, hb, hml, hown, hts⟩ (c_X9_groupOf l dC dI a κ σ φ γ ψ g (show 1 ≤ (Int32.toInt g) ∧ (Int32.toInt g) ≤ 29 from (by omega))) (va_cwS 1 hts gX9_many_X9_groupOf rfl rfl rfl hd_X9_groupOf ⟨Nat.le_of_ble_eq_true rfl, Nat.le_of_ble_eq_true rfl⟩) (mPreS hP hK hI hN hS) rfl rfl hl.1 rfl (lv_room (Nat.le_of_ble_eq_true rfl)) dX9_many_54 ⟨(by decide +kernel), (by decide +kernel)⟩) hS ?_
                clear hP hS; intro r_12 S_12 F_12 γ_12 ψ_12 H locs hw hP hS
                obtain ⟨rfl, rfl, (qg_12 : ((Int32.toInt g) = 29 ∧ (Int32.toInt r_12) = 0) ∨ ((Int32.toInt g) < (Int32.toInt r_12) ∧ (Int32.toInt r_12) ≤ 29))⟩ := hw
                refine lv_istore (lv' := [(5, .int r_12), (4, .int 1), (0, .ref (a 0)), (1, .int kind), (2, .int n), (3, .int k)]) hx hb dX9_many_57 hl (by decide) rfl ?_
                clear hl; intro ls hl
                refine lv_goto (tgt := 29) hx hb dX9_many_59 (by decide) ?_
                exact ih29 n k 1 r_12 γ_12 ψ_12 _ _ _ (show 1 ≤ (Int32.toInt k) ∧ (Int32.toInt k) < 22 ∧ 0 ≤ (Int32.toInt r_12) ∧ (Int32.toInt r_12) ≤ 29 ∧ (22 - (Int32.toInt k)).toNat < n17 + 1 from (by omega)) (by omega) hP hS (lv_sub hl [2, 3, 4, 5, 1, 0] rfl)
      refine lv_iload_n hx hb dX9_many_17 rfl (lv_at hl 3 rfl) ?_
      refine lv_bipush (v := 22) hx hb dX9_many_18 (by decide) ?_
      refine lv_icmp_ge (tgt := 86) hx hb dX9_many_20 (by decide) (fun c_13 => ?_) (fun c_13 => ?_)
      · have kc_13 := bI_le L_22 rfl c_13
        refine lv_iload_n hx hb dX9_many_86 rfl (lv_at hl 2 rfl) ?_
        subst eQ
        exact W.iret (v := n) hx hb hr (fun t ht hW => ⟨⟨n, (σ, φ, γ, ψ), rfl, ⟨rfl, rfl, trivial⟩, (by show va_P _ _ _ _; rw [ht]; exact hP)⟩, hS.F ht⟩) hS.2.2 dX9_many_87
      · have kc_13 := bI_nle L_22 rfl c_13
        refine lv_iconst (v := 0) hx hb dX9_many_23 (by decide) ?_
        refine lv_istore (lv' := [(4, .int 0), (0, .ref (a 0)), (1, .int kind), (2, .int n), (3, .int k)]) hx hb dX9_many_24 hl (by decide) rfl ?_
        clear hl; intro ls hl
        refine lv_iload_n hx hb dX9_many_26 rfl (lv_at hl 4 rfl) ?_
        refine lv_istore (lv' := [(5, .int k), (4, .int 0), (0, .ref (a 0)), (1, .int kind), (2, .int n), (3, .int k)]) hx hb dX9_many_27 hl (by decide) rfl ?_
        clear hl; intro ls hl
        exact J29 (_ + 1) n k 0 k γ ψ _ _ _ (show 1 ≤ (Int32.toInt k) ∧ (Int32.toInt k) < 22 ∧ 0 ≤ (Int32.toInt k) ∧ (Int32.toInt k) ≤ 29 ∧ (22 - (Int32.toInt k)).toNat < n17 + 1 from (by omega)) (Nat.lt_succ_self _) hP hS (lv_sub hl [2, 3, 4, 5, 1, 0] rfl)
  refine lv_iload_n hx hb dX9_many_0 rfl (lv_at hl 1 rfl) ?_
  refine lv_iconst (v := 1) hx hb dX9_many_1 (by decide) ?_
  refine lv_icmp_lt (tgt := 11) hx hb dX9_many_2 (by decide) (fun c_14 => ?_) (fun c_14 => ?_)
  · have kc_14 := bI_lt rfl L_1 c_14
    refine lv_iconst (v := (-1)) hx hb dX9_many_11 (by decide) ?_
    subst eQ
    exact W.iret (v := (-1)) hx hb hr (fun t ht hW => ⟨⟨(-1), (σ, φ, γ, ψ), rfl, ⟨rfl, rfl, trivial⟩, (by show va_P _ _ _ _; rw [ht]; exact hP)⟩, hS.F ht⟩) hS.2.2 dX9_many_12
  · have kc_14 := bI_nlt rfl L_1 c_14
    refine lv_iload_n hx hb dX9_many_5 rfl (lv_at hl 1 rfl) ?_
    refine lv_bipush (v := 29) hx hb dX9_many_6 (by decide) ?_
    refine lv_icmp_le (tgt := 13) hx hb dX9_many_8 (by decide) (fun c_15 => ?_) (fun c_15 => ?_)
    · have kc_15 := bI_le rfl L_29 c_15
      refine lv_iconst (v := 0) hx hb dX9_many_13 (by decide) ?_
      refine lv_istore_n (lv' := [(2, .int 0), (0, .ref (a 0)), (1, .int kind)]) hx hb dX9_many_14 rfl hl (by decide) rfl ?_
      clear hl; intro ls hl
      refine lv_iconst (v := 1) hx hb dX9_many_15 (by decide) ?_
      refine lv_istore_n (lv' := [(3, .int 1), (2, .int 0), (0, .ref (a 0)), (1, .int kind)]) hx hb dX9_many_16 rfl hl (by decide) rfl ?_
      clear hl; intro ls hl
      exact J17 (_ + 1) 0 1 γ ψ _ _ _ (show 1 ≤ (Int32.toInt 1) from (by have := L_1; omega)) (Nat.lt_succ_self _) hP hS (lv_sub hl [2, 3, 1, 0] rfl)
    · have kc_15 := bI_nle rfl L_29 c_15
      refine lv_iconst (v := (-1)) hx hb dX9_many_11 (by decide) ?_
      subst eQ
      exact W.iret (v := (-1)) hx hb hr (fun t ht hW => ⟨⟨(-1), (σ, φ, γ, ψ), rfl, ⟨rfl, rfl, trivial⟩, (by show va_P _ _ _ _; rw [ht]; exact hP)⟩, hS.F ht⟩) hS.2.2 dX9_many_12
set_option maxHeartbeats 4000000 in
set_option maxRecDepth 100000 in
theorem c_X9_depth (l : Launch) (dC : Nat → ClassId) (dI : Nat → Nat → Nat) (a : Nat → Nat) (κ : Nat → ClassId) (σ : Nat → Int32) (φ : Nat → Nat → Int32) (γ : Nat → Int32) (ψ : Nat → Nat → Int32) (i : Int32) (hfc : ∀ i : Nat, i < 300 → (i : Int) < (Int32.toInt (σ 10)) → Int32.toInt ((φ 6) i) < i) : Met l yX9_depth wsX9_depth ({ frames := 0, cells := 0, slots := 0, locals := 0 } : Room) (va_Pc [.ref (a 0), .int i] (mPre dC dI a κ (σ, φ, γ, ψ))) (va_Qi (QI (fun r S F => σ = S ∧ φ = F ∧ True)) (mB dC dI a κ) (mA a)) 0 0 (mA a) := by
  refine Met.ofW (cc := cX9_depth) (maxL := 4) (ret := (some .int)) (by decide) rfl ?_
  intro p e s m args below meth c s₁ B hml hv
  obtain ⟨rfl, hP, hK, hI, hN⟩ := hv
  have hx := B.exec
  have hb := B.bytes
  have hr := B.returns
  have hts := atoms_spec (ws := wsX9_depth) B.pre
  have hown : s.vm.findClass RX9 = some m.cls := findClass_of_methodNamed B.named
  have hlocks := B.notSynchronized
  have hS : va_S (mA a) s.heap s.heap [] := va_S.rf
  have hinX9 : ∀ w ∈ wsX90, w ∈ wsX9_depth := fun _ h => List.mem_cons_of_mem _ (List.mem_append_right _ h)
  have hl := lv_entry ([.ref (a 0), .int i]) (n := 4) (Nat.le_of_ble_eq_true rfl)
  rw [lg_entry_eq]
  generalize (lg_sl ([.ref (a 0), .int i]) ++ List.replicate (4 - (lg_sl ([.ref (a 0), .int i])).length) Slot.unset).toArray = ls at hl ⊢
  have hl : lv_has ls 4 [(0, .ref (a 0)), (1, .int i)] := hl
  refine k_gen (fun QQ eQ => ?_)
  have J30 : ∀ (n30 : Nat), ∀ (n : Int32) (k : Int32) (γ : Nat → Int32) (ψ : Nat → Nat → Int32) (H : Heap) (locs : List Loc) (ls : Array Slot), ((Int32.toInt k) < 300 ∧ ((Int32.toInt k) < 0 ∨ (Int32.toInt k) < (Int32.toInt (σ 10)))) → (((Int32.toInt k) + 1).toNat < n30) → va_P (dC, dI) vwCl (mw a κ (σ, φ, γ, ψ)) H → va_S (mA a) s.heap H locs → lv_has ls 4 [(0, .ref (a 0)), (2, .int n), (3, .int k)] → W p l e ({ frames := 0, cells := 0, slots := 0, locals := 0 } : Room) s m ([.ref (a 0), .int i] : List Value).toArray below meth c H locs 0 0 QQ (F0 m 30 ls []) := by
    intro n30
    induction n30 with
    | zero =>
      intro n k γ ψ H locs ls v0 hm
      exact absurd hm (Nat.not_lt_zero _)
    | succ n30 ih30 =>
      intro n k γ ψ H locs ls v0 hm hP hS hl
      refine lv_iload_n hx hb dX9_depth_30 rfl (lv_at hl 2 rfl) ?_
      refine lv_if_lt (tgt := 47) hx hb dX9_depth_31 (by decide) (fun c_1 => ?_) (fun c_1 => ?_)
      · have kc_1 := bI_lt rfl L_0 c_1
        refine lv_iload_n hx hb dX9_depth_47 rfl (lv_at hl 1 rfl) ?_
        subst eQ
        exact W.iret (v := n) hx hb hr (fun t ht hW => ⟨⟨n, (σ, φ, γ, ψ), rfl, ⟨rfl, rfl, trivial⟩, (by show va_P _ _ _ _; rw [ht]; exact hP)⟩, hS.F ht⟩) hS.2.2 dX9_depth_48
      · have kc_1 := bI_nlt rfl L_0 c_1
        obtain ⟨i_2, ei_2⟩ : ∃ z : Int32, z = n + 1 := ⟨_, rfl⟩
        refine lv_iinc (v := i_2) (lv' := [(2, .int i_2), (0, .ref (a 0)), (3, .int k)]) hx hb dX9_depth_34 hl (k := 1) rfl (by rw [ei_2]; rfl) (by decide) rfl ?_
        clear hl; intro ls hl
        refine lv_aload_n hx hb dX9_depth_37 rfl (lv_at hl 1 rfl) ?_
        refine mg_0_37 hx hb hts hinX9 hown hK hP (hts (.fieldLink RX9 56 "CensusDeskModel" "failCause" "[I") (List.mem_of_getElem? (i := 2) rfl)) dX9_depth_38 ?_
        refine lv_iload_n hx hb dX9_depth_41 rfl (lv_at hl 2 rfl) ?_
        refine ml_16 (f := (φ 6)) hx hb hK hP (i := k) (vin rfl (by omega)) rfl dX9_depth_42 ?_
        refine lv_topi (fun z_3 ez_3 => ?_)
        have tz_3 : (Int32.toInt z_3) = Int32.toInt ((φ 6) (Int32.toNatClampNeg k)) := congrArg Int32.toInt ez_3
        have hkn := tn_eq (x := k) (by omega)
        have hfk := hfc (Int32.toNatClampNeg k) (by omega) (by omega)
        refine lv_istore_n (lv' := [(3, .int z_3), (2, .int i_2), (0, .ref (a 0))]) hx hb dX9_depth_43 rfl hl (by decide) rfl ?_
        clear hl; intro ls hl
        refine lv_goto (tgt := 30) hx hb dX9_depth_44 (by decide) ?_
        exact ih30 i_2 z_3 γ ψ _ _ _ (show (Int32.toInt z_3) < 300 ∧ ((Int32.toInt z_3) < 0 ∨ (Int32.toInt z_3) < (Int32.toInt (σ 10))) from (by omega)) (by omega) hP hS (lv_sub hl [2, 1, 0] rfl)
  refine lv_iload_n hx hb dX9_depth_0 rfl (lv_at hl 1 rfl) ?_
  refine lv_if_lt (tgt := 19) hx hb dX9_depth_1 (by decide) (fun c_4 => ?_) (fun c_4 => ?_)
  · have kc_4 := bI_lt rfl L_0 c_4
    refine lv_iconst (v := (-1)) hx hb dX9_depth_19 (by decide) ?_
    subst eQ
    exact W.iret (v := (-1)) hx hb hr (fun t ht hW => ⟨⟨(-1), (σ, φ, γ, ψ), rfl, ⟨rfl, rfl, trivial⟩, (by show va_P _ _ _ _; rw [ht]; exact hP)⟩, hS.F ht⟩) hS.2.2 dX9_depth_20
  · have kc_4 := bI_nlt rfl L_0 c_4
    refine lv_iload_n hx hb dX9_depth_4 rfl (lv_at hl 1 rfl) ?_
    refine lv_aload_n hx hb dX9_depth_5 rfl (lv_at hl 0 rfl) ?_
    refine mg_0_40 (v := (σ 10)) hx hb hts hinX9 hown hK hP (hts (.fieldLink RX9 135 "CensusDeskModel" "fails" "I") (List.mem_of_getElem? (i := 1) rfl)) rfl dX9_depth_6 ?_
    refine lv_icmp_ge (tgt := 19) hx hb dX9_depth_9 (by decide) (fun c_5 => ?_) (fun c_5 => ?_)
    · have kc_5 := bI_le rfl rfl c_5
      refine lv_iconst (v := (-1)) hx hb dX9_depth_19 (by decide) ?_
      subst eQ
      exact W.iret (v := (-1)) hx hb hr (fun t ht hW => ⟨⟨(-1), (σ, φ, γ, ψ), rfl, ⟨rfl, rfl, trivial⟩, (by show va_P _ _ _ _; rw [ht]; exact hP)⟩, hS.F ht⟩) hS.2.2 dX9_depth_20
    · have kc_5 := bI_nle rfl rfl c_5
      refine lv_iload_n hx hb dX9_depth_12 rfl (lv_at hl 1 rfl) ?_
      refine lv_sipush (v := 300) hx hb dX9_depth_13 (by decide) ?_
      refine lv_icmp_lt (tgt := 21) hx hb dX9_depth_16 (by decide) (fun c_6 => ?_) (fun c_6 => ?_)
      · have kc_6 := bI_lt rfl L_300 c_6
        refine lv_iconst (v := 0) hx hb dX9_depth_21 (by decide) ?_
        refine lv_istore_n (lv' := [(2, .int 0), (0, .ref (a 0)), (1, .int i)]) hx hb dX9_depth_22 rfl hl (by decide) rfl ?_
        clear hl; intro ls hl
        refine lv_aload_n hx hb dX9_depth_23 rfl (lv_at hl 1 rfl) ?_
        refine mg_0_37 hx hb hts hinX9 hown hK hP (hts (.fieldLink RX9 56 "CensusDeskModel" "failCause" "[I") (List.mem_of_getElem? (i := 2) rfl)) dX9_depth_24 ?_
        refine lv_iload_n hx hb dX9_depth_27 rfl (lv_at hl 2 rfl) ?_
        refine ml_16 (f := (φ 6)) hx hb hK hP (i := i) (vin rfl (by omega)) rfl dX9_depth_28 ?_
        refine lv_topi (fun z_7 ez_7 => ?_)
        have tz_7 : (Int32.toInt z_7) = Int32.toInt ((φ 6) (Int32.toNatClampNeg i)) := congrArg Int32.toInt ez_7
        have hkn := tn_eq (x := i) (by omega)
        have hfk := hfc (Int32.toNatClampNeg i) (by omega) (by omega)
        refine lv_istore_n (lv' := [(3, .int z_7), (2, .int 0), (0, .ref (a 0)), (1, .int i)]) hx hb dX9_depth_29 rfl hl (by decide) rfl ?_
        clear hl; intro ls hl
        exact J30 (_ + 1) 0 z_7 γ ψ _ _ _ (show (Int32.toInt z_7) < 300 ∧ ((Int32.toInt z_7) < 0 ∨ (Int32.toInt z_7) < (Int32.toInt (σ 10))) from (by omega)) (Nat.lt_succ_self _) hP hS (lv_sub hl [2, 1, 0] rfl)
      · have kc_6 := bI_nlt rfl L_300 c_6
        refine lv_iconst (v := (-1)) hx hb dX9_depth_19 (by decide) ?_
        subst eQ
        exact W.iret (v := (-1)) hx hb hr (fun t ht hW => ⟨⟨(-1), (σ, φ, γ, ψ), rfl, ⟨rfl, rfl, trivial⟩, (by show va_P _ _ _ _; rw [ht]; exact hP)⟩, hS.F ht⟩) hS.2.2 dX9_depth_20
