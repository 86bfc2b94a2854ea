set_option maxHeartbeats 1000000 in
set_option maxRecDepth 100000 in
theorem c_X9_receive (l : Launch) (dC : Nat → ClassId) (dI : Nat → Nat → Nat) (h0 : Nat) (fs : List Value) (h1 h2 : Nat) (k1 k2 : ClassId) (sz : Nat) (hl0 : fs.length = 69) (g5 : fs[5]? = some (.int 0)) (g1 : fs[1]? = some (.int 0)) (g58 : fs[58]? = some (.int 0)) (g65 : fs[65]? = some (.int 0)) (g66 : fs[66]? = some (.int 0)) (g8 : fs[8]? = some (.int 0)) (g41 : fs[41]? = some (.ref h1)) (g43 : fs[43]? = some (.ref h2))  : Met l yX9_receive wsX9_receive ({ frames := 3, cells := 0, slots := 0, locals := 66 }) (va_Pc [.ref h0] (kPre dC dI [(k1, .int), (k2, .int)] [(h0, .inr (9, fs)), (h1, .inl (k1, 22, .inl ((fun _ => 0)))), (h2, .inl (k2, 6, .inl ((fun _ => 0))))] sz)) (va_Qi (fun (r : Int32) (_ : Unit) => r = 0) (fun (_ : Unit) (_ : State) => True) (va_A [(h0, .inr (9, fs)), (h1, .inl (k1, 22, .inl ((fun _ => 0)))), (h2, .inl (k2, 6, .inl ((fun _ => 0))))] sz)) 0 0 (va_A [(h0, .inr (9, fs)), (h1, .inl (k1, 22, .inl ((fun _ => 0)))), (h2, .inl (k2, 6, .inl ((fun _ => 0))))] sz) := by
  refine Met.ofW (cc := cX9_receive) (maxL := 2) (ret := (some .int)) (by decide) rfl ?_
  intro p e s m args below meth c s₁ B hml hv
  obtain ⟨rfl, hsz, hP, hK, hD0, hN⟩ := hv
  have hx := B.exec
  have hb := B.bytes
  have hr := B.returns
  have hts := atoms_spec (ws := wsX9_receive) B.pre
  have hown : s.vm.findClass RX9 = some m.cls := findClass_of_methodNamed B.named
  have hlocks := B.notSynchronized
  subst hsz
  have hD := hD0.self (sz := s.heap.size)
  generalize hAe : va_A [(h0, .inr (9, fs)), (h1, .inl (k1, 22, .inl ((fun _ => 0)))), (h2, .inl (k2, 6, .inl ((fun _ => 0))))] s.heap.size = A at hD ⊢
  have hA : ∀ q : Nat, s.heap.size ≤ q → A q := fun q h => by rw [← hAe]; exact Or.inr h
  have hS : va_S A s.heap s.heap [] := va_S.rf
  have hP : va_P (dC, dI) vwCl [(h0, .inr (9, fs)), (h1, .inl (k1, 22, .inl ((fun _ => 0)))), (h2, .inl (k2, 6, .inl ((fun _ => 0))))] s.heap := hP
  have hinX9 : ∀ w ∈ wsX90, w ∈ wsX9_receive := fun _ h => List.mem_cons_of_mem _ (List.mem_append_right _ h)
  have hl := lv_entry ([.ref h0]) (n := 2) (Nat.le_of_ble_eq_true rfl)
  rw [lg_entry_eq]
  generalize (lg_sl ([.ref h0]) ++ List.replicate (2 - (lg_sl ([.ref h0])).length) Slot.unset).toArray = ls at hl ⊢
  have hl : lv_has ls 2 [(0, .ref h0)] := hl
  refine k_gen (fun QQ eQ => ?_)
  refine lv_aload_n hx hb dX9_receive_0 rfl (lv_at hl 0 rfl) ?_
  refine va_get (D := (dC, dI)) (ci := 9) (v := .int 0) (C := RX9) (T := TX9) (N := 69) hx hb hts hinX9 hown hK hP 0 rfl rfl 5 (by decide) (hts (.fieldLink RX9 120 "CensusDeskModel" "isHeld" "Z") (List.mem_of_getElem? (i := 1) rfl)) (fun _ h9 => h9) g5 dX9_receive_1 ?_
  refine lv_if_eq (tgt := 10) hx hb dX9_receive_4 (by decide) (fun c_1 => ?_) (fun c_1 => absurd c_1 (by decide))
  refine lv_aload_n hx hb dX9_receive_10 rfl (lv_at hl 0 rfl) ?_
  refine lv_dup hx hb dX9_receive_11 rfl ?_
  refine va_get (D := (dC, dI)) (ci := 9) (v := .int 0) (C := RX9) (T := TX9) (N := 69) hx hb hts hinX9 hown hK hP 0 rfl rfl 8 (by decide) (hts (.fieldLink RX9 307 "CensusDeskModel" "sheets" "I") (List.mem_of_getElem? (i := 2) rfl)) (fun _ h9 => h9) g8 dX9_receive_12 ?_
  refine lv_iconst (v := 1) hx hb dX9_receive_15 (by decide) ?_
  refine lv_iadd hx hb dX9_receive_16 ?_
  refine k_top (v := 1) (by decide) ?_
  refine va_put (D := (dC, dI)) (ci := 9) (v := .int 1) (ty := .int) (C := RX9) (T := TX9) (N := 69) hx hb hts hinX9 tyX9 tyX9_ok nmX9 hown hK hP hD hS 0 rfl rfl 8 (by decide) (hts (.fieldLink RX9 307 "CensusDeskModel" "sheets" "I") (List.mem_of_getElem? (i := 2) rfl)) (fun _ h9 => h9) rfl (by decide +kernel) rfl rfl (by rw [hl0]; decide) dX9_receive_17 (fun H locs hP hD hS => ?_)
  obtain ⟨fs_2, efs_2⟩ : ∃ z : List Value, z = List.set fs 8 (.int 1) := ⟨_, rfl⟩
  rw [← efs_2] at hP hD
  have lfs_2 : fs_2.length = 69 := by rw [efs_2, List.length_set]; exact hl0
  have gfs_2_5 : fs_2[5]? = some (.int 0) := by rw [efs_2, List.getElem?_set_ne (show (8 : Nat) ≠ 5 by decide)]; exact g5
  have gfs_2_1 : fs_2[1]? = some (.int 0) := by rw [efs_2, List.getElem?_set_ne (show (8 : Nat) ≠ 1 by decide)]; exact g1
  have gfs_2_58 : fs_2[58]? = some (.int 0) := by rw [efs_2, List.getElem?_set_ne (show (8 : Nat) ≠ 58 by decide)]; exact g58
  have gfs_2_65 : fs_2[65]? = some (.int 0) := by rw [efs_2, List.getElem?_set_ne (show (8 : Nat) ≠ 65 by decide)]; exact g65
  have gfs_2_66 : fs_2[66]? = some (.int 0) := by rw [efs_2, List.getElem?_set_ne (show (8 : Nat) ≠ 66 by decide)]; exact g66
  have gfs_2_41 : fs_2[41]? = some (.ref h1) := by rw [efs_2, List.getElem?_set_ne (show (8 : Nat) ≠ 41 by decide)]; exact g41
  have gfs_2_43 : fs_2[43]? = some (.ref h2) := by rw [efs_2, List.getElem?_set_ne (show (8 : Nat) ≠ 43 by decide)]; exact g43
  have gfs_2_8 : fs_2[8]? = some (.int 1) := by rw [efs_2]; exact List.getElem?_set_self (by rw [hl0]; decide)
  have hP : va_P (dC, dI) vwCl [(h0, .inr (9, fs_2)), (h1, .inl (k1, 22, .inl ((fun _ => 0)))), (h2, .inl (k2, 6, .inl ((fun _ => 0))))] H := hP
  have hD : va_D A [(h0, .inr (9, fs_2)), (h1, .inl (k1, 22, .inl ((fun _ => 0)))), (h2, .inl (k2, 6, .inl ((fun _ => 0))))] := hD
  refine lv_aload_n hx hb dX9_receive_20 rfl (lv_at hl 0 rfl) ?_
  refine lv_iconst (v := 0) hx hb dX9_receive_21 (by decide) ?_
  refine va_put (D := (dC, dI)) (ci := 9) (v := .int 0) (ty := .int) (C := RX9) (T := TX9) (N := 69) hx hb hts hinX9 tyX9 tyX9_ok nmX9 hown hK hP hD hS 0 rfl rfl 4 (by decide) (hts (.fieldLink RX9 261 "CensusDeskModel" "place" "I") (List.mem_of_getElem? (i := 3) rfl)) (fun _ h9 => h9) rfl (by decide +kernel) rfl rfl (by rw [lfs_2]; decide) dX9_receive_22 (fun H locs hP hD hS => ?_)
  obtain ⟨fs_3, efs_3⟩ : ∃ z : List Value, z = List.set fs_2 4 (.int 0) := ⟨_, rfl⟩
  rw [← efs_3] at hP hD
  have lfs_3 : fs_3.length = 69 := by rw [efs_3, List.length_set]; exact lfs_2
  have gfs_3_5 : fs_3[5]? = some (.int 0) := by rw [efs_3, List.getElem?_set_ne (show (4 : Nat) ≠ 5 by decide)]; exact gfs_2_5
  have gfs_3_1 : fs_3[1]? = some (.int 0) := by rw [efs_3, List.getElem?_set_ne (show (4 : Nat) ≠ 1 by decide)]; exact gfs_2_1
  have gfs_3_58 : fs_3[58]? = some (.int 0) := by rw [efs_3, List.getElem?_set_ne (show (4 : Nat) ≠ 58 by decide)]; exact gfs_2_58
  have gfs_3_65 : fs_3[65]? = some (.int 0) := by rw [efs_3, List.getElem?_set_ne (show (4 : Nat) ≠ 65 by decide)]; exact gfs_2_65
  have gfs_3_66 : fs_3[66]? = some (.int 0) := by rw [efs_3, List.getElem?_set_ne (show (4 : Nat) ≠ 66 by decide)]; exact gfs_2_66
  have gfs_3_41 : fs_3[41]? = some (.ref h1) := by rw [efs_3, List.getElem?_set_ne (show (4 : Nat) ≠ 41 by decide)]; exact gfs_2_41
  have gfs_3_43 : fs_3[43]? = some (.ref h2) := by rw [efs_3, List.getElem?_set_ne (show (4 : Nat) ≠ 43 by decide)]; exact gfs_2_43
  have gfs_3_4 : fs_3[4]? = some (.int 0) := by rw [efs_3]; exact List.getElem?_set_self (by rw [lfs_2]; decide)
  have hP : va_P (dC, dI) vwCl [(h0, .inr (9, fs_3)), (h1, .inl (k1, 22, .inl ((fun _ => 0)))), (h2, .inl (k2, 6, .inl ((fun _ => 0))))] H := hP
  have hD : va_D A [(h0, .inr (9, fs_3)), (h1, .inl (k1, 22, .inl ((fun _ => 0)))), (h2, .inl (k2, 6, .inl ((fun _ => 0))))] := hD
  refine lv_aload_n hx hb dX9_receive_25 rfl (lv_at hl 0 rfl) ?_
  refine lv_iconst (v := 0) hx hb dX9_receive_26 (by decide) ?_
  refine va_put (D := (dC, dI)) (ci := 9) (v := .int 0) (ty := .boolean) (C := RX9) (T := TX9) (N := 69) hx hb hts hinX9 tyX9 tyX9_ok nmX9 hown hK hP hD hS 0 rfl rfl 6 (by decide) (hts (.fieldLink RX9 151 "CensusDeskModel" "isRejected" "Z") (List.mem_of_getElem? (i := 4) rfl)) (fun _ h9 => h9) rfl (by decide +kernel) (by first | rfl | decide) (by first | rfl | decide) (by rw [lfs_3]; decide) dX9_receive_27 (fun H locs hP hD hS => ?_)
  obtain ⟨fs_4, efs_4⟩ : ∃ z : List Value, z = List.set fs_3 6 (.int 0) := ⟨_, rfl⟩
  rw [← efs_4] at hP hD
  have lfs_4 : fs_4.length = 69 := by rw [efs_4, List.length_set]; exact lfs_3
  have gfs_4_5 : fs_4[5]? = some (.int 0) := by rw [efs_4, List.getElem?_set_ne (show (6 : Nat) ≠ 5 by decide)]; exact gfs_3_5
  have gfs_4_1 : fs_4[1]? = some (.int 0) := by rw [efs_4, List.getElem?_set_ne (show (6 : Nat) ≠ 1 by decide)]; exact gfs_3_1
  have gfs_4_58 : fs_4[58]? = some (.int 0) := by rw [efs_4, List.getElem?_set_ne (show (6 : Nat) ≠ 58 by decide)]; exact gfs_3_58
  have gfs_4_65 : fs_4[65]? = some (.int 0) := by rw [efs_4, List.getElem?_set_ne (show (6 : Nat) ≠ 65 by decide)]; exact gfs_3_65
  have gfs_4_66 : fs_4[66]? = some (.int 0) := by rw [efs_4, List.getElem?_set_ne (show (6 : Nat) ≠ 66 by decide)]; exact gfs_3_66
  have gfs_4_41 : fs_4[41]? = some (.ref h1) := by rw [efs_4, List.getElem?_set_ne (show (6 : Nat) ≠ 41 by decide)]; exact gfs_3_41
  have gfs_4_43 : fs_4[43]? = some (.ref h2) := by rw [efs_4, List.getElem?_set_ne (show (6 : Nat) ≠ 43 by decide)]; exact gfs_3_43
  have gfs_4_4 : fs_4[4]? = some (.int 0) := by rw [efs_4, List.getElem?_set_ne (show (6 : Nat) ≠ 4 by decide)]; exact gfs_3_4
  have gfs_4_6 : fs_4[6]? = some (.int 0) := by rw [efs_4]; exact List.getElem?_set_self (by rw [lfs_3]; decide)
  have hP : va_P (dC, dI) vwCl [(h0, .inr (9, fs_4)), (h1, .inl (k1, 22, .inl ((fun _ => 0)))), (h2, .inl (k2, 6, .inl ((fun _ => 0))))] H := hP
  have hD : va_D A [(h0, .inr (9, fs_4)), (h1, .inl (k1, 22, .inl ((fun _ => 0)))), (h2, .inl (k2, 6, .inl ((fun _ => 0))))] := hD
  refine lv_aload_n hx hb dX9_receive_30 rfl (lv_at hl 0 rfl) ?_
  refine lv_iconst (v := 0) hx hb dX9_receive_31 (by decide) ?_
  refine va_put (D := (dC, dI)) (ci := 9) (v := .int 0) (ty := .boolean) (C := RX9) (T := TX9) (N := 69) hx hb hts hinX9 tyX9 tyX9_ok nmX9 hown hK hP hD hS 0 rfl rfl 7 (by decide) (hts (.fieldLink RX9 144 "CensusDeskModel" "stops" "Z") (List.mem_of_getElem? (i := 5) rfl)) (fun _ h9 => h9) rfl (by decide +kernel) (by first | rfl | decide) (by first | rfl | decide) (by rw [lfs_4]; decide) dX9_receive_32 (fun H locs hP hD hS => ?_)
  obtain ⟨fs_5, efs_5⟩ : ∃ z : List Value, z = List.set fs_4 7 (.int 0) := ⟨_, rfl⟩
  rw [← efs_5] at hP hD
  have lfs_5 : fs_5.length = 69 := by rw [efs_5, List.length_set]; exact lfs_4
  have gfs_5_5 : fs_5[5]? = some (.int 0) := by rw [efs_5, List.getElem?_set_ne (show (7 : Nat) ≠ 5 by decide)]; exact gfs_4_5
  have gfs_5_1 : fs_5[1]? = some (.int 0) := by rw [efs_5, List.getElem?_set_ne (show (7 : Nat) ≠ 1 by decide)]; exact gfs_4_1
  have gfs_5_58 : fs_5[58]? = some (.int 0) := by rw [efs_5, List.getElem?_set_ne (show (7 : Nat) ≠ 58 by decide)]; exact gfs_4_58
  have gfs_5_65 : fs_5[65]? = some (.int 0) := by rw [efs_5, List.getElem?_set_ne (show (7 : Nat) ≠ 65 by decide)]; exact gfs_4_65
  have gfs_5_66 : fs_5[66]? = some (.int 0) := by rw [efs_5, List.getElem?_set_ne (show (7 : Nat) ≠ 66 by decide)]; exact gfs_4_66
  have gfs_5_41 : fs_5[41]? = some (.ref h1) := by rw [efs_5, List.getElem?_set_ne (show (7 : Nat) ≠ 41 by decide)]; exact gfs_4_41
  have gfs_5_43 : fs_5[43]? = some (.ref h2) := by rw [efs_5, List.getElem?_set_ne (show (7 : Nat) ≠ 43 by decide)]; exact gfs_4_43
  have gfs_5_4 : fs_5[4]? = some (.int 0) := by rw [efs_5, List.getElem?_set_ne (show (7 : Nat) ≠ 4 by decide)]; exact gfs_4_4
  have gfs_5_7 : fs_5[7]? = some (.int 0) := by rw [efs_5]; exact List.getElem?_set_self (by rw [lfs_4]; decide)
  have hP : va_P (dC, dI) vwCl [(h0, .inr (9, fs_5)), (h1, .inl (k1, 22, .inl ((fun _ => 0)))), (h2, .inl (k2, 6, .inl ((fun _ => 0))))] H := hP
  have hD : va_D A [(h0, .inr (9, fs_5)), (h1, .inl (k1, 22, .inl ((fun _ => 0)))), (h2, .inl (k2, 6, .inl ((fun _ => 0))))] := hD
  refine lv_aload_n hx hb dX9_receive_35 rfl (lv_at hl 0 rfl) ?_
  refine lv_iconst (v := 0) hx hb dX9_receive_36 (by decide) ?_
  refine va_put (D := (dC, dI)) (ci := 9) (v := .int 0) (ty := .int) (C := RX9) (T := TX9) (N := 69) hx hb hts hinX9 tyX9 tyX9_ok nmX9 hown hK hP hD hS 0 rfl rfl 9 (by decide) (hts (.fieldLink RX9 274 "CensusDeskModel" "lines" "I") (List.mem_of_getElem? (i := 6) rfl)) (fun _ h9 => h9) rfl (by decide +kernel) rfl rfl (by rw [lfs_5]; decide) dX9_receive_37 (fun H locs hP hD hS => ?_)
  obtain ⟨fs_6, efs_6⟩ : ∃ z : List Value, z = List.set fs_5 9 (.int 0) := ⟨_, rfl⟩
  rw [← efs_6] at hP hD
  have lfs_6 : fs_6.length = 69 := by rw [efs_6, List.length_set]; exact lfs_5
  have gfs_6_5 : fs_6[5]? = some (.int 0) := by rw [efs_6, List.getElem?_set_ne (show (9 : Nat) ≠ 5 by decide)]; exact gfs_5_5
  have gfs_6_1 : fs_6[1]? = some (.int 0) := by rw [efs_6, List.getElem?_set_ne (show (9 : Nat) ≠ 1 by decide)]; exact gfs_5_1
  have gfs_6_58 : fs_6[58]? = some (.int 0) := by rw [efs_6, List.getElem?_set_ne (show (9 : Nat) ≠ 58 by decide)]; exact gfs_5_58
  have gfs_6_65 : fs_6[65]? = some (.int 0) := by rw [efs_6, List.getElem?_set_ne (show (9 : Nat) ≠ 65 by decide)]; exact gfs_5_65
  have gfs_6_66 : fs_6[66]? = some (.int 0) := by rw [efs_6, List.getElem?_set_ne (show (9 : Nat) ≠ 66 by decide)]; exact gfs_5_66
  have gfs_6_41 : fs_6[41]? = some (.ref h1) := by rw [efs_6, List.getElem?_set_ne (show (9 : Nat) ≠ 41 by decide)]; exact gfs_5_41
  have gfs_6_43 : fs_6[43]? = some (.ref h2) := by rw [efs_6, List.getElem?_set_ne (show (9 : Nat) ≠ 43 by decide)]; exact gfs_5_43
  have gfs_6_4 : fs_6[4]? = some (.int 0) := by rw [efs_6, List.getElem?_set_ne (show (9 : Nat) ≠ 4 by decide)]; exact gfs_5_4
  have gfs_6_9 : fs_6[9]? = some (.int 0) := by rw [efs_6]; exact List.getElem?_set_self (by rw [lfs_5]; decide)
  have hP : va_P (dC, dI) vwCl [(h0, .inr (9, fs_6)), (h1, .inl (k1, 22, .inl ((fun _ => 0)))), (h2, .inl (k2, 6, .inl ((fun _ => 0))))] H := hP
  have hD : va_D A [(h0, .inr (9, fs_6)), (h1, .inl (k1, 22, .inl ((fun _ => 0)))), (h2, .inl (k2, 6, .inl ((fun _ => 0))))] := hD
  refine lv_aload_n hx hb dX9_receive_40 rfl (lv_at hl 0 rfl) ?_
  refine lv_iconst (v := 0) hx hb dX9_receive_41 (by decide) ?_
  refine va_put (D := (dC, dI)) (ci := 9) (v := .int 0) (ty := .int) (C := RX9) (T := TX9) (N := 69) hx hb hts hinX9 tyX9 tyX9_ok nmX9 hown hK hP hD hS 0 rfl rfl 10 (by decide) (hts (.fieldLink RX9 161 "CensusDeskModel" "lost" "I") (List.mem_of_getElem? (i := 7) rfl)) (fun _ h9 => h9) rfl (by decide +kernel) rfl rfl (by rw [lfs_6]; decide) dX9_receive_42 (fun H locs hP hD hS => ?_)
  obtain ⟨fs_7, efs_7⟩ : ∃ z : List Value, z = List.set fs_6 10 (.int 0) := ⟨_, rfl⟩
  rw [← efs_7] at hP hD
  have lfs_7 : fs_7.length = 69 := by rw [efs_7, List.length_set]; exact lfs_6
  have gfs_7_5 : fs_7[5]? = some (.int 0) := by rw [efs_7, List.getElem?_set_ne (show (10 : Nat) ≠ 5 by decide)]; exact gfs_6_5
  have gfs_7_1 : fs_7[1]? = some (.int 0) := by rw [efs_7, List.getElem?_set_ne (show (10 : Nat) ≠ 1 by decide)]; exact gfs_6_1
  have gfs_7_58 : fs_7[58]? = some (.int 0) := by rw [efs_7, List.getElem?_set_ne (show (10 : Nat) ≠ 58 by decide)]; exact gfs_6_58
  have gfs_7_65 : fs_7[65]? = some (.int 0) := by rw [efs_7, List.getElem?_set_ne (show (10 : Nat) ≠ 65 by decide)]; exact gfs_6_65
  have gfs_7_66 : fs_7[66]? = some (.int 0) := by rw [efs_7, List.getElem?_set_ne (show (10 : Nat) ≠ 66 by decide)]; exact gfs_6_66
  have gfs_7_41 : fs_7[41]? = some (.ref h1) := by rw [efs_7, List.getElem?_set_ne (show (10 : Nat) ≠ 41 by decide)]; exact gfs_6_41
  have gfs_7_43 : fs_7[43]? = some (.ref h2) := by rw [efs_7, List.getElem?_set_ne (show (10 : Nat) ≠ 43 by decide)]; exact gfs_6_43
  have gfs_7_4 : fs_7[4]? = some (.int 0) := by rw [efs_7, List.getElem?_set_ne (show (10 : Nat) ≠ 4 by decide)]; exact gfs_6_4
  have gfs_7_10 : fs_7[10]? = some (.int 0) := by rw [efs_7]; exact List.getElem?_set_self (by rw [lfs_6]; decide)
  have hP : va_P (dC, dI) vwCl [(h0, .inr (9, fs_7)), (h1, .inl (k1, 22, .inl ((fun _ => 0)))), (h2, .inl (k2, 6, .inl ((fun _ => 0))))] H := hP
  have hD : va_D A [(h0, .inr (9, fs_7)), (h1, .inl (k1, 22, .inl ((fun _ => 0)))), (h2, .inl (k2, 6, .inl ((fun _ => 0))))] := hD
  refine lv_aload_n hx hb dX9_receive_45 rfl (lv_at hl 0 rfl) ?_
  refine lv_iconst (v := (-1)) hx hb dX9_receive_46 (by decide) ?_
  refine va_put (D := (dC, dI)) (ci := 9) (v := .int (-1)) (ty := .int) (C := RX9) (T := TX9) (N := 69) hx hb hts hinX9 tyX9 tyX9_ok nmX9 hown hK hP hD hS 0 rfl rfl 11 (by decide) (hts (.fieldLink RX9 258 "CensusDeskModel" "lastNumber" "I") (List.mem_of_getElem? (i := 8) rfl)) (fun _ h9 => h9) rfl (by decide +kernel) rfl rfl (by rw [lfs_7]; decide) dX9_receive_47 (fun H locs hP hD hS => ?_)
  obtain ⟨fs_8, efs_8⟩ : ∃ z : List Value, z = List.set fs_7 11 (.int (-1)) := ⟨_, rfl⟩
  rw [← efs_8] at hP hD
  have lfs_8 : fs_8.length = 69 := by rw [efs_8, List.length_set]; exact lfs_7
  have gfs_8_5 : fs_8[5]? = some (.int 0) := by rw [efs_8, List.getElem?_set_ne (show (11 : Nat) ≠ 5 by decide)]; exact gfs_7_5
  have gfs_8_1 : fs_8[1]? = some (.int 0) := by rw [efs_8, List.getElem?_set_ne (show (11 : Nat) ≠ 1 by decide)]; exact gfs_7_1
  have gfs_8_58 : fs_8[58]? = some (.int 0) := by rw [efs_8, List.getElem?_set_ne (show (11 : Nat) ≠ 58 by decide)]; exact gfs_7_58
  have gfs_8_65 : fs_8[65]? = some (.int 0) := by rw [efs_8, List.getElem?_set_ne (show (11 : Nat) ≠ 65 by decide)]; exact gfs_7_65
  have gfs_8_66 : fs_8[66]? = some (.int 0) := by rw [efs_8, List.getElem?_set_ne (show (11 : Nat) ≠ 66 by decide)]; exact gfs_7_66
  have gfs_8_41 : fs_8[41]? = some (.ref h1) := by rw [efs_8, List.getElem?_set_ne (show (11 : Nat) ≠ 41 by decide)]; exact gfs_7_41
  have gfs_8_43 : fs_8[43]? = some (.ref h2) := by rw [efs_8, List.getElem?_set_ne (show (11 : Nat) ≠ 43 by decide)]; exact gfs_7_43
  have gfs_8_4 : fs_8[4]? = some (.int 0) := by rw [efs_8, List.getElem?_set_ne (show (11 : Nat) ≠ 4 by decide)]; exact gfs_7_4
  have gfs_8_11 : fs_8[11]? = some (.int (-1)) := by rw [efs_8]; exact List.getElem?_set_self (by rw [lfs_7]; decide)
  have hP : va_P (dC, dI) vwCl [(h0, .inr (9, fs_8)), (h1, .inl (k1, 22, .inl ((fun _ => 0)))), (h2, .inl (k2, 6, .inl ((fun _ => 0))))] H := hP
  have hD : va_D A [(h0, .inr (9, fs_8)), (h1, .inl (k1, 22, .inl ((fun _ => 0)))), (h2, .inl (k2, 6, .inl ((fun _ => 0))))] := hD
  refine lv_aload_n hx hb dX9_receive_50 rfl (lv_at hl 0 rfl) ?_
  refine lv_iconst (v := 0) hx hb dX9_receive_51 (by decide) ?_
  refine va_put (D := (dC, dI)) (ci := 9) (v := .int 0) (ty := .boolean) (C := RX9) (T := TX9) (N := 69) hx hb hts hinX9 tyX9 tyX9_ok nmX9 hown hK hP hD hS 0 rfl rfl 12 (by decide) (hts (.fieldLink RX9 141 "CensusDeskModel" "inHouse" "Z") (List.mem_of_getElem? (i := 9) rfl)) (fun _ h9 => h9) rfl (by decide +kernel) (by first | rfl | decide) (by first | rfl | decide) (by rw [lfs_8]; decide) dX9_receive_52 (fun H locs hP hD hS => ?_)
  obtain ⟨fs_9, efs_9⟩ : ∃ z : List Value, z = List.set fs_8 12 (.int 0) := ⟨_, rfl⟩
  rw [← efs_9] at hP hD
  have lfs_9 : fs_9.length = 69 := by rw [efs_9, List.length_set]; exact lfs_8
  have gfs_9_5 : fs_9[5]? = some (.int 0) := by rw [efs_9, List.getElem?_set_ne (show (12 : Nat) ≠ 5 by decide)]; exact gfs_8_5
  have gfs_9_1 : fs_9[1]? = some (.int 0) := by rw [efs_9, List.getElem?_set_ne (show (12 : Nat) ≠ 1 by decide)]; exact gfs_8_1
  have gfs_9_58 : fs_9[58]? = some (.int 0) := by rw [efs_9, List.getElem?_set_ne (show (12 : Nat) ≠ 58 by decide)]; exact gfs_8_58
  have gfs_9_65 : fs_9[65]? = some (.int 0) := by rw [efs_9, List.getElem?_set_ne (show (12 : Nat) ≠ 65 by decide)]; exact gfs_8_65
  have gfs_9_66 : fs_9[66]? = some (.int 0) := by rw [efs_9, List.getElem?_set_ne (show (12 : Nat) ≠ 66 by decide)]; exact gfs_8_66
  have gfs_9_41 : fs_9[41]? = some (.ref h1) := by rw [efs_9, List.getElem?_set_ne (show (12 : Nat) ≠ 41 by decide)]; exact gfs_8_41
  have gfs_9_43 : fs_9[43]? = some (.ref h2) := by rw [efs_9, List.getElem?_set_ne (show (12 : Nat) ≠ 43 by decide)]; exact gfs_8_43
  have gfs_9_4 : fs_9[4]? = some (.int 0) := by rw [efs_9, List.getElem?_set_ne (show (12 : Nat) ≠ 4 by decide)]; exact gfs_8_4
  have gfs_9_12 : fs_9[12]? = some (.int 0) := by rw [efs_9]; exact List.getElem?_set_self (by rw [lfs_8]; decide)
  have hP : va_P (dC, dI) vwCl [(h0, .inr (9, fs_9)), (h1, .inl (k1, 22, .inl ((fun _ => 0)))), (h2, .inl (k2, 6, .inl ((fun _ => 0))))] H := hP
  have hD : va_D A [(h0, .inr (9, fs_9)), (h1, .inl (k1, 22, .inl ((fun _ => 0)))), (h2, .inl (k2, 6, .inl ((fun _ => 0))))] := hD
  refine lv_aload_n hx hb dX9_receive_55 rfl (lv_at hl 0 rfl) ?_
  refine lv_iconst (v := 0) hx hb dX9_receive_56 (by decide) ?_
  refine va_put (D := (dC, dI)) (ci := 9) (v := .int 0) (ty := .int) (C := RX9) (T := TX9) (N := 69) hx hb hts hinX9 tyX9 tyX9_ok nmX9 hown hK hP hD hS 0 rfl rfl 26 (by decide) (hts (.fieldLink RX9 234 "CensusDeskModel" "houses" "I") (List.mem_of_getElem? (i := 10) rfl)) (fun _ h9 => h9) rfl (by decide +kernel) rfl rfl (by rw [lfs_9]; decide) dX9_receive_57 (fun H locs hP hD hS => ?_)
  obtain ⟨fs_10, efs_10⟩ : ∃ z : List Value, z = List.set fs_9 26 (.int 0) := ⟨_, rfl⟩
  rw [← efs_10] at hP hD
  have lfs_10 : fs_10.length = 69 := by rw [efs_10, List.length_set]; exact lfs_9
  have gfs_10_5 : fs_10[5]? = some (.int 0) := by rw [efs_10, List.getElem?_set_ne (show (26 : Nat) ≠ 5 by decide)]; exact gfs_9_5
  have gfs_10_1 : fs_10[1]? = some (.int 0) := by rw [efs_10, List.getElem?_set_ne (show (26 : Nat) ≠ 1 by decide)]; exact gfs_9_1
  have gfs_10_58 : fs_10[58]? = some (.int 0) := by rw [efs_10, List.getElem?_set_ne (show (26 : Nat) ≠ 58 by decide)]; exact gfs_9_58
  have gfs_10_65 : fs_10[65]? = some (.int 0) := by rw [efs_10, List.getElem?_set_ne (show (26 : Nat) ≠ 65 by decide)]; exact gfs_9_65
  have gfs_10_66 : fs_10[66]? = some (.int 0) := by rw [efs_10, List.getElem?_set_ne (show (26 : Nat) ≠ 66 by decide)]; exact gfs_9_66
  have gfs_10_41 : fs_10[41]? = some (.ref h1) := by rw [efs_10, List.getElem?_set_ne (show (26 : Nat) ≠ 41 by decide)]; exact gfs_9_41
  have gfs_10_43 : fs_10[43]? = some (.ref h2) := by rw [efs_10, List.getElem?_set_ne (show (26 : Nat) ≠ 43 by decide)]; exact gfs_9_43
  have gfs_10_4 : fs_10[4]? = some (.int 0) := by rw [efs_10, List.getElem?_set_ne (show (26 : Nat) ≠ 4 by decide)]; exact gfs_9_4
  have gfs_10_12 : fs_10[12]? = some (.int 0) := by rw [efs_10, List.getElem?_set_ne (show (26 : Nat) ≠ 12 by decide)]; exact gfs_9_12
  have gfs_10_26 : fs_10[26]? = some (.int 0) := by rw [efs_10]; exact List.getElem?_set_self (by rw [lfs_9]; decide)
  have hP : va_P (dC, dI) vwCl [(h0, .inr (9, fs_10)), (h1, .inl (k1, 22, .inl ((fun _ => 0)))), (h2, .inl (k2, 6, .inl ((fun _ => 0))))] H := hP
  have hD : va_D A [(h0, .inr (9, fs_10)), (h1, .inl (k1, 22, .inl ((fun _ => 0)))), (h2, .inl (k2, 6, .inl ((fun _ => 0))))] := hD
  refine lv_aload_n hx hb dX9_receive_60 rfl (lv_at hl 0 rfl) ?_
  refine lv_iconst (v := 0) hx hb dX9_receive_61 (by decide) ?_
  refine va_put (D := (dC, dI)) (ci := 9) (v := .int 0) (ty := .int) (C := RX9) (T := TX9) (N := 69) hx hb hts hinX9 tyX9 tyX9_ok nmX9 hown hK hP hD hS 0 rfl rfl 32 (by decide) (hts (.fieldLink RX9 252 "CensusDeskModel" "persons" "I") (List.mem_of_getElem? (i := 11) rfl)) (fun _ h9 => h9) rfl (by decide +kernel) rfl rfl (by rw [lfs_10]; decide) dX9_receive_62 (fun H locs hP hD hS => ?_)
  obtain ⟨fs_11, efs_11⟩ : ∃ z : List Value, z = List.set fs_10 32 (.int 0) := ⟨_, rfl⟩
  rw [← efs_11] at hP hD
  have lfs_11 : fs_11.length = 69 := by rw [efs_11, List.length_set]; exact lfs_10
  have gfs_11_5 : fs_11[5]? = some (.int 0) := by rw [efs_11, List.getElem?_set_ne (show (32 : Nat) ≠ 5 by decide)]; exact gfs_10_5
  have gfs_11_1 : fs_11[1]? = some (.int 0) := by rw [efs_11, List.getElem?_set_ne (show (32 : Nat) ≠ 1 by decide)]; exact gfs_10_1
  have gfs_11_58 : fs_11[58]? = some (.int 0) := by rw [efs_11, List.getElem?_set_ne (show (32 : Nat) ≠ 58 by decide)]; exact gfs_10_58
  have gfs_11_65 : fs_11[65]? = some (.int 0) := by rw [efs_11, List.getElem?_set_ne (show (32 : Nat) ≠ 65 by decide)]; exact gfs_10_65
  have gfs_11_66 : fs_11[66]? = some (.int 0) := by rw [efs_11, List.getElem?_set_ne (show (32 : Nat) ≠ 66 by decide)]; exact gfs_10_66
  have gfs_11_41 : fs_11[41]? = some (.ref h1) := by rw [efs_11, List.getElem?_set_ne (show (32 : Nat) ≠ 41 by decide)]; exact gfs_10_41
  have gfs_11_43 : fs_11[43]? = some (.ref h2) := by rw [efs_11, List.getElem?_set_ne (show (32 : Nat) ≠ 43 by decide)]; exact gfs_10_43
  have gfs_11_4 : fs_11[4]? = some (.int 0) := by rw [efs_11, List.getElem?_set_ne (show (32 : Nat) ≠ 4 by decide)]; exact gfs_10_4
  have gfs_11_12 : fs_11[12]? = some (.int 0) := by rw [efs_11, List.getElem?_set_ne (show (32 : Nat) ≠ 12 by decide)]; exact gfs_10_12
  have gfs_11_26 : fs_11[26]? = some (.int 0) := by rw [efs_11, List.getElem?_set_ne (show (32 : Nat) ≠ 26 by decide)]; exact gfs_10_26
  have gfs_11_32 : fs_11[32]? = some (.int 0) := by rw [efs_11]; exact List.getElem?_set_self (by rw [lfs_10]; decide)
  have hP : va_P (dC, dI) vwCl [(h0, .inr (9, fs_11)), (h1, .inl (k1, 22, .inl ((fun _ => 0)))), (h2, .inl (k2, 6, .inl ((fun _ => 0))))] H := hP
  have hD : va_D A [(h0, .inr (9, fs_11)), (h1, .inl (k1, 22, .inl ((fun _ => 0)))), (h2, .inl (k2, 6, .inl ((fun _ => 0))))] := hD
  refine lv_aload_n hx hb dX9_receive_65 rfl (lv_at hl 0 rfl) ?_
  refine lv_iconst (v := 0) hx hb dX9_receive_66 (by decide) ?_
  refine va_put (D := (dC, dI)) (ci := 9) (v := .int 0) (ty := .int) (C := RX9) (T := TX9) (N := 69) hx hb hts hinX9 tyX9 tyX9_ok nmX9 hown hK hP hD hS 0 rfl rfl 34 (by decide) (hts (.fieldLink RX9 240 "CensusDeskModel" "nameEnd" "I") (List.mem_of_getElem? (i := 12) rfl)) (fun _ h9 => h9) rfl (by decide +kernel) rfl rfl (by rw [lfs_11]; decide) dX9_receive_67 (fun H locs hP hD hS => ?_)
  obtain ⟨fs_12, efs_12⟩ : ∃ z : List Value, z = List.set fs_11 34 (.int 0) := ⟨_, rfl⟩
  rw [← efs_12] at hP hD
  have lfs_12 : fs_12.length = 69 := by rw [efs_12, List.length_set]; exact lfs_11
  have gfs_12_5 : fs_12[5]? = some (.int 0) := by rw [efs_12, List.getElem?_set_ne (show (34 : Nat) ≠ 5 by decide)]; exact gfs_11_5
  have gfs_12_1 : fs_12[1]? = some (.int 0) := by rw [efs_12, List.getElem?_set_ne (show (34 : Nat) ≠ 1 by decide)]; exact gfs_11_1
  have gfs_12_58 : fs_12[58]? = some (.int 0) := by rw [efs_12, List.getElem?_set_ne (show (34 : Nat) ≠ 58 by decide)]; exact gfs_11_58
  have gfs_12_65 : fs_12[65]? = some (.int 0) := by rw [efs_12, List.getElem?_set_ne (show (34 : Nat) ≠ 65 by decide)]; exact gfs_11_65
  have gfs_12_66 : fs_12[66]? = some (.int 0) := by rw [efs_12, List.getElem?_set_ne (show (34 : Nat) ≠ 66 by decide)]; exact gfs_11_66
  have gfs_12_41 : fs_12[41]? = some (.ref h1) := by rw [efs_12, List.getElem?_set_ne (show (34 : Nat) ≠ 41 by decide)]; exact gfs_11_41
  have gfs_12_43 : fs_12[43]? = some (.ref h2) := by rw [efs_12, List.getElem?_set_ne (show (34 : Nat) ≠ 43 by decide)]; exact gfs_11_43
  have gfs_12_4 : fs_12[4]? = some (.int 0) := by rw [efs_12, List.getElem?_set_ne (show (34 : Nat) ≠ 4 by decide)]; exact gfs_11_4
  have gfs_12_12 : fs_12[12]? = some (.int 0) := by rw [efs_12, List.getElem?_set_ne (show (34 : Nat) ≠ 12 by decide)]; exact gfs_11_12
  have gfs_12_26 : fs_12[26]? = some (.int 0) := by rw [efs_12, List.getElem?_set_ne (show (34 : Nat) ≠ 26 by decide)]; exact gfs_11_26
  have gfs_12_34 : fs_12[34]? = some (.int 0) := by rw [efs_12]; exact List.getElem?_set_self (by rw [lfs_11]; decide)
  have hP : va_P (dC, dI) vwCl [(h0, .inr (9, fs_12)), (h1, .inl (k1, 22, .inl ((fun _ => 0)))), (h2, .inl (k2, 6, .inl ((fun _ => 0))))] H := hP
  have hD : va_D A [(h0, .inr (9, fs_12)), (h1, .inl (k1, 22, .inl ((fun _ => 0)))), (h2, .inl (k2, 6, .inl ((fun _ => 0))))] := hD
  refine lv_aload_n hx hb dX9_receive_70 rfl (lv_at hl 0 rfl) ?_
  refine lv_iconst (v := 0) hx hb dX9_receive_71 (by decide) ?_
  refine va_put (D := (dC, dI)) (ci := 9) (v := .int 0) (ty := .int) (C := RX9) (T := TX9) (N := 69) hx hb hts hinX9 tyX9 tyX9_ok nmX9 hown hK hP hD hS 0 rfl rfl 40 (by decide) (hts (.fieldLink RX9 135 "CensusDeskModel" "fails" "I") (List.mem_of_getElem? (i := 13) rfl)) (fun _ h9 => h9) rfl (by decide +kernel) rfl rfl (by rw [lfs_12]; decide) dX9_receive_72 (fun H locs hP hD hS => ?_)
  obtain ⟨fs_13, efs_13⟩ : ∃ z : List Value, z = List.set fs_12 40 (.int 0) := ⟨_, rfl⟩
  rw [← efs_13] at hP hD
  have lfs_13 : fs_13.length = 69 := by rw [efs_13, List.length_set]; exact lfs_12
  have gfs_13_5 : fs_13[5]? = some (.int 0) := by rw [efs_13, List.getElem?_set_ne (show (40 : Nat) ≠ 5 by decide)]; exact gfs_12_5
  have gfs_13_1 : fs_13[1]? = some (.int 0) := by rw [efs_13, List.getElem?_set_ne (show (40 : Nat) ≠ 1 by decide)]; exact gfs_12_1
  have gfs_13_58 : fs_13[58]? = some (.int 0) := by rw [efs_13, List.getElem?_set_ne (show (40 : Nat) ≠ 58 by decide)]; exact gfs_12_58
  have gfs_13_65 : fs_13[65]? = some (.int 0) := by rw [efs_13, List.getElem?_set_ne (show (40 : Nat) ≠ 65 by decide)]; exact gfs_12_65
  have gfs_13_66 : fs_13[66]? = some (.int 0) := by rw [efs_13, List.getElem?_set_ne (show (40 : Nat) ≠ 66 by decide)]; exact gfs_12_66
  have gfs_13_41 : fs_13[41]? = some (.ref h1) := by rw [efs_13, List.getElem?_set_ne (show (40 : Nat) ≠ 41 by decide)]; exact gfs_12_41
  have gfs_13_43 : fs_13[43]? = some (.ref h2) := by rw [efs_13, List.getElem?_set_ne (show (40 : Nat) ≠ 43 by decide)]; exact gfs_12_43
  have gfs_13_4 : fs_13[4]? = some (.int 0) := by rw [efs_13, List.getElem?_set_ne (show (40 : Nat) ≠ 4 by decide)]; exact gfs_12_4
  have gfs_13_12 : fs_13[12]? = some (.int 0) := by rw [efs_13, List.getElem?_set_ne (show (40 : Nat) ≠ 12 by decide)]; exact gfs_12_12
  have gfs_13_26 : fs_13[26]? = some (.int 0) := by rw [efs_13, List.getElem?_set_ne (show (40 : Nat) ≠ 26 by decide)]; exact gfs_12_26
  have gfs_13_40 : fs_13[40]? = some (.int 0) := by rw [efs_13]; exact List.getElem?_set_self (by rw [lfs_12]; decide)
  have hP : va_P (dC, dI) vwCl [(h0, .inr (9, fs_13)), (h1, .inl (k1, 22, .inl ((fun _ => 0)))), (h2, .inl (k2, 6, .inl ((fun _ => 0))))] H := hP
  have hD : va_D A [(h0, .inr (9, fs_13)), (h1, .inl (k1, 22, .inl ((fun _ => 0)))), (h2, .inl (k2, 6, .inl ((fun _ => 0))))] := hD
  refine lv_iconst (v := 0) hx hb dX9_receive_75 (by decide) ?_
  refine lv_istore_n (lv' := [(1, .int 0), (0, .ref h0)]) hx hb dX9_receive_76 rfl hl (by decide) rfl (fun ls hl => ?_)
  have loopa : ∀ (na : Nat) (ia : Nat) (fva : Nat → Int32) (H : Heap) (locs : List Loc) (ls : Array Slot), (ia ≤ 22) → 22 - ia < na → va_P (dC, dI) vwCl [(h0, .inr (9, fs_13)), (h1, .inl (k1, 22, .inl fva)), (h2, .inl (k2, 6, .inl ((fun _ => 0))))] H → va_D A [(h0, .inr (9, fs_13)), (h1, .inl (k1, 22, .inl fva)), (h2, .inl (k2, 6, .inl ((fun _ => 0))))] → va_S A s.heap H locs → lv_has ls 2 [(1, .int (nI ia)), (0, .ref h0)] → W p l e ({ frames := 3, cells := 0, slots := 0, locals := 66 } : Room) s m ([.ref h0] : List Value).toArray below meth c H locs 0 0 QQ (F0 m 77 ls []) := by
    intro na
    induction na with
    | zero =>
      intro ia fva H locs ls hia hm
      exact absurd hm (Nat.not_lt_zero _)
    | succ na iha =>
      intro ia fva H locs ls hia hm hP hD hS hl
      refine lv_iload_n hx hb dX9_receive_77 rfl (lv_at hl 0 rfl) ?_
      refine lv_bipush (v := 22) hx hb dX9_receive_78 (by decide) ?_
      refine lv_icmp_ge (tgt := 96) hx hb dX9_receive_80 (by decide) (fun c_14 => ?_) (fun c_14 => ?_)
      · refine lv_iconst (v := 0) hx hb dX9_receive_96 (by decide) ?_
        refine lv_istore_n (lv' := [(1, .int 0), (0, .ref h0)]) hx hb dX9_receive_97 rfl hl (by decide) rfl (fun ls hl => ?_)
        have loopb : ∀ (nb : Nat) (ib : Nat) (fvb : Nat → Int32) (H : Heap) (locs : List Loc) (ls : Array Slot), (ib ≤ 6) → 6 - ib < nb → va_P (dC, dI) vwCl [(h0, .inr (9, fs_13)), (h1, .inl (k1, 22, .inl fva)), (h2, .inl (k2, 6, .inl fvb))] H → va_D A [(h0, .inr (9, fs_13)), (h1, .inl (k1, 22, .inl fva)), (h2, .inl (k2, 6, .inl fvb))] → va_S A s.heap H locs → lv_has ls 2 [(1, .int (nI ib)), (0, .ref h0)] → W p l e ({ frames := 3, cells := 0, slots := 0, locals := 66 } : Room) s m ([.ref h0] : List Value).toArray below meth c H locs 0 0 QQ (F0 m 98 ls []) := by
          intro nb
          induction nb with
          | zero =>
            intro ib fvb H locs ls hib hm
            exact absurd hm (Nat.not_lt_zero _)
          | succ nb ihb =>
            intro ib fvb H locs ls hib hm hP hD hS hl
            refine lv_iload_n hx hb dX9_receive_98 rfl (lv_at hl 0 rfl) ?_
            refine lv_bipush (v := 6) hx hb dX9_receive_99 (by decide) ?_
            refine lv_icmp_ge (tgt := 117) hx hb dX9_receive_101 (by decide) (fun c_15 => ?_) (fun c_15 => ?_)
            · refine lv_aload_n hx hb dX9_receive_117 rfl (lv_at hl 1 rfl) ?_
              have hPc := hP.sub (ws' := [(h0, .inr (9, fs_13))]) [0] rfl
              have hDc := hD.sub (ws' := [(h0, .inr (9, fs_13))]) [0] (by decide) rfl
              have hKc := hK.sub (tys' := []) [] rfl
              have hFc := va_free (wc := [(h0, .inr (9, fs_13))]) hD hS hA [0] rfl
              refine va_calli (va_runV (As := []) (rest := []) ⟨hx, hb, hml, hown, hts⟩ (c_X9_readOn l dC dI h0 fs_13 _ lfs_13 gfs_13_5 gfs_13_4 gfs_13_1 gfs_13_12 gfs_13_58 gfs_13_26 gfs_13_65 gfs_13_66) (cwV 0 hts gX9_receive_X9_readOn rfl rfl rfl (by decide +kernel) ⟨Nat.le_of_ble_eq_true rfl, Nat.le_of_ble_eq_true rfl⟩) (kPreV hPc hKc hDc hN (va_recv hKc hPc (ci := 9) (q0 := 0) rfl rfl)) rfl rfl hl.1 rfl (lv_room (Nat.le_of_ble_eq_true rfl)) dX9_receive_118 ⟨(by decide +kernel), (by decide +kernel)⟩) hS (fun q _ h => hFc q h) hFc (fun r_16 u t H1 locs ht hvm hw hB hz1 hk1 hS => ?_)
              obtain ⟨hP, hD⟩ := kRest (wc := [(h0, .inr (9, fs_13))]) (wr := [(h1, .inl (k1, 22, .inl fva)), (h2, .inl (k2, 6, .inl fvb))]) hP hD [0] [1, 2] rfl rfl (by decide) (by decide) hk1 hFc
              have hK := hK.sub (tys' := [(k1, .int), (k2, .int)]) [0, 1] rfl
              generalize H1 = H at hP hS ⊢
              have hP : va_P (dC, dI) vwCl [(h1, .inl (k1, 22, .inl fva)), (h2, .inl (k2, 6, .inl fvb))] H := hP
              have hD : va_D A [(h1, .inl (k1, 22, .inl fva)), (h2, .inl (k2, 6, .inl fvb))] := hD
              try dsimp only at hw
              subst hw
              subst eQ
              exact W.iret (v := 0) hx hb hr (fun t ht hW => ⟨⟨0, (), rfl, rfl, trivial⟩, hS.F ht⟩) hS.2.2 dX9_receive_121
            · have hltb : ib < 6 := by rcases Nat.lt_or_ge ib 6 with q | q; exact q; exact absurd (nI_le (a := 6) (b := ib) q (by omega)) c_15
              refine lv_aload_n hx hb dX9_receive_104 rfl (lv_at hl 1 rfl) ?_
              refine va_get (D := (dC, dI)) (ci := 9) (v := .ref h2) (C := RX9) (T := TX9) (N := 69) hx hb hts hinX9 hown hK hP 0 rfl rfl 43 (by decide) (hts (.fieldLink RX9 71 "CensusDeskModel" "firstOut" "[I") (List.mem_of_getElem? (i := 15) rfl)) (fun _ h9 => h9) gfs_13_43 dX9_receive_105 ?_
              refine lv_iload_n hx hb dX9_receive_108 rfl (lv_at hl 0 rfl) ?_
              refine lv_iconst (v := (-1)) hx hb dX9_receive_109 (by decide) ?_
              refine va_iast hx hb hK hP hD hS 2 1 rfl rfl (i := (nI ib)) (x := (-1)) (vp_in_nI hltb (by decide)) dX9_receive_110 (fun H locs hP hD hS => ?_)
              obtain ⟨f_17, ef_17⟩ : ∃ z : Nat → Int32, z = upd fvb (Int32.toNatClampNeg (nI ib)) (-1) := ⟨_, rfl⟩
              rw [← ef_17] at hP hD
              have hP : va_P (dC, dI) vwCl [(h0, .inr (9, fs_13)), (h1, .inl (k1, 22, .inl fva)), (h2, .inl (k2, 6, .inl f_17))] H := hP
              have hD : va_D A [(h0, .inr (9, fs_13)), (h1, .inl (k1, 22, .inl fva)), (h2, .inl (k2, 6, .inl f_17))] := hD
              refine lv_iinc (v := (nI (ib + 1))) (lv' := [(1, .int (nI (ib + 1))), (0, .ref h0)]) hx hb dX9_receive_111 hl (k := 0) rfl (nI_1 ib) (by decide) rfl (fun ls hl => ?_)
              refine lv_goto (tgt := 98) hx hb dX9_receive_114 (by decide) ?_
              exact ihb (ib + 1) (f_17) _ _ _ (by omega) (by omega) (hP.sub [0, 1, 2] rfl) (hD.sub [0, 1, 2] (by decide) rfl) hS (lv_sub hl [0, 1] rfl)
        exact loopb (6 - 0 + 1) (0) ((fun _ => 0)) _ _ _ (by decide) (Nat.lt_succ_self _) (hP.sub [0, 1, 2] rfl) (hD.sub [0, 1, 2] (by decide) rfl) hS (lv_sub hl [0, 1] rfl)
      · have hlta : ia < 22 := by rcases Nat.lt_or_ge ia 22 with q | q; exact q; exact absurd (nI_le (a := 22) (b := ia) q (by omega)) c_14
        refine lv_aload_n hx hb dX9_receive_83 rfl (lv_at hl 1 rfl) ?_
        refine va_get (D := (dC, dI)) (ci := 9) (v := .ref h1) (C := RX9) (T := TX9) (N := 69) hx hb hts hinX9 hown hK hP 0 rfl rfl 41 (by decide) (hts (.fieldLink RX9 65 "CensusDeskModel" "many" "[I") (List.mem_of_getElem? (i := 14) rfl)) (fun _ h9 => h9) gfs_13_41 dX9_receive_84 ?_
        refine lv_iload_n hx hb dX9_receive_87 rfl (lv_at hl 0 rfl) ?_
        refine lv_iconst (v := 0) hx hb dX9_receive_88 (by decide) ?_
        refine va_iast hx hb hK hP hD hS 1 0 rfl rfl (i := (nI ia)) (x := 0) (vp_in_nI hlta (by decide)) dX9_receive_89 (fun H locs hP hD hS => ?_)
        obtain ⟨f_18, ef_18⟩ : ∃ z : Nat → Int32, z = upd fva (Int32.toNatClampNeg (nI ia)) 0 := ⟨_, rfl⟩
        rw [← ef_18] at hP hD
        have hP : va_P (dC, dI) vwCl [(h0, .inr (9, fs_13)), (h1, .inl (k1, 22, .inl f_18)), (h2, .inl (k2, 6, .inl ((fun _ => 0))))] H := hP
        have hD : va_D A [(h0, .inr (9, fs_13)), (h1, .inl (k1, 22, .inl f_18)), (h2, .inl (k2, 6, .inl ((fun _ => 0))))] := hD
        refine lv_iinc (v := (nI (ia + 1))) (lv' := [(1, .int (nI (ia + 1))), (0, .ref h0)]) hx hb dX9_receive_90 hl (k := 0) rfl (nI_1 ia) (by decide) rfl (fun ls hl => ?_)
        refine lv_goto (tgt := 77) hx hb dX9_receive_93 (by decide) ?_
        exact iha (ia + 1) (f_18) _ _ _ (by omega) (by omega) (hP.sub [0, 1, 2] rfl) (hD.sub [0, 1, 2] (by decide) rfl) hS (lv_sub hl [0, 1] rfl)
  exact loopa (22 - 0 + 1) (0) ((fun _ => 0)) _ _ _ (by decide) (Nat.lt_succ_self _) (hP.sub [0, 1, 2] rfl) (hD.sub [0, 1, 2] (by decide) rfl) hS (lv_sub hl [0, 1] rfl)
set_option maxHeartbeats 1000000 in
set_option maxRecDepth 100000 in
theorem c_X9_failure (l : Launch) (dC : Nat → ClassId) (dI : Nat → Nat → Nat) (h0 : Nat) (fs : List Value) (i w : Int32) (sz : Nat) (hl0 : fs.length = 69) (g40 : fs[40]? = some (.int 0))  : Met l yX9_failure wsX9_failure ({ frames := 0, cells := 0, slots := 0, locals := 0 }) (va_Pc [.ref h0, .int i, .int w] (kPre dC dI [] [(h0, .inr (9, fs))] sz)) (va_Qi (fun (r : Int32) (_ : Unit) => r = -1) (fun (_ : Unit) (_ : State) => True) (va_A [(h0, .inr (9, fs))] sz)) 0 0 (va_A [(h0, .inr (9, fs))] sz) := by
  refine Met.ofW (cc := cX9_failure) (maxL := 3) (ret := (some .int)) (by decide) rfl ?_
  intro p e s m args below meth c s₁ B hml hv
  obtain ⟨rfl, hsz, hP, hK, hD0, hN⟩ := hv
  have hx := B.exec
  have hb := B.bytes
  have hr := B.returns
  have hts := atoms_spec (ws := wsX9_failure) B.pre
  have hown : s.vm.findClass RX9 = some m.cls := findClass_of_methodNamed B.named
  have hlocks := B.notSynchronized
  subst hsz
  have hD := hD0.self (sz := s.heap.size)
  generalize hAe : va_A [(h0, .inr (9, fs))] s.heap.size = A at hD ⊢
  have hA : ∀ q : Nat, s.heap.size ≤ q → A q := fun q h => by rw [← hAe]; exact Or.inr h
  have hS : va_S A s.heap s.heap [] := va_S.rf
  have hP : va_P (dC, dI) vwCl [(h0, .inr (9, fs))] s.heap := hP
  have hinX9 : ∀ w ∈ wsX90, w ∈ wsX9_failure := fun _ h => List.mem_cons_of_mem _ (List.mem_append_right _ h)
  have hl := lv_entry ([.ref h0, .int i, .int w]) (n := 3) (Nat.le_of_ble_eq_true rfl)
  rw [lg_entry_eq]
  generalize (lg_sl ([.ref h0, .int i, .int w]) ++ List.replicate (3 - (lg_sl ([.ref h0, .int i, .int w])).length) Slot.unset).toArray = ls at hl ⊢
  have hl : lv_has ls 3 [(0, .ref h0), (1, .int i), (2, .int w)] := hl
  refine lv_iload_n hx hb dX9_failure_0 rfl (lv_at hl 1 rfl) ?_
  refine lv_if_lt (tgt := 28) hx hb dX9_failure_1 (by decide) (fun c_1 => ?_) (fun c_1 => ?_)
  · refine lv_iconst (v := (-1)) hx hb dX9_failure_28 (by decide) ?_
    exact W.iret (v := (-1)) hx hb hr (fun t ht hW => ⟨⟨(-1), (), rfl, rfl, trivial⟩, hS.F ht⟩) hS.2.2 dX9_failure_29
  · refine lv_iload_n hx hb dX9_failure_4 rfl (lv_at hl 1 rfl) ?_
    refine lv_aload_n hx hb dX9_failure_5 rfl (lv_at hl 0 rfl) ?_
    refine va_get (D := (dC, dI)) (ci := 9) (v := .int 0) (C := RX9) (T := TX9) (N := 69) hx hb hts hinX9 hown hK hP 0 rfl rfl 40 (by decide) (hts (.fieldLink RX9 135 "CensusDeskModel" "fails" "I") (List.mem_of_getElem? (i := 1) rfl)) (fun _ h9 => h9) g40 dX9_failure_6 ?_
    refine lv_icmp_ge (tgt := 28) hx hb dX9_failure_9 (by decide) (fun c_2 => ?_) (fun c_2 => False.elim (c_2 (k_nlt c_1)))
    refine lv_iconst (v := (-1)) hx hb dX9_failure_28 (by decide) ?_
    exact W.iret (v := (-1)) hx hb hr (fun t ht hW => ⟨⟨(-1), (), rfl, rfl, trivial⟩, hS.F ht⟩) hS.2.2 dX9_failure_29
set_option maxHeartbeats 1000000 in
set_option maxRecDepth 100000 in
theorem c_X9_depth (l : Launch) (dC : Nat → ClassId) (dI : Nat → Nat → Nat) (h0 : Nat) (fs : List Value) (i : Int32) (sz : Nat) (hl0 : fs.length = 69) (g40 : fs[40]? = some (.int 0))  : Met l yX9_depth wsX9_depth ({ frames := 0, cells := 0, slots := 0, locals := 0 }) (va_Pc [.ref h0, .int i] (kPre dC dI [] [(h0, .inr (9, fs))] sz)) (va_Qi (fun (r : Int32) (_ : Unit) => r = -1) (fun (_ : Unit) (_ : State) => True) (va_A [(h0, .inr (9, fs))] sz)) 0 0 (va_A [(h0, .inr (9, fs))] sz) := by
  refine Met.ofW (cc := cX9_depth) (maxL := 4) (ret := (some .int)) (by decide) rfl ?_
  intro p e s m args below meth c s₁ B hml hv
  obtain ⟨rfl, hsz, hP, hK, hD0, hN⟩ := hv
  have hx := B.exec
  have hb := B.bytes
  have hr := B.returns
  have hts := atoms_spec (ws := wsX9_depth) B.pre
  have hown : s.vm.findClass RX9 = some m.cls := findClass_of_methodNamed B.named
  have hlocks := B.notSynchronized
  subst hsz
  have hD := hD0.self (sz := s.heap.size)
  generalize hAe : va_A [(h0, .inr (9, fs))] s.heap.size = A at hD ⊢
  have hA : ∀ q : Nat, s.heap.size ≤ q → A q := fun q h => by rw [← hAe]; exact Or.inr h
  have hS : va_S A s.heap s.heap [] := va_S.rf
  have hP : va_P (dC, dI) vwCl [(h0, .inr (9, fs))] s.heap := hP
  have hinX9 : ∀ w ∈ wsX90, w ∈ wsX9_depth := fun _ h => List.mem_cons_of_mem _ (List.mem_append_right _ h)
  have hl := lv_entry ([.ref h0, .int i]) (n := 4) (Nat.le_of_ble_eq_true rfl)
  rw [lg_entry_eq]
  generalize (lg_sl ([.ref h0, .int i]) ++ List.replicate (4 - (lg_sl ([.ref h0, .int i])).length) Slot.unset).toArray = ls at hl ⊢
  have hl : lv_has ls 4 [(0, .ref h0), (1, .int i)] := hl
  refine lv_iload_n hx hb dX9_depth_0 rfl (lv_at hl 1 rfl) ?_
  refine lv_if_lt (tgt := 19) hx hb dX9_depth_1 (by decide) (fun c_1 => ?_) (fun c_1 => ?_)
  · refine lv_iconst (v := (-1)) hx hb dX9_depth_19 (by decide) ?_
    exact W.iret (v := (-1)) hx hb hr (fun t ht hW => ⟨⟨(-1), (), rfl, rfl, trivial⟩, hS.F ht⟩) hS.2.2 dX9_depth_20
  · refine lv_iload_n hx hb dX9_depth_4 rfl (lv_at hl 1 rfl) ?_
    refine lv_aload_n hx hb dX9_depth_5 rfl (lv_at hl 0 rfl) ?_
    refine va_get (D := (dC, dI)) (ci := 9) (v := .int 0) (C := RX9) (T := TX9) (N := 69) hx hb hts hinX9 hown hK hP 0 rfl rfl 40 (by decide) (hts (.fieldLink RX9 135 "CensusDeskModel" "fails" "I") (List.mem_of_getElem? (i := 1) rfl)) (fun _ h9 => h9) g40 dX9_depth_6 ?_
    refine lv_icmp_ge (tgt := 19) hx hb dX9_depth_9 (by decide) (fun c_2 => ?_) (fun c_2 => False.elim (c_2 (k_nlt c_1)))
    refine lv_iconst (v := (-1)) hx hb dX9_depth_19 (by decide) ?_
    exact W.iret (v := (-1)) hx hb hr (fun t ht hW => ⟨⟨(-1), (), rfl, rfl, trivial⟩, hS.F ht⟩) hS.2.2 dX9_depth_20
set_option maxHeartbeats 1000000 in
set_option maxRecDepth 100000 in
theorem c_X9_many (l : Launch) (dC : Nat → ClassId) (dI : Nat → Nat → Nat) (h0 : Nat) (fs : List Value) (h1 : Nat) (k1 : ClassId) (kd : Int32) (sz : Nat) (hl0 : fs.length = 69) (g41 : fs[41]? = some (.ref h1))  : Met l yX9_many wsX9_many ({ frames := 1, cells := 0, slots := 0, locals := 20 }) (va_Pc [.ref h0, .int kd] (kPre dC dI [(k1, .int)] [(h0, .inr (9, fs)), (h1, .inl (k1, 22, .inl ((fun _ => 0))))] sz)) (va_Qi (fun (r : Int32) (_ : Unit) => r = fMany kd) (fun (_ : Unit) (_ : State) => True) (va_A [(h0, .inr (9, fs)), (h1, .inl (k1, 22, .inl ((fun _ => 0))))] sz)) 0 0 (va_A [(h0, .inr (9, fs)), (h1, .inl (k1, 22, .inl ((fun _ => 0))))] sz) := by
  refine Met.ofW (cc := cX9_many) (maxL := 6) (ret := (some .int)) (by decide) rfl ?_
  intro p e s m args below meth c s₁ B hml hv
  obtain ⟨rfl, hsz, hP, hK, hD0, hN⟩ := hv
  have hx := B.exec
  have hb := B.bytes
  have hr := B.returns
  have hts := atoms_spec (ws := wsX9_many) B.pre
  have hown : s.vm.findClass RX9 = some m.cls := findClass_of_methodNamed B.named
  have hlocks := B.notSynchronized
  subst hsz
  have hD := hD0.self (sz := s.heap.size)
  generalize hAe : va_A [(h0, .inr (9, fs)), (h1, .inl (k1, 22, .inl ((fun _ => 0))))] s.heap.size = A at hD ⊢
  have hA : ∀ q : Nat, s.heap.size ≤ q → A q := fun q h => by rw [← hAe]; exact Or.inr h
  have hS : va_S A s.heap s.heap [] := va_S.rf
  have hP : va_P (dC, dI) vwCl [(h0, .inr (9, fs)), (h1, .inl (k1, 22, .inl ((fun _ => 0))))] s.heap := hP
  have hinX9 : ∀ w ∈ wsX90, w ∈ wsX9_many := fun _ h => List.mem_cons_of_mem _ (List.mem_append_right _ h)
  have hl := lv_entry ([.ref h0, .int kd]) (n := 6) (Nat.le_of_ble_eq_true rfl)
  rw [lg_entry_eq]
  generalize (lg_sl ([.ref h0, .int kd]) ++ List.replicate (6 - (lg_sl ([.ref h0, .int kd])).length) Slot.unset).toArray = ls at hl ⊢
  have hl : lv_has ls 6 [(0, .ref h0), (1, .int kd)] := hl
  refine k_gen (fun QQ eQ => ?_)
  refine lv_iload_n hx hb dX9_many_0 rfl (lv_at hl 1 rfl) ?_
  refine lv_iconst (v := 1) hx hb dX9_many_1 (by decide) ?_
  refine lv_icmp_lt (tgt := 11) hx hb dX9_many_2 (by decide) (fun c_1 => ?_) (fun c_1 => ?_)
  · refine lv_iconst (v := (-1)) hx hb dX9_many_11 (by decide) ?_
    subst eQ
    exact W.iret (v := (-1)) hx hb hr (fun t ht hW => ⟨⟨(-1), (), rfl, (by unfold fMany; rw [if_pos c_1]), trivial⟩, hS.F ht⟩) hS.2.2 dX9_many_12
  · refine lv_iload_n hx hb dX9_many_5 rfl (lv_at hl 1 rfl) ?_
    refine lv_bipush (v := 29) hx hb dX9_many_6 (by decide) ?_
    refine lv_icmp_le (tgt := 13) hx hb dX9_many_8 (by decide) (fun c_2 => ?_) (fun c_2 => ?_)
    · refine lv_iconst (v := 0) hx hb dX9_many_13 (by decide) ?_
      refine lv_istore_n (lv' := [(2, .int 0), (0, .ref h0), (1, .int kd)]) hx hb dX9_many_14 rfl hl (by decide) rfl (fun ls hl => ?_)
      refine lv_iconst (v := 1) hx hb dX9_many_15 (by decide) ?_
      refine lv_istore_n (lv' := [(3, .int 1), (2, .int 0), (0, .ref h0), (1, .int kd)]) hx hb dX9_many_16 rfl hl (by decide) rfl (fun ls hl => ?_)
      have loop17 : ∀ (n17 : Nat) (k : Nat) (H : Heap) (locs : List Loc) (ls : Array Slot), (1 ≤ k) → (k ≤ 22) → 22 - k < n17 → va_P (dC, dI) vwCl [(h0, .inr (9, fs)), (h1, .inl (k1, 22, .inl ((fun _ => 0))))] H → va_D A [(h0, .inr (9, fs)), (h1, .inl (k1, 22, .inl ((fun _ => 0))))] → va_S A s.heap H locs → lv_has ls 6 [(3, .int (nI k)), (2, .int 0), (0, .ref h0), (1, .int kd)] → W p l e ({ frames := 1, cells := 0, slots := 0, locals := 20 } : Room) s m ([.ref h0, .int kd] : List Value).toArray below meth c H locs 0 0 QQ (F0 m 17 ls []) := by
        intro n17
        induction n17 with
        | zero =>
          intro k H locs ls hk1 hk2 hm
          exact absurd hm (Nat.not_lt_zero _)
        | succ n17 ih17 =>
          intro k H locs ls hk1 hk2 hm hP hD hS hl
          refine lv_iload_n hx hb dX9_many_17 rfl (lv_at hl 0 rfl) ?_
          refine lv_bipush (v := 22) hx hb dX9_many_18 (by decide) ?_
          refine lv_icmp_ge (tgt := 86) hx hb dX9_many_20 (by decide) (fun c_3 => ?_) (fun c_3 => ?_)
          · refine lv_iload_n hx hb dX9_many_86 rfl (lv_at hl 1 rfl) ?_
            subst eQ
            exact W.iret (v := 0) hx hb hr (fun t ht hW => ⟨⟨0, (), rfl, (by unfold fMany; rw [if_neg c_1, if_pos c_2]), trivial⟩, hS.F ht⟩) hS.2.2 dX9_many_87
          · have hk3 : k < 22 := by rcases Nat.lt_or_ge k 22 with q | q; exact q; exact absurd (nI_le (a := 22) (b := k) q (by omega)) c_3
            refine lv_iconst (v := 0) hx hb dX9_many_23 (by decide) ?_
            refine lv_istore (lv' := [(4, .int 0), (3, .int (nI k)), (2, .int 0), (0, .ref h0), (1, .int kd)]) hx hb dX9_many_24 hl (by decide) rfl (fun ls hl => ?_)
            refine lv_iload_n hx hb dX9_many_26 rfl (lv_at hl 1 rfl) ?_
            refine lv_istore (lv' := [(5, .int (nI k)), (4, .int 0), (3, .int (nI k)), (2, .int 0), (0, .ref h0), (1, .int kd)]) hx hb dX9_many_27 hl (by decide) rfl (fun ls hl => ?_)
            have loop29 : ∀ (n29 : Nat) (gg : Nat) (bb : Int32) (H : Heap) (locs : List Loc) (ls : Array Slot), (gg < 30) → rk gg < n29 → va_P (dC, dI) vwCl [(h0, .inr (9, fs)), (h1, .inl (k1, 22, .inl ((fun _ => 0))))] H → va_D A [(h0, .inr (9, fs)), (h1, .inl (k1, 22, .inl ((fun _ => 0))))] → va_S A s.heap H locs → lv_has ls 6 [(5, .int (nI gg)), (4, .int bb), (3, .int (nI k)), (2, .int 0), (0, .ref h0), (1, .int kd)] → W p l e ({ frames := 1, cells := 0, slots := 0, locals := 20 } : Room) s m ([.ref h0, .int kd] : List Value).toArray below meth c H locs 0 0 QQ (F0 m 29 ls []) := by
              intro n29
              induction n29 with
              | zero =>
                intro gg bb H locs ls hg hm
                exact absurd hm (Nat.not_lt_zero _)
              | succ n29 ih29 =>
                intro gg bb H locs ls hg hm hP hD hS hl
                refine lv_iload hx hb dX9_many_29 (lv_at hl 0 rfl) ?_
                refine lv_if_eq (tgt := 62) hx hb dX9_many_31 (by decide) (fun c_4 => ?_) (fun c_4 => ?_)
                · refine lv_iload_n hx hb dX9_many_62 rfl (lv_at hl 3 rfl) ?_
                  refine lv_iload hx hb dX9_many_63 (lv_at hl 1 rfl) ?_
                  refine lv_if_eq (tgt := 77) hx hb dX9_many_65 (by decide) (fun c_5 => ?_) (fun c_5 => ?_)
                  · refine lv_iconst (v := 0) hx hb dX9_many_77 (by decide) ?_
                    refine lv_iadd hx hb dX9_many_78 ?_
                    refine k_top (v := 0) (by decide) ?_
                    refine lv_istore_n (lv' := [(2, .int 0), (5, .int (nI gg)), (4, .int bb), (3, .int (nI k)), (0, .ref h0), (1, .int kd)]) hx hb dX9_many_79 rfl hl (by decide) rfl (fun ls hl => ?_)
                    refine lv_iinc (v := (nI (k + 1))) (lv' := [(3, .int (nI (k + 1))), (2, .int 0), (5, .int (nI gg)), (4, .int bb), (0, .ref h0), (1, .int kd)]) hx hb dX9_many_80 hl (k := 3) rfl (nI_1 k) (by decide) rfl (fun ls hl => ?_)
                    refine lv_goto (tgt := 17) hx hb dX9_many_83 (by decide) ?_
                    exact ih17 (k + 1) _ _ _ (by omega) (by omega) (by omega) (hP.sub [0, 1] rfl) (hD.sub [0, 1] (by decide) rfl) hS (lv_sub hl [0, 1, 4, 5] rfl)
                  · refine lv_aload_n hx hb dX9_many_68 rfl (lv_at hl 4 rfl) ?_
                    refine va_get (D := (dC, dI)) (ci := 9) (v := .ref h1) (C := RX9) (T := TX9) (N := 69) hx hb hts hinX9 hown hK hP 0 rfl rfl 41 (by decide) (hts (.fieldLink RX9 65 "CensusDeskModel" "many" "[I") (List.mem_of_getElem? (i := 1) rfl)) (fun _ h9 => h9) g41 dX9_many_69 ?_
                    refine lv_iload_n hx hb dX9_many_72 rfl (lv_at hl 2 rfl) ?_
                    refine va_iald hx hb hK hP 1 0 rfl rfl (i := (nI k)) (vp_in_nI hk3 (by decide)) dX9_many_73 ?_
                    refine k_top (v := 0) rfl ?_
                    refine lv_goto (tgt := 78) hx hb dX9_many_74 (by decide) ?_
                    refine lv_iadd hx hb dX9_many_78 ?_
                    refine k_top (v := 0) (by decide) ?_
                    refine lv_istore_n (lv' := [(2, .int 0), (5, .int (nI gg)), (4, .int bb), (3, .int (nI k)), (0, .ref h0), (1, .int kd)]) hx hb dX9_many_79 rfl hl (by decide) rfl (fun ls hl => ?_)
                    refine lv_iinc (v := (nI (k + 1))) (lv' := [(3, .int (nI (k + 1))), (2, .int 0), (5, .int (nI gg)), (4, .int bb), (0, .ref h0), (1, .int kd)]) hx hb dX9_many_80 hl (k := 3) rfl (nI_1 k) (by decide) rfl (fun ls hl => ?_)
                    refine lv_goto (tgt := 17) hx hb dX9_many_83 (by decide) ?_
                    exact ih17 (k + 1) _ _ _ (by omega) (by omega) (by omega) (hP.sub [0, 1] rfl) (hD.sub [0, 1] (by decide) rfl) hS (lv_sub hl [0, 1, 4, 5] rfl)
                · refine lv_iload hx hb dX9_many_34 (lv_at hl 1 rfl) ?_
                  refine lv_if_ne (tgt := 45) hx hb dX9_many_36 (by decide) (fun c_6 => ?_) (fun c_6 => ?_)
                  · refine lv_iconst (v := 1) hx hb dX9_many_45 (by decide) ?_
                    refine lv_goto (tgt := 50) hx hb dX9_many_46 (by decide) ?_
                    refine lv_istore (lv' := [(4, .int 1), (5, .int (nI gg)), (3, .int (nI k)), (2, .int 0), (0, .ref h0), (1, .int kd)]) hx hb dX9_many_50 hl (by decide) rfl (fun ls hl => ?_)
                    refine lv_iload hx hb dX9_many_52 (lv_at hl 1 rfl) ?_
                    have hPc := hP.sub (ws' := []) [] rfl
                    have hDc := hD.sub (ws' := []) [] (by decide) rfl
                    have hKc := hK.sub (tys' := []) [] rfl
                    have hFc := va_free (wc := []) hD hS hA [] rfl
                    refine va_calli (va_runS (As := [.int (nI gg)]) (rest := []) ⟨hx, hb, hml, hown, hts⟩ (c_X9_groupOf l dC dI (nI gg) _ ) (va_cwS 1 hts gX9_many_X9_groupOf rfl rfl rfl (by decide +kernel) ⟨Nat.le_of_ble_eq_true rfl, Nat.le_of_ble_eq_true rfl⟩) (kPreS hPc hKc hDc hN) rfl rfl hl.1 rfl (lv_room (Nat.le_of_ble_eq_true rfl)) dX9_many_54 ⟨(by decide +kernel), (by decide +kernel)⟩) hS (fun q _ h => hFc q h) hFc (fun r_7 u t H1 locs ht hvm hw hB hz1 hk1 hS => ?_)
                    obtain ⟨hP, hD, hK⟩ := kJoin (wc := []) (wr := [(h0, .inr (9, fs)), (h1, .inl (k1, 22, .inl ((fun _ => 0))))]) (w1 := []) hP hD hK [] [0, 1] rfl rfl (by decide) (by decide) hk1 hFc ht hvm hB
                    have hK : va_K (dC, dI) vwCl [(k1, .int)] s := hK
                    generalize H1 = H at hP hS ⊢
                    have hP : va_P (dC, dI) vwCl [(h0, .inr (9, fs)), (h1, .inl (k1, 22, .inl ((fun _ => 0))))] H := hP
                    have hD : va_D A [(h0, .inr (9, fs)), (h1, .inl (k1, 22, .inl ((fun _ => 0))))] := hD
                    try dsimp only at hw
                    obtain ⟨jj, hj0, hj1, hj2⟩ := gOf_rk gg hg (by rcases Nat.eq_zero_or_pos gg with q | q; exact absurd (by rw [q]; rfl) c_4; exact q)
                    have hw : r_7 = nI jj := hw.trans hj0
                    subst hw
                    refine lv_istore (lv' := [(5, .int (nI jj)), (4, .int 1), (3, .int (nI k)), (2, .int 0), (0, .ref h0), (1, .int kd)]) hx hb dX9_many_57 hl (by decide) rfl (fun ls hl => ?_)
                    refine lv_goto (tgt := 29) hx hb dX9_many_59 (by decide) ?_
                    exact ih29 (jj) (1) _ _ _ hj1 (by omega) (hP.sub [0, 1] rfl) (hD.sub [0, 1] (by decide) rfl) hS (lv_sub hl [0, 1, 2, 3, 4, 5] rfl)
                  · refine lv_iload hx hb dX9_many_39 (lv_at hl 0 rfl) ?_
                    refine lv_iload_n hx hb dX9_many_41 rfl (lv_at hl 5 rfl) ?_
                    refine lv_icmp_ne (tgt := 49) hx hb dX9_many_42 (by decide) (fun c_8 => ?_) (fun c_8 => ?_)
                    · refine lv_iconst (v := 0) hx hb dX9_many_49 (by decide) ?_
                      refine lv_istore (lv' := [(4, .int 0), (5, .int (nI gg)), (3, .int (nI k)), (2, .int 0), (0, .ref h0), (1, .int kd)]) hx hb dX9_many_50 hl (by decide) rfl (fun ls hl => ?_)
                      refine lv_iload hx hb dX9_many_52 (lv_at hl 1 rfl) ?_
                      have hPc := hP.sub (ws' := []) [] rfl
                      have hDc := hD.sub (ws' := []) [] (by decide) rfl
                      have hKc := hK.sub (tys' := []) [] rfl
                      have hFc := va_free (wc := []) hD hS hA [] rfl
                      refine va_calli (va_runS (As := [.int (nI gg)]) (rest := []) ⟨hx, hb, hml, hown, hts⟩ (c_X9_groupOf l dC dI (nI gg) _ ) (va_cwS 1 hts gX9_many_X9_groupOf rfl rfl rfl (by decide +kernel) ⟨Nat.le_of_ble_eq_true rfl, Nat.le_of_ble_eq_true rfl⟩) (kPreS hPc hKc hDc hN) rfl rfl hl.1 rfl (lv_room (Nat.le_of_ble_eq_true rfl)) dX9_many_54 ⟨(by decide +kernel), (by decide +kernel)⟩) hS (fun q _ h => hFc q h) hFc (fun r_9 u t H1 locs ht hvm hw hB hz1 hk1 hS => ?_)
                      obtain ⟨hP, hD, hK⟩ := kJoin (wc := []) (wr := [(h0, .inr (9, fs)), (h1, .inl (k1, 22, .inl ((fun _ => 0))))]) (w1 := []) hP hD hK [] [0, 1] rfl rfl (by decide) (by decide) hk1 hFc ht hvm hB
                      have hK : va_K (dC, dI) vwCl [(k1, .int)] s := hK
                      generalize H1 = H at hP hS ⊢
                      have hP : va_P (dC, dI) vwCl [(h0, .inr (9, fs)), (h1, .inl (k1, 22, .inl ((fun _ => 0))))] H := hP
                      have hD : va_D A [(h0, .inr (9, fs)), (h1, .inl (k1, 22, .inl ((fun _ => 0))))] := hD
                      try dsimp only at hw
                      obtain ⟨jj, hj0, hj1, hj2⟩ := gOf_rk gg hg (by rcases Nat.eq_zero_or_pos gg with q | q; exact absurd (by rw [q]; rfl) c_4; exact q)
                      have hw : r_9 = nI jj := hw.trans hj0
                      subst hw
                      refine lv_istore (lv' := [(5, .int (nI jj)), (4, .int 0), (3, .int (nI k)), (2, .int 0), (0, .ref h0), (1, .int kd)]) hx hb dX9_many_57 hl (by decide) rfl (fun ls hl => ?_)
                      refine lv_goto (tgt := 29) hx hb dX9_many_59 (by decide) ?_
                      exact ih29 (jj) (0) _ _ _ hj1 (by omega) (hP.sub [0, 1] rfl) (hD.sub [0, 1] (by decide) rfl) hS (lv_sub hl [0, 1, 2, 3, 4, 5] rfl)
                    · refine lv_iconst (v := 1) hx hb dX9_many_45 (by decide) ?_
                      refine lv_goto (tgt := 50) hx hb dX9_many_46 (by decide) ?_
                      refine lv_istore (lv' := [(4, .int 1), (5, .int (nI gg)), (3, .int (nI k)), (2, .int 0), (0, .ref h0), (1, .int kd)]) hx hb dX9_many_50 hl (by decide) rfl (fun ls hl => ?_)
                      refine lv_iload hx hb dX9_many_52 (lv_at hl 1 rfl) ?_
                      have hPc := hP.sub (ws' := []) [] rfl
                      have hDc := hD.sub (ws' := []) [] (by decide) rfl
                      have hKc := hK.sub (tys' := []) [] rfl
                      have hFc := va_free (wc := []) hD hS hA [] rfl
                      refine va_calli (va_runS (As := [.int (nI gg)]) (rest := []) ⟨hx, hb, hml, hown, hts⟩ (c_X9_groupOf l dC dI (nI gg) _ ) (va_cwS 1 hts gX9_many_X9_groupOf rfl rfl rfl (by decide +kernel) ⟨Nat.le_of_ble_eq_true rfl, Nat.le_of_ble_eq_true rfl⟩) (kPreS hPc hKc hDc hN) rfl rfl hl.1 rfl (lv_room (Nat.le_of_ble_eq_true rfl)) dX9_many_54 ⟨(by decide +kernel), (by decide +kernel)⟩) hS (fun q _ h => hFc q h) hFc (fun r_10 u t H1 locs ht hvm hw hB hz1 hk1 hS => ?_)
                      obtain ⟨hP, hD, hK⟩ := kJoin (wc := []) (wr := [(h0, .inr (9, fs)), (h1, .inl (k1, 22, .inl ((fun _ => 0))))]) (w1 := []) hP hD hK [] [0, 1] rfl rfl (by decide) (by decide) hk1 hFc ht hvm hB
                      have hK : va_K (dC, dI) vwCl [(k1, .int)] s := hK
                      generalize H1 = H at hP hS ⊢
                      have hP : va_P (dC, dI) vwCl [(h0, .inr (9, fs)), (h1, .inl (k1, 22, .inl ((fun _ => 0))))] H := hP
                      have hD : va_D A [(h0, .inr (9, fs)), (h1, .inl (k1, 22, .inl ((fun _ => 0))))] := hD
                      try dsimp only at hw
                      obtain ⟨jj, hj0, hj1, hj2⟩ := gOf_rk gg hg (by rcases Nat.eq_zero_or_pos gg with q | q; exact absurd (by rw [q]; rfl) c_4; exact q)
                      have hw : r_10 = nI jj := hw.trans hj0
                      subst hw
                      refine lv_istore (lv' := [(5, .int (nI jj)), (4, .int 1), (3, .int (nI k)), (2, .int 0), (0, .ref h0), (1, .int kd)]) hx hb dX9_many_57 hl (by decide) rfl (fun ls hl => ?_)
                      refine lv_goto (tgt := 29) hx hb dX9_many_59 (by decide) ?_
                      exact ih29 (jj) (1) _ _ _ hj1 (by omega) (hP.sub [0, 1] rfl) (hD.sub [0, 1] (by decide) rfl) hS (lv_sub hl [0, 1, 2, 3, 4, 5] rfl)
            exact loop29 (rk k + 1) (k) (0) _ _ _ (by omega) (Nat.lt_succ_self _) (hP.sub [0, 1] rfl) (hD.sub [0, 1] (by decide) rfl) hS (lv_sub hl [0, 1, 2, 3, 4, 5] rfl)
      exact loop17 (22 - 1 + 1) (1) _ _ _ (Nat.le_refl 1) (by decide) (Nat.lt_succ_self _) (hP.sub [0, 1] rfl) (hD.sub [0, 1] (by decide) rfl) hS (lv_sub hl [0, 1, 2, 3] rfl)
    · refine lv_iconst (v := (-1)) hx hb dX9_many_11 (by decide) ?_
      subst eQ
      exact W.iret (v := (-1)) hx hb hr (fun t ht hW => ⟨⟨(-1), (), rfl, (by unfold fMany; rw [if_neg c_1, if_neg c_2]), trivial⟩, hS.F ht⟩) hS.2.2 dX9_many_12
