set_option maxHeartbeats 1000000 in
set_option maxRecDepth 100000 in
theorem c_X9_init (l : Launch) (dC : Nat → ClassId) (dI : Nat → Nat → Nat) (h0 : Nat) (fs : List Value) (sz : Nat) (hl0 : fs.length = 69) (g1 : fs[1]? = some (.int 0)) (g4 : fs[4]? = some (.int 0)) (g5 : fs[5]? = some (.int 0)) (g8 : fs[8]? = some (.int 0)) (g9 : fs[9]? = some (.int 0)) (g10 : fs[10]? = some (.int 0)) (g12 : fs[12]? = some (.int 0)) (g26 : fs[26]? = some (.int 0)) (g40 : fs[40]? = some (.int 0)) (g58 : fs[58]? = some (.int 0)) (g65 : fs[65]? = some (.int 0)) (g66 : fs[66]? = some (.int 0)) (g67 : fs[67]? = some (.int 0)) (g68 : fs[68]? = some (.int 0)) : Met l yX9_init wsX9_init ({ frames := 1, cells := 35, slots := 47298, locals := 24 }) (va_Pc [.ref h0] (kPre dC dI [] [(h0, .inr (9, fs))] sz)) (va_Qv (fun (_ : Unit) => True) (fun (_ : Unit) (t : State) => ∃ (fs2 : List Value) (m1 : Nat) (m2 : Nat) (m3 : Nat) (m4 : Nat) (m5 : Nat) (n1 : ClassId) (n2 : ClassId) (n3 : ClassId) (n4 : ClassId) (n5 : ClassId) (fw : Nat → Int32), fs2.length = 69 ∧ fs2[1]? = some (.int 0) ∧ fs2[4]? = some (.int 0) ∧ fs2[5]? = some (.int 0) ∧ fs2[8]? = some (.int 0) ∧ fs2[9]? = some (.int 0) ∧ fs2[10]? = some (.int 0) ∧ fs2[12]? = some (.int 0) ∧ fs2[26]? = some (.int 0) ∧ fs2[40]? = some (.int 0) ∧ fs2[58]? = some (.int 0) ∧ fs2[65]? = some (.int 0) ∧ fs2[66]? = some (.int 0) ∧ fs2[67]? = some (.int 0) ∧ fs2[68]? = some (.int 0) ∧ fs2[0]? = some (.ref m1) ∧ fs2[2]? = some (.ref m2) ∧ fs2[3]? = some (.ref m3) ∧ fs2[41]? = some (.ref m4) ∧ fs2[43]? = some (.ref m5) ∧ (∀ j, j < 30 → fw j = -1) ∧ kB dC dI (va_A [(h0, .inr (9, fs))] sz) [(n1, .byte), (n2, .int), (n3, .int), (n4, .int), (n5, .int)] [(h0, .inr (9, fs2)), (m1, .inl (n1, 4000, .inl ((fun _ => 0)))), (m2, .inl (n2, 30, .inl fw)), (m3, .inl (n3, 30, .inl ((fun _ => 0)))), (m4, .inl (n4, 22, .inl ((fun _ => 0)))), (m5, .inl (n5, 6, .inl ((fun _ => 0))))] t) (va_A [(h0, .inr (9, fs))] sz)) 35 47298 (va_A [(h0, .inr (9, fs))] sz) := by
  refine Met.ofW (cc := cX9_init) (maxL := 2) (ret := none) (by decide) rfl ?_
  intro p e s m args below meth c s₁ B hml hv
  obtain ⟨rfl, hsz, hP, hK, hD0, hN⟩ := hv
  have hx := B.exec
  have hb := B.bytes
  have hr := B.returns
  have hts := atoms_spec (ws := wsX9_init) B.pre
  have hown : s.vm.findClass RX9 = some m.cls := findClass_of_methodNamed B.named
  have hlocks := B.notSynchronized
  have hin : meth.name = "<init>" := (name_of_methodNamed B.named B.method).1
  have hAO := hN.2.2
  subst hsz
  have hD := hD0.self (sz := s.heap.size)
  generalize hAe : va_A [(h0, .inr (9, fs))] s.heap.size = A at hD ⊢
  have hA : ∀ q : Nat, s.heap.size ≤ q → A q := fun q h => by rw [← hAe]; exact Or.inr h
  have hS : va_S A s.heap s.heap [] := va_S.rf
  have hP : va_P (dC, dI) vwCl [(h0, .inr (9, fs))] s.heap := hP
  have hinX9 : ∀ w ∈ wsX90, w ∈ wsX9_init := fun _ h => List.mem_cons_of_mem _ (List.mem_append_right _ h)
  have hl := lv_entry ([.ref h0]) (n := 2) (Nat.le_of_ble_eq_true rfl)
  rw [lg_entry_eq]
  generalize (lg_sl ([.ref h0]) ++ List.replicate (2 - (lg_sl ([.ref h0])).length) Slot.unset).toArray = ls at hl ⊢
  have hl : lv_has ls 2 [(0, .ref h0)] := hl
  refine k_gen (fun QQ eQ => ?_)
  refine lv_aload_n hx hb dX9_init_0 rfl (lv_at hl 0 rfl) ?_
  refine W.objInit hx hb hown (hts (.methodLink RX9 1 objectInit) (List.mem_of_getElem? (i := 1) rfl)) (hts (.instanceMethod objectInit) (List.mem_of_getElem? (i := 2) rfl)) (hts (.code objectInit ⟨#[0xb1]⟩ 1 none) (List.mem_of_getElem? (i := 3) rfl)) rfl (by rw [hml]; exact hl.1) rfl dX9_init_1 (Nat.le_of_ble_eq_true rfl) (Nat.le_of_ble_eq_true rfl) ?_
  refine W.eq (g2 := F0 m 4 ls []) rfl ?_
  refine lv_aload_n hx hb dX9_init_4 rfl (lv_at hl 0 rfl) ?_
  refine lv_sipush (v := 4000) hx hb dX9_init_5 (by decide) ?_
  refine va_newa (atype := .byte) (a0 := (4000, .inl (fun _ => 0))) (ty := .byte) (N' := 4000) hx hb (hts (.arrayClass .byte) (List.mem_of_getElem? (i := 4) rfl)) rfl hK hP hD hS hA (fun c9 => k_cellB c9 4000) (by decide +kernel) (by decide +kernel) (by decide +kernel) (by decide +kernel) (by decide +kernel) dX9_init_8 (fun q_1 k_2 H hK hP hD hS => ?_)
  have hP : va_P (dC, dI) vwCl [(h0, .inr (9, fs)), (q_1, .inl (k_2, 4000, .inl ((fun _ => 0))))] H := hP
  have hD : va_D A [(h0, .inr (9, fs)), (q_1, .inl (k_2, 4000, .inl ((fun _ => 0))))] := hD
  have hK : va_K (dC, dI) vwCl [(k_2, .byte)] s := hK
  refine W.widen (k := 1) (n := 4000) (by decide +kernel) (by decide +kernel) ?_
  refine va_putF (D := (dC, dI)) (ci := 9) (v := .ref q_1) (ty := .array .byte) (C := RX9) (T := TX9) (N := 69) hx hb hts hinX9 tyX9 tyX9_ok nmX9 hown hK hP hD hS 0 rfl rfl 0 (by decide) (hts (.fieldLink RX9 9 "CensusDeskModel" "tape" "[B") (List.mem_of_getElem? (i := 5) rfl)) (fun _ h9 => h9) rfl hin rfl (by decide +kernel) rfl rfl (by rw [hl0]; decide) dX9_init_10 (fun H locs hP hD hS => ?_)
  obtain ⟨fs_3, efs_3⟩ : ∃ z : List Value, z = List.set fs 0 (.ref q_1) := ⟨_, rfl⟩
  rw [← efs_3] at hP hD
  have lfs_3 : fs_3.length = 69 := by rw [efs_3, List.length_set]; exact hl0
  have gfs_3_1 : fs_3[1]? = some (.int 0) := by rw [efs_3, List.getElem?_set_ne (show (0 : Nat) ≠ 1 by decide)]; exact g1
  have gfs_3_4 : fs_3[4]? = some (.int 0) := by rw [efs_3, List.getElem?_set_ne (show (0 : Nat) ≠ 4 by decide)]; exact g4
  have gfs_3_5 : fs_3[5]? = some (.int 0) := by rw [efs_3, List.getElem?_set_ne (show (0 : Nat) ≠ 5 by decide)]; exact g5
  have gfs_3_8 : fs_3[8]? = some (.int 0) := by rw [efs_3, List.getElem?_set_ne (show (0 : Nat) ≠ 8 by decide)]; exact g8
  have gfs_3_9 : fs_3[9]? = some (.int 0) := by rw [efs_3, List.getElem?_set_ne (show (0 : Nat) ≠ 9 by decide)]; exact g9
  have gfs_3_10 : fs_3[10]? = some (.int 0) := by rw [efs_3, List.getElem?_set_ne (show (0 : Nat) ≠ 10 by decide)]; exact g10
  have gfs_3_12 : fs_3[12]? = some (.int 0) := by rw [efs_3, List.getElem?_set_ne (show (0 : Nat) ≠ 12 by decide)]; exact g12
  have gfs_3_26 : fs_3[26]? = some (.int 0) := by rw [efs_3, List.getElem?_set_ne (show (0 : Nat) ≠ 26 by decide)]; exact g26
  have gfs_3_40 : fs_3[40]? = some (.int 0) := by rw [efs_3, List.getElem?_set_ne (show (0 : Nat) ≠ 40 by decide)]; exact g40
  have gfs_3_58 : fs_3[58]? = some (.int 0) := by rw [efs_3, List.getElem?_set_ne (show (0 : Nat) ≠ 58 by decide)]; exact g58
  have gfs_3_65 : fs_3[65]? = some (.int 0) := by rw [efs_3, List.getElem?_set_ne (show (0 : Nat) ≠ 65 by decide)]; exact g65
  have gfs_3_66 : fs_3[66]? = some (.int 0) := by rw [efs_3, List.getElem?_set_ne (show (0 : Nat) ≠ 66 by decide)]; exact g66
  have gfs_3_67 : fs_3[67]? = some (.int 0) := by rw [efs_3, List.getElem?_set_ne (show (0 : Nat) ≠ 67 by decide)]; exact g67
  have gfs_3_68 : fs_3[68]? = some (.int 0) := by rw [efs_3, List.getElem?_set_ne (show (0 : Nat) ≠ 68 by decide)]; exact g68
  have gfs_3_0 : fs_3[0]? = some (.ref q_1) := by rw [efs_3]; exact List.getElem?_set_self (by rw [hl0]; decide)
  have hP : va_P (dC, dI) vwCl [(h0, .inr (9, fs_3)), (q_1, .inl (k_2, 4000, .inl ((fun _ => 0))))] H := hP
  have hD : va_D A [(h0, .inr (9, fs_3)), (q_1, .inl (k_2, 4000, .inl ((fun _ => 0))))] := hD
  refine lv_aload_n hx hb dX9_init_13 rfl (lv_at hl 0 rfl) ?_
  refine lv_bipush (v := 30) hx hb dX9_init_14 (by decide) ?_
  refine va_newa (atype := .int) (a0 := (30, .inl (fun _ => 0))) (ty := .int) (N' := 30) hx hb (hts (.arrayClass .int) (List.mem_of_getElem? (i := 6) rfl)) rfl hK hP hD hS hA (fun c9 => k_cellI c9 30) (by decide +kernel) (by decide +kernel) (by decide +kernel) (by decide +kernel) (by decide +kernel) dX9_init_16 (fun q_4 k_5 H hK hP hD hS => ?_)
  have hP : va_P (dC, dI) vwCl [(h0, .inr (9, fs_3)), (q_1, .inl (k_2, 4000, .inl ((fun _ => 0)))), (q_4, .inl (k_5, 30, .inl ((fun _ => 0))))] H := hP
  have hD : va_D A [(h0, .inr (9, fs_3)), (q_1, .inl (k_2, 4000, .inl ((fun _ => 0)))), (q_4, .inl (k_5, 30, .inl ((fun _ => 0))))] := hD
  have hK : va_K (dC, dI) vwCl [(k_2, .byte), (k_5, .int)] s := hK
  refine W.widen (k := 2) (n := 4030) (by decide +kernel) (by decide +kernel) ?_
  refine va_putF (D := (dC, dI)) (ci := 9) (v := .ref q_4) (ty := .array .int) (C := RX9) (T := TX9) (N := 69) hx hb hts hinX9 tyX9 tyX9_ok nmX9 hown hK hP hD hS 0 rfl rfl 2 (by decide) (hts (.fieldLink RX9 13 "CensusDeskModel" "ruleWay" "[I") (List.mem_of_getElem? (i := 7) rfl)) (fun _ h9 => h9) rfl hin rfl (by decide +kernel) rfl rfl (by rw [lfs_3]; decide) dX9_init_18 (fun H locs hP hD hS => ?_)
  obtain ⟨fs_6, efs_6⟩ : ∃ z : List Value, z = List.set fs_3 2 (.ref q_4) := ⟨_, rfl⟩
  rw [← efs_6] at hP hD
  have lfs_6 : fs_6.length = 69 := by rw [efs_6, List.length_set]; exact lfs_3
  have gfs_6_1 : fs_6[1]? = some (.int 0) := by rw [efs_6, List.getElem?_set_ne (show (2 : Nat) ≠ 1 by decide)]; exact gfs_3_1
  have gfs_6_4 : fs_6[4]? = some (.int 0) := by rw [efs_6, List.getElem?_set_ne (show (2 : Nat) ≠ 4 by decide)]; exact gfs_3_4
  have gfs_6_5 : fs_6[5]? = some (.int 0) := by rw [efs_6, List.getElem?_set_ne (show (2 : Nat) ≠ 5 by decide)]; exact gfs_3_5
  have gfs_6_8 : fs_6[8]? = some (.int 0) := by rw [efs_6, List.getElem?_set_ne (show (2 : Nat) ≠ 8 by decide)]; exact gfs_3_8
  have gfs_6_9 : fs_6[9]? = some (.int 0) := by rw [efs_6, List.getElem?_set_ne (show (2 : Nat) ≠ 9 by decide)]; exact gfs_3_9
  have gfs_6_10 : fs_6[10]? = some (.int 0) := by rw [efs_6, List.getElem?_set_ne (show (2 : Nat) ≠ 10 by decide)]; exact gfs_3_10
  have gfs_6_12 : fs_6[12]? = some (.int 0) := by rw [efs_6, List.getElem?_set_ne (show (2 : Nat) ≠ 12 by decide)]; exact gfs_3_12
  have gfs_6_26 : fs_6[26]? = some (.int 0) := by rw [efs_6, List.getElem?_set_ne (show (2 : Nat) ≠ 26 by decide)]; exact gfs_3_26
  have gfs_6_40 : fs_6[40]? = some (.int 0) := by rw [efs_6, List.getElem?_set_ne (show (2 : Nat) ≠ 40 by decide)]; exact gfs_3_40
  have gfs_6_58 : fs_6[58]? = some (.int 0) := by rw [efs_6, List.getElem?_set_ne (show (2 : Nat) ≠ 58 by decide)]; exact gfs_3_58
  have gfs_6_65 : fs_6[65]? = some (.int 0) := by rw [efs_6, List.getElem?_set_ne (show (2 : Nat) ≠ 65 by decide)]; exact gfs_3_65
  have gfs_6_66 : fs_6[66]? = some (.int 0) := by rw [efs_6, List.getElem?_set_ne (show (2 : Nat) ≠ 66 by decide)]; exact gfs_3_66
  have gfs_6_67 : fs_6[67]? = some (.int 0) := by rw [efs_6, List.getElem?_set_ne (show (2 : Nat) ≠ 67 by decide)]; exact gfs_3_67
  have gfs_6_68 : fs_6[68]? = some (.int 0) := by rw [efs_6, List.getElem?_set_ne (show (2 : Nat) ≠ 68 by decide)]; exact gfs_3_68
  have gfs_6_0 : fs_6[0]? = some (.ref q_1) := by rw [efs_6, List.getElem?_set_ne (show (2 : Nat) ≠ 0 by decide)]; exact gfs_3_0
  have gfs_6_2 : fs_6[2]? = some (.ref q_4) := by rw [efs_6]; exact List.getElem?_set_self (by rw [lfs_3]; decide)
  have hP : va_P (dC, dI) vwCl [(h0, .inr (9, fs_6)), (q_1, .inl (k_2, 4000, .inl ((fun _ => 0)))), (q_4, .inl (k_5, 30, .inl ((fun _ => 0))))] H := hP
  have hD : va_D A [(h0, .inr (9, fs_6)), (q_1, .inl (k_2, 4000, .inl ((fun _ => 0)))), (q_4, .inl (k_5, 30, .inl ((fun _ => 0))))] := hD
  refine lv_aload_n hx hb dX9_init_21 rfl (lv_at hl 0 rfl) ?_
  refine lv_bipush (v := 30) hx hb dX9_init_22 (by decide) ?_
  refine va_newa (atype := .int) (a0 := (30, .inl (fun _ => 0))) (ty := .int) (N' := 30) hx hb (hts (.arrayClass .int) (List.mem_of_getElem? (i := 6) rfl)) rfl hK hP hD hS hA (fun c9 => k_cellI c9 30) (by decide +kernel) (by decide +kernel) (by decide +kernel) (by decide +kernel) (by decide +kernel) dX9_init_24 (fun q_7 k_8 H hK hP hD hS => ?_)
  have hP : va_P (dC, dI) vwCl [(h0, .inr (9, fs_6)), (q_1, .inl (k_2, 4000, .inl ((fun _ => 0)))), (q_4, .inl (k_5, 30, .inl ((fun _ => 0)))), (q_7, .inl (k_8, 30, .inl ((fun _ => 0))))] H := hP
  have hD : va_D A [(h0, .inr (9, fs_6)), (q_1, .inl (k_2, 4000, .inl ((fun _ => 0)))), (q_4, .inl (k_5, 30, .inl ((fun _ => 0)))), (q_7, .inl (k_8, 30, .inl ((fun _ => 0))))] := hD
  have hK : va_K (dC, dI) vwCl [(k_2, .byte), (k_5, .int), (k_8, .int)] s := hK
  refine W.widen (k := 3) (n := 4060) (by decide +kernel) (by decide +kernel) ?_
  refine va_putF (D := (dC, dI)) (ci := 9) (v := .ref q_7) (ty := .array .int) (C := RX9) (T := TX9) (N := 69) hx hb hts hinX9 tyX9 tyX9_ok nmX9 hown hK hP hD hS 0 rfl rfl 3 (by decide) (hts (.fieldLink RX9 17 "CensusDeskModel" "ruleNumber" "[I") (List.mem_of_getElem? (i := 8) rfl)) (fun _ h9 => h9) rfl hin rfl (by decide +kernel) rfl rfl (by rw [lfs_6]; decide) dX9_init_26 (fun H locs hP hD hS => ?_)
  obtain ⟨fs_9, efs_9⟩ : ∃ z : List Value, z = List.set fs_6 3 (.ref q_7) := ⟨_, rfl⟩
  rw [← efs_9] at hP hD
  have lfs_9 : fs_9.length = 69 := by rw [efs_9, List.length_set]; exact lfs_6
  have gfs_9_1 : fs_9[1]? = some (.int 0) := by rw [efs_9, List.getElem?_set_ne (show (3 : Nat) ≠ 1 by decide)]; exact gfs_6_1
  have gfs_9_4 : fs_9[4]? = some (.int 0) := by rw [efs_9, List.getElem?_set_ne (show (3 : Nat) ≠ 4 by decide)]; exact gfs_6_4
  have gfs_9_5 : fs_9[5]? = some (.int 0) := by rw [efs_9, List.getElem?_set_ne (show (3 : Nat) ≠ 5 by decide)]; exact gfs_6_5
  have gfs_9_8 : fs_9[8]? = some (.int 0) := by rw [efs_9, List.getElem?_set_ne (show (3 : Nat) ≠ 8 by decide)]; exact gfs_6_8
  have gfs_9_9 : fs_9[9]? = some (.int 0) := by rw [efs_9, List.getElem?_set_ne (show (3 : Nat) ≠ 9 by decide)]; exact gfs_6_9
  have gfs_9_10 : fs_9[10]? = some (.int 0) := by rw [efs_9, List.getElem?_set_ne (show (3 : Nat) ≠ 10 by decide)]; exact gfs_6_10
  have gfs_9_12 : fs_9[12]? = some (.int 0) := by rw [efs_9, List.getElem?_set_ne (show (3 : Nat) ≠ 12 by decide)]; exact gfs_6_12
  have gfs_9_26 : fs_9[26]? = some (.int 0) := by rw [efs_9, List.getElem?_set_ne (show (3 : Nat) ≠ 26 by decide)]; exact gfs_6_26
  have gfs_9_40 : fs_9[40]? = some (.int 0) := by rw [efs_9, List.getElem?_set_ne (show (3 : Nat) ≠ 40 by decide)]; exact gfs_6_40
  have gfs_9_58 : fs_9[58]? = some (.int 0) := by rw [efs_9, List.getElem?_set_ne (show (3 : Nat) ≠ 58 by decide)]; exact gfs_6_58
  have gfs_9_65 : fs_9[65]? = some (.int 0) := by rw [efs_9, List.getElem?_set_ne (show (3 : Nat) ≠ 65 by decide)]; exact gfs_6_65
  have gfs_9_66 : fs_9[66]? = some (.int 0) := by rw [efs_9, List.getElem?_set_ne (show (3 : Nat) ≠ 66 by decide)]; exact gfs_6_66
  have gfs_9_67 : fs_9[67]? = some (.int 0) := by rw [efs_9, List.getElem?_set_ne (show (3 : Nat) ≠ 67 by decide)]; exact gfs_6_67
  have gfs_9_68 : fs_9[68]? = some (.int 0) := by rw [efs_9, List.getElem?_set_ne (show (3 : Nat) ≠ 68 by decide)]; exact gfs_6_68
  have gfs_9_0 : fs_9[0]? = some (.ref q_1) := by rw [efs_9, List.getElem?_set_ne (show (3 : Nat) ≠ 0 by decide)]; exact gfs_6_0
  have gfs_9_2 : fs_9[2]? = some (.ref q_4) := by rw [efs_9, List.getElem?_set_ne (show (3 : Nat) ≠ 2 by decide)]; exact gfs_6_2
  have gfs_9_3 : fs_9[3]? = some (.ref q_7) := by rw [efs_9]; exact List.getElem?_set_self (by rw [lfs_6]; decide)
  have hP : va_P (dC, dI) vwCl [(h0, .inr (9, fs_9)), (q_1, .inl (k_2, 4000, .inl ((fun _ => 0)))), (q_4, .inl (k_5, 30, .inl ((fun _ => 0)))), (q_7, .inl (k_8, 30, .inl ((fun _ => 0))))] H := hP
  have hD : va_D A [(h0, .inr (9, fs_9)), (q_1, .inl (k_2, 4000, .inl ((fun _ => 0)))), (q_4, .inl (k_5, 30, .inl ((fun _ => 0)))), (q_7, .inl (k_8, 30, .inl ((fun _ => 0))))] := hD
  refine lv_aload_n hx hb dX9_init_29 rfl (lv_at hl 0 rfl) ?_
  refine lv_sipush (v := 2100) hx hb dX9_init_30 (by decide) ?_
  refine va_newa (atype := .int) (a0 := (2100, .inl (fun _ => 0))) (ty := .int) (N' := 2100) hx hb (hts (.arrayClass .int) (List.mem_of_getElem? (i := 6) rfl)) rfl hK hP hD hS hA (fun c9 => k_cellI c9 2100) (by decide +kernel) (by decide +kernel) (by decide +kernel) (by decide +kernel) (by decide +kernel) dX9_init_33 (fun q_10 k_11 H hK hP hD hS => ?_)
  have hP := hP.sub (ws' := [(h0, .inr (9, fs_9)), (q_1, .inl (k_2, 4000, .inl ((fun _ => 0)))), (q_4, .inl (k_5, 30, .inl ((fun _ => 0)))), (q_7, .inl (k_8, 30, .inl ((fun _ => 0))))]) [0, 1, 2, 3] rfl
  have hD := hD.sub (ws' := [(h0, .inr (9, fs_9)), (q_1, .inl (k_2, 4000, .inl ((fun _ => 0)))), (q_4, .inl (k_5, 30, .inl ((fun _ => 0)))), (q_7, .inl (k_8, 30, .inl ((fun _ => 0))))]) [0, 1, 2, 3] (by decide) rfl
  have hK := hK.sub (tys' := [(k_2, .byte), (k_5, .int), (k_8, .int)]) [0, 1, 2] rfl
  refine W.widen (k := 4) (n := 6160) (by decide +kernel) (by decide +kernel) ?_
  refine va_putF (D := (dC, dI)) (ci := 9) (v := .ref q_10) (ty := .array .int) (C := RX9) (T := TX9) (N := 69) hx hb hts hinX9 tyX9 tyX9_ok nmX9 hown hK hP hD hS 0 rfl rfl 22 (by decide) (hts (.fieldLink RX9 20 "CensusDeskModel" "houseNumber" "[I") (List.mem_of_getElem? (i := 9) rfl)) (fun _ h9 => h9) rfl hin rfl (by decide +kernel) rfl rfl (by rw [lfs_9]; decide) dX9_init_35 (fun H locs hP hD hS => ?_)
  obtain ⟨fs_12, efs_12⟩ : ∃ z : List Value, z = List.set fs_9 22 (.ref q_10) := ⟨_, rfl⟩
  rw [← efs_12] at hP hD
  have lfs_12 : fs_12.length = 69 := by rw [efs_12, List.length_set]; exact lfs_9
  have gfs_12_1 : fs_12[1]? = some (.int 0) := by rw [efs_12, List.getElem?_set_ne (show (22 : Nat) ≠ 1 by decide)]; exact gfs_9_1
  have gfs_12_4 : fs_12[4]? = some (.int 0) := by rw [efs_12, List.getElem?_set_ne (show (22 : Nat) ≠ 4 by decide)]; exact gfs_9_4
  have gfs_12_5 : fs_12[5]? = some (.int 0) := by rw [efs_12, List.getElem?_set_ne (show (22 : Nat) ≠ 5 by decide)]; exact gfs_9_5
  have gfs_12_8 : fs_12[8]? = some (.int 0) := by rw [efs_12, List.getElem?_set_ne (show (22 : Nat) ≠ 8 by decide)]; exact gfs_9_8
  have gfs_12_9 : fs_12[9]? = some (.int 0) := by rw [efs_12, List.getElem?_set_ne (show (22 : Nat) ≠ 9 by decide)]; exact gfs_9_9
  have gfs_12_10 : fs_12[10]? = some (.int 0) := by rw [efs_12, List.getElem?_set_ne (show (22 : Nat) ≠ 10 by decide)]; exact gfs_9_10
  have gfs_12_12 : fs_12[12]? = some (.int 0) := by rw [efs_12, List.getElem?_set_ne (show (22 : Nat) ≠ 12 by decide)]; exact gfs_9_12
  have gfs_12_26 : fs_12[26]? = some (.int 0) := by rw [efs_12, List.getElem?_set_ne (show (22 : Nat) ≠ 26 by decide)]; exact gfs_9_26
  have gfs_12_40 : fs_12[40]? = some (.int 0) := by rw [efs_12, List.getElem?_set_ne (show (22 : Nat) ≠ 40 by decide)]; exact gfs_9_40
  have gfs_12_58 : fs_12[58]? = some (.int 0) := by rw [efs_12, List.getElem?_set_ne (show (22 : Nat) ≠ 58 by decide)]; exact gfs_9_58
  have gfs_12_65 : fs_12[65]? = some (.int 0) := by rw [efs_12, List.getElem?_set_ne (show (22 : Nat) ≠ 65 by decide)]; exact gfs_9_65
  have gfs_12_66 : fs_12[66]? = some (.int 0) := by rw [efs_12, List.getElem?_set_ne (show (22 : Nat) ≠ 66 by decide)]; exact gfs_9_66
  have gfs_12_67 : fs_12[67]? = some (.int 0) := by rw [efs_12, List.getElem?_set_ne (show (22 : Nat) ≠ 67 by decide)]; exact gfs_9_67
  have gfs_12_68 : fs_12[68]? = some (.int 0) := by rw [efs_12, List.getElem?_set_ne (show (22 : Nat) ≠ 68 by decide)]; exact gfs_9_68
  have gfs_12_0 : fs_12[0]? = some (.ref q_1) := by rw [efs_12, List.getElem?_set_ne (show (22 : Nat) ≠ 0 by decide)]; exact gfs_9_0
  have gfs_12_2 : fs_12[2]? = some (.ref q_4) := by rw [efs_12, List.getElem?_set_ne (show (22 : Nat) ≠ 2 by decide)]; exact gfs_9_2
  have gfs_12_3 : fs_12[3]? = some (.ref q_7) := by rw [efs_12, List.getElem?_set_ne (show (22 : Nat) ≠ 3 by decide)]; exact gfs_9_3
  have gfs_12_22 : fs_12[22]? = some (.ref q_10) := by rw [efs_12]; exact List.getElem?_set_self (by rw [lfs_9]; decide)
  have hP : va_P (dC, dI) vwCl [(h0, .inr (9, fs_12)), (q_1, .inl (k_2, 4000, .inl ((fun _ => 0)))), (q_4, .inl (k_5, 30, .inl ((fun _ => 0)))), (q_7, .inl (k_8, 30, .inl ((fun _ => 0))))] H := hP
  have hD : va_D A [(h0, .inr (9, fs_12)), (q_1, .inl (k_2, 4000, .inl ((fun _ => 0)))), (q_4, .inl (k_5, 30, .inl ((fun _ => 0)))), (q_7, .inl (k_8, 30, .inl ((fun _ => 0))))] := hD
  refine lv_aload_n hx hb dX9_init_38 rfl (lv_at hl 0 rfl) ?_
  refine lv_sipush (v := 2100) hx hb dX9_init_39 (by decide) ?_
  refine va_newa (atype := .int) (a0 := (2100, .inl (fun _ => 0))) (ty := .int) (N' := 2100) hx hb (hts (.arrayClass .int) (List.mem_of_getElem? (i := 6) rfl)) rfl hK hP hD hS hA (fun c9 => k_cellI c9 2100) (by decide +kernel) (by decide +kernel) (by decide +kernel) (by decide +kernel) (by decide +kernel) dX9_init_42 (fun q_13 k_14 H hK hP hD hS => ?_)
  have hP := hP.sub (ws' := [(h0, .inr (9, fs_12)), (q_1, .inl (k_2, 4000, .inl ((fun _ => 0)))), (q_4, .inl (k_5, 30, .inl ((fun _ => 0)))), (q_7, .inl (k_8, 30, .inl ((fun _ => 0))))]) [0, 1, 2, 3] rfl
  have hD := hD.sub (ws' := [(h0, .inr (9, fs_12)), (q_1, .inl (k_2, 4000, .inl ((fun _ => 0)))), (q_4, .inl (k_5, 30, .inl ((fun _ => 0)))), (q_7, .inl (k_8, 30, .inl ((fun _ => 0))))]) [0, 1, 2, 3] (by decide) rfl
  have hK := hK.sub (tys' := [(k_2, .byte), (k_5, .int), (k_8, .int)]) [0, 1, 2] rfl
  refine W.widen (k := 5) (n := 8260) (by decide +kernel) (by decide +kernel) ?_
  refine va_putF (D := (dC, dI)) (ci := 9) (v := .ref q_13) (ty := .array .int) (C := RX9) (T := TX9) (N := 69) hx hb hts hinX9 tyX9 tyX9_ok nmX9 hown hK hP hD hS 0 rfl rfl 23 (by decide) (hts (.fieldLink RX9 23 "CensusDeskModel" "houseTold" "[I") (List.mem_of_getElem? (i := 10) rfl)) (fun _ h9 => h9) rfl hin rfl (by decide +kernel) rfl rfl (by rw [lfs_12]; decide) dX9_init_44 (fun H locs hP hD hS => ?_)
  obtain ⟨fs_15, efs_15⟩ : ∃ z : List Value, z = List.set fs_12 23 (.ref q_13) := ⟨_, rfl⟩
  rw [← efs_15] at hP hD
  have lfs_15 : fs_15.length = 69 := by rw [efs_15, List.length_set]; exact lfs_12
  have gfs_15_1 : fs_15[1]? = some (.int 0) := by rw [efs_15, List.getElem?_set_ne (show (23 : Nat) ≠ 1 by decide)]; exact gfs_12_1
  have gfs_15_4 : fs_15[4]? = some (.int 0) := by rw [efs_15, List.getElem?_set_ne (show (23 : Nat) ≠ 4 by decide)]; exact gfs_12_4
  have gfs_15_5 : fs_15[5]? = some (.int 0) := by rw [efs_15, List.getElem?_set_ne (show (23 : Nat) ≠ 5 by decide)]; exact gfs_12_5
  have gfs_15_8 : fs_15[8]? = some (.int 0) := by rw [efs_15, List.getElem?_set_ne (show (23 : Nat) ≠ 8 by decide)]; exact gfs_12_8
  have gfs_15_9 : fs_15[9]? = some (.int 0) := by rw [efs_15, List.getElem?_set_ne (show (23 : Nat) ≠ 9 by decide)]; exact gfs_12_9
  have gfs_15_10 : fs_15[10]? = some (.int 0) := by rw [efs_15, List.getElem?_set_ne (show (23 : Nat) ≠ 10 by decide)]; exact gfs_12_10
  have gfs_15_12 : fs_15[12]? = some (.int 0) := by rw [efs_15, List.getElem?_set_ne (show (23 : Nat) ≠ 12 by decide)]; exact gfs_12_12
  have gfs_15_26 : fs_15[26]? = some (.int 0) := by rw [efs_15, List.getElem?_set_ne (show (23 : Nat) ≠ 26 by decide)]; exact gfs_12_26
  have gfs_15_40 : fs_15[40]? = some (.int 0) := by rw [efs_15, List.getElem?_set_ne (show (23 : Nat) ≠ 40 by decide)]; exact gfs_12_40
  have gfs_15_58 : fs_15[58]? = some (.int 0) := by rw [efs_15, List.getElem?_set_ne (show (23 : Nat) ≠ 58 by decide)]; exact gfs_12_58
  have gfs_15_65 : fs_15[65]? = some (.int 0) := by rw [efs_15, List.getElem?_set_ne (show (23 : Nat) ≠ 65 by decide)]; exact gfs_12_65
  have gfs_15_66 : fs_15[66]? = some (.int 0) := by rw [efs_15, List.getElem?_set_ne (show (23 : Nat) ≠ 66 by decide)]; exact gfs_12_66
  have gfs_15_67 : fs_15[67]? = some (.int 0) := by rw [efs_15, List.getElem?_set_ne (show (23 : Nat) ≠ 67 by decide)]; exact gfs_12_67
  have gfs_15_68 : fs_15[68]? = some (.int 0) := by rw [efs_15, List.getElem?_set_ne (show (23 : Nat) ≠ 68 by decide)]; exact gfs_12_68
  have gfs_15_0 : fs_15[0]? = some (.ref q_1) := by rw [efs_15, List.getElem?_set_ne (show (23 : Nat) ≠ 0 by decide)]; exact gfs_12_0
  have gfs_15_2 : fs_15[2]? = some (.ref q_4) := by rw [efs_15, List.getElem?_set_ne (show (23 : Nat) ≠ 2 by decide)]; exact gfs_12_2
  have gfs_15_3 : fs_15[3]? = some (.ref q_7) := by rw [efs_15, List.getElem?_set_ne (show (23 : Nat) ≠ 3 by decide)]; exact gfs_12_3
  have gfs_15_23 : fs_15[23]? = some (.ref q_13) := by rw [efs_15]; exact List.getElem?_set_self (by rw [lfs_12]; decide)
  have hP : va_P (dC, dI) vwCl [(h0, .inr (9, fs_15)), (q_1, .inl (k_2, 4000, .inl ((fun _ => 0)))), (q_4, .inl (k_5, 30, .inl ((fun _ => 0)))), (q_7, .inl (k_8, 30, .inl ((fun _ => 0))))] H := hP
  have hD : va_D A [(h0, .inr (9, fs_15)), (q_1, .inl (k_2, 4000, .inl ((fun _ => 0)))), (q_4, .inl (k_5, 30, .inl ((fun _ => 0)))), (q_7, .inl (k_8, 30, .inl ((fun _ => 0))))] := hD
  refine lv_aload_n hx hb dX9_init_47 rfl (lv_at hl 0 rfl) ?_
  refine lv_sipush (v := 2100) hx hb dX9_init_48 (by decide) ?_
  refine va_newa (atype := .int) (a0 := (2100, .inl (fun _ => 0))) (ty := .int) (N' := 2100) hx hb (hts (.arrayClass .int) (List.mem_of_getElem? (i := 6) rfl)) rfl hK hP hD hS hA (fun c9 => k_cellI c9 2100) (by decide +kernel) (by decide +kernel) (by decide +kernel) (by decide +kernel) (by decide +kernel) dX9_init_51 (fun q_16 k_17 H hK hP hD hS => ?_)
  have hP := hP.sub (ws' := [(h0, .inr (9, fs_15)), (q_1, .inl (k_2, 4000, .inl ((fun _ => 0)))), (q_4, .inl (k_5, 30, .inl ((fun _ => 0)))), (q_7, .inl (k_8, 30, .inl ((fun _ => 0))))]) [0, 1, 2, 3] rfl
  have hD := hD.sub (ws' := [(h0, .inr (9, fs_15)), (q_1, .inl (k_2, 4000, .inl ((fun _ => 0)))), (q_4, .inl (k_5, 30, .inl ((fun _ => 0)))), (q_7, .inl (k_8, 30, .inl ((fun _ => 0))))]) [0, 1, 2, 3] (by decide) rfl
  have hK := hK.sub (tys' := [(k_2, .byte), (k_5, .int), (k_8, .int)]) [0, 1, 2] rfl
  refine W.widen (k := 6) (n := 10360) (by decide +kernel) (by decide +kernel) ?_
  refine va_putF (D := (dC, dI)) (ci := 9) (v := .ref q_16) (ty := .array .int) (C := RX9) (T := TX9) (N := 69) hx hb hts hinX9 tyX9 tyX9_ok nmX9 hown hK hP hD hS 0 rfl rfl 24 (by decide) (hts (.fieldLink RX9 26 "CensusDeskModel" "houseFirst" "[I") (List.mem_of_getElem? (i := 11) rfl)) (fun _ h9 => h9) rfl hin rfl (by decide +kernel) rfl rfl (by rw [lfs_15]; decide) dX9_init_53 (fun H locs hP hD hS => ?_)
  obtain ⟨fs_18, efs_18⟩ : ∃ z : List Value, z = List.set fs_15 24 (.ref q_16) := ⟨_, rfl⟩
  rw [← efs_18] at hP hD
  have lfs_18 : fs_18.length = 69 := by rw [efs_18, List.length_set]; exact lfs_15
  have gfs_18_1 : fs_18[1]? = some (.int 0) := by rw [efs_18, List.getElem?_set_ne (show (24 : Nat) ≠ 1 by decide)]; exact gfs_15_1
  have gfs_18_4 : fs_18[4]? = some (.int 0) := by rw [efs_18, List.getElem?_set_ne (show (24 : Nat) ≠ 4 by decide)]; exact gfs_15_4
  have gfs_18_5 : fs_18[5]? = some (.int 0) := by rw [efs_18, List.getElem?_set_ne (show (24 : Nat) ≠ 5 by decide)]; exact gfs_15_5
  have gfs_18_8 : fs_18[8]? = some (.int 0) := by rw [efs_18, List.getElem?_set_ne (show (24 : Nat) ≠ 8 by decide)]; exact gfs_15_8
  have gfs_18_9 : fs_18[9]? = some (.int 0) := by rw [efs_18, List.getElem?_set_ne (show (24 : Nat) ≠ 9 by decide)]; exact gfs_15_9
  have gfs_18_10 : fs_18[10]? = some (.int 0) := by rw [efs_18, List.getElem?_set_ne (show (24 : Nat) ≠ 10 by decide)]; exact gfs_15_10
  have gfs_18_12 : fs_18[12]? = some (.int 0) := by rw [efs_18, List.getElem?_set_ne (show (24 : Nat) ≠ 12 by decide)]; exact gfs_15_12
  have gfs_18_26 : fs_18[26]? = some (.int 0) := by rw [efs_18, List.getElem?_set_ne (show (24 : Nat) ≠ 26 by decide)]; exact gfs_15_26
  have gfs_18_40 : fs_18[40]? = some (.int 0) := by rw [efs_18, List.getElem?_set_ne (show (24 : Nat) ≠ 40 by decide)]; exact gfs_15_40
  have gfs_18_58 : fs_18[58]? = some (.int 0) := by rw [efs_18, List.getElem?_set_ne (show (24 : Nat) ≠ 58 by decide)]; exact gfs_15_58
  have gfs_18_65 : fs_18[65]? = some (.int 0) := by rw [efs_18, List.getElem?_set_ne (show (24 : Nat) ≠ 65 by decide)]; exact gfs_15_65
  have gfs_18_66 : fs_18[66]? = some (.int 0) := by rw [efs_18, List.getElem?_set_ne (show (24 : Nat) ≠ 66 by decide)]; exact gfs_15_66
  have gfs_18_67 : fs_18[67]? = some (.int 0) := by rw [efs_18, List.getElem?_set_ne (show (24 : Nat) ≠ 67 by decide)]; exact gfs_15_67
  have gfs_18_68 : fs_18[68]? = some (.int 0) := by rw [efs_18, List.getElem?_set_ne (show (24 : Nat) ≠ 68 by decide)]; exact gfs_15_68
  have gfs_18_0 : fs_18[0]? = some (.ref q_1) := by rw [efs_18, List.getElem?_set_ne (show (24 : Nat) ≠ 0 by decide)]; exact gfs_15_0
  have gfs_18_2 : fs_18[2]? = some (.ref q_4) := by rw [efs_18, List.getElem?_set_ne (show (24 : Nat) ≠ 2 by decide)]; exact gfs_15_2
  have gfs_18_3 : fs_18[3]? = some (.ref q_7) := by rw [efs_18, List.getElem?_set_ne (show (24 : Nat) ≠ 3 by decide)]; exact gfs_15_3
  have gfs_18_24 : fs_18[24]? = some (.ref q_16) := by rw [efs_18]; exact List.getElem?_set_self (by rw [lfs_15]; decide)
  have hP : va_P (dC, dI) vwCl [(h0, .inr (9, fs_18)), (q_1, .inl (k_2, 4000, .inl ((fun _ => 0)))), (q_4, .inl (k_5, 30, .inl ((fun _ => 0)))), (q_7, .inl (k_8, 30, .inl ((fun _ => 0))))] H := hP
  have hD : va_D A [(h0, .inr (9, fs_18)), (q_1, .inl (k_2, 4000, .inl ((fun _ => 0)))), (q_4, .inl (k_5, 30, .inl ((fun _ => 0)))), (q_7, .inl (k_8, 30, .inl ((fun _ => 0))))] := hD
  refine lv_aload_n hx hb dX9_init_56 rfl (lv_at hl 0 rfl) ?_
  refine lv_sipush (v := 2100) hx hb dX9_init_57 (by decide) ?_
  refine va_newa (atype := .int) (a0 := (2100, .inl (fun _ => 0))) (ty := .int) (N' := 2100) hx hb (hts (.arrayClass .int) (List.mem_of_getElem? (i := 6) rfl)) rfl hK hP hD hS hA (fun c9 => k_cellI c9 2100) (by decide +kernel) (by decide +kernel) (by decide +kernel) (by decide +kernel) (by decide +kernel) dX9_init_60 (fun q_19 k_20 H hK hP hD hS => ?_)
  have hP := hP.sub (ws' := [(h0, .inr (9, fs_18)), (q_1, .inl (k_2, 4000, .inl ((fun _ => 0)))), (q_4, .inl (k_5, 30, .inl ((fun _ => 0)))), (q_7, .inl (k_8, 30, .inl ((fun _ => 0))))]) [0, 1, 2, 3] rfl
  have hD := hD.sub (ws' := [(h0, .inr (9, fs_18)), (q_1, .inl (k_2, 4000, .inl ((fun _ => 0)))), (q_4, .inl (k_5, 30, .inl ((fun _ => 0)))), (q_7, .inl (k_8, 30, .inl ((fun _ => 0))))]) [0, 1, 2, 3] (by decide) rfl
  have hK := hK.sub (tys' := [(k_2, .byte), (k_5, .int), (k_8, .int)]) [0, 1, 2] rfl
  refine W.widen (k := 7) (n := 12460) (by decide +kernel) (by decide +kernel) ?_
  refine va_putF (D := (dC, dI)) (ci := 9) (v := .ref q_19) (ty := .array .int) (C := RX9) (T := TX9) (N := 69) hx hb hts hinX9 tyX9 tyX9_ok nmX9 hown hK hP hD hS 0 rfl rfl 25 (by decide) (hts (.fieldLink RX9 29 "CensusDeskModel" "houseMany" "[I") (List.mem_of_getElem? (i := 12) rfl)) (fun _ h9 => h9) rfl hin rfl (by decide +kernel) rfl rfl (by rw [lfs_18]; decide) dX9_init_62 (fun H locs hP hD hS => ?_)
  obtain ⟨fs_21, efs_21⟩ : ∃ z : List Value, z = List.set fs_18 25 (.ref q_19) := ⟨_, rfl⟩
  rw [← efs_21] at hP hD
  have lfs_21 : fs_21.length = 69 := by rw [efs_21, List.length_set]; exact lfs_18
  have gfs_21_1 : fs_21[1]? = some (.int 0) := by rw [efs_21, List.getElem?_set_ne (show (25 : Nat) ≠ 1 by decide)]; exact gfs_18_1
  have gfs_21_4 : fs_21[4]? = some (.int 0) := by rw [efs_21, List.getElem?_set_ne (show (25 : Nat) ≠ 4 by decide)]; exact gfs_18_4
  have gfs_21_5 : fs_21[5]? = some (.int 0) := by rw [efs_21, List.getElem?_set_ne (show (25 : Nat) ≠ 5 by decide)]; exact gfs_18_5
  have gfs_21_8 : fs_21[8]? = some (.int 0) := by rw [efs_21, List.getElem?_set_ne (show (25 : Nat) ≠ 8 by decide)]; exact gfs_18_8
  have gfs_21_9 : fs_21[9]? = some (.int 0) := by rw [efs_21, List.getElem?_set_ne (show (25 : Nat) ≠ 9 by decide)]; exact gfs_18_9
  have gfs_21_10 : fs_21[10]? = some (.int 0) := by rw [efs_21, List.getElem?_set_ne (show (25 : Nat) ≠ 10 by decide)]; exact gfs_18_10
  have gfs_21_12 : fs_21[12]? = some (.int 0) := by rw [efs_21, List.getElem?_set_ne (show (25 : Nat) ≠ 12 by decide)]; exact gfs_18_12
  have gfs_21_26 : fs_21[26]? = some (.int 0) := by rw [efs_21, List.getElem?_set_ne (show (25 : Nat) ≠ 26 by decide)]; exact gfs_18_26
  have gfs_21_40 : fs_21[40]? = some (.int 0) := by rw [efs_21, List.getElem?_set_ne (show (25 : Nat) ≠ 40 by decide)]; exact gfs_18_40
  have gfs_21_58 : fs_21[58]? = some (.int 0) := by rw [efs_21, List.getElem?_set_ne (show (25 : Nat) ≠ 58 by decide)]; exact gfs_18_58
  have gfs_21_65 : fs_21[65]? = some (.int 0) := by rw [efs_21, List.getElem?_set_ne (show (25 : Nat) ≠ 65 by decide)]; exact gfs_18_65
  have gfs_21_66 : fs_21[66]? = some (.int 0) := by rw [efs_21, List.getElem?_set_ne (show (25 : Nat) ≠ 66 by decide)]; exact gfs_18_66
  have gfs_21_67 : fs_21[67]? = some (.int 0) := by rw [efs_21, List.getElem?_set_ne (show (25 : Nat) ≠ 67 by decide)]; exact gfs_18_67
  have gfs_21_68 : fs_21[68]? = some (.int 0) := by rw [efs_21, List.getElem?_set_ne (show (25 : Nat) ≠ 68 by decide)]; exact gfs_18_68
  have gfs_21_0 : fs_21[0]? = some (.ref q_1) := by rw [efs_21, List.getElem?_set_ne (show (25 : Nat) ≠ 0 by decide)]; exact gfs_18_0
  have gfs_21_2 : fs_21[2]? = some (.ref q_4) := by rw [efs_21, List.getElem?_set_ne (show (25 : Nat) ≠ 2 by decide)]; exact gfs_18_2
  have gfs_21_3 : fs_21[3]? = some (.ref q_7) := by rw [efs_21, List.getElem?_set_ne (show (25 : Nat) ≠ 3 by decide)]; exact gfs_18_3
  have gfs_21_25 : fs_21[25]? = some (.ref q_19) := by rw [efs_21]; exact List.getElem?_set_self (by rw [lfs_18]; decide)
  have hP : va_P (dC, dI) vwCl [(h0, .inr (9, fs_21)), (q_1, .inl (k_2, 4000, .inl ((fun _ => 0)))), (q_4, .inl (k_5, 30, .inl ((fun _ => 0)))), (q_7, .inl (k_8, 30, .inl ((fun _ => 0))))] H := hP
  have hD : va_D A [(h0, .inr (9, fs_21)), (q_1, .inl (k_2, 4000, .inl ((fun _ => 0)))), (q_4, .inl (k_5, 30, .inl ((fun _ => 0)))), (q_7, .inl (k_8, 30, .inl ((fun _ => 0))))] := hD
  refine lv_aload_n hx hb dX9_init_65 rfl (lv_at hl 0 rfl) ?_
  refine lv_sipush (v := 2100) hx hb dX9_init_66 (by decide) ?_
  refine va_newa (atype := .int) (a0 := (2100, .inl (fun _ => 0))) (ty := .int) (N' := 2100) hx hb (hts (.arrayClass .int) (List.mem_of_getElem? (i := 6) rfl)) rfl hK hP hD hS hA (fun c9 => k_cellI c9 2100) (by decide +kernel) (by decide +kernel) (by decide +kernel) (by decide +kernel) (by decide +kernel) dX9_init_69 (fun q_22 k_23 H hK hP hD hS => ?_)
  have hP := hP.sub (ws' := [(h0, .inr (9, fs_21)), (q_1, .inl (k_2, 4000, .inl ((fun _ => 0)))), (q_4, .inl (k_5, 30, .inl ((fun _ => 0)))), (q_7, .inl (k_8, 30, .inl ((fun _ => 0))))]) [0, 1, 2, 3] rfl
  have hD := hD.sub (ws' := [(h0, .inr (9, fs_21)), (q_1, .inl (k_2, 4000, .inl ((fun _ => 0)))), (q_4, .inl (k_5, 30, .inl ((fun _ => 0)))), (q_7, .inl (k_8, 30, .inl ((fun _ => 0))))]) [0, 1, 2, 3] (by decide) rfl
  have hK := hK.sub (tys' := [(k_2, .byte), (k_5, .int), (k_8, .int)]) [0, 1, 2] rfl
  refine W.widen (k := 8) (n := 14560) (by decide +kernel) (by decide +kernel) ?_
  refine va_putF (D := (dC, dI)) (ci := 9) (v := .ref q_22) (ty := .array .int) (C := RX9) (T := TX9) (N := 69) hx hb hts hinX9 tyX9 tyX9_ok nmX9 hown hK hP hD hS 0 rfl rfl 27 (by decide) (hts (.fieldLink RX9 32 "CensusDeskModel" "sex" "[I") (List.mem_of_getElem? (i := 13) rfl)) (fun _ h9 => h9) rfl hin rfl (by decide +kernel) rfl rfl (by rw [lfs_21]; decide) dX9_init_71 (fun H locs hP hD hS => ?_)
  obtain ⟨fs_24, efs_24⟩ : ∃ z : List Value, z = List.set fs_21 27 (.ref q_22) := ⟨_, rfl⟩
  rw [← efs_24] at hP hD
  have lfs_24 : fs_24.length = 69 := by rw [efs_24, List.length_set]; exact lfs_21
  have gfs_24_1 : fs_24[1]? = some (.int 0) := by rw [efs_24, List.getElem?_set_ne (show (27 : Nat) ≠ 1 by decide)]; exact gfs_21_1
  have gfs_24_4 : fs_24[4]? = some (.int 0) := by rw [efs_24, List.getElem?_set_ne (show (27 : Nat) ≠ 4 by decide)]; exact gfs_21_4
  have gfs_24_5 : fs_24[5]? = some (.int 0) := by rw [efs_24, List.getElem?_set_ne (show (27 : Nat) ≠ 5 by decide)]; exact gfs_21_5
  have gfs_24_8 : fs_24[8]? = some (.int 0) := by rw [efs_24, List.getElem?_set_ne (show (27 : Nat) ≠ 8 by decide)]; exact gfs_21_8
  have gfs_24_9 : fs_24[9]? = some (.int 0) := by rw [efs_24, List.getElem?_set_ne (show (27 : Nat) ≠ 9 by decide)]; exact gfs_21_9
  have gfs_24_10 : fs_24[10]? = some (.int 0) := by rw [efs_24, List.getElem?_set_ne (show (27 : Nat) ≠ 10 by decide)]; exact gfs_21_10
  have gfs_24_12 : fs_24[12]? = some (.int 0) := by rw [efs_24, List.getElem?_set_ne (show (27 : Nat) ≠ 12 by decide)]; exact gfs_21_12
  have gfs_24_26 : fs_24[26]? = some (.int 0) := by rw [efs_24, List.getElem?_set_ne (show (27 : Nat) ≠ 26 by decide)]; exact gfs_21_26
  have gfs_24_40 : fs_24[40]? = some (.int 0) := by rw [efs_24, List.getElem?_set_ne (show (27 : Nat) ≠ 40 by decide)]; exact gfs_21_40
  have gfs_24_58 : fs_24[58]? = some (.int 0) := by rw [efs_24, List.getElem?_set_ne (show (27 : Nat) ≠ 58 by decide)]; exact gfs_21_58
  have gfs_24_65 : fs_24[65]? = some (.int 0) := by rw [efs_24, List.getElem?_set_ne (show (27 : Nat) ≠ 65 by decide)]; exact gfs_21_65
  have gfs_24_66 : fs_24[66]? = some (.int 0) := by rw [efs_24, List.getElem?_set_ne (show (27 : Nat) ≠ 66 by decide)]; exact gfs_21_66
  have gfs_24_67 : fs_24[67]? = some (.int 0) := by rw [efs_24, List.getElem?_set_ne (show (27 : Nat) ≠ 67 by decide)]; exact gfs_21_67
  have gfs_24_68 : fs_24[68]? = some (.int 0) := by rw [efs_24, List.getElem?_set_ne (show (27 : Nat) ≠ 68 by decide)]; exact gfs_21_68
  have gfs_24_0 : fs_24[0]? = some (.ref q_1) := by rw [efs_24, List.getElem?_set_ne (show (27 : Nat) ≠ 0 by decide)]; exact gfs_21_0
  have gfs_24_2 : fs_24[2]? = some (.ref q_4) := by rw [efs_24, List.getElem?_set_ne (show (27 : Nat) ≠ 2 by decide)]; exact gfs_21_2
  have gfs_24_3 : fs_24[3]? = some (.ref q_7) := by rw [efs_24, List.getElem?_set_ne (show (27 : Nat) ≠ 3 by decide)]; exact gfs_21_3
  have gfs_24_27 : fs_24[27]? = some (.ref q_22) := by rw [efs_24]; exact List.getElem?_set_self (by rw [lfs_21]; decide)
  have hP : va_P (dC, dI) vwCl [(h0, .inr (9, fs_24)), (q_1, .inl (k_2, 4000, .inl ((fun _ => 0)))), (q_4, .inl (k_5, 30, .inl ((fun _ => 0)))), (q_7, .inl (k_8, 30, .inl ((fun _ => 0))))] H := hP
  have hD : va_D A [(h0, .inr (9, fs_24)), (q_1, .inl (k_2, 4000, .inl ((fun _ => 0)))), (q_4, .inl (k_5, 30, .inl ((fun _ => 0)))), (q_7, .inl (k_8, 30, .inl ((fun _ => 0))))] := hD
  refine lv_aload_n hx hb dX9_init_74 rfl (lv_at hl 0 rfl) ?_
  refine lv_sipush (v := 2100) hx hb dX9_init_75 (by decide) ?_
  refine va_newa (atype := .int) (a0 := (2100, .inl (fun _ => 0))) (ty := .int) (N' := 2100) hx hb (hts (.arrayClass .int) (List.mem_of_getElem? (i := 6) rfl)) rfl hK hP hD hS hA (fun c9 => k_cellI c9 2100) (by decide +kernel) (by decide +kernel) (by decide +kernel) (by decide +kernel) (by decide +kernel) dX9_init_78 (fun q_25 k_26 H hK hP hD hS => ?_)
  have hP := hP.sub (ws' := [(h0, .inr (9, fs_24)), (q_1, .inl (k_2, 4000, .inl ((fun _ => 0)))), (q_4, .inl (k_5, 30, .inl ((fun _ => 0)))), (q_7, .inl (k_8, 30, .inl ((fun _ => 0))))]) [0, 1, 2, 3] rfl
  have hD := hD.sub (ws' := [(h0, .inr (9, fs_24)), (q_1, .inl (k_2, 4000, .inl ((fun _ => 0)))), (q_4, .inl (k_5, 30, .inl ((fun _ => 0)))), (q_7, .inl (k_8, 30, .inl ((fun _ => 0))))]) [0, 1, 2, 3] (by decide) rfl
  have hK := hK.sub (tys' := [(k_2, .byte), (k_5, .int), (k_8, .int)]) [0, 1, 2] rfl
  refine W.widen (k := 9) (n := 16660) (by decide +kernel) (by decide +kernel) ?_
  refine va_putF (D := (dC, dI)) (ci := 9) (v := .ref q_25) (ty := .array .int) (C := RX9) (T := TX9) (N := 69) hx hb hts hinX9 tyX9 tyX9_ok nmX9 hown hK hP hD hS 0 rfl rfl 28 (by decide) (hts (.fieldLink RX9 35 "CensusDeskModel" "age" "[I") (List.mem_of_getElem? (i := 14) rfl)) (fun _ h9 => h9) rfl hin rfl (by decide +kernel) rfl rfl (by rw [lfs_24]; decide) dX9_init_80 (fun H locs hP hD hS => ?_)
  obtain ⟨fs_27, efs_27⟩ : ∃ z : List Value, z = List.set fs_24 28 (.ref q_25) := ⟨_, rfl⟩
  rw [← efs_27] at hP hD
  have lfs_27 : fs_27.length = 69 := by rw [efs_27, List.length_set]; exact lfs_24
  have gfs_27_1 : fs_27[1]? = some (.int 0) := by rw [efs_27, List.getElem?_set_ne (show (28 : Nat) ≠ 1 by decide)]; exact gfs_24_1
  have gfs_27_4 : fs_27[4]? = some (.int 0) := by rw [efs_27, List.getElem?_set_ne (show (28 : Nat) ≠ 4 by decide)]; exact gfs_24_4
  have gfs_27_5 : fs_27[5]? = some (.int 0) := by rw [efs_27, List.getElem?_set_ne (show (28 : Nat) ≠ 5 by decide)]; exact gfs_24_5
  have gfs_27_8 : fs_27[8]? = some (.int 0) := by rw [efs_27, List.getElem?_set_ne (show (28 : Nat) ≠ 8 by decide)]; exact gfs_24_8
  have gfs_27_9 : fs_27[9]? = some (.int 0) := by rw [efs_27, List.getElem?_set_ne (show (28 : Nat) ≠ 9 by decide)]; exact gfs_24_9
  have gfs_27_10 : fs_27[10]? = some (.int 0) := by rw [efs_27, List.getElem?_set_ne (show (28 : Nat) ≠ 10 by decide)]; exact gfs_24_10
  have gfs_27_12 : fs_27[12]? = some (.int 0) := by rw [efs_27, List.getElem?_set_ne (show (28 : Nat) ≠ 12 by decide)]; exact gfs_24_12
  have gfs_27_26 : fs_27[26]? = some (.int 0) := by rw [efs_27, List.getElem?_set_ne (show (28 : Nat) ≠ 26 by decide)]; exact gfs_24_26
  have gfs_27_40 : fs_27[40]? = some (.int 0) := by rw [efs_27, List.getElem?_set_ne (show (28 : Nat) ≠ 40 by decide)]; exact gfs_24_40
  have gfs_27_58 : fs_27[58]? = some (.int 0) := by rw [efs_27, List.getElem?_set_ne (show (28 : Nat) ≠ 58 by decide)]; exact gfs_24_58
  have gfs_27_65 : fs_27[65]? = some (.int 0) := by rw [efs_27, List.getElem?_set_ne (show (28 : Nat) ≠ 65 by decide)]; exact gfs_24_65
  have gfs_27_66 : fs_27[66]? = some (.int 0) := by rw [efs_27, List.getElem?_set_ne (show (28 : Nat) ≠ 66 by decide)]; exact gfs_24_66
  have gfs_27_67 : fs_27[67]? = some (.int 0) := by rw [efs_27, List.getElem?_set_ne (show (28 : Nat) ≠ 67 by decide)]; exact gfs_24_67
  have gfs_27_68 : fs_27[68]? = some (.int 0) := by rw [efs_27, List.getElem?_set_ne (show (28 : Nat) ≠ 68 by decide)]; exact gfs_24_68
  have gfs_27_0 : fs_27[0]? = some (.ref q_1) := by rw [efs_27, List.getElem?_set_ne (show (28 : Nat) ≠ 0 by decide)]; exact gfs_24_0
  have gfs_27_2 : fs_27[2]? = some (.ref q_4) := by rw [efs_27, List.getElem?_set_ne (show (28 : Nat) ≠ 2 by decide)]; exact gfs_24_2
  have gfs_27_3 : fs_27[3]? = some (.ref q_7) := by rw [efs_27, List.getElem?_set_ne (show (28 : Nat) ≠ 3 by decide)]; exact gfs_24_3
  have gfs_27_28 : fs_27[28]? = some (.ref q_25) := by rw [efs_27]; exact List.getElem?_set_self (by rw [lfs_24]; decide)
  have hP : va_P (dC, dI) vwCl [(h0, .inr (9, fs_27)), (q_1, .inl (k_2, 4000, .inl ((fun _ => 0)))), (q_4, .inl (k_5, 30, .inl ((fun _ => 0)))), (q_7, .inl (k_8, 30, .inl ((fun _ => 0))))] H := hP
  have hD : va_D A [(h0, .inr (9, fs_27)), (q_1, .inl (k_2, 4000, .inl ((fun _ => 0)))), (q_4, .inl (k_5, 30, .inl ((fun _ => 0)))), (q_7, .inl (k_8, 30, .inl ((fun _ => 0))))] := hD
  refine lv_aload_n hx hb dX9_init_83 rfl (lv_at hl 0 rfl) ?_
  refine lv_sipush (v := 2100) hx hb dX9_init_84 (by decide) ?_
  refine va_newa (atype := .int) (a0 := (2100, .inl (fun _ => 0))) (ty := .int) (N' := 2100) hx hb (hts (.arrayClass .int) (List.mem_of_getElem? (i := 6) rfl)) rfl hK hP hD hS hA (fun c9 => k_cellI c9 2100) (by decide +kernel) (by decide +kernel) (by decide +kernel) (by decide +kernel) (by decide +kernel) dX9_init_87 (fun q_28 k_29 H hK hP hD hS => ?_)
  have hP := hP.sub (ws' := [(h0, .inr (9, fs_27)), (q_1, .inl (k_2, 4000, .inl ((fun _ => 0)))), (q_4, .inl (k_5, 30, .inl ((fun _ => 0)))), (q_7, .inl (k_8, 30, .inl ((fun _ => 0))))]) [0, 1, 2, 3] rfl
  have hD := hD.sub (ws' := [(h0, .inr (9, fs_27)), (q_1, .inl (k_2, 4000, .inl ((fun _ => 0)))), (q_4, .inl (k_5, 30, .inl ((fun _ => 0)))), (q_7, .inl (k_8, 30, .inl ((fun _ => 0))))]) [0, 1, 2, 3] (by decide) rfl
  have hK := hK.sub (tys' := [(k_2, .byte), (k_5, .int), (k_8, .int)]) [0, 1, 2] rfl
  refine W.widen (k := 10) (n := 18760) (by decide +kernel) (by decide +kernel) ?_
  refine va_putF (D := (dC, dI)) (ci := 9) (v := .ref q_28) (ty := .array .int) (C := RX9) (T := TX9) (N := 69) hx hb hts hinX9 tyX9 tyX9_ok nmX9 hown hK hP hD hS 0 rfl rfl 29 (by decide) (hts (.fieldLink RX9 38 "CensusDeskModel" "trade" "[I") (List.mem_of_getElem? (i := 15) rfl)) (fun _ h9 => h9) rfl hin rfl (by decide +kernel) rfl rfl (by rw [lfs_27]; decide) dX9_init_89 (fun H locs hP hD hS => ?_)
  obtain ⟨fs_30, efs_30⟩ : ∃ z : List Value, z = List.set fs_27 29 (.ref q_28) := ⟨_, rfl⟩
  rw [← efs_30] at hP hD
  have lfs_30 : fs_30.length = 69 := by rw [efs_30, List.length_set]; exact lfs_27
  have gfs_30_1 : fs_30[1]? = some (.int 0) := by rw [efs_30, List.getElem?_set_ne (show (29 : Nat) ≠ 1 by decide)]; exact gfs_27_1
  have gfs_30_4 : fs_30[4]? = some (.int 0) := by rw [efs_30, List.getElem?_set_ne (show (29 : Nat) ≠ 4 by decide)]; exact gfs_27_4
  have gfs_30_5 : fs_30[5]? = some (.int 0) := by rw [efs_30, List.getElem?_set_ne (show (29 : Nat) ≠ 5 by decide)]; exact gfs_27_5
  have gfs_30_8 : fs_30[8]? = some (.int 0) := by rw [efs_30, List.getElem?_set_ne (show (29 : Nat) ≠ 8 by decide)]; exact gfs_27_8
  have gfs_30_9 : fs_30[9]? = some (.int 0) := by rw [efs_30, List.getElem?_set_ne (show (29 : Nat) ≠ 9 by decide)]; exact gfs_27_9
  have gfs_30_10 : fs_30[10]? = some (.int 0) := by rw [efs_30, List.getElem?_set_ne (show (29 : Nat) ≠ 10 by decide)]; exact gfs_27_10
  have gfs_30_12 : fs_30[12]? = some (.int 0) := by rw [efs_30, List.getElem?_set_ne (show (29 : Nat) ≠ 12 by decide)]; exact gfs_27_12
  have gfs_30_26 : fs_30[26]? = some (.int 0) := by rw [efs_30, List.getElem?_set_ne (show (29 : Nat) ≠ 26 by decide)]; exact gfs_27_26
  have gfs_30_40 : fs_30[40]? = some (.int 0) := by rw [efs_30, List.getElem?_set_ne (show (29 : Nat) ≠ 40 by decide)]; exact gfs_27_40
  have gfs_30_58 : fs_30[58]? = some (.int 0) := by rw [efs_30, List.getElem?_set_ne (show (29 : Nat) ≠ 58 by decide)]; exact gfs_27_58
  have gfs_30_65 : fs_30[65]? = some (.int 0) := by rw [efs_30, List.getElem?_set_ne (show (29 : Nat) ≠ 65 by decide)]; exact gfs_27_65
  have gfs_30_66 : fs_30[66]? = some (.int 0) := by rw [efs_30, List.getElem?_set_ne (show (29 : Nat) ≠ 66 by decide)]; exact gfs_27_66
  have gfs_30_67 : fs_30[67]? = some (.int 0) := by rw [efs_30, List.getElem?_set_ne (show (29 : Nat) ≠ 67 by decide)]; exact gfs_27_67
  have gfs_30_68 : fs_30[68]? = some (.int 0) := by rw [efs_30, List.getElem?_set_ne (show (29 : Nat) ≠ 68 by decide)]; exact gfs_27_68
  have gfs_30_0 : fs_30[0]? = some (.ref q_1) := by rw [efs_30, List.getElem?_set_ne (show (29 : Nat) ≠ 0 by decide)]; exact gfs_27_0
  have gfs_30_2 : fs_30[2]? = some (.ref q_4) := by rw [efs_30, List.getElem?_set_ne (show (29 : Nat) ≠ 2 by decide)]; exact gfs_27_2
  have gfs_30_3 : fs_30[3]? = some (.ref q_7) := by rw [efs_30, List.getElem?_set_ne (show (29 : Nat) ≠ 3 by decide)]; exact gfs_27_3
  have gfs_30_29 : fs_30[29]? = some (.ref q_28) := by rw [efs_30]; exact List.getElem?_set_self (by rw [lfs_27]; decide)
  have hP : va_P (dC, dI) vwCl [(h0, .inr (9, fs_30)), (q_1, .inl (k_2, 4000, .inl ((fun _ => 0)))), (q_4, .inl (k_5, 30, .inl ((fun _ => 0)))), (q_7, .inl (k_8, 30, .inl ((fun _ => 0))))] H := hP
  have hD : va_D A [(h0, .inr (9, fs_30)), (q_1, .inl (k_2, 4000, .inl ((fun _ => 0)))), (q_4, .inl (k_5, 30, .inl ((fun _ => 0)))), (q_7, .inl (k_8, 30, .inl ((fun _ => 0))))] := hD
  refine lv_aload_n hx hb dX9_init_92 rfl (lv_at hl 0 rfl) ?_
  refine lv_sipush (v := 2100) hx hb dX9_init_93 (by decide) ?_
  refine va_newa (atype := .int) (a0 := (2100, .inl (fun _ => 0))) (ty := .int) (N' := 2100) hx hb (hts (.arrayClass .int) (List.mem_of_getElem? (i := 6) rfl)) rfl hK hP hD hS hA (fun c9 => k_cellI c9 2100) (by decide +kernel) (by decide +kernel) (by decide +kernel) (by decide +kernel) (by decide +kernel) dX9_init_96 (fun q_31 k_32 H hK hP hD hS => ?_)
  have hP := hP.sub (ws' := [(h0, .inr (9, fs_30)), (q_1, .inl (k_2, 4000, .inl ((fun _ => 0)))), (q_4, .inl (k_5, 30, .inl ((fun _ => 0)))), (q_7, .inl (k_8, 30, .inl ((fun _ => 0))))]) [0, 1, 2, 3] rfl
  have hD := hD.sub (ws' := [(h0, .inr (9, fs_30)), (q_1, .inl (k_2, 4000, .inl ((fun _ => 0)))), (q_4, .inl (k_5, 30, .inl ((fun _ => 0)))), (q_7, .inl (k_8, 30, .inl ((fun _ => 0))))]) [0, 1, 2, 3] (by decide) rfl
  have hK := hK.sub (tys' := [(k_2, .byte), (k_5, .int), (k_8, .int)]) [0, 1, 2] rfl
  refine W.widen (k := 11) (n := 20860) (by decide +kernel) (by decide +kernel) ?_
  refine va_putF (D := (dC, dI)) (ci := 9) (v := .ref q_31) (ty := .array .int) (C := RX9) (T := TX9) (N := 69) hx hb hts hinX9 tyX9 tyX9_ok nmX9 hown hK hP hD hS 0 rfl rfl 30 (by decide) (hts (.fieldLink RX9 41 "CensusDeskModel" "nameAt" "[I") (List.mem_of_getElem? (i := 16) rfl)) (fun _ h9 => h9) rfl hin rfl (by decide +kernel) rfl rfl (by rw [lfs_30]; decide) dX9_init_98 (fun H locs hP hD hS => ?_)
  obtain ⟨fs_33, efs_33⟩ : ∃ z : List Value, z = List.set fs_30 30 (.ref q_31) := ⟨_, rfl⟩
  rw [← efs_33] at hP hD
  have lfs_33 : fs_33.length = 69 := by rw [efs_33, List.length_set]; exact lfs_30
  have gfs_33_1 : fs_33[1]? = some (.int 0) := by rw [efs_33, List.getElem?_set_ne (show (30 : Nat) ≠ 1 by decide)]; exact gfs_30_1
  have gfs_33_4 : fs_33[4]? = some (.int 0) := by rw [efs_33, List.getElem?_set_ne (show (30 : Nat) ≠ 4 by decide)]; exact gfs_30_4
  have gfs_33_5 : fs_33[5]? = some (.int 0) := by rw [efs_33, List.getElem?_set_ne (show (30 : Nat) ≠ 5 by decide)]; exact gfs_30_5
  have gfs_33_8 : fs_33[8]? = some (.int 0) := by rw [efs_33, List.getElem?_set_ne (show (30 : Nat) ≠ 8 by decide)]; exact gfs_30_8
  have gfs_33_9 : fs_33[9]? = some (.int 0) := by rw [efs_33, List.getElem?_set_ne (show (30 : Nat) ≠ 9 by decide)]; exact gfs_30_9
  have gfs_33_10 : fs_33[10]? = some (.int 0) := by rw [efs_33, List.getElem?_set_ne (show (30 : Nat) ≠ 10 by decide)]; exact gfs_30_10
  have gfs_33_12 : fs_33[12]? = some (.int 0) := by rw [efs_33, List.getElem?_set_ne (show (30 : Nat) ≠ 12 by decide)]; exact gfs_30_12
  have gfs_33_26 : fs_33[26]? = some (.int 0) := by rw [efs_33, List.getElem?_set_ne (show (30 : Nat) ≠ 26 by decide)]; exact gfs_30_26
  have gfs_33_40 : fs_33[40]? = some (.int 0) := by rw [efs_33, List.getElem?_set_ne (show (30 : Nat) ≠ 40 by decide)]; exact gfs_30_40
  have gfs_33_58 : fs_33[58]? = some (.int 0) := by rw [efs_33, List.getElem?_set_ne (show (30 : Nat) ≠ 58 by decide)]; exact gfs_30_58
  have gfs_33_65 : fs_33[65]? = some (.int 0) := by rw [efs_33, List.getElem?_set_ne (show (30 : Nat) ≠ 65 by decide)]; exact gfs_30_65
  have gfs_33_66 : fs_33[66]? = some (.int 0) := by rw [efs_33, List.getElem?_set_ne (show (30 : Nat) ≠ 66 by decide)]; exact gfs_30_66
  have gfs_33_67 : fs_33[67]? = some (.int 0) := by rw [efs_33, List.getElem?_set_ne (show (30 : Nat) ≠ 67 by decide)]; exact gfs_30_67
  have gfs_33_68 : fs_33[68]? = some (.int 0) := by rw [efs_33, List.getElem?_set_ne (show (30 : Nat) ≠ 68 by decide)]; exact gfs_30_68
  have gfs_33_0 : fs_33[0]? = some (.ref q_1) := by rw [efs_33, List.getElem?_set_ne (show (30 : Nat) ≠ 0 by decide)]; exact gfs_30_0
  have gfs_33_2 : fs_33[2]? = some (.ref q_4) := by rw [efs_33, List.getElem?_set_ne (show (30 : Nat) ≠ 2 by decide)]; exact gfs_30_2
  have gfs_33_3 : fs_33[3]? = some (.ref q_7) := by rw [efs_33, List.getElem?_set_ne (show (30 : Nat) ≠ 3 by decide)]; exact gfs_30_3
  have gfs_33_30 : fs_33[30]? = some (.ref q_31) := by rw [efs_33]; exact List.getElem?_set_self (by rw [lfs_30]; decide)
  have hP : va_P (dC, dI) vwCl [(h0, .inr (9, fs_33)), (q_1, .inl (k_2, 4000, .inl ((fun _ => 0)))), (q_4, .inl (k_5, 30, .inl ((fun _ => 0)))), (q_7, .inl (k_8, 30, .inl ((fun _ => 0))))] H := hP
  have hD : va_D A [(h0, .inr (9, fs_33)), (q_1, .inl (k_2, 4000, .inl ((fun _ => 0)))), (q_4, .inl (k_5, 30, .inl ((fun _ => 0)))), (q_7, .inl (k_8, 30, .inl ((fun _ => 0))))] := hD
  refine lv_aload_n hx hb dX9_init_101 rfl (lv_at hl 0 rfl) ?_
  refine lv_sipush (v := 2100) hx hb dX9_init_102 (by decide) ?_
  refine va_newa (atype := .int) (a0 := (2100, .inl (fun _ => 0))) (ty := .int) (N' := 2100) hx hb (hts (.arrayClass .int) (List.mem_of_getElem? (i := 6) rfl)) rfl hK hP hD hS hA (fun c9 => k_cellI c9 2100) (by decide +kernel) (by decide +kernel) (by decide +kernel) (by decide +kernel) (by decide +kernel) dX9_init_105 (fun q_34 k_35 H hK hP hD hS => ?_)
  have hP := hP.sub (ws' := [(h0, .inr (9, fs_33)), (q_1, .inl (k_2, 4000, .inl ((fun _ => 0)))), (q_4, .inl (k_5, 30, .inl ((fun _ => 0)))), (q_7, .inl (k_8, 30, .inl ((fun _ => 0))))]) [0, 1, 2, 3] rfl
  have hD := hD.sub (ws' := [(h0, .inr (9, fs_33)), (q_1, .inl (k_2, 4000, .inl ((fun _ => 0)))), (q_4, .inl (k_5, 30, .inl ((fun _ => 0)))), (q_7, .inl (k_8, 30, .inl ((fun _ => 0))))]) [0, 1, 2, 3] (by decide) rfl
  have hK := hK.sub (tys' := [(k_2, .byte), (k_5, .int), (k_8, .int)]) [0, 1, 2] rfl
  refine W.widen (k := 12) (n := 22960) (by decide +kernel) (by decide +kernel) ?_
  refine va_putF (D := (dC, dI)) (ci := 9) (v := .ref q_34) (ty := .array .int) (C := RX9) (T := TX9) (N := 69) hx hb hts hinX9 tyX9 tyX9_ok nmX9 hown hK hP hD hS 0 rfl rfl 31 (by decide) (hts (.fieldLink RX9 44 "CensusDeskModel" "nameSize" "[I") (List.mem_of_getElem? (i := 17) rfl)) (fun _ h9 => h9) rfl hin rfl (by decide +kernel) rfl rfl (by rw [lfs_33]; decide) dX9_init_107 (fun H locs hP hD hS => ?_)
  obtain ⟨fs_36, efs_36⟩ : ∃ z : List Value, z = List.set fs_33 31 (.ref q_34) := ⟨_, rfl⟩
  rw [← efs_36] at hP hD
  have lfs_36 : fs_36.length = 69 := by rw [efs_36, List.length_set]; exact lfs_33
  have gfs_36_1 : fs_36[1]? = some (.int 0) := by rw [efs_36, List.getElem?_set_ne (show (31 : Nat) ≠ 1 by decide)]; exact gfs_33_1
  have gfs_36_4 : fs_36[4]? = some (.int 0) := by rw [efs_36, List.getElem?_set_ne (show (31 : Nat) ≠ 4 by decide)]; exact gfs_33_4
  have gfs_36_5 : fs_36[5]? = some (.int 0) := by rw [efs_36, List.getElem?_set_ne (show (31 : Nat) ≠ 5 by decide)]; exact gfs_33_5
  have gfs_36_8 : fs_36[8]? = some (.int 0) := by rw [efs_36, List.getElem?_set_ne (show (31 : Nat) ≠ 8 by decide)]; exact gfs_33_8
  have gfs_36_9 : fs_36[9]? = some (.int 0) := by rw [efs_36, List.getElem?_set_ne (show (31 : Nat) ≠ 9 by decide)]; exact gfs_33_9
  have gfs_36_10 : fs_36[10]? = some (.int 0) := by rw [efs_36, List.getElem?_set_ne (show (31 : Nat) ≠ 10 by decide)]; exact gfs_33_10
  have gfs_36_12 : fs_36[12]? = some (.int 0) := by rw [efs_36, List.getElem?_set_ne (show (31 : Nat) ≠ 12 by decide)]; exact gfs_33_12
  have gfs_36_26 : fs_36[26]? = some (.int 0) := by rw [efs_36, List.getElem?_set_ne (show (31 : Nat) ≠ 26 by decide)]; exact gfs_33_26
  have gfs_36_40 : fs_36[40]? = some (.int 0) := by rw [efs_36, List.getElem?_set_ne (show (31 : Nat) ≠ 40 by decide)]; exact gfs_33_40
  have gfs_36_58 : fs_36[58]? = some (.int 0) := by rw [efs_36, List.getElem?_set_ne (show (31 : Nat) ≠ 58 by decide)]; exact gfs_33_58
  have gfs_36_65 : fs_36[65]? = some (.int 0) := by rw [efs_36, List.getElem?_set_ne (show (31 : Nat) ≠ 65 by decide)]; exact gfs_33_65
  have gfs_36_66 : fs_36[66]? = some (.int 0) := by rw [efs_36, List.getElem?_set_ne (show (31 : Nat) ≠ 66 by decide)]; exact gfs_33_66
  have gfs_36_67 : fs_36[67]? = some (.int 0) := by rw [efs_36, List.getElem?_set_ne (show (31 : Nat) ≠ 67 by decide)]; exact gfs_33_67
  have gfs_36_68 : fs_36[68]? = some (.int 0) := by rw [efs_36, List.getElem?_set_ne (show (31 : Nat) ≠ 68 by decide)]; exact gfs_33_68
  have gfs_36_0 : fs_36[0]? = some (.ref q_1) := by rw [efs_36, List.getElem?_set_ne (show (31 : Nat) ≠ 0 by decide)]; exact gfs_33_0
  have gfs_36_2 : fs_36[2]? = some (.ref q_4) := by rw [efs_36, List.getElem?_set_ne (show (31 : Nat) ≠ 2 by decide)]; exact gfs_33_2
  have gfs_36_3 : fs_36[3]? = some (.ref q_7) := by rw [efs_36, List.getElem?_set_ne (show (31 : Nat) ≠ 3 by decide)]; exact gfs_33_3
  have gfs_36_31 : fs_36[31]? = some (.ref q_34) := by rw [efs_36]; exact List.getElem?_set_self (by rw [lfs_33]; decide)
  have hP : va_P (dC, dI) vwCl [(h0, .inr (9, fs_36)), (q_1, .inl (k_2, 4000, .inl ((fun _ => 0)))), (q_4, .inl (k_5, 30, .inl ((fun _ => 0)))), (q_7, .inl (k_8, 30, .inl ((fun _ => 0))))] H := hP
  have hD : va_D A [(h0, .inr (9, fs_36)), (q_1, .inl (k_2, 4000, .inl ((fun _ => 0)))), (q_4, .inl (k_5, 30, .inl ((fun _ => 0)))), (q_7, .inl (k_8, 30, .inl ((fun _ => 0))))] := hD
  refine lv_aload_n hx hb dX9_init_110 rfl (lv_at hl 0 rfl) ?_
  refine lv_sipush (v := 4000) hx hb dX9_init_111 (by decide) ?_
  refine va_newa (atype := .byte) (a0 := (4000, .inl (fun _ => 0))) (ty := .byte) (N' := 4000) hx hb (hts (.arrayClass .byte) (List.mem_of_getElem? (i := 4) rfl)) rfl hK hP hD hS hA (fun c9 => k_cellB c9 4000) (by decide +kernel) (by decide +kernel) (by decide +kernel) (by decide +kernel) (by decide +kernel) dX9_init_114 (fun q_37 k_38 H hK hP hD hS => ?_)
  have hP := hP.sub (ws' := [(h0, .inr (9, fs_36)), (q_1, .inl (k_2, 4000, .inl ((fun _ => 0)))), (q_4, .inl (k_5, 30, .inl ((fun _ => 0)))), (q_7, .inl (k_8, 30, .inl ((fun _ => 0))))]) [0, 1, 2, 3] rfl
  have hD := hD.sub (ws' := [(h0, .inr (9, fs_36)), (q_1, .inl (k_2, 4000, .inl ((fun _ => 0)))), (q_4, .inl (k_5, 30, .inl ((fun _ => 0)))), (q_7, .inl (k_8, 30, .inl ((fun _ => 0))))]) [0, 1, 2, 3] (by decide) rfl
  have hK := hK.sub (tys' := [(k_2, .byte), (k_5, .int), (k_8, .int)]) [0, 1, 2] rfl
  refine W.widen (k := 13) (n := 26960) (by decide +kernel) (by decide +kernel) ?_
  refine va_putF (D := (dC, dI)) (ci := 9) (v := .ref q_37) (ty := .array .byte) (C := RX9) (T := TX9) (N := 69) hx hb hts hinX9 tyX9 tyX9_ok nmX9 hown hK hP hD hS 0 rfl rfl 33 (by decide) (hts (.fieldLink RX9 47 "CensusDeskModel" "names" "[B") (List.mem_of_getElem? (i := 18) rfl)) (fun _ h9 => h9) rfl hin rfl (by decide +kernel) rfl rfl (by rw [lfs_36]; decide) dX9_init_116 (fun H locs hP hD hS => ?_)
  obtain ⟨fs_39, efs_39⟩ : ∃ z : List Value, z = List.set fs_36 33 (.ref q_37) := ⟨_, rfl⟩
  rw [← efs_39] at hP hD
  have lfs_39 : fs_39.length = 69 := by rw [efs_39, List.length_set]; exact lfs_36
  have gfs_39_1 : fs_39[1]? = some (.int 0) := by rw [efs_39, List.getElem?_set_ne (show (33 : Nat) ≠ 1 by decide)]; exact gfs_36_1
  have gfs_39_4 : fs_39[4]? = some (.int 0) := by rw [efs_39, List.getElem?_set_ne (show (33 : Nat) ≠ 4 by decide)]; exact gfs_36_4
  have gfs_39_5 : fs_39[5]? = some (.int 0) := by rw [efs_39, List.getElem?_set_ne (show (33 : Nat) ≠ 5 by decide)]; exact gfs_36_5
  have gfs_39_8 : fs_39[8]? = some (.int 0) := by rw [efs_39, List.getElem?_set_ne (show (33 : Nat) ≠ 8 by decide)]; exact gfs_36_8
  have gfs_39_9 : fs_39[9]? = some (.int 0) := by rw [efs_39, List.getElem?_set_ne (show (33 : Nat) ≠ 9 by decide)]; exact gfs_36_9
  have gfs_39_10 : fs_39[10]? = some (.int 0) := by rw [efs_39, List.getElem?_set_ne (show (33 : Nat) ≠ 10 by decide)]; exact gfs_36_10
  have gfs_39_12 : fs_39[12]? = some (.int 0) := by rw [efs_39, List.getElem?_set_ne (show (33 : Nat) ≠ 12 by decide)]; exact gfs_36_12
  have gfs_39_26 : fs_39[26]? = some (.int 0) := by rw [efs_39, List.getElem?_set_ne (show (33 : Nat) ≠ 26 by decide)]; exact gfs_36_26
  have gfs_39_40 : fs_39[40]? = some (.int 0) := by rw [efs_39, List.getElem?_set_ne (show (33 : Nat) ≠ 40 by decide)]; exact gfs_36_40
  have gfs_39_58 : fs_39[58]? = some (.int 0) := by rw [efs_39, List.getElem?_set_ne (show (33 : Nat) ≠ 58 by decide)]; exact gfs_36_58
  have gfs_39_65 : fs_39[65]? = some (.int 0) := by rw [efs_39, List.getElem?_set_ne (show (33 : Nat) ≠ 65 by decide)]; exact gfs_36_65
  have gfs_39_66 : fs_39[66]? = some (.int 0) := by rw [efs_39, List.getElem?_set_ne (show (33 : Nat) ≠ 66 by decide)]; exact gfs_36_66
  have gfs_39_67 : fs_39[67]? = some (.int 0) := by rw [efs_39, List.getElem?_set_ne (show (33 : Nat) ≠ 67 by decide)]; exact gfs_36_67
  have gfs_39_68 : fs_39[68]? = some (.int 0) := by rw [efs_39, List.getElem?_set_ne (show (33 : Nat) ≠ 68 by decide)]; exact gfs_36_68
  have gfs_39_0 : fs_39[0]? = some (.ref q_1) := by rw [efs_39, List.getElem?_set_ne (show (33 : Nat) ≠ 0 by decide)]; exact gfs_36_0
  have gfs_39_2 : fs_39[2]? = some (.ref q_4) := by rw [efs_39, List.getElem?_set_ne (show (33 : Nat) ≠ 2 by decide)]; exact gfs_36_2
  have gfs_39_3 : fs_39[3]? = some (.ref q_7) := by rw [efs_39, List.getElem?_set_ne (show (33 : Nat) ≠ 3 by decide)]; exact gfs_36_3
  have gfs_39_33 : fs_39[33]? = some (.ref q_37) := by rw [efs_39]; exact List.getElem?_set_self (by rw [lfs_36]; decide)
  have hP : va_P (dC, dI) vwCl [(h0, .inr (9, fs_39)), (q_1, .inl (k_2, 4000, .inl ((fun _ => 0)))), (q_4, .inl (k_5, 30, .inl ((fun _ => 0)))), (q_7, .inl (k_8, 30, .inl ((fun _ => 0))))] H := hP
  have hD : va_D A [(h0, .inr (9, fs_39)), (q_1, .inl (k_2, 4000, .inl ((fun _ => 0)))), (q_4, .inl (k_5, 30, .inl ((fun _ => 0)))), (q_7, .inl (k_8, 30, .inl ((fun _ => 0))))] := hD
  refine lv_aload_n hx hb dX9_init_119 rfl (lv_at hl 0 rfl) ?_
  refine lv_sipush (v := 300) hx hb dX9_init_120 (by decide) ?_
  refine va_newa (atype := .int) (a0 := (300, .inl (fun _ => 0))) (ty := .int) (N' := 300) hx hb (hts (.arrayClass .int) (List.mem_of_getElem? (i := 6) rfl)) rfl hK hP hD hS hA (fun c9 => k_cellI c9 300) (by decide +kernel) (by decide +kernel) (by decide +kernel) (by decide +kernel) (by decide +kernel) dX9_init_123 (fun q_40 k_41 H hK hP hD hS => ?_)
  have hP := hP.sub (ws' := [(h0, .inr (9, fs_39)), (q_1, .inl (k_2, 4000, .inl ((fun _ => 0)))), (q_4, .inl (k_5, 30, .inl ((fun _ => 0)))), (q_7, .inl (k_8, 30, .inl ((fun _ => 0))))]) [0, 1, 2, 3] rfl
  have hD := hD.sub (ws' := [(h0, .inr (9, fs_39)), (q_1, .inl (k_2, 4000, .inl ((fun _ => 0)))), (q_4, .inl (k_5, 30, .inl ((fun _ => 0)))), (q_7, .inl (k_8, 30, .inl ((fun _ => 0))))]) [0, 1, 2, 3] (by decide) rfl
  have hK := hK.sub (tys' := [(k_2, .byte), (k_5, .int), (k_8, .int)]) [0, 1, 2] rfl
  refine W.widen (k := 14) (n := 27260) (by decide +kernel) (by decide +kernel) ?_
  refine va_putF (D := (dC, dI)) (ci := 9) (v := .ref q_40) (ty := .array .int) (C := RX9) (T := TX9) (N := 69) hx hb hts hinX9 tyX9 tyX9_ok nmX9 hown hK hP hD hS 0 rfl rfl 35 (by decide) (hts (.fieldLink RX9 50 "CensusDeskModel" "failKind" "[I") (List.mem_of_getElem? (i := 19) rfl)) (fun _ h9 => h9) rfl hin rfl (by decide +kernel) rfl rfl (by rw [lfs_39]; decide) dX9_init_125 (fun H locs hP hD hS => ?_)
  obtain ⟨fs_42, efs_42⟩ : ∃ z : List Value, z = List.set fs_39 35 (.ref q_40) := ⟨_, rfl⟩
  rw [← efs_42] at hP hD
  have lfs_42 : fs_42.length = 69 := by rw [efs_42, List.length_set]; exact lfs_39
  have gfs_42_1 : fs_42[1]? = some (.int 0) := by rw [efs_42, List.getElem?_set_ne (show (35 : Nat) ≠ 1 by decide)]; exact gfs_39_1
  have gfs_42_4 : fs_42[4]? = some (.int 0) := by rw [efs_42, List.getElem?_set_ne (show (35 : Nat) ≠ 4 by decide)]; exact gfs_39_4
  have gfs_42_5 : fs_42[5]? = some (.int 0) := by rw [efs_42, List.getElem?_set_ne (show (35 : Nat) ≠ 5 by decide)]; exact gfs_39_5
  have gfs_42_8 : fs_42[8]? = some (.int 0) := by rw [efs_42, List.getElem?_set_ne (show (35 : Nat) ≠ 8 by decide)]; exact gfs_39_8
  have gfs_42_9 : fs_42[9]? = some (.int 0) := by rw [efs_42, List.getElem?_set_ne (show (35 : Nat) ≠ 9 by decide)]; exact gfs_39_9
  have gfs_42_10 : fs_42[10]? = some (.int 0) := by rw [efs_42, List.getElem?_set_ne (show (35 : Nat) ≠ 10 by decide)]; exact gfs_39_10
  have gfs_42_12 : fs_42[12]? = some (.int 0) := by rw [efs_42, List.getElem?_set_ne (show (35 : Nat) ≠ 12 by decide)]; exact gfs_39_12
  have gfs_42_26 : fs_42[26]? = some (.int 0) := by rw [efs_42, List.getElem?_set_ne (show (35 : Nat) ≠ 26 by decide)]; exact gfs_39_26
  have gfs_42_40 : fs_42[40]? = some (.int 0) := by rw [efs_42, List.getElem?_set_ne (show (35 : Nat) ≠ 40 by decide)]; exact gfs_39_40
  have gfs_42_58 : fs_42[58]? = some (.int 0) := by rw [efs_42, List.getElem?_set_ne (show (35 : Nat) ≠ 58 by decide)]; exact gfs_39_58
  have gfs_42_65 : fs_42[65]? = some (.int 0) := by rw [efs_42, List.getElem?_set_ne (show (35 : Nat) ≠ 65 by decide)]; exact gfs_39_65
  have gfs_42_66 : fs_42[66]? = some (.int 0) := by rw [efs_42, List.getElem?_set_ne (show (35 : Nat) ≠ 66 by decide)]; exact gfs_39_66
  have gfs_42_67 : fs_42[67]? = some (.int 0) := by rw [efs_42, List.getElem?_set_ne (show (35 : Nat) ≠ 67 by decide)]; exact gfs_39_67
  have gfs_42_68 : fs_42[68]? = some (.int 0) := by rw [efs_42, List.getElem?_set_ne (show (35 : Nat) ≠ 68 by decide)]; exact gfs_39_68
  have gfs_42_0 : fs_42[0]? = some (.ref q_1) := by rw [efs_42, List.getElem?_set_ne (show (35 : Nat) ≠ 0 by decide)]; exact gfs_39_0
  have gfs_42_2 : fs_42[2]? = some (.ref q_4) := by rw [efs_42, List.getElem?_set_ne (show (35 : Nat) ≠ 2 by decide)]; exact gfs_39_2
  have gfs_42_3 : fs_42[3]? = some (.ref q_7) := by rw [efs_42, List.getElem?_set_ne (show (35 : Nat) ≠ 3 by decide)]; exact gfs_39_3
  have gfs_42_35 : fs_42[35]? = some (.ref q_40) := by rw [efs_42]; exact List.getElem?_set_self (by rw [lfs_39]; decide)
  have hP : va_P (dC, dI) vwCl [(h0, .inr (9, fs_42)), (q_1, .inl (k_2, 4000, .inl ((fun _ => 0)))), (q_4, .inl (k_5, 30, .inl ((fun _ => 0)))), (q_7, .inl (k_8, 30, .inl ((fun _ => 0))))] H := hP
  have hD : va_D A [(h0, .inr (9, fs_42)), (q_1, .inl (k_2, 4000, .inl ((fun _ => 0)))), (q_4, .inl (k_5, 30, .inl ((fun _ => 0)))), (q_7, .inl (k_8, 30, .inl ((fun _ => 0))))] := hD
  refine lv_aload_n hx hb dX9_init_128 rfl (lv_at hl 0 rfl) ?_
  refine lv_sipush (v := 300) hx hb dX9_init_129 (by decide) ?_
  refine va_newa (atype := .int) (a0 := (300, .inl (fun _ => 0))) (ty := .int) (N' := 300) hx hb (hts (.arrayClass .int) (List.mem_of_getElem? (i := 6) rfl)) rfl hK hP hD hS hA (fun c9 => k_cellI c9 300) (by decide +kernel) (by decide +kernel) (by decide +kernel) (by decide +kernel) (by decide +kernel) dX9_init_132 (fun q_43 k_44 H hK hP hD hS => ?_)
  have hP := hP.sub (ws' := [(h0, .inr (9, fs_42)), (q_1, .inl (k_2, 4000, .inl ((fun _ => 0)))), (q_4, .inl (k_5, 30, .inl ((fun _ => 0)))), (q_7, .inl (k_8, 30, .inl ((fun _ => 0))))]) [0, 1, 2, 3] rfl
  have hD := hD.sub (ws' := [(h0, .inr (9, fs_42)), (q_1, .inl (k_2, 4000, .inl ((fun _ => 0)))), (q_4, .inl (k_5, 30, .inl ((fun _ => 0)))), (q_7, .inl (k_8, 30, .inl ((fun _ => 0))))]) [0, 1, 2, 3] (by decide) rfl
  have hK := hK.sub (tys' := [(k_2, .byte), (k_5, .int), (k_8, .int)]) [0, 1, 2] rfl
  refine W.widen (k := 15) (n := 27560) (by decide +kernel) (by decide +kernel) ?_
  refine va_putF (D := (dC, dI)) (ci := 9) (v := .ref q_43) (ty := .array .int) (C := RX9) (T := TX9) (N := 69) hx hb hts hinX9 tyX9 tyX9_ok nmX9 hown hK hP hD hS 0 rfl rfl 36 (by decide) (hts (.fieldLink RX9 53 "CensusDeskModel" "failPlace" "[I") (List.mem_of_getElem? (i := 20) rfl)) (fun _ h9 => h9) rfl hin rfl (by decide +kernel) rfl rfl (by rw [lfs_42]; decide) dX9_init_134 (fun H locs hP hD hS => ?_)
  obtain ⟨fs_45, efs_45⟩ : ∃ z : List Value, z = List.set fs_42 36 (.ref q_43) := ⟨_, rfl⟩
  rw [← efs_45] at hP hD
  have lfs_45 : fs_45.length = 69 := by rw [efs_45, List.length_set]; exact lfs_42
  have gfs_45_1 : fs_45[1]? = some (.int 0) := by rw [efs_45, List.getElem?_set_ne (show (36 : Nat) ≠ 1 by decide)]; exact gfs_42_1
  have gfs_45_4 : fs_45[4]? = some (.int 0) := by rw [efs_45, List.getElem?_set_ne (show (36 : Nat) ≠ 4 by decide)]; exact gfs_42_4
  have gfs_45_5 : fs_45[5]? = some (.int 0) := by rw [efs_45, List.getElem?_set_ne (show (36 : Nat) ≠ 5 by decide)]; exact gfs_42_5
  have gfs_45_8 : fs_45[8]? = some (.int 0) := by rw [efs_45, List.getElem?_set_ne (show (36 : Nat) ≠ 8 by decide)]; exact gfs_42_8
  have gfs_45_9 : fs_45[9]? = some (.int 0) := by rw [efs_45, List.getElem?_set_ne (show (36 : Nat) ≠ 9 by decide)]; exact gfs_42_9
  have gfs_45_10 : fs_45[10]? = some (.int 0) := by rw [efs_45, List.getElem?_set_ne (show (36 : Nat) ≠ 10 by decide)]; exact gfs_42_10
  have gfs_45_12 : fs_45[12]? = some (.int 0) := by rw [efs_45, List.getElem?_set_ne (show (36 : Nat) ≠ 12 by decide)]; exact gfs_42_12
  have gfs_45_26 : fs_45[26]? = some (.int 0) := by rw [efs_45, List.getElem?_set_ne (show (36 : Nat) ≠ 26 by decide)]; exact gfs_42_26
  have gfs_45_40 : fs_45[40]? = some (.int 0) := by rw [efs_45, List.getElem?_set_ne (show (36 : Nat) ≠ 40 by decide)]; exact gfs_42_40
  have gfs_45_58 : fs_45[58]? = some (.int 0) := by rw [efs_45, List.getElem?_set_ne (show (36 : Nat) ≠ 58 by decide)]; exact gfs_42_58
  have gfs_45_65 : fs_45[65]? = some (.int 0) := by rw [efs_45, List.getElem?_set_ne (show (36 : Nat) ≠ 65 by decide)]; exact gfs_42_65
  have gfs_45_66 : fs_45[66]? = some (.int 0) := by rw [efs_45, List.getElem?_set_ne (show (36 : Nat) ≠ 66 by decide)]; exact gfs_42_66
  have gfs_45_67 : fs_45[67]? = some (.int 0) := by rw [efs_45, List.getElem?_set_ne (show (36 : Nat) ≠ 67 by decide)]; exact gfs_42_67
  have gfs_45_68 : fs_45[68]? = some (.int 0) := by rw [efs_45, List.getElem?_set_ne (show (36 : Nat) ≠ 68 by decide)]; exact gfs_42_68
  have gfs_45_0 : fs_45[0]? = some (.ref q_1) := by rw [efs_45, List.getElem?_set_ne (show (36 : Nat) ≠ 0 by decide)]; exact gfs_42_0
  have gfs_45_2 : fs_45[2]? = some (.ref q_4) := by rw [efs_45, List.getElem?_set_ne (show (36 : Nat) ≠ 2 by decide)]; exact gfs_42_2
  have gfs_45_3 : fs_45[3]? = some (.ref q_7) := by rw [efs_45, List.getElem?_set_ne (show (36 : Nat) ≠ 3 by decide)]; exact gfs_42_3
  have gfs_45_36 : fs_45[36]? = some (.ref q_43) := by rw [efs_45]; exact List.getElem?_set_self (by rw [lfs_42]; decide)
  have hP : va_P (dC, dI) vwCl [(h0, .inr (9, fs_45)), (q_1, .inl (k_2, 4000, .inl ((fun _ => 0)))), (q_4, .inl (k_5, 30, .inl ((fun _ => 0)))), (q_7, .inl (k_8, 30, .inl ((fun _ => 0))))] H := hP
  have hD : va_D A [(h0, .inr (9, fs_45)), (q_1, .inl (k_2, 4000, .inl ((fun _ => 0)))), (q_4, .inl (k_5, 30, .inl ((fun _ => 0)))), (q_7, .inl (k_8, 30, .inl ((fun _ => 0))))] := hD
  refine lv_aload_n hx hb dX9_init_137 rfl (lv_at hl 0 rfl) ?_
  refine lv_sipush (v := 300) hx hb dX9_init_138 (by decide) ?_
  refine va_newa (atype := .int) (a0 := (300, .inl (fun _ => 0))) (ty := .int) (N' := 300) hx hb (hts (.arrayClass .int) (List.mem_of_getElem? (i := 6) rfl)) rfl hK hP hD hS hA (fun c9 => k_cellI c9 300) (by decide +kernel) (by decide +kernel) (by decide +kernel) (by decide +kernel) (by decide +kernel) dX9_init_141 (fun q_46 k_47 H hK hP hD hS => ?_)
  have hP := hP.sub (ws' := [(h0, .inr (9, fs_45)), (q_1, .inl (k_2, 4000, .inl ((fun _ => 0)))), (q_4, .inl (k_5, 30, .inl ((fun _ => 0)))), (q_7, .inl (k_8, 30, .inl ((fun _ => 0))))]) [0, 1, 2, 3] rfl
  have hD := hD.sub (ws' := [(h0, .inr (9, fs_45)), (q_1, .inl (k_2, 4000, .inl ((fun _ => 0)))), (q_4, .inl (k_5, 30, .inl ((fun _ => 0)))), (q_7, .inl (k_8, 30, .inl ((fun _ => 0))))]) [0, 1, 2, 3] (by decide) rfl
  have hK := hK.sub (tys' := [(k_2, .byte), (k_5, .int), (k_8, .int)]) [0, 1, 2] rfl
  refine W.widen (k := 16) (n := 27860) (by decide +kernel) (by decide +kernel) ?_
  refine va_putF (D := (dC, dI)) (ci := 9) (v := .ref q_46) (ty := .array .int) (C := RX9) (T := TX9) (N := 69) hx hb hts hinX9 tyX9 tyX9_ok nmX9 hown hK hP hD hS 0 rfl rfl 37 (by decide) (hts (.fieldLink RX9 56 "CensusDeskModel" "failCause" "[I") (List.mem_of_getElem? (i := 21) rfl)) (fun _ h9 => h9) rfl hin rfl (by decide +kernel) rfl rfl (by rw [lfs_45]; decide) dX9_init_143 (fun H locs hP hD hS => ?_)
  obtain ⟨fs_48, efs_48⟩ : ∃ z : List Value, z = List.set fs_45 37 (.ref q_46) := ⟨_, rfl⟩
  rw [← efs_48] at hP hD
  have lfs_48 : fs_48.length = 69 := by rw [efs_48, List.length_set]; exact lfs_45
  have gfs_48_1 : fs_48[1]? = some (.int 0) := by rw [efs_48, List.getElem?_set_ne (show (37 : Nat) ≠ 1 by decide)]; exact gfs_45_1
  have gfs_48_4 : fs_48[4]? = some (.int 0) := by rw [efs_48, List.getElem?_set_ne (show (37 : Nat) ≠ 4 by decide)]; exact gfs_45_4
  have gfs_48_5 : fs_48[5]? = some (.int 0) := by rw [efs_48, List.getElem?_set_ne (show (37 : Nat) ≠ 5 by decide)]; exact gfs_45_5
  have gfs_48_8 : fs_48[8]? = some (.int 0) := by rw [efs_48, List.getElem?_set_ne (show (37 : Nat) ≠ 8 by decide)]; exact gfs_45_8
  have gfs_48_9 : fs_48[9]? = some (.int 0) := by rw [efs_48, List.getElem?_set_ne (show (37 : Nat) ≠ 9 by decide)]; exact gfs_45_9
  have gfs_48_10 : fs_48[10]? = some (.int 0) := by rw [efs_48, List.getElem?_set_ne (show (37 : Nat) ≠ 10 by decide)]; exact gfs_45_10
  have gfs_48_12 : fs_48[12]? = some (.int 0) := by rw [efs_48, List.getElem?_set_ne (show (37 : Nat) ≠ 12 by decide)]; exact gfs_45_12
  have gfs_48_26 : fs_48[26]? = some (.int 0) := by rw [efs_48, List.getElem?_set_ne (show (37 : Nat) ≠ 26 by decide)]; exact gfs_45_26
  have gfs_48_40 : fs_48[40]? = some (.int 0) := by rw [efs_48, List.getElem?_set_ne (show (37 : Nat) ≠ 40 by decide)]; exact gfs_45_40
  have gfs_48_58 : fs_48[58]? = some (.int 0) := by rw [efs_48, List.getElem?_set_ne (show (37 : Nat) ≠ 58 by decide)]; exact gfs_45_58
  have gfs_48_65 : fs_48[65]? = some (.int 0) := by rw [efs_48, List.getElem?_set_ne (show (37 : Nat) ≠ 65 by decide)]; exact gfs_45_65
  have gfs_48_66 : fs_48[66]? = some (.int 0) := by rw [efs_48, List.getElem?_set_ne (show (37 : Nat) ≠ 66 by decide)]; exact gfs_45_66
  have gfs_48_67 : fs_48[67]? = some (.int 0) := by rw [efs_48, List.getElem?_set_ne (show (37 : Nat) ≠ 67 by decide)]; exact gfs_45_67
  have gfs_48_68 : fs_48[68]? = some (.int 0) := by rw [efs_48, List.getElem?_set_ne (show (37 : Nat) ≠ 68 by decide)]; exact gfs_45_68
  have gfs_48_0 : fs_48[0]? = some (.ref q_1) := by rw [efs_48, List.getElem?_set_ne (show (37 : Nat) ≠ 0 by decide)]; exact gfs_45_0
  have gfs_48_2 : fs_48[2]? = some (.ref q_4) := by rw [efs_48, List.getElem?_set_ne (show (37 : Nat) ≠ 2 by decide)]; exact gfs_45_2
  have gfs_48_3 : fs_48[3]? = some (.ref q_7) := by rw [efs_48, List.getElem?_set_ne (show (37 : Nat) ≠ 3 by decide)]; exact gfs_45_3
  have gfs_48_37 : fs_48[37]? = some (.ref q_46) := by rw [efs_48]; exact List.getElem?_set_self (by rw [lfs_45]; decide)
  have hP : va_P (dC, dI) vwCl [(h0, .inr (9, fs_48)), (q_1, .inl (k_2, 4000, .inl ((fun _ => 0)))), (q_4, .inl (k_5, 30, .inl ((fun _ => 0)))), (q_7, .inl (k_8, 30, .inl ((fun _ => 0))))] H := hP
  have hD : va_D A [(h0, .inr (9, fs_48)), (q_1, .inl (k_2, 4000, .inl ((fun _ => 0)))), (q_4, .inl (k_5, 30, .inl ((fun _ => 0)))), (q_7, .inl (k_8, 30, .inl ((fun _ => 0))))] := hD
  refine lv_aload_n hx hb dX9_init_146 rfl (lv_at hl 0 rfl) ?_
  refine lv_sipush (v := 300) hx hb dX9_init_147 (by decide) ?_
  refine va_newa (atype := .int) (a0 := (300, .inl (fun _ => 0))) (ty := .int) (N' := 300) hx hb (hts (.arrayClass .int) (List.mem_of_getElem? (i := 6) rfl)) rfl hK hP hD hS hA (fun c9 => k_cellI c9 300) (by decide +kernel) (by decide +kernel) (by decide +kernel) (by decide +kernel) (by decide +kernel) dX9_init_150 (fun q_49 k_50 H hK hP hD hS => ?_)
  have hP := hP.sub (ws' := [(h0, .inr (9, fs_48)), (q_1, .inl (k_2, 4000, .inl ((fun _ => 0)))), (q_4, .inl (k_5, 30, .inl ((fun _ => 0)))), (q_7, .inl (k_8, 30, .inl ((fun _ => 0))))]) [0, 1, 2, 3] rfl
  have hD := hD.sub (ws' := [(h0, .inr (9, fs_48)), (q_1, .inl (k_2, 4000, .inl ((fun _ => 0)))), (q_4, .inl (k_5, 30, .inl ((fun _ => 0)))), (q_7, .inl (k_8, 30, .inl ((fun _ => 0))))]) [0, 1, 2, 3] (by decide) rfl
  have hK := hK.sub (tys' := [(k_2, .byte), (k_5, .int), (k_8, .int)]) [0, 1, 2] rfl
  refine W.widen (k := 17) (n := 28160) (by decide +kernel) (by decide +kernel) ?_
  refine va_putF (D := (dC, dI)) (ci := 9) (v := .ref q_49) (ty := .array .int) (C := RX9) (T := TX9) (N := 69) hx hb hts hinX9 tyX9 tyX9_ok nmX9 hown hK hP hD hS 0 rfl rfl 38 (by decide) (hts (.fieldLink RX9 59 "CensusDeskModel" "failFirst" "[I") (List.mem_of_getElem? (i := 22) rfl)) (fun _ h9 => h9) rfl hin rfl (by decide +kernel) rfl rfl (by rw [lfs_48]; decide) dX9_init_152 (fun H locs hP hD hS => ?_)
  obtain ⟨fs_51, efs_51⟩ : ∃ z : List Value, z = List.set fs_48 38 (.ref q_49) := ⟨_, rfl⟩
  rw [← efs_51] at hP hD
  have lfs_51 : fs_51.length = 69 := by rw [efs_51, List.length_set]; exact lfs_48
  have gfs_51_1 : fs_51[1]? = some (.int 0) := by rw [efs_51, List.getElem?_set_ne (show (38 : Nat) ≠ 1 by decide)]; exact gfs_48_1
  have gfs_51_4 : fs_51[4]? = some (.int 0) := by rw [efs_51, List.getElem?_set_ne (show (38 : Nat) ≠ 4 by decide)]; exact gfs_48_4
  have gfs_51_5 : fs_51[5]? = some (.int 0) := by rw [efs_51, List.getElem?_set_ne (show (38 : Nat) ≠ 5 by decide)]; exact gfs_48_5
  have gfs_51_8 : fs_51[8]? = some (.int 0) := by rw [efs_51, List.getElem?_set_ne (show (38 : Nat) ≠ 8 by decide)]; exact gfs_48_8
  have gfs_51_9 : fs_51[9]? = some (.int 0) := by rw [efs_51, List.getElem?_set_ne (show (38 : Nat) ≠ 9 by decide)]; exact gfs_48_9
  have gfs_51_10 : fs_51[10]? = some (.int 0) := by rw [efs_51, List.getElem?_set_ne (show (38 : Nat) ≠ 10 by decide)]; exact gfs_48_10
  have gfs_51_12 : fs_51[12]? = some (.int 0) := by rw [efs_51, List.getElem?_set_ne (show (38 : Nat) ≠ 12 by decide)]; exact gfs_48_12
  have gfs_51_26 : fs_51[26]? = some (.int 0) := by rw [efs_51, List.getElem?_set_ne (show (38 : Nat) ≠ 26 by decide)]; exact gfs_48_26
  have gfs_51_40 : fs_51[40]? = some (.int 0) := by rw [efs_51, List.getElem?_set_ne (show (38 : Nat) ≠ 40 by decide)]; exact gfs_48_40
  have gfs_51_58 : fs_51[58]? = some (.int 0) := by rw [efs_51, List.getElem?_set_ne (show (38 : Nat) ≠ 58 by decide)]; exact gfs_48_58
  have gfs_51_65 : fs_51[65]? = some (.int 0) := by rw [efs_51, List.getElem?_set_ne (show (38 : Nat) ≠ 65 by decide)]; exact gfs_48_65
  have gfs_51_66 : fs_51[66]? = some (.int 0) := by rw [efs_51, List.getElem?_set_ne (show (38 : Nat) ≠ 66 by decide)]; exact gfs_48_66
  have gfs_51_67 : fs_51[67]? = some (.int 0) := by rw [efs_51, List.getElem?_set_ne (show (38 : Nat) ≠ 67 by decide)]; exact gfs_48_67
  have gfs_51_68 : fs_51[68]? = some (.int 0) := by rw [efs_51, List.getElem?_set_ne (show (38 : Nat) ≠ 68 by decide)]; exact gfs_48_68
  have gfs_51_0 : fs_51[0]? = some (.ref q_1) := by rw [efs_51, List.getElem?_set_ne (show (38 : Nat) ≠ 0 by decide)]; exact gfs_48_0
  have gfs_51_2 : fs_51[2]? = some (.ref q_4) := by rw [efs_51, List.getElem?_set_ne (show (38 : Nat) ≠ 2 by decide)]; exact gfs_48_2
  have gfs_51_3 : fs_51[3]? = some (.ref q_7) := by rw [efs_51, List.getElem?_set_ne (show (38 : Nat) ≠ 3 by decide)]; exact gfs_48_3
  have gfs_51_38 : fs_51[38]? = some (.ref q_49) := by rw [efs_51]; exact List.getElem?_set_self (by rw [lfs_48]; decide)
  have hP : va_P (dC, dI) vwCl [(h0, .inr (9, fs_51)), (q_1, .inl (k_2, 4000, .inl ((fun _ => 0)))), (q_4, .inl (k_5, 30, .inl ((fun _ => 0)))), (q_7, .inl (k_8, 30, .inl ((fun _ => 0))))] H := hP
  have hD : va_D A [(h0, .inr (9, fs_51)), (q_1, .inl (k_2, 4000, .inl ((fun _ => 0)))), (q_4, .inl (k_5, 30, .inl ((fun _ => 0)))), (q_7, .inl (k_8, 30, .inl ((fun _ => 0))))] := hD
  refine lv_aload_n hx hb dX9_init_155 rfl (lv_at hl 0 rfl) ?_
  refine lv_sipush (v := 300) hx hb dX9_init_156 (by decide) ?_
  refine va_newa (atype := .int) (a0 := (300, .inl (fun _ => 0))) (ty := .int) (N' := 300) hx hb (hts (.arrayClass .int) (List.mem_of_getElem? (i := 6) rfl)) rfl hK hP hD hS hA (fun c9 => k_cellI c9 300) (by decide +kernel) (by decide +kernel) (by decide +kernel) (by decide +kernel) (by decide +kernel) dX9_init_159 (fun q_52 k_53 H hK hP hD hS => ?_)
  have hP := hP.sub (ws' := [(h0, .inr (9, fs_51)), (q_1, .inl (k_2, 4000, .inl ((fun _ => 0)))), (q_4, .inl (k_5, 30, .inl ((fun _ => 0)))), (q_7, .inl (k_8, 30, .inl ((fun _ => 0))))]) [0, 1, 2, 3] rfl
  have hD := hD.sub (ws' := [(h0, .inr (9, fs_51)), (q_1, .inl (k_2, 4000, .inl ((fun _ => 0)))), (q_4, .inl (k_5, 30, .inl ((fun _ => 0)))), (q_7, .inl (k_8, 30, .inl ((fun _ => 0))))]) [0, 1, 2, 3] (by decide) rfl
  have hK := hK.sub (tys' := [(k_2, .byte), (k_5, .int), (k_8, .int)]) [0, 1, 2] rfl
  refine W.widen (k := 18) (n := 28460) (by decide +kernel) (by decide +kernel) ?_
  refine va_putF (D := (dC, dI)) (ci := 9) (v := .ref q_52) (ty := .array .int) (C := RX9) (T := TX9) (N := 69) hx hb hts hinX9 tyX9 tyX9_ok nmX9 hown hK hP hD hS 0 rfl rfl 39 (by decide) (hts (.fieldLink RX9 62 "CensusDeskModel" "failWay" "[I") (List.mem_of_getElem? (i := 23) rfl)) (fun _ h9 => h9) rfl hin rfl (by decide +kernel) rfl rfl (by rw [lfs_51]; decide) dX9_init_161 (fun H locs hP hD hS => ?_)
  obtain ⟨fs_54, efs_54⟩ : ∃ z : List Value, z = List.set fs_51 39 (.ref q_52) := ⟨_, rfl⟩
  rw [← efs_54] at hP hD
  have lfs_54 : fs_54.length = 69 := by rw [efs_54, List.length_set]; exact lfs_51
  have gfs_54_1 : fs_54[1]? = some (.int 0) := by rw [efs_54, List.getElem?_set_ne (show (39 : Nat) ≠ 1 by decide)]; exact gfs_51_1
  have gfs_54_4 : fs_54[4]? = some (.int 0) := by rw [efs_54, List.getElem?_set_ne (show (39 : Nat) ≠ 4 by decide)]; exact gfs_51_4
  have gfs_54_5 : fs_54[5]? = some (.int 0) := by rw [efs_54, List.getElem?_set_ne (show (39 : Nat) ≠ 5 by decide)]; exact gfs_51_5
  have gfs_54_8 : fs_54[8]? = some (.int 0) := by rw [efs_54, List.getElem?_set_ne (show (39 : Nat) ≠ 8 by decide)]; exact gfs_51_8
  have gfs_54_9 : fs_54[9]? = some (.int 0) := by rw [efs_54, List.getElem?_set_ne (show (39 : Nat) ≠ 9 by decide)]; exact gfs_51_9
  have gfs_54_10 : fs_54[10]? = some (.int 0) := by rw [efs_54, List.getElem?_set_ne (show (39 : Nat) ≠ 10 by decide)]; exact gfs_51_10
  have gfs_54_12 : fs_54[12]? = some (.int 0) := by rw [efs_54, List.getElem?_set_ne (show (39 : Nat) ≠ 12 by decide)]; exact gfs_51_12
  have gfs_54_26 : fs_54[26]? = some (.int 0) := by rw [efs_54, List.getElem?_set_ne (show (39 : Nat) ≠ 26 by decide)]; exact gfs_51_26
  have gfs_54_40 : fs_54[40]? = some (.int 0) := by rw [efs_54, List.getElem?_set_ne (show (39 : Nat) ≠ 40 by decide)]; exact gfs_51_40
  have gfs_54_58 : fs_54[58]? = some (.int 0) := by rw [efs_54, List.getElem?_set_ne (show (39 : Nat) ≠ 58 by decide)]; exact gfs_51_58
  have gfs_54_65 : fs_54[65]? = some (.int 0) := by rw [efs_54, List.getElem?_set_ne (show (39 : Nat) ≠ 65 by decide)]; exact gfs_51_65
  have gfs_54_66 : fs_54[66]? = some (.int 0) := by rw [efs_54, List.getElem?_set_ne (show (39 : Nat) ≠ 66 by decide)]; exact gfs_51_66
  have gfs_54_67 : fs_54[67]? = some (.int 0) := by rw [efs_54, List.getElem?_set_ne (show (39 : Nat) ≠ 67 by decide)]; exact gfs_51_67
  have gfs_54_68 : fs_54[68]? = some (.int 0) := by rw [efs_54, List.getElem?_set_ne (show (39 : Nat) ≠ 68 by decide)]; exact gfs_51_68
  have gfs_54_0 : fs_54[0]? = some (.ref q_1) := by rw [efs_54, List.getElem?_set_ne (show (39 : Nat) ≠ 0 by decide)]; exact gfs_51_0
  have gfs_54_2 : fs_54[2]? = some (.ref q_4) := by rw [efs_54, List.getElem?_set_ne (show (39 : Nat) ≠ 2 by decide)]; exact gfs_51_2
  have gfs_54_3 : fs_54[3]? = some (.ref q_7) := by rw [efs_54, List.getElem?_set_ne (show (39 : Nat) ≠ 3 by decide)]; exact gfs_51_3
  have gfs_54_39 : fs_54[39]? = some (.ref q_52) := by rw [efs_54]; exact List.getElem?_set_self (by rw [lfs_51]; decide)
  have hP : va_P (dC, dI) vwCl [(h0, .inr (9, fs_54)), (q_1, .inl (k_2, 4000, .inl ((fun _ => 0)))), (q_4, .inl (k_5, 30, .inl ((fun _ => 0)))), (q_7, .inl (k_8, 30, .inl ((fun _ => 0))))] H := hP
  have hD : va_D A [(h0, .inr (9, fs_54)), (q_1, .inl (k_2, 4000, .inl ((fun _ => 0)))), (q_4, .inl (k_5, 30, .inl ((fun _ => 0)))), (q_7, .inl (k_8, 30, .inl ((fun _ => 0))))] := hD
  refine lv_aload_n hx hb dX9_init_164 rfl (lv_at hl 0 rfl) ?_
  refine lv_bipush (v := 22) hx hb dX9_init_165 (by decide) ?_
  refine va_newa (atype := .int) (a0 := (22, .inl (fun _ => 0))) (ty := .int) (N' := 22) hx hb (hts (.arrayClass .int) (List.mem_of_getElem? (i := 6) rfl)) rfl hK hP hD hS hA (fun c9 => k_cellI c9 22) (by decide +kernel) (by decide +kernel) (by decide +kernel) (by decide +kernel) (by decide +kernel) dX9_init_167 (fun q_55 k_56 H hK hP hD hS => ?_)
  have hP : va_P (dC, dI) vwCl [(h0, .inr (9, fs_54)), (q_1, .inl (k_2, 4000, .inl ((fun _ => 0)))), (q_4, .inl (k_5, 30, .inl ((fun _ => 0)))), (q_7, .inl (k_8, 30, .inl ((fun _ => 0)))), (q_55, .inl (k_56, 22, .inl ((fun _ => 0))))] H := hP
  have hD : va_D A [(h0, .inr (9, fs_54)), (q_1, .inl (k_2, 4000, .inl ((fun _ => 0)))), (q_4, .inl (k_5, 30, .inl ((fun _ => 0)))), (q_7, .inl (k_8, 30, .inl ((fun _ => 0)))), (q_55, .inl (k_56, 22, .inl ((fun _ => 0))))] := hD
  have hK : va_K (dC, dI) vwCl [(k_2, .byte), (k_5, .int), (k_8, .int), (k_56, .int)] s := hK
  refine W.widen (k := 19) (n := 28482) (by decide +kernel) (by decide +kernel) ?_
  refine va_putF (D := (dC, dI)) (ci := 9) (v := .ref q_55) (ty := .array .int) (C := RX9) (T := TX9) (N := 69) hx hb hts hinX9 tyX9 tyX9_ok nmX9 hown hK hP hD hS 0 rfl rfl 41 (by decide) (hts (.fieldLink RX9 65 "CensusDeskModel" "many" "[I") (List.mem_of_getElem? (i := 24) rfl)) (fun _ h9 => h9) rfl hin rfl (by decide +kernel) rfl rfl (by rw [lfs_54]; decide) dX9_init_169 (fun H locs hP hD hS => ?_)
  obtain ⟨fs_57, efs_57⟩ : ∃ z : List Value, z = List.set fs_54 41 (.ref q_55) := ⟨_, rfl⟩
  rw [← efs_57] at hP hD
  have lfs_57 : fs_57.length = 69 := by rw [efs_57, List.length_set]; exact lfs_54
  have gfs_57_1 : fs_57[1]? = some (.int 0) := by rw [efs_57, List.getElem?_set_ne (show (41 : Nat) ≠ 1 by decide)]; exact gfs_54_1
  have gfs_57_4 : fs_57[4]? = some (.int 0) := by rw [efs_57, List.getElem?_set_ne (show (41 : Nat) ≠ 4 by decide)]; exact gfs_54_4
  have gfs_57_5 : fs_57[5]? = some (.int 0) := by rw [efs_57, List.getElem?_set_ne (show (41 : Nat) ≠ 5 by decide)]; exact gfs_54_5
  have gfs_57_8 : fs_57[8]? = some (.int 0) := by rw [efs_57, List.getElem?_set_ne (show (41 : Nat) ≠ 8 by decide)]; exact gfs_54_8
  have gfs_57_9 : fs_57[9]? = some (.int 0) := by rw [efs_57, List.getElem?_set_ne (show (41 : Nat) ≠ 9 by decide)]; exact gfs_54_9
  have gfs_57_10 : fs_57[10]? = some (.int 0) := by rw [efs_57, List.getElem?_set_ne (show (41 : Nat) ≠ 10 by decide)]; exact gfs_54_10
  have gfs_57_12 : fs_57[12]? = some (.int 0) := by rw [efs_57, List.getElem?_set_ne (show (41 : Nat) ≠ 12 by decide)]; exact gfs_54_12
  have gfs_57_26 : fs_57[26]? = some (.int 0) := by rw [efs_57, List.getElem?_set_ne (show (41 : Nat) ≠ 26 by decide)]; exact gfs_54_26
  have gfs_57_40 : fs_57[40]? = some (.int 0) := by rw [efs_57, List.getElem?_set_ne (show (41 : Nat) ≠ 40 by decide)]; exact gfs_54_40
  have gfs_57_58 : fs_57[58]? = some (.int 0) := by rw [efs_57, List.getElem?_set_ne (show (41 : Nat) ≠ 58 by decide)]; exact gfs_54_58
  have gfs_57_65 : fs_57[65]? = some (.int 0) := by rw [efs_57, List.getElem?_set_ne (show (41 : Nat) ≠ 65 by decide)]; exact gfs_54_65
  have gfs_57_66 : fs_57[66]? = some (.int 0) := by rw [efs_57, List.getElem?_set_ne (show (41 : Nat) ≠ 66 by decide)]; exact gfs_54_66
  have gfs_57_67 : fs_57[67]? = some (.int 0) := by rw [efs_57, List.getElem?_set_ne (show (41 : Nat) ≠ 67 by decide)]; exact gfs_54_67
  have gfs_57_68 : fs_57[68]? = some (.int 0) := by rw [efs_57, List.getElem?_set_ne (show (41 : Nat) ≠ 68 by decide)]; exact gfs_54_68
  have gfs_57_0 : fs_57[0]? = some (.ref q_1) := by rw [efs_57, List.getElem?_set_ne (show (41 : Nat) ≠ 0 by decide)]; exact gfs_54_0
  have gfs_57_2 : fs_57[2]? = some (.ref q_4) := by rw [efs_57, List.getElem?_set_ne (show (41 : Nat) ≠ 2 by decide)]; exact gfs_54_2
  have gfs_57_3 : fs_57[3]? = some (.ref q_7) := by rw [efs_57, List.getElem?_set_ne (show (41 : Nat) ≠ 3 by decide)]; exact gfs_54_3
  have gfs_57_41 : fs_57[41]? = some (.ref q_55) := by rw [efs_57]; exact List.getElem?_set_self (by rw [lfs_54]; decide)
  have hP : va_P (dC, dI) vwCl [(h0, .inr (9, fs_57)), (q_1, .inl (k_2, 4000, .inl ((fun _ => 0)))), (q_4, .inl (k_5, 30, .inl ((fun _ => 0)))), (q_7, .inl (k_8, 30, .inl ((fun _ => 0)))), (q_55, .inl (k_56, 22, .inl ((fun _ => 0))))] H := hP
  have hD : va_D A [(h0, .inr (9, fs_57)), (q_1, .inl (k_2, 4000, .inl ((fun _ => 0)))), (q_4, .inl (k_5, 30, .inl ((fun _ => 0)))), (q_7, .inl (k_8, 30, .inl ((fun _ => 0)))), (q_55, .inl (k_56, 22, .inl ((fun _ => 0))))] := hD
  refine lv_aload_n hx hb dX9_init_172 rfl (lv_at hl 0 rfl) ?_
  refine lv_bipush (v := 6) hx hb dX9_init_173 (by decide) ?_
  refine va_newa (atype := .int) (a0 := (6, .inl (fun _ => 0))) (ty := .int) (N' := 6) hx hb (hts (.arrayClass .int) (List.mem_of_getElem? (i := 6) rfl)) rfl hK hP hD hS hA (fun c9 => k_cellI c9 6) (by decide +kernel) (by decide +kernel) (by decide +kernel) (by decide +kernel) (by decide +kernel) dX9_init_175 (fun q_58 k_59 H hK hP hD hS => ?_)
  have hP := hP.sub (ws' := [(h0, .inr (9, fs_57)), (q_1, .inl (k_2, 4000, .inl ((fun _ => 0)))), (q_4, .inl (k_5, 30, .inl ((fun _ => 0)))), (q_7, .inl (k_8, 30, .inl ((fun _ => 0)))), (q_55, .inl (k_56, 22, .inl ((fun _ => 0))))]) [0, 1, 2, 3, 4] rfl
  have hD := hD.sub (ws' := [(h0, .inr (9, fs_57)), (q_1, .inl (k_2, 4000, .inl ((fun _ => 0)))), (q_4, .inl (k_5, 30, .inl ((fun _ => 0)))), (q_7, .inl (k_8, 30, .inl ((fun _ => 0)))), (q_55, .inl (k_56, 22, .inl ((fun _ => 0))))]) [0, 1, 2, 3, 4] (by decide) rfl
  have hK := hK.sub (tys' := [(k_2, .byte), (k_5, .int), (k_8, .int), (k_56, .int)]) [0, 1, 2, 3] rfl
  refine W.widen (k := 20) (n := 28488) (by decide +kernel) (by decide +kernel) ?_
  refine va_putF (D := (dC, dI)) (ci := 9) (v := .ref q_58) (ty := .array .int) (C := RX9) (T := TX9) (N := 69) hx hb hts hinX9 tyX9 tyX9_ok nmX9 hown hK hP hD hS 0 rfl rfl 42 (by decide) (hts (.fieldLink RX9 68 "CensusDeskModel" "firstIn" "[I") (List.mem_of_getElem? (i := 25) rfl)) (fun _ h9 => h9) rfl hin rfl (by decide +kernel) rfl rfl (by rw [lfs_57]; decide) dX9_init_177 (fun H locs hP hD hS => ?_)
  obtain ⟨fs_60, efs_60⟩ : ∃ z : List Value, z = List.set fs_57 42 (.ref q_58) := ⟨_, rfl⟩
  rw [← efs_60] at hP hD
  have lfs_60 : fs_60.length = 69 := by rw [efs_60, List.length_set]; exact lfs_57
  have gfs_60_1 : fs_60[1]? = some (.int 0) := by rw [efs_60, List.getElem?_set_ne (show (42 : Nat) ≠ 1 by decide)]; exact gfs_57_1
  have gfs_60_4 : fs_60[4]? = some (.int 0) := by rw [efs_60, List.getElem?_set_ne (show (42 : Nat) ≠ 4 by decide)]; exact gfs_57_4
  have gfs_60_5 : fs_60[5]? = some (.int 0) := by rw [efs_60, List.getElem?_set_ne (show (42 : Nat) ≠ 5 by decide)]; exact gfs_57_5
  have gfs_60_8 : fs_60[8]? = some (.int 0) := by rw [efs_60, List.getElem?_set_ne (show (42 : Nat) ≠ 8 by decide)]; exact gfs_57_8
  have gfs_60_9 : fs_60[9]? = some (.int 0) := by rw [efs_60, List.getElem?_set_ne (show (42 : Nat) ≠ 9 by decide)]; exact gfs_57_9
  have gfs_60_10 : fs_60[10]? = some (.int 0) := by rw [efs_60, List.getElem?_set_ne (show (42 : Nat) ≠ 10 by decide)]; exact gfs_57_10
  have gfs_60_12 : fs_60[12]? = some (.int 0) := by rw [efs_60, List.getElem?_set_ne (show (42 : Nat) ≠ 12 by decide)]; exact gfs_57_12
  have gfs_60_26 : fs_60[26]? = some (.int 0) := by rw [efs_60, List.getElem?_set_ne (show (42 : Nat) ≠ 26 by decide)]; exact gfs_57_26
  have gfs_60_40 : fs_60[40]? = some (.int 0) := by rw [efs_60, List.getElem?_set_ne (show (42 : Nat) ≠ 40 by decide)]; exact gfs_57_40
  have gfs_60_58 : fs_60[58]? = some (.int 0) := by rw [efs_60, List.getElem?_set_ne (show (42 : Nat) ≠ 58 by decide)]; exact gfs_57_58
  have gfs_60_65 : fs_60[65]? = some (.int 0) := by rw [efs_60, List.getElem?_set_ne (show (42 : Nat) ≠ 65 by decide)]; exact gfs_57_65
  have gfs_60_66 : fs_60[66]? = some (.int 0) := by rw [efs_60, List.getElem?_set_ne (show (42 : Nat) ≠ 66 by decide)]; exact gfs_57_66
  have gfs_60_67 : fs_60[67]? = some (.int 0) := by rw [efs_60, List.getElem?_set_ne (show (42 : Nat) ≠ 67 by decide)]; exact gfs_57_67
  have gfs_60_68 : fs_60[68]? = some (.int 0) := by rw [efs_60, List.getElem?_set_ne (show (42 : Nat) ≠ 68 by decide)]; exact gfs_57_68
  have gfs_60_0 : fs_60[0]? = some (.ref q_1) := by rw [efs_60, List.getElem?_set_ne (show (42 : Nat) ≠ 0 by decide)]; exact gfs_57_0
  have gfs_60_2 : fs_60[2]? = some (.ref q_4) := by rw [efs_60, List.getElem?_set_ne (show (42 : Nat) ≠ 2 by decide)]; exact gfs_57_2
  have gfs_60_3 : fs_60[3]? = some (.ref q_7) := by rw [efs_60, List.getElem?_set_ne (show (42 : Nat) ≠ 3 by decide)]; exact gfs_57_3
  have gfs_60_41 : fs_60[41]? = some (.ref q_55) := by rw [efs_60, List.getElem?_set_ne (show (42 : Nat) ≠ 41 by decide)]; exact gfs_57_41
  have gfs_60_42 : fs_60[42]? = some (.ref q_58) := by rw [efs_60]; exact List.getElem?_set_self (by rw [lfs_57]; decide)
  have hP : va_P (dC, dI) vwCl [(h0, .inr (9, fs_60)), (q_1, .inl (k_2, 4000, .inl ((fun _ => 0)))), (q_4, .inl (k_5, 30, .inl ((fun _ => 0)))), (q_7, .inl (k_8, 30, .inl ((fun _ => 0)))), (q_55, .inl (k_56, 22, .inl ((fun _ => 0))))] H := hP
  have hD : va_D A [(h0, .inr (9, fs_60)), (q_1, .inl (k_2, 4000, .inl ((fun _ => 0)))), (q_4, .inl (k_5, 30, .inl ((fun _ => 0)))), (q_7, .inl (k_8, 30, .inl ((fun _ => 0)))), (q_55, .inl (k_56, 22, .inl ((fun _ => 0))))] := hD
  refine lv_aload_n hx hb dX9_init_180 rfl (lv_at hl 0 rfl) ?_
  refine lv_bipush (v := 6) hx hb dX9_init_181 (by decide) ?_
  refine va_newa (atype := .int) (a0 := (6, .inl (fun _ => 0))) (ty := .int) (N' := 6) hx hb (hts (.arrayClass .int) (List.mem_of_getElem? (i := 6) rfl)) rfl hK hP hD hS hA (fun c9 => k_cellI c9 6) (by decide +kernel) (by decide +kernel) (by decide +kernel) (by decide +kernel) (by decide +kernel) dX9_init_183 (fun q_61 k_62 H hK hP hD hS => ?_)
  have hP : va_P (dC, dI) vwCl [(h0, .inr (9, fs_60)), (q_1, .inl (k_2, 4000, .inl ((fun _ => 0)))), (q_4, .inl (k_5, 30, .inl ((fun _ => 0)))), (q_7, .inl (k_8, 30, .inl ((fun _ => 0)))), (q_55, .inl (k_56, 22, .inl ((fun _ => 0)))), (q_61, .inl (k_62, 6, .inl ((fun _ => 0))))] H := hP
  have hD : va_D A [(h0, .inr (9, fs_60)), (q_1, .inl (k_2, 4000, .inl ((fun _ => 0)))), (q_4, .inl (k_5, 30, .inl ((fun _ => 0)))), (q_7, .inl (k_8, 30, .inl ((fun _ => 0)))), (q_55, .inl (k_56, 22, .inl ((fun _ => 0)))), (q_61, .inl (k_62, 6, .inl ((fun _ => 0))))] := hD
  have hK : va_K (dC, dI) vwCl [(k_2, .byte), (k_5, .int), (k_8, .int), (k_56, .int), (k_62, .int)] s := hK
  refine W.widen (k := 21) (n := 28494) (by decide +kernel) (by decide +kernel) ?_
  refine va_putF (D := (dC, dI)) (ci := 9) (v := .ref q_61) (ty := .array .int) (C := RX9) (T := TX9) (N := 69) hx hb hts hinX9 tyX9 tyX9_ok nmX9 hown hK hP hD hS 0 rfl rfl 43 (by decide) (hts (.fieldLink RX9 71 "CensusDeskModel" "firstOut" "[I") (List.mem_of_getElem? (i := 26) rfl)) (fun _ h9 => h9) rfl hin rfl (by decide +kernel) rfl rfl (by rw [lfs_60]; decide) dX9_init_185 (fun H locs hP hD hS => ?_)
  obtain ⟨fs_63, efs_63⟩ : ∃ z : List Value, z = List.set fs_60 43 (.ref q_61) := ⟨_, rfl⟩
  rw [← efs_63] at hP hD
  have lfs_63 : fs_63.length = 69 := by rw [efs_63, List.length_set]; exact lfs_60
  have gfs_63_1 : fs_63[1]? = some (.int 0) := by rw [efs_63, List.getElem?_set_ne (show (43 : Nat) ≠ 1 by decide)]; exact gfs_60_1
  have gfs_63_4 : fs_63[4]? = some (.int 0) := by rw [efs_63, List.getElem?_set_ne (show (43 : Nat) ≠ 4 by decide)]; exact gfs_60_4
  have gfs_63_5 : fs_63[5]? = some (.int 0) := by rw [efs_63, List.getElem?_set_ne (show (43 : Nat) ≠ 5 by decide)]; exact gfs_60_5
  have gfs_63_8 : fs_63[8]? = some (.int 0) := by rw [efs_63, List.getElem?_set_ne (show (43 : Nat) ≠ 8 by decide)]; exact gfs_60_8
  have gfs_63_9 : fs_63[9]? = some (.int 0) := by rw [efs_63, List.getElem?_set_ne (show (43 : Nat) ≠ 9 by decide)]; exact gfs_60_9
  have gfs_63_10 : fs_63[10]? = some (.int 0) := by rw [efs_63, List.getElem?_set_ne (show (43 : Nat) ≠ 10 by decide)]; exact gfs_60_10
  have gfs_63_12 : fs_63[12]? = some (.int 0) := by rw [efs_63, List.getElem?_set_ne (show (43 : Nat) ≠ 12 by decide)]; exact gfs_60_12
  have gfs_63_26 : fs_63[26]? = some (.int 0) := by rw [efs_63, List.getElem?_set_ne (show (43 : Nat) ≠ 26 by decide)]; exact gfs_60_26
  have gfs_63_40 : fs_63[40]? = some (.int 0) := by rw [efs_63, List.getElem?_set_ne (show (43 : Nat) ≠ 40 by decide)]; exact gfs_60_40
  have gfs_63_58 : fs_63[58]? = some (.int 0) := by rw [efs_63, List.getElem?_set_ne (show (43 : Nat) ≠ 58 by decide)]; exact gfs_60_58
  have gfs_63_65 : fs_63[65]? = some (.int 0) := by rw [efs_63, List.getElem?_set_ne (show (43 : Nat) ≠ 65 by decide)]; exact gfs_60_65
  have gfs_63_66 : fs_63[66]? = some (.int 0) := by rw [efs_63, List.getElem?_set_ne (show (43 : Nat) ≠ 66 by decide)]; exact gfs_60_66
  have gfs_63_67 : fs_63[67]? = some (.int 0) := by rw [efs_63, List.getElem?_set_ne (show (43 : Nat) ≠ 67 by decide)]; exact gfs_60_67
  have gfs_63_68 : fs_63[68]? = some (.int 0) := by rw [efs_63, List.getElem?_set_ne (show (43 : Nat) ≠ 68 by decide)]; exact gfs_60_68
  have gfs_63_0 : fs_63[0]? = some (.ref q_1) := by rw [efs_63, List.getElem?_set_ne (show (43 : Nat) ≠ 0 by decide)]; exact gfs_60_0
  have gfs_63_2 : fs_63[2]? = some (.ref q_4) := by rw [efs_63, List.getElem?_set_ne (show (43 : Nat) ≠ 2 by decide)]; exact gfs_60_2
  have gfs_63_3 : fs_63[3]? = some (.ref q_7) := by rw [efs_63, List.getElem?_set_ne (show (43 : Nat) ≠ 3 by decide)]; exact gfs_60_3
  have gfs_63_41 : fs_63[41]? = some (.ref q_55) := by rw [efs_63, List.getElem?_set_ne (show (43 : Nat) ≠ 41 by decide)]; exact gfs_60_41
  have gfs_63_43 : fs_63[43]? = some (.ref q_61) := by rw [efs_63]; exact List.getElem?_set_self (by rw [lfs_60]; decide)
  have hP : va_P (dC, dI) vwCl [(h0, .inr (9, fs_63)), (q_1, .inl (k_2, 4000, .inl ((fun _ => 0)))), (q_4, .inl (k_5, 30, .inl ((fun _ => 0)))), (q_7, .inl (k_8, 30, .inl ((fun _ => 0)))), (q_55, .inl (k_56, 22, .inl ((fun _ => 0)))), (q_61, .inl (k_62, 6, .inl ((fun _ => 0))))] H := hP
  have hD : va_D A [(h0, .inr (9, fs_63)), (q_1, .inl (k_2, 4000, .inl ((fun _ => 0)))), (q_4, .inl (k_5, 30, .inl ((fun _ => 0)))), (q_7, .inl (k_8, 30, .inl ((fun _ => 0)))), (q_55, .inl (k_56, 22, .inl ((fun _ => 0)))), (q_61, .inl (k_62, 6, .inl ((fun _ => 0))))] := hD
  refine lv_aload_n hx hb dX9_init_188 rfl (lv_at hl 0 rfl) ?_
  refine lv_sipush (v := 4000) hx hb dX9_init_189 (by decide) ?_
  refine va_newa (atype := .int) (a0 := (4000, .inl (fun _ => 0))) (ty := .int) (N' := 4000) hx hb (hts (.arrayClass .int) (List.mem_of_getElem? (i := 6) rfl)) rfl hK hP hD hS hA (fun c9 => k_cellI c9 4000) (by decide +kernel) (by decide +kernel) (by decide +kernel) (by decide +kernel) (by decide +kernel) dX9_init_192 (fun q_64 k_65 H hK hP hD hS => ?_)
  have hP := hP.sub (ws' := [(h0, .inr (9, fs_63)), (q_1, .inl (k_2, 4000, .inl ((fun _ => 0)))), (q_4, .inl (k_5, 30, .inl ((fun _ => 0)))), (q_7, .inl (k_8, 30, .inl ((fun _ => 0)))), (q_55, .inl (k_56, 22, .inl ((fun _ => 0)))), (q_61, .inl (k_62, 6, .inl ((fun _ => 0))))]) [0, 1, 2, 3, 4, 5] rfl
  have hD := hD.sub (ws' := [(h0, .inr (9, fs_63)), (q_1, .inl (k_2, 4000, .inl ((fun _ => 0)))), (q_4, .inl (k_5, 30, .inl ((fun _ => 0)))), (q_7, .inl (k_8, 30, .inl ((fun _ => 0)))), (q_55, .inl (k_56, 22, .inl ((fun _ => 0)))), (q_61, .inl (k_62, 6, .inl ((fun _ => 0))))]) [0, 1, 2, 3, 4, 5] (by decide) rfl
  have hK := hK.sub (tys' := [(k_2, .byte), (k_5, .int), (k_8, .int), (k_56, .int), (k_62, .int)]) [0, 1, 2, 3, 4] rfl
  refine W.widen (k := 22) (n := 32494) (by decide +kernel) (by decide +kernel) ?_
  refine va_putF (D := (dC, dI)) (ci := 9) (v := .ref q_64) (ty := .array .int) (C := RX9) (T := TX9) (N := 69) hx hb hts hinX9 tyX9 tyX9_ok nmX9 hown hK hP hD hS 0 rfl rfl 46 (by decide) (hts (.fieldLink RX9 74 "CensusDeskModel" "sign" "[I") (List.mem_of_getElem? (i := 27) rfl)) (fun _ h9 => h9) rfl hin rfl (by decide +kernel) rfl rfl (by rw [lfs_63]; decide) dX9_init_194 (fun H locs hP hD hS => ?_)
  obtain ⟨fs_66, efs_66⟩ : ∃ z : List Value, z = List.set fs_63 46 (.ref q_64) := ⟨_, rfl⟩
  rw [← efs_66] at hP hD
  have lfs_66 : fs_66.length = 69 := by rw [efs_66, List.length_set]; exact lfs_63
  have gfs_66_1 : fs_66[1]? = some (.int 0) := by rw [efs_66, List.getElem?_set_ne (show (46 : Nat) ≠ 1 by decide)]; exact gfs_63_1
  have gfs_66_4 : fs_66[4]? = some (.int 0) := by rw [efs_66, List.getElem?_set_ne (show (46 : Nat) ≠ 4 by decide)]; exact gfs_63_4
  have gfs_66_5 : fs_66[5]? = some (.int 0) := by rw [efs_66, List.getElem?_set_ne (show (46 : Nat) ≠ 5 by decide)]; exact gfs_63_5
  have gfs_66_8 : fs_66[8]? = some (.int 0) := by rw [efs_66, List.getElem?_set_ne (show (46 : Nat) ≠ 8 by decide)]; exact gfs_63_8
  have gfs_66_9 : fs_66[9]? = some (.int 0) := by rw [efs_66, List.getElem?_set_ne (show (46 : Nat) ≠ 9 by decide)]; exact gfs_63_9
  have gfs_66_10 : fs_66[10]? = some (.int 0) := by rw [efs_66, List.getElem?_set_ne (show (46 : Nat) ≠ 10 by decide)]; exact gfs_63_10
  have gfs_66_12 : fs_66[12]? = some (.int 0) := by rw [efs_66, List.getElem?_set_ne (show (46 : Nat) ≠ 12 by decide)]; exact gfs_63_12
  have gfs_66_26 : fs_66[26]? = some (.int 0) := by rw [efs_66, List.getElem?_set_ne (show (46 : Nat) ≠ 26 by decide)]; exact gfs_63_26
  have gfs_66_40 : fs_66[40]? = some (.int 0) := by rw [efs_66, List.getElem?_set_ne (show (46 : Nat) ≠ 40 by decide)]; exact gfs_63_40
  have gfs_66_58 : fs_66[58]? = some (.int 0) := by rw [efs_66, List.getElem?_set_ne (show (46 : Nat) ≠ 58 by decide)]; exact gfs_63_58
  have gfs_66_65 : fs_66[65]? = some (.int 0) := by rw [efs_66, List.getElem?_set_ne (show (46 : Nat) ≠ 65 by decide)]; exact gfs_63_65
  have gfs_66_66 : fs_66[66]? = some (.int 0) := by rw [efs_66, List.getElem?_set_ne (show (46 : Nat) ≠ 66 by decide)]; exact gfs_63_66
  have gfs_66_67 : fs_66[67]? = some (.int 0) := by rw [efs_66, List.getElem?_set_ne (show (46 : Nat) ≠ 67 by decide)]; exact gfs_63_67
  have gfs_66_68 : fs_66[68]? = some (.int 0) := by rw [efs_66, List.getElem?_set_ne (show (46 : Nat) ≠ 68 by decide)]; exact gfs_63_68
  have gfs_66_0 : fs_66[0]? = some (.ref q_1) := by rw [efs_66, List.getElem?_set_ne (show (46 : Nat) ≠ 0 by decide)]; exact gfs_63_0
  have gfs_66_2 : fs_66[2]? = some (.ref q_4) := by rw [efs_66, List.getElem?_set_ne (show (46 : Nat) ≠ 2 by decide)]; exact gfs_63_2
  have gfs_66_3 : fs_66[3]? = some (.ref q_7) := by rw [efs_66, List.getElem?_set_ne (show (46 : Nat) ≠ 3 by decide)]; exact gfs_63_3
  have gfs_66_41 : fs_66[41]? = some (.ref q_55) := by rw [efs_66, List.getElem?_set_ne (show (46 : Nat) ≠ 41 by decide)]; exact gfs_63_41
  have gfs_66_43 : fs_66[43]? = some (.ref q_61) := by rw [efs_66, List.getElem?_set_ne (show (46 : Nat) ≠ 43 by decide)]; exact gfs_63_43
  have gfs_66_46 : fs_66[46]? = some (.ref q_64) := by rw [efs_66]; exact List.getElem?_set_self (by rw [lfs_63]; decide)
  have hP : va_P (dC, dI) vwCl [(h0, .inr (9, fs_66)), (q_1, .inl (k_2, 4000, .inl ((fun _ => 0)))), (q_4, .inl (k_5, 30, .inl ((fun _ => 0)))), (q_7, .inl (k_8, 30, .inl ((fun _ => 0)))), (q_55, .inl (k_56, 22, .inl ((fun _ => 0)))), (q_61, .inl (k_62, 6, .inl ((fun _ => 0))))] H := hP
  have hD : va_D A [(h0, .inr (9, fs_66)), (q_1, .inl (k_2, 4000, .inl ((fun _ => 0)))), (q_4, .inl (k_5, 30, .inl ((fun _ => 0)))), (q_7, .inl (k_8, 30, .inl ((fun _ => 0)))), (q_55, .inl (k_56, 22, .inl ((fun _ => 0)))), (q_61, .inl (k_62, 6, .inl ((fun _ => 0))))] := hD
  refine lv_aload_n hx hb dX9_init_197 rfl (lv_at hl 0 rfl) ?_
  refine lv_sipush (v := 4000) hx hb dX9_init_198 (by decide) ?_
  refine va_newa (atype := .int) (a0 := (4000, .inl (fun _ => 0))) (ty := .int) (N' := 4000) hx hb (hts (.arrayClass .int) (List.mem_of_getElem? (i := 6) rfl)) rfl hK hP hD hS hA (fun c9 => k_cellI c9 4000) (by decide +kernel) (by decide +kernel) (by decide +kernel) (by decide +kernel) (by decide +kernel) dX9_init_201 (fun q_67 k_68 H hK hP hD hS => ?_)
  have hP := hP.sub (ws' := [(h0, .inr (9, fs_66)), (q_1, .inl (k_2, 4000, .inl ((fun _ => 0)))), (q_4, .inl (k_5, 30, .inl ((fun _ => 0)))), (q_7, .inl (k_8, 30, .inl ((fun _ => 0)))), (q_55, .inl (k_56, 22, .inl ((fun _ => 0)))), (q_61, .inl (k_62, 6, .inl ((fun _ => 0))))]) [0, 1, 2, 3, 4, 5] rfl
  have hD := hD.sub (ws' := [(h0, .inr (9, fs_66)), (q_1, .inl (k_2, 4000, .inl ((fun _ => 0)))), (q_4, .inl (k_5, 30, .inl ((fun _ => 0)))), (q_7, .inl (k_8, 30, .inl ((fun _ => 0)))), (q_55, .inl (k_56, 22, .inl ((fun _ => 0)))), (q_61, .inl (k_62, 6, .inl ((fun _ => 0))))]) [0, 1, 2, 3, 4, 5] (by decide) rfl
  have hK := hK.sub (tys' := [(k_2, .byte), (k_5, .int), (k_8, .int), (k_56, .int), (k_62, .int)]) [0, 1, 2, 3, 4] rfl
  refine W.widen (k := 23) (n := 36494) (by decide +kernel) (by decide +kernel) ?_
  refine va_putF (D := (dC, dI)) (ci := 9) (v := .ref q_67) (ty := .array .int) (C := RX9) (T := TX9) (N := 69) hx hb hts hinX9 tyX9 tyX9_ok nmX9 hown hK hP hD hS 0 rfl rfl 47 (by decide) (hts (.fieldLink RX9 77 "CensusDeskModel" "signAt" "[I") (List.mem_of_getElem? (i := 28) rfl)) (fun _ h9 => h9) rfl hin rfl (by decide +kernel) rfl rfl (by rw [lfs_66]; decide) dX9_init_203 (fun H locs hP hD hS => ?_)
  obtain ⟨fs_69, efs_69⟩ : ∃ z : List Value, z = List.set fs_66 47 (.ref q_67) := ⟨_, rfl⟩
  rw [← efs_69] at hP hD
  have lfs_69 : fs_69.length = 69 := by rw [efs_69, List.length_set]; exact lfs_66
  have gfs_69_1 : fs_69[1]? = some (.int 0) := by rw [efs_69, List.getElem?_set_ne (show (47 : Nat) ≠ 1 by decide)]; exact gfs_66_1
  have gfs_69_4 : fs_69[4]? = some (.int 0) := by rw [efs_69, List.getElem?_set_ne (show (47 : Nat) ≠ 4 by decide)]; exact gfs_66_4
  have gfs_69_5 : fs_69[5]? = some (.int 0) := by rw [efs_69, List.getElem?_set_ne (show (47 : Nat) ≠ 5 by decide)]; exact gfs_66_5
  have gfs_69_8 : fs_69[8]? = some (.int 0) := by rw [efs_69, List.getElem?_set_ne (show (47 : Nat) ≠ 8 by decide)]; exact gfs_66_8
  have gfs_69_9 : fs_69[9]? = some (.int 0) := by rw [efs_69, List.getElem?_set_ne (show (47 : Nat) ≠ 9 by decide)]; exact gfs_66_9
  have gfs_69_10 : fs_69[10]? = some (.int 0) := by rw [efs_69, List.getElem?_set_ne (show (47 : Nat) ≠ 10 by decide)]; exact gfs_66_10
  have gfs_69_12 : fs_69[12]? = some (.int 0) := by rw [efs_69, List.getElem?_set_ne (show (47 : Nat) ≠ 12 by decide)]; exact gfs_66_12
  have gfs_69_26 : fs_69[26]? = some (.int 0) := by rw [efs_69, List.getElem?_set_ne (show (47 : Nat) ≠ 26 by decide)]; exact gfs_66_26
  have gfs_69_40 : fs_69[40]? = some (.int 0) := by rw [efs_69, List.getElem?_set_ne (show (47 : Nat) ≠ 40 by decide)]; exact gfs_66_40
  have gfs_69_58 : fs_69[58]? = some (.int 0) := by rw [efs_69, List.getElem?_set_ne (show (47 : Nat) ≠ 58 by decide)]; exact gfs_66_58
  have gfs_69_65 : fs_69[65]? = some (.int 0) := by rw [efs_69, List.getElem?_set_ne (show (47 : Nat) ≠ 65 by decide)]; exact gfs_66_65
  have gfs_69_66 : fs_69[66]? = some (.int 0) := by rw [efs_69, List.getElem?_set_ne (show (47 : Nat) ≠ 66 by decide)]; exact gfs_66_66
  have gfs_69_67 : fs_69[67]? = some (.int 0) := by rw [efs_69, List.getElem?_set_ne (show (47 : Nat) ≠ 67 by decide)]; exact gfs_66_67
  have gfs_69_68 : fs_69[68]? = some (.int 0) := by rw [efs_69, List.getElem?_set_ne (show (47 : Nat) ≠ 68 by decide)]; exact gfs_66_68
  have gfs_69_0 : fs_69[0]? = some (.ref q_1) := by rw [efs_69, List.getElem?_set_ne (show (47 : Nat) ≠ 0 by decide)]; exact gfs_66_0
  have gfs_69_2 : fs_69[2]? = some (.ref q_4) := by rw [efs_69, List.getElem?_set_ne (show (47 : Nat) ≠ 2 by decide)]; exact gfs_66_2
  have gfs_69_3 : fs_69[3]? = some (.ref q_7) := by rw [efs_69, List.getElem?_set_ne (show (47 : Nat) ≠ 3 by decide)]; exact gfs_66_3
  have gfs_69_41 : fs_69[41]? = some (.ref q_55) := by rw [efs_69, List.getElem?_set_ne (show (47 : Nat) ≠ 41 by decide)]; exact gfs_66_41
  have gfs_69_43 : fs_69[43]? = some (.ref q_61) := by rw [efs_69, List.getElem?_set_ne (show (47 : Nat) ≠ 43 by decide)]; exact gfs_66_43
  have gfs_69_47 : fs_69[47]? = some (.ref q_67) := by rw [efs_69]; exact List.getElem?_set_self (by rw [lfs_66]; decide)
  have hP : va_P (dC, dI) vwCl [(h0, .inr (9, fs_69)), (q_1, .inl (k_2, 4000, .inl ((fun _ => 0)))), (q_4, .inl (k_5, 30, .inl ((fun _ => 0)))), (q_7, .inl (k_8, 30, .inl ((fun _ => 0)))), (q_55, .inl (k_56, 22, .inl ((fun _ => 0)))), (q_61, .inl (k_62, 6, .inl ((fun _ => 0))))] H := hP
  have hD : va_D A [(h0, .inr (9, fs_69)), (q_1, .inl (k_2, 4000, .inl ((fun _ => 0)))), (q_4, .inl (k_5, 30, .inl ((fun _ => 0)))), (q_7, .inl (k_8, 30, .inl ((fun _ => 0)))), (q_55, .inl (k_56, 22, .inl ((fun _ => 0)))), (q_61, .inl (k_62, 6, .inl ((fun _ => 0))))] := hD
  refine lv_aload_n hx hb dX9_init_206 rfl (lv_at hl 0 rfl) ?_
  refine lv_iconst (v := 4) hx hb dX9_init_207 (by decide) ?_
  refine va_newa (atype := .int) (a0 := (4, .inl (fun _ => 0))) (ty := .int) (N' := 4) hx hb (hts (.arrayClass .int) (List.mem_of_getElem? (i := 6) rfl)) rfl hK hP hD hS hA (fun c9 => k_cellI c9 4) (by decide +kernel) (by decide +kernel) (by decide +kernel) (by decide +kernel) (by decide +kernel) dX9_init_208 (fun q_70 k_71 H hK hP hD hS => ?_)
  have hP := hP.sub (ws' := [(h0, .inr (9, fs_69)), (q_1, .inl (k_2, 4000, .inl ((fun _ => 0)))), (q_4, .inl (k_5, 30, .inl ((fun _ => 0)))), (q_7, .inl (k_8, 30, .inl ((fun _ => 0)))), (q_55, .inl (k_56, 22, .inl ((fun _ => 0)))), (q_61, .inl (k_62, 6, .inl ((fun _ => 0))))]) [0, 1, 2, 3, 4, 5] rfl
  have hD := hD.sub (ws' := [(h0, .inr (9, fs_69)), (q_1, .inl (k_2, 4000, .inl ((fun _ => 0)))), (q_4, .inl (k_5, 30, .inl ((fun _ => 0)))), (q_7, .inl (k_8, 30, .inl ((fun _ => 0)))), (q_55, .inl (k_56, 22, .inl ((fun _ => 0)))), (q_61, .inl (k_62, 6, .inl ((fun _ => 0))))]) [0, 1, 2, 3, 4, 5] (by decide) rfl
  have hK := hK.sub (tys' := [(k_2, .byte), (k_5, .int), (k_8, .int), (k_56, .int), (k_62, .int)]) [0, 1, 2, 3, 4] rfl
  refine W.widen (k := 24) (n := 36498) (by decide +kernel) (by decide +kernel) ?_
  refine va_putF (D := (dC, dI)) (ci := 9) (v := .ref q_70) (ty := .array .int) (C := RX9) (T := TX9) (N := 69) hx hb hts hinX9 tyX9 tyX9_ok nmX9 hown hK hP hD hS 0 rfl rfl 52 (by decide) (hts (.fieldLink RX9 80 "CensusDeskModel" "fields" "[I") (List.mem_of_getElem? (i := 29) rfl)) (fun _ h9 => h9) rfl hin rfl (by decide +kernel) rfl rfl (by rw [lfs_69]; decide) dX9_init_210 (fun H locs hP hD hS => ?_)
  obtain ⟨fs_72, efs_72⟩ : ∃ z : List Value, z = List.set fs_69 52 (.ref q_70) := ⟨_, rfl⟩
  rw [← efs_72] at hP hD
  have lfs_72 : fs_72.length = 69 := by rw [efs_72, List.length_set]; exact lfs_69
  have gfs_72_1 : fs_72[1]? = some (.int 0) := by rw [efs_72, List.getElem?_set_ne (show (52 : Nat) ≠ 1 by decide)]; exact gfs_69_1
  have gfs_72_4 : fs_72[4]? = some (.int 0) := by rw [efs_72, List.getElem?_set_ne (show (52 : Nat) ≠ 4 by decide)]; exact gfs_69_4
  have gfs_72_5 : fs_72[5]? = some (.int 0) := by rw [efs_72, List.getElem?_set_ne (show (52 : Nat) ≠ 5 by decide)]; exact gfs_69_5
  have gfs_72_8 : fs_72[8]? = some (.int 0) := by rw [efs_72, List.getElem?_set_ne (show (52 : Nat) ≠ 8 by decide)]; exact gfs_69_8
  have gfs_72_9 : fs_72[9]? = some (.int 0) := by rw [efs_72, List.getElem?_set_ne (show (52 : Nat) ≠ 9 by decide)]; exact gfs_69_9
  have gfs_72_10 : fs_72[10]? = some (.int 0) := by rw [efs_72, List.getElem?_set_ne (show (52 : Nat) ≠ 10 by decide)]; exact gfs_69_10
  have gfs_72_12 : fs_72[12]? = some (.int 0) := by rw [efs_72, List.getElem?_set_ne (show (52 : Nat) ≠ 12 by decide)]; exact gfs_69_12
  have gfs_72_26 : fs_72[26]? = some (.int 0) := by rw [efs_72, List.getElem?_set_ne (show (52 : Nat) ≠ 26 by decide)]; exact gfs_69_26
  have gfs_72_40 : fs_72[40]? = some (.int 0) := by rw [efs_72, List.getElem?_set_ne (show (52 : Nat) ≠ 40 by decide)]; exact gfs_69_40
  have gfs_72_58 : fs_72[58]? = some (.int 0) := by rw [efs_72, List.getElem?_set_ne (show (52 : Nat) ≠ 58 by decide)]; exact gfs_69_58
  have gfs_72_65 : fs_72[65]? = some (.int 0) := by rw [efs_72, List.getElem?_set_ne (show (52 : Nat) ≠ 65 by decide)]; exact gfs_69_65
  have gfs_72_66 : fs_72[66]? = some (.int 0) := by rw [efs_72, List.getElem?_set_ne (show (52 : Nat) ≠ 66 by decide)]; exact gfs_69_66
  have gfs_72_67 : fs_72[67]? = some (.int 0) := by rw [efs_72, List.getElem?_set_ne (show (52 : Nat) ≠ 67 by decide)]; exact gfs_69_67
  have gfs_72_68 : fs_72[68]? = some (.int 0) := by rw [efs_72, List.getElem?_set_ne (show (52 : Nat) ≠ 68 by decide)]; exact gfs_69_68
  have gfs_72_0 : fs_72[0]? = some (.ref q_1) := by rw [efs_72, List.getElem?_set_ne (show (52 : Nat) ≠ 0 by decide)]; exact gfs_69_0
  have gfs_72_2 : fs_72[2]? = some (.ref q_4) := by rw [efs_72, List.getElem?_set_ne (show (52 : Nat) ≠ 2 by decide)]; exact gfs_69_2
  have gfs_72_3 : fs_72[3]? = some (.ref q_7) := by rw [efs_72, List.getElem?_set_ne (show (52 : Nat) ≠ 3 by decide)]; exact gfs_69_3
  have gfs_72_41 : fs_72[41]? = some (.ref q_55) := by rw [efs_72, List.getElem?_set_ne (show (52 : Nat) ≠ 41 by decide)]; exact gfs_69_41
  have gfs_72_43 : fs_72[43]? = some (.ref q_61) := by rw [efs_72, List.getElem?_set_ne (show (52 : Nat) ≠ 43 by decide)]; exact gfs_69_43
  have gfs_72_52 : fs_72[52]? = some (.ref q_70) := by rw [efs_72]; exact List.getElem?_set_self (by rw [lfs_69]; decide)
  have hP : va_P (dC, dI) vwCl [(h0, .inr (9, fs_72)), (q_1, .inl (k_2, 4000, .inl ((fun _ => 0)))), (q_4, .inl (k_5, 30, .inl ((fun _ => 0)))), (q_7, .inl (k_8, 30, .inl ((fun _ => 0)))), (q_55, .inl (k_56, 22, .inl ((fun _ => 0)))), (q_61, .inl (k_62, 6, .inl ((fun _ => 0))))] H := hP
  have hD : va_D A [(h0, .inr (9, fs_72)), (q_1, .inl (k_2, 4000, .inl ((fun _ => 0)))), (q_4, .inl (k_5, 30, .inl ((fun _ => 0)))), (q_7, .inl (k_8, 30, .inl ((fun _ => 0)))), (q_55, .inl (k_56, 22, .inl ((fun _ => 0)))), (q_61, .inl (k_62, 6, .inl ((fun _ => 0))))] := hD
  refine lv_aload_n hx hb dX9_init_213 rfl (lv_at hl 0 rfl) ?_
  refine lv_bipush (v := 60) hx hb dX9_init_214 (by decide) ?_
  refine va_newa (atype := .int) (a0 := (60, .inl (fun _ => 0))) (ty := .int) (N' := 60) hx hb (hts (.arrayClass .int) (List.mem_of_getElem? (i := 6) rfl)) rfl hK hP hD hS hA (fun c9 => k_cellI c9 60) (by decide +kernel) (by decide +kernel) (by decide +kernel) (by decide +kernel) (by decide +kernel) dX9_init_216 (fun q_73 k_74 H hK hP hD hS => ?_)
  have hP := hP.sub (ws' := [(h0, .inr (9, fs_72)), (q_1, .inl (k_2, 4000, .inl ((fun _ => 0)))), (q_4, .inl (k_5, 30, .inl ((fun _ => 0)))), (q_7, .inl (k_8, 30, .inl ((fun _ => 0)))), (q_55, .inl (k_56, 22, .inl ((fun _ => 0)))), (q_61, .inl (k_62, 6, .inl ((fun _ => 0))))]) [0, 1, 2, 3, 4, 5] rfl
  have hD := hD.sub (ws' := [(h0, .inr (9, fs_72)), (q_1, .inl (k_2, 4000, .inl ((fun _ => 0)))), (q_4, .inl (k_5, 30, .inl ((fun _ => 0)))), (q_7, .inl (k_8, 30, .inl ((fun _ => 0)))), (q_55, .inl (k_56, 22, .inl ((fun _ => 0)))), (q_61, .inl (k_62, 6, .inl ((fun _ => 0))))]) [0, 1, 2, 3, 4, 5] (by decide) rfl
  have hK := hK.sub (tys' := [(k_2, .byte), (k_5, .int), (k_8, .int), (k_56, .int), (k_62, .int)]) [0, 1, 2, 3, 4] rfl
  refine W.widen (k := 25) (n := 36558) (by decide +kernel) (by decide +kernel) ?_
  refine va_putF (D := (dC, dI)) (ci := 9) (v := .ref q_73) (ty := .array .int) (C := RX9) (T := TX9) (N := 69) hx hb hts hinX9 tyX9 tyX9_ok nmX9 hown hK hP hD hS 0 rfl rfl 53 (by decide) (hts (.fieldLink RX9 83 "CensusDeskModel" "bNumber" "[I") (List.mem_of_getElem? (i := 30) rfl)) (fun _ h9 => h9) rfl hin rfl (by decide +kernel) rfl rfl (by rw [lfs_72]; decide) dX9_init_218 (fun H locs hP hD hS => ?_)
  obtain ⟨fs_75, efs_75⟩ : ∃ z : List Value, z = List.set fs_72 53 (.ref q_73) := ⟨_, rfl⟩
  rw [← efs_75] at hP hD
  have lfs_75 : fs_75.length = 69 := by rw [efs_75, List.length_set]; exact lfs_72
  have gfs_75_1 : fs_75[1]? = some (.int 0) := by rw [efs_75, List.getElem?_set_ne (show (53 : Nat) ≠ 1 by decide)]; exact gfs_72_1
  have gfs_75_4 : fs_75[4]? = some (.int 0) := by rw [efs_75, List.getElem?_set_ne (show (53 : Nat) ≠ 4 by decide)]; exact gfs_72_4
  have gfs_75_5 : fs_75[5]? = some (.int 0) := by rw [efs_75, List.getElem?_set_ne (show (53 : Nat) ≠ 5 by decide)]; exact gfs_72_5
  have gfs_75_8 : fs_75[8]? = some (.int 0) := by rw [efs_75, List.getElem?_set_ne (show (53 : Nat) ≠ 8 by decide)]; exact gfs_72_8
  have gfs_75_9 : fs_75[9]? = some (.int 0) := by rw [efs_75, List.getElem?_set_ne (show (53 : Nat) ≠ 9 by decide)]; exact gfs_72_9
  have gfs_75_10 : fs_75[10]? = some (.int 0) := by rw [efs_75, List.getElem?_set_ne (show (53 : Nat) ≠ 10 by decide)]; exact gfs_72_10
  have gfs_75_12 : fs_75[12]? = some (.int 0) := by rw [efs_75, List.getElem?_set_ne (show (53 : Nat) ≠ 12 by decide)]; exact gfs_72_12
  have gfs_75_26 : fs_75[26]? = some (.int 0) := by rw [efs_75, List.getElem?_set_ne (show (53 : Nat) ≠ 26 by decide)]; exact gfs_72_26
  have gfs_75_40 : fs_75[40]? = some (.int 0) := by rw [efs_75, List.getElem?_set_ne (show (53 : Nat) ≠ 40 by decide)]; exact gfs_72_40
  have gfs_75_58 : fs_75[58]? = some (.int 0) := by rw [efs_75, List.getElem?_set_ne (show (53 : Nat) ≠ 58 by decide)]; exact gfs_72_58
  have gfs_75_65 : fs_75[65]? = some (.int 0) := by rw [efs_75, List.getElem?_set_ne (show (53 : Nat) ≠ 65 by decide)]; exact gfs_72_65
  have gfs_75_66 : fs_75[66]? = some (.int 0) := by rw [efs_75, List.getElem?_set_ne (show (53 : Nat) ≠ 66 by decide)]; exact gfs_72_66
  have gfs_75_67 : fs_75[67]? = some (.int 0) := by rw [efs_75, List.getElem?_set_ne (show (53 : Nat) ≠ 67 by decide)]; exact gfs_72_67
  have gfs_75_68 : fs_75[68]? = some (.int 0) := by rw [efs_75, List.getElem?_set_ne (show (53 : Nat) ≠ 68 by decide)]; exact gfs_72_68
  have gfs_75_0 : fs_75[0]? = some (.ref q_1) := by rw [efs_75, List.getElem?_set_ne (show (53 : Nat) ≠ 0 by decide)]; exact gfs_72_0
  have gfs_75_2 : fs_75[2]? = some (.ref q_4) := by rw [efs_75, List.getElem?_set_ne (show (53 : Nat) ≠ 2 by decide)]; exact gfs_72_2
  have gfs_75_3 : fs_75[3]? = some (.ref q_7) := by rw [efs_75, List.getElem?_set_ne (show (53 : Nat) ≠ 3 by decide)]; exact gfs_72_3
  have gfs_75_41 : fs_75[41]? = some (.ref q_55) := by rw [efs_75, List.getElem?_set_ne (show (53 : Nat) ≠ 41 by decide)]; exact gfs_72_41
  have gfs_75_43 : fs_75[43]? = some (.ref q_61) := by rw [efs_75, List.getElem?_set_ne (show (53 : Nat) ≠ 43 by decide)]; exact gfs_72_43
  have gfs_75_53 : fs_75[53]? = some (.ref q_73) := by rw [efs_75]; exact List.getElem?_set_self (by rw [lfs_72]; decide)
  have hP : va_P (dC, dI) vwCl [(h0, .inr (9, fs_75)), (q_1, .inl (k_2, 4000, .inl ((fun _ => 0)))), (q_4, .inl (k_5, 30, .inl ((fun _ => 0)))), (q_7, .inl (k_8, 30, .inl ((fun _ => 0)))), (q_55, .inl (k_56, 22, .inl ((fun _ => 0)))), (q_61, .inl (k_62, 6, .inl ((fun _ => 0))))] H := hP
  have hD : va_D A [(h0, .inr (9, fs_75)), (q_1, .inl (k_2, 4000, .inl ((fun _ => 0)))), (q_4, .inl (k_5, 30, .inl ((fun _ => 0)))), (q_7, .inl (k_8, 30, .inl ((fun _ => 0)))), (q_55, .inl (k_56, 22, .inl ((fun _ => 0)))), (q_61, .inl (k_62, 6, .inl ((fun _ => 0))))] := hD
  refine lv_aload_n hx hb dX9_init_221 rfl (lv_at hl 0 rfl) ?_
  refine lv_bipush (v := 60) hx hb dX9_init_222 (by decide) ?_
  refine va_newa (atype := .int) (a0 := (60, .inl (fun _ => 0))) (ty := .int) (N' := 60) hx hb (hts (.arrayClass .int) (List.mem_of_getElem? (i := 6) rfl)) rfl hK hP hD hS hA (fun c9 => k_cellI c9 60) (by decide +kernel) (by decide +kernel) (by decide +kernel) (by decide +kernel) (by decide +kernel) dX9_init_224 (fun q_76 k_77 H hK hP hD hS => ?_)
  have hP := hP.sub (ws' := [(h0, .inr (9, fs_75)), (q_1, .inl (k_2, 4000, .inl ((fun _ => 0)))), (q_4, .inl (k_5, 30, .inl ((fun _ => 0)))), (q_7, .inl (k_8, 30, .inl ((fun _ => 0)))), (q_55, .inl (k_56, 22, .inl ((fun _ => 0)))), (q_61, .inl (k_62, 6, .inl ((fun _ => 0))))]) [0, 1, 2, 3, 4, 5] rfl
  have hD := hD.sub (ws' := [(h0, .inr (9, fs_75)), (q_1, .inl (k_2, 4000, .inl ((fun _ => 0)))), (q_4, .inl (k_5, 30, .inl ((fun _ => 0)))), (q_7, .inl (k_8, 30, .inl ((fun _ => 0)))), (q_55, .inl (k_56, 22, .inl ((fun _ => 0)))), (q_61, .inl (k_62, 6, .inl ((fun _ => 0))))]) [0, 1, 2, 3, 4, 5] (by decide) rfl
  have hK := hK.sub (tys' := [(k_2, .byte), (k_5, .int), (k_8, .int), (k_56, .int), (k_62, .int)]) [0, 1, 2, 3, 4] rfl
  refine W.widen (k := 26) (n := 36618) (by decide +kernel) (by decide +kernel) ?_
  refine va_putF (D := (dC, dI)) (ci := 9) (v := .ref q_76) (ty := .array .int) (C := RX9) (T := TX9) (N := 69) hx hb hts hinX9 tyX9 tyX9_ok nmX9 hown hK hP hD hS 0 rfl rfl 54 (by decide) (hts (.fieldLink RX9 86 "CensusDeskModel" "bTold" "[I") (List.mem_of_getElem? (i := 31) rfl)) (fun _ h9 => h9) rfl hin rfl (by decide +kernel) rfl rfl (by rw [lfs_75]; decide) dX9_init_226 (fun H locs hP hD hS => ?_)
  obtain ⟨fs_78, efs_78⟩ : ∃ z : List Value, z = List.set fs_75 54 (.ref q_76) := ⟨_, rfl⟩
  rw [← efs_78] at hP hD
  have lfs_78 : fs_78.length = 69 := by rw [efs_78, List.length_set]; exact lfs_75
  have gfs_78_1 : fs_78[1]? = some (.int 0) := by rw [efs_78, List.getElem?_set_ne (show (54 : Nat) ≠ 1 by decide)]; exact gfs_75_1
  have gfs_78_4 : fs_78[4]? = some (.int 0) := by rw [efs_78, List.getElem?_set_ne (show (54 : Nat) ≠ 4 by decide)]; exact gfs_75_4
  have gfs_78_5 : fs_78[5]? = some (.int 0) := by rw [efs_78, List.getElem?_set_ne (show (54 : Nat) ≠ 5 by decide)]; exact gfs_75_5
  have gfs_78_8 : fs_78[8]? = some (.int 0) := by rw [efs_78, List.getElem?_set_ne (show (54 : Nat) ≠ 8 by decide)]; exact gfs_75_8
  have gfs_78_9 : fs_78[9]? = some (.int 0) := by rw [efs_78, List.getElem?_set_ne (show (54 : Nat) ≠ 9 by decide)]; exact gfs_75_9
  have gfs_78_10 : fs_78[10]? = some (.int 0) := by rw [efs_78, List.getElem?_set_ne (show (54 : Nat) ≠ 10 by decide)]; exact gfs_75_10
  have gfs_78_12 : fs_78[12]? = some (.int 0) := by rw [efs_78, List.getElem?_set_ne (show (54 : Nat) ≠ 12 by decide)]; exact gfs_75_12
  have gfs_78_26 : fs_78[26]? = some (.int 0) := by rw [efs_78, List.getElem?_set_ne (show (54 : Nat) ≠ 26 by decide)]; exact gfs_75_26
  have gfs_78_40 : fs_78[40]? = some (.int 0) := by rw [efs_78, List.getElem?_set_ne (show (54 : Nat) ≠ 40 by decide)]; exact gfs_75_40
  have gfs_78_58 : fs_78[58]? = some (.int 0) := by rw [efs_78, List.getElem?_set_ne (show (54 : Nat) ≠ 58 by decide)]; exact gfs_75_58
  have gfs_78_65 : fs_78[65]? = some (.int 0) := by rw [efs_78, List.getElem?_set_ne (show (54 : Nat) ≠ 65 by decide)]; exact gfs_75_65
  have gfs_78_66 : fs_78[66]? = some (.int 0) := by rw [efs_78, List.getElem?_set_ne (show (54 : Nat) ≠ 66 by decide)]; exact gfs_75_66
  have gfs_78_67 : fs_78[67]? = some (.int 0) := by rw [efs_78, List.getElem?_set_ne (show (54 : Nat) ≠ 67 by decide)]; exact gfs_75_67
  have gfs_78_68 : fs_78[68]? = some (.int 0) := by rw [efs_78, List.getElem?_set_ne (show (54 : Nat) ≠ 68 by decide)]; exact gfs_75_68
  have gfs_78_0 : fs_78[0]? = some (.ref q_1) := by rw [efs_78, List.getElem?_set_ne (show (54 : Nat) ≠ 0 by decide)]; exact gfs_75_0
  have gfs_78_2 : fs_78[2]? = some (.ref q_4) := by rw [efs_78, List.getElem?_set_ne (show (54 : Nat) ≠ 2 by decide)]; exact gfs_75_2
  have gfs_78_3 : fs_78[3]? = some (.ref q_7) := by rw [efs_78, List.getElem?_set_ne (show (54 : Nat) ≠ 3 by decide)]; exact gfs_75_3
  have gfs_78_41 : fs_78[41]? = some (.ref q_55) := by rw [efs_78, List.getElem?_set_ne (show (54 : Nat) ≠ 41 by decide)]; exact gfs_75_41
  have gfs_78_43 : fs_78[43]? = some (.ref q_61) := by rw [efs_78, List.getElem?_set_ne (show (54 : Nat) ≠ 43 by decide)]; exact gfs_75_43
  have gfs_78_54 : fs_78[54]? = some (.ref q_76) := by rw [efs_78]; exact List.getElem?_set_self (by rw [lfs_75]; decide)
  have hP : va_P (dC, dI) vwCl [(h0, .inr (9, fs_78)), (q_1, .inl (k_2, 4000, .inl ((fun _ => 0)))), (q_4, .inl (k_5, 30, .inl ((fun _ => 0)))), (q_7, .inl (k_8, 30, .inl ((fun _ => 0)))), (q_55, .inl (k_56, 22, .inl ((fun _ => 0)))), (q_61, .inl (k_62, 6, .inl ((fun _ => 0))))] H := hP
  have hD : va_D A [(h0, .inr (9, fs_78)), (q_1, .inl (k_2, 4000, .inl ((fun _ => 0)))), (q_4, .inl (k_5, 30, .inl ((fun _ => 0)))), (q_7, .inl (k_8, 30, .inl ((fun _ => 0)))), (q_55, .inl (k_56, 22, .inl ((fun _ => 0)))), (q_61, .inl (k_62, 6, .inl ((fun _ => 0))))] := hD
  refine lv_aload_n hx hb dX9_init_229 rfl (lv_at hl 0 rfl) ?_
  refine lv_bipush (v := 60) hx hb dX9_init_230 (by decide) ?_
  refine va_newa (atype := .int) (a0 := (60, .inl (fun _ => 0))) (ty := .int) (N' := 60) hx hb (hts (.arrayClass .int) (List.mem_of_getElem? (i := 6) rfl)) rfl hK hP hD hS hA (fun c9 => k_cellI c9 60) (by decide +kernel) (by decide +kernel) (by decide +kernel) (by decide +kernel) (by decide +kernel) dX9_init_232 (fun q_79 k_80 H hK hP hD hS => ?_)
  have hP := hP.sub (ws' := [(h0, .inr (9, fs_78)), (q_1, .inl (k_2, 4000, .inl ((fun _ => 0)))), (q_4, .inl (k_5, 30, .inl ((fun _ => 0)))), (q_7, .inl (k_8, 30, .inl ((fun _ => 0)))), (q_55, .inl (k_56, 22, .inl ((fun _ => 0)))), (q_61, .inl (k_62, 6, .inl ((fun _ => 0))))]) [0, 1, 2, 3, 4, 5] rfl
  have hD := hD.sub (ws' := [(h0, .inr (9, fs_78)), (q_1, .inl (k_2, 4000, .inl ((fun _ => 0)))), (q_4, .inl (k_5, 30, .inl ((fun _ => 0)))), (q_7, .inl (k_8, 30, .inl ((fun _ => 0)))), (q_55, .inl (k_56, 22, .inl ((fun _ => 0)))), (q_61, .inl (k_62, 6, .inl ((fun _ => 0))))]) [0, 1, 2, 3, 4, 5] (by decide) rfl
  have hK := hK.sub (tys' := [(k_2, .byte), (k_5, .int), (k_8, .int), (k_56, .int), (k_62, .int)]) [0, 1, 2, 3, 4] rfl
  refine W.widen (k := 27) (n := 36678) (by decide +kernel) (by decide +kernel) ?_
  refine va_putF (D := (dC, dI)) (ci := 9) (v := .ref q_79) (ty := .array .int) (C := RX9) (T := TX9) (N := 69) hx hb hts hinX9 tyX9 tyX9_ok nmX9 hown hK hP hD hS 0 rfl rfl 55 (by decide) (hts (.fieldLink RX9 89 "CensusDeskModel" "bMany" "[I") (List.mem_of_getElem? (i := 32) rfl)) (fun _ h9 => h9) rfl hin rfl (by decide +kernel) rfl rfl (by rw [lfs_78]; decide) dX9_init_234 (fun H locs hP hD hS => ?_)
  obtain ⟨fs_81, efs_81⟩ : ∃ z : List Value, z = List.set fs_78 55 (.ref q_79) := ⟨_, rfl⟩
  rw [← efs_81] at hP hD
  have lfs_81 : fs_81.length = 69 := by rw [efs_81, List.length_set]; exact lfs_78
  have gfs_81_1 : fs_81[1]? = some (.int 0) := by rw [efs_81, List.getElem?_set_ne (show (55 : Nat) ≠ 1 by decide)]; exact gfs_78_1
  have gfs_81_4 : fs_81[4]? = some (.int 0) := by rw [efs_81, List.getElem?_set_ne (show (55 : Nat) ≠ 4 by decide)]; exact gfs_78_4
  have gfs_81_5 : fs_81[5]? = some (.int 0) := by rw [efs_81, List.getElem?_set_ne (show (55 : Nat) ≠ 5 by decide)]; exact gfs_78_5
  have gfs_81_8 : fs_81[8]? = some (.int 0) := by rw [efs_81, List.getElem?_set_ne (show (55 : Nat) ≠ 8 by decide)]; exact gfs_78_8
  have gfs_81_9 : fs_81[9]? = some (.int 0) := by rw [efs_81, List.getElem?_set_ne (show (55 : Nat) ≠ 9 by decide)]; exact gfs_78_9
  have gfs_81_10 : fs_81[10]? = some (.int 0) := by rw [efs_81, List.getElem?_set_ne (show (55 : Nat) ≠ 10 by decide)]; exact gfs_78_10
  have gfs_81_12 : fs_81[12]? = some (.int 0) := by rw [efs_81, List.getElem?_set_ne (show (55 : Nat) ≠ 12 by decide)]; exact gfs_78_12
  have gfs_81_26 : fs_81[26]? = some (.int 0) := by rw [efs_81, List.getElem?_set_ne (show (55 : Nat) ≠ 26 by decide)]; exact gfs_78_26
  have gfs_81_40 : fs_81[40]? = some (.int 0) := by rw [efs_81, List.getElem?_set_ne (show (55 : Nat) ≠ 40 by decide)]; exact gfs_78_40
  have gfs_81_58 : fs_81[58]? = some (.int 0) := by rw [efs_81, List.getElem?_set_ne (show (55 : Nat) ≠ 58 by decide)]; exact gfs_78_58
  have gfs_81_65 : fs_81[65]? = some (.int 0) := by rw [efs_81, List.getElem?_set_ne (show (55 : Nat) ≠ 65 by decide)]; exact gfs_78_65
  have gfs_81_66 : fs_81[66]? = some (.int 0) := by rw [efs_81, List.getElem?_set_ne (show (55 : Nat) ≠ 66 by decide)]; exact gfs_78_66
  have gfs_81_67 : fs_81[67]? = some (.int 0) := by rw [efs_81, List.getElem?_set_ne (show (55 : Nat) ≠ 67 by decide)]; exact gfs_78_67
  have gfs_81_68 : fs_81[68]? = some (.int 0) := by rw [efs_81, List.getElem?_set_ne (show (55 : Nat) ≠ 68 by decide)]; exact gfs_78_68
  have gfs_81_0 : fs_81[0]? = some (.ref q_1) := by rw [efs_81, List.getElem?_set_ne (show (55 : Nat) ≠ 0 by decide)]; exact gfs_78_0
  have gfs_81_2 : fs_81[2]? = some (.ref q_4) := by rw [efs_81, List.getElem?_set_ne (show (55 : Nat) ≠ 2 by decide)]; exact gfs_78_2
  have gfs_81_3 : fs_81[3]? = some (.ref q_7) := by rw [efs_81, List.getElem?_set_ne (show (55 : Nat) ≠ 3 by decide)]; exact gfs_78_3
  have gfs_81_41 : fs_81[41]? = some (.ref q_55) := by rw [efs_81, List.getElem?_set_ne (show (55 : Nat) ≠ 41 by decide)]; exact gfs_78_41
  have gfs_81_43 : fs_81[43]? = some (.ref q_61) := by rw [efs_81, List.getElem?_set_ne (show (55 : Nat) ≠ 43 by decide)]; exact gfs_78_43
  have gfs_81_55 : fs_81[55]? = some (.ref q_79) := by rw [efs_81]; exact List.getElem?_set_self (by rw [lfs_78]; decide)
  have hP : va_P (dC, dI) vwCl [(h0, .inr (9, fs_81)), (q_1, .inl (k_2, 4000, .inl ((fun _ => 0)))), (q_4, .inl (k_5, 30, .inl ((fun _ => 0)))), (q_7, .inl (k_8, 30, .inl ((fun _ => 0)))), (q_55, .inl (k_56, 22, .inl ((fun _ => 0)))), (q_61, .inl (k_62, 6, .inl ((fun _ => 0))))] H := hP
  have hD : va_D A [(h0, .inr (9, fs_81)), (q_1, .inl (k_2, 4000, .inl ((fun _ => 0)))), (q_4, .inl (k_5, 30, .inl ((fun _ => 0)))), (q_7, .inl (k_8, 30, .inl ((fun _ => 0)))), (q_55, .inl (k_56, 22, .inl ((fun _ => 0)))), (q_61, .inl (k_62, 6, .inl ((fun _ => 0))))] := hD
  refine lv_aload_n hx hb dX9_init_237 rfl (lv_at hl 0 rfl) ?_
  refine lv_bipush (v := 60) hx hb dX9_init_238 (by decide) ?_
  refine va_newa (atype := .int) (a0 := (60, .inl (fun _ => 0))) (ty := .int) (N' := 60) hx hb (hts (.arrayClass .int) (List.mem_of_getElem? (i := 6) rfl)) rfl hK hP hD hS hA (fun c9 => k_cellI c9 60) (by decide +kernel) (by decide +kernel) (by decide +kernel) (by decide +kernel) (by decide +kernel) dX9_init_240 (fun q_82 k_83 H hK hP hD hS => ?_)
  have hP := hP.sub (ws' := [(h0, .inr (9, fs_81)), (q_1, .inl (k_2, 4000, .inl ((fun _ => 0)))), (q_4, .inl (k_5, 30, .inl ((fun _ => 0)))), (q_7, .inl (k_8, 30, .inl ((fun _ => 0)))), (q_55, .inl (k_56, 22, .inl ((fun _ => 0)))), (q_61, .inl (k_62, 6, .inl ((fun _ => 0))))]) [0, 1, 2, 3, 4, 5] rfl
  have hD := hD.sub (ws' := [(h0, .inr (9, fs_81)), (q_1, .inl (k_2, 4000, .inl ((fun _ => 0)))), (q_4, .inl (k_5, 30, .inl ((fun _ => 0)))), (q_7, .inl (k_8, 30, .inl ((fun _ => 0)))), (q_55, .inl (k_56, 22, .inl ((fun _ => 0)))), (q_61, .inl (k_62, 6, .inl ((fun _ => 0))))]) [0, 1, 2, 3, 4, 5] (by decide) rfl
  have hK := hK.sub (tys' := [(k_2, .byte), (k_5, .int), (k_8, .int), (k_56, .int), (k_62, .int)]) [0, 1, 2, 3, 4] rfl
  refine W.widen (k := 28) (n := 36738) (by decide +kernel) (by decide +kernel) ?_
  refine va_putF (D := (dC, dI)) (ci := 9) (v := .ref q_82) (ty := .array .int) (C := RX9) (T := TX9) (N := 69) hx hb hts hinX9 tyX9 tyX9_ok nmX9 hown hK hP hD hS 0 rfl rfl 56 (by decide) (hts (.fieldLink RX9 92 "CensusDeskModel" "bFirst" "[I") (List.mem_of_getElem? (i := 33) rfl)) (fun _ h9 => h9) rfl hin rfl (by decide +kernel) rfl rfl (by rw [lfs_81]; decide) dX9_init_242 (fun H locs hP hD hS => ?_)
  obtain ⟨fs_84, efs_84⟩ : ∃ z : List Value, z = List.set fs_81 56 (.ref q_82) := ⟨_, rfl⟩
  rw [← efs_84] at hP hD
  have lfs_84 : fs_84.length = 69 := by rw [efs_84, List.length_set]; exact lfs_81
  have gfs_84_1 : fs_84[1]? = some (.int 0) := by rw [efs_84, List.getElem?_set_ne (show (56 : Nat) ≠ 1 by decide)]; exact gfs_81_1
  have gfs_84_4 : fs_84[4]? = some (.int 0) := by rw [efs_84, List.getElem?_set_ne (show (56 : Nat) ≠ 4 by decide)]; exact gfs_81_4
  have gfs_84_5 : fs_84[5]? = some (.int 0) := by rw [efs_84, List.getElem?_set_ne (show (56 : Nat) ≠ 5 by decide)]; exact gfs_81_5
  have gfs_84_8 : fs_84[8]? = some (.int 0) := by rw [efs_84, List.getElem?_set_ne (show (56 : Nat) ≠ 8 by decide)]; exact gfs_81_8
  have gfs_84_9 : fs_84[9]? = some (.int 0) := by rw [efs_84, List.getElem?_set_ne (show (56 : Nat) ≠ 9 by decide)]; exact gfs_81_9
  have gfs_84_10 : fs_84[10]? = some (.int 0) := by rw [efs_84, List.getElem?_set_ne (show (56 : Nat) ≠ 10 by decide)]; exact gfs_81_10
  have gfs_84_12 : fs_84[12]? = some (.int 0) := by rw [efs_84, List.getElem?_set_ne (show (56 : Nat) ≠ 12 by decide)]; exact gfs_81_12
  have gfs_84_26 : fs_84[26]? = some (.int 0) := by rw [efs_84, List.getElem?_set_ne (show (56 : Nat) ≠ 26 by decide)]; exact gfs_81_26
  have gfs_84_40 : fs_84[40]? = some (.int 0) := by rw [efs_84, List.getElem?_set_ne (show (56 : Nat) ≠ 40 by decide)]; exact gfs_81_40
  have gfs_84_58 : fs_84[58]? = some (.int 0) := by rw [efs_84, List.getElem?_set_ne (show (56 : Nat) ≠ 58 by decide)]; exact gfs_81_58
  have gfs_84_65 : fs_84[65]? = some (.int 0) := by rw [efs_84, List.getElem?_set_ne (show (56 : Nat) ≠ 65 by decide)]; exact gfs_81_65
  have gfs_84_66 : fs_84[66]? = some (.int 0) := by rw [efs_84, List.getElem?_set_ne (show (56 : Nat) ≠ 66 by decide)]; exact gfs_81_66
  have gfs_84_67 : fs_84[67]? = some (.int 0) := by rw [efs_84, List.getElem?_set_ne (show (56 : Nat) ≠ 67 by decide)]; exact gfs_81_67
  have gfs_84_68 : fs_84[68]? = some (.int 0) := by rw [efs_84, List.getElem?_set_ne (show (56 : Nat) ≠ 68 by decide)]; exact gfs_81_68
  have gfs_84_0 : fs_84[0]? = some (.ref q_1) := by rw [efs_84, List.getElem?_set_ne (show (56 : Nat) ≠ 0 by decide)]; exact gfs_81_0
  have gfs_84_2 : fs_84[2]? = some (.ref q_4) := by rw [efs_84, List.getElem?_set_ne (show (56 : Nat) ≠ 2 by decide)]; exact gfs_81_2
  have gfs_84_3 : fs_84[3]? = some (.ref q_7) := by rw [efs_84, List.getElem?_set_ne (show (56 : Nat) ≠ 3 by decide)]; exact gfs_81_3
  have gfs_84_41 : fs_84[41]? = some (.ref q_55) := by rw [efs_84, List.getElem?_set_ne (show (56 : Nat) ≠ 41 by decide)]; exact gfs_81_41
  have gfs_84_43 : fs_84[43]? = some (.ref q_61) := by rw [efs_84, List.getElem?_set_ne (show (56 : Nat) ≠ 43 by decide)]; exact gfs_81_43
  have gfs_84_56 : fs_84[56]? = some (.ref q_82) := by rw [efs_84]; exact List.getElem?_set_self (by rw [lfs_81]; decide)
  have hP : va_P (dC, dI) vwCl [(h0, .inr (9, fs_84)), (q_1, .inl (k_2, 4000, .inl ((fun _ => 0)))), (q_4, .inl (k_5, 30, .inl ((fun _ => 0)))), (q_7, .inl (k_8, 30, .inl ((fun _ => 0)))), (q_55, .inl (k_56, 22, .inl ((fun _ => 0)))), (q_61, .inl (k_62, 6, .inl ((fun _ => 0))))] H := hP
  have hD : va_D A [(h0, .inr (9, fs_84)), (q_1, .inl (k_2, 4000, .inl ((fun _ => 0)))), (q_4, .inl (k_5, 30, .inl ((fun _ => 0)))), (q_7, .inl (k_8, 30, .inl ((fun _ => 0)))), (q_55, .inl (k_56, 22, .inl ((fun _ => 0)))), (q_61, .inl (k_62, 6, .inl ((fun _ => 0))))] := hD
  refine lv_aload_n hx hb dX9_init_245 rfl (lv_at hl 0 rfl) ?_
  refine lv_bipush (v := 60) hx hb dX9_init_246 (by decide) ?_
  refine va_newa (atype := .int) (a0 := (60, .inl (fun _ => 0))) (ty := .int) (N' := 60) hx hb (hts (.arrayClass .int) (List.mem_of_getElem? (i := 6) rfl)) rfl hK hP hD hS hA (fun c9 => k_cellI c9 60) (by decide +kernel) (by decide +kernel) (by decide +kernel) (by decide +kernel) (by decide +kernel) dX9_init_248 (fun q_85 k_86 H hK hP hD hS => ?_)
  have hP := hP.sub (ws' := [(h0, .inr (9, fs_84)), (q_1, .inl (k_2, 4000, .inl ((fun _ => 0)))), (q_4, .inl (k_5, 30, .inl ((fun _ => 0)))), (q_7, .inl (k_8, 30, .inl ((fun _ => 0)))), (q_55, .inl (k_56, 22, .inl ((fun _ => 0)))), (q_61, .inl (k_62, 6, .inl ((fun _ => 0))))]) [0, 1, 2, 3, 4, 5] rfl
  have hD := hD.sub (ws' := [(h0, .inr (9, fs_84)), (q_1, .inl (k_2, 4000, .inl ((fun _ => 0)))), (q_4, .inl (k_5, 30, .inl ((fun _ => 0)))), (q_7, .inl (k_8, 30, .inl ((fun _ => 0)))), (q_55, .inl (k_56, 22, .inl ((fun _ => 0)))), (q_61, .inl (k_62, 6, .inl ((fun _ => 0))))]) [0, 1, 2, 3, 4, 5] (by decide) rfl
  have hK := hK.sub (tys' := [(k_2, .byte), (k_5, .int), (k_8, .int), (k_56, .int), (k_62, .int)]) [0, 1, 2, 3, 4] rfl
  refine W.widen (k := 29) (n := 36798) (by decide +kernel) (by decide +kernel) ?_
  refine va_putF (D := (dC, dI)) (ci := 9) (v := .ref q_85) (ty := .array .int) (C := RX9) (T := TX9) (N := 69) hx hb hts hinX9 tyX9 tyX9_ok nmX9 hown hK hP hD hS 0 rfl rfl 57 (by decide) (hts (.fieldLink RX9 95 "CensusDeskModel" "bSheet" "[I") (List.mem_of_getElem? (i := 34) rfl)) (fun _ h9 => h9) rfl hin rfl (by decide +kernel) rfl rfl (by rw [lfs_84]; decide) dX9_init_250 (fun H locs hP hD hS => ?_)
  obtain ⟨fs_87, efs_87⟩ : ∃ z : List Value, z = List.set fs_84 57 (.ref q_85) := ⟨_, rfl⟩
  rw [← efs_87] at hP hD
  have lfs_87 : fs_87.length = 69 := by rw [efs_87, List.length_set]; exact lfs_84
  have gfs_87_1 : fs_87[1]? = some (.int 0) := by rw [efs_87, List.getElem?_set_ne (show (57 : Nat) ≠ 1 by decide)]; exact gfs_84_1
  have gfs_87_4 : fs_87[4]? = some (.int 0) := by rw [efs_87, List.getElem?_set_ne (show (57 : Nat) ≠ 4 by decide)]; exact gfs_84_4
  have gfs_87_5 : fs_87[5]? = some (.int 0) := by rw [efs_87, List.getElem?_set_ne (show (57 : Nat) ≠ 5 by decide)]; exact gfs_84_5
  have gfs_87_8 : fs_87[8]? = some (.int 0) := by rw [efs_87, List.getElem?_set_ne (show (57 : Nat) ≠ 8 by decide)]; exact gfs_84_8
  have gfs_87_9 : fs_87[9]? = some (.int 0) := by rw [efs_87, List.getElem?_set_ne (show (57 : Nat) ≠ 9 by decide)]; exact gfs_84_9
  have gfs_87_10 : fs_87[10]? = some (.int 0) := by rw [efs_87, List.getElem?_set_ne (show (57 : Nat) ≠ 10 by decide)]; exact gfs_84_10
  have gfs_87_12 : fs_87[12]? = some (.int 0) := by rw [efs_87, List.getElem?_set_ne (show (57 : Nat) ≠ 12 by decide)]; exact gfs_84_12
  have gfs_87_26 : fs_87[26]? = some (.int 0) := by rw [efs_87, List.getElem?_set_ne (show (57 : Nat) ≠ 26 by decide)]; exact gfs_84_26
  have gfs_87_40 : fs_87[40]? = some (.int 0) := by rw [efs_87, List.getElem?_set_ne (show (57 : Nat) ≠ 40 by decide)]; exact gfs_84_40
  have gfs_87_58 : fs_87[58]? = some (.int 0) := by rw [efs_87, List.getElem?_set_ne (show (57 : Nat) ≠ 58 by decide)]; exact gfs_84_58
  have gfs_87_65 : fs_87[65]? = some (.int 0) := by rw [efs_87, List.getElem?_set_ne (show (57 : Nat) ≠ 65 by decide)]; exact gfs_84_65
  have gfs_87_66 : fs_87[66]? = some (.int 0) := by rw [efs_87, List.getElem?_set_ne (show (57 : Nat) ≠ 66 by decide)]; exact gfs_84_66
  have gfs_87_67 : fs_87[67]? = some (.int 0) := by rw [efs_87, List.getElem?_set_ne (show (57 : Nat) ≠ 67 by decide)]; exact gfs_84_67
  have gfs_87_68 : fs_87[68]? = some (.int 0) := by rw [efs_87, List.getElem?_set_ne (show (57 : Nat) ≠ 68 by decide)]; exact gfs_84_68
  have gfs_87_0 : fs_87[0]? = some (.ref q_1) := by rw [efs_87, List.getElem?_set_ne (show (57 : Nat) ≠ 0 by decide)]; exact gfs_84_0
  have gfs_87_2 : fs_87[2]? = some (.ref q_4) := by rw [efs_87, List.getElem?_set_ne (show (57 : Nat) ≠ 2 by decide)]; exact gfs_84_2
  have gfs_87_3 : fs_87[3]? = some (.ref q_7) := by rw [efs_87, List.getElem?_set_ne (show (57 : Nat) ≠ 3 by decide)]; exact gfs_84_3
  have gfs_87_41 : fs_87[41]? = some (.ref q_55) := by rw [efs_87, List.getElem?_set_ne (show (57 : Nat) ≠ 41 by decide)]; exact gfs_84_41
  have gfs_87_43 : fs_87[43]? = some (.ref q_61) := by rw [efs_87, List.getElem?_set_ne (show (57 : Nat) ≠ 43 by decide)]; exact gfs_84_43
  have gfs_87_57 : fs_87[57]? = some (.ref q_85) := by rw [efs_87]; exact List.getElem?_set_self (by rw [lfs_84]; decide)
  have hP : va_P (dC, dI) vwCl [(h0, .inr (9, fs_87)), (q_1, .inl (k_2, 4000, .inl ((fun _ => 0)))), (q_4, .inl (k_5, 30, .inl ((fun _ => 0)))), (q_7, .inl (k_8, 30, .inl ((fun _ => 0)))), (q_55, .inl (k_56, 22, .inl ((fun _ => 0)))), (q_61, .inl (k_62, 6, .inl ((fun _ => 0))))] H := hP
  have hD : va_D A [(h0, .inr (9, fs_87)), (q_1, .inl (k_2, 4000, .inl ((fun _ => 0)))), (q_4, .inl (k_5, 30, .inl ((fun _ => 0)))), (q_7, .inl (k_8, 30, .inl ((fun _ => 0)))), (q_55, .inl (k_56, 22, .inl ((fun _ => 0)))), (q_61, .inl (k_62, 6, .inl ((fun _ => 0))))] := hD
  refine lv_aload_n hx hb dX9_init_253 rfl (lv_at hl 0 rfl) ?_
  refine lv_sipush (v := 300) hx hb dX9_init_254 (by decide) ?_
  refine va_newa (atype := .int) (a0 := (300, .inl (fun _ => 0))) (ty := .int) (N' := 300) hx hb (hts (.arrayClass .int) (List.mem_of_getElem? (i := 6) rfl)) rfl hK hP hD hS hA (fun c9 => k_cellI c9 300) (by decide +kernel) (by decide +kernel) (by decide +kernel) (by decide +kernel) (by decide +kernel) dX9_init_257 (fun q_88 k_89 H hK hP hD hS => ?_)
  have hP := hP.sub (ws' := [(h0, .inr (9, fs_87)), (q_1, .inl (k_2, 4000, .inl ((fun _ => 0)))), (q_4, .inl (k_5, 30, .inl ((fun _ => 0)))), (q_7, .inl (k_8, 30, .inl ((fun _ => 0)))), (q_55, .inl (k_56, 22, .inl ((fun _ => 0)))), (q_61, .inl (k_62, 6, .inl ((fun _ => 0))))]) [0, 1, 2, 3, 4, 5] rfl
  have hD := hD.sub (ws' := [(h0, .inr (9, fs_87)), (q_1, .inl (k_2, 4000, .inl ((fun _ => 0)))), (q_4, .inl (k_5, 30, .inl ((fun _ => 0)))), (q_7, .inl (k_8, 30, .inl ((fun _ => 0)))), (q_55, .inl (k_56, 22, .inl ((fun _ => 0)))), (q_61, .inl (k_62, 6, .inl ((fun _ => 0))))]) [0, 1, 2, 3, 4, 5] (by decide) rfl
  have hK := hK.sub (tys' := [(k_2, .byte), (k_5, .int), (k_8, .int), (k_56, .int), (k_62, .int)]) [0, 1, 2, 3, 4] rfl
  refine W.widen (k := 30) (n := 37098) (by decide +kernel) (by decide +kernel) ?_
  refine va_putF (D := (dC, dI)) (ci := 9) (v := .ref q_88) (ty := .array .int) (C := RX9) (T := TX9) (N := 69) hx hb hts hinX9 tyX9 tyX9_ok nmX9 hown hK hP hD hS 0 rfl rfl 59 (by decide) (hts (.fieldLink RX9 98 "CensusDeskModel" "bSex" "[I") (List.mem_of_getElem? (i := 35) rfl)) (fun _ h9 => h9) rfl hin rfl (by decide +kernel) rfl rfl (by rw [lfs_87]; decide) dX9_init_259 (fun H locs hP hD hS => ?_)
  obtain ⟨fs_90, efs_90⟩ : ∃ z : List Value, z = List.set fs_87 59 (.ref q_88) := ⟨_, rfl⟩
  rw [← efs_90] at hP hD
  have lfs_90 : fs_90.length = 69 := by rw [efs_90, List.length_set]; exact lfs_87
  have gfs_90_1 : fs_90[1]? = some (.int 0) := by rw [efs_90, List.getElem?_set_ne (show (59 : Nat) ≠ 1 by decide)]; exact gfs_87_1
  have gfs_90_4 : fs_90[4]? = some (.int 0) := by rw [efs_90, List.getElem?_set_ne (show (59 : Nat) ≠ 4 by decide)]; exact gfs_87_4
  have gfs_90_5 : fs_90[5]? = some (.int 0) := by rw [efs_90, List.getElem?_set_ne (show (59 : Nat) ≠ 5 by decide)]; exact gfs_87_5
  have gfs_90_8 : fs_90[8]? = some (.int 0) := by rw [efs_90, List.getElem?_set_ne (show (59 : Nat) ≠ 8 by decide)]; exact gfs_87_8
  have gfs_90_9 : fs_90[9]? = some (.int 0) := by rw [efs_90, List.getElem?_set_ne (show (59 : Nat) ≠ 9 by decide)]; exact gfs_87_9
  have gfs_90_10 : fs_90[10]? = some (.int 0) := by rw [efs_90, List.getElem?_set_ne (show (59 : Nat) ≠ 10 by decide)]; exact gfs_87_10
  have gfs_90_12 : fs_90[12]? = some (.int 0) := by rw [efs_90, List.getElem?_set_ne (show (59 : Nat) ≠ 12 by decide)]; exact gfs_87_12
  have gfs_90_26 : fs_90[26]? = some (.int 0) := by rw [efs_90, List.getElem?_set_ne (show (59 : Nat) ≠ 26 by decide)]; exact gfs_87_26
  have gfs_90_40 : fs_90[40]? = some (.int 0) := by rw [efs_90, List.getElem?_set_ne (show (59 : Nat) ≠ 40 by decide)]; exact gfs_87_40
  have gfs_90_58 : fs_90[58]? = some (.int 0) := by rw [efs_90, List.getElem?_set_ne (show (59 : Nat) ≠ 58 by decide)]; exact gfs_87_58
  have gfs_90_65 : fs_90[65]? = some (.int 0) := by rw [efs_90, List.getElem?_set_ne (show (59 : Nat) ≠ 65 by decide)]; exact gfs_87_65
  have gfs_90_66 : fs_90[66]? = some (.int 0) := by rw [efs_90, List.getElem?_set_ne (show (59 : Nat) ≠ 66 by decide)]; exact gfs_87_66
  have gfs_90_67 : fs_90[67]? = some (.int 0) := by rw [efs_90, List.getElem?_set_ne (show (59 : Nat) ≠ 67 by decide)]; exact gfs_87_67
  have gfs_90_68 : fs_90[68]? = some (.int 0) := by rw [efs_90, List.getElem?_set_ne (show (59 : Nat) ≠ 68 by decide)]; exact gfs_87_68
  have gfs_90_0 : fs_90[0]? = some (.ref q_1) := by rw [efs_90, List.getElem?_set_ne (show (59 : Nat) ≠ 0 by decide)]; exact gfs_87_0
  have gfs_90_2 : fs_90[2]? = some (.ref q_4) := by rw [efs_90, List.getElem?_set_ne (show (59 : Nat) ≠ 2 by decide)]; exact gfs_87_2
  have gfs_90_3 : fs_90[3]? = some (.ref q_7) := by rw [efs_90, List.getElem?_set_ne (show (59 : Nat) ≠ 3 by decide)]; exact gfs_87_3
  have gfs_90_41 : fs_90[41]? = some (.ref q_55) := by rw [efs_90, List.getElem?_set_ne (show (59 : Nat) ≠ 41 by decide)]; exact gfs_87_41
  have gfs_90_43 : fs_90[43]? = some (.ref q_61) := by rw [efs_90, List.getElem?_set_ne (show (59 : Nat) ≠ 43 by decide)]; exact gfs_87_43
  have gfs_90_59 : fs_90[59]? = some (.ref q_88) := by rw [efs_90]; exact List.getElem?_set_self (by rw [lfs_87]; decide)
  have hP : va_P (dC, dI) vwCl [(h0, .inr (9, fs_90)), (q_1, .inl (k_2, 4000, .inl ((fun _ => 0)))), (q_4, .inl (k_5, 30, .inl ((fun _ => 0)))), (q_7, .inl (k_8, 30, .inl ((fun _ => 0)))), (q_55, .inl (k_56, 22, .inl ((fun _ => 0)))), (q_61, .inl (k_62, 6, .inl ((fun _ => 0))))] H := hP
  have hD : va_D A [(h0, .inr (9, fs_90)), (q_1, .inl (k_2, 4000, .inl ((fun _ => 0)))), (q_4, .inl (k_5, 30, .inl ((fun _ => 0)))), (q_7, .inl (k_8, 30, .inl ((fun _ => 0)))), (q_55, .inl (k_56, 22, .inl ((fun _ => 0)))), (q_61, .inl (k_62, 6, .inl ((fun _ => 0))))] := hD
  refine lv_aload_n hx hb dX9_init_262 rfl (lv_at hl 0 rfl) ?_
  refine lv_sipush (v := 300) hx hb dX9_init_263 (by decide) ?_
  refine va_newa (atype := .int) (a0 := (300, .inl (fun _ => 0))) (ty := .int) (N' := 300) hx hb (hts (.arrayClass .int) (List.mem_of_getElem? (i := 6) rfl)) rfl hK hP hD hS hA (fun c9 => k_cellI c9 300) (by decide +kernel) (by decide +kernel) (by decide +kernel) (by decide +kernel) (by decide +kernel) dX9_init_266 (fun q_91 k_92 H hK hP hD hS => ?_)
  have hP := hP.sub (ws' := [(h0, .inr (9, fs_90)), (q_1, .inl (k_2, 4000, .inl ((fun _ => 0)))), (q_4, .inl (k_5, 30, .inl ((fun _ => 0)))), (q_7, .inl (k_8, 30, .inl ((fun _ => 0)))), (q_55, .inl (k_56, 22, .inl ((fun _ => 0)))), (q_61, .inl (k_62, 6, .inl ((fun _ => 0))))]) [0, 1, 2, 3, 4, 5] rfl
  have hD := hD.sub (ws' := [(h0, .inr (9, fs_90)), (q_1, .inl (k_2, 4000, .inl ((fun _ => 0)))), (q_4, .inl (k_5, 30, .inl ((fun _ => 0)))), (q_7, .inl (k_8, 30, .inl ((fun _ => 0)))), (q_55, .inl (k_56, 22, .inl ((fun _ => 0)))), (q_61, .inl (k_62, 6, .inl ((fun _ => 0))))]) [0, 1, 2, 3, 4, 5] (by decide) rfl
  have hK := hK.sub (tys' := [(k_2, .byte), (k_5, .int), (k_8, .int), (k_56, .int), (k_62, .int)]) [0, 1, 2, 3, 4] rfl
  refine W.widen (k := 31) (n := 37398) (by decide +kernel) (by decide +kernel) ?_
  refine va_putF (D := (dC, dI)) (ci := 9) (v := .ref q_91) (ty := .array .int) (C := RX9) (T := TX9) (N := 69) hx hb hts hinX9 tyX9 tyX9_ok nmX9 hown hK hP hD hS 0 rfl rfl 60 (by decide) (hts (.fieldLink RX9 101 "CensusDeskModel" "bAge" "[I") (List.mem_of_getElem? (i := 36) rfl)) (fun _ h9 => h9) rfl hin rfl (by decide +kernel) rfl rfl (by rw [lfs_90]; decide) dX9_init_268 (fun H locs hP hD hS => ?_)
  obtain ⟨fs_93, efs_93⟩ : ∃ z : List Value, z = List.set fs_90 60 (.ref q_91) := ⟨_, rfl⟩
  rw [← efs_93] at hP hD
  have lfs_93 : fs_93.length = 69 := by rw [efs_93, List.length_set]; exact lfs_90
  have gfs_93_1 : fs_93[1]? = some (.int 0) := by rw [efs_93, List.getElem?_set_ne (show (60 : Nat) ≠ 1 by decide)]; exact gfs_90_1
  have gfs_93_4 : fs_93[4]? = some (.int 0) := by rw [efs_93, List.getElem?_set_ne (show (60 : Nat) ≠ 4 by decide)]; exact gfs_90_4
  have gfs_93_5 : fs_93[5]? = some (.int 0) := by rw [efs_93, List.getElem?_set_ne (show (60 : Nat) ≠ 5 by decide)]; exact gfs_90_5
  have gfs_93_8 : fs_93[8]? = some (.int 0) := by rw [efs_93, List.getElem?_set_ne (show (60 : Nat) ≠ 8 by decide)]; exact gfs_90_8
  have gfs_93_9 : fs_93[9]? = some (.int 0) := by rw [efs_93, List.getElem?_set_ne (show (60 : Nat) ≠ 9 by decide)]; exact gfs_90_9
  have gfs_93_10 : fs_93[10]? = some (.int 0) := by rw [efs_93, List.getElem?_set_ne (show (60 : Nat) ≠ 10 by decide)]; exact gfs_90_10
  have gfs_93_12 : fs_93[12]? = some (.int 0) := by rw [efs_93, List.getElem?_set_ne (show (60 : Nat) ≠ 12 by decide)]; exact gfs_90_12
  have gfs_93_26 : fs_93[26]? = some (.int 0) := by rw [efs_93, List.getElem?_set_ne (show (60 : Nat) ≠ 26 by decide)]; exact gfs_90_26
  have gfs_93_40 : fs_93[40]? = some (.int 0) := by rw [efs_93, List.getElem?_set_ne (show (60 : Nat) ≠ 40 by decide)]; exact gfs_90_40
  have gfs_93_58 : fs_93[58]? = some (.int 0) := by rw [efs_93, List.getElem?_set_ne (show (60 : Nat) ≠ 58 by decide)]; exact gfs_90_58
  have gfs_93_65 : fs_93[65]? = some (.int 0) := by rw [efs_93, List.getElem?_set_ne (show (60 : Nat) ≠ 65 by decide)]; exact gfs_90_65
  have gfs_93_66 : fs_93[66]? = some (.int 0) := by rw [efs_93, List.getElem?_set_ne (show (60 : Nat) ≠ 66 by decide)]; exact gfs_90_66
  have gfs_93_67 : fs_93[67]? = some (.int 0) := by rw [efs_93, List.getElem?_set_ne (show (60 : Nat) ≠ 67 by decide)]; exact gfs_90_67
  have gfs_93_68 : fs_93[68]? = some (.int 0) := by rw [efs_93, List.getElem?_set_ne (show (60 : Nat) ≠ 68 by decide)]; exact gfs_90_68
  have gfs_93_0 : fs_93[0]? = some (.ref q_1) := by rw [efs_93, List.getElem?_set_ne (show (60 : Nat) ≠ 0 by decide)]; exact gfs_90_0
  have gfs_93_2 : fs_93[2]? = some (.ref q_4) := by rw [efs_93, List.getElem?_set_ne (show (60 : Nat) ≠ 2 by decide)]; exact gfs_90_2
  have gfs_93_3 : fs_93[3]? = some (.ref q_7) := by rw [efs_93, List.getElem?_set_ne (show (60 : Nat) ≠ 3 by decide)]; exact gfs_90_3
  have gfs_93_41 : fs_93[41]? = some (.ref q_55) := by rw [efs_93, List.getElem?_set_ne (show (60 : Nat) ≠ 41 by decide)]; exact gfs_90_41
  have gfs_93_43 : fs_93[43]? = some (.ref q_61) := by rw [efs_93, List.getElem?_set_ne (show (60 : Nat) ≠ 43 by decide)]; exact gfs_90_43
  have gfs_93_60 : fs_93[60]? = some (.ref q_91) := by rw [efs_93]; exact List.getElem?_set_self (by rw [lfs_90]; decide)
  have hP : va_P (dC, dI) vwCl [(h0, .inr (9, fs_93)), (q_1, .inl (k_2, 4000, .inl ((fun _ => 0)))), (q_4, .inl (k_5, 30, .inl ((fun _ => 0)))), (q_7, .inl (k_8, 30, .inl ((fun _ => 0)))), (q_55, .inl (k_56, 22, .inl ((fun _ => 0)))), (q_61, .inl (k_62, 6, .inl ((fun _ => 0))))] H := hP
  have hD : va_D A [(h0, .inr (9, fs_93)), (q_1, .inl (k_2, 4000, .inl ((fun _ => 0)))), (q_4, .inl (k_5, 30, .inl ((fun _ => 0)))), (q_7, .inl (k_8, 30, .inl ((fun _ => 0)))), (q_55, .inl (k_56, 22, .inl ((fun _ => 0)))), (q_61, .inl (k_62, 6, .inl ((fun _ => 0))))] := hD
  refine lv_aload_n hx hb dX9_init_271 rfl (lv_at hl 0 rfl) ?_
  refine lv_sipush (v := 300) hx hb dX9_init_272 (by decide) ?_
  refine va_newa (atype := .int) (a0 := (300, .inl (fun _ => 0))) (ty := .int) (N' := 300) hx hb (hts (.arrayClass .int) (List.mem_of_getElem? (i := 6) rfl)) rfl hK hP hD hS hA (fun c9 => k_cellI c9 300) (by decide +kernel) (by decide +kernel) (by decide +kernel) (by decide +kernel) (by decide +kernel) dX9_init_275 (fun q_94 k_95 H hK hP hD hS => ?_)
  have hP := hP.sub (ws' := [(h0, .inr (9, fs_93)), (q_1, .inl (k_2, 4000, .inl ((fun _ => 0)))), (q_4, .inl (k_5, 30, .inl ((fun _ => 0)))), (q_7, .inl (k_8, 30, .inl ((fun _ => 0)))), (q_55, .inl (k_56, 22, .inl ((fun _ => 0)))), (q_61, .inl (k_62, 6, .inl ((fun _ => 0))))]) [0, 1, 2, 3, 4, 5] rfl
  have hD := hD.sub (ws' := [(h0, .inr (9, fs_93)), (q_1, .inl (k_2, 4000, .inl ((fun _ => 0)))), (q_4, .inl (k_5, 30, .inl ((fun _ => 0)))), (q_7, .inl (k_8, 30, .inl ((fun _ => 0)))), (q_55, .inl (k_56, 22, .inl ((fun _ => 0)))), (q_61, .inl (k_62, 6, .inl ((fun _ => 0))))]) [0, 1, 2, 3, 4, 5] (by decide) rfl
  have hK := hK.sub (tys' := [(k_2, .byte), (k_5, .int), (k_8, .int), (k_56, .int), (k_62, .int)]) [0, 1, 2, 3, 4] rfl
  refine W.widen (k := 32) (n := 37698) (by decide +kernel) (by decide +kernel) ?_
  refine va_putF (D := (dC, dI)) (ci := 9) (v := .ref q_94) (ty := .array .int) (C := RX9) (T := TX9) (N := 69) hx hb hts hinX9 tyX9 tyX9_ok nmX9 hown hK hP hD hS 0 rfl rfl 61 (by decide) (hts (.fieldLink RX9 104 "CensusDeskModel" "bTrade" "[I") (List.mem_of_getElem? (i := 37) rfl)) (fun _ h9 => h9) rfl hin rfl (by decide +kernel) rfl rfl (by rw [lfs_93]; decide) dX9_init_277 (fun H locs hP hD hS => ?_)
  obtain ⟨fs_96, efs_96⟩ : ∃ z : List Value, z = List.set fs_93 61 (.ref q_94) := ⟨_, rfl⟩
  rw [← efs_96] at hP hD
  have lfs_96 : fs_96.length = 69 := by rw [efs_96, List.length_set]; exact lfs_93
  have gfs_96_1 : fs_96[1]? = some (.int 0) := by rw [efs_96, List.getElem?_set_ne (show (61 : Nat) ≠ 1 by decide)]; exact gfs_93_1
  have gfs_96_4 : fs_96[4]? = some (.int 0) := by rw [efs_96, List.getElem?_set_ne (show (61 : Nat) ≠ 4 by decide)]; exact gfs_93_4
  have gfs_96_5 : fs_96[5]? = some (.int 0) := by rw [efs_96, List.getElem?_set_ne (show (61 : Nat) ≠ 5 by decide)]; exact gfs_93_5
  have gfs_96_8 : fs_96[8]? = some (.int 0) := by rw [efs_96, List.getElem?_set_ne (show (61 : Nat) ≠ 8 by decide)]; exact gfs_93_8
  have gfs_96_9 : fs_96[9]? = some (.int 0) := by rw [efs_96, List.getElem?_set_ne (show (61 : Nat) ≠ 9 by decide)]; exact gfs_93_9
  have gfs_96_10 : fs_96[10]? = some (.int 0) := by rw [efs_96, List.getElem?_set_ne (show (61 : Nat) ≠ 10 by decide)]; exact gfs_93_10
  have gfs_96_12 : fs_96[12]? = some (.int 0) := by rw [efs_96, List.getElem?_set_ne (show (61 : Nat) ≠ 12 by decide)]; exact gfs_93_12
  have gfs_96_26 : fs_96[26]? = some (.int 0) := by rw [efs_96, List.getElem?_set_ne (show (61 : Nat) ≠ 26 by decide)]; exact gfs_93_26
  have gfs_96_40 : fs_96[40]? = some (.int 0) := by rw [efs_96, List.getElem?_set_ne (show (61 : Nat) ≠ 40 by decide)]; exact gfs_93_40
  have gfs_96_58 : fs_96[58]? = some (.int 0) := by rw [efs_96, List.getElem?_set_ne (show (61 : Nat) ≠ 58 by decide)]; exact gfs_93_58
  have gfs_96_65 : fs_96[65]? = some (.int 0) := by rw [efs_96, List.getElem?_set_ne (show (61 : Nat) ≠ 65 by decide)]; exact gfs_93_65
  have gfs_96_66 : fs_96[66]? = some (.int 0) := by rw [efs_96, List.getElem?_set_ne (show (61 : Nat) ≠ 66 by decide)]; exact gfs_93_66
  have gfs_96_67 : fs_96[67]? = some (.int 0) := by rw [efs_96, List.getElem?_set_ne (show (61 : Nat) ≠ 67 by decide)]; exact gfs_93_67
  have gfs_96_68 : fs_96[68]? = some (.int 0) := by rw [efs_96, List.getElem?_set_ne (show (61 : Nat) ≠ 68 by decide)]; exact gfs_93_68
  have gfs_96_0 : fs_96[0]? = some (.ref q_1) := by rw [efs_96, List.getElem?_set_ne (show (61 : Nat) ≠ 0 by decide)]; exact gfs_93_0
  have gfs_96_2 : fs_96[2]? = some (.ref q_4) := by rw [efs_96, List.getElem?_set_ne (show (61 : Nat) ≠ 2 by decide)]; exact gfs_93_2
  have gfs_96_3 : fs_96[3]? = some (.ref q_7) := by rw [efs_96, List.getElem?_set_ne (show (61 : Nat) ≠ 3 by decide)]; exact gfs_93_3
  have gfs_96_41 : fs_96[41]? = some (.ref q_55) := by rw [efs_96, List.getElem?_set_ne (show (61 : Nat) ≠ 41 by decide)]; exact gfs_93_41
  have gfs_96_43 : fs_96[43]? = some (.ref q_61) := by rw [efs_96, List.getElem?_set_ne (show (61 : Nat) ≠ 43 by decide)]; exact gfs_93_43
  have gfs_96_61 : fs_96[61]? = some (.ref q_94) := by rw [efs_96]; exact List.getElem?_set_self (by rw [lfs_93]; decide)
  have hP : va_P (dC, dI) vwCl [(h0, .inr (9, fs_96)), (q_1, .inl (k_2, 4000, .inl ((fun _ => 0)))), (q_4, .inl (k_5, 30, .inl ((fun _ => 0)))), (q_7, .inl (k_8, 30, .inl ((fun _ => 0)))), (q_55, .inl (k_56, 22, .inl ((fun _ => 0)))), (q_61, .inl (k_62, 6, .inl ((fun _ => 0))))] H := hP
  have hD : va_D A [(h0, .inr (9, fs_96)), (q_1, .inl (k_2, 4000, .inl ((fun _ => 0)))), (q_4, .inl (k_5, 30, .inl ((fun _ => 0)))), (q_7, .inl (k_8, 30, .inl ((fun _ => 0)))), (q_55, .inl (k_56, 22, .inl ((fun _ => 0)))), (q_61, .inl (k_62, 6, .inl ((fun _ => 0))))] := hD
  refine lv_aload_n hx hb dX9_init_280 rfl (lv_at hl 0 rfl) ?_
  refine lv_sipush (v := 300) hx hb dX9_init_281 (by decide) ?_
  refine va_newa (atype := .int) (a0 := (300, .inl (fun _ => 0))) (ty := .int) (N' := 300) hx hb (hts (.arrayClass .int) (List.mem_of_getElem? (i := 6) rfl)) rfl hK hP hD hS hA (fun c9 => k_cellI c9 300) (by decide +kernel) (by decide +kernel) (by decide +kernel) (by decide +kernel) (by decide +kernel) dX9_init_284 (fun q_97 k_98 H hK hP hD hS => ?_)
  have hP := hP.sub (ws' := [(h0, .inr (9, fs_96)), (q_1, .inl (k_2, 4000, .inl ((fun _ => 0)))), (q_4, .inl (k_5, 30, .inl ((fun _ => 0)))), (q_7, .inl (k_8, 30, .inl ((fun _ => 0)))), (q_55, .inl (k_56, 22, .inl ((fun _ => 0)))), (q_61, .inl (k_62, 6, .inl ((fun _ => 0))))]) [0, 1, 2, 3, 4, 5] rfl
  have hD := hD.sub (ws' := [(h0, .inr (9, fs_96)), (q_1, .inl (k_2, 4000, .inl ((fun _ => 0)))), (q_4, .inl (k_5, 30, .inl ((fun _ => 0)))), (q_7, .inl (k_8, 30, .inl ((fun _ => 0)))), (q_55, .inl (k_56, 22, .inl ((fun _ => 0)))), (q_61, .inl (k_62, 6, .inl ((fun _ => 0))))]) [0, 1, 2, 3, 4, 5] (by decide) rfl
  have hK := hK.sub (tys' := [(k_2, .byte), (k_5, .int), (k_8, .int), (k_56, .int), (k_62, .int)]) [0, 1, 2, 3, 4] rfl
  refine W.widen (k := 33) (n := 37998) (by decide +kernel) (by decide +kernel) ?_
  refine va_putF (D := (dC, dI)) (ci := 9) (v := .ref q_97) (ty := .array .int) (C := RX9) (T := TX9) (N := 69) hx hb hts hinX9 tyX9 tyX9_ok nmX9 hown hK hP hD hS 0 rfl rfl 62 (by decide) (hts (.fieldLink RX9 107 "CensusDeskModel" "bSize" "[I") (List.mem_of_getElem? (i := 38) rfl)) (fun _ h9 => h9) rfl hin rfl (by decide +kernel) rfl rfl (by rw [lfs_96]; decide) dX9_init_286 (fun H locs hP hD hS => ?_)
  obtain ⟨fs_99, efs_99⟩ : ∃ z : List Value, z = List.set fs_96 62 (.ref q_97) := ⟨_, rfl⟩
  rw [← efs_99] at hP hD
  have lfs_99 : fs_99.length = 69 := by rw [efs_99, List.length_set]; exact lfs_96
  have gfs_99_1 : fs_99[1]? = some (.int 0) := by rw [efs_99, List.getElem?_set_ne (show (62 : Nat) ≠ 1 by decide)]; exact gfs_96_1
  have gfs_99_4 : fs_99[4]? = some (.int 0) := by rw [efs_99, List.getElem?_set_ne (show (62 : Nat) ≠ 4 by decide)]; exact gfs_96_4
  have gfs_99_5 : fs_99[5]? = some (.int 0) := by rw [efs_99, List.getElem?_set_ne (show (62 : Nat) ≠ 5 by decide)]; exact gfs_96_5
  have gfs_99_8 : fs_99[8]? = some (.int 0) := by rw [efs_99, List.getElem?_set_ne (show (62 : Nat) ≠ 8 by decide)]; exact gfs_96_8
  have gfs_99_9 : fs_99[9]? = some (.int 0) := by rw [efs_99, List.getElem?_set_ne (show (62 : Nat) ≠ 9 by decide)]; exact gfs_96_9
  have gfs_99_10 : fs_99[10]? = some (.int 0) := by rw [efs_99, List.getElem?_set_ne (show (62 : Nat) ≠ 10 by decide)]; exact gfs_96_10
  have gfs_99_12 : fs_99[12]? = some (.int 0) := by rw [efs_99, List.getElem?_set_ne (show (62 : Nat) ≠ 12 by decide)]; exact gfs_96_12
  have gfs_99_26 : fs_99[26]? = some (.int 0) := by rw [efs_99, List.getElem?_set_ne (show (62 : Nat) ≠ 26 by decide)]; exact gfs_96_26
  have gfs_99_40 : fs_99[40]? = some (.int 0) := by rw [efs_99, List.getElem?_set_ne (show (62 : Nat) ≠ 40 by decide)]; exact gfs_96_40
  have gfs_99_58 : fs_99[58]? = some (.int 0) := by rw [efs_99, List.getElem?_set_ne (show (62 : Nat) ≠ 58 by decide)]; exact gfs_96_58
  have gfs_99_65 : fs_99[65]? = some (.int 0) := by rw [efs_99, List.getElem?_set_ne (show (62 : Nat) ≠ 65 by decide)]; exact gfs_96_65
  have gfs_99_66 : fs_99[66]? = some (.int 0) := by rw [efs_99, List.getElem?_set_ne (show (62 : Nat) ≠ 66 by decide)]; exact gfs_96_66
  have gfs_99_67 : fs_99[67]? = some (.int 0) := by rw [efs_99, List.getElem?_set_ne (show (62 : Nat) ≠ 67 by decide)]; exact gfs_96_67
  have gfs_99_68 : fs_99[68]? = some (.int 0) := by rw [efs_99, List.getElem?_set_ne (show (62 : Nat) ≠ 68 by decide)]; exact gfs_96_68
  have gfs_99_0 : fs_99[0]? = some (.ref q_1) := by rw [efs_99, List.getElem?_set_ne (show (62 : Nat) ≠ 0 by decide)]; exact gfs_96_0
  have gfs_99_2 : fs_99[2]? = some (.ref q_4) := by rw [efs_99, List.getElem?_set_ne (show (62 : Nat) ≠ 2 by decide)]; exact gfs_96_2
  have gfs_99_3 : fs_99[3]? = some (.ref q_7) := by rw [efs_99, List.getElem?_set_ne (show (62 : Nat) ≠ 3 by decide)]; exact gfs_96_3
  have gfs_99_41 : fs_99[41]? = some (.ref q_55) := by rw [efs_99, List.getElem?_set_ne (show (62 : Nat) ≠ 41 by decide)]; exact gfs_96_41
  have gfs_99_43 : fs_99[43]? = some (.ref q_61) := by rw [efs_99, List.getElem?_set_ne (show (62 : Nat) ≠ 43 by decide)]; exact gfs_96_43
  have gfs_99_62 : fs_99[62]? = some (.ref q_97) := by rw [efs_99]; exact List.getElem?_set_self (by rw [lfs_96]; decide)
  have hP : va_P (dC, dI) vwCl [(h0, .inr (9, fs_99)), (q_1, .inl (k_2, 4000, .inl ((fun _ => 0)))), (q_4, .inl (k_5, 30, .inl ((fun _ => 0)))), (q_7, .inl (k_8, 30, .inl ((fun _ => 0)))), (q_55, .inl (k_56, 22, .inl ((fun _ => 0)))), (q_61, .inl (k_62, 6, .inl ((fun _ => 0))))] H := hP
  have hD : va_D A [(h0, .inr (9, fs_99)), (q_1, .inl (k_2, 4000, .inl ((fun _ => 0)))), (q_4, .inl (k_5, 30, .inl ((fun _ => 0)))), (q_7, .inl (k_8, 30, .inl ((fun _ => 0)))), (q_55, .inl (k_56, 22, .inl ((fun _ => 0)))), (q_61, .inl (k_62, 6, .inl ((fun _ => 0))))] := hD
  refine lv_aload_n hx hb dX9_init_289 rfl (lv_at hl 0 rfl) ?_
  refine lv_sipush (v := 300) hx hb dX9_init_290 (by decide) ?_
  refine va_newa (atype := .int) (a0 := (300, .inl (fun _ => 0))) (ty := .int) (N' := 300) hx hb (hts (.arrayClass .int) (List.mem_of_getElem? (i := 6) rfl)) rfl hK hP hD hS hA (fun c9 => k_cellI c9 300) (by decide +kernel) (by decide +kernel) (by decide +kernel) (by decide +kernel) (by decide +kernel) dX9_init_293 (fun q_100 k_101 H hK hP hD hS => ?_)
  have hP := hP.sub (ws' := [(h0, .inr (9, fs_99)), (q_1, .inl (k_2, 4000, .inl ((fun _ => 0)))), (q_4, .inl (k_5, 30, .inl ((fun _ => 0)))), (q_7, .inl (k_8, 30, .inl ((fun _ => 0)))), (q_55, .inl (k_56, 22, .inl ((fun _ => 0)))), (q_61, .inl (k_62, 6, .inl ((fun _ => 0))))]) [0, 1, 2, 3, 4, 5] rfl
  have hD := hD.sub (ws' := [(h0, .inr (9, fs_99)), (q_1, .inl (k_2, 4000, .inl ((fun _ => 0)))), (q_4, .inl (k_5, 30, .inl ((fun _ => 0)))), (q_7, .inl (k_8, 30, .inl ((fun _ => 0)))), (q_55, .inl (k_56, 22, .inl ((fun _ => 0)))), (q_61, .inl (k_62, 6, .inl ((fun _ => 0))))]) [0, 1, 2, 3, 4, 5] (by decide) rfl
  have hK := hK.sub (tys' := [(k_2, .byte), (k_5, .int), (k_8, .int), (k_56, .int), (k_62, .int)]) [0, 1, 2, 3, 4] rfl
  refine W.widen (k := 34) (n := 38298) (by decide +kernel) (by decide +kernel) ?_
  refine va_putF (D := (dC, dI)) (ci := 9) (v := .ref q_100) (ty := .array .int) (C := RX9) (T := TX9) (N := 69) hx hb hts hinX9 tyX9 tyX9_ok nmX9 hown hK hP hD hS 0 rfl rfl 63 (by decide) (hts (.fieldLink RX9 110 "CensusDeskModel" "bHouse" "[I") (List.mem_of_getElem? (i := 39) rfl)) (fun _ h9 => h9) rfl hin rfl (by decide +kernel) rfl rfl (by rw [lfs_99]; decide) dX9_init_295 (fun H locs hP hD hS => ?_)
  obtain ⟨fs_102, efs_102⟩ : ∃ z : List Value, z = List.set fs_99 63 (.ref q_100) := ⟨_, rfl⟩
  rw [← efs_102] at hP hD
  have lfs_102 : fs_102.length = 69 := by rw [efs_102, List.length_set]; exact lfs_99
  have gfs_102_1 : fs_102[1]? = some (.int 0) := by rw [efs_102, List.getElem?_set_ne (show (63 : Nat) ≠ 1 by decide)]; exact gfs_99_1
  have gfs_102_4 : fs_102[4]? = some (.int 0) := by rw [efs_102, List.getElem?_set_ne (show (63 : Nat) ≠ 4 by decide)]; exact gfs_99_4
  have gfs_102_5 : fs_102[5]? = some (.int 0) := by rw [efs_102, List.getElem?_set_ne (show (63 : Nat) ≠ 5 by decide)]; exact gfs_99_5
  have gfs_102_8 : fs_102[8]? = some (.int 0) := by rw [efs_102, List.getElem?_set_ne (show (63 : Nat) ≠ 8 by decide)]; exact gfs_99_8
  have gfs_102_9 : fs_102[9]? = some (.int 0) := by rw [efs_102, List.getElem?_set_ne (show (63 : Nat) ≠ 9 by decide)]; exact gfs_99_9
  have gfs_102_10 : fs_102[10]? = some (.int 0) := by rw [efs_102, List.getElem?_set_ne (show (63 : Nat) ≠ 10 by decide)]; exact gfs_99_10
  have gfs_102_12 : fs_102[12]? = some (.int 0) := by rw [efs_102, List.getElem?_set_ne (show (63 : Nat) ≠ 12 by decide)]; exact gfs_99_12
  have gfs_102_26 : fs_102[26]? = some (.int 0) := by rw [efs_102, List.getElem?_set_ne (show (63 : Nat) ≠ 26 by decide)]; exact gfs_99_26
  have gfs_102_40 : fs_102[40]? = some (.int 0) := by rw [efs_102, List.getElem?_set_ne (show (63 : Nat) ≠ 40 by decide)]; exact gfs_99_40
  have gfs_102_58 : fs_102[58]? = some (.int 0) := by rw [efs_102, List.getElem?_set_ne (show (63 : Nat) ≠ 58 by decide)]; exact gfs_99_58
  have gfs_102_65 : fs_102[65]? = some (.int 0) := by rw [efs_102, List.getElem?_set_ne (show (63 : Nat) ≠ 65 by decide)]; exact gfs_99_65
  have gfs_102_66 : fs_102[66]? = some (.int 0) := by rw [efs_102, List.getElem?_set_ne (show (63 : Nat) ≠ 66 by decide)]; exact gfs_99_66
  have gfs_102_67 : fs_102[67]? = some (.int 0) := by rw [efs_102, List.getElem?_set_ne (show (63 : Nat) ≠ 67 by decide)]; exact gfs_99_67
  have gfs_102_68 : fs_102[68]? = some (.int 0) := by rw [efs_102, List.getElem?_set_ne (show (63 : Nat) ≠ 68 by decide)]; exact gfs_99_68
  have gfs_102_0 : fs_102[0]? = some (.ref q_1) := by rw [efs_102, List.getElem?_set_ne (show (63 : Nat) ≠ 0 by decide)]; exact gfs_99_0
  have gfs_102_2 : fs_102[2]? = some (.ref q_4) := by rw [efs_102, List.getElem?_set_ne (show (63 : Nat) ≠ 2 by decide)]; exact gfs_99_2
  have gfs_102_3 : fs_102[3]? = some (.ref q_7) := by rw [efs_102, List.getElem?_set_ne (show (63 : Nat) ≠ 3 by decide)]; exact gfs_99_3
  have gfs_102_41 : fs_102[41]? = some (.ref q_55) := by rw [efs_102, List.getElem?_set_ne (show (63 : Nat) ≠ 41 by decide)]; exact gfs_99_41
  have gfs_102_43 : fs_102[43]? = some (.ref q_61) := by rw [efs_102, List.getElem?_set_ne (show (63 : Nat) ≠ 43 by decide)]; exact gfs_99_43
  have gfs_102_63 : fs_102[63]? = some (.ref q_100) := by rw [efs_102]; exact List.getElem?_set_self (by rw [lfs_99]; decide)
  have hP : va_P (dC, dI) vwCl [(h0, .inr (9, fs_102)), (q_1, .inl (k_2, 4000, .inl ((fun _ => 0)))), (q_4, .inl (k_5, 30, .inl ((fun _ => 0)))), (q_7, .inl (k_8, 30, .inl ((fun _ => 0)))), (q_55, .inl (k_56, 22, .inl ((fun _ => 0)))), (q_61, .inl (k_62, 6, .inl ((fun _ => 0))))] H := hP
  have hD : va_D A [(h0, .inr (9, fs_102)), (q_1, .inl (k_2, 4000, .inl ((fun _ => 0)))), (q_4, .inl (k_5, 30, .inl ((fun _ => 0)))), (q_7, .inl (k_8, 30, .inl ((fun _ => 0)))), (q_55, .inl (k_56, 22, .inl ((fun _ => 0)))), (q_61, .inl (k_62, 6, .inl ((fun _ => 0))))] := hD
  refine lv_aload_n hx hb dX9_init_298 rfl (lv_at hl 0 rfl) ?_
  refine lv_sipush (v := 9000) hx hb dX9_init_299 (by decide) ?_
  refine va_newa (atype := .byte) (a0 := (9000, .inl (fun _ => 0))) (ty := .byte) (N' := 9000) hx hb (hts (.arrayClass .byte) (List.mem_of_getElem? (i := 4) rfl)) rfl hK hP hD hS hA (fun c9 => k_cellB c9 9000) (by decide +kernel) (by decide +kernel) (by decide +kernel) (by decide +kernel) (by decide +kernel) dX9_init_302 (fun q_103 k_104 H hK hP hD hS => ?_)
  have hP := hP.sub (ws' := [(h0, .inr (9, fs_102)), (q_1, .inl (k_2, 4000, .inl ((fun _ => 0)))), (q_4, .inl (k_5, 30, .inl ((fun _ => 0)))), (q_7, .inl (k_8, 30, .inl ((fun _ => 0)))), (q_55, .inl (k_56, 22, .inl ((fun _ => 0)))), (q_61, .inl (k_62, 6, .inl ((fun _ => 0))))]) [0, 1, 2, 3, 4, 5] rfl
  have hD := hD.sub (ws' := [(h0, .inr (9, fs_102)), (q_1, .inl (k_2, 4000, .inl ((fun _ => 0)))), (q_4, .inl (k_5, 30, .inl ((fun _ => 0)))), (q_7, .inl (k_8, 30, .inl ((fun _ => 0)))), (q_55, .inl (k_56, 22, .inl ((fun _ => 0)))), (q_61, .inl (k_62, 6, .inl ((fun _ => 0))))]) [0, 1, 2, 3, 4, 5] (by decide) rfl
  have hK := hK.sub (tys' := [(k_2, .byte), (k_5, .int), (k_8, .int), (k_56, .int), (k_62, .int)]) [0, 1, 2, 3, 4] rfl
  refine W.widen (k := 35) (n := 47298) (by decide +kernel) (by decide +kernel) ?_
  refine va_putF (D := (dC, dI)) (ci := 9) (v := .ref q_103) (ty := .array .byte) (C := RX9) (T := TX9) (N := 69) hx hb hts hinX9 tyX9 tyX9_ok nmX9 hown hK hP hD hS 0 rfl rfl 64 (by decide) (hts (.fieldLink RX9 113 "CensusDeskModel" "bName" "[B") (List.mem_of_getElem? (i := 40) rfl)) (fun _ h9 => h9) rfl hin rfl (by decide +kernel) rfl rfl (by rw [lfs_102]; decide) dX9_init_304 (fun H locs hP hD hS => ?_)
  obtain ⟨fs_105, efs_105⟩ : ∃ z : List Value, z = List.set fs_102 64 (.ref q_103) := ⟨_, rfl⟩
  rw [← efs_105] at hP hD
  have lfs_105 : fs_105.length = 69 := by rw [efs_105, List.length_set]; exact lfs_102
  have gfs_105_1 : fs_105[1]? = some (.int 0) := by rw [efs_105, List.getElem?_set_ne (show (64 : Nat) ≠ 1 by decide)]; exact gfs_102_1
  have gfs_105_4 : fs_105[4]? = some (.int 0) := by rw [efs_105, List.getElem?_set_ne (show (64 : Nat) ≠ 4 by decide)]; exact gfs_102_4
  have gfs_105_5 : fs_105[5]? = some (.int 0) := by rw [efs_105, List.getElem?_set_ne (show (64 : Nat) ≠ 5 by decide)]; exact gfs_102_5
  have gfs_105_8 : fs_105[8]? = some (.int 0) := by rw [efs_105, List.getElem?_set_ne (show (64 : Nat) ≠ 8 by decide)]; exact gfs_102_8
  have gfs_105_9 : fs_105[9]? = some (.int 0) := by rw [efs_105, List.getElem?_set_ne (show (64 : Nat) ≠ 9 by decide)]; exact gfs_102_9
  have gfs_105_10 : fs_105[10]? = some (.int 0) := by rw [efs_105, List.getElem?_set_ne (show (64 : Nat) ≠ 10 by decide)]; exact gfs_102_10
  have gfs_105_12 : fs_105[12]? = some (.int 0) := by rw [efs_105, List.getElem?_set_ne (show (64 : Nat) ≠ 12 by decide)]; exact gfs_102_12
  have gfs_105_26 : fs_105[26]? = some (.int 0) := by rw [efs_105, List.getElem?_set_ne (show (64 : Nat) ≠ 26 by decide)]; exact gfs_102_26
  have gfs_105_40 : fs_105[40]? = some (.int 0) := by rw [efs_105, List.getElem?_set_ne (show (64 : Nat) ≠ 40 by decide)]; exact gfs_102_40
  have gfs_105_58 : fs_105[58]? = some (.int 0) := by rw [efs_105, List.getElem?_set_ne (show (64 : Nat) ≠ 58 by decide)]; exact gfs_102_58
  have gfs_105_65 : fs_105[65]? = some (.int 0) := by rw [efs_105, List.getElem?_set_ne (show (64 : Nat) ≠ 65 by decide)]; exact gfs_102_65
  have gfs_105_66 : fs_105[66]? = some (.int 0) := by rw [efs_105, List.getElem?_set_ne (show (64 : Nat) ≠ 66 by decide)]; exact gfs_102_66
  have gfs_105_67 : fs_105[67]? = some (.int 0) := by rw [efs_105, List.getElem?_set_ne (show (64 : Nat) ≠ 67 by decide)]; exact gfs_102_67
  have gfs_105_68 : fs_105[68]? = some (.int 0) := by rw [efs_105, List.getElem?_set_ne (show (64 : Nat) ≠ 68 by decide)]; exact gfs_102_68
  have gfs_105_0 : fs_105[0]? = some (.ref q_1) := by rw [efs_105, List.getElem?_set_ne (show (64 : Nat) ≠ 0 by decide)]; exact gfs_102_0
  have gfs_105_2 : fs_105[2]? = some (.ref q_4) := by rw [efs_105, List.getElem?_set_ne (show (64 : Nat) ≠ 2 by decide)]; exact gfs_102_2
  have gfs_105_3 : fs_105[3]? = some (.ref q_7) := by rw [efs_105, List.getElem?_set_ne (show (64 : Nat) ≠ 3 by decide)]; exact gfs_102_3
  have gfs_105_41 : fs_105[41]? = some (.ref q_55) := by rw [efs_105, List.getElem?_set_ne (show (64 : Nat) ≠ 41 by decide)]; exact gfs_102_41
  have gfs_105_43 : fs_105[43]? = some (.ref q_61) := by rw [efs_105, List.getElem?_set_ne (show (64 : Nat) ≠ 43 by decide)]; exact gfs_102_43
  have gfs_105_64 : fs_105[64]? = some (.ref q_103) := by rw [efs_105]; exact List.getElem?_set_self (by rw [lfs_102]; decide)
  have hP : va_P (dC, dI) vwCl [(h0, .inr (9, fs_105)), (q_1, .inl (k_2, 4000, .inl ((fun _ => 0)))), (q_4, .inl (k_5, 30, .inl ((fun _ => 0)))), (q_7, .inl (k_8, 30, .inl ((fun _ => 0)))), (q_55, .inl (k_56, 22, .inl ((fun _ => 0)))), (q_61, .inl (k_62, 6, .inl ((fun _ => 0))))] H := hP
  have hD : va_D A [(h0, .inr (9, fs_105)), (q_1, .inl (k_2, 4000, .inl ((fun _ => 0)))), (q_4, .inl (k_5, 30, .inl ((fun _ => 0)))), (q_7, .inl (k_8, 30, .inl ((fun _ => 0)))), (q_55, .inl (k_56, 22, .inl ((fun _ => 0)))), (q_61, .inl (k_62, 6, .inl ((fun _ => 0))))] := hD
  refine lv_iconst (v := 0) hx hb dX9_init_307 (by decide) ?_
  refine lv_istore_n (lv' := [(1, .int 0), (0, .ref h0)]) hx hb dX9_init_308 rfl hl (by decide) rfl (fun ls hl => ?_)
  have loop309 : ∀ (n309 : Nat) (i : Nat) (fv : Nat → Int32) (H : Heap) (locs : List Loc) (ls : Array Slot), (i ≤ 30) → (∀ j, j < i → fv j = -1) → 30 - i < n309 → va_P (dC, dI) vwCl [(h0, .inr (9, fs_105)), (q_1, .inl (k_2, 4000, .inl ((fun _ => 0)))), (q_4, .inl (k_5, 30, .inl fv)), (q_7, .inl (k_8, 30, .inl ((fun _ => 0)))), (q_55, .inl (k_56, 22, .inl ((fun _ => 0)))), (q_61, .inl (k_62, 6, .inl ((fun _ => 0))))] H → va_D A [(h0, .inr (9, fs_105)), (q_1, .inl (k_2, 4000, .inl ((fun _ => 0)))), (q_4, .inl (k_5, 30, .inl fv)), (q_7, .inl (k_8, 30, .inl ((fun _ => 0)))), (q_55, .inl (k_56, 22, .inl ((fun _ => 0)))), (q_61, .inl (k_62, 6, .inl ((fun _ => 0))))] → va_S A s.heap H locs → lv_has ls 2 [(1, .int (nI i)), (0, .ref h0)] → W p l e ({ frames := 1, cells := 35, slots := 47298, locals := 24 } : Room) s m ([.ref h0] : List Value).toArray below meth c H locs 35 47298 QQ (F0 m 309 ls []) := by
    intro n309
    induction n309 with
    | zero =>
      intro i fv H locs ls hi hf hm
      exact absurd hm (Nat.not_lt_zero _)
    | succ n309 ih309 =>
      intro i fv H locs ls hi hf hm hP hD hS hl
      refine lv_iload_n hx hb dX9_init_309 rfl (lv_at hl 0 rfl) ?_
      refine lv_bipush (v := 30) hx hb dX9_init_310 (by decide) ?_
      refine lv_icmp_ge (tgt := 328) hx hb dX9_init_312 (by decide) (fun c_106 => ?_) (fun c_106 => ?_)
      · have hge : 30 ≤ i := by rcases Nat.lt_or_ge i 30 with q | q; exact absurd c_106 (nI_ge (a := i) (b := 30) q (by decide)); exact q
        subst eQ
        have hP9 := hP.sub (ws' := [(h0, .inr (9, fs_105)), (q_1, .inl (k_2, 4000, .inl ((fun _ => 0)))), (q_4, .inl (k_5, 30, .inl fv)), (q_7, .inl (k_8, 30, .inl ((fun _ => 0)))), (q_55, .inl (k_56, 22, .inl ((fun _ => 0)))), (q_61, .inl (k_62, 6, .inl ((fun _ => 0))))]) [0, 1, 2, 3, 4, 5] rfl
        have hD9 := hD.sub (ws' := [(h0, .inr (9, fs_105)), (q_1, .inl (k_2, 4000, .inl ((fun _ => 0)))), (q_4, .inl (k_5, 30, .inl fv)), (q_7, .inl (k_8, 30, .inl ((fun _ => 0)))), (q_55, .inl (k_56, 22, .inl ((fun _ => 0)))), (q_61, .inl (k_62, 6, .inl ((fun _ => 0))))]) [0, 1, 2, 3, 4, 5] (by decide) rfl
        have hK9 := hK.sub (tys' := [(k_2, .byte), (k_5, .int), (k_8, .int), (k_56, .int), (k_62, .int)]) [0, 1, 2, 3, 4] rfl
        exact W.vret hx hb hr (fun t ht hW => ⟨⟨(), rfl, trivial, fs_105, q_1, q_4, q_7, q_55, q_61, k_2, k_5, k_8, k_56, k_62, fv, lfs_105, gfs_105_1, gfs_105_4, gfs_105_5, gfs_105_8, gfs_105_9, gfs_105_10, gfs_105_12, gfs_105_26, gfs_105_40, gfs_105_58, gfs_105_65, gfs_105_66, gfs_105_67, gfs_105_68, gfs_105_0, gfs_105_2, gfs_105_3, gfs_105_41, gfs_105_43, (fun j h => hf j (by omega)), ⟨by rw [ht]; exact hP9, va_K.moved hW.alike hK9, hD9⟩⟩, hS.F ht⟩) hS.2.2 dX9_init_328
      · have hlt : i < 30 := by rcases Nat.lt_or_ge i 30 with q | q; exact q; exact absurd (nI_le (a := 30) (b := i) q (by omega)) c_106
        refine lv_aload_n hx hb dX9_init_315 rfl (lv_at hl 1 rfl) ?_
        refine va_get (D := (dC, dI)) (ci := 9) (v := .ref q_4) (C := RX9) (T := TX9) (N := 69) hx hb hts hinX9 hown hK hP 0 rfl rfl 2 (by decide) (hts (.fieldLink RX9 13 "CensusDeskModel" "ruleWay" "[I") (List.mem_of_getElem? (i := 7) rfl)) (fun _ h9 => h9) gfs_105_2 dX9_init_316 ?_
        refine lv_iload_n hx hb dX9_init_319 rfl (lv_at hl 0 rfl) ?_
        refine lv_iconst (v := (-1)) hx hb dX9_init_320 (by decide) ?_
        refine va_iast hx hb hK hP hD hS 2 1 rfl rfl (i := (nI i)) (x := (-1)) (vp_in_nI hlt (by decide)) dX9_init_321 (fun H locs hP hD hS => ?_)
        obtain ⟨f_107, ef_107⟩ : ∃ z : Nat → Int32, z = upd fv (Int32.toNatClampNeg (nI i)) (-1) := ⟨_, rfl⟩
        rw [← ef_107] at hP hD
        have hP : va_P (dC, dI) vwCl [(h0, .inr (9, fs_105)), (q_1, .inl (k_2, 4000, .inl ((fun _ => 0)))), (q_4, .inl (k_5, 30, .inl f_107)), (q_7, .inl (k_8, 30, .inl ((fun _ => 0)))), (q_55, .inl (k_56, 22, .inl ((fun _ => 0)))), (q_61, .inl (k_62, 6, .inl ((fun _ => 0))))] H := hP
        have hD : va_D A [(h0, .inr (9, fs_105)), (q_1, .inl (k_2, 4000, .inl ((fun _ => 0)))), (q_4, .inl (k_5, 30, .inl f_107)), (q_7, .inl (k_8, 30, .inl ((fun _ => 0)))), (q_55, .inl (k_56, 22, .inl ((fun _ => 0)))), (q_61, .inl (k_62, 6, .inl ((fun _ => 0))))] := hD
        refine lv_iinc (v := (nI (i + 1))) (lv' := [(1, .int (nI (i + 1))), (0, .ref h0)]) hx hb dX9_init_322 hl (k := 0) rfl (nI_1 i) (by decide) rfl (fun ls hl => ?_)
        refine lv_goto (tgt := 309) hx hb dX9_init_325 (by decide) ?_
        exact ih309 (i + 1) (f_107) _ _ _ hlt (fun j h => by rw [ef_107, nI_clamp (by omega)]; rcases Nat.lt_succ_iff_lt_or_eq.mp h with h | h; exact (pk_un (by omega)).trans (hf j h); rw [h]; exact pk_us) (by omega) (hP.sub [0, 1, 2, 3, 4, 5] rfl) (hD.sub [0, 1, 2, 3, 4, 5] (by decide) rfl) hS (lv_sub hl [0, 1] rfl)
  exact loop309 (30 - 0 + 1) (0) ((fun _ => 0)) _ _ _ (by decide) (fun j h => absurd h (Nat.not_lt_zero j)) (Nat.lt_succ_self _) (hP.sub [0, 1, 2, 3, 4, 5] rfl) (hD.sub [0, 1, 2, 3, 4, 5] (by decide) rfl) hS (lv_sub hl [0, 1] rfl)
