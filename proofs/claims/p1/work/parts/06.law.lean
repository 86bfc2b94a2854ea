theorem nsF_in : ∀ w ∈ nsF.map (fun q => Cond.fieldLinkNest q.1 q.2.1 q.2.2.1 q.2.2.2.1 q.2.2.2.2 "CensusDesk"), w ∈ lw_tbl := k_places [79, 80, 81, 118, 142, 144, 146, 148, 150, 152, 189, 192, 194, 196, 221, 236, 238, 240, 243, 246, 248, 250, 252, 253, 255, 256, 258, 259, 297, 299, 301, 303, 305] (by decide +kernel)
theorem nsM_in : ∀ w ∈ nsM.map (fun q => Cond.methodLinkNest q.1 q.2.1 q.2.2 "CensusDesk"), w ∈ lw_tbl := k_places [73, 107, 132, 182, 214, 231] (by decide +kernel)
theorem ao_in : Cond.arrayOver (.array .int) ∈ lw_tbl := List.mem_of_getElem? (i := 112) (by decide +kernel)
theorem k_L6 (L : Nat) (h : L ≤ 6) (hc : ¬ Int32.ofNat L - 6 < 0) : L = 6 := by
  have key : ∀ L : Fin 7, ¬ Int32.ofNat L.val - 6 < 0 → L.val = 6 := by decide +kernel
  exact key ⟨L, by omega⟩ hc
theorem k_sw16 (x : Int32) : (x.toInt < 0 ∨ 16 < x.toInt) ∨ x = 0 ∨ x = 1 ∨ x = 2 ∨ x = 3 ∨ x = 4 ∨ x = 5 ∨ x = 6 ∨ x = 7 ∨ x = 8 ∨ x = 9 ∨ x = 10 ∨ x = 11 ∨ x = 12 ∨ x = 13 ∨ x = 14 ∨ x = 15 ∨ x = 16 := by
  by_cases h : x.toInt < 0 ∨ 16 < x.toInt
  · exact Or.inl h
  · have h5 : x.toInt = (0 : Nat) ∨ x.toInt = (1 : Nat) ∨ x.toInt = (2 : Nat) ∨ x.toInt = (3 : Nat) ∨ x.toInt = (4 : Nat) ∨ x.toInt = (5 : Nat) ∨ x.toInt = (6 : Nat) ∨ x.toInt = (7 : Nat) ∨ x.toInt = (8 : Nat) ∨ x.toInt = (9 : Nat) ∨ x.toInt = (10 : Nat) ∨ x.toInt = (11 : Nat) ∨ x.toInt = (12 : Nat) ∨ x.toInt = (13 : Nat) ∨ x.toInt = (14 : Nat) ∨ x.toInt = (15 : Nat) ∨ x.toInt = (16 : Nat) := by omega
    rcases h5 with h | h | h | h | h | h | h | h | h | h | h | h | h | h | h | h | h
    · exact Or.inr (Or.inl (k_num h (by decide)))
    · exact Or.inr (Or.inr (Or.inl (k_num h (by decide))))
    · exact Or.inr (Or.inr (Or.inr (Or.inl (k_num h (by decide)))))
    · exact Or.inr (Or.inr (Or.inr (Or.inr (Or.inl (k_num h (by decide))))))
    · exact Or.inr (Or.inr (Or.inr (Or.inr (Or.inr (Or.inl (k_num h (by decide)))))))
    · exact Or.inr (Or.inr (Or.inr (Or.inr (Or.inr (Or.inr (Or.inl (k_num h (by decide))))))))
    · exact Or.inr (Or.inr (Or.inr (Or.inr (Or.inr (Or.inr (Or.inr (Or.inl (k_num h (by decide)))))))))
    · exact Or.inr (Or.inr (Or.inr (Or.inr (Or.inr (Or.inr (Or.inr (Or.inr (Or.inl (k_num h (by decide))))))))))
    · exact Or.inr (Or.inr (Or.inr (Or.inr (Or.inr (Or.inr (Or.inr (Or.inr (Or.inr (Or.inl (k_num h (by decide)))))))))))
    · exact Or.inr (Or.inr (Or.inr (Or.inr (Or.inr (Or.inr (Or.inr (Or.inr (Or.inr (Or.inr (Or.inl (k_num h (by decide))))))))))))
    · exact Or.inr (Or.inr (Or.inr (Or.inr (Or.inr (Or.inr (Or.inr (Or.inr (Or.inr (Or.inr (Or.inr (Or.inl (k_num h (by decide)))))))))))))
    · exact Or.inr (Or.inr (Or.inr (Or.inr (Or.inr (Or.inr (Or.inr (Or.inr (Or.inr (Or.inr (Or.inr (Or.inr (Or.inl (k_num h (by decide))))))))))))))
    · exact Or.inr (Or.inr (Or.inr (Or.inr (Or.inr (Or.inr (Or.inr (Or.inr (Or.inr (Or.inr (Or.inr (Or.inr (Or.inr (Or.inl (k_num h (by decide)))))))))))))))
    · exact Or.inr (Or.inr (Or.inr (Or.inr (Or.inr (Or.inr (Or.inr (Or.inr (Or.inr (Or.inr (Or.inr (Or.inr (Or.inr (Or.inr (Or.inl (k_num h (by decide))))))))))))))))
    · exact Or.inr (Or.inr (Or.inr (Or.inr (Or.inr (Or.inr (Or.inr (Or.inr (Or.inr (Or.inr (Or.inr (Or.inr (Or.inr (Or.inr (Or.inr (Or.inl (k_num h (by decide)))))))))))))))))
    · exact Or.inr (Or.inr (Or.inr (Or.inr (Or.inr (Or.inr (Or.inr (Or.inr (Or.inr (Or.inr (Or.inr (Or.inr (Or.inr (Or.inr (Or.inr (Or.inr (Or.inl (k_num h (by decide))))))))))))))))))
    · exact Or.inr (Or.inr (Or.inr (Or.inr (Or.inr (Or.inr (Or.inr (Or.inr (Or.inr (Or.inr (Or.inr (Or.inr (Or.inr (Or.inr (Or.inr (Or.inr (Or.inr (k_num h (by decide))))))))))))))))))
set_option maxRecDepth 20000 in
theorem k_stat {s : State} {b : Nat} (hts : ∀ w ∈ lw_tbl, w.before #[Value.ref b] s = true) (hgv : (Jvm.Cond.and given_1 narrow_1).before #[Value.ref b] s = true) : ∃ g : Nat, va_Z RX5 "GROUP_OF" "[I" (.ref g) (fun q : Nat => s.heap.size ≤ q) s s.heap ∧ va_T .int g 30 (fun j => .int (gof j)) (fun q : Nat => s.heap.size ≤ q) s s.heap := by
  have hs := flat_of_before _ hgv
  have hAA : ∀ a : Nat, a < s.heap.size → ¬ (fun q : Nat => s.heap.size ≤ q) a := fun a h => Nat.not_le.mpr h
  have hlen : (Term.length (.static "CensusDesk$Rules" "GROUP_OF" "[I")).eval #[Value.ref b] s none [] s = some (.int (Int32.ofNat 30)) := va_eqt (hs (.eq (.length (.static "CensusDesk$Rules" "GROUP_OF" "[I")) (.int 30)) (by decide +kernel))
  have hel : ∀ j : Nat, j < 30 → (Term.elem (.static "CensusDesk$Rules" "GROUP_OF" "[I") (.int (Int32.ofNat j))).eval #[Value.ref b] s none [] s = some (.int (gof j))
    | 0, _ => va_eqt (hs (.eq (.elem (.static "CensusDesk$Rules" "GROUP_OF" "[I") (.int 0)) (.int 0)) (by decide +kernel))
    | 1, _ => va_eqt (hs (.eq (.elem (.static "CensusDesk$Rules" "GROUP_OF" "[I") (.int 1)) (.int 24)) (by decide +kernel))
    | 2, _ => va_eqt (hs (.eq (.elem (.static "CensusDesk$Rules" "GROUP_OF" "[I") (.int 2)) (.int 22)) (by decide +kernel))
    | 3, _ => va_eqt (hs (.eq (.elem (.static "CensusDesk$Rules" "GROUP_OF" "[I") (.int 3)) (.int 22)) (by decide +kernel))
    | 4, _ => va_eqt (hs (.eq (.elem (.static "CensusDesk$Rules" "GROUP_OF" "[I") (.int 4)) (.int 23)) (by decide +kernel))
    | 5, _ => va_eqt (hs (.eq (.elem (.static "CensusDesk$Rules" "GROUP_OF" "[I") (.int 5)) (.int 23)) (by decide +kernel))
    | 6, _ => va_eqt (hs (.eq (.elem (.static "CensusDesk$Rules" "GROUP_OF" "[I") (.int 6)) (.int 25)) (by decide +kernel))
    | 7, _ => va_eqt (hs (.eq (.elem (.static "CensusDesk$Rules" "GROUP_OF" "[I") (.int 7)) (.int 25)) (by decide +kernel))
    | 8, _ => va_eqt (hs (.eq (.elem (.static "CensusDesk$Rules" "GROUP_OF" "[I") (.int 8)) (.int 25)) (by decide +kernel))
    | 9, _ => va_eqt (hs (.eq (.elem (.static "CensusDesk$Rules" "GROUP_OF" "[I") (.int 9)) (.int 26)) (by decide +kernel))
    | 10, _ => va_eqt (hs (.eq (.elem (.static "CensusDesk$Rules" "GROUP_OF" "[I") (.int 10)) (.int 26)) (by decide +kernel))
    | 11, _ => va_eqt (hs (.eq (.elem (.static "CensusDesk$Rules" "GROUP_OF" "[I") (.int 11)) (.int 26)) (by decide +kernel))
    | 12, _ => va_eqt (hs (.eq (.elem (.static "CensusDesk$Rules" "GROUP_OF" "[I") (.int 12)) (.int 26)) (by decide +kernel))
    | 13, _ => va_eqt (hs (.eq (.elem (.static "CensusDesk$Rules" "GROUP_OF" "[I") (.int 13)) (.int 26)) (by decide +kernel))
    | 14, _ => va_eqt (hs (.eq (.elem (.static "CensusDesk$Rules" "GROUP_OF" "[I") (.int 14)) (.int 27)) (by decide +kernel))
    | 15, _ => va_eqt (hs (.eq (.elem (.static "CensusDesk$Rules" "GROUP_OF" "[I") (.int 15)) (.int 27)) (by decide +kernel))
    | 16, _ => va_eqt (hs (.eq (.elem (.static "CensusDesk$Rules" "GROUP_OF" "[I") (.int 16)) (.int 27)) (by decide +kernel))
    | 17, _ => va_eqt (hs (.eq (.elem (.static "CensusDesk$Rules" "GROUP_OF" "[I") (.int 17)) (.int 27)) (by decide +kernel))
    | 18, _ => va_eqt (hs (.eq (.elem (.static "CensusDesk$Rules" "GROUP_OF" "[I") (.int 18)) (.int 27)) (by decide +kernel))
    | 19, _ => va_eqt (hs (.eq (.elem (.static "CensusDesk$Rules" "GROUP_OF" "[I") (.int 19)) (.int 28)) (by decide +kernel))
    | 20, _ => va_eqt (hs (.eq (.elem (.static "CensusDesk$Rules" "GROUP_OF" "[I") (.int 20)) (.int 28)) (by decide +kernel))
    | 21, _ => va_eqt (hs (.eq (.elem (.static "CensusDesk$Rules" "GROUP_OF" "[I") (.int 21)) (.int 28)) (by decide +kernel))
    | 22, _ => va_eqt (hs (.eq (.elem (.static "CensusDesk$Rules" "GROUP_OF" "[I") (.int 22)) (.int 25)) (by decide +kernel))
    | 23, _ => va_eqt (hs (.eq (.elem (.static "CensusDesk$Rules" "GROUP_OF" "[I") (.int 23)) (.int 25)) (by decide +kernel))
    | 24, _ => va_eqt (hs (.eq (.elem (.static "CensusDesk$Rules" "GROUP_OF" "[I") (.int 24)) (.int 29)) (by decide +kernel))
    | 25, _ => va_eqt (hs (.eq (.elem (.static "CensusDesk$Rules" "GROUP_OF" "[I") (.int 25)) (.int 29)) (by decide +kernel))
    | 26, _ => va_eqt (hs (.eq (.elem (.static "CensusDesk$Rules" "GROUP_OF" "[I") (.int 26)) (.int 29)) (by decide +kernel))
    | 27, _ => va_eqt (hs (.eq (.elem (.static "CensusDesk$Rules" "GROUP_OF" "[I") (.int 27)) (.int 29)) (by decide +kernel))
    | 28, _ => va_eqt (hs (.eq (.elem (.static "CensusDesk$Rules" "GROUP_OF" "[I") (.int 28)) (.int 29)) (by decide +kernel))
    | 29, _ => va_eqt (hs (.eq (.elem (.static "CensusDesk$Rules" "GROUP_OF" "[I") (.int 29)) (.int 0)) (by decide +kernel))
    | (j + 30), h => absurd h (by omega)
  obtain ⟨g, hg, hT⟩ := va_Tof (A := fun q : Nat => s.heap.size ≤ q) (by decide) (hs (.arrayOf (.static "CensusDesk$Rules" "GROUP_OF" "[I") .int) (by decide +kernel)) hlen hel hAA
  exact ⟨g, va_Zof (hts (.laysStatic RX5 "GROUP_OF" "[I") (List.mem_of_getElem? (i := 462) (by decide +kernel))) (hts (.initialized RX5) (List.mem_of_getElem? (i := 54) (by decide +kernel))) hg hAA, hT⟩
/-! THE CLAIM OUT OF ONE WALK OF THE LAW'S BODY. Your part is whole_start (and what it stands on); all else here is the same for every law, but numbers. -/
def R_law : String := "CensusDeskLaw"
def lw_P (b : Addr) (xs : List Int32) (args : Array Value) (s : State) : Prop := args = #[.ref b] ∧ s.IntsAt b xs ∧ xs.length ≤ 6 ∧ (Jvm.Cond.and given_1 narrow_1).before args s = true
def lw_Q (_ : Array Value) (s : State) (o : Outcome) (t : State) : Prop := o = .returned (some (.int 1)) ∧ Framed s o t [] 600000 7302249
def lw_Z (below : List Frame) (a : Array Value) (s : State) : State → Prop := fun t => ∃ o, t.status = .running ∧ Ended t below o ∧ lw_Q a s o t
/-- the law's own end, with 1 on the stack, nothing written that was there before, its room as the claim has it -/
theorem lw_ret {p : Program} {l : Launch} {e : Env} {s : State} {m : MethodId} {below : List Frame} {meth : Method} {c : Code} {b : Nat} (hx : p.tables.exec = Jvm.exec) (hb : c.code = code) (hr : meth.sig.returnType = ret) (hlocks : meth.locks = false) {pc : Nat} {H : Heap} {ls : Array Slot} (hdg : decode code pc = .ok (.ireturn, 1)) : W p l e room_1 s m #[Value.ref b] below meth c H [] 600000 7302249 (lw_Z below #[Value.ref b] s) (F0 m pc ls [.int 1]) := by
  intro T hT X
  obtain ⟨fs, hret, hrun, hended, hW, hframe⟩ := X.leave (v := some (.int 1)) (hlocks := hlocks) (fun h => by rw [hr] at h; cases h)
  have hmeth' : T.vm.method? m = some meth := X.method'
  refine ⟨T.setFrames fs, ?_, .returned (some (.int 1)), hrun, hended, rfl, ⟨_, rfl⟩, hW, hframe⟩
  jvm_step X.here [X.here.top, hx, hb, hdg, hmeth', hr, ret, narrow_b1]
  (try refine ⟨rfl, ?_⟩); (try refine ⟨rfl, ?_⟩)
  first | (intro acts; rw [hret _ acts rfl rfl rfl]) | rw [hret _ _ rfl rfl rfl]
  exact Steps.refl _
/-- what holds at the law's entry: the machine, the code, the tables' words (any of lw_tbl by 'hts w (by decide +kernel)'), the script of L ints xs at the cell b, what the Statement gives of the start (any of its parts by flat_of_before) -/
def lw_At (p : Program) (s : State) (m : MethodId) (meth : Method) (c : Code) (b L : Nat) (xs : Nat → Int32) : Prop :=
  p.tables.exec = Jvm.exec ∧ c.code = code ∧ meth.sig.returnType = ret ∧ c.maxLocals = 4 ∧ s.vm.findClass R_law = some m.cls ∧ (∀ w ∈ lw_tbl, w.before #[Value.ref b] s = true) ∧ va_X b L xs s s.heap ∧ b < s.heap.size ∧ meth.locks = false ∧ (Jvm.Cond.and given_1 narrow_1).before #[Value.ref b] s = true
