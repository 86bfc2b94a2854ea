/-! my own words: the bundle of nest links, a contract's start and end, joins -/
theorem va_AOA.moved {t : FieldType} {u U : State} (hvm : u.vm.Alike U.vm) (h : va_AOA t u) : va_AOA t U := by
  obtain ⟨comp, c, k, h1, h2, h3, h4, h5⟩ := Jvm.Stand.arrayOver_specB h
  obtain ⟨k', hk', he⟩ := hvm.2.2 _ _ h3
  have e : U.vm.bare = u.vm.bare := by first | exact hvm.bare_eq.symm | exact hvm.bare_eq
  have hi := (va_idx_bare U.vm comp).symm.trans ((congrArg (fun v : Vm => v.classes.findIdx? fun (x : Class) => match x.kind with | .array component _ => component == comp | _ => false) e).trans ((va_idx_bare u.vm comp).trans h2))
  have hkind : k'.kind = .array comp (.array t) := by rw [he]; exact h4
  have f1 : U.vm.findClass (FieldType.array t).toString = some comp := by rw [hvm.findClass]; exact h1
  have f2 : U.vm.findClass ("[" ++ (FieldType.array t).toString) = some c := by rw [hvm.findClass]; exact h5
  unfold va_AOA Cond.before Cond.holds
  simp only [Cond.value]
  rw [f1, Option.bind_some]
  refine (congrArg (fun o : Option Nat => (o.bind (fun c => (U.vm.classes[c]?).map fun (k : Class) => match k.kind with | .array _ ty => decide (ty = FieldType.array t) && decide (U.vm.findClass ("[" ++ (FieldType.array t).toString) = some c) | _ => false) == some true)) hi).trans ?_
  simp [hk', hkind, f2]
def nsF : List (String × Nat × String × String × String) := [("CensusDesk$Line", 31, "CensusDesk$Tape", "length", "I"), ("CensusDesk", 58, "CensusDesk$Tape", "length", "I"), ("CensusDesk$Reader", 97, "CensusDesk$Tape", "length", "I"), ("CensusDesk", 93, "CensusDesk$Failures", "count", "I"), ("CensusDesk", 122, "CensusDesk$Book", "households", "I"), ("CensusDesk", 125, "CensusDesk$Book", "persons", "I"), ("CensusDesk", 128, "CensusDesk$Book", "men", "I"), ("CensusDesk", 131, "CensusDesk$Book", "women", "I"), ("CensusDesk", 134, "CensusDesk$Book", "ageSum", "I"), ("CensusDesk", 137, "CensusDesk$Book", "agesMissing", "I"), ("CensusDesk$Reader", 124, "CensusDesk$Line", "start", "I"), ("CensusDesk$Reader", 118, "CensusDesk$Line", "behind", "I"), ("CensusDesk$Reader", 163, "CensusDesk$Line", "cells", "I"), ("CensusDesk$Reader", 121, "CensusDesk$Line", "sort", "I"), ("CensusDesk$Household", 56, "CensusDesk$Signs", "count", "I"), ("CensusDesk$Book", 49, "CensusDesk$Household", "sex", "[I"), ("CensusDesk$Book", 52, "CensusDesk$Household", "age", "[I"), ("CensusDesk$Book", 55, "CensusDesk$Household", "trade", "[I"), ("CensusDesk$Book", 58, "CensusDesk$Household", "nameLength", "[I"), ("CensusDesk$Reader", 81, "CensusDesk$Household", "open", "Z"), ("CensusDesk$Reader", 135, "CensusDesk$Household", "lost", "Z"), ("CensusDesk$Reader", 239, "CensusDesk$Household", "start", "I"), ("CensusDesk$Book", 39, "CensusDesk$Household", "number", "I"), ("CensusDesk$Reader", 222, "CensusDesk$Household", "number", "I"), ("CensusDesk$Book", 42, "CensusDesk$Household", "told", "I"), ("CensusDesk$Reader", 223, "CensusDesk$Household", "told", "I"), ("CensusDesk$Book", 36, "CensusDesk$Household", "persons", "I"), ("CensusDesk$Reader", 246, "CensusDesk$Household", "persons", "I"), ("CensusDesk", 110, "CensusDesk$Reader", "linesRead", "I"), ("CensusDesk", 90, "CensusDesk$Reader", "taken", "I"), ("CensusDesk", 113, "CensusDesk$Reader", "lost", "I"), ("CensusDesk", 116, "CensusDesk$Reader", "personsTaken", "I"), ("CensusDesk", 119, "CensusDesk$Reader", "position", "I")]
def nsM : List (String × Nat × MethodName) := [("CensusDesk", 9, ⟨"CensusDesk$Tape", "<init>", "()V"⟩), ("CensusDesk", 25, ⟨"CensusDesk$Failures", "<init>", "()V"⟩), ("CensusDesk", 32, ⟨"CensusDesk$Book", "<init>", "()V"⟩), ("CensusDesk$Reader", 11, ⟨"CensusDesk$Line", "<init>", "()V"⟩), ("CensusDesk$Reader", 20, ⟨"CensusDesk$Signs", "<init>", "()V"⟩), ("CensusDesk$Reader", 27, ⟨"CensusDesk$Household", "<init>", "()V"⟩)]
def Nst (U : State) : Prop := (∀ q ∈ nsF, va_Nw (.fieldLinkNest q.1 q.2.1 q.2.2.1 q.2.2.2.1 q.2.2.2.2 "CensusDesk") U) ∧ (∀ q ∈ nsM, va_Nw (.methodLinkNest q.1 q.2.1 q.2.2 "CensusDesk") U) ∧ va_AOA .int U
theorem Nst.warm {s U : State} (hW : s.WarmedH U.vm) (h : Nst s) : Nst U := ⟨fun q hq => va_Nw.warmF hW (h.1 q hq), fun q hq => va_Nw.warmM hW (h.2.1 q hq), va_AOA.moved hW.alike h.2.2⟩
theorem Nst.same {u U : State} (e : u.vm = U.vm) (h : Nst u) : Nst U := ⟨fun q hq => va_Nw.same rfl e (h.1 q hq), fun q hq => va_Nw.same rfl e (h.2.1 q hq), va_AOA.moved (by rw [e]; exact Vm.Alike.refl _) h.2.2⟩
def kPre (dC : Nat → ClassId) (dI : Nat → Nat → Nat) (tys : List (ClassId × FieldType)) (ws : va_W) (sz : Nat) (U : State) : Prop := U.heap.size = sz ∧ va_P (dC, dI) vwCl ws U.heap ∧ va_K (dC, dI) vwCl tys U ∧ va_D (fun _ => True) ws ∧ Nst U
def kB (dC : Nat → ClassId) (dI : Nat → Nat → Nat) (A : Nat → Prop) (tys : List (ClassId × FieldType)) (ws : va_W) (t : State) : Prop := va_P (dC, dI) vwCl ws t.heap ∧ va_K (dC, dI) vwCl tys t ∧ va_D A ws
section KB
variable {dC : Nat → ClassId} {dI : Nat → Nat → Nat} {tys : List (ClassId × FieldType)} {ws : va_W} {sz : Nat} {s : State} {H : Heap} {A : Nat → Prop}
theorem kPre_blind {av : List Value} : FrameBlind (va_Pc av (kPre dC dI tys ws sz)) := fun a U g mk q => by
  obtain ⟨q0, q1, qP, qK, qD, qN⟩ := q
  exact ⟨q0, q1, qP, va_K.moved (u := U) (U := U.calling g mk a) (Vm.Alike.refl U.vm) qK, qD, Nst.same rfl qN⟩
theorem kPre_in (hP : va_P (dC, dI) vwCl ws H) (hK : va_K (dC, dI) vwCl tys s) (hD : va_D A ws) (hN : Nst s) (U : State) (hU : U.heap = H) (hW : s.WarmedH U.vm) : kPre dC dI tys ws H.size U :=
  ⟨by rw [hU], by rw [hU]; exact hP, va_K.moved hW.alike hK, hD.weaken (fun _ _ _ _ => trivial), hN.warm hW⟩
theorem kPreV {C : String} {b : Addr} {As : List Value} (hP : va_P (dC, dI) vwCl ws H) (hK : va_K (dC, dI) vwCl tys s) (hD : va_D A ws) (hN : Nst s) (hr : ∃ cellB : Cell, H[b]? = some cellB ∧ cellB.vm.isStatics = false ∧ s.vm.findClass C = some cellB.cls) : PreV s H C b (va_Pc (.ref b :: As) (kPre dC dI tys ws H.size)) As :=
  ⟨kPre_blind, hr, fun U hU hW => ⟨rfl, kPre_in hP hK hD hN U hU hW⟩⟩
theorem kPreS {As : List Value} (hP : va_P (dC, dI) vwCl ws H) (hK : va_K (dC, dI) vwCl tys s) (hD : va_D A ws) (hN : Nst s) : PreS s H (va_Pc As (kPre dC dI tys ws H.size)) As :=
  ⟨kPre_blind, fun U hU hW => ⟨rfl, kPre_in hP hK hD hN U hU hW⟩⟩
theorem kJoin {A0 : Nat → Prop} {wc wr w1 : va_W} {tys1 : List (ClassId × FieldType)} {H1 : Heap} {t : State} (hP : va_P (dC, dI) vwCl ws H) (hD : va_D A0 ws) (hK : va_K (dC, dI) vwCl tys s) (isC isR : List Nat) (hC : isC.map (fun i => ws[i]?) = wc.map some) (hR : isR.map (fun i => ws[i]?) = wr.map some) (hn : va_nd isR = true) (hdis : ∀ i ∈ isR, i ∉ isC)
    (hk : ∀ q : Nat, q < H.size → ¬ va_A wc H.size q → H1[q]? = H[q]?) (hF : ∀ q, va_A wc H.size q → A0 q) (ht : t.heap = H1) (hvm : s.vm.Alike t.vm) (hB : kB dC dI (va_A wc H.size) tys1 w1 t) : va_P (dC, dI) vwCl (wr ++ w1) H1 ∧ va_D A0 (wr ++ w1) ∧ va_K (dC, dI) vwCl (tys ++ tys1) s := by
  obtain ⟨hP1, hK1, hD1⟩ := hB
  rw [ht] at hP1
  obtain ⟨h1, h2⟩ := va_join hP hD isC isR hC hR hn hdis hk hF hP1 hD1
  exact ⟨h1, h2, hK.app (va_K.moved hvm.symm hK1)⟩
/-- behind a call that tells nothing of its world: the caller's other cells -/
theorem kRest {A0 : Nat → Prop} {wc wr : va_W} {H1 : Heap} (hP : va_P (dC, dI) vwCl ws H) (hD : va_D A0 ws) (isC isR : List Nat) (hC : isC.map (fun i => ws[i]?) = wc.map some) (hR : isR.map (fun i => ws[i]?) = wr.map some) (hn : va_nd isR = true) (hdis : ∀ i ∈ isR, i ∉ isC)
    (hk : ∀ q : Nat, q < H.size → ¬ va_A wc H.size q → H1[q]? = H[q]?) (hF : ∀ q, va_A wc H.size q → A0 q) : va_P (dC, dI) vwCl wr H1 ∧ va_D A0 wr := by
  obtain ⟨h1, h2⟩ := va_join (w1 := []) hP hD isC isR hC hR hn hdis hk hF (fun k q h => by simp at h) ⟨fun i j p q h => by simp at h, fun k q h => by simp at h⟩
  rw [List.append_nil] at h1 h2
  exact ⟨h1, h2⟩
end KB
section KW
variable {p : Program} {l : Launch} {e : Env} {R : Room} {s : State} {m : MethodId} {args : Array Value} {below : List Frame} {meth : Method} {c : Code} {H : Heap} {locs : List Loc} {cells slots : Nat} {Q : State → Prop}
theorem k_top {x v : Int32} {pc : Nat} {ls : Array Slot} {rest : List Value} (h : x = v) (kk : W p l e R s m args below meth c H locs cells slots Q (F0 m pc ls (.int v :: rest))) : W p l e R s m args below meth c H locs cells slots Q (F0 m pc ls (.int x :: rest)) := by
  subst h
  exact kk
theorem k_gen {g : JFrame} (h : ∀ Q' : State → Prop, Q' = Q → W p l e R s m args below meth c H locs cells slots Q' g) : W p l e R s m args below meth c H locs cells slots Q g := h Q rfl
end KW
theorem k_vin0 {n : Nat} (h : 0 < n) : vp_in 0 n := by
  rw [vp_in_iff]
  exact ⟨by decide, by show (0 : Int) < n; omega⟩
theorem defX0 : ∀ j, j < 10 → defaultValue (tyX0 j) = vp_V [.null, .null, .null, .null, .int 0, .int 0, .int 0, .int 0, .int 0, .int 0] j
  | 0, _ => rfl
  | 1, _ => rfl
  | 2, _ => rfl
  | 3, _ => rfl
  | 4, _ => rfl
  | 5, _ => rfl
  | 6, _ => rfl
  | 7, _ => rfl
  | 8, _ => rfl
  | 9, _ => rfl
  | (j + 10), h => absurd h (by omega)
theorem defX1 : ∀ j, j < 5 → defaultValue (tyX1 j) = vp_V [.null, .null, .null, .null, .int 0] j
  | 0, _ => rfl
  | 1, _ => rfl
  | 2, _ => rfl
  | 3, _ => rfl
  | 4, _ => rfl
  | (j + 5), h => absurd h (by omega)
theorem defX2 : ∀ j, j < 13 → defaultValue (tyX2 j) = vp_V [.null, .null, .null, .null, .null, .null, .int 0, .int 0, .int 0, .int 0, .int 0, .int 0, .int 0] j
  | 0, _ => rfl
  | 1, _ => rfl
  | 2, _ => rfl
  | 3, _ => rfl
  | 4, _ => rfl
  | 5, _ => rfl
  | 6, _ => rfl
  | 7, _ => rfl
  | 8, _ => rfl
  | 9, _ => rfl
  | 10, _ => rfl
  | 11, _ => rfl
  | 12, _ => rfl
  | (j + 13), h => absurd h (by omega)
theorem defX3 : ∀ j, j < 7 → defaultValue (tyX3 j) = vp_V [.null, .null, .int 0, .int 0, .int 0, .int 0, .int 0] j
  | 0, _ => rfl
  | 1, _ => rfl
  | 2, _ => rfl
  | 3, _ => rfl
  | 4, _ => rfl
  | 5, _ => rfl
  | 6, _ => rfl
  | (j + 7), h => absurd h (by omega)
theorem defX4 : ∀ j, j < 19 → defaultValue (tyX4 j) = vp_V [.null, .null, .null, .null, .null, .null, .null, .null, .int 0, .int 0, .int 0, .int 0, .int 0, .int 0, .int 0, .int 0, .int 0, .int 0, .int 0] j
  | 0, _ => rfl
  | 1, _ => rfl
  | 2, _ => rfl
  | 3, _ => rfl
  | 4, _ => rfl
  | 5, _ => rfl
  | 6, _ => rfl
  | 7, _ => rfl
  | 8, _ => rfl
  | 9, _ => rfl
  | 10, _ => rfl
  | 11, _ => rfl
  | 12, _ => rfl
  | 13, _ => rfl
  | 14, _ => rfl
  | 15, _ => rfl
  | 16, _ => rfl
  | 17, _ => rfl
  | 18, _ => rfl
  | (j + 19), h => absurd h (by omega)
theorem defX5 : ∀ j, j < 2 → defaultValue (tyX5 j) = vp_V [.null, .null] j
  | 0, _ => rfl
  | 1, _ => rfl
  | (j + 2), h => absurd h (by omega)
theorem defX6 : ∀ j, j < 3 → defaultValue (tyX6 j) = vp_V [.null, .null, .int 0] j
  | 0, _ => rfl
  | 1, _ => rfl
  | 2, _ => rfl
  | (j + 3), h => absurd h (by omega)
theorem defX7 : ∀ j, j < 2 → defaultValue (tyX7 j) = vp_V [.null, .int 0] j
  | 0, _ => rfl
  | 1, _ => rfl
  | (j + 2), h => absurd h (by omega)
theorem defX8 : ∀ j, j < 10 → defaultValue (tyX8 j) = vp_V [.null, .null, .null, .null, .null, .int 0, .int 0, .int 0, .int 0, .int 0] j
  | 0, _ => rfl
  | 1, _ => rfl
  | 2, _ => rfl
  | 3, _ => rfl
  | 4, _ => rfl
  | 5, _ => rfl
  | 6, _ => rfl
  | 7, _ => rfl
  | 8, _ => rfl
  | 9, _ => rfl
  | (j + 10), h => absurd h (by omega)
theorem defX9 : ∀ j, j < 69 → defaultValue (tyX9 j) = vp_V [.null, .int 0, .null, .null, .int 0, .int 0, .int 0, .int 0, .int 0, .int 0, .int 0, .int 0, .int 0, .int 0, .int 0, .int 0, .int 0, .int 0, .int 0, .int 0, .int 0, .int 0, .null, .null, .null, .null, .int 0, .null, .null, .null, .null, .null, .int 0, .null, .int 0, .null, .null, .null, .null, .null, .int 0, .null, .null, .null, .int 0, .int 0, .null, .null, .int 0, .int 0, .int 0, .int 0, .null, .null, .null, .null, .null, .null, .int 0, .null, .null, .null, .null, .null, .null, .int 0, .int 0, .int 0, .int 0] j
  | 0, _ => rfl
  | 1, _ => rfl
  | 2, _ => rfl
  | 3, _ => rfl
  | 4, _ => rfl
  | 5, _ => rfl
  | 6, _ => rfl
  | 7, _ => rfl
  | 8, _ => rfl
  | 9, _ => rfl
  | 10, _ => rfl
  | 11, _ => rfl
  | 12, _ => rfl
  | 13, _ => rfl
  | 14, _ => rfl
  | 15, _ => rfl
  | 16, _ => rfl
  | 17, _ => rfl
  | 18, _ => rfl
  | 19, _ => rfl
  | 20, _ => rfl
  | 21, _ => rfl
  | 22, _ => rfl
  | 23, _ => rfl
  | 24, _ => rfl
  | 25, _ => rfl
  | 26, _ => rfl
  | 27, _ => rfl
  | 28, _ => rfl
  | 29, _ => rfl
  | 30, _ => rfl
  | 31, _ => rfl
  | 32, _ => rfl
  | 33, _ => rfl
  | 34, _ => rfl
  | 35, _ => rfl
  | 36, _ => rfl
  | 37, _ => rfl
  | 38, _ => rfl
  | 39, _ => rfl
  | 40, _ => rfl
  | 41, _ => rfl
  | 42, _ => rfl
  | 43, _ => rfl
  | 44, _ => rfl
  | 45, _ => rfl
  | 46, _ => rfl
  | 47, _ => rfl
  | 48, _ => rfl
  | 49, _ => rfl
  | 50, _ => rfl
  | 51, _ => rfl
  | 52, _ => rfl
  | 53, _ => rfl
  | 54, _ => rfl
  | 55, _ => rfl
  | 56, _ => rfl
  | 57, _ => rfl
  | 58, _ => rfl
  | 59, _ => rfl
  | 60, _ => rfl
  | 61, _ => rfl
  | 62, _ => rfl
  | 63, _ => rfl
  | 64, _ => rfl
  | 65, _ => rfl
  | 66, _ => rfl
  | 67, _ => rfl
  | 68, _ => rfl
  | (j + 69), h => absurd h (by omega)
