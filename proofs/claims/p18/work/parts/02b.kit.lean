/-! my own rows for whole worlds: a state is four functions (cared numbers, cared rows, other numbers, other rows) -/
abbrev S4 : Type := (Nat → Int32) × (Nat → Nat → Int32) × (Nat → Int32) × (Nat → Nat → Int32)
def up {α : Type} (f : Nat → α) (j : Nat) (v : α) : Nat → α := fun i => cond (Nat.beq i j) v (f i)
def QI (post : Int32 → (Nat → Int32) → (Nat → Nat → Int32) → Prop) : Int32 → S4 → Prop := fun r u => post r u.1 u.2.1
def QV (post : (Nat → Int32) → (Nat → Nat → Int32) → Prop) : S4 → Prop := fun u => post u.1 u.2.1
def PtR (lo hi : Int) (f : Nat → Int32) : Prop := ∀ i : Nat, lo ≤ Int32.toInt (f i) ∧ Int32.toInt (f i) ≤ hi
theorem PtR.set {lo hi : Int} {f g : Nat → Int32} {k : Nat} {x : Int32} (h : PtR lo hi f) (e : g = upd f k x) (h1 : lo ≤ Int32.toInt x) (h2 : Int32.toInt x ≤ hi) : PtR lo hi g := by
  intro i
  rw [e]
  unfold upd
  by_cases hi : i = k
  · rw [if_pos hi]; exact ⟨h1, h2⟩
  · rw [if_neg hi]; exact h i
theorem PtR.of {lo hi : Int} {f : Nat → Int32} {k : Nat} {x : Int32} (h : PtR lo hi f) (e : x = f k) : lo ≤ Int32.toInt x ∧ Int32.toInt x ≤ hi := by rw [e]; exact h k
theorem rng (x : Int32) : -2147483648 ≤ x.toInt ∧ x.toInt < 2147483648 := by
  have h1 := Int32.le_toInt x
  have h2 := Int32.toInt_lt x
  omega
theorem k_bmod {z : Int} (h1 : -2147483648 ≤ z) (h2 : z < 2147483648) : z.bmod (2 ^ 32) = z := by
  rw [Int.bmod_eq_of_le (by omega) (by omega)]
theorem aI_add {x y z : Int32} {a b : Int} (ha : x.toInt = a) (hb : y.toInt = b) (hz : z = x + y) (h : -2147483648 ≤ a + b ∧ a + b < 2147483648) : z.toInt = a + b := by
  rw [hz, Int32.toInt_add, ha, hb, k_bmod h.1 h.2]
theorem aI_sub {x y z : Int32} {a b : Int} (ha : x.toInt = a) (hb : y.toInt = b) (hz : z = x - y) (h : -2147483648 ≤ a - b ∧ a - b < 2147483648) : z.toInt = a - b := by
  rw [hz, Int32.toInt_sub, ha, hb, k_bmod h.1 h.2]
theorem aI_mul {x y z : Int32} {a b : Int} (ha : x.toInt = a) (hb : y.toInt = b) (hz : z = x * y) (h : -2147483648 ≤ a * b ∧ a * b < 2147483648) : z.toInt = a * b := by
  rw [hz, Int32.toInt_mul, ha, hb, k_bmod h.1 h.2]
theorem bI_lt {x y : Int32} {a b : Int} (ha : x.toInt = a) (hb : y.toInt = b) (h : x < y) : a < b := by rw [← ha, ← hb]; exact Int32.lt_iff_toInt_lt.mp h
theorem bI_le {x y : Int32} {a b : Int} (ha : x.toInt = a) (hb : y.toInt = b) (h : x ≤ y) : a ≤ b := by rw [← ha, ← hb]; exact Int32.le_iff_toInt_le.mp h
theorem bI_nlt {x y : Int32} {a b : Int} (ha : x.toInt = a) (hb : y.toInt = b) (h : ¬ x < y) : b ≤ a := by rw [← ha, ← hb]; exact Int.not_lt.mp (fun z => h (Int32.lt_iff_toInt_lt.mpr z))
theorem bI_nle {x y : Int32} {a b : Int} (ha : x.toInt = a) (hb : y.toInt = b) (h : ¬ x ≤ y) : b < a := by rw [← ha, ← hb]; exact Int.not_le.mp (fun z => h (Int32.le_iff_toInt_le.mpr z))
theorem bI_eq {x y : Int32} {a b : Int} (ha : x.toInt = a) (hb : y.toInt = b) (h : x = y) : a = b := by rw [← ha, ← hb, h]
theorem bI_ne {x y : Int32} {a b : Int} (ha : x.toInt = a) (hb : y.toInt = b) (h : ¬ x = y) : a ≠ b := by rw [← ha, ← hb]; exact fun z => h (Int32.toInt_inj.mp z)
theorem vin {x : Int32} {n : Nat} {a : Int} (ha : x.toInt = a) (h : 0 ≤ a ∧ a < n) : vp_in x n := by rw [vp_in_iff, ha]; exact h
theorem tn_eq {x : Int32} (h : 0 ≤ x.toInt) : (Int32.toNatClampNeg x : Int) = x.toInt := by
  show ((x.toInt.toNat : Nat) : Int) = x.toInt
  omega
theorem zq {x : Int32} (h : x.toInt = 0 ∨ x.toInt = 1) : narrow .boolean (.int x) = .int x ∧ fits .boolean (.int x) = true := by
  rcases h with h | h
  · have e : x = 0 := Int32.toInt_inj.mp h
    subst e
    exact ⟨by first | rfl | decide, by first | rfl | decide⟩
  · have e : x = 1 := Int32.toInt_inj.mp h
    subst e
    exact ⟨by first | rfl | decide, by first | rfl | decide⟩
theorem L_0 : (0 : Int32).toInt = 0 := by decide
theorem L_1 : (1 : Int32).toInt = 1 := by decide
theorem L_2 : (2 : Int32).toInt = 2 := by decide
theorem L_3 : (3 : Int32).toInt = 3 := by decide
theorem L_4 : (4 : Int32).toInt = 4 := by decide
theorem L_5 : (5 : Int32).toInt = 5 := by decide
theorem L_6 : (6 : Int32).toInt = 6 := by decide
theorem L_7 : (7 : Int32).toInt = 7 := by decide
theorem L_8 : (8 : Int32).toInt = 8 := by decide
theorem L_9 : (9 : Int32).toInt = 9 := by decide
theorem L_10 : (10 : Int32).toInt = 10 := by decide
theorem L_11 : (11 : Int32).toInt = 11 := by decide
theorem L_12 : (12 : Int32).toInt = 12 := by decide
theorem L_13 : (13 : Int32).toInt = 13 := by decide
theorem L_14 : (14 : Int32).toInt = 14 := by decide
theorem L_15 : (15 : Int32).toInt = 15 := by decide
theorem L_16 : (16 : Int32).toInt = 16 := by decide
theorem L_17 : (17 : Int32).toInt = 17 := by decide
theorem L_18 : (18 : Int32).toInt = 18 := by decide
theorem L_19 : (19 : Int32).toInt = 19 := by decide
theorem L_20 : (20 : Int32).toInt = 20 := by decide
theorem L_21 : (21 : Int32).toInt = 21 := by decide
theorem L_22 : (22 : Int32).toInt = 22 := by decide
theorem L_23 : (23 : Int32).toInt = 23 := by decide
theorem L_24 : (24 : Int32).toInt = 24 := by decide
theorem L_25 : (25 : Int32).toInt = 25 := by decide
theorem L_26 : (26 : Int32).toInt = 26 := by decide
theorem L_27 : (27 : Int32).toInt = 27 := by decide
theorem L_28 : (28 : Int32).toInt = 28 := by decide
theorem L_29 : (29 : Int32).toInt = 29 := by decide
theorem L_30 : (30 : Int32).toInt = 30 := by decide
theorem L_31 : (31 : Int32).toInt = 31 := by decide
theorem L_32 : (32 : Int32).toInt = 32 := by decide
theorem L_45 : (45 : Int32).toInt = 45 := by decide
theorem L_48 : (48 : Int32).toInt = 48 := by decide
theorem L_57 : (57 : Int32).toInt = 57 := by decide
theorem L_60 : (60 : Int32).toInt = 60 := by decide
theorem L_63 : (63 : Int32).toInt = 63 := by decide
theorem L_65 : (65 : Int32).toInt = 65 := by decide
theorem L_69 : (69 : Int32).toInt = 69 := by decide
theorem L_72 : (72 : Int32).toInt = 72 := by decide
theorem L_80 : (80 : Int32).toInt = 80 := by decide
theorem L_83 : (83 : Int32).toInt = 83 := by decide
theorem L_90 : (90 : Int32).toInt = 90 := by decide
theorem L_97 : (97 : Int32).toInt = 97 := by decide
theorem L_99 : (99 : Int32).toInt = 99 := by decide
theorem L_100 : (100 : Int32).toInt = 100 := by decide
theorem L_102 : (102 : Int32).toInt = 102 := by decide
theorem L_109 : (109 : Int32).toInt = 109 := by decide
theorem L_120 : (120 : Int32).toInt = 120 := by decide
theorem L_122 : (122 : Int32).toInt = 122 := by decide
theorem L_124 : (124 : Int32).toInt = 124 := by decide
theorem L_126 : (126 : Int32).toInt = 126 := by decide
theorem L_255 : (255 : Int32).toInt = 255 := by decide
theorem L_300 : (300 : Int32).toInt = 300 := by decide
theorem L_2000 : (2000 : Int32).toInt = 2000 := by decide
theorem L_4000 : (4000 : Int32).toInt = 4000 := by decide
theorem L_9999 : (9999 : Int32).toInt = 9999 := by decide
theorem L_8000 : (8000 : Int32).toInt = 8000 := by decide
theorem L_999999 : (999999 : Int32).toInt = 999999 := by decide
theorem L_2100 : (2100 : Int32).toInt = 2100 := by decide
theorem L_m1 : (-1 : Int32).toInt = -1 := by decide
theorem L_m2 : (-2 : Int32).toInt = -2 := by decide
theorem L_m3 : (-3 : Int32).toInt = -3 := by decide
theorem L_m8 : (-8 : Int32).toInt = -8 := by decide
section KA
variable {p : Program} {l : Launch} {e : Env} {R : Room} {s : State} {m : MethodId} {args : Array Value} {below : List Frame} {meth : Method} {c : Code} {H : Heap} {locs : List Loc} {cells slots : Nat} {Q : State → Prop} {cc : ByteArray} {pc : Nat} {ls : Array Slot} {rest : List Value} {D : va_G} {cl : List vw_C} {tys : List (ClassId × FieldType)} {ws : va_W} {a : Nat}
theorem k_aald (hexec : p.tables.exec = Jvm.exec) (hb : c.code = cc) (hK : va_K D cl tys s) (hP : va_P D cl ws H) (q0 t0 : Nat) {cA : ClassId} {n r : Nat} {f : Nat → Option Nat} (ha : ws[q0]? = some (a, .inl (cA, n, .inr (.inr (.inr (.inr f)))))) (ht : tys[t0]? = some (cA, .array .int)) {i : Int32} (hin : vp_in i n) (hr : f i.toNatClampNeg = some r) (hdg : decode cc pc = .ok (.aaload, 1))
    (kk : W p l e R s m args below meth c H locs cells slots Q (F0 m (pc + 1) ls (.ref r :: rest))) : W p l e R s m args below meth c H locs cells slots Q (F0 m pc ls (.int i :: .ref a :: rest)) := by
  have hlt : i.toNatClampNeg < n := Nat.not_le.mp fun q => hin (Or.inr q)
  refine W.aald (v := va_rf (f i.toNatClampNeg)) (ty := .array .int) hexec hb (hP q0 _ ha) ((hK.2 t0 _ ht).1 n (fun j => va_rf (f j))) rfl (fun q => by cases q) (by show ¬ (i < 0 ∨ (arrV _ _ _).slots.size ≤ _); rw [arrV_size]; exact hin) (by show (arrV _ _ _).slots[_]? = _; rw [arrV_read _ _ hlt]) rfl rfl hdg ?_
  rw [hr]
  exact kk
end KA
def gofL : List Int32 := [0, 24, 22, 22, 23, 23, 25, 25, 25, 26, 26, 26, 26, 26, 27, 27, 27, 27, 27, 28, 28, 28, 25, 25, 29, 29, 29, 29, 29, 0]
def gof (j : Nat) : Int32 := gofL.getD j 0
def layL : List Int32 := [0, 0, 1, 1, 1, 1, 1, 1, 1, 2, 2, 2, 2, 2, 3, 3, 3, 3, 3, 4, 4, 4]
def lay (j : Nat) : Int32 := layL.getD j 0
theorem lay_rng (j : Nat) : 0 ≤ (lay j).toInt ∧ (lay j).toInt ≤ 4 := by
  by_cases h : j < 22
  · have key : ∀ i : Fin 22, 0 ≤ (lay i.val).toInt ∧ (lay i.val).toInt ≤ 4 := by decide +kernel
    exact key ⟨j, h⟩
  · have e : lay j = 0 := by
      unfold lay
      rw [List.getD_eq_getElem?_getD, List.getElem?_eq_none (by simp [layL]; omega)]
      rfl
    rw [e]
    decide
/-- the static rows, as the Statement gives them -/
def cSt (g1 g2 : Nat) (A : Nat → Prop) (U : State) : Prop := va_Z RX5 "GROUP_OF" "[I" (.ref g1) A U U.heap ∧ va_T .int g1 30 (fun j => .int (gof j)) A U U.heap ∧ va_Z RX1 "LAYER_OF" "[I" (.ref g2) A U U.heap ∧ va_T .int g2 22 (fun j => .int (lay j)) A U U.heap
theorem cSt.go {g1 g2 : Nat} {A : Nat → Prop} {s U : State} {H : Heap} {locs : List Loc} (h : cSt g1 g2 A s) (hS : va_S A s.heap H locs) (hU : U.heap = H) (hvm : s.vm.Alike U.vm) : cSt g1 g2 A U := by
  unfold cSt
  rw [hU]
  exact ⟨va_Z.moved hvm (h.1.kept (fun a h1 h2 => hS.2.1 a h1 h2)), va_T.moved hvm (h.2.1.kept (fun a h1 h2 => hS.2.1 a h1 h2)), va_Z.moved hvm (h.2.2.1.kept (fun a h1 h2 => hS.2.1 a h1 h2)), va_T.moved hvm (h.2.2.2.kept (fun a h1 h2 => hS.2.1 a h1 h2))⟩
theorem cSt.same {g1 g2 : Nat} {A : Nat → Prop} {s U : State} (h : cSt g1 g2 A s) (hU : U.heap = s.heap) (hvm : s.vm.Alike U.vm) : cSt g1 g2 A U := by
  unfold cSt
  rw [hU]
  exact ⟨va_Z.moved hvm h.1, va_T.moved hvm h.2.1, va_Z.moved hvm h.2.2.1, va_T.moved hvm h.2.2.2⟩
