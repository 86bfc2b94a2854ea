theorem k_all12 {p : Nat → Prop} (h0 : p 0) (h1 : p 1) (h2 : p 2) (h3 : p 3) (h4 : p 4) (h5 : p 5) (h6 : p 6) (h7 : p 7) (h8 : p 8) (h9 : p 9) (h10 : p 10) (h11 : p 11) : ∀ j : Nat, j < 12 → p j
  | 0, _ => h0
  | 1, _ => h1
  | 2, _ => h2
  | 3, _ => h3
  | 4, _ => h4
  | 5, _ => h5
  | 6, _ => h6
  | 7, _ => h7
  | 8, _ => h8
  | 9, _ => h9
  | 10, _ => h10
  | 11, _ => h11
  | (j + 12), h => absurd h (by omega)
theorem k_all19 {p : Nat → Prop} (h0 : p 0) (h1 : p 1) (h2 : p 2) (h3 : p 3) (h4 : p 4) (h5 : p 5) (h6 : p 6) (h7 : p 7) (h8 : p 8) (h9 : p 9) (h10 : p 10) (h11 : p 11) (h12 : p 12) (h13 : p 13) (h14 : p 14) (h15 : p 15) (h16 : p 16) (h17 : p 17) (h18 : p 18) : ∀ j : Nat, j < 19 → p j
  | 0, _ => h0
  | 1, _ => h1
  | 2, _ => h2
  | 3, _ => h3
  | 4, _ => h4
  | 5, _ => h5
  | 6, _ => h6
  | 7, _ => h7
  | 8, _ => h8
  | 9, _ => h9
  | 10, _ => h10
  | 11, _ => h11
  | 12, _ => h12
  | 13, _ => h13
  | 14, _ => h14
  | 15, _ => h15
  | 16, _ => h16
  | 17, _ => h17
  | 18, _ => h18
  | (j + 19), h => absurd h (by omega)
theorem mw_cast {D : va_G} {cl : List vw_C} {a : Nat → Nat} {κ : Nat → ClassId} {S S2 G : Nat → Int32} {F F2 P : Nat → Nat → Int32} {H : Heap} (h : va_P D cl (mw a κ (S2, F2, G, P)) H) (hS : ∀ j : Nat, j < 19 → S j = S2 j) (hF : ∀ j : Nat, j < 12 → F j = F2 j) : va_P D cl (mw a κ (S, F, G, P)) H := by
  have e : mw a κ (S, F, G, P) = mw a κ (S2, F2, G, P) := by
    unfold mw
    dsimp only
    rw [hS 0 (by decide), hS 1 (by decide), hS 2 (by decide), hS 3 (by decide), hS 4 (by decide), hS 5 (by decide), hS 6 (by decide), hS 7 (by decide), hS 8 (by decide), hS 9 (by decide), hS 10 (by decide), hS 11 (by decide), hS 12 (by decide), hS 13 (by decide), hS 14 (by decide), hS 15 (by decide), hS 16 (by decide), hS 17 (by decide), hS 18 (by decide), hF 0 (by decide), hF 1 (by decide), hF 2 (by decide), hF 3 (by decide), hF 4 (by decide), hF 5 (by decide), hF 6 (by decide), hF 7 (by decide), hF 8 (by decide), hF 9 (by decide), hF 10 (by decide), hF 11 (by decide)]
  rw [e]
  exact h
