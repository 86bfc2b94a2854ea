theorem k_all12 {p : Nat → Prop} (h0 : p 0) (h1 : p 1) (h2 : p 2) (h3 : p 3) (h4 : p 4) (h5 : p 5) (h6 : p 6) (h7 : p 7) (h8 : p 8) (h9 : p 9) (h10 : p 10) (h11 : p 11) : ∀ j : Nat, j < 12 → p j
  | 0, _ => h0
  | 1, _ => h1
  | 2, _ => h2
  | 3, _ => h3
  | 4, _ => h4
  | 5, _ => h5
  | 6, _ => h6
  | 7, _ => h7
  | 8, _ => h8
  | 9, _ => h9
  | 10, _ => h10
  | 11, _ => h11
  | (j + 12), h => absurd h (by omega)
theorem k_all19 {p : Nat → Prop} (h0 : p 0) (h1 : p 1) (h2 : p 2) (h3 : p 3) (h4 : p 4) (h5 : p 5) (h6 : p 6) (h7 : p 7) (h8 : p 8) (h9 : p 9) (h10 : p 10) (h11 : p 11) (h12 : p 12) (h13 : p 13) (h14 : p 14) (h15 : p 15) (h16 : p 16) (h17 : p 17) (h18 : p 18) : ∀ j : Nat, j < 19 → p j
  | 0, _ => h0
  | 1, _ => h1
  | 2, _ => h2
  | 3, _ => h3
  | 4, _ => h4
  | 5, _ => h5
  | 6, _ => h6
  | 7, _ => h7
  | 8, _ => h8
  | 9, _ => h9
  | 10, _ => h10
  | 11, _ => h11
  | 12, _ => h12
  | 13, _ => h13
  | 14, _ => h14
  | 15, _ => h15
  | 16, _ => h16
  | 17, _ => h17
  | 18, _ => h18
  | (j + 19), h => absurd h (by omega)
theorem mw_cast {D : va_G} {cl : List vw_C} {a : Nat → Nat} {κ : Nat → ClassId} {S S2 G : Nat → Int32} {F F2 P : Nat → Nat → Int32} {H : Heap} (h : va_P D cl (mw a κ (S2, F2, G, P)) H) (hS : ∀ j : Nat, j < 19 → S j = S2 j) (hF : ∀ j : Nat, j < 12 → F j = F2 j) : va_P D cl (mw a κ (S, F, G, P)) H := by
  have e : mw a κ (S, F, G, P) = mw a κ (S2, F2, G, P) := by
    unfold mw
    dsimp only
    rw [hS 0 (by decide), hS 1 (by decide), hS 2 (by decide), hS 3 (by decide), hS 4 (by decide), hS 5 (by decide), hS 6 (by decide), hS 7 (by decide), hS 8 (by decide), hS 9 (by decide), hS 10 (by decide), hS 11 (by decide), hS 12 (by decide), hS 13 (by decide), hS 14 (by decide), hS 15 (by decide), hS 16 (by decide), hS 17 (by decide), hS 18 (by decide), hF 0 (by decide), hF 1 (by decide), hF 2 (by decide), hF 3 (by decide), hF 4 (by decide), hF 5 (by decide), hF 6 (by decide), hF 7 (by decide), hF 8 (by decide), hF 9 (by decide), hF 10 (by decide), hF 11 (by decide)]
  rw [e]
  exact h
/-! opaque words for the reading of a sheet: omega must not see their cases -/
def RI1 (p fed f ih : Int) : Prop := 0 ≤ p ∧ p ≤ fed ∧ 0 ≤ f ∧ f ≤ 200000 * p ∧ (ih = 0 ∨ f + 10 ≤ 200000 * p)
def RI2 (n p fed : Int) : Prop := 0 ≤ n ∧ (2 * n ≤ p ∨ (2 * n ≤ p + 1 ∧ p = fed))
def RI3 (h ih p fed : Int) : Prop := 0 ≤ h ∧ ((ih = 0 ∧ (2 * h ≤ p ∨ (2 * h ≤ p + 1 ∧ p = fed))) ∨ (ih ≠ 0 ∧ (2 * h + 2 ≤ p ∨ (2 * h + 2 ≤ p + 1 ∧ p = fed))))
def RI4 (ih fp n : Int) : Prop := ih = 0 ∨ (0 ≤ fp ∧ fp ≤ n)
def RI6 (ih n fp na p : Int) : Prop := ih = 0 ∨ n ≤ fp ∨ na ≤ p
theorem RI1.mono {p q fed f ih : Int} (h : RI1 p fed f ih) (h1 : p ≤ q) (h2 : q ≤ fed) : RI1 q fed f ih := by unfold RI1 at *; omega
theorem RI2.mono {n p q fed : Int} (h : RI2 n p fed) (h1 : p ≤ q) (h2 : q ≤ fed) : RI2 n q fed := by unfold RI2 at *; omega
theorem RI3.mono {h ih p q fed : Int} (r : RI3 h ih p fed) (h1 : p ≤ q) (h2 : q ≤ fed) : RI3 h ih q fed := by unfold RI3 at *; omega
theorem RI6.mono {ih n fp na p q : Int} (h : RI6 ih n fp na p) (h1 : p ≤ q) : RI6 ih n fp na q := by unfold RI6 at *; omega
theorem RI1.num {p fed f ih : Int} (h : RI1 p fed f ih) (hf : fed ≤ 4000) : 0 ≤ p ∧ p ≤ fed ∧ 0 ≤ f ∧ f ≤ 800000000 := by unfold RI1 at *; omega
theorem RI2.num {n p fed : Int} (h : RI2 n p fed) (h1 : p ≤ fed) (hf : fed ≤ 4000) : 0 ≤ n ∧ n ≤ 2000 := by unfold RI2 at *; omega
theorem RI3.num {h ih p fed : Int} (r : RI3 h ih p fed) (h1 : p ≤ fed) (hf : fed ≤ 4000) : 0 ≤ h ∧ h ≤ 2000 := by unfold RI3 at *; omega
theorem RI4.on {ih fp n : Int} (h : RI4 ih fp n) (h1 : ih ≠ 0) : 0 ≤ fp ∧ fp ≤ n := by unfold RI4 at *; omega
theorem RI4.pb {ih fp n : Int} (h : RI4 ih fp n) (h1 : n ≤ 2000) : ih = 0 ∨ (0 ≤ fp ∧ fp ≤ n ∧ n ≤ 2000) := by unfold RI4 at *; omega
theorem RI6.on {ih n fp na p : Int} (h : RI6 ih n fp na p) (h1 : ih ≠ 0) : n ≤ fp ∨ na ≤ p := by unfold RI6 at *; omega
theorem RI1.close {p fed f g ih ih2 : Int} (h : RI1 p fed f ih) (h1 : ih ≠ 0) (h2 : f ≤ g ∧ g ≤ f + 6) (h3 : ih2 = 0) : RI1 p fed g ih2 := by unfold RI1 at *; omega
theorem RI2.dec {n n2 p fed : Int} (h : RI2 n p fed) (h1 : 0 ≤ n2 ∧ n2 ≤ n) : RI2 n2 p fed := by unfold RI2 at *; omega
theorem RI3.close {h h2 ih ih2 p fed : Int} (r : RI3 h ih p fed) (h1 : ih ≠ 0) (h3 : h ≤ h2 ∧ h2 ≤ h + 1) (h4 : ih2 = 0) : RI3 h2 ih2 p fed := by unfold RI3 at *; omega
theorem RI1.line {p q fed f g ih ih2 : Int} (h : RI1 p fed f ih) (h1 : f ≤ g ∧ g ≤ f + 90000) (h2 : p + 1 ≤ q) (h3 : q ≤ fed) : RI1 q fed g ih2 := by unfold RI1 at *; omega
def RIP (p q fed : Int) : Prop := p < fed ∧ q ≤ fed ∧ p + 1 ≤ q ∧ (p + 2 ≤ q ∨ q = fed)
theorem RIP.num {p q fed : Int} (h : RIP p q fed) : p < fed ∧ q ≤ fed ∧ p + 1 ≤ q := ⟨h.1, h.2.1, h.2.2.1⟩
theorem RI2.line {n n2 p q fed : Int} (h : RI2 n p fed) (hp : RIP p q fed) (h1 : n ≤ n2 ∧ n2 ≤ n + 1) : RI2 n2 q fed := by unfold RI2 RIP at *; omega
theorem RI3.line {h ih ih2 p q fed a : Int} (r : RI3 h ih p fed) (hp : RIP p q fed) (ho : ih = 0 ∨ (a ≠ 72 ∧ a ≠ 83)) (h1 : (a = 72 ∧ ih2 = 1) ∨ (a ≠ 72 ∧ ih2 = ih)) : RI3 h ih2 q fed := by unfold RI3 RIP at *; omega
def RIF (ih a : Int) : Prop := ih = 0 ∨ (a ≠ 72 ∧ a ≠ 83)
def RIM (p e m : Int) : Prop := p < e ∨ m ≠ 10
def RIE (a p fed m : Int) : Prop := (a < 0 ∧ p = fed) ∨ (0 ≤ a ∧ p < fed ∧ m ≠ 10)
theorem RIE.on {a p fed m : Int} (h : RIE a p fed m) (h1 : 0 ≤ a) : p < fed ∧ m ≠ 10 := by unfold RIE at *; omega
