/-- readOne, n levels deep -/
def rdOne : Nat → Nat → Nat → Nat → Int32 → St → Option St
  | 0, _, _, _, _, _ => none
  | n + 1, a0, a1, a2, x3, S => fRX5_readOne (fRX5_readCond (fRX5_readAll (rdOne n))) (rdOne n) a0 a1 a2 x3 S
theorem t_rdOne {ad : Nat → Nat} (hI : Inj ad) : ∀ (n : Nat) (_ : n < 300) (l : Launch) (D : va_G) (cyy : Nat → ClassId) (a0 a1 a2 : Nat) (x3 : Int32), KT a0 = 5 → KT a1 = 6 → KT a2 = 8 → ∀ (S r : St), rdOne n a0 a1 a2 x3 S = some r → OkM l yX5_readOne cX5_readOne 5 none (9 + 3 * n) ad D cyy [.ref (ad a0), .ref (ad a1), .ref (ad a2), .int x3] S (none, r)
  | 0, _, _, _, _, _, _, _, _, _, _, _, _, _, h => by cases h
  | n + 1, hn1, l, D, cyy, a0, a1, a2, x3, h0, h1, h2, S, r, hF => by
    have hn : n < 300 := by omega
    have hA := fun (l : Launch) (D : va_G) (cyy : Nat → ClassId) (a0 a1 a2 : Nat) (x3 : Int32) h0 h1 h2 S r hF => tRX5_readAll (h := 10 + 3 * n) (hqX5_readOne := 9 + 3 * n) (rdOne n) hI l D cyy (t_rdOne hI n hn) (by omega) (by omega) (by omega) a0 a1 a2 x3 h0 h1 h2 S r hF
    have hC := fun (l : Launch) (D : va_G) (cyy : Nat → ClassId) (a0 a1 a2 : Nat) (x3 : Int32) h0 h1 h2 S r hF => tRX5_readCond (h := 11 + 3 * n) (hqX5_readAll := 10 + 3 * n) (fRX5_readAll (rdOne n)) hI l D cyy hA (by omega) (by omega) (by omega) a0 a1 a2 x3 h0 h1 h2 S r hF
    have := tRX5_readOne (h := 9 + 3 * (n + 1)) (hqX5_readCond := 11 + 3 * n) (hqX5_readOne := 9 + 3 * n) (fRX5_readCond (fRX5_readAll (rdOne n))) (rdOne n) hI l D cyy hC (by omega) (t_rdOne hI n hn) (by omega) (by omega) (by omega) a0 a1 a2 x3 h0 h1 h2 S r hF
    exact this
def fX5_readCond (a0 a1 a2 : Nat) (x3 : Int32) (S : St) : Option St := fRX5_readCond (fRX5_readAll (rdOne 9)) a0 a1 a2 x3 S
theorem tX5_readCond {ad : Nat → Nat} (hI : Inj ad) (l : Launch) (D : va_G) (cyy : Nat → ClassId) (a0 a1 a2 : Nat) (x3 : Int32) (h0 : KT a0 = 5) (h1 : KT a1 = 6) (h2 : KT a2 = 8) (S r : St) (hF : fX5_readCond a0 a1 a2 x3 S = some r) : OkM l yX5_readCond cX5_readCond 5 none 38 ad D cyy [.ref (ad a0), .ref (ad a1), .ref (ad a2), .int x3] S (none, r) :=
  tRX5_readCond (h := 38) (hqX5_readAll := 37) (fRX5_readAll (rdOne 9)) hI l D cyy (fun l D cyy a0 a1 a2 x3 h0 h1 h2 S r hF => tRX5_readAll (h := 37) (hqX5_readOne := 36) (rdOne 9) hI l D cyy (t_rdOne hI 9 (by omega)) (by omega) (by omega) (by omega) a0 a1 a2 x3 h0 h1 h2 S r hF) (by omega) (by omega) (by omega) a0 a1 a2 x3 h0 h1 h2 S r hF
