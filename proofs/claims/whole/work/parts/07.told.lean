-- the told words: a static row outside the pool (written by a program)
def twL : List Int64 := [123563833652072, 1818583408, 439787549556, 7566702, 448545973363, 495723311219, 6578553, 28530, 6385252, 7237492, 27696098611389806, 1751477348, 461262647411, 2003399784, 2036687218, 470020945000, 1684108389, 2003133803, 121450625394034]
def twv (j : Nat) : Int64 := twL.getD j 0
abbrev twT : Term := .static "ParishYears" "TOLD_WORDS" "[J"
def TWt (z : Mx) (ad : Nat → Nat) (t : Nat) : Prop := match z with
  | ((_, _, _, _, s, _), _, _, _, _, _, _, A) => va_Z "ParishYears" "TOLD_WORDS" "[J" (.ref t) A s s.heap ∧ va_T .long t 19 (fun j => .long (twv j)) A s s.heap
theorem tw_el {args : Array Value} {s : State} (hs : ∀ c ∈ flatC (Jvm.Cond.and given_1 narrow_1), c.before args s = true) : ∀ j : Nat, j < 19 → (Term.elem twT (.int (Int32.ofNat j))).eval args s none [] s = some (.long (twv j)) := by
  intro j hj
  match j, hj with
  | 0, _ => exact va_eqtl (z := 123563833652072) (hs (.eq (.elem twT (.int 0)) (.long 123563833652072)) (by decide +kernel))
  | 1, _ => exact va_eqtl (z := 1818583408) (hs (.eq (.elem twT (.int 1)) (.long 1818583408)) (by decide +kernel))
  | 2, _ => exact va_eqtl (z := 439787549556) (hs (.eq (.elem twT (.int 2)) (.long 439787549556)) (by decide +kernel))
  | 3, _ => exact va_eqtl (z := 7566702) (hs (.eq (.elem twT (.int 3)) (.long 7566702)) (by decide +kernel))
  | 4, _ => exact va_eqtl (z := 448545973363) (hs (.eq (.elem twT (.int 4)) (.long 448545973363)) (by decide +kernel))
  | 5, _ => exact va_eqtl (z := 495723311219) (hs (.eq (.elem twT (.int 5)) (.long 495723311219)) (by decide +kernel))
  | 6, _ => exact va_eqtl (z := 6578553) (hs (.eq (.elem twT (.int 6)) (.long 6578553)) (by decide +kernel))
  | 7, _ => exact va_eqtl (z := 28530) (hs (.eq (.elem twT (.int 7)) (.long 28530)) (by decide +kernel))
  | 8, _ => exact va_eqtl (z := 6385252) (hs (.eq (.elem twT (.int 8)) (.long 6385252)) (by decide +kernel))
  | 9, _ => exact va_eqtl (z := 7237492) (hs (.eq (.elem twT (.int 9)) (.long 7237492)) (by decide +kernel))
  | 10, _ => exact va_eqtl (z := 27696098611389806) (hs (.eq (.elem twT (.int 10)) (.long 27696098611389806)) (by decide +kernel))
  | 11, _ => exact va_eqtl (z := 1751477348) (hs (.eq (.elem twT (.int 11)) (.long 1751477348)) (by decide +kernel))
  | 12, _ => exact va_eqtl (z := 461262647411) (hs (.eq (.elem twT (.int 12)) (.long 461262647411)) (by decide +kernel))
  | 13, _ => exact va_eqtl (z := 2003399784) (hs (.eq (.elem twT (.int 13)) (.long 2003399784)) (by decide +kernel))
  | 14, _ => exact va_eqtl (z := 2036687218) (hs (.eq (.elem twT (.int 14)) (.long 2036687218)) (by decide +kernel))
  | 15, _ => exact va_eqtl (z := 470020945000) (hs (.eq (.elem twT (.int 15)) (.long 470020945000)) (by decide +kernel))
  | 16, _ => exact va_eqtl (z := 1684108389) (hs (.eq (.elem twT (.int 16)) (.long 1684108389)) (by decide +kernel))
  | 17, _ => exact va_eqtl (z := 2003133803) (hs (.eq (.elem twT (.int 17)) (.long 2003133803)) (by decide +kernel))
  | 18, _ => exact va_eqtl (z := 121450625394034) (hs (.eq (.elem twT (.int 18)) (.long 121450625394034)) (by decide +kernel))
  | n + 19, h => exact absurd h (by omega)
theorem tw_of {z : Mx} {ad : Nat → Nat} {own : String} {cc : ByteArray} {nL : Nat} {ret : Option FieldType} {h : Nat} (X : CxOk z ad own cc nL ret h) : ∃ t, TWt z ad t := by
  obtain ⟨⟨p, l, e, R, s, m, args, below, meth, c⟩, D, cy, Q, kc, ks, Fr, A⟩ := z
  obtain ⟨hx, hb, hml, hown, hts, hr, hlk, hR, hK, hE, hI, hFr, hQ, hA⟩ := X
  obtain ⟨s0, b, h1, h1t, h2, h3, h4, h5, -⟩ := hE
  have hs := flat_of_before _ h1
  have hA' : ∀ a : Nat, a < s0.heap.size → ¬ A a := fun a ha q => by have := h5 a q; omega
  obtain ⟨t, ht, hT⟩ := va_Tof (A := A) (N := 19) (f := fun j => .long (twv j)) (by decide) (hs (.arrayOf twT .long) (by decide +kernel)) (va_eqt (z := 19) (hs (.eq (.length twT) (.int 19)) (by decide +kernel))) (tw_el hs) hA'
  have hZ := va_Zof (A := A) (h1t _ (inT_3 _ (List.mem_of_getElem? (i := 10) rfl))) (h1t _ (inT_1 _ (List.mem_of_getElem? (i := 1) rfl))) ht hA'
  exact ⟨t, (va_Z.moved h2.alike hZ).kept (fun a ha _ => h4 a ha), (va_T.moved h2.alike hT).kept (fun a ha _ => h4 a ha)⟩
section GT
variable {z : Mx} {ad : Nat → Nat} {o : Option Value × St} {S : St} {own : String} {cc : ByteArray} {nL : Nat} {ret : Option FieldType} {h pc : Nat} {lv : List (Nat × Value)} {st : List Value}
theorem g_tw {t : Nat} (X : CxOk z ad RX6 cc nL ret h) (ht : TWt z ad t) (hd : decode cc pc = .ok (.getstatic 57, 3)) (k : GW z ad o S (pc + 3) lv (.ref t :: st)) : GW z ad o S pc lv st := by
  obtain ⟨⟨p, l, e, R, s, m, args, below, meth, c⟩, D, cy, Q, kc, ks, Fr, A⟩ := z
  obtain ⟨hx, hb, hml, hown, hts, hr, hlk, hR, hK, hE, hI, hFr, hQ, hA⟩ := X
  intro H locs ls hP hS hf hl
  exact va_getsN hx hb ht.1 hS hown (ex_nest (hst := "ParishYears") hE (inT_3 _ (List.mem_of_getElem? (i := 9) rfl)) _) (fun _ q => q) hd (k H locs ls hP hS hf hl)
theorem g_twlen {t : Nat} (X : CxOk z ad own cc nL ret h) (ht : TWt z ad t) (hd : decode cc pc = .ok (.arraylength, 1)) (k : GW z ad o S (pc + 1) lv (.int 19 :: st)) : GW z ad o S pc lv (.ref t :: st) := by
  obtain ⟨⟨p, l, e, R, s, m, args, below, meth, c⟩, D, cy, Q, kc, ks, Fr, A⟩ := z
  obtain ⟨hx, hb, hml, hown, hts, hr, hlk, hR, hK, hE, hI, hFr, hQ, hA⟩ := X
  intro H locs ls hP hS hf hl
  exact va_tlen hx hb ht.2 hS rfl hd (k H locs ls hP hS hf hl)
theorem g_twld {t : Nat} {i : Int32} (X : CxOk z ad own cc nL ret h) (ht : TWt z ad t) (hd : decode cc pc = .ok (.laload, 1)) (hi : ¬ (i < 0 ∨ 19 ≤ i.toNatClampNeg)) (k : GW z ad o S (pc + 1) lv (.long (twv i.toNatClampNeg) :: st)) : GW z ad o S pc lv (.int i :: .ref t :: st) := by
  obtain ⟨⟨p, l, e, R, s, m, args, below, meth, c⟩, D, cy, Q, kc, ks, Fr, A⟩ := z
  obtain ⟨hx, hb, hml, hown, hts, hr, hlk, hR, hK, hE, hI, hFr, hQ, hA⟩ := X
  intro H locs ls hP hS hf hl
  exact va_tl hx hb ht.2 hS hi rfl hd (k H locs ls hP hS hf hl)
end GT
