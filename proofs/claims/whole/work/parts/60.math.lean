/-! What lies in is narrower outside; nests as lists. -/
theorem sadd {x y : Int32} {a b : Int} (hx : x.toInt = a) (hy : y.toInt = b) (h : -100000000 ≤ a + b ∧ a + b ≤ 100000000) : (x + y).toInt = a + b := by
  rw [Int32.toInt_add, hx, hy]
  exact Int.bmod_eq_of_le (by simp only [Nat.reducePow]; omega) (by simp only [Nat.reducePow]; omega)
theorem ssub {x y : Int32} {a b : Int} (hx : x.toInt = a) (hy : y.toInt = b) (h : -100000000 ≤ a - b ∧ a - b ≤ 100000000) : (x - y).toInt = a - b := by
  rw [Int32.toInt_sub, hx, hy]
  exact Int.bmod_eq_of_le (by simp only [Nat.reducePow]; omega) (by simp only [Nat.reducePow]; omega)
theorem i2 : (2 : Int32).toInt = 2 := by decide
theorem i1 : (1 : Int32).toInt = 1 := by decide
theorem i0 : (0 : Int32).toInt = 0 := by decide
theorem g_t {t f : Nat} (hf : f ≤ 9) : ∃ g : Int, (0 ≤ g ∧ g ≤ 9) ∧ (if nI t = 1 then nI f else 0 : Int32).toInt = g := by
  by_cases q : nI t = 1
  · rw [if_pos q]; exact ⟨f, by omega, nI_toInt (by omega)⟩
  · rw [if_neg q]; exact ⟨0, by omega, i0⟩
theorem in_lt_out {B : zBv} {b vn : Nat} {v : Int32} (h : Rgb B b) (hv : v = nI vn) (hvn : vn ≤ 9) : fIn B b (B 3 b) v < fOut B b (B 3 b) := by
  obtain ⟨⟨k, hk, e0⟩, ⟨f, hf, e1⟩, ⟨t, ht, e2⟩, ⟨s, hs1, hs2, e3⟩, _⟩ := h
  unfold fIn fOut
  rw [e0, e1, e2, e3, hv]
  have S : (nI s).toInt = s := nI_toInt (by omega)
  have F : (nI f).toInt = f := nI_toInt (by omega)
  have V : (nI vn).toInt = vn := nI_toInt (by omega)
  obtain ⟨g, hg, T⟩ := g_t (t := t) hf
  have lid : (0 : Int32) < (if nI s - nI f < 1 then 1 else nI s - nI f) := by
    by_cases q : nI s - nI f < 1
    · rw [if_pos q]; decide
    · rw [if_neg q]
      rw [Int32.lt_iff_toInt_lt] at q ⊢
      rw [ssub S F (by omega)] at q ⊢
      rw [i1] at q; rw [i0]; omega
  have A := ssub (ssub S i2 (by omega)) V (by omega)
  rcases (by omega : k = 0 ∨ k = 1 ∨ k = 2 ∨ k = 3 ∨ k = 4 ∨ k = 5 ∨ k = 6 ∨ k = 7) with rfl | rfl | rfl | rfl | rfl | rfl | rfl | rfl
  · have q : (nI 0).toNatClampNeg = 0 := by decide
    simp only [inK, outK, q]
    rw [Int32.lt_iff_toInt_lt, A, S]; omega
  · have q : (nI 1).toNatClampNeg = 1 := by decide
    simp only [inK, outK, q]
    rw [Int32.lt_iff_toInt_lt, sadd A T (by omega), sadd S T (by omega)]; omega
  · have q : (nI 2).toNatClampNeg = 2 := by decide
    simp only [inK, outK, q]
    exact lid
  · have q : (nI 3).toNatClampNeg = 3 := by decide
    simp only [inK, outK, q]
    rw [Int32.lt_iff_toInt_lt, ssub A i1 (by omega), S]; omega
  · have q : (nI 4).toNatClampNeg = 4 := by decide
    simp only [inK, outK, q]
    rw [Int32.lt_iff_toInt_lt, sadd A T (by omega), sadd (sadd S T (by omega)) i1 (by omega)]; omega
  · have q : (nI 5).toNatClampNeg = 5 := by decide
    simp only [inK, outK, q]
    rw [Int32.lt_iff_toInt_lt, ssub (ssub A i1 (by omega)) F (by omega), sadd S i2 (by omega)]; omega
  · have q : (nI 6).toNatClampNeg = 6 := by decide
    simp only [inK, outK, q]
    rw [Int32.lt_iff_toInt_lt, ssub A i1 (by omega), S]; omega
  · have q : (nI 7).toNatClampNeg = 7 := by decide
    simp only [inK, outK, q]
    exact lid
theorem li_lt {B : zBv} {a b vn : Nat} {v : Int32} (h : Rgb B b) (hv : v = nI vn) (hvn : vn ≤ 9) (hl : fLi B a b v = true) : oB B a < oB B b := by
  simp only [fLi, Bool.and_eq_true, decide_eq_true_eq] at hl
  exact Int32.lt_of_le_of_lt hl.2 (in_lt_out h hv hvn)
def chn (lz : Nat → Nat → Bool) : List Nat → Bool
  | [] => true
  | [_] => true
  | a :: b :: l => lz a b && chn lz (b :: l)
def hgt (ri de : Nat → Int32) : List Nat → Int32
  | [] => 0
  | [a] => de a
  | a :: b :: l => ri a + hgt ri de (b :: l)
theorem hgO_fil (lz : Nat → Nat → Bool) (ri : Nat → Int32) (mem : Nat → Bool) : ∀ (l : List Nat) (inn : Option Nat) (hi : Int32), hgO lz ri mem l inn hi = hgO lz ri (fun _ => true) (l.filter mem) inn hi
  | [], inn, hi => rfl
  | b :: l, inn, hi => by
    by_cases q : mem b = true
    · rw [List.filter_cons_of_pos q]
      cases inn with
      | none => rw [hgO_n1 q, hgO_n1 rfl]; exact hgO_fil lz ri mem l _ _
      | some a =>
        cases z : lz a b with
        | true => rw [hgO_s1 q z, hgO_s1 rfl z]; exact hgO_fil lz ri mem l _ _
        | false => rw [hgO_f q z, hgO_f rfl z]
    · rw [List.filter_cons_of_neg q, hgO_0 (Bool.eq_false_iff.mpr q)]; exact hgO_fil lz ri mem l _ _
theorem hgO_chn (lz : Nat → Nat → Bool) (ri de : Nat → Int32) : ∀ (l : List Nat) (a : Nat) (hi : Int32), hgR de (hgO lz ri (fun _ => true) l (some a) hi) = if chn lz (a :: l) = true then hi + hgt ri de (a :: l) else 0
  | [], a, hi => by rw [if_pos (show chn lz [a] = true from rfl)]; rfl
  | b :: l, a, hi => by
    cases z : lz a b with
    | true =>
      rw [hgO_s1 rfl z, hgO_chn lz ri de l b]
      by_cases q : chn lz (b :: l) = true
      · rw [if_pos q, if_pos (by rw [chn, z, q]; rfl), hgt, Int32.add_assoc]
      · rw [if_neg q, if_neg (by rw [chn, z]; exact q)]
    | false =>
      rw [hgO_f rfl z, if_neg (by rw [chn, z, Bool.false_and]; decide)]; rfl
/-- a nest's bowls, the innermost first -/
def lstN (B : zBv) (c t : Nat) : List Nat := (ordO (oB B) c).filter t.testBit
def gN (lz : Nat → Nat → Bool) (l : List Nat) : Bool := !l.isEmpty && chn lz l
theorem fil_bit {c t : Nat} {l : List Nat} (hc : c ≤ 10) (ht : t < 1024) (hl : ∀ b ∈ l, b < c) : l.filter (iBit (nI t)) = l.filter t.testBit := by
  apply List.filter_congr
  intro b hb
  exact iBit_nI ht (by have := hl b hb; omega)
theorem fHg_l {B : zBv} {v : Int32} {c t : Nat} (hc : c ≤ 10) (ht : t < 1024) : fHg B v c (nI t) = if gN (fun a b => fLi B a b v) (lstN B c t) = true then hgt (fRi B) (B 4) (lstN B c t) else 0 := by
  unfold fHg
  rw [hgO_fil, fil_bit hc ht (fun b hb => (ordO_mem _ _ _).mp hb)]
  unfold lstN
  generalize (ordO (oB B) c).filter t.testBit = l
  cases l with
  | nil => rfl
  | cons a l =>
    rw [hgO_n1 rfl, hgO_chn]
    simp only [gN, List.isEmpty_cons, Bool.not_false, Bool.true_and, Int32.zero_add, Int32.add_zero]
