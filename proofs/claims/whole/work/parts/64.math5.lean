/-! Both sides answer alike: throwsNew, from. -/
theorem ns_pos {B M : zBv} {c t vn : Nat} {v : Int32} (hc : c ≤ 10) (hv : v = nI vn) (hvn : vn ≤ 9) (he : ∀ k b, k < 5 → b < c → B k b = M k b) (hr : ∀ b, b < c → Rgb M b) (ht : t < 2 ^ c) : 0 < fHg B v c (nI t) ↔ nsB M v t = true := by
  have h9 := p210 hc
  have hw : Wid (fun a b => fLi M a b v) (oB M) c := fun a b _ hb hl => li_lt (hr b hb) hv hvn hl
  rw [fHg_cong he, fHg_l hc (by omega), nsB_l hc hw ht]
  cases q : gN (fun a b => fLi M a b v) (lstN M c t) with
  | true =>
    rw [if_pos rfl]
    obtain ⟨h0, _⟩ := (gN_iff ht).mp q
    obtain ⟨n, h1, h2, e⟩ := hgt_n (M := M) (lstN M c t) (fun q => h0 ((lstN_ne ht).mp q)) (fun x hx => hr x (lt_bit ht ((lstN_mem ht).mp hx)))
    have := lstN_len (B := M) (c := c) (t := t)
    rw [e]
    exact ⟨fun _ => rfl, fun _ => n0lt h1 (by omega)⟩
  | false => rw [if_neg (by decide)]; exact ⟨fun q => absurd q (by decide), fun q => by cases q⟩
theorem frR_eq {B M : zBv} {c t1 t2 vn : Nat} {v s d : Int32} (hc : c ≤ 9) (hv : v = nI vn) (hvn : vn ≤ 9) (he : ∀ k b, k < 5 → b < c + 1 → addB B c s d k b = M k b) (hr : ∀ b, b < c + 1 → Rgb M b) (h1 : t1 < 2 ^ c) (h2 : t2 < 2 ^ c) : frR B v c (nI t1) (nI t2) s d = mfr (nsB M v (t1 ||| 2 ^ c)) (nsB M v (t2 ||| 2 ^ c)) := by
  have e : ∀ t, t < 2 ^ c → (0 < frH B v c s d (nI t) ↔ nsB M v (t ||| 2 ^ c) = true) := fun t ht => by
    unfold frH
    rw [nb_sh1 c (by omega), nb_or]
    exact ns_pos (by omega) hv hvn he hr (or2c hc ht)
  unfold frR mfr
  have e1 := e t1 h1
  have e2 := e t2 h2
  cases z1 : nsB M v (t1 ||| 2 ^ c) <;> cases z2 : nsB M v (t2 ||| 2 ^ c) <;> rw [z1] at e1 <;> rw [z2] at e2
  · rw [if_neg (fun q => by have := e2.mp q; cases this), if_neg (fun q => by have := e1.mp q; cases this)]; rfl
  · rw [if_pos (e2.mpr rfl), if_neg (fun q => by have := e1.mp q; cases this)]; rfl
  · rw [if_neg (fun q => by have := e2.mp q; cases this), if_pos (e1.mpr rfl)]; rfl
  · rw [if_pos (e2.mpr rfl), if_pos (e1.mpr rfl)]; rfl
-- throwsNew
def tnL (lz br : Nat → Nat → Bool) : List Nat → Int32 → Int32
  | [], g => g
  | [_], g => g
  | a :: b :: l, g => if lz a b = true then tnL lz br (b :: l) g else if 2 < g + 1 ∨ br a b = false then -4 else tnL lz br (b :: l) (g + 1)
theorem tnF_L {lz br : Nat → Nat → Bool} {l : List Nat} : ∀ (k i : Nat) (g : Int32), i + k + 1 = l.length → tnF lz br l k i g = tnL lz br (l.drop i) g
  | 0, i, g, h => by
    have e : l.drop i = [l.getD i 0] := by
      rw [drop_cons (by omega), List.drop_eq_nil_of_le (by omega)]
    rw [e]; rfl
  | k + 1, i, g, h => by
    have e : l.drop i = l.getD i 0 :: l.getD (i + 1) 0 :: l.drop (i + 2) := by rw [drop_cons (by omega), drop_cons (by omega)]
    have e2 : l.drop (i + 1) = l.getD (i + 1) 0 :: l.drop (i + 2) := by rw [drop_cons (by omega)]
    rw [e, tnF, tnL, ← e2, tnF_L k (i + 1) g (by omega), tnF_L k (i + 1) (g + 1) (by omega)]
def tmL (lz br : Nat → Nat → Bool) : List Nat → Option Nat → Int32 → Int32
  | [], _, g => if 2 < g then -4 else g
  | b :: l, none, g => tmL lz br l (some b) g
  | b :: l, some a, g => if lz b a = true then tmL lz br l (some b) g else if br b a = true then tmL lz br l (some b) (g + 1) else -4
theorem tmF_L {lz br : Nat → Nat → Bool} {out : Nat → Int32} : ∀ (k left : Nat) (last : Option Nat) (g : Int32), left ≤ k → left < 1024 → tmF lz br out k left last g = tmL lz br (dlF out k left) last g
  | 0, left, last, g, _, _ => by cases last <;> rfl
  | k + 1, left, last, g, h, hl => by
    by_cases h0 : left = 0
    · subst h0
      rw [dlF_0, tmF, if_pos rfl]
      cases last <;> rfl
    · obtain ⟨b, hb⟩ := omF_ex (out := out) hl h0
      have hd := nDif_lt hl (omF_lt hb).2
      have ih := fun last g => tmF_L (lz := lz) (br := br) (out := out) k (nDif left (2 ^ b)) last g (by omega) (by omega)
      rw [dlF_s h0 hb, tmF, if_neg h0, hb]
      cases last with
      | none => exact ih _ _
      | some a => show (if _ then _ else _) = _; rw [ih, ih]; rfl
/-- gaps: neighbours that don't lie in one another -/
def cgp (lz : Nat → Nat → Bool) : List Nat → Nat
  | [] => 0
  | [_] => 0
  | a :: b :: l => (if lz a b = true then 0 else 1) + cgp lz (b :: l)
theorem cgp_snoc {lz : Nat → Nat → Bool} (a : Nat) : ∀ l : List Nat, cgp lz (l ++ [a]) = cgp lz l + match l.getLast? with
    | none => 0
    | some z => if lz z a = true then 0 else 1
  | [] => rfl
  | [b] => by simp [cgp]
  | b :: d :: l => by
    have ih := cgp_snoc (lz := lz) a (d :: l)
    rw [List.cons_append, List.cons_append, cgp, ← List.cons_append, ih, cgp, List.getLast?_cons_cons, Nat.add_assoc]
theorem cgp_rev {lz : Nat → Nat → Bool} : ∀ l : List Nat, cgp lz l.reverse = cgp (fun a b => lz b a) l
  | [] => rfl
  | [b] => rfl
  | a :: b :: l => by
    have ih := cgp_rev (lz := lz) (b :: l)
    rw [List.reverse_cons, cgp_snoc, ih, List.reverse_cons, List.getLast?_concat, cgp, Nat.add_comm]
def gpV (ok : Bool) (n : Nat) : Int32 := if ok = true ∧ n ≤ 2 then nI n else -4
theorem tnL_v {lz br : Nat → Nat → Bool} : ∀ (l : List Nat) (g : Nat), g ≤ 2 → tnL lz br l (nI g) = gpV (chn (fun a b => lz a b || br a b) l) (g + cgp lz l)
  | [], g, h => by rw [tnL, gpV, if_pos ⟨rfl, h⟩]; rfl
  | [a], g, h => by rw [tnL, gpV, if_pos ⟨rfl, h⟩]; rfl
  | a :: b :: l, g, h => by
    rw [tnL, chn, cgp]
    cases z : lz a b with
    | true =>
      rw [if_pos rfl, if_pos rfl, tnL_v (b :: l) g h, Bool.true_or, Bool.true_and, Nat.zero_add]
    | false =>
      have nf : ¬ false = true := by decide
      rw [if_neg nf, if_neg nf, Bool.false_or]
      cases z2 : br a b with
      | false => rw [if_pos (Or.inr rfl), Bool.false_and, gpV, if_neg (fun q => by cases q.1)]
      | true =>
        rw [Bool.true_and, show nI g + 1 = nI (g + 1) from nI_1 g]
        by_cases q : g ≤ 1
        · rw [if_neg (fun w => w.elim (fun w => by rw [show (2 : Int32) = nI 2 from rfl, nI_ltI (by decide) (by omega)] at w; omega) (fun w => by cases w)), tnL_v (b :: l) (g + 1) (by omega), Nat.add_assoc]
        · rw [if_pos (Or.inl (by rw [show (2 : Int32) = nI 2 from rfl, nI_ltI (by decide) (by omega)]; omega)), gpV, if_neg (fun w => by omega)]
theorem tmL_v {lz br : Nat → Nat → Bool} : ∀ (l : List Nat) (a g : Nat), g + l.length ≤ 100 → tmL lz br l (some a) (nI g) = gpV (chn (fun a b => lz b a || br b a) (a :: l)) (g + cgp (fun a b => lz b a) (a :: l))
  | [], a, g, h => by
    rw [tmL, gpV, chn, cgp]
    simp at h
    by_cases q : g ≤ 2
    · rw [if_neg (by rw [show (2 : Int32) = nI 2 from rfl, nI_ltI (by decide) (by omega)]; omega), if_pos ⟨rfl, q⟩]; rfl
    · rw [if_pos (by rw [show (2 : Int32) = nI 2 from rfl, nI_ltI (by decide) (by omega)]; omega), if_neg (fun w => q w.2)]
  | b :: l, a, g, h => by
    rw [List.length_cons] at h
    rw [tmL, chn, cgp]
    cases z : lz b a with
    | true => rw [if_pos rfl, if_pos rfl, tmL_v l b g (by omega), Bool.true_or, Bool.true_and, Nat.zero_add]
    | false =>
      have nf : ¬ false = true := by decide
      rw [if_neg nf, if_neg nf, Bool.false_or]
      cases z2 : br b a with
      | false => rw [if_neg (by decide), Bool.false_and, gpV, if_neg (fun q => by cases q.1)]
      | true => rw [if_pos rfl, Bool.true_and, show nI g + 1 = nI (g + 1) from nI_1 g, tmL_v l b (g + 1) (by omega), Nat.add_assoc]
theorem out_n {M : zBv} {b : Nat} (h : Rgb M b) : ∃ n, 1 ≤ n ∧ n ≤ 120 ∧ oB M b = nI n := by
  obtain ⟨⟨k, hk, e0⟩, ⟨f, hf, e1⟩, ⟨t, ht, e2⟩, ⟨s, hs1, hs2, e3⟩, _⟩ := h
  unfold oB fOut
  rw [e0, e1, e2, e3]
  obtain ⟨g, hg, T⟩ : ∃ g, g ≤ 9 ∧ (if nI t = 1 then nI f else 0 : Int32) = nI g := by
    by_cases q : nI t = 1
    · rw [if_pos q]; exact ⟨f, hf, rfl⟩
    · rw [if_neg q]; exact ⟨0, by decide, rfl⟩
  have lid : ∃ n, 1 ≤ n ∧ n ≤ 120 ∧ (if nI s - nI f < 1 then 1 else nI s - nI f : Int32) = nI n := by
    by_cases q : f ≤ s
    · rw [nI_subN q, show (1 : Int32) = nI 1 from rfl]
      by_cases z : nI (s - f) < nI 1
      · rw [if_pos z]; exact ⟨1, by decide, by decide, rfl⟩
      · rw [if_neg z]
        rw [nI_ltI (by omega) (by decide)] at z
        exact ⟨s - f, by omega, by omega, rfl⟩
    · rw [if_pos]
      · exact ⟨1, by decide, by decide, rfl⟩
      · rw [Int32.lt_iff_toInt_lt, ssub (nI_toInt (by omega)) (nI_toInt (by omega)) (by omega), i1]; omega
  rcases (by omega : k = 0 ∨ k = 1 ∨ k = 2 ∨ k = 3 ∨ k = 4 ∨ k = 5 ∨ k = 6 ∨ k = 7) with rfl | rfl | rfl | rfl | rfl | rfl | rfl | rfl
  · exact ⟨s, hs1, by omega, rfl⟩
  · refine ⟨s + g, by omega, by omega, ?_⟩
    show nI s + (if nI t = 1 then nI f else 0) = _
    rw [T, nI_add]
  · exact lid
  · exact ⟨s, hs1, by omega, rfl⟩
  · refine ⟨s + g + 1, by omega, by omega, ?_⟩
    show nI s + (if nI t = 1 then nI f else 0) + 1 = _
    rw [T, nI_add, nI_1]
  · refine ⟨s + 2, by omega, by omega, ?_⟩
    show nI s + 2 = _
    rw [show (2 : Int32) = nI 2 from rfl, nI_add]
  · exact ⟨s, hs1, by omega, rfl⟩
  · exact lid
theorem least_n {M : zBv} {a vn : Nat} {v : Int32} (h : Rgb M a) (hv : v = nI vn) (hvn : vn ≤ 9) : ∃ n, 1 ≤ n ∧ n ≤ 120 ∧ oB M a = nI n ∧ oB M a + 2 + v = nI (n + 2 + vn) := by
  obtain ⟨n, h1, h2, e⟩ := out_n h
  refine ⟨n, h1, h2, e, ?_⟩
  rw [e, hv, show (2 : Int32) = nI 2 from rfl, nI_add, nI_add]
theorem cbF_lt {M : zBv} {a b vn : Nat} {v : Int32} (ha : Rgb M a) (hb : Rgb M b) (hv : v = nI vn) (hvn : vn ≤ 9) (h : cbF M v a b = true) : oB M a < oB M b := by
  simp only [cbF, Bool.and_eq_true, decide_eq_true_eq] at h
  obtain ⟨n, h1, h2, e, e2⟩ := least_n ha hv hvn
  have h3 : oB M a + 2 + v ≤ fIn M b (M 3 b) v := by
    have h4 := h.1
    by_cases q : fIn M b (M 3 b) v < 99
    · rw [if_pos q] at h4; exact h4
    · rw [if_neg q] at h4; exact Int32.le_trans h4 (Int32.not_lt.mp q)
  have h5 : oB M a < oB M a + 2 + v := by rw [e2, e, nI_ltI (by omega) (by omega)]; omega
  exact Int32.lt_trans (Int32.lt_of_lt_of_le h5 h3) (in_lt_out hb hv hvn)
theorem brF_cb {M : zBv} {c a b vn : Nat} {v : Int32} (ha : Rgb M a) (hac : a ≠ c) (hbc : b ≠ c) (hv : v = nI vn) (hvn : vn ≤ 9) : brF M v c a b = cbF M v a b := by
  obtain ⟨n, h1, h2, e, e2⟩ := least_n ha hv hvn
  obtain ⟨dn, d1, d2, de⟩ := ha.2.2.2.2
  have e3 : fOut M a (M 3 a) + 2 + v = nI (n + 2 + vn) := e2
  unfold brF cbF
  rw [e3]
  generalize hx : n + 2 + vn = x
  have hx1 : x ≤ 140 := by omega
  have L1 : fLi (addB M c (nI x) (M 4 a)) a c v = true := by
    unfold fLi fAg fOut fIn
    simp only [addB, if_neg hac, if_pos]
    rw [Bool.and_eq_true, Bool.and_eq_true]
    refine ⟨⟨?_, ?_⟩, ?_⟩
    · rw [decide_eq_true_eq]
      show M 4 a ≤ M 4 a + 0
      rw [Int32.add_zero]; exact Int32.le_refl _
    · have : miK 0 = false := by decide
      show (!(miK (M 0 a) && miK 0) || _) = true
      rw [this, Bool.and_false]; rfl
    · rw [decide_eq_true_eq]
      show oB M a ≤ nI x - 2 - v
      rw [hv, show (2 : Int32) = nI 2 from rfl, nI_subN (by omega), nI_subN (by omega), e, nI_leI (by omega) (by omega)]
      omega
  have L2 : fLi (addB M c (nI x) (M 4 a)) c b v = (decide (M 4 a ≤ M 4 b + M 1 b) && decide (nI x ≤ fIn M b (M 3 b) v)) := by
    unfold fLi fAg fOut fIn
    simp only [addB, if_neg hbc, if_pos]
    have : miK 0 = false := by decide
    show (decide (M 4 a ≤ M 4 b + M 1 b) && (!(miK 0 && miK (M 0 b)) || _) && decide (nI x ≤ _)) = _
    rw [this, Bool.false_and, Bool.not_false, Bool.true_or, Bool.and_true]
  rw [L1, L2, Bool.true_and]
  have hd : (decide (M 4 a ≤ (if M 4 b + M 1 b < 99 then M 4 b + M 1 b else 99)) : Bool) = decide (M 4 a ≤ M 4 b + M 1 b) := by
    have h99 : M 4 a ≤ 99 := by rw [de, show (99 : Int32) = nI 99 from rfl, nI_leI (by omega) (by decide)]; exact d2
    by_cases q : M 4 b + M 1 b < 99
    · rw [if_pos q]
    · rw [if_neg q, decide_eq_true h99, decide_eq_true (Int32.le_trans h99 (Int32.not_lt.mp q))]
  rw [hd]
  by_cases q : (99 : Int32) < nI x
  · rw [if_pos q]
    have : decide (nI x ≤ (if fIn M b (M 3 b) v < 99 then fIn M b (M 3 b) v else 99)) = false := by
      apply decide_eq_false
      intro z
      by_cases w : fIn M b (M 3 b) v < 99
      · rw [if_pos w] at z; exact Int32.lt_irrefl (Int32.lt_trans q (Int32.lt_of_le_of_lt z w))
      · rw [if_neg w] at z; exact Int32.lt_irrefl (Int32.lt_of_lt_of_le q z)
    rw [this]; rfl
  · rw [if_neg q]
    have q := Int32.not_lt.mp q
    have : decide (nI x ≤ (if fIn M b (M 3 b) v < 99 then fIn M b (M 3 b) v else 99)) = decide (nI x ≤ fIn M b (M 3 b) v) := by
      by_cases w : fIn M b (M 3 b) v < 99
      · rw [if_pos w]
      · rw [if_neg w, decide_eq_true q, decide_eq_true (Int32.le_trans q (Int32.not_lt.mp w))]
    rw [this, Bool.and_comm]
theorem tnL_cong {lz lz2 br br2 : Nat → Nat → Bool} {c : Nat} (h1 : ∀ a b, a < c → b < c → lz a b = lz2 a b) (h2 : ∀ a b, a < c → b < c → br a b = br2 a b) : ∀ (l : List Nat) (g : Int32), (∀ x ∈ l, x < c) → tnL lz br l g = tnL lz2 br2 l g
  | [], g, _ => rfl
  | [a], g, _ => rfl
  | a :: b :: l, g, h => by
    have ha := h a (by simp)
    have hb := h b (by simp)
    have ht : ∀ x ∈ b :: l, x < c := fun x hx => h x (List.mem_cons_of_mem _ hx)
    rw [tnL, tnL, h1 a b ha hb, h2 a b ha hb, tnL_cong h1 h2 (b :: l) g ht, tnL_cong h1 h2 (b :: l) (g + 1) ht]
theorem lstN_all {B : zBv} {c : Nat} : lstN B c (2 ^ c - 1) = ordO (oB B) c := by
  unfold lstN
  apply List.filter_eq_self.mpr
  intro x hx
  have := (ordO_mem _ _ _).mp hx
  rw [Nat.testBit_two_pow_sub_one]
  exact decide_eq_true this
theorem brF_cong2 {B B2 : zBv} {c a b : Nat} {v : Int32} (ha : a < c) (hb : b < c) (h : ∀ k b, k < 5 → b < c → B k b = B2 k b) : brF B v c a b = brF B2 v c a b := by
  unfold brF
  have e1 : fOut B a (B 3 a) = fOut B2 a (B2 3 a) := oB_cong (b := a) (fun k hk => h k a hk ha)
  have e2 : ∀ (s d : Int32) k x, k < 5 → (x < c ∨ x = c) → addB B c s d k x = addB B2 c s d k x := fun s d k x hk hx => by
    unfold addB
    by_cases q : x = c
    · rw [if_pos q, if_pos q]
    · rw [if_neg q, if_neg q, h k x hk (by omega)]
  rw [e1, h 4 a (by decide) ha]
  rw [fLi_cong (B := addB B c (fOut B2 a (B2 3 a) + 2 + v) (B2 4 a)) (B' := addB B2 c (fOut B2 a (B2 3 a) + 2 + v) (B2 4 a)) (fun k hk => e2 _ _ k a hk (Or.inl ha)) (fun k hk => e2 _ _ k c hk (Or.inr rfl))]
  rw [fLi_cong (B := addB B c (fOut B2 a (B2 3 a) + 2 + v) (B2 4 a)) (B' := addB B2 c (fOut B2 a (B2 3 a) + 2 + v) (B2 4 a)) (a := c) (b := b) (fun k hk => e2 _ _ k c hk (Or.inr rfl)) (fun k hk => e2 _ _ k b hk (Or.inl hb))]
theorem Rlt.throws {B M : zBv} {c : Nat} {v : Int32} (h : Rlt B M c v) (h0 : 0 < c) : tnR B v c = tmR M v c := by
  obtain ⟨hc, ⟨vn, hvn, hv⟩, he, hr⟩ := id h
  have h9 := p29 hc
  have hp0 : 0 < 2 ^ c := Nat.pow_pos (by decide)
  have hm : ∀ x ∈ ordO (oB M) c, x < c := fun x hx => (ordO_mem _ _ _).mp hx
  unfold tnR tmR
  rw [ordO_cong c (fun b hb => oB_cong (fun k hk => he k b hk hb)), tnF_L _ _ _ (by rw [ordO_len]; omega), List.drop_zero]
  rw [tnL_cong (lz2 := fun a b => fLi M a b v) (br2 := cbF M v) (fun a b ha hb => h.li ha hb v) (fun a b ha hb => (brF_cong2 ha hb he).trans (brF_cb (hr a ha) (by omega) (by omega) hv hvn)) _ _ hm]
  rw [tmF_L _ _ _ _ (Nat.le_refl _) (by omega)]
  have hw : Wid (fun a b => fLi M a b v || cbF M v a b) (oB M) c := fun a b ha hb hl => by
    rcases Bool.or_eq_true_iff.mp hl with q | q
    · exact li_lt (hr b hb) hv hvn q
    · exact cbF_lt (hr a ha) (hr b hb) hv hvn q
  have ce := chn_eq (B := M) (t := 2 ^ c - 1) (by omega : c ≤ 10) hw (by omega)
  rw [lstN_all] at ce
  obtain ⟨b, hb⟩ := omF_ex (out := oB M) (s := 2 ^ c - 1) (by omega) (by
    have : 2 ^ 1 ≤ 2 ^ c := Nat.pow_le_pow_right (by decide) h0
    omega)
  have hlen : (dlF (oB M) (2 ^ c - 1) (2 ^ c - 1)).length ≤ 90 := by
    have h1 : (dlF (oB M) (2 ^ c - 1) (2 ^ c - 1)).length = ((ordO (oB M) c)).length := by
      refine List.Perm.length_eq ((List.perm_ext_iff_of_nodup ?_ (ordO_nodup _ _)).mpr (fun x => ?_))
      · exact (dlF_pw _ _ (Nat.le_refl _) (by omega)).imp (fun hxy => hxy.2)
      · rw [dlF_mem _ _ (Nat.le_refl _) (by omega), ordO_mem, Nat.testBit_two_pow_sub_one, decide_eq_true_eq]
    rw [h1, ordO_len]; omega
  obtain ⟨k, hk⟩ : ∃ k, 2 ^ c - 1 = k + 1 := ⟨2 ^ c - 1 - 1, by
    have : 2 ^ 1 ≤ 2 ^ c := Nat.pow_le_pow_right (by decide) h0
    omega⟩
  have hds : dlF (oB M) (2 ^ c - 1) (2 ^ c - 1) = b :: dlF (oB M) k (nDif (2 ^ c - 1) (2 ^ b)) := by
    have := dlF_s (k := k) (by omega : 2 ^ c - 1 ≠ 0) hb
    rw [← this, ← hk]
  rw [show (0 : Int32) = nI 0 from rfl, tnL_v _ _ (by decide), hds]
  rw [hds, List.length_cons] at hlen
  show _ = tmL _ _ _ (some b) (nI 0)
  rw [tmL_v _ _ _ (by omega), ← hds, ce]
  cases q : chn (fun a b => fLi M a b v || cbF M v a b) (ordO (oB M) c) with
  | false => unfold gpV; rw [if_neg (fun z => by cases z.1), if_neg (fun z => by cases z.1)]
  | true =>
    have hp := chn_pw (out := oB M) _ (fun x hx y hy hl => hw x y (hm x hx) (hm y hy) hl) q
    have hr2 := dl_rev (B := M) (t := 2 ^ c - 1) (by omega : c ≤ 10) (by omega) (by rw [lstN_all]; exact pw_notie hp)
    rw [lstN_all] at hr2
    rw [← hr2, cgp_rev]
