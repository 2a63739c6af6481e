/-! Sets made whole: the most nests of k, by the class's sums and by the reference's search. -/
def sbN (a b : Nat) : Prop := ∀ i, a.testBit i = true → b.testBit i = true
theorem sbN_and {a b : Nat} : sbN a b ↔ a &&& b = a := by
  constructor
  · intro h
    apply Nat.eq_of_testBit_eq
    intro i
    rw [Nat.testBit_and]
    by_cases q : a.testBit i = true
    · rw [q, h i q]; rfl
    · rw [Bool.eq_false_iff.mpr q]; rfl
  · intro h i hi
    have := congrArg (fun z => z.testBit i) h
    simp only [Nat.testBit_and, hi, Bool.true_and] at this
    exact this
theorem sbN_le {a b : Nat} (h : sbN a b) : a ≤ b := by
  have := sbN_and.mp h
  rw [← this]; exact Nat.and_le_right
theorem sbN_tr {a b c : Nat} (h : sbN a b) (h2 : sbN b c) : sbN a c := fun i q => h2 i (h i q)
theorem tbd {s p i : Nat} (hs : s < 512) : (nDif s p).testBit i = true ↔ s.testBit i = true ∧ ¬ p.testBit i = true := by
  rw [tb_dif (by omega), Bool.and_eq_true]
  cases p.testBit i <;> simp
theorem dif_lt {s p : Nat} (hs : s < 512) : nDif s p < 512 := Nat.lt_of_le_of_lt (nDif_le _ _) hs
/-- n sets of k that N has, apart, within s -/
def Pk (N : Nat → Bool) (kn : Nat) : Nat → Nat → Prop
  | 0, _ => True
  | n + 1, s => ∃ p, sbN p s ∧ pop p 10 = kn ∧ N p = true ∧ Pk N kn n (nDif s p)
theorem Pk_mono {N : Nat → Bool} {kn : Nat} : ∀ (n s t : Nat), s < 512 → t < 512 → sbN s t → Pk N kn n s → Pk N kn n t
  | 0, s, t, _, _, _, _ => True.intro
  | n + 1, s, t, hs, ht, h, ⟨p, h1, h2, h3, h4⟩ => by
    refine ⟨p, sbN_tr h1 h, h2, h3, Pk_mono n _ _ (dif_lt hs) (dif_lt ht) (fun i q => ?_) h4⟩
    rw [tbd hs] at q
    rw [tbd ht]
    exact ⟨h i q.1, q.2⟩
theorem Pk_less {N : Nat → Bool} {kn : Nat} : ∀ (n s : Nat), s < 512 → Pk N kn (n + 1) s → Pk N kn n s
  | 0, s, _, _ => True.intro
  | n + 1, s, hs, ⟨p, h1, h2, h3, h4⟩ => ⟨p, h1, h2, h3, Pk_less n _ (dif_lt hs) h4⟩
theorem k_ne {p kn : Nat} (hk : 0 < kn) (h : pop p 10 = kn) : p ≠ 0 := fun q => by rw [q, pop_0] at h; omega
/-- of such sets one that has the bit, or all without it -/
theorem Pk_bit {N : Nat → Bool} {kn b : Nat} : ∀ (n s : Nat), s < 512 → Pk N kn (n + 1) s → Pk N kn (n + 1) (nDif s (2 ^ b)) ∨ ∃ p, sbN p s ∧ p.testBit b = true ∧ pop p 10 = kn ∧ N p = true ∧ Pk N kn n (nDif s p)
  | n, s, hs, ⟨p, h1, h2, h3, h4⟩ => by
    by_cases hb : p.testBit b = true
    · exact Or.inr ⟨p, h1, hb, h2, h3, h4⟩
    · have hp : sbN p (nDif s (2 ^ b)) := fun i q => by
        rw [tbd hs, tb_one]
        refine ⟨h1 i q, fun w => hb ?_⟩
        have := of_decide_eq_true w
        rw [this]; exact q
      cases n with
      | zero => exact Or.inl ⟨p, hp, h2, h3, True.intro⟩
      | succ n =>
        rcases Pk_bit (b := b) n _ (dif_lt hs) h4 with h5 | ⟨q, q1, q2, q3, q4, q5⟩
        · refine Or.inl ⟨p, hp, h2, h3, Pk_mono _ _ _ (dif_lt (dif_lt hs)) (dif_lt (dif_lt hs)) (fun i w => ?_) h5⟩
          rw [tbd (dif_lt hs), tbd hs] at w ⊢
          exact ⟨⟨w.1.1, w.2⟩, w.1.2⟩
        · refine Or.inr ⟨q, fun i w => ?_, q2, q3, q4, p, fun i w => ?_, h2, h3, Pk_mono _ _ _ (dif_lt (dif_lt hs)) (dif_lt (dif_lt hs)) (fun i w => ?_) q5⟩
          · have := q1 i w
            rw [tbd hs] at this; exact this.1
          · rw [tbd hs]
            refine ⟨h1 i w, fun z => ?_⟩
            have := q1 i z
            rw [tbd hs] at this; exact this.2 w
          · rw [tbd (dif_lt hs), tbd hs] at w ⊢
            exact ⟨⟨w.1.1, w.2⟩, w.1.2⟩
theorem log_bit {p i : Nat} (h : p.testBit i = true) : i ≤ Nat.log2 p := by
  have h1 : 2 ^ i ≤ p := Nat.ge_two_pow_of_testBit h
  exact (Nat.le_log2 (by have := Nat.pow_pos (n := i) (show 0 < 2 by decide); omega)).mpr h1
theorem log_top {p : Nat} (h : p ≠ 0) : p.testBit (Nat.log2 p) = true := by
  have h1 := (Nat.log2_lt h (k := Nat.log2 p + 1)).mp (by omega)
  have h2 := (Nat.le_log2 h (k := Nat.log2 p)).mp (Nat.le_refl _)
  rw [Nat.testBit_eq_decide_div_mod_eq, decide_eq_true_eq]
  have h3 : 2 ^ (Nat.log2 p + 1) = 2 ^ Nat.log2 p * 2 := Nat.pow_succ ..
  have h4 : p / 2 ^ Nat.log2 p = 1 := by
    refine Nat.div_eq_of_lt_le (by omega) (by omega)
  rw [h4]
def blw (s p : Nat) : Nat := nDif s p &&& (2 ^ Nat.log2 p - 1)
theorem tbl {s p i : Nat} (hs : s < 512) : (blw s p).testBit i = true ↔ (s.testBit i = true ∧ ¬ p.testBit i = true) ∧ i < Nat.log2 p := by
  unfold blw
  rw [Nat.testBit_and, Bool.and_eq_true, tbd hs, Nat.testBit_two_pow_sub_one, decide_eq_true_eq]
theorem blw_lt {s p : Nat} (hs : s < 512) : blw s p < 512 := Nat.lt_of_le_of_lt Nat.and_le_left (dif_lt hs)
/-- of such sets the one with the highest bit first -/
theorem Pk_top {N : Nat → Bool} {kn : Nat} (hk : 0 < kn) : ∀ (n s : Nat), s < 512 → Pk N kn (n + 1) s → ∃ p, sbN p s ∧ pop p 10 = kn ∧ N p = true ∧ Pk N kn n (blw s p)
  | 0, s, _, ⟨p, h1, h2, h3, _⟩ => ⟨p, h1, h2, h3, True.intro⟩
  | n + 1, s, hs, ⟨p, h1, h2, h3, h4⟩ => by
    obtain ⟨q, q1, q2, q3, q4⟩ := Pk_top hk n _ (dif_lt hs) h4
    have hp0 := k_ne hk h2
    have hq0 := k_ne hk q2
    have hqs : ∀ i, q.testBit i = true → s.testBit i = true ∧ ¬ p.testBit i = true := fun i w => by
      have := q1 i w
      rw [tbd hs] at this; exact this
    have hne : Nat.log2 p ≠ Nat.log2 q := fun e => (hqs _ (log_top hq0)).2 (by rw [← e]; exact log_top hp0)
    by_cases hlt : Nat.log2 q < Nat.log2 p
    · refine ⟨p, h1, h2, h3, q, fun i w => ?_, q2, q3, Pk_mono _ _ _ (blw_lt (dif_lt hs)) (dif_lt (blw_lt hs)) (fun i w => ?_) q4⟩
      · rw [tbl hs]
        exact ⟨hqs i w, by have := log_bit w; omega⟩
      · rw [tbl (dif_lt hs), tbd hs] at w
        rw [tbd (blw_lt hs), tbl hs]
        exact ⟨⟨w.1.1, by omega⟩, w.1.2⟩
    · refine ⟨q, fun i w => (hqs i w).1, q2, q3, p, fun i w => ?_, h2, h3, Pk_mono _ _ _ (blw_lt (dif_lt hs)) (dif_lt (blw_lt hs)) (fun i w => ?_) q4⟩
      · rw [tbl hs]
        refine ⟨⟨h1 i w, fun z => (hqs i z).2 w⟩, by have := log_bit w; omega⟩
      · rw [tbl (dif_lt hs), tbd hs] at w
        rw [tbd (blw_lt hs), tbl hs]
        exact ⟨⟨⟨w.1.1.1, w.1.2⟩, w.2⟩, w.1.1.2⟩
theorem blw_sub {s p : Nat} (hs : s < 512) : sbN (blw s p) (nDif s p) := fun i w => by
  rw [tbl hs] at w
  rw [tbd hs]; exact w.1
-- all subsets are gone through
theorem and2 (x y : Nat) : x &&& y = 2 * (x / 2 &&& y / 2) + (x % 2) * (y % 2) := by
  have h1 : (x &&& y) / 2 = x / 2 &&& y / 2 := by
    apply Nat.eq_of_testBit_eq
    intro i
    rw [Nat.testBit_and, ← Nat.testBit_add_one, ← Nat.testBit_add_one, ← Nat.testBit_add_one, Nat.testBit_and]
  have h2 : ((x &&& y).testBit 0) = (x.testBit 0 && y.testBit 0) := Nat.testBit_and ..
  rw [Nat.testBit_zero, Nat.testBit_zero, Nat.testBit_zero] at h2
  rw [← h1]
  have hx : x % 2 = 0 ∨ x % 2 = 1 := by omega
  have hy : y % 2 = 0 ∨ y % 2 = 1 := by omega
  have hz := Nat.div_add_mod (x &&& y) 2
  have hz2 : (x &&& y) % 2 = (x % 2) * (y % 2) := by
    have hb : (x &&& y) % 2 = 0 ∨ (x &&& y) % 2 = 1 := by omega
    rcases hx with hx | hx <;> rcases hy with hy | hy <;> rcases hb with hb | hb <;> rw [hx, hy, hb] at h2 <;> rw [hx, hy, hb] <;> first | rfl | exact absurd h2 (by decide)
  omega
theorem sub_step : ∀ (m r p q : Nat), p ≤ m → p &&& r = p → q &&& r = q → q < p → q ≤ (p - 1) &&& r
  | 0, r, p, q, hm, _, _, hq => by omega
  | m + 1, r, p, q, hm, hp, hq, hlt => by
    have ep := and2 p r
    have eq := and2 q r
    have e1 := and2 (p - 1) r
    rw [hp] at ep; rw [hq] at eq
    have hp2 : p % 2 = 0 ∨ p % 2 = 1 := by omega
    have hq2 : q % 2 = 0 ∨ q % 2 = 1 := by omega
    have hr2 : r % 2 = 0 ∨ r % 2 = 1 := by omega
    have mp : p % 2 * (r % 2) ≤ 1 := by rcases hp2 with h | h <;> rcases hr2 with h' | h' <;> rw [h, h'] <;> decide
    have mq : q % 2 * (r % 2) ≤ 1 := by rcases hq2 with h | h <;> rcases hr2 with h' | h' <;> rw [h, h'] <;> decide
    have hph : p / 2 &&& r / 2 = p / 2 := by omega
    have hqh : q / 2 &&& r / 2 = q / 2 := by omega
    rcases hp2 with h0 | h1
    · have hd : (p - 1) / 2 = p / 2 - 1 := by omega
      have hm2 : (p - 1) % 2 = 1 := by omega
      rw [hd, hm2, Nat.one_mul] at e1
      have ih := sub_step m (r / 2) (p / 2) (q / 2) (by omega) hph hqh (by omega)
      have hqr : q % 2 ≤ r % 2 := by
        rcases hq2 with h | h
        · omega
        · rcases hr2 with h' | h'
          · rw [h, h'] at eq; omega
          · omega
      omega
    · have hd : (p - 1) / 2 = p / 2 := by omega
      have hm2 : (p - 1) % 2 = 0 := by omega
      rw [hd, hm2, Nat.zero_mul, hph] at e1
      omega
theorem subL_all {r : Nat} : ∀ (f p : Nat), p < f → p &&& r = p → ∀ q, q &&& r = q → q ≤ p → q ∈ subL r f p
  | 0, p, h, _, q, _, _ => by omega
  | f + 1, p, h, hp, q, hq, hle => by
    rw [subL]
    by_cases e : q = p
    · rw [e]; exact List.mem_cons_self
    · have hlt : q < p := by omega
      rw [if_neg (by omega)]
      have hs := sub_step p r p q (Nat.le_refl _) hp hq hlt
      have hl : (p - 1) &&& r ≤ p - 1 := Nat.and_le_left
      refine List.mem_cons_of_mem _ (subL_all f _ (by omega) ?_ q hq hs)
      rw [Nat.and_assoc, Nat.and_self]
