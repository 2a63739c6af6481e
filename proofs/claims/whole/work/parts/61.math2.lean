/-! The nests that are found are all nests. -/
theorem fil_or {l : List Nat} {b s : Nat} (hb : b ∉ l) : l.filter (s ||| 2 ^ b).testBit = l.filter s.testBit := by
  apply List.filter_congr
  intro y hy
  have hne : ¬ b = y := fun q => hb (by rw [q]; exact hy)
  rw [Nat.testBit_or, tb_one, decide_eq_false hne, Bool.or_false]
theorem fil_dif {l : List Nat} {b s : Nat} (hs : s < 512) (hb : b ∉ l) : l.filter (nDif s (2 ^ b)).testBit = l.filter s.testBit := by
  apply List.filter_congr
  intro y hy
  have hne : ¬ b = y := fun q => hb (by rw [q]; exact hy)
  rw [tb_dif (by omega), tb_one, decide_eq_false hne, Bool.not_false, Bool.and_true]
theorem fil_pow {l : List Nat} {b : Nat} (hb : b ∉ l) : l.filter (2 ^ b).testBit = [] := by
  apply List.filter_eq_nil_iff.mpr
  intro y hy q
  rw [tb_one] at q
  exact hb (of_decide_eq_true q ▸ hy)
theorem aMk_b {lz : Nat → Nat → Bool} {c b i : Nat} (hc : c ≤ 9) (hi : i < c) (hb : i ≠ b) : iBit (nI (aMk lz c b)) i = lz b i := by
  have h1 : aMk lz c b < 2 ^ c := amF_lt _ _
  have h2 := p29 hc
  rw [iBit_nI (by omega) (by omega)]
  unfold aMk
  rw [amF_tb, decide_eq_true hi, decide_eq_false (fun q => hb q.symm)]
  rfl
theorem FN_ok {lz : Nat → Nat → Bool} {de ri : Nat → Int32} {c : Nat} (hc : c ≤ 9) : ∀ (l : List Nat), l.Nodup → (∀ b ∈ l, b < c) → ∀ e ∈ FN lz de ri c l, chn lz (l.filter e.1.testBit) = true ∧ (∃ r, l.filter e.1.testBit = e.2.1 :: r) ∧ e.2.2 = hgt ri de (l.filter e.1.testBit)
  | [], _, _, e, h => by simp [FN] at h
  | b :: l, hn, hl, e, h => by
    obtain ⟨hb, hn⟩ := List.nodup_cons.mp hn
    have hl2 : ∀ y ∈ l, y < c := fun y hy => hl y (List.mem_cons_of_mem _ hy)
    have ih := FN_ok (lz := lz) (de := de) (ri := ri) hc l hn hl2
    rw [FN, grow] at h
    rcases List.mem_append.mp h with h | h
    · rw [List.filter_cons_of_neg (by rw [FN_nobit hb h]; decide)]
      exact ih e h
    · rcases List.mem_cons.mp h with rfl | h
      · rw [List.filter_cons_of_pos (by rw [tb_one]; simp), fil_pow hb]
        exact ⟨rfl, ⟨[], rfl⟩, rfl⟩
      · obtain ⟨x, hx, hxb, rfl⟩ := groN_mem h
        obtain ⟨h1, ⟨r, h2⟩, h3⟩ := ih x hx
        have hxin := (FN_in lz de ri c l x hx).2.1
        have hne : x.2.1 ≠ b := fun q => hb (by rw [← q]; exact hxin)
        rw [aMk_b hc (hl2 _ hxin) hne] at hxb
        rw [List.filter_cons_of_pos (by rw [Nat.testBit_or, tb_one]; simp), fil_or hb]
        rw [h2] at h1 h3 ⊢
        refine ⟨?_, ⟨_, rfl⟩, ?_⟩
        · rw [chn, hxb, h1]; rfl
        · show x.2.2 + ri b = _
          rw [hgt, ← h3, Int32.add_comm]
theorem FN_all {lz : Nat → Nat → Bool} {de ri : Nat → Int32} {c : Nat} (hc : c ≤ 9) : ∀ (l : List Nat), l.Nodup → (∀ b ∈ l, b < c) → ∀ s, s < 512 → s ≠ 0 → (∀ i, s.testBit i = true → i ∈ l) → chn lz (l.filter s.testBit) = true → ∃ e ∈ FN lz de ri c l, e.1 = s
  | [], _, _, s, _, h0, hin, _ => by
    refine absurd (Nat.eq_of_testBit_eq fun i => ?_) h0
    rw [Nat.zero_testBit]
    exact Bool.eq_false_iff.mpr (fun q => by have := hin i q; simp at this)
  | b :: l, hn, hl, s, hs, h0, hin, hch => by
    obtain ⟨hb, hn⟩ := List.nodup_cons.mp hn
    have hl2 : ∀ y ∈ l, y < c := fun y hy => hl y (List.mem_cons_of_mem _ hy)
    have ih := FN_all (lz := lz) (de := de) (ri := ri) hc l hn hl2
    rw [FN, grow]
    by_cases q : s.testBit b = true
    · rw [List.filter_cons_of_pos q] at hch
      have hd : ∀ i, (nDif s (2 ^ b)).testBit i = (s.testBit i && !decide (b = i)) := fun i => by rw [tb_dif (by omega), tb_one]
      by_cases q0 : nDif s (2 ^ b) = 0
      · refine ⟨(2 ^ b, b, de b), List.mem_append_right _ List.mem_cons_self, ?_⟩
        refine (Nat.eq_of_testBit_eq fun i => ?_).symm
        have h1 := hd i
        rw [q0, Nat.zero_testBit] at h1
        show s.testBit i = (2 ^ b).testBit i
        rw [tb_one]
        by_cases qi : b = i
        · rw [decide_eq_true qi, ← qi]; exact q
        · rw [decide_eq_false qi] at h1 ⊢
          rw [Bool.not_false, Bool.and_true] at h1
          exact h1.symm
      · have hlt : nDif s (2 ^ b) < 512 := Nat.lt_of_le_of_lt (nDif_le _ _) hs
        have hfil := fil_dif hs hb
        have hch2 : chn lz (l.filter s.testBit) = true := by
          cases z : l.filter s.testBit with
          | nil => rfl
          | cons i r =>
            rw [z, chn, Bool.and_eq_true] at hch
            exact hch.2
        obtain ⟨e, he, hes⟩ := ih (nDif s (2 ^ b)) hlt q0 (fun i hi => by
          rw [hd, Bool.and_eq_true] at hi
          rcases List.mem_cons.mp (hin i hi.1) with z | z
          · rw [z] at hi; simp at hi
          · exact z) (by rw [hfil]; exact hch2)
        obtain ⟨-, ⟨r, h2⟩, -⟩ := FN_ok hc l hn hl2 e he
        rw [hes, hfil] at h2
        rw [h2, chn, Bool.and_eq_true] at hch
        have hein := (FN_in lz de ri c l e he).2.1
        refine ⟨(e.1 ||| 2 ^ b, b, e.2.2 + ri b), List.mem_append_right _ (List.mem_cons_of_mem _ ?_), ?_⟩
        · unfold groN
          refine List.mem_map.mpr ⟨e, List.mem_filter.mpr ⟨he, ?_⟩, rfl⟩
          show iBit _ e.2.1 = true
          rw [aMk_b hc (hl2 _ hein) (fun q => hb (by rw [← q]; exact hein))]
          exact hch.1
        · show e.1 ||| 2 ^ b = s
          rw [hes]
          apply Nat.eq_of_testBit_eq
          intro i
          rw [Nat.testBit_or, hd, tb_one]
          by_cases qi : b = i
          · rw [← qi, q]; simp
          · rw [decide_eq_false qi]; simp
    · rw [List.filter_cons_of_neg q] at hch
      obtain ⟨e, he, hes⟩ := ih s hs h0 (fun i hi => by
        rcases List.mem_cons.mp (hin i hi) with z | z
        · rw [z] at hi; exact absurd hi q
        · exact z) hch
      exact ⟨e, List.mem_append_left _ he, hes⟩
theorem lt_bit {c t i : Nat} (ht : t < 2 ^ c) (hi : t.testBit i = true) : i < c := Decidable.byContradiction fun q => by
  have : t.testBit i = false := Nat.testBit_lt_two_pow (Nat.lt_of_lt_of_le ht (Nat.pow_le_pow_right (by decide) (by omega)))
  rw [this] at hi; cases hi
theorem lstN_ne {B : zBv} {c t : Nat} (ht : t < 2 ^ c) : lstN B c t = [] ↔ t = 0 := by
  constructor
  · intro h
    apply Nat.eq_of_testBit_eq
    intro i
    rw [Nat.zero_testBit]
    refine Bool.eq_false_iff.mpr (fun q => ?_)
    have := List.filter_eq_nil_iff.mp h i ((ordO_mem _ _ _).mpr (lt_bit ht q))
    exact this q
  · rintro rfl
    exact List.filter_eq_nil_iff.mpr (fun y _ => by rw [Nat.zero_testBit]; decide)
theorem gN_iff {B : zBv} {c t : Nat} {lz : Nat → Nat → Bool} (ht : t < 2 ^ c) : gN lz (lstN B c t) = true ↔ t ≠ 0 ∧ chn lz (lstN B c t) = true := by
  unfold gN
  rw [Bool.and_eq_true]
  constructor
  · rintro ⟨h1, h2⟩
    refine ⟨fun q => ?_, h2⟩
    rw [(lstN_ne ht).mpr q] at h1
    cases h1
  · rintro ⟨h1, h2⟩
    refine ⟨?_, h2⟩
    cases z : lstN B c t with
    | nil => exact absurd ((lstN_ne ht).mp z) h1
    | cons a l => rfl
theorem fFo_iff {B : zBv} {v : Int32} {c t : Nat} (hc : c ≤ 9) (ht : t < 2 ^ c) : (∃ e ∈ fFo B v c, e.1 = t) ↔ gN (fun a b => fLi B a b v) (lstN B c t) = true := by
  have hm : ∀ b ∈ ordO (oB B) c, b < c := fun b hb => (ordO_mem _ _ _).mp hb
  have h9 := p29 hc
  rw [gN_iff ht]
  constructor
  · rintro ⟨e, he, rfl⟩
    exact ⟨(FN_in _ _ _ _ _ e he).1, (FN_ok hc _ (ordO_nodup _ _) hm e he).1⟩
  · rintro ⟨h0, h1⟩
    exact FN_all hc _ (ordO_nodup _ _) hm t (by omega) h0 (fun i hi => (ordO_mem _ _ _).mpr (lt_bit ht hi)) h1
theorem fHt_l {B : zBv} {v : Int32} {c t : Nat} (hc : c ≤ 9) (ht : t < 2 ^ c) : fHt B v c t = if gN (fun a b => fLi B a b v) (lstN B c t) = true then hgt (fRi B) (B 4) (lstN B c t) else 0 := by
  have hm : ∀ b ∈ ordO (oB B) c, b < c := fun b hb => (ordO_mem _ _ _).mp hb
  have hi := fFo_iff (B := B) (v := v) hc ht
  unfold fHt hF
  cases z : (fFo B v c).find? (fun e => e.1 == t) with
  | some e =>
    have he := List.mem_of_find?_eq_some z
    have het : e.1 = t := by have := List.find?_some z; simpa using this
    rw [if_pos (hi.mp ⟨e, he, het⟩)]
    have := (FN_ok hc _ (ordO_nodup _ _) hm e he).2.2
    rw [het] at this
    exact this
  | none =>
    rw [if_neg (fun q => by
      obtain ⟨e, he, het⟩ := hi.mpr q
      have := List.find?_eq_none.mp z e he
      simp [het] at this)]
