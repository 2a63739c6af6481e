/-! The reference: nest, height, longestOf, longest, counted. -/
theorem areM {b : Int32} {c : Nat} (hc : c ≤ 9) : fIs b 0 ((1 <<< (nI c &&& 31)) - 1) = true ↔ ∃ t, t < 2 ^ c ∧ b = nI t := by
  rw [nb_all c (by omega)]
  have hM : 2 ^ c ≤ 2 ^ 9 := Nat.pow_le_pow_right (by decide) hc
  have hM0 : 0 < 2 ^ c := Nat.pow_pos (by decide)
  simp only [fIs, Bool.and_eq_true, decide_eq_true_eq]
  constructor
  · rintro ⟨h1, h2⟩
    obtain ⟨a, ha, rfl⟩ := nI_of (x := b) (fun q => absurd (Int32.lt_of_le_of_lt h1 q) (by decide))
    rw [nI_leI ha (by omega)] at h2
    exact ⟨a, by omega, rfl⟩
  · rintro ⟨t, ht, rfl⟩
    exact ⟨nI_pos' (by omega), (nI_leI (by omega) (by omega)).mpr (by omega)⟩
theorem lt29 {c t : Nat} (hc : c ≤ 9) (ht : t < 2 ^ c) : t < 512 := Nat.lt_of_lt_of_le ht (Nat.pow_le_pow_right (by decide) hc)
set_option maxHeartbeats 4000000 in
theorem c_X12_nest {c : Nat} {b : Int32} {w : ww} {Q : Option Value → ww → Prop} (hM : Mow w c) (hQ1 : ¬ (∃ t, t < 2 ^ c ∧ b = nI t) → Q (some (.int (-1))) w) (hQ2 : ∀ t, t < 2 ^ c → b = nI t → Q (some (.int (bi (nsB (mB w) (w 58 1) t)))) w) : Ct mX12_nest 8 [.ref 57, .int b] w Q := by
  refine Ct.of (by decide) (Nat.le_of_ble_eq_true rfl) (fun _ => Nat.le_of_ble_eq_true rfl) (fun G hR => ?_)
  have hE := hR.1
  refine zr_aload_n hE eX12_nest_0 rfl ?_
  refine zr_iload_n hE eX12_nest_1 rfl ?_
  refine zr_callV1 hE eX12_nest_2 lX12_168 zs57 rfl rfl (by decide) (Nat.le_of_ble_eq_true rfl) (c_X12_areBowls ?_)
  refine zr_bne hE eX12_nest_5 (tgt := 12) (by decide) (fun zc5 => ?_) (fun zc5 => ?_)
  · obtain ⟨t, ht, rfl⟩ := (areM hM.1).mp (by have q := zc5; rw [hM.2.1] at q; exact q)
    have ht9 := lt29 hM.1 ht
    refine zr_aload_n hE eX12_nest_12 rfl ?_
    refine zr_iload_n hE eX12_nest_13 rfl ?_
    refine zr_callV1 hE eX12_nest_14 lX12_171 zs57 rfl rfl (by decide) (Nat.le_of_ble_eq_true rfl) (c_X12_isNest (by omega) (hM.ks ht) ?_)
    refine zr_beq hE eX12_nest_17 (tgt := 24) (by decide) (fun zc17 => ?_) (fun zc17 => ?_)
    · refine zr_iconst hE eX12_nest_24 (v := 0) (by decide) ?_
      refine hR.2.1 _ _ _ _ _ _ eX12_nest_25 rfl rfl ?_
      have q := hQ2 t ht rfl
      rw [zc17] at q
      exact q
    · refine zr_iconst hE eX12_nest_20 (v := 1) (by decide) ?_
      refine zr_goto hE eX12_nest_21 (tgt := 25) (by decide) ?_
      refine hR.2.1 _ _ _ _ _ _ eX12_nest_25 rfl rfl ?_
      have q := hQ2 t ht rfl
      rw [zc17] at q
      exact q
  · refine zr_iconst hE eX12_nest_8 (v := -1) (by decide) ?_
    refine zr_goto hE eX12_nest_9 (tgt := 25) (by decide) ?_
    refine hR.2.1 _ _ _ _ _ _ eX12_nest_25 rfl rfl ?_
    refine hQ1 (fun q => ?_)
    have q2 := (areM hM.1).mpr q
    rw [← hM.2.1, zc5] at q2
    cases q2

theorem ns_ne {B : zBv} {v : Int32} {s : Nat} (h : nsB B v s = true) : s ≠ 0 := by
  unfold nsB at h; simp at h; exact h.1
set_option maxHeartbeats 4000000 in
theorem c_X12_height {c : Nat} {b : Int32} {w : ww} {Q : Option Value → ww → Prop} (hM : Mow w c) (hQ1 : ¬ (∃ t, t < 2 ^ c ∧ b = nI t) → Q (some (.int (-1))) w) (hQ2 : ∀ t, t < 2 ^ c → b = nI t → Q (some (.int (if nsB (mB w) (w 58 1) t = true then mHt (mB w) t else -3))) w) : Ct mX12_height 8 [.ref 57, .int b] w Q := by
  refine Ct.of (by decide) (Nat.le_of_ble_eq_true rfl) (fun _ => Nat.le_of_ble_eq_true rfl) (fun G hR => ?_)
  have hE := hR.1
  refine zr_aload_n hE eX12_height_0 rfl ?_
  refine zr_iload_n hE eX12_height_1 rfl ?_
  refine zr_callV1 hE eX12_height_2 lX12_168 zs57 rfl rfl (by decide) (Nat.le_of_ble_eq_true rfl) (c_X12_areBowls ?_)
  refine zr_bne hE eX12_height_5 (tgt := 12) (by decide) (fun zc5 => ?_) (fun zc5 => ?_)
  · obtain ⟨t, ht, rfl⟩ := (areM hM.1).mp (by have q := zc5; rw [hM.2.1] at q; exact q)
    have ht9 := lt29 hM.1 ht
    refine zr_aload_n hE eX12_height_12 rfl ?_
    refine zr_iload_n hE eX12_height_13 rfl ?_
    refine zr_callV1 hE eX12_height_14 lX12_171 zs57 rfl rfl (by decide) (Nat.le_of_ble_eq_true rfl) (c_X12_isNest (by omega) (hM.ks ht) ?_)
    refine zr_beq hE eX12_height_17 (tgt := 28) (by decide) (fun zc17 => ?_) (fun zc17 => ?_)
    · refine zr_bipush hE eX12_height_28 (v := -3) (by decide) ?_
      refine hR.2.1 _ _ _ _ _ _ eX12_height_30 rfl rfl ?_
      have q := hQ2 t ht rfl
      rw [if_neg (by rw [zc17]; decide)] at q
      exact q
    · refine zr_aload_n hE eX12_height_20 rfl ?_
      refine zr_iload_n hE eX12_height_21 rfl ?_
      refine zr_callV1 hE eX12_height_22 lX12_174 zs57 rfl rfl (by decide) (Nat.le_of_ble_eq_true rfl) (c_X12_heightOf (by omega) (ns_ne zc17) (hM.ks ht) ?_)
      refine zr_goto hE eX12_height_25 (tgt := 30) (by decide) ?_
      refine hR.2.1 _ _ _ _ _ _ eX12_height_30 rfl rfl ?_
      have q := hQ2 t ht rfl
      rw [if_pos zc17] at q
      exact q
  · refine zr_iconst hE eX12_height_8 (v := -1) (by decide) ?_
    refine zr_goto hE eX12_height_9 (tgt := 30) (by decide) ?_
    refine hR.2.1 _ _ _ _ _ _ eX12_height_30 rfl rfl ?_
    refine hQ1 (fun q => ?_)
    have q2 := (areM hM.1).mpr q
    rw [← hM.2.1, zc5] at q2
    cases q2

def loS (B : zBv) (v : Int32) (t best s : Nat) : Nat := if nDif s t ≠ 0 ∨ pop s 10 < pop best 10 ∨ nsB B v s = false then best else if pop best 10 < pop s 10 ∨ mHt B s < mHt B best then s else best
def loM (B : zBv) (v : Int32) (t : Nat) : Nat → Nat
  | 0 => 0
  | n + 1 => loS B v t (loM B v t n) (n + 1)
theorem nDif_0 {s t : Nat} (hs : s < 512) (h : nDif s t = 0) {b : Nat} (hb : s.testBit b = true) : t.testBit b = true := by
  have q := tb_dif (a := s) (b := t) (i := b) (by omega)
  rw [h, hb, Nat.zero_testBit] at q
  simpa using q.symm
theorem loM_ok {B : zBv} {v : Int32} {t : Nat} : ∀ n, n < 512 → loM B v t n ≤ n ∧ ∀ b, (loM B v t n).testBit b = true → t.testBit b = true
  | 0, _ => ⟨Nat.le_refl _, fun b h => by rw [loM, Nat.zero_testBit] at h; cases h⟩
  | n + 1, hn => by
    have ih := loM_ok (B := B) (v := v) (t := t) n (by omega)
    rw [loM]
    unfold loS
    by_cases q : nDif (n + 1) t ≠ 0 ∨ pop (n + 1) 10 < pop (loM B v t n) 10 ∨ nsB B v (n + 1) = false
    · rw [if_pos q]; exact ⟨by omega, ih.2⟩
    · rw [if_neg q]
      split
      · exact ⟨Nat.le_refl _, fun b hb => nDif_0 hn (Decidable.not_not.mp (fun x => q (Or.inl x))) hb⟩
      · exact ⟨by omega, ih.2⟩
theorem pop_pos : ∀ s, s < 1024 → s ≠ 0 → 0 < pop s 10 := by decide +kernel
