/-! The reference: nest, height, longestOf, longest, counted. -/
theorem areM {b : Int32} {c : Nat} (hc : c ≤ 9) : fIs b 0 ((1 <<< (nI c &&& 31)) - 1) = true ↔ ∃ t, t < 2 ^ c ∧ b = nI t := by
  rw [nb_all c (by omega)]
  have hM : 2 ^ c ≤ 2 ^ 9 := Nat.pow_le_pow_right (by decide) hc
  have hM0 : 0 < 2 ^ c := Nat.pow_pos (by decide)
  simp only [fIs, Bool.and_eq_true, decide_eq_true_eq]
  constructor
  · rintro ⟨h1, h2⟩
    obtain ⟨a, ha, rfl⟩ := nI_of (x := b) (fun q => absurd (Int32.lt_of_le_of_lt h1 q) (by decide))
    rw [nI_leI ha (by omega)] at h2
    exact ⟨a, by omega, rfl⟩
  · rintro ⟨t, ht, rfl⟩
    exact ⟨nI_pos' (by omega), (nI_leI (by omega) (by omega)).mpr (by omega)⟩
theorem lt29 {c t : Nat} (hc : c ≤ 9) (ht : t < 2 ^ c) : t < 512 := Nat.lt_of_lt_of_le ht (Nat.pow_le_pow_right (by decide) hc)
set_option maxHeartbeats 4000000 in
theorem c_X12_nest {c : Nat} {b : Int32} {w : ww} {Q : Option Value → ww → Prop} (hM : Mow w c) (hQ1 : ¬ (∃ t, t < 2 ^ c ∧ b = nI t) → Q (some (.int (-1))) w) (hQ2 : ∀ t, t < 2 ^ c → b = nI t → Q (some (.int (bi (nsB (mB w) (w 58 1) t)))) w) : Ct mX12_nest 8 [.ref 57, .int b] w Q := by
  refine Ct.of (by decide) (Nat.le_of_ble_eq_true rfl) (fun _ => Nat.le_of_ble_eq_true rfl) (fun G hR => ?_)
  have hE := hR.1
  refine zr_aload_n hE eX12_nest_0 rfl ?_
  refine zr_iload_n hE eX12_nest_1 rfl ?_
  refine zr_callV1 hE eX12_nest_2 lX12_168 zs57 rfl rfl (by decide) (Nat.le_of_ble_eq_true rfl) (c_X12_areBowls ?_)
  refine zr_bne hE eX12_nest_5 (tgt := 12) (by decide) (fun zc5 => ?_) (fun zc5 => ?_)
  · obtain ⟨t, ht, rfl⟩ := (areM hM.1).mp (by have q := zc5; rw [hM.2.1] at q; exact q)
    have ht9 := lt29 hM.1 ht
    refine zr_aload_n hE eX12_nest_12 rfl ?_
    refine zr_iload_n hE eX12_nest_13 rfl ?_
    refine zr_callV1 hE eX12_nest_14 lX12_171 zs57 rfl rfl (by decide) (Nat.le_of_ble_eq_true rfl) (c_X12_isNest (by omega) (hM.ks ht) ?_)
    refine zr_beq hE eX12_nest_17 (tgt := 24) (by decide) (fun zc17 => ?_) (fun zc17 => ?_)
    · refine zr_iconst hE eX12_nest_24 (v := 0) (by decide) ?_
      refine hR.2.1 _ _ _ _ _ _ eX12_nest_25 rfl rfl ?_
      have q := hQ2 t ht rfl
      rw [zc17] at q
      exact q
    · refine zr_iconst hE eX12_nest_20 (v := 1) (by decide) ?_
      refine zr_goto hE eX12_nest_21 (tgt := 25) (by decide) ?_
      refine hR.2.1 _ _ _ _ _ _ eX12_nest_25 rfl rfl ?_
      have q := hQ2 t ht rfl
      rw [zc17] at q
      exact q
  · refine zr_iconst hE eX12_nest_8 (v := -1) (by decide) ?_
    refine zr_goto hE eX12_nest_9 (tgt := 25) (by decide) ?_
    refine hR.2.1 _ _ _ _ _ _ eX12_nest_25 rfl rfl ?_
    refine hQ1 (fun q => ?_)
    have q2 := (areM hM.1).mpr q
    rw [← hM.2.1, zc5] at q2
    cases q2

theorem ns_ne {B : zBv} {v : Int32} {s : Nat} (h : nsB B v s = true) : s ≠ 0 := by
  unfold nsB at h; simp at h; exact h.1
set_option maxHeartbeats 4000000 in
theorem c_X12_height {c : Nat} {b : Int32} {w : ww} {Q : Option Value → ww → Prop} (hM : Mow w c) (hQ1 : ¬ (∃ t, t < 2 ^ c ∧ b = nI t) → Q (some (.int (-1))) w) (hQ2 : ∀ t, t < 2 ^ c → b = nI t → Q (some (.int (if nsB (mB w) (w 58 1) t = true then mHt (mB w) t else -3))) w) : Ct mX12_height 8 [.ref 57, .int b] w Q := by
  refine Ct.of (by decide) (Nat.le_of_ble_eq_true rfl) (fun _ => Nat.le_of_ble_eq_true rfl) (fun G hR => ?_)
  have hE := hR.1
  refine zr_aload_n hE eX12_height_0 rfl ?_
  refine zr_iload_n hE eX12_height_1 rfl ?_
  refine zr_callV1 hE eX12_height_2 lX12_168 zs57 rfl rfl (by decide) (Nat.le_of_ble_eq_true rfl) (c_X12_areBowls ?_)
  refine zr_bne hE eX12_height_5 (tgt := 12) (by decide) (fun zc5 => ?_) (fun zc5 => ?_)
  · obtain ⟨t, ht, rfl⟩ := (areM hM.1).mp (by have q := zc5; rw [hM.2.1] at q; exact q)
    have ht9 := lt29 hM.1 ht
    refine zr_aload_n hE eX12_height_12 rfl ?_
    refine zr_iload_n hE eX12_height_13 rfl ?_
    refine zr_callV1 hE eX12_height_14 lX12_171 zs57 rfl rfl (by decide) (Nat.le_of_ble_eq_true rfl) (c_X12_isNest (by omega) (hM.ks ht) ?_)
    refine zr_beq hE eX12_height_17 (tgt := 28) (by decide) (fun zc17 => ?_) (fun zc17 => ?_)
    · refine zr_bipush hE eX12_height_28 (v := -3) (by decide) ?_
      refine hR.2.1 _ _ _ _ _ _ eX12_height_30 rfl rfl ?_
      have q := hQ2 t ht rfl
      rw [if_neg (by rw [zc17]; decide)] at q
      exact q
    · refine zr_aload_n hE eX12_height_20 rfl ?_
      refine zr_iload_n hE eX12_height_21 rfl ?_
      refine zr_callV1 hE eX12_height_22 lX12_174 zs57 rfl rfl (by decide) (Nat.le_of_ble_eq_true rfl) (c_X12_heightOf (by omega) (ns_ne zc17) (hM.ks ht) ?_)
      refine zr_goto hE eX12_height_25 (tgt := 30) (by decide) ?_
      refine hR.2.1 _ _ _ _ _ _ eX12_height_30 rfl rfl ?_
      have q := hQ2 t ht rfl
      rw [if_pos zc17] at q
      exact q
  · refine zr_iconst hE eX12_height_8 (v := -1) (by decide) ?_
    refine zr_goto hE eX12_height_9 (tgt := 30) (by decide) ?_
    refine hR.2.1 _ _ _ _ _ _ eX12_height_30 rfl rfl ?_
    refine hQ1 (fun q => ?_)
    have q2 := (areM hM.1).mpr q
    rw [← hM.2.1, zc5] at q2
    cases q2

def loS (B : zBv) (v : Int32) (t best s : Nat) : Nat := if nDif s t ≠ 0 ∨ pop s 10 < pop best 10 ∨ nsB B v s = false then best else if pop best 10 < pop s 10 ∨ mHt B s < mHt B best then s else best
def loM (B : zBv) (v : Int32) (t : Nat) : Nat → Nat
  | 0 => 0
  | n + 1 => loS B v t (loM B v t n) (n + 1)
theorem nDif_0 {s t : Nat} (hs : s < 512) (h : nDif s t = 0) {b : Nat} (hb : s.testBit b = true) : t.testBit b = true := by
  have q := tb_dif (a := s) (b := t) (i := b) (by omega)
  rw [h, hb, Nat.zero_testBit] at q
  simpa using q.symm
theorem loM_ok {B : zBv} {v : Int32} {t : Nat} : ∀ n, n < 512 → loM B v t n ≤ n ∧ ∀ b, (loM B v t n).testBit b = true → t.testBit b = true
  | 0, _ => ⟨Nat.le_refl _, fun b h => by rw [loM, Nat.zero_testBit] at h; cases h⟩
  | n + 1, hn => by
    have ih := loM_ok (B := B) (v := v) (t := t) n (by omega)
    rw [loM]
    unfold loS
    by_cases q : nDif (n + 1) t ≠ 0 ∨ pop (n + 1) 10 < pop (loM B v t n) 10 ∨ nsB B v (n + 1) = false
    · rw [if_pos q]; exact ⟨by omega, ih.2⟩
    · rw [if_neg q]
      split
      · exact ⟨Nat.le_refl _, fun b hb => nDif_0 hn (Decidable.not_not.mp (fun x => q (Or.inl x))) hb⟩
      · exact ⟨by omega, ih.2⟩
theorem pop_pos : ∀ s, s < 1024 → s ≠ 0 → 0 < pop s 10 := by decide +kernel
set_option maxHeartbeats 4000000 in
theorem lo_lp {G : zG} {w : ww} {Q : Option Value → ww → Prop} {t : Nat} (ht : t < 512) (hk : Mks w t) (hR : zR RX12 cX12_longestOf 4 8 (some .int) Q G) (hQ : Q (some (.int (nI (loM (mB w) (w 58 1) t t)))) w) :
    ∀ (k n : Nat), n ≤ t → t - n = k → G 4 [some (.ref 57), some (.int (nI t)), some (.int (nI (loM (mB w) (w 58 1) t n))), some (.int (nI (n + 1)))] [] w := by
  have hE := hR.1
  intro k
  induction k with
  | zero =>
    intro n h1 h2
    refine zr_iload_n hE eX12_longestOf_4 rfl ?_
    refine zr_iload_n hE eX12_longestOf_5 rfl ?_
    refine zr_kicmp_gt hE eX12_longestOf_6 (tgt := 71) (by decide) (fun zc6 zd6 => ?_) (fun zc6 zd6 => absurd zc6 (by rw [nI_leI (by omega) (by omega)]; omega))
    refine zr_iload_n hE eX12_longestOf_71 rfl ?_
    refine hR.2.1 _ _ _ _ _ _ eX12_longestOf_72 rfl rfl ?_
    have hn : n = t := by omega
    subst hn
    exact hQ
  | succ k ih0 =>
    intro n h1 h2
    have ih : ∀ n2, n2 ≤ t → t - n2 = k → G 4 [some (.ref 57), some (.int (nI t)), some (.int (nI (loM (mB w) (w 58 1) t n2))), some (.int (nI (n2 + 1)))] [] w := ih0
    have xlo := loM_ok (B := mB w) (v := w 58 1) (t := t) n (by omega)
    have xp1 := pop_le (n + 1) 10
    have xp2 := pop_le (loM (mB w) (w 58 1) t n) 10
    have xk2 : Mks w (loM (mB w) (w 58 1) t n) := hk.sub xlo.2
    refine zr_iload_n hE eX12_longestOf_4 rfl ?_
    refine zr_iload_n hE eX12_longestOf_5 rfl ?_
    refine zr_kicmp_gt hE eX12_longestOf_6 (tgt := 71) (by decide) (fun zc6 zd6 => absurd ((nI_leI (by omega) (by omega)).mpr (show n + 1 ≤ t by omega)) zc6) (fun zc6 zd6 => ?_)
    refine zr_iload_n hE eX12_longestOf_9 rfl ?_
    refine zr_iload_n hE eX12_longestOf_10 rfl ?_
    refine zr_iconst hE eX12_longestOf_11 (v := -1) (by decide) ?_
    refine zr_ixor hE eX12_longestOf_12 ?_
    refine zr_iand hE eX12_longestOf_13 ?_
    show G _ _ (.int (nI (n + 1) &&& (nI t ^^^ (-1))) :: _) _
    rw [nb_dif]
    refine zr_if_ne hE eX12_longestOf_14 (tgt := 65) (by decide) (fun zc14 => ?_) (fun zc14 => ?_)
    · refine zr_iincN hE eX12_longestOf_65 rfl (by decide) rfl ?_
      refine zr_goto hE eX12_longestOf_68 (tgt := 4) (by decide) ?_
      refine zr_mask hE [true, true, true, true] ?_
      have e : loM (mB w) (w 58 1) t (n + 1) = loM (mB w) (w 58 1) t n := by
        rw [loM, loS]
        rw [if_pos (Or.inl (fun q => zc14 (by rw [q]; rfl)))]
      have y := ih (n + 1) (by omega) (by omega)
      rw [e] at y
      exact y
    · have x14 : nDif (n + 1) t = 0 := (nI_0i (by have := nDif_le (n + 1) t; omega)).mp zc14
      have xk1 : Mks w (n + 1) := hk.sub (fun b => nDif_0 (by omega) x14)
      refine zr_iload_n hE eX12_longestOf_17 rfl ?_
      refine zr_callS1 hE eX12_longestOf_18 lX12_177 (by decide) (Nat.le_of_ble_eq_true rfl) (c_X12_bits (by omega) ?_)
      refine zr_iload_n hE eX12_longestOf_21 rfl ?_
      refine zr_callS1 hE eX12_longestOf_22 lX12_177 (by decide) (Nat.le_of_ble_eq_true rfl) (c_X12_bits (by omega) ?_)
      refine zr_kicmp_lt hE eX12_longestOf_25 (tgt := 65) (by decide) (fun zc25 zd25 => ?_) (fun zc25 zd25 => ?_)
      · refine zr_iincN hE eX12_longestOf_65 rfl (by decide) rfl ?_
        refine zr_goto hE eX12_longestOf_68 (tgt := 4) (by decide) ?_
        refine zr_mask hE [true, true, true, true] ?_
        have e : loM (mB w) (w 58 1) t (n + 1) = loM (mB w) (w 58 1) t n := by
          rw [loM, loS]
          rw [if_pos (Or.inr (Or.inl ((nI_ltI (by omega) (by omega)).mp zd25)))]
        have y := ih (n + 1) (by omega) (by omega)
        rw [e] at y
        exact y
      · have x25 : ¬ pop (n + 1) 10 < pop (loM (mB w) (w 58 1) t n) 10 := fun q => zd25 ((nI_ltI (by omega) (by omega)).mpr q)
        refine zr_aload_n hE eX12_longestOf_28 rfl ?_
        refine zr_iload_n hE eX12_longestOf_29 rfl ?_
        refine zr_callV1 hE eX12_longestOf_30 lX12_171 zs57 rfl rfl (by decide) (Nat.le_of_ble_eq_true rfl) (c_X12_isNest (by omega) xk1 ?_)
        refine zr_bne hE eX12_longestOf_33 (tgt := 39) (by decide) (fun zc33 => ?_) (fun zc33 => ?_)
        · refine zr_iload_n hE eX12_longestOf_39 rfl ?_
          refine zr_callS1 hE eX12_longestOf_40 lX12_177 (by decide) (Nat.le_of_ble_eq_true rfl) (c_X12_bits (by omega) ?_)
          refine zr_iload_n hE eX12_longestOf_43 rfl ?_
          refine zr_callS1 hE eX12_longestOf_44 lX12_177 (by decide) (Nat.le_of_ble_eq_true rfl) (c_X12_bits (by omega) ?_)
          refine zr_kicmp_gt hE eX12_longestOf_47 (tgt := 63) (by decide) (fun zc47 zd47 => ?_) (fun zc47 zd47 => ?_)
          · refine zr_iload_n hE eX12_longestOf_63 rfl ?_
            refine zr_istore_n hE eX12_longestOf_64 (by decide) rfl ?_
            refine zr_iincN hE eX12_longestOf_65 rfl (by decide) rfl ?_
            refine zr_goto hE eX12_longestOf_68 (tgt := 4) (by decide) ?_
            refine zr_mask hE [true, true, true, true] ?_
            have e : loM (mB w) (w 58 1) t (n + 1) = n + 1 := by
              rw [loM, loS]
              rw [if_neg (fun q => q.elim (fun q => q x14) (fun q => q.elim x25 (fun q => by rw [zc33] at q; cases q))), if_pos (Or.inl ((nI_ltI (by omega) (by omega)).mp zd47))]
            have y := ih (n + 1) (by omega) (by omega)
            rw [e] at y
            exact y
          · have x47 : ¬ pop (loM (mB w) (w 58 1) t n) 10 < pop (n + 1) 10 := fun q => zd47 ((nI_ltI (by omega) (by omega)).mpr q)
            have xne : loM (mB w) (w 58 1) t n ≠ 0 := fun q => by
              have y := pop_pos (n + 1) (by omega) (by omega)
              rw [q] at x25 x47
              have z0 : pop 0 10 = 0 := by decide
              omega
            refine zr_aload_n hE eX12_longestOf_50 rfl ?_
            refine zr_iload_n hE eX12_longestOf_51 rfl ?_
            refine zr_callV1 hE eX12_longestOf_52 lX12_174 zs57 rfl rfl (by decide) (Nat.le_of_ble_eq_true rfl) (c_X12_heightOf (by omega) (by omega) xk1 ?_)
            refine zr_aload_n hE eX12_longestOf_55 rfl ?_
            refine zr_iload_n hE eX12_longestOf_56 rfl ?_
            refine zr_callV1 hE eX12_longestOf_57 lX12_174 zs57 rfl rfl (by decide) (Nat.le_of_ble_eq_true rfl) (c_X12_heightOf (by omega) xne xk2 ?_)
            refine zr_kicmp_ge hE eX12_longestOf_60 (tgt := 65) (by decide) (fun zc60 zd60 => ?_) (fun zc60 zd60 => ?_)
            · refine zr_iincN hE eX12_longestOf_65 rfl (by decide) rfl ?_
              refine zr_goto hE eX12_longestOf_68 (tgt := 4) (by decide) ?_
              refine zr_mask hE [true, true, true, true] ?_
              have e : loM (mB w) (w 58 1) t (n + 1) = loM (mB w) (w 58 1) t n := by
                rw [loM, loS]
                rw [if_neg (fun q => q.elim (fun q => q x14) (fun q => q.elim x25 (fun q => by rw [zc33] at q; cases q))), if_neg (fun q => q.elim x47 zc60)]
              have y := ih (n + 1) (by omega) (by omega)
              rw [e] at y
              exact y
            · refine zr_iload_n hE eX12_longestOf_63 rfl ?_
              refine zr_istore_n hE eX12_longestOf_64 (by decide) rfl ?_
              refine zr_iincN hE eX12_longestOf_65 rfl (by decide) rfl ?_
              refine zr_goto hE eX12_longestOf_68 (tgt := 4) (by decide) ?_
              refine zr_mask hE [true, true, true, true] ?_
              have e : loM (mB w) (w 58 1) t (n + 1) = n + 1 := by
                rw [loM, loS]
                rw [if_neg (fun q => q.elim (fun q => q x14) (fun q => q.elim x25 (fun q => by rw [zc33] at q; cases q))), if_pos (Or.inr zc60)]
              have y := ih (n + 1) (by omega) (by omega)
              rw [e] at y
              exact y
        · refine zr_goto hE eX12_longestOf_36 (tgt := 65) (by decide) ?_
          refine zr_iincN hE eX12_longestOf_65 rfl (by decide) rfl ?_
          refine zr_goto hE eX12_longestOf_68 (tgt := 4) (by decide) ?_
          refine zr_mask hE [true, true, true, true] ?_
          have e : loM (mB w) (w 58 1) t (n + 1) = loM (mB w) (w 58 1) t n := by
            rw [loM, loS]
            rw [if_pos (Or.inr (Or.inr zc33))]
          have y := ih (n + 1) (by omega) (by omega)
          rw [e] at y
          exact y
set_option maxHeartbeats 4000000 in
theorem c_X12_longestOf {t : Nat} {w : ww} {Q : Option Value → ww → Prop} (ht : t < 512) (hk : Mks w t) (hQ : Q (some (.int (nI (loM (mB w) (w 58 1) t t)))) w) : Ct mX12_longestOf 8 [.ref 57, .int (nI t)] w Q := by
  refine Ct.of (by decide) (Nat.le_of_ble_eq_true rfl) (fun _ => Nat.le_of_ble_eq_true rfl) (fun G hR => ?_)
  have hE := hR.1
  refine zr_iconst hE eX12_longestOf_0 (v := 0) (by decide) ?_
  refine zr_istore_n hE eX12_longestOf_1 (by decide) rfl ?_
  refine zr_iconst hE eX12_longestOf_2 (v := 1) (by decide) ?_
  refine zr_istore_n hE eX12_longestOf_3 (by decide) rfl ?_
  exact lo_lp ht hk hR hQ t 0 (Nat.zero_le _) rfl

set_option maxHeartbeats 4000000 in
theorem c_X12_longest {c : Nat} {b k : Int32} {w : ww} {Q : Option Value → ww → Prop} (hM : Mow w c) (hQ1 : ¬ ((∃ t, t < 2 ^ c ∧ b = nI t) ∧ fIs k 0 1 = true) → Q (some (.int (-1))) w) (hQ2 : ∀ t, t < 2 ^ c → b = nI t → fIs k 0 1 = true → Q (some (.int (if k = 0 then nI (loM (mB w) (w 58 1) t t) else nI (pop (loM (mB w) (w 58 1) t t) 10)))) w) : Ct mX12_longest 9 [.ref 57, .int b, .int k] w Q := by
  refine Ct.of (by decide) (Nat.le_of_ble_eq_true rfl) (fun _ => Nat.le_of_ble_eq_true rfl) (fun G hR => ?_)
  have hE := hR.1
  refine zr_aload_n hE eX12_longest_0 rfl ?_
  refine zr_iload_n hE eX12_longest_1 rfl ?_
  refine zr_callV1 hE eX12_longest_2 lX12_168 zs57 rfl rfl (by decide) (Nat.le_of_ble_eq_true rfl) (c_X12_areBowls ?_)
  refine zr_beq hE eX12_longest_5 (tgt := 18) (by decide) (fun zc5 => ?_) (fun zc5 => ?_)
  · refine zr_iconst hE eX12_longest_18 (v := -1) (by decide) ?_
    refine hR.2.1 _ _ _ _ _ _ eX12_longest_19 rfl rfl ?_
    refine hQ1 (fun q => ?_)
    have q2 := (areM hM.1).mpr q.1
    rw [← hM.2.1, zc5] at q2
    cases q2
  · refine zr_iload_n hE eX12_longest_8 rfl ?_
    refine zr_i2l hE eX12_longest_9 ?_
    refine zr_lconst hE eX12_longest_10 (v := 0) (by decide) ?_
    refine zr_lconst hE eX12_longest_11 (v := 1) (by decide) ?_
    refine zr_callS3 hE eX12_longest_12 lX12_55 (by decide) (Nat.le_of_ble_eq_true rfl) (c_X12_isIn32 0 1 (by decide) (by decide) ?_)
    refine zr_bne hE eX12_longest_15 (tgt := 20) (by decide) (fun zc15 => ?_) (fun zc15 => ?_)
    · obtain ⟨t, ht, rfl⟩ := (areM hM.1).mp (by have q := zc5; rw [hM.2.1] at q; exact q)
      have ht9 := lt29 hM.1 ht
      refine zr_aload_n hE eX12_longest_20 rfl ?_
      refine zr_iload_n hE eX12_longest_21 rfl ?_
      refine zr_callV1 hE eX12_longest_22 lX12_180 zs57 rfl rfl (by decide) (Nat.le_of_ble_eq_true rfl) (c_X12_longestOf ht9 (hM.ks ht) ?_)
      refine zr_istore_n hE eX12_longest_25 (by decide) rfl ?_
      refine zr_iload_n hE eX12_longest_26 rfl ?_
      refine zr_if_ne hE eX12_longest_27 (tgt := 34) (by decide) (fun zc27 => ?_) (fun zc27 => ?_)
      · refine zr_iload_n hE eX12_longest_34 rfl ?_
        refine zr_callS1 hE eX12_longest_35 lX12_177 (by decide) (Nat.le_of_ble_eq_true rfl) (c_X12_bits (by have := (loM_ok (B := mB w) (v := w 58 1) (t := t) t ht9).1; omega) ?_)
        refine hR.2.1 _ _ _ _ _ _ eX12_longest_38 rfl rfl ?_
        have q := hQ2 t ht rfl zc15
        rw [if_neg zc27] at q
        exact q
      · refine zr_iload_n hE eX12_longest_30 rfl ?_
        refine zr_goto hE eX12_longest_31 (tgt := 38) (by decide) ?_
        refine hR.2.1 _ _ _ _ _ _ eX12_longest_38 rfl rfl ?_
        have q := hQ2 t ht rfl zc15
        rw [if_pos zc27] at q
        exact q
    · refine zr_iconst hE eX12_longest_18 (v := -1) (by decide) ?_
      refine hR.2.1 _ _ _ _ _ _ eX12_longest_19 rfl rfl ?_
      exact hQ1 (fun q => by rw [zc15] at q; cases q.2)

def ctF (B : zBv) (v how hi : Int32) (s : Nat) : Int32 := if nsB B v s = true then (if how = 1 then mHt B s else if how = 2 ∧ hi < mHt B s then 1000000 else 1) else 1000000
set_option maxHeartbeats 4000000 in
theorem c_X12_counted {s : Nat} {how hi : Int32} {w : ww} {Q : Option Value → ww → Prop} (hs : s < 512) (hk : Mks w s) (hQ : Q (some (.int (ctF (mB w) (w 58 1) how hi s))) w) : Ct mX12_counted 8 [.ref 57, .int (nI s), .int how, .int hi] w Q := by
  refine Ct.of (by decide) (Nat.le_of_ble_eq_true rfl) (fun _ => Nat.le_of_ble_eq_true rfl) (fun G hR => ?_)
  have hE := hR.1
  refine zr_aload_n hE eX12_counted_0 rfl ?_
  refine zr_iload_n hE eX12_counted_1 rfl ?_
  refine zr_callV1 hE eX12_counted_2 lX12_171 zs57 rfl rfl (by decide) (Nat.le_of_ble_eq_true rfl) (c_X12_isNest (by omega) hk ?_)
  refine zr_bne hE eX12_counted_5 (tgt := 11) (by decide) (fun zc5 => ?_) (fun zc5 => ?_)
  · refine zr_aload_n hE eX12_counted_11 rfl ?_
    refine zr_iload_n hE eX12_counted_12 rfl ?_
    refine zr_callV1 hE eX12_counted_13 lX12_174 zs57 rfl rfl (by decide) (Nat.le_of_ble_eq_true rfl) (c_X12_heightOf (by omega) (ns_ne zc5) hk ?_)
    refine zr_istore hE eX12_counted_16 (by decide) rfl ?_
    refine zr_iload_n hE eX12_counted_18 rfl ?_
    refine zr_iconst hE eX12_counted_19 (v := 1) (by decide) ?_
    refine zr_icmp_ne hE eX12_counted_20 (tgt := 28) (by decide) (fun zc20 => ?_) (fun zc20 => ?_)
    · refine zr_iload_n hE eX12_counted_28 rfl ?_
      refine zr_iconst hE eX12_counted_29 (v := 2) (by decide) ?_
      refine zr_icmp_ne hE eX12_counted_30 (tgt := 44) (by decide) (fun zc30 => ?_) (fun zc30 => ?_)
      · refine zr_iconst hE eX12_counted_44 (v := 1) (by decide) ?_
        refine hR.2.1 _ _ _ _ _ _ eX12_counted_45 rfl rfl ?_
        unfold ctF at hQ
        rw [if_pos zc5, if_neg zc20, if_neg (fun q => zc30 q.1)] at hQ
        exact hQ
      · refine zr_iload hE eX12_counted_33 rfl ?_
        refine zr_iload_n hE eX12_counted_35 rfl ?_
        refine zr_kicmp_le hE eX12_counted_36 (tgt := 44) (by decide) (fun zc36 zd36 => ?_) (fun zc36 zd36 => ?_)
        · refine zr_iconst hE eX12_counted_44 (v := 1) (by decide) ?_
          refine hR.2.1 _ _ _ _ _ _ eX12_counted_45 rfl rfl ?_
          unfold ctF at hQ
          rw [if_pos zc5, if_neg zc20, if_neg (fun q => zc36 q.2)] at hQ
          exact hQ
        · refine zr_ldc hE eX12_counted_39 hX12_183 ?_
          refine zr_goto hE eX12_counted_41 (tgt := 45) (by decide) ?_
          refine hR.2.1 _ _ _ _ _ _ eX12_counted_45 rfl rfl ?_
          unfold ctF at hQ
          rw [if_pos zc5, if_neg zc20, if_pos ⟨zc30, zc36⟩] at hQ
          exact hQ
    · refine zr_iload hE eX12_counted_23 rfl ?_
      refine zr_goto hE eX12_counted_25 (tgt := 45) (by decide) ?_
      refine hR.2.1 _ _ _ _ _ _ eX12_counted_45 rfl rfl ?_
      unfold ctF at hQ
      rw [if_pos zc5, if_pos zc20] at hQ
      exact hQ
  · refine zr_ldc hE eX12_counted_8 hX12_183 ?_
    refine hR.2.1 _ _ _ _ _ _ eX12_counted_10 rfl rfl ?_
    unfold ctF at hQ
    rw [if_neg (by rw [zc5]; decide)] at hQ
    exact hQ

