/-! The reference: leastOf, fewest, carry, load. -/
/-- what of the reference changes with no answer's being asked -/
def Mcr (p : Nat) : Prop := p = 68 ∨ p = 69 ∨ p = 70
def MC (w u : ww) : Prop := ∀ p, ¬ Mcr p → u p = w p
theorem xor_lwb : ∀ s, s < 512 → s ≠ 0 → s ^^^ lwb s < s := by decide +kernel
set_option maxHeartbeats 4000000 in
theorem ml_out {G : zG} {w : ww} {Q : Option Value → ww → Prop} {how hi : Int32} {c : Nat} {C : Nat → Int32} (hR : zR RX12 cX12_leastOf 7 9 (some .int) Q G) (hc : c ≤ 9) (h58 : w 58 0 = nI c) (hQ : ∀ u : ww, (∀ q, q ≠ 68 → q ≠ 69 → u q = w q) → Q (some (.int (lsT C (2 ^ c - 1) (2 ^ c - 1)))) u) :
    ∀ (k n : Nat) (u : ww), n ≤ 2 ^ c - 1 → 2 ^ c - 1 - n = k → (∀ q, q ≠ 68 → q ≠ 69 → u q = w q) → (∀ t, 0 < t → t ≤ 2 ^ c - 1 → u 69 t = C t) → (∀ t, t ≤ n → u 68 t = lsT C n t) → G 38 [some (.ref 57), some (.int how), some (.int hi), some (.int (nI (n + 1))), none, none, none] [] u := by
  have hE := hR.1
  have hM : 2 ^ c ≤ 2 ^ 9 := Nat.pow_le_pow_right (by decide) hc
  have hM0 : 0 < 2 ^ c := Nat.pow_pos (by decide)
  intro k
  induction k with
  | zero =>
    intro n u h1 h2 hf hC hL
    have x58 : u 58 0 = nI c := by rw [hf 58 (by decide) (by decide)]; exact h58
    refine zr_iload_n hE eX12_leastOf_38 rfl ?_
    refine zr_aload_n hE eX12_leastOf_39 rfl ?_
    refine zr_callV0 hE eX12_leastOf_40 lX12_59 zs57 rfl rfl (by decide) (Nat.le_of_ble_eq_true rfl) (c_X12_everything ?_)
    rw [x58, nb_all c (by omega)]
    refine zr_kicmp_gt hE eX12_leastOf_43 (tgt := 145) (by decide) (fun zc43 zd43 => ?_) (fun zc43 zd43 => absurd zc43 (by rw [nI_leI (by omega) (by omega)]; omega))
    refine zr_aload_n hE eX12_leastOf_145 rfl ?_
    refine zr_getR hE eX12_leastOf_146 fX12_40 zs57 rfl ?_
    refine zr_aload_n hE eX12_leastOf_149 rfl ?_
    refine zr_callV0 hE eX12_leastOf_150 lX12_59 zs57 rfl rfl (by decide) (Nat.le_of_ble_eq_true rfl) (c_X12_everything ?_)
    rw [x58, nb_all c (by omega)]
    refine zr_iald hE eX12_leastOf_153 zs68 (vpn (show 2 ^ c - 1 < 512 by omega) (by decide)) ?_
    refine hR.2.1 _ _ _ _ _ _ eX12_leastOf_154 rfl rfl ?_
    rw [nI_clamp (by omega), hL (2 ^ c - 1) (by omega)]
    have hn : n = 2 ^ c - 1 := by omega
    subst hn
    exact hQ u hf
  | succ k ih0 =>
    intro n u h1 h2 hf hC hL
    have ih : ∀ (n2 : Nat) (u : ww), n2 ≤ 2 ^ c - 1 → 2 ^ c - 1 - n2 = k → (∀ q, q ≠ 68 → q ≠ 69 → u q = w q) → (∀ t, 0 < t → t ≤ 2 ^ c - 1 → u 69 t = C t) → (∀ t, t ≤ n2 → u 68 t = lsT C n2 t) → G 38 [some (.ref 57), some (.int how), some (.int hi), some (.int (nI (n2 + 1))), none, none, none] [] u := ih0
    have x58 : u 58 0 = nI c := by rw [hf 58 (by decide) (by decide)]; exact h58
    refine zr_iload_n hE eX12_leastOf_38 rfl ?_
    refine zr_aload_n hE eX12_leastOf_39 rfl ?_
    refine zr_callV0 hE eX12_leastOf_40 lX12_59 zs57 rfl rfl (by decide) (Nat.le_of_ble_eq_true rfl) (c_X12_everything ?_)
    rw [x58, nb_all c (by omega)]
    refine zr_kicmp_gt hE eX12_leastOf_43 (tgt := 145) (by decide) (fun zc43 zd43 => absurd ((nI_leI (by omega) (by omega)).mpr (show n + 1 ≤ 2 ^ c - 1 by omega)) zc43) (fun zc43 zd43 => ?_)
    refine zr_iload_n hE eX12_leastOf_46 rfl ?_
    refine zr_iload_n hE eX12_leastOf_47 rfl ?_
    refine zr_ineg hE eX12_leastOf_48 ?_
    refine zr_iand hE eX12_leastOf_49 ?_
    rw [(lowN_ok (n + 1) (by omega) (by omega)).1, lowN_lwb (n + 1) (by omega) (by omega)]
    refine zr_istore hE eX12_leastOf_50 (by decide) rfl ?_
    refine zr_aload_n hE eX12_leastOf_52 rfl ?_
    refine zr_getR hE eX12_leastOf_53 fX12_40 zs57 rfl ?_
    refine zr_iload_n hE eX12_leastOf_56 rfl ?_
    refine zr_ldc hE eX12_leastOf_57 hX12_183 ?_
    refine zr_iast hE eX12_leastOf_59 zs68 (vpn (show n + 1 < 512 by omega) (by decide)) ?_
    refine zr_iload_n hE eX12_leastOf_60 rfl ?_
    refine zr_istore hE eX12_leastOf_61 (by decide) rfl ?_
    have e := (lowN_or (n + 1) (by omega) (by omega)).1
    have el := lowN_lwb (n + 1) (by omega) (by omega)
    rw [el] at e
    have e9 := (lowN_ok (n + 1) (by omega) (by omega)).2.1
    rw [el] at e9
    have eS : lsT C (n + 1) (n + 1) = bstF C (lsT C n) (lwb (n + 1)) ((n + 1) ^^^ lwb (n + 1)) (subL ((n + 1) ^^^ lwb (n + 1)) 1024 ((n + 1) ^^^ lwb (n + 1))) 1000000 := by
      rw [lsT, if_pos rfl, el]
    have ez : (nI (n + 1)).toNatClampNeg = n + 1 := nI_clamp (by omega)
    have y := ml_in (w := w) (s := n + 1) (lb := lwb (n + 1)) (how := how) (hi := hi) (u0 := wu u 68 (n + 1) 1000000) (C := C) (Lf := lsT C n) hR (by omega) (by omega) rfl e9 (fun p h1 h2 => by rw [wu_ne (by decide)]; exact hC p h1 (by omega)) (fun t ht => by rw [wu_nj (by omega)]; exact hL t (by omega)) (fun u3 hf3 ho3 hb3 => ?_) 1024 ((n + 1) ^^^ lwb (n + 1)) 1000000 (wu u 68 (n + 1) 1000000) (by have := xor_lwb (n + 1) (by omega) (by omega); omega) (fun x hx => hx) (fun _ _ => rfl) (fun _ _ => rfl) wu_eq rfl
    · rw [e] at y
      rw [ez]
      exact y
    · rw [← eS] at hb3
      refine zr_iincN hE eX12_leastOf_139 rfl (by decide) rfl ?_
      refine zr_goto hE eX12_leastOf_142 (tgt := 38) (by decide) ?_
      refine zr_mask hE [true, true, true, true, false, false, false] ?_
      refine ih (n + 1) u3 (by omega) (by omega) (fun q h1 h2 => ?_) (fun t h1 h2 => ?_) (fun t ht => ?_)
      · rw [hf3 q h1, ← hf q h1 h2]; funext z; exact wu_ne h1
      · rw [hf3 69 (by decide), wu_ne (by decide)]; exact hC t h1 h2
      · by_cases q : t = n + 1
        · rw [q]; exact hb3
        · rw [ho3 t q, wu_nj q, lsT, if_neg q]; exact hL t (by omega)
set_option maxHeartbeats 4000000 in
theorem mc_lp {G : zG} {w : ww} {Q : Option Value → ww → Prop} {how hi : Int32} {c : Nat} (hR : zR RX12 cX12_leastOf 7 9 (some .int) Q G) (hMo : Mow w c) (hQ : ∀ u : ww, (∀ q, q ≠ 68 → q ≠ 69 → u q = w q) → Q (some (.int (lsT (ctF (mB w) (w 58 1) how hi) (2 ^ c - 1) (2 ^ c - 1)))) u) :
    ∀ (k n : Nat) (u : ww), n ≤ 2 ^ c - 1 → 2 ^ c - 1 - n = k → (∀ q, q ≠ 69 → u q = w q) → (∀ t, 0 < t → t ≤ n → u 69 t = ctF (mB w) (w 58 1) how hi t) → G 2 [some (.ref 57), some (.int how), some (.int hi), some (.int (nI (n + 1))), none, none, none] [] u := by
  have hE := hR.1
  have hc := hMo.1
  have h58 := hMo.2.1
  have hM : 2 ^ c ≤ 2 ^ 9 := Nat.pow_le_pow_right (by decide) hc
  have hM0 : 0 < 2 ^ c := Nat.pow_pos (by decide)
  intro k
  induction k with
  | zero =>
    intro n u h1 h2 hf hC
    have x58 : u 58 0 = nI c := by rw [hf 58 (by decide)]; exact h58
    refine zr_iload_n hE eX12_leastOf_2 rfl ?_
    refine zr_aload_n hE eX12_leastOf_3 rfl ?_
    refine zr_callV0 hE eX12_leastOf_4 lX12_59 zs57 rfl rfl (by decide) (Nat.le_of_ble_eq_true rfl) (c_X12_everything ?_)
    rw [x58, nb_all c (by omega)]
    refine zr_kicmp_gt hE eX12_leastOf_7 (tgt := 29) (by decide) (fun zc7 zd7 => ?_) (fun zc7 zd7 => absurd zc7 (by rw [nI_leI (by omega) (by omega)]; omega))
    refine zr_aload_n hE eX12_leastOf_29 rfl ?_
    refine zr_getR hE eX12_leastOf_30 fX12_40 zs57 rfl ?_
    refine zr_iconst hE eX12_leastOf_33 (v := 0) (by decide) ?_
    refine zr_iconst hE eX12_leastOf_34 (v := 0) (by decide) ?_
    refine zr_iast hE eX12_leastOf_35 zs68 (vpn (show 0 < 512 by decide) (by decide)) ?_
    refine zr_iconst hE eX12_leastOf_36 (v := 1) (by decide) ?_
    refine zr_istore_n hE eX12_leastOf_37 (by decide) rfl ?_
    refine ml_out (c := c) (C := ctF (mB w) (w 58 1) how hi) hR hc h58 hQ (2 ^ c - 1) 0 _ (by omega) (by omega) (fun q h1 h2 => ?_) (fun t h1 h2 => ?_) (fun t ht => ?_)
    · rw [← hf q h2]; funext z; exact wu_ne h1
    · rw [wu_ne (by decide)]; exact hC t h1 (by omega)
    · obtain rfl : t = 0 := by omega
      rw [lsT]; exact wu_eq
  | succ k ih0 =>
    intro n u h1 h2 hf hC
    have ih : ∀ (n2 : Nat) (u : ww), n2 ≤ 2 ^ c - 1 → 2 ^ c - 1 - n2 = k → (∀ q, q ≠ 69 → u q = w q) → (∀ t, 0 < t → t ≤ n2 → u 69 t = ctF (mB w) (w 58 1) how hi t) → G 2 [some (.ref 57), some (.int how), some (.int hi), some (.int (nI (n2 + 1))), none, none, none] [] u := ih0
    have x58 : u 58 0 = nI c := by rw [hf 58 (by decide)]; exact h58
    have hM2 := hMo
    have xks : ∀ {s : Nat}, Mks w s → Mks u s := fun h b hb q => by unfold mB; rw [hf 58 (by decide)]; exact h b hb q
    refine zr_iload_n hE eX12_leastOf_2 rfl ?_
    refine zr_aload_n hE eX12_leastOf_3 rfl ?_
    refine zr_callV0 hE eX12_leastOf_4 lX12_59 zs57 rfl rfl (by decide) (Nat.le_of_ble_eq_true rfl) (c_X12_everything ?_)
    rw [x58, nb_all c (by omega)]
    refine zr_kicmp_gt hE eX12_leastOf_7 (tgt := 29) (by decide) (fun zc7 zd7 => absurd ((nI_leI (by omega) (by omega)).mpr (show n + 1 ≤ 2 ^ c - 1 by omega)) zc7) (fun zc7 zd7 => ?_)
    refine zr_aload_n hE eX12_leastOf_10 rfl ?_
    refine zr_getR hE eX12_leastOf_11 fX12_43 zs57 rfl ?_
    refine zr_iload_n hE eX12_leastOf_14 rfl ?_
    refine zr_aload_n hE eX12_leastOf_15 rfl ?_
    refine zr_iload_n hE eX12_leastOf_16 rfl ?_
    refine zr_iload_n hE eX12_leastOf_17 rfl ?_
    refine zr_iload_n hE eX12_leastOf_18 rfl ?_
    refine zr_callV3 hE eX12_leastOf_19 lX12_184 zs57 rfl rfl (by decide) (Nat.le_of_ble_eq_true rfl) (c_X12_counted (by omega) (xks (hM2.ks (s := n + 1) (by omega))) ?_)
    refine zr_iast hE eX12_leastOf_22 zs69 (vpn (show n + 1 < 512 by omega) (by decide)) ?_
    refine zr_iincN hE eX12_leastOf_23 rfl (by decide) rfl ?_
    refine zr_goto hE eX12_leastOf_26 (tgt := 2) (by decide) ?_
    have ez : (nI (n + 1)).toNatClampNeg = n + 1 := nI_clamp (by omega)
    rw [ez]
    refine ih (n + 1) _ (by omega) (by omega) (fun q hq => ?_) (fun t h1 h2 => ?_)
    · rw [← hf q hq]; funext z; exact wu_ne hq
    · by_cases q : t = n + 1
      · rw [q, wu_eq]; unfold mB; rw [hf 58 (by decide)]
      · rw [wu_nj q]; exact hC t h1 (by omega)
set_option maxHeartbeats 4000000 in
theorem c_X12_leastOf {c : Nat} {how hi : Int32} {w : ww} {Q : Option Value → ww → Prop} (hM : Mow w c) (hQ : ∀ u, MC w u → Q (some (.int (fSum (ctF (mB w) (w 58 1) how hi) c))) u) : Ct mX12_leastOf 9 [.ref 57, .int how, .int hi] w Q := by
  refine Ct.of (by decide) (Nat.le_of_ble_eq_true rfl) (fun _ => Nat.le_of_ble_eq_true rfl) (fun G hR => ?_)
  have hE := hR.1
  refine zr_iconst hE eX12_leastOf_0 (v := 1) (by decide) ?_
  refine zr_istore_n hE eX12_leastOf_1 (by decide) rfl ?_
  exact mc_lp hR hM (fun u hu => hQ u (fun p hp => hu p (fun q => hp (Or.inl q)) (fun q => hp (Or.inr (Or.inl q))))) (2 ^ c - 1) 0 w (Nat.zero_le _) rfl (fun _ _ => rfl) (fun t h1 h2 => absurd h1 (by omega))

set_option maxHeartbeats 4000000 in
theorem c_X12_fewest {c : Nat} {w : ww} {Q : Option Value → ww → Prop} (hM : Mow w c) (hQ : ∀ u, MC w u → Q (some (.int (fSum (ctF (mB w) (w 58 1) 0 0) c))) u) : Ct mX12_fewest 10 [.ref 57] w Q := by
  refine Ct.of (by decide) (Nat.le_of_ble_eq_true rfl) (fun _ => Nat.le_of_ble_eq_true rfl) (fun G hR => ?_)
  have hE := hR.1
  refine zr_aload_n hE eX12_fewest_0 rfl ?_
  refine zr_iconst hE eX12_fewest_1 (v := 0) (by decide) ?_
  refine zr_iconst hE eX12_fewest_2 (v := 0) (by decide) ?_
  refine zr_callV2 hE eX12_fewest_3 lX12_187 zs57 rfl rfl (by decide) (Nat.le_of_ble_eq_true rfl) (c_X12_leastOf hM (fun u hu => ?_))
  refine hR.2.1 _ _ _ _ _ _ eX12_fewest_6 rfl rfl ?_
  exact hQ u hu

set_option maxHeartbeats 4000000 in
theorem c_X12_carry {c : Nat} {w : ww} {Q : Option Value → ww → Prop} (hM : Mow w c) (hQ : ∀ u, MC w u → Q (some (.int (fSum (ctF (mB w) (w 58 1) 1 0) c))) u) : Ct mX12_carry 10 [.ref 57] w Q := by
  refine Ct.of (by decide) (Nat.le_of_ble_eq_true rfl) (fun _ => Nat.le_of_ble_eq_true rfl) (fun G hR => ?_)
  have hE := hR.1
  refine zr_aload_n hE eX12_carry_0 rfl ?_
  refine zr_iconst hE eX12_carry_1 (v := 1) (by decide) ?_
  refine zr_iconst hE eX12_carry_2 (v := 0) (by decide) ?_
  refine zr_callV2 hE eX12_carry_3 lX12_187 zs57 rfl rfl (by decide) (Nat.le_of_ble_eq_true rfl) (c_X12_leastOf hM (fun u hu => ?_))
  refine hR.2.1 _ _ _ _ _ _ eX12_carry_6 rfl rfl ?_
  exact hQ u hu

set_option maxHeartbeats 4000000 in
theorem c_X12_load {c : Nat} {m : Int32} {w : ww} {Q : Option Value → ww → Prop} (hM : Mow w c) (hQ1 : fIs m 1 99 = false → Q (some (.int (-1))) w) (hQ2 : fIs m 1 99 = true → ∀ u, MC w u → Q (some (.int (if fSum (ctF (mB w) (w 58 1) 2 m) c < 1000000 then fSum (ctF (mB w) (w 58 1) 2 m) c else -4))) u) : Ct mX12_load 10 [.ref 57, .int m] w Q := by
  refine Ct.of (by decide) (Nat.le_of_ble_eq_true rfl) (fun _ => Nat.le_of_ble_eq_true rfl) (fun G hR => ?_)
  have hE := hR.1
  refine zr_iload_n hE eX12_load_0 rfl ?_
  refine zr_i2l hE eX12_load_1 ?_
  refine zr_lconst hE eX12_load_2 (v := 1) (by decide) ?_
  refine zr_ldc2 hE eX12_load_3 hX12_151 ?_
  refine zr_callS3 hE eX12_load_6 lX12_55 (by decide) (Nat.le_of_ble_eq_true rfl) (c_X12_isIn32 1 99 (by decide) (by decide) ?_)
  refine zr_bne hE eX12_load_9 (tgt := 14) (by decide) (fun zc9 => ?_) (fun zc9 => ?_)
  · refine zr_aload_n hE eX12_load_14 rfl ?_
    refine zr_iconst hE eX12_load_15 (v := 2) (by decide) ?_
    refine zr_iload_n hE eX12_load_16 rfl ?_
    refine zr_callV2 hE eX12_load_17 lX12_187 zs57 rfl rfl (by decide) (Nat.le_of_ble_eq_true rfl) (c_X12_leastOf hM (fun u hu => ?_))
    refine zr_istore_n hE eX12_load_20 (by decide) rfl ?_
    refine zr_iload_n hE eX12_load_21 rfl ?_
    refine zr_ldc hE eX12_load_22 hX12_183 ?_
    refine zr_kicmp_lt hE eX12_load_24 (tgt := 32) (by decide) (fun zc24 zd24 => ?_) (fun zc24 zd24 => ?_)
    · refine zr_iload_n hE eX12_load_32 rfl ?_
      refine hR.2.1 _ _ _ _ _ _ eX12_load_33 rfl rfl ?_
      have q := hQ2 zc9 u hu
      rw [if_pos zd24] at q
      exact q
    · refine zr_bipush hE eX12_load_27 (v := -4) (by decide) ?_
      refine zr_goto hE eX12_load_29 (tgt := 33) (by decide) ?_
      refine hR.2.1 _ _ _ _ _ _ eX12_load_33 rfl rfl ?_
      have q := hQ2 zc9 u hu
      rw [if_neg zd24] at q
      exact q
  · refine zr_iconst hE eX12_load_12 (v := -1) (by decide) ?_
    refine hR.2.1 _ _ _ _ _ _ eX12_load_13 rfl rfl ?_
    exact hQ1 zc9

