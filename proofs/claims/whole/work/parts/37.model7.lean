/-! The reference: areApart, apart. -/
def apO (lz : Nat → Nat → Bool) (s a b : Nat) : Prop := a ≠ b → s.testBit a = true → s.testBit b = true → lz a b = false
def apM (lz : Nat → Nat → Bool) (s c : Nat) : Bool := decide (∀ a, a < c → ∀ b, b < c → a ≠ b → s.testBit a = true → s.testBit b = true → lz a b = false)
theorem apM_t {lz : Nat → Nat → Bool} {s c : Nat} (h : ∀ a, a < c → ∀ b, b < c → apO lz s a b) : apM lz s c = true := by
  unfold apM; exact decide_eq_true h
theorem apM_f {lz : Nat → Nat → Bool} {s c a b : Nat} (h1 : a < c) (h2 : b < c) (h3 : a ≠ b) (h4 : s.testBit a = true) (h5 : s.testBit b = true) (h6 : lz a b = true) : apM lz s c = false := by
  unfold apM
  exact decide_eq_false (fun h => by have q := h a h1 b h2 h3 h4 h5; rw [h6] at q; cases q)
set_option maxHeartbeats 4000000 in
theorem aa_in {G : zG} {w : ww} {Q : Option Value → ww → Prop} {s a c : Nat} (hs : s < 512) (ha : a < c) (hM : Mow w c) (hR : zR RX12 cX12_areApart 4 7 (some .boolean) Q G)
    (hQ2 : ∀ a b, a < c → b < c → a ≠ b → s.testBit a = true → s.testBit b = true → fLi (mB w) a b (w 58 1) = true → Q (some (.int 0)) w)
    (kk : (∀ b, b < c → apO (fun a b => fLi (mB w) a b (w 58 1)) s a b) → G 64 [some (.ref 57), some (.int (nI s)), some (.int (nI a)), some (.int (nI c))] [] w) :
    ∀ (k b : Nat), b ≤ c → c - b = k → (∀ b2, b2 < b → apO (fun a b => fLi (mB w) a b (w 58 1)) s a b2) → G 14 [some (.ref 57), some (.int (nI s)), some (.int (nI a)), some (.int (nI b))] [] w := by
  have hE := hR.1
  have hc9 := hM.1
  intro k
  induction k with
  | zero =>
    intro b h1 h2 hok
    obtain rfl : b = c := by omega
    refine zr_iload_n hE eX12_areApart_14 rfl ?_
    refine zr_aload_n hE eX12_areApart_15 rfl ?_
    refine zr_getR hE eX12_areApart_16 fX12_9 zs57 rfl ?_
    refine zr_iconst hE eX12_areApart_19 (v := 0) (by decide) ?_
    refine zr_ialdv hE eX12_areApart_20 zs58 (by unfold vp_in; decide) hM.2.1 ?_
    refine zr_kicmp_ge hE eX12_areApart_21 (tgt := 64) (by decide) (fun zc21 zd21 => ?_) (fun zc21 zd21 => absurd zc21 (by rw [nI_ltI (by omega) (by omega)]; omega))
    exact kk (fun b2 q => hok b2 (by omega))
  | succ k ih =>
    intro b h1 h2 hok
    have hbc : b < c := by omega
    have xe1 : (nI a).toNatClampNeg = a := nI_clamp (by omega)
    have xe2 : (nI b).toNatClampNeg = b := nI_clamp (by omega)
    have nxt : apO (fun a b => fLi (mB w) a b (w 58 1)) s a b → ∀ b2, b2 < b + 1 → apO (fun a b => fLi (mB w) a b (w 58 1)) s a b2 := fun h b2 hb2 => by
      by_cases q : b2 = b
      · rw [q]; exact h
      · exact hok b2 (by omega)
    refine zr_iload_n hE eX12_areApart_14 rfl ?_
    refine zr_aload_n hE eX12_areApart_15 rfl ?_
    refine zr_getR hE eX12_areApart_16 fX12_9 zs57 rfl ?_
    refine zr_iconst hE eX12_areApart_19 (v := 0) (by decide) ?_
    refine zr_ialdv hE eX12_areApart_20 zs58 (by unfold vp_in; decide) hM.2.1 ?_
    refine zr_kicmp_ge hE eX12_areApart_21 (tgt := 64) (by decide) (fun zc21 zd21 => absurd ((nI_ltI (by omega) (by omega)).mpr hbc) zc21) (fun zc21 zd21 => ?_)
    refine zr_iload_n hE eX12_areApart_24 rfl ?_
    refine zr_iload_n hE eX12_areApart_25 rfl ?_
    refine zr_icmp_eq hE eX12_areApart_26 (tgt := 58) (by decide) (fun zc26 => ?_) (fun zc26 => ?_)
    · refine zr_iincN hE eX12_areApart_58 rfl (by decide) rfl ?_
      refine zr_goto hE eX12_areApart_61 (tgt := 14) (by decide) ?_
      exact ih (b + 1) (by omega) (by omega) (nxt (fun q1 q2 q3 => absurd ((nI_eqI (by omega) (by omega)).mp zc26) q1))
    · refine zr_iload_n hE eX12_areApart_29 rfl ?_
      refine zr_iload_n hE eX12_areApart_30 rfl ?_
      refine zr_ishr hE eX12_areApart_31 ?_
      refine zr_iconst hE eX12_areApart_32 (v := 1) (by decide) ?_
      refine zr_iand hE eX12_areApart_33 ?_
      refine zr_iconst hE eX12_areApart_34 (v := 1) (by decide) ?_
      refine zr_icmp_ne hE eX12_areApart_35 (tgt := 58) (by decide) (fun zc35 => ?_) (fun zc35 => ?_)
      · refine zr_iincN hE eX12_areApart_58 rfl (by decide) rfl ?_
        refine zr_goto hE eX12_areApart_61 (tgt := 14) (by decide) ?_
        exact ih (b + 1) (by omega) (by omega) (nxt (fun q1 q2 q3 => absurd ((nb_bit0 s (by omega) a (by omega)).mpr q2) zc35))
      · refine zr_iload_n hE eX12_areApart_38 rfl ?_
        refine zr_iload_n hE eX12_areApart_39 rfl ?_
        refine zr_ishr hE eX12_areApart_40 ?_
        refine zr_iconst hE eX12_areApart_41 (v := 1) (by decide) ?_
        refine zr_iand hE eX12_areApart_42 ?_
        refine zr_iconst hE eX12_areApart_43 (v := 1) (by decide) ?_
        refine zr_icmp_ne hE eX12_areApart_44 (tgt := 58) (by decide) (fun zc44 => ?_) (fun zc44 => ?_)
        · refine zr_iincN hE eX12_areApart_58 rfl (by decide) rfl ?_
          refine zr_goto hE eX12_areApart_61 (tgt := 14) (by decide) ?_
          exact ih (b + 1) (by omega) (by omega) (nxt (fun q1 q2 q3 => absurd ((nb_bit0 s (by omega) b (by omega)).mpr q3) zc44))
        · refine zr_aload_n hE eX12_areApart_47 rfl ?_
          refine zr_iload_n hE eX12_areApart_48 rfl ?_
          refine zr_iload_n hE eX12_areApart_49 rfl ?_
          refine zr_callV2 hE eX12_areApart_50 lX12_162 zs57 rfl rfl (by decide) (Nat.le_of_ble_eq_true rfl) (c_X12_liesNow (vpn (show a < 10 by omega) (by decide)) (vpn (show b < 10 by omega) (by decide)) (by rw [xe1]; exact hM.2.2 a ha) (by rw [xe2]; exact hM.2.2 b hbc) ?_)
          refine zr_beq hE eX12_areApart_53 (tgt := 58) (by decide) (fun zc53 => ?_) (fun zc53 => ?_)
          · refine zr_iincN hE eX12_areApart_58 rfl (by decide) rfl ?_
            refine zr_goto hE eX12_areApart_61 (tgt := 14) (by decide) ?_
            exact ih (b + 1) (by omega) (by omega) (nxt (fun q1 q2 q3 => by rw [xe1, xe2] at zc53; exact zc53))
          · refine zr_iconst hE eX12_areApart_56 (v := 0) (by decide) ?_
            refine hR.2.1 _ _ _ _ _ _ eX12_areApart_57 rfl rfl ?_
            exact hQ2 a b ha hbc (fun q => zc26 (by rw [q])) ((nb_bit0 s (by omega) a (by omega)).mp zc35) ((nb_bit0 s (by omega) b (by omega)).mp zc44) (by rw [xe1, xe2] at zc53; exact zc53)
set_option maxHeartbeats 4000000 in
theorem aa_out {G : zG} {w : ww} {Q : Option Value → ww → Prop} {s c : Nat} (hs : s < 512) (hM : Mow w c) (hR : zR RX12 cX12_areApart 4 7 (some .boolean) Q G)
    (hQ1 : (∀ a, a < c → ∀ b, b < c → apO (fun a b => fLi (mB w) a b (w 58 1)) s a b) → Q (some (.int 1)) w)
    (hQ2 : ∀ a b, a < c → b < c → a ≠ b → s.testBit a = true → s.testBit b = true → fLi (mB w) a b (w 58 1) = true → Q (some (.int 0)) w) :
    ∀ (k a : Nat), a ≤ c → c - a = k → (∀ a2, a2 < a → ∀ b, b < c → apO (fun a b => fLi (mB w) a b (w 58 1)) s a2 b) → G 2 [some (.ref 57), some (.int (nI s)), some (.int (nI a)), none] [] w := by
  have hE := hR.1
  have hc9 := hM.1
  intro k
  induction k with
  | zero =>
    intro a h1 h2 hok
    obtain rfl : a = c := by omega
    refine zr_iload_n hE eX12_areApart_2 rfl ?_
    refine zr_aload_n hE eX12_areApart_3 rfl ?_
    refine zr_getR hE eX12_areApart_4 fX12_9 zs57 rfl ?_
    refine zr_iconst hE eX12_areApart_7 (v := 0) (by decide) ?_
    refine zr_ialdv hE eX12_areApart_8 zs58 (by unfold vp_in; decide) hM.2.1 ?_
    refine zr_kicmp_ge hE eX12_areApart_9 (tgt := 70) (by decide) (fun zc9 zd9 => ?_) (fun zc9 zd9 => absurd zc9 (by rw [nI_ltI (by omega) (by omega)]; omega))
    refine zr_iconst hE eX12_areApart_70 (v := 1) (by decide) ?_
    refine hR.2.1 _ _ _ _ _ _ eX12_areApart_71 rfl rfl ?_
    exact hQ1 hok
  | succ k ih =>
    intro a h1 h2 hok
    have hac : a < c := by omega
    refine zr_iload_n hE eX12_areApart_2 rfl ?_
    refine zr_aload_n hE eX12_areApart_3 rfl ?_
    refine zr_getR hE eX12_areApart_4 fX12_9 zs57 rfl ?_
    refine zr_iconst hE eX12_areApart_7 (v := 0) (by decide) ?_
    refine zr_ialdv hE eX12_areApart_8 zs58 (by unfold vp_in; decide) hM.2.1 ?_
    refine zr_kicmp_ge hE eX12_areApart_9 (tgt := 70) (by decide) (fun zc9 zd9 => absurd ((nI_ltI (by omega) (by omega)).mpr hac) zc9) (fun zc9 zd9 => ?_)
    refine zr_iconst hE eX12_areApart_12 (v := 0) (by decide) ?_
    refine zr_istore_n hE eX12_areApart_13 (by decide) rfl ?_
    refine aa_in hs hac hM hR hQ2 (fun hin => ?_) c 0 (Nat.zero_le _) rfl (fun b2 q => absurd q (by omega))
    refine zr_iincN hE eX12_areApart_64 rfl (by decide) rfl ?_
    refine zr_goto hE eX12_areApart_67 (tgt := 2) (by decide) ?_
    refine zr_mask hE [true, true, true, false] ?_
    refine ih (a + 1) (by omega) (by omega) (fun a2 ha2 b2 hb2 => ?_)
    by_cases q : a2 = a
    · rw [q]; exact hin b2 hb2
    · exact hok a2 (by omega) b2 hb2
set_option maxHeartbeats 4000000 in
theorem c_X12_areApart {s c : Nat} {w : ww} {Q : Option Value → ww → Prop} (hs : s < 512) (hM : Mow w c) (hQ : Q (some (.int (bi (apM (fun a b => fLi (mB w) a b (w 58 1)) s c)))) w) : Ct mX12_areApart 7 [.ref 57, .int (nI s)] w Q := by
  refine Ct.of (by decide) (Nat.le_of_ble_eq_true rfl) (fun _ => Nat.le_of_ble_eq_true rfl) (fun G hR => ?_)
  have hE := hR.1
  refine zr_iconst hE eX12_areApart_0 (v := 0) (by decide) ?_
  refine zr_istore_n hE eX12_areApart_1 (by decide) rfl ?_
  refine aa_out hs hM hR (fun h => ?_) (fun a b h1 h2 h3 h4 h5 h6 => ?_) c 0 (Nat.zero_le _) rfl (fun a2 q => absurd q (by omega))
  · rw [apM_t h] at hQ; exact hQ
  · rw [apM_f h1 h2 h3 h4 h5 h6] at hQ; exact hQ

def pmM (P : Nat → Bool) : Nat → Nat
  | 0 => 0
  | n + 1 => if pop (pmM P n) 10 < pop (n + 1) 10 ∧ P (n + 1) = true then n + 1 else pmM P n
theorem pmM_le {P : Nat → Bool} : ∀ n, pmM P n ≤ n
  | 0 => Nat.le_refl _
  | n + 1 => by
    have := pmM_le (P := P) n
    rw [pmM]; split <;> omega
def apR (B : zBv) (v : Int32) (c : Nat) : Nat := pmM (fun s => apM (fun a b => fLi B a b v) s c) (2 ^ c - 1)
set_option maxHeartbeats 4000000 in
theorem ap_lp {G : zG} {w : ww} {Q : Option Value → ww → Prop} {m : Int32} {c : Nat} (hM : Mow w c) (hR : zR RX12 cX12_apart 4 8 (some .int) Q G) (hQ : Q (some (.int (if m = 0 then nI (pop (apR (mB w) (w 58 1) c) 10) else nI (apR (mB w) (w 58 1) c)))) w) :
    ∀ (k n : Nat), n ≤ 2 ^ c - 1 → 2 ^ c - 1 - n = k → G 16 [some (.ref 57), some (.int m), some (.int (nI (pmM (fun s => apM (fun a b => fLi (mB w) a b (w 58 1)) s c) n))), some (.int (nI (n + 1)))] [] w := by
  have hE := hR.1
  have hc9 := hM.1
  have hp : 2 ^ c ≤ 2 ^ 9 := Nat.pow_le_pow_right (by decide) hc9
  have hp0 : 0 < 2 ^ c := Nat.pow_pos (by decide)
  intro k
  induction k with
  | zero =>
    intro n h1 h2
    have xle := pmM_le (P := fun s => apM (fun a b => fLi (mB w) a b (w 58 1)) s c) n
    refine zr_iload_n hE eX12_apart_16 rfl ?_
    refine zr_aload_n hE eX12_apart_17 rfl ?_
    refine zr_callV0 hE eX12_apart_18 lX12_59 zs57 rfl rfl (by decide) (Nat.le_of_ble_eq_true rfl) (c_X12_everything ?_)
    rw [hM.2.1, nb_all c (by omega)]
    refine zr_kicmp_gt hE eX12_apart_21 (tgt := 51) (by decide) (fun zc21 zd21 => ?_) (fun zc21 zd21 => absurd zc21 (by rw [nI_leI (by omega) (by omega)]; omega))
    obtain rfl : n = 2 ^ c - 1 := by omega
    refine zr_iload_n hE eX12_apart_51 rfl ?_
    refine zr_if_ne hE eX12_apart_52 (tgt := 62) (by decide) (fun zc52 => ?_) (fun zc52 => ?_)
    · refine zr_iload_n hE eX12_apart_62 rfl ?_
      refine hR.2.1 _ _ _ _ _ _ eX12_apart_63 rfl rfl ?_
      rw [if_neg zc52] at hQ
      exact hQ
    · refine zr_iload_n hE eX12_apart_55 rfl ?_
      refine zr_callS1 hE eX12_apart_56 lX12_177 (by decide) (Nat.le_of_ble_eq_true rfl) (c_X12_bits (by omega) ?_)
      refine zr_goto hE eX12_apart_59 (tgt := 63) (by decide) ?_
      refine hR.2.1 _ _ _ _ _ _ eX12_apart_63 rfl rfl ?_
      rw [if_pos zc52] at hQ
      exact hQ
  | succ k ih0 =>
    intro n h1 h2
    have ih : ∀ n, n ≤ 2 ^ c - 1 → 2 ^ c - 1 - n = k → G 16 [some (.ref 57), some (.int m), some (.int (nI (pmM (fun s => apM (fun a b => fLi (mB w) a b (w 58 1)) s c) n))), some (.int (nI (n + 1)))] [] w := ih0
    have xle := pmM_le (P := fun s => apM (fun a b => fLi (mB w) a b (w 58 1)) s c) n
    have xp1 := pop_le (n + 1) 10
    have xp2 := pop_le (pmM (fun s => apM (fun a b => fLi (mB w) a b (w 58 1)) s c) n) 10
    refine zr_iload_n hE eX12_apart_16 rfl ?_
    refine zr_aload_n hE eX12_apart_17 rfl ?_
    refine zr_callV0 hE eX12_apart_18 lX12_59 zs57 rfl rfl (by decide) (Nat.le_of_ble_eq_true rfl) (c_X12_everything ?_)
    rw [hM.2.1, nb_all c (by omega)]
    refine zr_kicmp_gt hE eX12_apart_21 (tgt := 51) (by decide) (fun zc21 zd21 => absurd ((nI_leI (by omega) (by omega)).mpr (show n + 1 ≤ 2 ^ c - 1 by omega)) zc21) (fun zc21 zd21 => ?_)
    refine zr_iload_n hE eX12_apart_24 rfl ?_
    refine zr_callS1 hE eX12_apart_25 lX12_177 (by decide) (Nat.le_of_ble_eq_true rfl) (c_X12_bits (by omega) ?_)
    refine zr_iload_n hE eX12_apart_28 rfl ?_
    refine zr_callS1 hE eX12_apart_29 lX12_177 (by decide) (Nat.le_of_ble_eq_true rfl) (c_X12_bits (by omega) ?_)
    refine zr_kicmp_le hE eX12_apart_32 (tgt := 45) (by decide) (fun zc32 zd32 => ?_) (fun zc32 zd32 => ?_)
    · refine zr_iincN hE eX12_apart_45 rfl (by decide) rfl ?_
      refine zr_goto hE eX12_apart_48 (tgt := 16) (by decide) ?_
      have y := ih (n + 1) (by omega) (by omega)
      rw [pmM, if_neg (fun q => zc32 ((nI_ltI (by omega) (by omega)).mpr q.1))] at y
      exact y
    · refine zr_aload_n hE eX12_apart_35 rfl ?_
      refine zr_iload_n hE eX12_apart_36 rfl ?_
      refine zr_callV1 hE eX12_apart_37 lX12_190 zs57 rfl rfl (by decide) (Nat.le_of_ble_eq_true rfl) (c_X12_areApart (by omega) hM ?_)
      refine zr_beq hE eX12_apart_40 (tgt := 45) (by decide) (fun zc40 => ?_) (fun zc40 => ?_)
      · refine zr_iincN hE eX12_apart_45 rfl (by decide) rfl ?_
        refine zr_goto hE eX12_apart_48 (tgt := 16) (by decide) ?_
        have y := ih (n + 1) (by omega) (by omega)
        rw [pmM, if_neg (fun q => by rw [zc40] at q; cases q.2)] at y
        exact y
      · refine zr_iload_n hE eX12_apart_43 rfl ?_
        refine zr_istore_n hE eX12_apart_44 (by decide) rfl ?_
        refine zr_iincN hE eX12_apart_45 rfl (by decide) rfl ?_
        refine zr_goto hE eX12_apart_48 (tgt := 16) (by decide) ?_
        have y := ih (n + 1) (by omega) (by omega)
        rw [pmM, if_pos ⟨(nI_ltI (by omega) (by omega)).mp zc32, zc40⟩] at y
        exact y
set_option maxHeartbeats 4000000 in
theorem c_X12_apart {c : Nat} {m : Int32} {w : ww} {Q : Option Value → ww → Prop} (hM : Mow w c) (hQ1 : fIs m 0 1 = false → Q (some (.int (-1))) w) (hQ2 : fIs m 0 1 = true → Q (some (.int (if m = 0 then nI (pop (apR (mB w) (w 58 1) c) 10) else nI (apR (mB w) (w 58 1) c)))) w) : Ct mX12_apart 8 [.ref 57, .int m] w Q := by
  refine Ct.of (by decide) (Nat.le_of_ble_eq_true rfl) (fun _ => Nat.le_of_ble_eq_true rfl) (fun G hR => ?_)
  have hE := hR.1
  refine zr_iload_n hE eX12_apart_0 rfl ?_
  refine zr_i2l hE eX12_apart_1 ?_
  refine zr_lconst hE eX12_apart_2 (v := 0) (by decide) ?_
  refine zr_lconst hE eX12_apart_3 (v := 1) (by decide) ?_
  refine zr_callS3 hE eX12_apart_4 lX12_55 (by decide) (Nat.le_of_ble_eq_true rfl) (c_X12_isIn32 0 1 (by decide) (by decide) ?_)
  refine zr_bne hE eX12_apart_7 (tgt := 12) (by decide) (fun zc7 => ?_) (fun zc7 => ?_)
  · refine zr_iconst hE eX12_apart_12 (v := 0) (by decide) ?_
    refine zr_istore_n hE eX12_apart_13 (by decide) rfl ?_
    refine zr_iconst hE eX12_apart_14 (v := 1) (by decide) ?_
    refine zr_istore_n hE eX12_apart_15 (by decide) rfl ?_
    exact ap_lp hM hR (hQ2 zc7) (2 ^ c - 1) 0 (Nat.zero_le _) rfl
  · refine zr_iconst hE eX12_apart_10 (v := -1) (by decide) ?_
    refine hR.2.1 _ _ _ _ _ _ eX12_apart_11 rfl rfl ?_
    exact hQ1 zc7

