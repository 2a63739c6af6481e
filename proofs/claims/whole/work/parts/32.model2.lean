/-! The reference: adds, bits, outermost, isNest, heightOf. -/
theorem zr_ialdv {own : String} {cc : ByteArray} {nL n pc np : Nat} {G : zG} {w : ww} {L : List (Option Value)} {S : List Value} (h : zE own cc nL n G) {o N : Nat} {i x : Int32} (hd : zD cc pc .iaload 1 np) (hs : zshapes[o]? = some (zia N)) (hin : vp_in i N) (hv : w o i.toNatClampNeg = x) (kk : G np L (.int x :: S) w) : G pc L (.int i :: .ref o :: S) w :=
  zr_iald h hd hs hin (by rw [hv]; exact kk)
/-- the reference's bowls: how many, their kinds -/
def Mow (w : ww) (c : Nat) : Prop := c ≤ 9 ∧ w 58 0 = nI c ∧ ∀ b, b < c → vp_in (mB w 0 b) 8
def mAd (w : ww) (c : Nat) (k f t s d : Int32) : ww := wu (wu (wu (wu (wu w 58 (2 + 5 * c + 0) k) 58 (2 + 5 * c + 1) f) 58 (2 + 5 * c + 2) t) 58 (2 + 5 * c + 3) s) 58 (2 + 5 * c + 4) d
theorem v58 {i N : Nat} (h : i < N) (hN : N < 2 ^ 31) : vp_in (nI i) N := vpn h hN
theorem mad0 {w : ww} {c j : Nat} {v : Int32} : wu w 58 (2 + 5 * (nI c).toNatClampNeg + j) v 58 0 = w 58 0 := wu_nj (by omega)
set_option maxHeartbeats 4000000 in
theorem c_X12_adds {k f t s d : Int32} {c : Nat} {w : ww} {Q : Option Value → ww → Prop} (hc : c ≤ 9) (h0 : w 58 0 = nI c) (hQ : Q none (mAd w c k f t s d)) : Ct mX12_adds 2 [.ref 57, .int k, .int f, .int t, .int s, .int d] w Q := by
  refine Ct.of (by decide) (Nat.le_of_ble_eq_true rfl) (fun _ => Nat.le_of_ble_eq_true rfl) (fun G hR => ?_)
  have hE := hR.1
  have xb : vp_in (nI c) 10 := vpn (by omega) (by decide)
  refine zr_aload_n hE eX12_adds_0 rfl ?_
  refine zr_aload_n hE eX12_adds_1 rfl ?_
  refine zr_getR hE eX12_adds_2 fX12_9 zs57 rfl ?_
  refine zr_iconst hE eX12_adds_5 (v := 0) (by decide) ?_
  refine zr_ialdv hE eX12_adds_6 zs58 (by unfold vp_in; decide) h0 ?_
  refine zr_iconst hE eX12_adds_7 (v := 0) (by decide) ?_
  refine zr_iload_n hE eX12_adds_8 rfl ?_
  refine zr_callV3 hE eX12_adds_9 lX12_122 zs57 rfl rfl (by decide) (Nat.le_of_ble_eq_true rfl) (c_X12_puts 0 xb rfl (by decide) ?_)
  refine zr_aload_n hE eX12_adds_12 rfl ?_
  refine zr_aload_n hE eX12_adds_13 rfl ?_
  refine zr_getR hE eX12_adds_14 fX12_9 zs57 rfl ?_
  refine zr_iconst hE eX12_adds_17 (v := 0) (by decide) ?_
  refine zr_ialdv hE eX12_adds_18 zs58 (by unfold vp_in; decide) (mad0.trans h0) ?_
  refine zr_iconst hE eX12_adds_19 (v := 1) (by decide) ?_
  refine zr_iload_n hE eX12_adds_20 rfl ?_
  refine zr_callV3 hE eX12_adds_21 lX12_122 zs57 rfl rfl (by decide) (Nat.le_of_ble_eq_true rfl) (c_X12_puts 1 xb rfl (by decide) ?_)
  refine zr_aload_n hE eX12_adds_24 rfl ?_
  refine zr_aload_n hE eX12_adds_25 rfl ?_
  refine zr_getR hE eX12_adds_26 fX12_9 zs57 rfl ?_
  refine zr_iconst hE eX12_adds_29 (v := 0) (by decide) ?_
  refine zr_ialdv hE eX12_adds_30 zs58 (by unfold vp_in; decide) (mad0.trans (mad0.trans h0)) ?_
  refine zr_iconst hE eX12_adds_31 (v := 2) (by decide) ?_
  refine zr_iload_n hE eX12_adds_32 rfl ?_
  refine zr_callV3 hE eX12_adds_33 lX12_122 zs57 rfl rfl (by decide) (Nat.le_of_ble_eq_true rfl) (c_X12_puts 2 xb rfl (by decide) ?_)
  refine zr_aload_n hE eX12_adds_36 rfl ?_
  refine zr_aload_n hE eX12_adds_37 rfl ?_
  refine zr_getR hE eX12_adds_38 fX12_9 zs57 rfl ?_
  refine zr_iconst hE eX12_adds_41 (v := 0) (by decide) ?_
  refine zr_ialdv hE eX12_adds_42 zs58 (by unfold vp_in; decide) (mad0.trans (mad0.trans (mad0.trans h0))) ?_
  refine zr_iconst hE eX12_adds_43 (v := 3) (by decide) ?_
  refine zr_iload hE eX12_adds_44 rfl ?_
  refine zr_callV3 hE eX12_adds_46 lX12_122 zs57 rfl rfl (by decide) (Nat.le_of_ble_eq_true rfl) (c_X12_puts 3 xb rfl (by decide) ?_)
  refine zr_aload_n hE eX12_adds_49 rfl ?_
  refine zr_aload_n hE eX12_adds_50 rfl ?_
  refine zr_getR hE eX12_adds_51 fX12_9 zs57 rfl ?_
  refine zr_iconst hE eX12_adds_54 (v := 0) (by decide) ?_
  refine zr_ialdv hE eX12_adds_55 zs58 (by unfold vp_in; decide) (mad0.trans (mad0.trans (mad0.trans (mad0.trans h0)))) ?_
  refine zr_iconst hE eX12_adds_56 (v := 4) (by decide) ?_
  refine zr_iload hE eX12_adds_57 rfl ?_
  refine zr_callV3 hE eX12_adds_59 lX12_122 zs57 rfl rfl (by decide) (Nat.le_of_ble_eq_true rfl) (c_X12_puts 4 xb rfl (by decide) ?_)
  refine hR.2.2.2 _ _ _ _ eX12_adds_62 rfl ?_
  simp only [nI_clamp (show c < 2 ^ 31 by omega)]
  exact hQ

theorem bits_st : ∀ v, v < 1024 → nI v &&& 1 = nI (v % 2) ∧ nI v >>> ((1 : Int32) &&& 31) = nI (v / 2) ∧ pop v 10 = v % 2 + pop (v / 2) 10 := by decide +kernel
theorem pop_0 : pop 0 10 = 0 := by decide
set_option maxHeartbeats 4000000 in
theorem bits_lp {G : zG} {w : ww} {Q : Option Value → ww → Prop} {s : Int32} {r : Nat} (hR : zR RX12 cX12_bits 3 1 (some .int) Q G) (hQ : Q (some (.int (nI r))) w) :
    ∀ (v n : Nat), v < 1024 → n + pop v 10 = r → G 4 [some (.int s), some (.int (nI n)), some (.int (nI v))] [] w := by
  have hE := hR.1
  have main : ∀ (k v n : Nat), v ≤ k → v < 1024 → n + pop v 10 = r → G 4 [some (.int s), some (.int (nI n)), some (.int (nI v))] [] w := by
    intro k
    induction k with
    | zero =>
      intro v n hk hv hr
      have hv0 : v = 0 := by omega
      rw [hv0, pop_0] at hr
      refine zr_iload_n hE eX12_bits_4 rfl ?_
      refine zr_kif_le hE eX12_bits_5 (tgt := 21) (by decide) (fun zc5 zd5 => ?_) (fun zc5 zd5 => absurd zc5 (by subst hv0; decide))
      refine zr_iload_n hE eX12_bits_21 rfl ?_
      refine hR.2.1 _ _ _ _ _ _ eX12_bits_22 rfl rfl ?_
      subst hv0
      rw [← hr] at hQ
      exact hQ
    | succ k ih0 =>
      intro v n hk hv hr
      by_cases hv0 : v = 0
      · rw [hv0, pop_0] at hr
        refine zr_iload_n hE eX12_bits_4 rfl ?_
        refine zr_kif_le hE eX12_bits_5 (tgt := 21) (by decide) (fun zc5 zd5 => ?_) (fun zc5 zd5 => absurd zc5 (by subst hv0; decide))
        refine zr_iload_n hE eX12_bits_21 rfl ?_
        refine hR.2.1 _ _ _ _ _ _ eX12_bits_22 rfl rfl ?_
        subst hv0
        rw [← hr] at hQ
        exact hQ
      · have hv0 : 0 < v := by omega
        have ih : ∀ (v2 n2 : Nat), v2 ≤ k → v2 < 1024 → n2 + pop v2 10 = r → G 4 [some (.int s), some (.int (nI n2)), some (.int (nI v2))] [] w := ih0
        refine zr_iload_n hE eX12_bits_4 rfl ?_
        refine zr_kif_le hE eX12_bits_5 (tgt := 21) (by decide) (fun zc5 zd5 => absurd ((nI_ltI (show 0 < 2 ^ 31 by decide) (by omega)).mpr hv0) zc5) (fun zc5 zd5 => ?_)
        refine zr_iload_n hE eX12_bits_8 rfl ?_
        refine zr_iload_n hE eX12_bits_9 rfl ?_
        refine zr_iconst hE eX12_bits_10 (v := 1) (by decide) ?_
        refine zr_iand hE eX12_bits_11 ?_
        show G _ _ (.int (nI v &&& 1) :: _) _
        rw [(bits_st v hv).1]
        refine zr_iadd hE eX12_bits_12 ?_
        rw [nI_add]
        refine zr_istore_n hE eX12_bits_13 (by decide) rfl ?_
        refine zr_iload_n hE eX12_bits_14 rfl ?_
        refine zr_iconst hE eX12_bits_15 (v := 1) (by decide) ?_
        refine zr_ishr hE eX12_bits_16 ?_
        show G _ _ (.int (nI v >>> ((1 : Int32) &&& 31)) :: _) _
        rw [(bits_st v hv).2.1]
        refine zr_istore_n hE eX12_bits_17 (by decide) rfl ?_
        refine zr_goto hE eX12_bits_18 (tgt := 4) (by decide) ?_
        exact ih (v / 2) (n + v % 2) (by omega) (by omega) (by rw [← hr, (bits_st v hv).2.2]; omega)
  exact fun v n => main v v n (Nat.le_refl _)
set_option maxHeartbeats 4000000 in
theorem c_X12_bits {s : Nat} {w : ww} {Q : Option Value → ww → Prop} (hs : s < 1024) (hQ : Q (some (.int (nI (pop s 10)))) w) : Ct mX12_bits 1 [.int (nI s)] w Q := by
  refine Ct.of (by decide) (Nat.le_of_ble_eq_true rfl) (fun _ => Nat.le_of_ble_eq_true rfl) (fun G hR => ?_)
  have hE := hR.1
  refine zr_iconst hE eX12_bits_0 (v := 0) (by decide) ?_
  refine zr_istore_n hE eX12_bits_1 (by decide) rfl ?_
  refine zr_iload_n hE eX12_bits_2 rfl ?_
  refine zr_istore_n hE eX12_bits_3 (by decide) rfl ?_
  exact bits_lp hR hQ s 0 hs (by omega)

def omF (out : Nat → Int32) (s : Nat) : Nat → Option Nat
  | 0 => none
  | n + 1 => match omF out s n with
    | none => if s.testBit n = true then some n else none
    | some a => if s.testBit n = true ∧ out a < out n then some n else some a
def enc4 : Option Nat → Int32
  | none => -4
  | some a => nI a
theorem omF_lt {out : Nat → Int32} {s : Nat} : ∀ {n a : Nat}, omF out s n = some a → a < n ∧ s.testBit a = true
  | 0, a, h => by cases h
  | n + 1, a, h => by
    rw [omF] at h
    cases h2 : omF out s n with
    | none =>
      rw [h2] at h
      by_cases q : s.testBit n = true
      · simp only [if_pos q] at h; cases h; exact ⟨by omega, q⟩
      · simp only [if_neg q] at h; cases h
    | some b =>
      rw [h2] at h
      by_cases q : s.testBit n = true ∧ out b < out n
      · simp only [if_pos q] at h; cases h; exact ⟨by omega, q.1⟩
      · simp only [if_neg q] at h; cases h
        have := omF_lt h2
        exact ⟨by omega, this.2⟩
theorem omF_0 {out : Nat → Int32} {s n : Nat} (h : ¬ s.testBit n = true) : omF out s (n + 1) = omF out s n := by
  rw [omF]
  cases omF out s n with
  | none => simp only [if_neg h]
  | some a => simp only [if_neg (fun q : s.testBit n = true ∧ out a < out n => h q.1)]
theorem omF_n {out : Nat → Int32} {s n : Nat} (h : s.testBit n = true) (h2 : omF out s n = none) : omF out s (n + 1) = some n := by
  rw [omF, h2]; simp only [if_pos h]
theorem omF_y {out : Nat → Int32} {s n a : Nat} (h : s.testBit n = true) (h2 : omF out s n = some a) (h3 : out a < out n) : omF out s (n + 1) = some n := by
  rw [omF, h2]; simp only [if_pos (show s.testBit n = true ∧ out a < out n from ⟨h, h3⟩)]
theorem omF_z {out : Nat → Int32} {s n a : Nat} (h2 : omF out s n = some a) (h3 : ¬ out a < out n) : omF out s (n + 1) = some a := by
  rw [omF, h2]; simp only [if_neg (fun q : s.testBit n = true ∧ out a < out n => h3 q.2)]
theorem enc4_lt {o : Option Nat} (h : ∀ a, o = some a → a < 10) : enc4 o < 0 ↔ o = none := by
  cases o with
  | none => exact ⟨fun _ => rfl, fun _ => by decide⟩
  | some a =>
    have := h a rfl
    exact ⟨fun q => absurd q (show ¬ nI a < 0 by rw [show (0 : Int32) = nI 0 from rfl, nI_ltI (by omega) (by decide)]; omega), fun q => by cases q⟩
set_option maxHeartbeats 4000000 in
theorem om_lp {G : zG} {w : ww} {Q : Option Value → ww → Prop} {s : Nat} (hs : s < 1024) (hk : ∀ b, b < 10 → s.testBit b = true → vp_in (mB w 0 b) 8) (hR : zR RX12 cX12_outermost 4 5 (some .int) Q G) (hQ : Q (some (.int (enc4 (omF (oB (mB w)) s 10)))) w) :
    ∀ (k n : Nat) (o0 : Option Nat), n ≤ 10 → 10 - n = k → o0 = omF (oB (mB w)) s n → G 5 [some (.ref 57), some (.int (nI s)), some (.int (enc4 o0)), some (.int (nI n))] [] w := by
  have hE := hR.1
  intro k
  induction k with
  | zero =>
    intro n o0 h1 h2 ho
    have hn : n = 10 := by omega
    refine zr_iload_n hE eX12_outermost_5 rfl ?_
    refine zr_bipush hE eX12_outermost_6 (v := 10) (by decide) ?_
    refine zr_kicmp_ge hE eX12_outermost_8 (tgt := 45) (by decide) (fun zc8 zd8 => ?_) (fun zc8 zd8 => absurd zc8 (by subst hn; decide))
    refine zr_iload_n hE eX12_outermost_45 rfl ?_
    refine hR.2.1 _ _ _ _ _ _ eX12_outermost_46 rfl rfl ?_
    subst hn
    rw [ho]
    exact hQ
  | succ k ih =>
    intro n o0 h1 h2 ho
    have hn : n < 10 := by omega
    have xo : ∀ a, o0 = some a → a < 10 := fun a q => by have := omF_lt (ho.symm.trans q); omega
    refine zr_iload_n hE eX12_outermost_5 rfl ?_
    refine zr_bipush hE eX12_outermost_6 (v := 10) (by decide) ?_
    refine zr_kicmp_ge hE eX12_outermost_8 (tgt := 45) (by decide) (fun zc8 zd8 => absurd ((nI_ltI (by omega) (by decide)).mpr hn) zc8) (fun zc8 zd8 => ?_)
    refine zr_iload_n hE eX12_outermost_11 rfl ?_
    refine zr_iload_n hE eX12_outermost_12 rfl ?_
    refine zr_ishr hE eX12_outermost_13 ?_
    refine zr_iconst hE eX12_outermost_14 (v := 1) (by decide) ?_
    refine zr_iand hE eX12_outermost_15 ?_
    refine zr_iconst hE eX12_outermost_16 (v := 1) (by decide) ?_
    refine zr_icmp_ne hE eX12_outermost_17 (tgt := 39) (by decide) (fun zc17 => ?_) (fun zc17 => ?_)
    · refine zr_iincN hE eX12_outermost_39 rfl (by decide) rfl ?_
      refine zr_goto hE eX12_outermost_42 (tgt := 5) (by decide) ?_
      exact ih (n + 1) o0 (by omega) (by omega) (by rw [ho]; exact (omF_0 (fun q => zc17 ((nb_bit0 s hs n (by omega)).mpr q))).symm)
    · refine zr_iload_n hE eX12_outermost_20 rfl ?_
      refine zr_kif_lt hE eX12_outermost_21 (tgt := 37) (by decide) (fun zc21 zd21 => ?_) (fun zc21 zd21 => ?_)
      · refine zr_iload_n hE eX12_outermost_37 rfl ?_
        refine zr_istore_n hE eX12_outermost_38 (by decide) rfl ?_
        refine zr_iincN hE eX12_outermost_39 rfl (by decide) rfl ?_
        refine zr_goto hE eX12_outermost_42 (tgt := 5) (by decide) ?_
        exact ih (n + 1) (some n) (by omega) (by omega) (omF_n ((nb_bit0 s hs n (by omega)).mp zc17) (ho.symm.trans ((enc4_lt xo).mp zd21))).symm
      · obtain ⟨a, xa⟩ : ∃ a, o0 = some a := by
          cases h : o0 with
          | none => exact absurd ((enc4_lt xo).mpr h) zd21
          | some a => exact ⟨a, rfl⟩
        have xa2 := omF_lt (ho.symm.trans xa)
        have xb1 := (nb_bit0 s hs n (by omega)).mp zc17
        subst xa
        show G _ [some (.ref 57), some (.int (nI s)), some (.int (nI a)), some (.int (nI n))] _ _
        have xe1 : (nI n).toNatClampNeg = n := nI_clamp (by omega)
        have xe2 : (nI a).toNatClampNeg = a := nI_clamp (by omega)
        refine zr_aload_n hE eX12_outermost_24 rfl ?_
        refine zr_iload_n hE eX12_outermost_25 rfl ?_
        refine zr_callV1 hE eX12_outermost_26 lX12_82 zs57 rfl rfl (by decide) (Nat.le_of_ble_eq_true rfl) (c_X12_outside (vpn hn (by decide)) (by rw [xe1]; exact hk n hn xb1) ?_)
        refine zr_aload_n hE eX12_outermost_29 rfl ?_
        refine zr_iload_n hE eX12_outermost_30 rfl ?_
        refine zr_callV1 hE eX12_outermost_31 lX12_82 zs57 rfl rfl (by decide) (Nat.le_of_ble_eq_true rfl) (c_X12_outside (vpn (show a < 10 by omega) (by decide)) (by rw [xe2]; exact hk a (by omega) xa2.2) ?_)
        refine zr_kicmp_le hE eX12_outermost_34 (tgt := 39) (by decide) (fun zc34 zd34 => ?_) (fun zc34 zd34 => ?_)
        · refine zr_iincN hE eX12_outermost_39 rfl (by decide) rfl ?_
          refine zr_goto hE eX12_outermost_42 (tgt := 5) (by decide) ?_
          rw [xe1, xe2] at zc34
          exact ih (n + 1) (some a) (by omega) (by omega) (omF_z ho.symm zc34).symm
        · refine zr_iload_n hE eX12_outermost_37 rfl ?_
          refine zr_istore_n hE eX12_outermost_38 (by decide) rfl ?_
          refine zr_iincN hE eX12_outermost_39 rfl (by decide) rfl ?_
          refine zr_goto hE eX12_outermost_42 (tgt := 5) (by decide) ?_
          rw [xe1, xe2] at zc34
          exact ih (n + 1) (some n) (by omega) (by omega) (omF_y xb1 ho.symm zc34).symm
set_option maxHeartbeats 4000000 in
theorem c_X12_outermost {s : Nat} {w : ww} {Q : Option Value → ww → Prop} (hs : s < 1024) (hk : ∀ b, b < 10 → s.testBit b = true → vp_in (mB w 0 b) 8) (hQ : Q (some (.int (enc4 (omF (oB (mB w)) s 10)))) w) : Ct mX12_outermost 5 [.ref 57, .int (nI s)] w Q := by
  refine Ct.of (by decide) (Nat.le_of_ble_eq_true rfl) (fun _ => Nat.le_of_ble_eq_true rfl) (fun G hR => ?_)
  have hE := hR.1
  refine zr_bipush hE eX12_outermost_0 (v := -4) (by decide) ?_
  refine zr_istore_n hE eX12_outermost_2 (by decide) rfl ?_
  refine zr_iconst hE eX12_outermost_3 (v := 0) (by decide) ?_
  refine zr_istore_n hE eX12_outermost_4 (by decide) rfl ?_
  exact om_lp hs hk hR hQ 10 0 none (by decide) rfl rfl

