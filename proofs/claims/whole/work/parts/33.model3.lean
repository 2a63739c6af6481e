/-! The reference: isNest, heightOf, nest, height. -/
def Mks (w : ww) (s : Nat) : Prop := ∀ b, b < 10 → s.testBit b = true → vp_in (mB w 0 b) 8
theorem Mks.sub {w : ww} {s t : Nat} (h : Mks w s) (hs : ∀ b, t.testBit b = true → s.testBit b = true) : Mks w t := fun b hb q => h b hb (hs b q)
theorem Mow.ks {w : ww} {c s : Nat} (h : Mow w c) (hs : s < 2 ^ c) : Mks w s := fun b _ q => h.2.2 b (Decidable.byContradiction fun hb => by
  have : s.testBit b = false := Nat.testBit_lt_two_pow (Nat.lt_of_lt_of_le hs (Nat.pow_le_pow_right (by decide) (by omega)))
  rw [this] at q; cases q)
def inF (lz : Nat → Nat → Bool) (out : Nat → Int32) : Nat → Nat → Option Nat → Bool
  | 0, _, _ => true
  | k + 1, left, last => if left = 0 then true else match omF out left 10 with
    | none => true
    | some b => match last with
      | none => inF lz out k (nDif left (2 ^ b)) (some b)
      | some a => if lz b a = true then inF lz out k (nDif left (2 ^ b)) (some b) else false
def nsB (B : zBv) (v : Int32) (s : Nat) : Bool := decide (s ≠ 0) && inF (fun a b => fLi B a b v) (oB B) s s none
theorem omF_none {out : Nat → Int32} {s : Nat} : ∀ {n : Nat}, omF out s n = none → ∀ i, i < n → s.testBit i = false
  | 0, _, i, hi => absurd hi (by omega)
  | n + 1, h, i, hi => by
    rw [omF] at h
    cases h2 : omF out s n with
    | none =>
      rw [h2] at h
      by_cases q : s.testBit n = true
      · simp only [if_pos q] at h; cases h
      · by_cases q2 : i = n
        · subst q2; exact Bool.eq_false_iff.mpr q
        · exact omF_none h2 i (by omega)
    | some b =>
      rw [h2] at h
      by_cases q : s.testBit n = true ∧ out b < out n
      · simp only [if_pos q] at h; cases h
      · simp only [if_neg q] at h; cases h
theorem omF_ex {out : Nat → Int32} {s : Nat} (hs : s < 1024) (h0 : s ≠ 0) : ∃ b, omF out s 10 = some b := by
  cases h : omF out s 10 with
  | some b => exact ⟨b, rfl⟩
  | none =>
    refine absurd (Nat.eq_of_testBit_eq fun i => ?_) h0
    rw [Nat.zero_testBit]
    by_cases hi : i < 10
    · exact omF_none h i hi
    · exact Nat.testBit_lt_two_pow (Nat.lt_of_lt_of_le (show s < 2 ^ 10 from hs) (Nat.pow_le_pow_right (by decide) (by omega)))
theorem nDif_lt {s b : Nat} (hs : s < 1024) (hb : s.testBit b = true) : nDif s (2 ^ b) < s := by
  refine Nat.lt_of_le_of_ne (nDif_le _ _) (fun q => ?_)
  have h := tb_dif (a := s) (b := 2 ^ b) (i := b) (by omega)
  rw [q, hb, tb_one] at h
  simp at h
theorem nDif_sub {s t b : Nat} (hs : s < 1024) (h : (nDif s t).testBit b = true) : s.testBit b = true := by
  rw [tb_dif (by omega)] at h
  simp at h; exact h.1
set_option maxHeartbeats 4000000 in
theorem ns_lp {G : zG} {w : ww} {Q : Option Value → ww → Prop} {s : Nat} {r : Bool} (hs : s < 1024) (hk : Mks w s) (hR : zR RX12 cX12_isNest 5 7 (some .boolean) Q G) (hQ : Q (some (.int (bi (decide (s ≠ 0) && r)))) w) :
    ∀ (k left : Nat) (last : Option Nat), left ≤ k → left < 1024 → (∀ b, left.testBit b = true → s.testBit b = true) → (∀ a, last = some a → a < 10 ∧ s.testBit a = true) → inF (fun a b => fLi (mB w) a b (w 58 1)) (oB (mB w)) k left last = r → G 5 [some (.ref 57), some (.int (nI s)), some (.int (nI left)), some (.int (enc4 last)), none] [] w := by
  have hE := hR.1
  have zero : ∀ (last : Option Nat), true = r → G 5 [some (.ref 57), some (.int (nI s)), some (.int (nI 0)), some (.int (enc4 last)), none] [] w := by
    intro last hr
    refine zr_iload_n hE eX12_isNest_5 rfl ?_
    refine zr_if_eq hE eX12_isNest_6 (tgt := 47) (by decide) (fun zc6 => ?_) (fun zc6 => absurd (show nI 0 = 0 from rfl) zc6)
    refine zr_iload_n hE eX12_isNest_47 rfl ?_
    refine zr_if_eq hE eX12_isNest_48 (tgt := 55) (by decide) (fun zc48 => ?_) (fun zc48 => ?_)
    · refine zr_iconst hE eX12_isNest_55 (v := 0) (by decide) ?_
      refine hR.2.1 _ _ _ _ _ _ eX12_isNest_56 rfl rfl ?_
      rw [← hr, (nI_0i (by omega)).mp zc48] at hQ
      exact hQ
    · refine zr_iconst hE eX12_isNest_51 (v := 1) (by decide) ?_
      refine zr_goto hE eX12_isNest_52 (tgt := 56) (by decide) ?_
      refine hR.2.1 _ _ _ _ _ _ eX12_isNest_56 rfl rfl ?_
      have x0 : s ≠ 0 := fun q => zc48 (by rw [q]; rfl)
      rw [← hr, decide_eq_true x0] at hQ
      exact hQ
  intro k
  induction k with
  | zero =>
    intro left last hk0 hl hsub hla hr
    have hl0 : left = 0 := by omega
    subst hl0
    exact zero last hr
  | succ k ih =>
    intro left last hk0 hl hsub hla hr
    by_cases hl0 : left = 0
    · subst hl0
      rw [inF, if_pos rfl] at hr
      exact zero last hr
    obtain ⟨b, hob⟩ := omF_ex (out := oB (mB w)) hl hl0
    have xb := omF_lt hob
    refine zr_iload_n hE eX12_isNest_5 rfl ?_
    refine zr_if_eq hE eX12_isNest_6 (tgt := 47) (by decide) (fun zc6 => absurd ((nI_0i (by omega)).mp zc6) hl0) (fun zc6 => ?_)
    refine zr_aload_n hE eX12_isNest_9 rfl ?_
    refine zr_iload_n hE eX12_isNest_10 rfl ?_
    refine zr_callV1 hE eX12_isNest_11 lX12_165 zs57 rfl rfl (by decide) (Nat.le_of_ble_eq_true rfl) (c_X12_outermost hl (hk.sub hsub) ?_)
    rw [hob]
    show G _ _ (.int (nI b) :: _) _
    refine zr_istore hE eX12_isNest_14 (by decide) rfl ?_
    refine zr_iload_n hE eX12_isNest_16 rfl ?_
    refine zr_kif_lt hE eX12_isNest_17 (tgt := 32) (by decide) (fun zc17 zd17 => ?_) (fun zc17 zd17 => ?_)
    · refine zr_iload hE eX12_isNest_32 rfl ?_
      refine zr_istore_n hE eX12_isNest_34 (by decide) rfl ?_
      refine zr_iload_n hE eX12_isNest_35 rfl ?_
      refine zr_iconst hE eX12_isNest_36 (v := 1) (by decide) ?_
      refine zr_iload hE eX12_isNest_37 rfl ?_
      refine zr_ishl hE eX12_isNest_39 ?_
      show G _ _ (.int ((1 : Int32) <<< (nI b &&& 31)) :: _) _
      rw [nb_sh1 b (by have := xb.1; omega)]
      refine zr_iconst hE eX12_isNest_40 (v := -1) (by decide) ?_
      refine zr_ixor hE eX12_isNest_41 ?_
      refine zr_iand hE eX12_isNest_42 ?_
      show G _ _ (.int (nI left &&& (nI (2 ^ b) ^^^ (-1))) :: _) _
      rw [nb_dif]
      refine zr_istore_n hE eX12_isNest_43 (by decide) rfl ?_
      refine zr_goto hE eX12_isNest_44 (tgt := 5) (by decide) ?_
      refine zr_mask hE [true, true, true, true, false] ?_
      have xl := (enc4_lt (fun a q => (hla a q).1)).mp zd17
      subst xl
      refine ih (nDif left (2 ^ b)) (some b) (by have := nDif_lt hl xb.2; omega) (by have := nDif_lt hl xb.2; omega) (fun i q => hsub i (nDif_sub hl q)) (fun a q => by cases q; exact ⟨xb.1, hsub b xb.2⟩) ?_
      rw [← hr, inF, if_neg hl0, hob]
    · obtain ⟨a, xa⟩ : ∃ a, last = some a := by
        cases h : last with
        | none => exact absurd ((enc4_lt (fun a q => (hla a q).1)).mpr h) zd17
        | some a => exact ⟨a, rfl⟩
      have xa2 := hla a xa
      subst xa
      show G _ [some (.ref 57), some (.int (nI s)), some (.int (nI left)), some (.int (nI a)), some (.int (nI b))] _ _
      have xe1 : (nI b).toNatClampNeg = b := nI_clamp (by have := xb.1; omega)
      have xe2 : (nI a).toNatClampNeg = a := nI_clamp (by have := xa2.1; omega)
      refine zr_aload_n hE eX12_isNest_20 rfl ?_
      refine zr_iload hE eX12_isNest_21 rfl ?_
      refine zr_iload_n hE eX12_isNest_23 rfl ?_
      refine zr_callV2 hE eX12_isNest_24 lX12_162 zs57 rfl rfl (by decide) (Nat.le_of_ble_eq_true rfl) (c_X12_liesNow (vpn xb.1 (by decide)) (vpn xa2.1 (by decide)) (by rw [xe1]; exact hk b xb.1 (hsub b xb.2)) (by rw [xe2]; exact hk a xa2.1 xa2.2) ?_)
      refine zr_bne hE eX12_isNest_27 (tgt := 32) (by decide) (fun zc27 => ?_) (fun zc27 => ?_)
      · refine zr_iload hE eX12_isNest_32 rfl ?_
        refine zr_istore_n hE eX12_isNest_34 (by decide) rfl ?_
        refine zr_iload_n hE eX12_isNest_35 rfl ?_
        refine zr_iconst hE eX12_isNest_36 (v := 1) (by decide) ?_
        refine zr_iload hE eX12_isNest_37 rfl ?_
        refine zr_ishl hE eX12_isNest_39 ?_
        show G _ _ (.int ((1 : Int32) <<< (nI b &&& 31)) :: _) _
        rw [nb_sh1 b (by have := xb.1; omega)]
        refine zr_iconst hE eX12_isNest_40 (v := -1) (by decide) ?_
        refine zr_ixor hE eX12_isNest_41 ?_
        refine zr_iand hE eX12_isNest_42 ?_
        show G _ _ (.int (nI left &&& (nI (2 ^ b) ^^^ (-1))) :: _) _
        rw [nb_dif]
        refine zr_istore_n hE eX12_isNest_43 (by decide) rfl ?_
        refine zr_goto hE eX12_isNest_44 (tgt := 5) (by decide) ?_
        refine zr_mask hE [true, true, true, true, false] ?_
        rw [xe1, xe2] at zc27
        refine ih (nDif left (2 ^ b)) (some b) (by have := nDif_lt hl xb.2; omega) (by have := nDif_lt hl xb.2; omega) (fun i q => hsub i (nDif_sub hl q)) (fun a q => by cases q; exact ⟨xb.1, hsub b xb.2⟩) ?_
        rw [← hr, inF, if_neg hl0, hob]
        simp only [zc27, if_true]
      · refine zr_iconst hE eX12_isNest_30 (v := 0) (by decide) ?_
        refine hR.2.1 _ _ _ _ _ _ eX12_isNest_31 rfl rfl ?_
        rw [xe1, xe2] at zc27
        rw [inF, if_neg hl0, hob] at hr
        simp only [zc27] at hr
        rw [← hr] at hQ
        rw [if_neg (by decide), Bool.and_false] at hQ
        exact hQ
set_option maxHeartbeats 4000000 in
theorem c_X12_isNest {s : Nat} {w : ww} {Q : Option Value → ww → Prop} (hs : s < 1024) (hk : Mks w s) (hQ : Q (some (.int (bi (nsB (mB w) (w 58 1) s)))) w) : Ct mX12_isNest 7 [.ref 57, .int (nI s)] w Q := by
  refine Ct.of (by decide) (Nat.le_of_ble_eq_true rfl) (fun _ => Nat.le_of_ble_eq_true rfl) (fun G hR => ?_)
  have hE := hR.1
  refine zr_iload_n hE eX12_isNest_0 rfl ?_
  refine zr_istore_n hE eX12_isNest_1 (by decide) rfl ?_
  refine zr_bipush hE eX12_isNest_2 (v := -4) (by decide) ?_
  refine zr_istore_n hE eX12_isNest_4 (by decide) rfl ?_
  exact ns_lp hs hk hR hQ s s none (Nat.le_refl _) hs (fun _ q => q) (fun a q => by cases q) rfl

def hoF (ri : Nat → Int32) (s l : Nat) : Nat → Int32 → Int32
  | 0, v => v
  | n + 1, v => if s.testBit n = true ∧ n ≠ l then hoF ri s l n v + ri n else hoF ri s l n v
def mHt (B : zBv) (s : Nat) : Int32 := match omF (oB B) s 10 with
  | some l => hoF (fRi B) s l 10 (B 4 l)
  | none => 0
theorem nI_eqI {a b : Nat} (ha : a < 2 ^ 31) (hb : b < 2 ^ 31) : nI a = nI b ↔ a = b := ⟨fun h => by
  have := congrArg Int32.toNatClampNeg h
  rwa [nI_clamp ha, nI_clamp hb] at this, fun h => by rw [h]⟩
set_option maxHeartbeats 4000000 in
theorem ht_lp {G : zG} {w : ww} {Q : Option Value → ww → Prop} {s l : Nat} {v0 : Int32} (hs : s < 1024) (hl : l < 10) (hk : Mks w s) (hR : zR RX12 cX12_heightOf 5 6 (some .int) Q G) (hQ : Q (some (.int (hoF (fRi (mB w)) s l 10 v0))) w) :
    ∀ (k n : Nat) (v : Int32), n ≤ 10 → 10 - n = k → v = hoF (fRi (mB w)) s l n v0 → G 16 [some (.ref 57), some (.int (nI s)), some (.int (nI l)), some (.int v), some (.int (nI n))] [] w := by
  have hE := hR.1
  intro k
  induction k with
  | zero =>
    intro n v h1 h2 hv
    have hn : n = 10 := by omega
    refine zr_iload hE eX12_heightOf_16 rfl ?_
    refine zr_bipush hE eX12_heightOf_18 (v := 10) (by decide) ?_
    refine zr_kicmp_ge hE eX12_heightOf_20 (tgt := 54) (by decide) (fun zc20 zd20 => ?_) (fun zc20 zd20 => absurd zc20 (by subst hn; decide))
    refine zr_iload_n hE eX12_heightOf_54 rfl ?_
    refine hR.2.1 _ _ _ _ _ _ eX12_heightOf_55 rfl rfl ?_
    subst hn
    rw [← hv] at hQ
    exact hQ
  | succ k ih =>
    intro n v h1 h2 hv
    have hn : n < 10 := by omega
    refine zr_iload hE eX12_heightOf_16 rfl ?_
    refine zr_bipush hE eX12_heightOf_18 (v := 10) (by decide) ?_
    refine zr_kicmp_ge hE eX12_heightOf_20 (tgt := 54) (by decide) (fun zc20 zd20 => absurd ((nI_ltI (by omega) (by decide)).mpr hn) zc20) (fun zc20 zd20 => ?_)
    refine zr_iload_n hE eX12_heightOf_23 rfl ?_
    refine zr_iload hE eX12_heightOf_24 rfl ?_
    refine zr_ishr hE eX12_heightOf_26 ?_
    refine zr_iconst hE eX12_heightOf_27 (v := 1) (by decide) ?_
    refine zr_iand hE eX12_heightOf_28 ?_
    refine zr_iconst hE eX12_heightOf_29 (v := 1) (by decide) ?_
    refine zr_icmp_ne hE eX12_heightOf_30 (tgt := 48) (by decide) (fun zc30 => ?_) (fun zc30 => ?_)
    · refine zr_iincN hE eX12_heightOf_48 rfl (by decide) rfl ?_
      refine zr_goto hE eX12_heightOf_51 (tgt := 16) (by decide) ?_
      exact ih (n + 1) _ (by omega) (by omega) (by rw [hoF, if_neg (fun q => zc30 ((nb_bit0 s hs n (by omega)).mpr q.1))]; exact hv)
    · refine zr_iload hE eX12_heightOf_33 rfl ?_
      refine zr_iload_n hE eX12_heightOf_35 rfl ?_
      refine zr_icmp_eq hE eX12_heightOf_36 (tgt := 48) (by decide) (fun zc36 => ?_) (fun zc36 => ?_)
      · refine zr_iincN hE eX12_heightOf_48 rfl (by decide) rfl ?_
        refine zr_goto hE eX12_heightOf_51 (tgt := 16) (by decide) ?_
        have xnl : n = l := (nI_eqI (by omega) (by omega)).mp zc36
        exact ih (n + 1) _ (by omega) (by omega) (by rw [hoF, if_neg (fun q => q.2 xnl)]; exact hv)
      · have xb1 := (nb_bit0 s hs n (by omega)).mp zc30
        have xe1 : (nI n).toNatClampNeg = n := nI_clamp (by omega)
        refine zr_iload_n hE eX12_heightOf_39 rfl ?_
        refine zr_aload_n hE eX12_heightOf_40 rfl ?_
        refine zr_iload hE eX12_heightOf_41 rfl ?_
        refine zr_callV1 hE eX12_heightOf_43 lX12_148 zs57 rfl rfl (by decide) (Nat.le_of_ble_eq_true rfl) (c_X12_rise (vpn hn (by decide)) (by rw [xe1]; exact hk n hn xb1) ?_)
        refine zr_iadd hE eX12_heightOf_46 ?_
        refine zr_istore_n hE eX12_heightOf_47 (by decide) rfl ?_
        refine zr_iincN hE eX12_heightOf_48 rfl (by decide) rfl ?_
        refine zr_goto hE eX12_heightOf_51 (tgt := 16) (by decide) ?_
        have xnl : n ≠ l := fun q => zc36 (by rw [q])
        rw [xe1]
        exact ih (n + 1) _ (by omega) (by omega) (by rw [hoF, if_pos ⟨xb1, xnl⟩, ← hv])
set_option maxHeartbeats 4000000 in
theorem c_X12_heightOf {s : Nat} {w : ww} {Q : Option Value → ww → Prop} (hs : s < 1024) (h0 : s ≠ 0) (hk : Mks w s) (hQ : Q (some (.int (mHt (mB w) s))) w) : Ct mX12_heightOf 6 [.ref 57, .int (nI s)] w Q := by
  refine Ct.of (by decide) (Nat.le_of_ble_eq_true rfl) (fun _ => Nat.le_of_ble_eq_true rfl) (fun G hR => ?_)
  have hE := hR.1
  refine zr_aload_n hE eX12_heightOf_0 rfl ?_
  refine zr_iload_n hE eX12_heightOf_1 rfl ?_
  refine zr_callV1 hE eX12_heightOf_2 lX12_165 zs57 rfl rfl (by decide) (Nat.le_of_ble_eq_true rfl) (c_X12_outermost hs hk ?_)
  obtain ⟨l, hol⟩ := omF_ex (out := oB (mB w)) hs h0
  have xl := omF_lt hol
  unfold mHt at hQ
  rw [hol] at hQ ⊢
  show G _ _ (.int (nI l) :: _) _
  refine zr_istore_n hE eX12_heightOf_5 (by decide) rfl ?_
  refine zr_aload_n hE eX12_heightOf_6 rfl ?_
  refine zr_iload_n hE eX12_heightOf_7 rfl ?_
  refine zr_iconst hE eX12_heightOf_8 (v := 4) (by decide) ?_
  refine zr_callV2 hE eX12_heightOf_9 lX12_63 zs57 rfl rfl (by decide) (Nat.le_of_ble_eq_true rfl) (c_X12_get 4 (vpn xl.1 (by decide)) rfl (by decide) ?_)
  rw [nI_clamp (by have := xl.1; omega)]
  refine zr_istore_n hE eX12_heightOf_12 (by decide) rfl ?_
  refine zr_iconst hE eX12_heightOf_13 (v := 0) (by decide) ?_
  refine zr_istore hE eX12_heightOf_14 (by decide) rfl ?_
  exact ht_lp hs xl.1 hk hR hQ 10 0 _ (by decide) rfl rfl

