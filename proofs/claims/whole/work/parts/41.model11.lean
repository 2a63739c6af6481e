/-! The reference: lays, image, restore, price, keep. -/
set_option maxHeartbeats 4000000 in
theorem ly_lp {G : zG} {w : ww} {Q : Option Value → ww → Prop} {p q : Nat} (hp : zshapes[p]? = some (zia 52)) (hq : zshapes[q]? = some (zia 52)) (hne : p ≠ q) (hR : zR RX12 cX12_lays 3 1 none Q G) (hQ : ∀ u : ww, (∀ o, o ≠ q → u o = w o) → (∀ k, k < 52 → u q k = w p k) → Q none u) :
    ∀ (d n : Nat) (u : ww), n ≤ 52 → 52 - n = d → (∀ o, o ≠ q → u o = w o) → (∀ k, k < n → u q k = w p k) → G 2 [some (.ref p), some (.ref q), some (.int (nI n))] [] u := by
  have hE := hR.1
  intro d
  induction d with
  | zero =>
    intro n u h1 h2 hf hv
    have hn : n = 52 := by omega
    refine zr_iload_n hE eX12_lays_2 rfl ?_
    refine zr_bipush hE eX12_lays_3 (v := 52) (by decide) ?_
    refine zr_kicmp_ge hE eX12_lays_5 (tgt := 20) (by decide) (fun zc5 zd5 => ?_) (fun zc5 zd5 => absurd zc5 (by subst hn; decide))
    refine hR.2.2.2 _ _ _ _ eX12_lays_20 rfl ?_
    exact hQ u hf (fun k hk => hv k (by omega))
  | succ d ih =>
    intro n u h1 h2 hf hv
    have hn : n < 52 := by omega
    refine zr_iload_n hE eX12_lays_2 rfl ?_
    refine zr_bipush hE eX12_lays_3 (v := 52) (by decide) ?_
    refine zr_kicmp_ge hE eX12_lays_5 (tgt := 20) (by decide) (fun zc5 zd5 => absurd ((nI_ltI (by omega) (by decide)).mpr hn) zc5) (fun zc5 zd5 => ?_)
    refine zr_aload_n hE eX12_lays_8 rfl ?_
    refine zr_iload_n hE eX12_lays_9 rfl ?_
    refine zr_aload_n hE eX12_lays_10 rfl ?_
    refine zr_iload_n hE eX12_lays_11 rfl ?_
    refine zr_iald hE eX12_lays_12 hp (vpn hn (by decide)) ?_
    refine zr_iast hE eX12_lays_13 hq (vpn hn (by decide)) ?_
    refine zr_iincN hE eX12_lays_14 rfl (by decide) rfl ?_
    refine zr_goto hE eX12_lays_17 (tgt := 2) (by decide) ?_
    have ez : (nI n).toNatClampNeg = n := nI_clamp (by omega)
    rw [ez]
    refine ih (n + 1) _ (by omega) (by omega) (fun o ho => ?_) (fun k hk => ?_)
    · rw [← hf o ho]; funext z; exact wu_ne ho
    · by_cases q1 : k = n
      · rw [q1, wu_eq, hf p hne]
      · rw [wu_nj q1]; exact hv k (by omega)
set_option maxHeartbeats 4000000 in
theorem c_X12_lays {p q : Nat} {w : ww} {Q : Option Value → ww → Prop} (hp : zshapes[p]? = some (zia 52)) (hq : zshapes[q]? = some (zia 52)) (hne : p ≠ q) (hQ : ∀ u : ww, (∀ o, o ≠ q → u o = w o) → (∀ k, k < 52 → u q k = w p k) → Q none u) : Ct mX12_lays 1 [.ref p, .ref q] w Q := by
  refine Ct.of (by decide) (Nat.le_of_ble_eq_true rfl) (fun _ => Nat.le_of_ble_eq_true rfl) (fun G hR => ?_)
  have hE := hR.1
  refine zr_iconst hE eX12_lays_0 (v := 0) (by decide) ?_
  refine zr_istore_n hE eX12_lays_1 (by decide) rfl ?_
  exact ly_lp hp hq hne hR hQ 52 0 w (Nat.zero_le _) rfl (fun _ _ => rfl) (fun k hk => absurd hk (by omega))

set_option maxHeartbeats 4000000 in
theorem c_X12_image  {w : ww} {Q : Option Value → ww → Prop} (hQ : ∀ u : ww, (∀ o, o ≠ 59 → u o = w o) → (∀ k, k < 52 → u 59 k = w 58 k) → Q (some (.int (w 58 0))) (wu u 57 9 1)) : Ct mX12_image 2 [.ref 57] w Q := by
  refine Ct.of (by decide) (Nat.le_of_ble_eq_true rfl) (fun _ => Nat.le_of_ble_eq_true rfl) (fun G hR => ?_)
  have hE := hR.1
  refine zr_aload_n hE eX12_image_0 rfl ?_
  refine zr_getR hE eX12_image_1 fX12_9 zs57 rfl ?_
  refine zr_aload_n hE eX12_image_4 rfl ?_
  refine zr_getR hE eX12_image_5 fX12_13 zs57 rfl ?_
  refine zr_callS2 hE eX12_image_8 lX12_138 (by decide) (Nat.le_of_ble_eq_true rfl) (c_X12_lays zs58 zs59 (by decide) (fun u hf hv => ?_))
  refine zr_aload_n hE eX12_image_11 rfl ?_
  refine zr_iconst hE eX12_image_12 (v := 1) (by decide) ?_
  refine zr_put hE eX12_image_13 gX12_229 zs57 rfl rfl rfl ?_
  refine zr_aload_n hE eX12_image_16 rfl ?_
  refine zr_getR hE eX12_image_17 fX12_9 zs57 rfl ?_
  refine zr_iconst hE eX12_image_20 (v := 0) (by decide) ?_
  refine zr_iald hE eX12_image_21 zs58 (by unfold vp_in; decide) ?_
  refine hR.2.1 _ _ _ _ _ _ eX12_image_22 rfl rfl ?_
  refine zq (hQ u hf hv) ?_
  rw [← hf 58 (by decide)]
  exact (wu_ne (by decide)).symm

set_option maxHeartbeats 4000000 in
theorem c_X12_restore  {w : ww} {Q : Option Value → ww → Prop} (hQ1 : w 57 9 = 0 → Q (some (.int (-3))) w) (hQ2 : ¬ w 57 9 = 0 → ∀ u : ww, (∀ o, o ≠ 58 → u o = w o) → (∀ k, k < 52 → u 58 k = w 59 k) → Q (some (.int (u 58 0))) u) : Ct mX12_restore 2 [.ref 57] w Q := by
  refine Ct.of (by decide) (Nat.le_of_ble_eq_true rfl) (fun _ => Nat.le_of_ble_eq_true rfl) (fun G hR => ?_)
  have hE := hR.1
  refine zr_aload_n hE eX12_restore_0 rfl ?_
  refine zr_getI hE eX12_restore_1 fX12_229 zs57 rfl ?_
  refine zr_if_ne hE eX12_restore_4 (tgt := 10) (by decide) (fun zc4 => ?_) (fun zc4 => ?_)
  · refine zr_aload_n hE eX12_restore_10 rfl ?_
    refine zr_getR hE eX12_restore_11 fX12_13 zs57 rfl ?_
    refine zr_aload_n hE eX12_restore_14 rfl ?_
    refine zr_getR hE eX12_restore_15 fX12_9 zs57 rfl ?_
    refine zr_callS2 hE eX12_restore_18 lX12_138 (by decide) (Nat.le_of_ble_eq_true rfl) (c_X12_lays zs59 zs58 (by decide) (fun u hf hv => ?_))
    refine zr_aload_n hE eX12_restore_21 rfl ?_
    refine zr_getR hE eX12_restore_22 fX12_9 zs57 rfl ?_
    refine zr_iconst hE eX12_restore_25 (v := 0) (by decide) ?_
    refine zr_iald hE eX12_restore_26 zs58 (by unfold vp_in; decide) ?_
    refine hR.2.1 _ _ _ _ _ _ eX12_restore_27 rfl rfl ?_
    exact hQ2 zc4 u hf hv
  · refine zr_bipush hE eX12_restore_7 (v := -3) (by decide) ?_
    refine hR.2.1 _ _ _ _ _ _ eX12_restore_9 rfl rfl ?_
    exact hQ1 zc4

