/-! The reference: heap, its second loop. -/
def l2F (F : Nat → Int32) (n : Nat) : Nat → Nat → ww → Nat ⊕ ww
  | 0, _, x => .inr x
  | k + 1, p, x => if p < n then (match stF F n p with
    | .inl _ => .inr x
    | .inr (q, vs) => match mtl x (x 58 0).toNatClampNeg (hrF F n p) vs with
      | none => .inl p
      | some x2 => l2F F n k q x2) else .inr x
/-- in a loop of telling: bowls as in x, the rest as in w but for the text's place and numbers -/
def Hi (w x u : ww) (p : Nat) : Prop := (∀ o, o ≠ 57 → o ≠ 58 → o ≠ 67 → u o = w o) ∧ (∀ k, k ≠ 11 → k ≠ 14 → u 57 k = w 57 k) ∧ u 57 11 = nI p ∧ u 58 = x 58
theorem Hi.ps {w x u : ww} {dn n p q : Nat} (h : Hi w x u q) (hP : Ps w dn n p) (hq : q ≤ 1000) : Ps u dn n q :=
  ⟨hP.1, hP.2.1, hq, (h.2.1 12 (by decide) (by decide)).trans hP.2.2.2.1, (h.2.1 13 (by decide) (by decide)).trans hP.2.2.2.2.1, h.2.2.1⟩
theorem Hi.fe {w x u : ww} {dn q : Nat} (h : Hi w x u q) : fE u dn = fE w dn := by
  funext j; unfold fE; rw [h.1 64 (by decide) (by decide) (by decide)]
theorem Mrw.of {x u : ww} {c : Nat} (h : Mrw x c) (e : u 58 = x 58) : Mrw u c := by
  have hB : mB u = mB x := by funext k b; unfold mB; rw [e]
  unfold Mrw
  rw [e, hB]; exact h
theorem opt58 {a b : Option ww} (h : a.map (fun u => u 58) = b.map (fun u => u 58)) : (b = none → a = none) ∧ (∀ y, b = some y → ∃ z, a = some z ∧ z 58 = y 58) := by
  cases a with
  | none => cases b with
    | none => exact ⟨fun _ => rfl, fun y q => by cases q⟩
    | some y => cases h
  | some z => cases b with
    | none => cases h
    | some y =>
      refine ⟨fun q => by (cases q), fun y2 q => ?_⟩
      cases q
      simp only [Option.map_some, Option.some.injEq] at h
      exact ⟨z, rfl, h⟩
theorem iso_nw {o : Option ww} (h : o.isSome = false) : o = none := by cases o with
  | none => rfl
  | some a => cases h
theorem iso_sw {o : Option ww} (h : o.isSome = true) : ∃ u, o = some u := by cases o with
  | none => cases h
  | some a => exact ⟨a, rfl⟩
set_option maxHeartbeats 4000000 in
theorem he_2 {G : zG} {w : ww} {Q : Option Value → ww → Prop} {dn n pz t : Nat} {d z : Int32} {r : Nat ⊕ ww} (hR : zR RX12 cX12_heap 7 5 (some .int) Q G) (hP0 : Ps w dn n pz)
    (hQ1 : ∀ p, r = .inl p → ∀ u : ww, (∀ o, o ≠ 57 → o ≠ 58 → o ≠ 67 → u o = w o) → (∀ k, k ≠ 11 → k ≠ 14 → u 57 k = w 57 k) → (∀ k, k < 52 → u 58 k = w 60 k) → Q (some (.int (-2000 - nI p))) u)
    (hQ2 : ∀ x, r = .inr x → ∀ u p, (∃ c, Mrw x c) → Hi w x u p → Q (some (.int (nI t))) u) :
    ∀ (k p cN : Nat) (x u : ww), n ≤ p + k → p ≤ n → Mrw x cN → Hi w x u p → (p < n → ∃ t0 r0, l1F (fE w dn) n k p t0 = .inr r0) → l2F (fE w dn) n k p x = r → G 84 [some (.ref 57), some (.int d), some (.int z), some (.int (nI t)), none, none, none] [] u := by
  have hE := hR.1
  intro k
  induction k with
  | zero =>
    intro p cN x u h1 h2 hM hu hl hr
    have hn100 := hP0.2.1
    have hP := hu.ps hP0 (by omega)
    refine zr_aload_n hE eX12_heap_84 rfl ?_
    refine zr_getI hE eX12_heap_85 fX12_93 zs57 rfl ?_
    rw [hu.2.2.1]
    refine zr_aload_n hE eX12_heap_88 rfl ?_
    refine zr_getI hE eX12_heap_89 fX12_96 zs57 rfl ?_
    rw [(hu.2.1 13 (by decide) (by decide)).trans hP0.2.2.2.2.1]
    refine zr_kicmp_ge hE eX12_heap_92 (tgt := 143) (by decide) (fun zc92 zd92 => ?_) (fun zc92 zd92 => absurd zc92 (by rw [nI_ltI (by omega) (by omega)]; omega))
    refine zr_iload_n hE eX12_heap_143 rfl ?_
    refine hR.2.1 _ _ _ _ _ _ eX12_heap_144 rfl rfl ?_
    rw [l2F] at hr
    exact hQ2 x hr.symm u p ⟨_, hM⟩ hu
  | succ k ih =>
    intro p cN x u h1 h2 hM hu hl hr
    have hn100 := hP0.2.1
    have hP := hu.ps hP0 (by omega)
    have hcc : (x 58 0).toNatClampNeg = cN := by rw [hM.2.1, nI_clamp (by have := hM.1; omega)]
    by_cases hpn : p < n
    · obtain ⟨t0, r0, hl⟩ := hl hpn
      obtain ⟨q, vs, eq⟩ : ∃ q vs, stF (fE w dn) n p = .inr (q, vs) := by
        rw [l1F] at hl
        cases e : stF (fE w dn) n p with
        | inl q => rw [e] at hl; cases hl
        | inr y => exact ⟨y.1, y.2, rfl⟩
      have hb := stF_bd eq
      rw [l1F, eq] at hl
      have hl2 : (if q < n then l1F (fE w dn) n k q (t0 + 1) else .inr (t0 + 1)) = .inr r0 := hl
      refine zr_aload_n hE eX12_heap_84 rfl ?_
      refine zr_getI hE eX12_heap_85 fX12_93 zs57 rfl ?_
      rw [hu.2.2.1]
      refine zr_aload_n hE eX12_heap_88 rfl ?_
      refine zr_getI hE eX12_heap_89 fX12_96 zs57 rfl ?_
      rw [(hu.2.1 13 (by decide) (by decide)).trans hP0.2.2.2.2.1]
      refine zr_kicmp_ge hE eX12_heap_92 (tgt := 143) (by decide) (fun zc92 zd92 => absurd ((nI_ltI (by omega) (by omega)).mpr hpn) zc92) (fun zc92 zd92 => ?_)
      refine zr_aload_n hE eX12_heap_95 rfl ?_
      refine zr_getI hE eX12_heap_96 fX12_93 zs57 rfl ?_
      rw [hu.2.2.1]
      refine zr_istore hE eX12_heap_99 (by decide) rfl ?_
      refine zr_aload_n hE eX12_heap_101 rfl ?_
      refine zr_callV0 hE eX12_heap_102 lX12_102 zs57 rfl rfl (by decide) (Nat.le_of_ble_eq_true rfl) (c_X12_here hP ?_)
      rw [hu.fe]
      refine zr_istore hE eX12_heap_105 (by decide) rfl ?_
      refine zr_aload_n hE eX12_heap_107 rfl ?_
      refine zr_callV0 hE eX12_heap_108 lX12_135 zs57 rfl rfl (by decide) (Nat.le_of_ble_eq_true rfl) (c_rs3 hP (by omega) (by rw [hu.fe]; exact eq) (fun u2 hu2 hs2 => ?_))
      refine zr_istore hE eX12_heap_111 (by decide) rfl ?_
      have xM : Mrw u2 cN := hM.of ((hu2.1 58 (by decide) (by decide)).trans hu.2.2.2)
      rw [hu.fe] at hs2
      refine zr_aload_n hE eX12_heap_113 rfl ?_
      refine zr_iload hE eX12_heap_114 rfl ?_
      refine zr_callV1 hE eX12_heap_116 lX12_142 zs57 rfl rfl (by decide) (Nat.le_of_ble_eq_true rfl) (c_X12_comesTold xM.mow (vs := vs) hs2 ?_)
      have x58 : u2 58 = x 58 := (hu2.1 58 (by decide) (by decide)).trans hu.2.2.2
      have xo := opt58 (mtl_58 x58 cN (hrF (fE w dn) n p) vs)
      refine zr_bne hE eX12_heap_119 (tgt := 140) (by decide) (fun zc119 => ?_) (fun zc119 => ?_)
      · refine zr_goto hE eX12_heap_140 (tgt := 84) (by decide) ?_
        obtain ⟨u3, e3⟩ := iso_sw zc119
        have e4 : ∃ x2, mtl x cN (hrF (fE w dn) n p) vs = some x2 ∧ u3 58 = x2 58 := by
          cases e5 : mtl x cN (hrF (fE w dn) n p) vs with
          | none => have e6 := xo.1 e5; rw [e3] at e6; cases e6
          | some y =>
            obtain ⟨z, e6, e7⟩ := xo.2 y e5
            rw [e3] at e6; cases e6
            exact ⟨y, rfl, e7⟩
        obtain ⟨x2, e4, e7⟩ := e4
        have hv := stF_vs eq
        obtain ⟨⟨c2, hM2⟩, _⟩ := mtl_ok hM hv e4
        have hoff := (mtl_ok xM hv e3).2
        rw [e3]
        show G _ _ _ u3
        rw [l2F, if_pos hpn, eq] at hr
        simp only [hcc, e4] at hr
        refine zr_mask hE [true, true, true, true, false, false, false] ?_
        refine ih q c2 x2 u3 (by omega) (by omega) hM2 ⟨fun o h1 h2 h3 => ?_, fun k h1 h2 => ?_, ?_, e7⟩ (fun hq => ?_) hr
        · rw [hoff o h2]; exact (hu2.1 o h1 h3).trans (hu.1 o h1 h2 h3)
        · rw [hoff 57 (by decide)]; exact (hu2.2.1 k h1 h2).trans (hu.2.1 k h1 h2)
        · rw [hoff 57 (by decide)]; exact hu2.2.2
        · rw [if_pos hq] at hl2
          exact ⟨t0 + 1, r0, hl2⟩
      · refine zr_aload_n hE eX12_heap_122 rfl ?_
        refine zr_getR hE eX12_heap_123 fX12_16 zs57 rfl ?_
        refine zr_aload_n hE eX12_heap_126 rfl ?_
        refine zr_getR hE eX12_heap_127 fX12_9 zs57 rfl ?_
        refine zr_callS2 hE eX12_heap_130 lX12_138 (by decide) (Nat.le_of_ble_eq_true rfl) (c_X12_lays zs60 zs58 (by decide) (fun u4 hu4a hu4b => ?_))
        refine zr_sipush hE eX12_heap_133 (v := -2000) (by decide) ?_
        refine zr_iload hE eX12_heap_136 rfl ?_
        show G _ _ (.int (nI p) :: .int (-2000) :: _) _
        refine zr_isub hE eX12_heap_138 ?_
        refine hR.2.1 _ _ _ _ _ _ eX12_heap_139 rfl rfl ?_
        have e3 := iso_nw zc119
        have e4 : mtl x cN (hrF (fE w dn) n p) vs = none := by
          cases e5 : mtl x cN (hrF (fE w dn) n p) vs with
          | none => rfl
          | some y => obtain ⟨z, e6, _⟩ := xo.2 y e5; rw [e3] at e6; cases e6
        rw [l2F, if_pos hpn, eq] at hr
        simp only [hcc, e4] at hr
        rw [e3] at hu4a hu4b
        refine hQ1 p hr.symm u4 (fun o h1 h2 h3 => ?_) (fun k h1 h2 => ?_) (fun k hk => ?_)
        · rw [hu4a o h2]; exact (hu2.1 o h1 h3).trans (hu.1 o h1 h2 h3)
        · rw [hu4a 57 (by decide)]; exact (hu2.2.1 k h1 h2).trans (hu.2.1 k h1 h2)
        · rw [hu4b k hk]; show u2 60 k = w 60 k; rw [hu2.1 60 (by decide) (by decide), hu.1 60 (by decide) (by decide) (by decide)]
    · refine zr_aload_n hE eX12_heap_84 rfl ?_
      refine zr_getI hE eX12_heap_85 fX12_93 zs57 rfl ?_
      rw [hu.2.2.1]
      refine zr_aload_n hE eX12_heap_88 rfl ?_
      refine zr_getI hE eX12_heap_89 fX12_96 zs57 rfl ?_
      rw [(hu.2.1 13 (by decide) (by decide)).trans hP0.2.2.2.2.1]
      refine zr_kicmp_ge hE eX12_heap_92 (tgt := 143) (by decide) (fun zc92 zd92 => ?_) (fun zc92 zd92 => absurd zc92 (by rw [nI_ltI (by omega) (by omega)]; omega))
      refine zr_iload_n hE eX12_heap_143 rfl ?_
      refine hR.2.1 _ _ _ _ _ _ eX12_heap_144 rfl rfl ?_
      rw [l2F, if_neg hpn] at hr
      exact hQ2 x hr.symm u p ⟨_, hM⟩ hu
/-- heap: rows, text's place and image of the heap may change -/
def Hrw (w u : ww) : Prop := (∀ o, o ≠ 57 → o ≠ 58 → o ≠ 60 → o ≠ 67 → u o = w o) ∧ ∀ k, k ≠ 11 → k ≠ 12 → k ≠ 13 → k ≠ 14 → u 57 k = w 57 k
set_option maxHeartbeats 4000000 in
theorem c_X12_heap {cN : Nat} {d : Int32} {w : ww} {Q : Option Value → ww → Prop} (hM : Mrw w cN) (hZ : Msz w) (hQ0 : ¬ mrR w d 0 = 0 → Q (some (.int (mrR w d 0))) w)
    (hQ1 : mrR w d 0 = 0 → ∀ dn n, dn < 8 → d = nI dn → n ≤ 100 → w 63 dn = nI n → ∀ q, l1F (fE w dn) n (n + 1) 0 0 = .inl q → ∀ u, Hrw w u → u 58 = w 58 → Q (some (.int (-1000 - nI q))) u)
    (hQ2 : mrR w d 0 = 0 → ∀ dn n, dn < 8 → d = nI dn → n ≤ 100 → w 63 dn = nI n → ∀ t, l1F (fE w dn) n (n + 1) 0 0 = .inr t → ∀ p, l2F (fE w dn) n (n + 1) 0 w = .inl p → ∀ u, Hrw w u → (∀ k, k < 52 → u 58 k = w 58 k) → Q (some (.int (-2000 - nI p))) u)
    (hQ3 : mrR w d 0 = 0 → ∀ dn n, dn < 8 → d = nI dn → n ≤ 100 → w 63 dn = nI n → ∀ t, l1F (fE w dn) n (n + 1) 0 0 = .inr t → ∀ x, l2F (fE w dn) n (n + 1) 0 w = .inr x → ∀ u, Hrw w u → u 58 = x 58 → (∃ c, Mrw x c) → Q (some (.int (nI t))) u) : Ct mX12_heap 5 [.ref 57, .int d] w Q := by
  refine Ct.of (by decide) (Nat.le_of_ble_eq_true rfl) (fun _ => Nat.le_of_ble_eq_true rfl) (fun G hR => ?_)
  have hE := hR.1
  refine zr_aload_n hE eX12_heap_0 rfl ?_
  refine zr_iload_n hE eX12_heap_1 rfl ?_
  refine zr_iconst hE eX12_heap_2 (v := 0) (by decide) ?_
  refine zr_callV2 hE eX12_heap_3 lX12_132 zs57 rfl rfl (by decide) (Nat.le_of_ble_eq_true rfl) (c_X12_wrongRow ?_)
  refine zr_istore_n hE eX12_heap_6 (by decide) rfl ?_
  refine zr_iload_n hE eX12_heap_7 rfl ?_
  refine zr_if_eq hE eX12_heap_8 (tgt := 13) (by decide) (fun zc8 => ?_) (fun zc8 => ?_)
  · obtain ⟨dn, hdn, rfl⟩ := mrR_0 zc8
    have xe1 : (nI dn).toNatClampNeg = dn := nI_clamp (by omega)
    obtain ⟨n, hn100, hzn⟩ := hZ dn hdn
    refine zr_aload_n hE eX12_heap_13 rfl ?_
    refine zr_bipush hE eX12_heap_14 (v := 100) (by decide) ?_
    refine zr_iload_n hE eX12_heap_16 rfl ?_
    refine zr_imul hE eX12_heap_17 ?_
    show G _ _ (.int ((100 : Int32) * nI dn) :: _) _
    rw [show (100 : Int32) * nI dn = nI (100 * dn) by rw [show (100 : Int32) = nI 100 from rfl, nI_mulN]]
    refine zr_put hE eX12_heap_18 gX12_99 zs57 rfl rfl rfl ?_
    refine zr_aload_n hE eX12_heap_21 rfl ?_
    refine zr_aload_n hE eX12_heap_22 rfl ?_
    refine zr_getR hE eX12_heap_23 fX12_25 zs57 rfl ?_
    refine zr_iload_n hE eX12_heap_26 rfl ?_
    refine zr_iald hE eX12_heap_27 zs63 (vpn hdn (by decide)) ?_
    rw [xe1, wu_ne (by decide), hzn]
    refine zr_put hE eX12_heap_28 gX12_96 zs57 rfl rfl rfl ?_
    refine zr_aload_n hE eX12_heap_31 rfl ?_
    refine zr_iconst hE eX12_heap_32 (v := 0) (by decide) ?_
    refine zr_put hE eX12_heap_33 gX12_93 zs57 rfl rfl rfl ?_
    refine zr_iconst hE eX12_heap_36 (v := 0) (by decide) ?_
    refine zr_istore_n hE eX12_heap_37 (by decide) rfl ?_
    obtain ⟨w1, hw1⟩ : ∃ w1, w1 = wu (wu (wu w 57 12 (nI (100 * dn))) 57 13 (nI n)) 57 11 0 := ⟨_, rfl⟩
    show G 38 _ _ (wu (wu (wu w 57 12 (nI (100 * dn))) 57 13 (nI n)) 57 11 0)
    rw [← hw1]
    have ho : ∀ o, o ≠ 57 → w1 o = w o := fun o h => by rw [hw1]; funext z; rw [wu_ne h, wu_ne h, wu_ne h]
    have hk : ∀ k, k ≠ 11 → k ≠ 12 → k ≠ 13 → w1 57 k = w 57 k := fun k a b c => by rw [hw1, wu_nj a, wu_nj c, wu_nj b]
    have hP : Ps w1 dn n 0 := ⟨hdn, hn100, by decide, by rw [hw1, wu_nj (by decide), wu_nj (by decide), wu_eq], by rw [hw1, wu_nj (by decide), wu_eq], by rw [hw1, wu_eq]; rfl⟩
    have hfe : fE w1 dn = fE w dn := by funext j; unfold fE; rw [ho 64 (by decide)]
    refine he_1 (w := w1) (r := l1F (fE w1 dn) n (n + 1) 0 0) hR hP (fun q e u hu => ?_) (fun t e u q hu => ?_) n 0 0 w1 (by omega) (Nat.zero_le _) (Prw.rf hP.2.2.2.2.2) rfl
    · refine hQ1 zc8 dn n hdn rfl hn100 hzn q (by rw [← hfe]; exact e) u ⟨fun o a b c d => (hu.1 o a d).trans (ho o a), fun k a b c d => (hu.2.1 k a d).trans (hk k a b c)⟩ ((hu.1 58 (by decide) (by decide)).trans (ho 58 (by decide)))
    · refine zr_aload_n hE eX12_heap_68 rfl ?_
      refine zr_getR hE eX12_heap_69 fX12_9 zs57 rfl ?_
      refine zr_aload_n hE eX12_heap_72 rfl ?_
      refine zr_getR hE eX12_heap_73 fX12_16 zs57 rfl ?_
      refine zr_callS2 hE eX12_heap_76 lX12_138 (by decide) (Nat.le_of_ble_eq_true rfl) (c_X12_lays zs58 zs60 (by decide) (fun u2 hu2a hu2b => ?_))
      refine zr_aload_n hE eX12_heap_79 rfl ?_
      refine zr_iconst hE eX12_heap_80 (v := 0) (by decide) ?_
      refine zr_put hE eX12_heap_81 gX12_93 zs57 rfl rfl rfl ?_
      have hx : Hi (wu u2 57 11 0) (wu u2 57 11 0) (wu u2 57 11 0) 0 := ⟨fun _ _ _ _ => rfl, fun _ _ _ => rfl, wu_eq, rfl⟩
      have hg : ∀ o, o ≠ 57 → o ≠ 60 → o ≠ 67 → (wu u2 57 11 0) o = w o := fun o a b c => by
        rw [← ho o a, ← hu.1 o a c, ← hu2a o b]; funext z; rw [wu_ne a]
      have hg57 : ∀ k, k ≠ 11 → k ≠ 12 → k ≠ 13 → k ≠ 14 → (wu u2 57 11 0) 57 k = w 57 k := fun k a b c d => by
        rw [wu_nj a, hu2a 57 (by decide), hu.2.1 k a d, hk k a b c]
      have h58 : (wu u2 57 11 0) 58 = w 58 := hg 58 (by decide) (by decide) (by decide)
      have hP2 : Ps (wu u2 57 11 0) dn n 0 := ⟨hdn, hn100, by decide, by rw [wu_nj (by decide), hu2a 57 (by decide), hu.2.1 12 (by decide) (by decide)]; exact hP.2.2.2.1, by rw [wu_nj (by decide), hu2a 57 (by decide), hu.2.1 13 (by decide) (by decide)]; exact hP.2.2.2.2.1, wu_eq⟩
      have hfe2 : fE (wu u2 57 11 0) dn = fE w dn := by funext j; unfold fE; rw [hg 64 (by decide) (by decide) (by decide)]
      refine he_2 (w := wu u2 57 11 0) (r := l2F (fE w dn) n (n + 1) 0 w) hR hP2 (fun p e2 u3 h1 h2 h3 => ?_) (fun x e2 u3 p hc hh => ?_) (n + 1) 0 cN w (wu u2 57 11 0) (by omega) (Nat.zero_le _) hM ⟨fun _ _ _ _ => rfl, fun _ _ _ => rfl, wu_eq, h58⟩ (fun _ => ⟨0, t, by rw [hfe2, ← hfe]; exact e⟩) (by rw [hfe2])
      · refine hQ2 zc8 dn n hdn rfl hn100 hzn t (by rw [← hfe]; exact e) p e2 u3 ⟨fun o a b c d => (h1 o a b d).trans (hg o a c d), fun k a b c d => (h2 k a d).trans (hg57 k a b c d)⟩ (fun k hk2 => ?_)
        rw [h3 k hk2, wu_ne (by decide), hu2b k hk2, hu.1 58 (by decide) (by decide), ho 58 (by decide)]
      · exact hQ3 zc8 dn n hdn rfl hn100 hzn t (by rw [← hfe]; exact e) x e2 u3 ⟨fun o a b c d => (hh.1 o a b d).trans (hg o a c d), fun k a b c d => (hh.2.1 k a d).trans (hg57 k a b c d)⟩ hh.2.2.2 hc
  · refine zr_iload_n hE eX12_heap_11 rfl ?_
    refine hR.2.1 _ _ _ _ _ _ eX12_heap_12 rfl rfl ?_
    exact hQ0 zc8

