/-! The reference: readsStatement. -/
def v5 (a b c d e : Int32) : Nat → Int32
  | 0 => a
  | 1 => b
  | 2 => c
  | 3 => d
  | _ => e
def bnd {γ : Type} (o : Option (Nat × Int32)) (p : Nat) (k : Nat → Int32 → Nat ⊕ γ) : Nat ⊕ γ := match o with
  | none => .inl p
  | some (q, v) => k q v
theorem bnd_n {γ : Type} {o : Option (Nat × Int32)} {p : Nat} {k : Nat → Int32 → Nat ⊕ γ} (h : o = none) : bnd o p k = .inl p := by subst h; rfl
theorem bnd_s {γ : Type} {o : Option (Nat × Int32)} {p q : Nat} {v : Int32} {k : Nat → Int32 → Nat ⊕ γ} (h : o = some (q, v)) : bnd o p k = k q v := by subst h; rfl
/-- a statement read at a place: the place that can't be gone on with, or the place behind it and its numbers -/
def stF (F : Nat → Int32) (n p : Nat) : Nat ⊕ (Nat × (Nat → Int32)) :=
  if hrF F n p = 98 then bnd (rnF F n 1 (p + 1)) (p + 1) fun p1 a => bnd (rnF F n 1 p1) p1 fun p2 b => bnd (rnF F n 1 p2) p2 fun p3 c => bnd (rnF F n 2 p3) p3 fun p4 d => if hrF F n p4 = 44 then bnd (rnF F n 2 (p4 + 1)) (p4 + 1) fun p5 e => if hrF F n p5 = 59 then .inr (p5 + 1, v5 a b c d e) else .inl p5 else .inl p4
  else if hrF F n p = 116 ∨ hrF F n p = 119 then bnd (rnF F n 1 (p + 1)) (p + 1) fun p1 a => if hrF F n p1 = 59 then .inr (p1 + 1, v5 a 0 0 0 0) else .inl p1
  else if hrF F n p = 120 then (if hrF F n (p + 1) = 59 then .inr (p + 2, v5 0 0 0 0 0) else .inl (p + 1)) else .inl p
/-- what has been read stands in the numbers -/
def SR (c : Int32) (vs : Nat → Int32) (u : ww) : Prop := (¬ c = 120 → u 67 0 = vs 0) ∧ (c = 98 → ∀ j, j < 5 → u 67 j = vs j)
theorem iso_n {o : Option (Nat × Int32)} (h : o.isSome = false) : o = none := by cases o with
  | none => rfl
  | some a => cases h
theorem iso_s {o : Option (Nat × Int32)} (h : o.isSome = true) : ∃ q v, o = some (q, v) := by cases o with
  | none => cases h
  | some a => exact ⟨a.1, a.2, rfl⟩
theorem dgF_n {F : Nat → Int32} {n p : Nat} (h : dgF F n p = true) : p < n := Decidable.byContradiction fun q => by
  unfold dgF hrF at h
  rw [if_neg q] at h
  exact absurd h (by decide)
theorem rnF_le {F : Nat → Int32} {n p q : Nat} {m v : Int32} (h : rnF F n m p = some (q, v)) : p < q ∧ q ≤ n := by
  unfold rnF at h
  by_cases q1 : dgF F n p = true
  · rw [if_pos q1] at h
    have := dgF_n q1
    by_cases q2 : 1 < m ∧ 0 < hrF F n p - 48 ∧ dgF F n (p + 1) = true
    · rw [if_pos q2] at h
      have := dgF_n q2.2.2
      cases h; omega
    · rw [if_neg q2] at h; cases h; omega
  · rw [if_neg q1] at h; cases h
theorem hrF_n {F : Nat → Int32} {n p : Nat} {c : Int32} (h : hrF F n p = c) (hc : ¬ c = -1000) : p < n := Decidable.byContradiction fun q => by
  unfold hrF at h
  rw [if_neg q] at h
  exact hc h.symm
set_option maxHeartbeats 4000000 in
theorem c_X12_readsStatement {dn n p : Nat} {w : ww} {Q : Option Value → ww → Prop} (hP : Ps w dn n p) (hp : p ≤ 100) (hQ1 : ∀ q u, stF (fE w dn) n p = .inl q → Prw w u q → Q (some (.int 0)) u) (hQ2 : ∀ q vs u, stF (fE w dn) n p = .inr (q, vs) → Prw w u q → SR (hrF (fE w dn) n p) vs u → Q (some (.int 1)) u) : Ct mX12_readsStatement 4 [.ref 57] w Q := by
  refine Ct.of (by decide) (Nat.le_of_ble_eq_true rfl) (fun _ => Nat.le_of_ble_eq_true rfl) (fun G hR => ?_)
  have hE := hR.1
  refine zr_aload_n hE eX12_readsStatement_0 rfl ?_
  refine zr_callV0 hE eX12_readsStatement_1 lX12_102 zs57 rfl rfl (by decide) (Nat.le_of_ble_eq_true rfl) (c_X12_here hP ?_)
  refine zr_istore_n hE eX12_readsStatement_4 (by decide) rfl ?_
  refine zr_aload_n hE eX12_readsStatement_5 rfl ?_
  refine zr_iconst hE eX12_readsStatement_6 (v := 0) (by decide) ?_
  refine zr_put hE eX12_readsStatement_7 gX12_113 zs57 rfl rfl rfl ?_
  refine zr_iconst hE eX12_readsStatement_10 (v := 0) (by decide) ?_
  refine zr_istore_n hE eX12_readsStatement_11 (by decide) rfl ?_
  refine zr_aload_n hE eX12_readsStatement_12 rfl ?_
  refine zr_dup hE eX12_readsStatement_13 rfl ?_
  refine zr_getI hE eX12_readsStatement_14 fX12_93 zs57 rfl ?_
  refine zr_iconst hE eX12_readsStatement_17 (v := 1) (by decide) ?_
  rw [wu_nj (by decide), hP.2.2.2.2.2]
  refine zr_iadd hE eX12_readsStatement_18 ?_
  show G _ _ (.int (nI p + 1) :: _) _
  rw [nI_1]
  refine zr_put hE eX12_readsStatement_19 gX12_93 zs57 rfl rfl rfl ?_
  obtain ⟨u0, hu0⟩ : ∃ u0, u0 = wu (wu w 57 14 0) 57 11 (nI (p + 1)) := ⟨_, rfl⟩
  rw [← hu0]
  have hW0 : Prw w u0 (p + 1) := by
    rw [hu0]
    refine ⟨fun o a b => ?_, fun k a b => ?_, wu_eq⟩
    · funext z; rw [wu_ne a, wu_ne a]
    · rw [wu_nj a, wu_nj b]
  have ht0 : u0 57 14 = nI 0 := by rw [hu0, wu_nj (by decide), wu_eq]; rfl
  have h67_0 : u0 67 = w 67 := by rw [hu0]; funext z; rw [wu_ne (by decide), wu_ne (by decide)]
  have hP0 := hW0.ps hP (by omega)
  have hF0 : fE u0 dn = fE w dn := hW0.fe
  refine zr_iload_n hE eX12_readsStatement_22 rfl ?_
  refine zr_lswK hE eX12_readsStatement_23 (by decide) (98) (41) 64 (98) (by decide) (by decide) (by decide) (fun zk23_98 => ?_) (fun zk23_98 => ?_)
  · refine zr_aload_n hE eX12_readsStatement_64 rfl ?_
    refine zr_iconst hE eX12_readsStatement_65 (v := 1) (by decide) ?_
    refine zr_callV1 hE eX12_readsStatement_66 lX12_116 zs57 rfl rfl (by decide) (Nat.le_of_ble_eq_true rfl) (c_X12_readsNumber hP0 (t := 0) (by decide) ht0 (fun u1 hu1 => ?_))
    rw [hF0] at hu1 ⊢
    refine zr_beq hE eX12_readsStatement_69 (tgt := 117) (by decide) (fun zc69 => ?_) (fun zc69 => ?_)
    · refine zr_iconst hE eX12_readsStatement_117 (v := 0) (by decide) ?_
      refine zr_istore_n hE eX12_readsStatement_118 (by decide) rfl ?_
      refine zr_goto hE eX12_readsStatement_119 (tgt := 148) (by decide) ?_
      refine zr_iload_n hE eX12_readsStatement_148 rfl ?_
      refine zr_if_eq hE eX12_readsStatement_149 (tgt := 165) (by decide) (fun _ => ?_) (fun zc149 => absurd zc149 (by decide))
      refine zr_iconst hE eX12_readsStatement_165 (v := 0) (by decide) ?_
      refine hR.2.1 _ _ _ _ _ _ eX12_readsStatement_166 rfl rfl ?_
      have e1 := iso_n zc69
      rw [e1] at hu1
      have hu1 : u1 = u0 := hu1
      rw [hu1]
      exact hQ1 _ _ (by rw [stF, if_pos zk23_98, bnd_n e1]) hW0
    · obtain ⟨p1, a0, e1⟩ := iso_s zc69
      rw [e1] at hu1
      have hW1 := hW0.trans hu1.1
      have hl1 := rnF_le e1
      have hP1 := hW1.ps hP (by have := hP.2.1; omega)
      have hF1 : fE u1 dn = fE w dn := hW1.fe
      have ht1 := hu1.2.1
      have h67_1 := hu1.2.2
      rw [h67_0] at h67_1
      refine zr_aload_n hE eX12_readsStatement_72 rfl ?_
      refine zr_iconst hE eX12_readsStatement_73 (v := 1) (by decide) ?_
      refine zr_callV1 hE eX12_readsStatement_74 lX12_116 zs57 rfl rfl (by decide) (Nat.le_of_ble_eq_true rfl) (c_X12_readsNumber hP1 (t := 1) (by decide) ht1 (fun u2 hu2 => ?_))
      rw [hF1] at hu2 ⊢
      refine zr_beq hE eX12_readsStatement_77 (tgt := 117) (by decide) (fun zc77 => ?_) (fun zc77 => ?_)
      · refine zr_iconst hE eX12_readsStatement_117 (v := 0) (by decide) ?_
        refine zr_istore_n hE eX12_readsStatement_118 (by decide) rfl ?_
        refine zr_goto hE eX12_readsStatement_119 (tgt := 148) (by decide) ?_
        refine zr_iload_n hE eX12_readsStatement_148 rfl ?_
        refine zr_if_eq hE eX12_readsStatement_149 (tgt := 165) (by decide) (fun _ => ?_) (fun zc149 => absurd zc149 (by decide))
        refine zr_iconst hE eX12_readsStatement_165 (v := 0) (by decide) ?_
        refine hR.2.1 _ _ _ _ _ _ eX12_readsStatement_166 rfl rfl ?_
        have e2 := iso_n zc77
        rw [e2] at hu2
        have hu2 : u2 = u1 := hu2
        rw [hu2]
        exact hQ1 _ _ (by rw [stF, if_pos zk23_98, bnd_s e1, bnd_n e2]) hW1
      · obtain ⟨p2, a1, e2⟩ := iso_s zc77
        rw [e2] at hu2
        have hW2 := hW1.trans hu2.1
        have hl2 := rnF_le e2
        have hP2 := hW2.ps hP (by have := hP.2.1; omega)
        have hF2 : fE u2 dn = fE w dn := hW2.fe
        have ht2 := hu2.2.1
        have h67_2 := hu2.2.2
        rw [h67_1] at h67_2
        refine zr_aload_n hE eX12_readsStatement_80 rfl ?_
        refine zr_iconst hE eX12_readsStatement_81 (v := 1) (by decide) ?_
        refine zr_callV1 hE eX12_readsStatement_82 lX12_116 zs57 rfl rfl (by decide) (Nat.le_of_ble_eq_true rfl) (c_X12_readsNumber hP2 (t := 2) (by decide) ht2 (fun u3 hu3 => ?_))
        rw [hF2] at hu3 ⊢
        refine zr_beq hE eX12_readsStatement_85 (tgt := 117) (by decide) (fun zc85 => ?_) (fun zc85 => ?_)
        · refine zr_iconst hE eX12_readsStatement_117 (v := 0) (by decide) ?_
          refine zr_istore_n hE eX12_readsStatement_118 (by decide) rfl ?_
          refine zr_goto hE eX12_readsStatement_119 (tgt := 148) (by decide) ?_
          refine zr_iload_n hE eX12_readsStatement_148 rfl ?_
          refine zr_if_eq hE eX12_readsStatement_149 (tgt := 165) (by decide) (fun _ => ?_) (fun zc149 => absurd zc149 (by decide))
          refine zr_iconst hE eX12_readsStatement_165 (v := 0) (by decide) ?_
          refine hR.2.1 _ _ _ _ _ _ eX12_readsStatement_166 rfl rfl ?_
          have e3 := iso_n zc85
          rw [e3] at hu3
          have hu3 : u3 = u2 := hu3
          rw [hu3]
          exact hQ1 _ _ (by rw [stF, if_pos zk23_98, bnd_s e1, bnd_s e2, bnd_n e3]) hW2
        · obtain ⟨p3, a2, e3⟩ := iso_s zc85
          rw [e3] at hu3
          have hW3 := hW2.trans hu3.1
          have hl3 := rnF_le e3
          have hP3 := hW3.ps hP (by have := hP.2.1; omega)
          have hF3 : fE u3 dn = fE w dn := hW3.fe
          have ht3 := hu3.2.1
          have h67_3 := hu3.2.2
          rw [h67_2] at h67_3
          refine zr_aload_n hE eX12_readsStatement_88 rfl ?_
          refine zr_iconst hE eX12_readsStatement_89 (v := 2) (by decide) ?_
          refine zr_callV1 hE eX12_readsStatement_90 lX12_116 zs57 rfl rfl (by decide) (Nat.le_of_ble_eq_true rfl) (c_X12_readsNumber hP3 (t := 3) (by decide) ht3 (fun u4 hu4 => ?_))
          rw [hF3] at hu4 ⊢
          refine zr_beq hE eX12_readsStatement_93 (tgt := 117) (by decide) (fun zc93 => ?_) (fun zc93 => ?_)
          · refine zr_iconst hE eX12_readsStatement_117 (v := 0) (by decide) ?_
            refine zr_istore_n hE eX12_readsStatement_118 (by decide) rfl ?_
            refine zr_goto hE eX12_readsStatement_119 (tgt := 148) (by decide) ?_
            refine zr_iload_n hE eX12_readsStatement_148 rfl ?_
            refine zr_if_eq hE eX12_readsStatement_149 (tgt := 165) (by decide) (fun _ => ?_) (fun zc149 => absurd zc149 (by decide))
            refine zr_iconst hE eX12_readsStatement_165 (v := 0) (by decide) ?_
            refine hR.2.1 _ _ _ _ _ _ eX12_readsStatement_166 rfl rfl ?_
            have e4 := iso_n zc93
            rw [e4] at hu4
            have hu4 : u4 = u3 := hu4
            rw [hu4]
            exact hQ1 _ _ (by rw [stF, if_pos zk23_98, bnd_s e1, bnd_s e2, bnd_s e3, bnd_n e4]) hW3
          · obtain ⟨p4, a3, e4⟩ := iso_s zc93
            rw [e4] at hu4
            have hW4 := hW3.trans hu4.1
            have hl4 := rnF_le e4
            have hP4 := hW4.ps hP (by have := hP.2.1; omega)
            have hF4 : fE u4 dn = fE w dn := hW4.fe
            have ht4 := hu4.2.1
            have h67_4 := hu4.2.2
            rw [h67_3] at h67_4
            refine zr_aload_n hE eX12_readsStatement_96 rfl ?_
            refine zr_bipush hE eX12_readsStatement_97 (v := 44) (by decide) ?_
            refine zr_callV1 hE eX12_readsStatement_99 lX12_119 zs57 rfl rfl (by decide) (Nat.le_of_ble_eq_true rfl) (c_X12_takes hP4 (fun u5 hu5 => ?_))
            rw [hF4] at hu5 ⊢
            refine zr_beq hE eX12_readsStatement_102 (tgt := 117) (by decide) (fun zc102 => ?_) (fun zc102 => ?_)
            · refine zr_iconst hE eX12_readsStatement_117 (v := 0) (by decide) ?_
              refine zr_istore_n hE eX12_readsStatement_118 (by decide) rfl ?_
              refine zr_goto hE eX12_readsStatement_119 (tgt := 148) (by decide) ?_
              refine zr_iload_n hE eX12_readsStatement_148 rfl ?_
              refine zr_if_eq hE eX12_readsStatement_149 (tgt := 165) (by decide) (fun _ => ?_) (fun zc149 => absurd zc149 (by decide))
              refine zr_iconst hE eX12_readsStatement_165 (v := 0) (by decide) ?_
              refine hR.2.1 _ _ _ _ _ _ eX12_readsStatement_166 rfl rfl ?_
              have x44 : ¬ hrF (fE w dn) n p4 = 44 := of_decide_eq_false zc102
              rw [zc102] at hu5
              have hu5 : u5 = u4 := hu5
              rw [hu5]
              exact hQ1 _ _ (by rw [stF, if_pos zk23_98, bnd_s e1, bnd_s e2, bnd_s e3, bnd_s e4, if_neg x44]) hW4
            · have x44 : hrF (fE w dn) n p4 = 44 := of_decide_eq_true zc102
              rw [zc102] at hu5
              have hu5 : Prw u4 u5 (p4 + 1) ∧ u5 57 14 = u4 57 14 ∧ u5 67 = u4 67 := hu5
              have hW5 := hW4.trans hu5.1
              have hl5 := hrF_n x44 (by decide)
              have hP5 := hW5.ps hP (by have := hP.2.1; omega)
              have hF5 : fE u5 dn = fE w dn := hW5.fe
              have ht5 : u5 57 14 = nI 4 := hu5.2.1.trans ht4
              have h67_5 := hu5.2.2
              rw [h67_4] at h67_5
              refine zr_aload_n hE eX12_readsStatement_105 rfl ?_
              refine zr_iconst hE eX12_readsStatement_106 (v := 2) (by decide) ?_
              refine zr_callV1 hE eX12_readsStatement_107 lX12_116 zs57 rfl rfl (by decide) (Nat.le_of_ble_eq_true rfl) (c_X12_readsNumber hP5 (t := 4) (by decide) ht5 (fun u6 hu6 => ?_))
              rw [hF5] at hu6 ⊢
              refine zr_beq hE eX12_readsStatement_110 (tgt := 117) (by decide) (fun zc110 => ?_) (fun zc110 => ?_)
              · refine zr_iconst hE eX12_readsStatement_117 (v := 0) (by decide) ?_
                refine zr_istore_n hE eX12_readsStatement_118 (by decide) rfl ?_
                refine zr_goto hE eX12_readsStatement_119 (tgt := 148) (by decide) ?_
                refine zr_iload_n hE eX12_readsStatement_148 rfl ?_
                refine zr_if_eq hE eX12_readsStatement_149 (tgt := 165) (by decide) (fun _ => ?_) (fun zc149 => absurd zc149 (by decide))
                refine zr_iconst hE eX12_readsStatement_165 (v := 0) (by decide) ?_
                refine hR.2.1 _ _ _ _ _ _ eX12_readsStatement_166 rfl rfl ?_
                have e6 := iso_n zc110
                rw [e6] at hu6
                have hu6 : u6 = u5 := hu6
                rw [hu6]
                exact hQ1 _ _ (by rw [stF, if_pos zk23_98, bnd_s e1, bnd_s e2, bnd_s e3, bnd_s e4, if_pos x44, bnd_n e6]) hW5
              · obtain ⟨p6, a4, e6⟩ := iso_s zc110
                rw [e6] at hu6
                have hW6 := hW5.trans hu6.1
                have hl6 := rnF_le e6
                have hP6 := hW6.ps hP (by have := hP.2.1; omega)
                have hF6 : fE u6 dn = fE w dn := hW6.fe
                have h67_6 := hu6.2.2
                rw [h67_5] at h67_6
                refine zr_iconst hE eX12_readsStatement_113 (v := 1) (by decide) ?_
                refine zr_goto hE eX12_readsStatement_114 (tgt := 118) (by decide) ?_
                refine zr_istore_n hE eX12_readsStatement_118 (by decide) rfl ?_
                refine zr_goto hE eX12_readsStatement_119 (tgt := 148) (by decide) ?_
                refine zr_iload_n hE eX12_readsStatement_148 rfl ?_
                refine zr_if_eq hE eX12_readsStatement_149 (tgt := 165) (by decide) (fun zc149 => absurd zc149 (by decide)) (fun _ => ?_)
                refine zr_aload_n hE eX12_readsStatement_152 rfl ?_
                refine zr_bipush hE eX12_readsStatement_153 (v := 59) (by decide) ?_
                refine zr_callV1 hE eX12_readsStatement_155 lX12_119 zs57 rfl rfl (by decide) (Nat.le_of_ble_eq_true rfl) (c_X12_takes hP6 (fun u9 hu9 => ?_))
                rw [hF6] at hu9 ⊢
                refine zr_beq hE eX12_readsStatement_158 (tgt := 165) (by decide) (fun zc158 => ?_) (fun zc158 => ?_)
                · refine zr_iconst hE eX12_readsStatement_165 (v := 0) (by decide) ?_
                  refine hR.2.1 _ _ _ _ _ _ eX12_readsStatement_166 rfl rfl ?_
                  have x9 : ¬ hrF (fE w dn) n p6 = 59 := of_decide_eq_false zc158
                  rw [zc158] at hu9
                  have hu9 : u9 = u6 := hu9
                  rw [hu9]
                  exact hQ1 _ _ (by rw [stF, if_pos zk23_98, bnd_s e1, bnd_s e2, bnd_s e3, bnd_s e4, if_pos x44, bnd_s e6, if_neg x9]) hW6
                · refine zr_iconst hE eX12_readsStatement_161 (v := 1) (by decide) ?_
                  refine zr_goto hE eX12_readsStatement_162 (tgt := 166) (by decide) ?_
                  refine hR.2.1 _ _ _ _ _ _ eX12_readsStatement_166 rfl rfl ?_
                  have x9 : hrF (fE w dn) n p6 = 59 := of_decide_eq_true zc158
                  rw [zc158] at hu9
                  have hu9 : Prw u6 u9 (p6 + 1) ∧ u9 57 14 = u6 57 14 ∧ u9 67 = u6 67 := hu9
                  refine hQ2 _ (v5 a0 a1 a2 a3 a4) _ (by rw [stF, if_pos zk23_98, bnd_s e1, bnd_s e2, bnd_s e3, bnd_s e4, if_pos x44, bnd_s e6, if_pos x9]) (hW6.trans hu9.1) ?_
                  refine ⟨fun _ => ?_, fun _ j hj => ?_⟩
                  · rw [hu9.2.2, h67_6]; rfl
                  · rw [hu9.2.2, h67_6]
                    rcases (by omega : j = 0 ∨ j = 1 ∨ j = 2 ∨ j = 3 ∨ j = 4) with rfl | rfl | rfl | rfl | rfl <;> rfl
  refine zr_lswK hE eX12_readsStatement_23 (by decide) (116) (99) 122 (116) (by decide) (by decide) (by decide) (fun zk23_116 => ?_) (fun zk23_116 => ?_)
  · refine zr_aload_n hE eX12_readsStatement_122 rfl ?_
    refine zr_iconst hE eX12_readsStatement_123 (v := 1) (by decide) ?_
    refine zr_callV1 hE eX12_readsStatement_124 lX12_116 zs57 rfl rfl (by decide) (Nat.le_of_ble_eq_true rfl) (c_X12_readsNumber hP0 (t := 0) (by decide) ht0 (fun u1 hu1 => ?_))
    rw [hF0] at hu1 ⊢
    refine zr_istore_n hE eX12_readsStatement_127 (by decide) rfl ?_
    refine zr_goto hE eX12_readsStatement_128 (tgt := 148) (by decide) ?_
    refine zr_iload_n hE eX12_readsStatement_148 rfl ?_
    refine zr_beq hE eX12_readsStatement_149 (tgt := 165) (by decide) (fun zc149 => ?_) (fun zc149 => ?_)
    · refine zr_iconst hE eX12_readsStatement_165 (v := 0) (by decide) ?_
      refine hR.2.1 _ _ _ _ _ _ eX12_readsStatement_166 rfl rfl ?_
      have e1 := iso_n zc149
      rw [e1] at hu1
      have hu1 : u1 = u0 := hu1
      rw [hu1]
      exact hQ1 _ _ (by rw [stF, if_neg zk23_98, if_pos (Or.inl zk23_116), bnd_n e1]) hW0
    · obtain ⟨p1, a0, e1⟩ := iso_s zc149
      rw [e1] at hu1
      have hW1 := hW0.trans hu1.1
      have hl1 := rnF_le e1
      have hP1 := hW1.ps hP (by have := hP.2.1; omega)
      have hF1 : fE u1 dn = fE w dn := hW1.fe
      have ht1 := hu1.2.1
      have h67_1 := hu1.2.2
      rw [h67_0] at h67_1
      refine zr_aload_n hE eX12_readsStatement_152 rfl ?_
      refine zr_bipush hE eX12_readsStatement_153 (v := 59) (by decide) ?_
      refine zr_callV1 hE eX12_readsStatement_155 lX12_119 zs57 rfl rfl (by decide) (Nat.le_of_ble_eq_true rfl) (c_X12_takes hP1 (fun u9 hu9 => ?_))
      rw [hF1] at hu9 ⊢
      refine zr_beq hE eX12_readsStatement_158 (tgt := 165) (by decide) (fun zc158 => ?_) (fun zc158 => ?_)
      · refine zr_iconst hE eX12_readsStatement_165 (v := 0) (by decide) ?_
        refine hR.2.1 _ _ _ _ _ _ eX12_readsStatement_166 rfl rfl ?_
        have x9 : ¬ hrF (fE w dn) n p1 = 59 := of_decide_eq_false zc158
        rw [zc158] at hu9
        have hu9 : u9 = u1 := hu9
        rw [hu9]
        exact hQ1 _ _ (by rw [stF, if_neg zk23_98, if_pos (Or.inl zk23_116), bnd_s e1, if_neg x9]) hW1
      · refine zr_iconst hE eX12_readsStatement_161 (v := 1) (by decide) ?_
        refine zr_goto hE eX12_readsStatement_162 (tgt := 166) (by decide) ?_
        refine hR.2.1 _ _ _ _ _ _ eX12_readsStatement_166 rfl rfl ?_
        have x9 : hrF (fE w dn) n p1 = 59 := of_decide_eq_true zc158
        rw [zc158] at hu9
        have hu9 : Prw u1 u9 (p1 + 1) ∧ u9 57 14 = u1 57 14 ∧ u9 67 = u1 67 := hu9
        refine hQ2 _ (v5 a0 0 0 0 0) _ (by rw [stF, if_neg zk23_98, if_pos (Or.inl zk23_116), bnd_s e1, if_pos x9]) (hW1.trans hu9.1) ?_
        refine ⟨fun _ => ?_, fun q => absurd q zk23_98⟩
        rw [hu9.2.2, h67_1]; rfl
  refine zr_lswK hE eX12_readsStatement_23 (by decide) (119) (99) 122 (119) (by decide) (by decide) (by decide) (fun zk23_119 => ?_) (fun zk23_119 => ?_)
  · refine zr_aload_n hE eX12_readsStatement_122 rfl ?_
    refine zr_iconst hE eX12_readsStatement_123 (v := 1) (by decide) ?_
    refine zr_callV1 hE eX12_readsStatement_124 lX12_116 zs57 rfl rfl (by decide) (Nat.le_of_ble_eq_true rfl) (c_X12_readsNumber hP0 (t := 0) (by decide) ht0 (fun u1 hu1 => ?_))
    rw [hF0] at hu1 ⊢
    refine zr_istore_n hE eX12_readsStatement_127 (by decide) rfl ?_
    refine zr_goto hE eX12_readsStatement_128 (tgt := 148) (by decide) ?_
    refine zr_iload_n hE eX12_readsStatement_148 rfl ?_
    refine zr_beq hE eX12_readsStatement_149 (tgt := 165) (by decide) (fun zc149 => ?_) (fun zc149 => ?_)
    · refine zr_iconst hE eX12_readsStatement_165 (v := 0) (by decide) ?_
      refine hR.2.1 _ _ _ _ _ _ eX12_readsStatement_166 rfl rfl ?_
      have e1 := iso_n zc149
      rw [e1] at hu1
      have hu1 : u1 = u0 := hu1
      rw [hu1]
      exact hQ1 _ _ (by rw [stF, if_neg zk23_98, if_pos (Or.inr zk23_119), bnd_n e1]) hW0
    · obtain ⟨p1, a0, e1⟩ := iso_s zc149
      rw [e1] at hu1
      have hW1 := hW0.trans hu1.1
      have hl1 := rnF_le e1
      have hP1 := hW1.ps hP (by have := hP.2.1; omega)
      have hF1 : fE u1 dn = fE w dn := hW1.fe
      have ht1 := hu1.2.1
      have h67_1 := hu1.2.2
      rw [h67_0] at h67_1
      refine zr_aload_n hE eX12_readsStatement_152 rfl ?_
      refine zr_bipush hE eX12_readsStatement_153 (v := 59) (by decide) ?_
      refine zr_callV1 hE eX12_readsStatement_155 lX12_119 zs57 rfl rfl (by decide) (Nat.le_of_ble_eq_true rfl) (c_X12_takes hP1 (fun u9 hu9 => ?_))
      rw [hF1] at hu9 ⊢
      refine zr_beq hE eX12_readsStatement_158 (tgt := 165) (by decide) (fun zc158 => ?_) (fun zc158 => ?_)
      · refine zr_iconst hE eX12_readsStatement_165 (v := 0) (by decide) ?_
        refine hR.2.1 _ _ _ _ _ _ eX12_readsStatement_166 rfl rfl ?_
        have x9 : ¬ hrF (fE w dn) n p1 = 59 := of_decide_eq_false zc158
        rw [zc158] at hu9
        have hu9 : u9 = u1 := hu9
        rw [hu9]
        exact hQ1 _ _ (by rw [stF, if_neg zk23_98, if_pos (Or.inr zk23_119), bnd_s e1, if_neg x9]) hW1
      · refine zr_iconst hE eX12_readsStatement_161 (v := 1) (by decide) ?_
        refine zr_goto hE eX12_readsStatement_162 (tgt := 166) (by decide) ?_
        refine hR.2.1 _ _ _ _ _ _ eX12_readsStatement_166 rfl rfl ?_
        have x9 : hrF (fE w dn) n p1 = 59 := of_decide_eq_true zc158
        rw [zc158] at hu9
        have hu9 : Prw u1 u9 (p1 + 1) ∧ u9 57 14 = u1 57 14 ∧ u9 67 = u1 67 := hu9
        refine hQ2 _ (v5 a0 0 0 0 0) _ (by rw [stF, if_neg zk23_98, if_pos (Or.inr zk23_119), bnd_s e1, if_pos x9]) (hW1.trans hu9.1) ?_
        refine ⟨fun _ => ?_, fun q => absurd q zk23_98⟩
        rw [hu9.2.2, h67_1]; rfl
  refine zr_lswK hE eX12_readsStatement_23 (by decide) (120) (108) 131 (120) (by decide) (by decide) (by decide) (fun zk23_120 => ?_) (fun zk23_120 => ?_)
  · refine zr_iconst hE eX12_readsStatement_131 (v := 1) (by decide) ?_
    refine zr_istore_n hE eX12_readsStatement_132 (by decide) rfl ?_
    refine zr_goto hE eX12_readsStatement_133 (tgt := 148) (by decide) ?_
    refine zr_iload_n hE eX12_readsStatement_148 rfl ?_
    refine zr_if_eq hE eX12_readsStatement_149 (tgt := 165) (by decide) (fun zc149 => absurd zc149 (by decide)) (fun _ => ?_)
    refine zr_aload_n hE eX12_readsStatement_152 rfl ?_
    refine zr_bipush hE eX12_readsStatement_153 (v := 59) (by decide) ?_
    refine zr_callV1 hE eX12_readsStatement_155 lX12_119 zs57 rfl rfl (by decide) (Nat.le_of_ble_eq_true rfl) (c_X12_takes hP0 (fun u9 hu9 => ?_))
    rw [hF0] at hu9 ⊢
    refine zr_beq hE eX12_readsStatement_158 (tgt := 165) (by decide) (fun zc158 => ?_) (fun zc158 => ?_)
    · refine zr_iconst hE eX12_readsStatement_165 (v := 0) (by decide) ?_
      refine hR.2.1 _ _ _ _ _ _ eX12_readsStatement_166 rfl rfl ?_
      have x9 : ¬ hrF (fE w dn) n (p + 1) = 59 := of_decide_eq_false zc158
      rw [zc158] at hu9
      have hu9 : u9 = u0 := hu9
      rw [hu9]
      exact hQ1 _ _ (by rw [stF, if_neg zk23_98, if_neg (fun q => q.elim zk23_116 zk23_119), if_pos zk23_120, if_neg x9]) hW0
    · refine zr_iconst hE eX12_readsStatement_161 (v := 1) (by decide) ?_
      refine zr_goto hE eX12_readsStatement_162 (tgt := 166) (by decide) ?_
      refine hR.2.1 _ _ _ _ _ _ eX12_readsStatement_166 rfl rfl ?_
      have x9 : hrF (fE w dn) n (p + 1) = 59 := of_decide_eq_true zc158
      rw [zc158] at hu9
      have hu9 : Prw u0 u9 ((p + 1) + 1) ∧ u9 57 14 = u0 57 14 ∧ u9 67 = u0 67 := hu9
      refine hQ2 _ (v5 0 0 0 0 0) _ (by rw [stF, if_neg zk23_98, if_neg (fun q => q.elim zk23_116 zk23_119), if_pos zk23_120, if_pos x9]) (hW0.trans hu9.1) ?_
      exact ⟨fun q => absurd zk23_120 q, fun q => absurd q zk23_98⟩
  refine zr_lookup hE eX12_readsStatement_23 (by decide) (off := 113) (tgt := 136) ?_ (by decide) ?_
  · have zm98 := zne zk23_98 (v := 98) (by decide); have zm116 := zne zk23_116 (v := 116) (by decide); have zm119 := zne zk23_119 (v := 119) (by decide); have zm120 := zne zk23_120 (v := 120) (by decide); simp only [Op.lookupswitch.offset_cons, Op.lookupswitch.offset_nil]; rw [if_neg (fun q => zm98 q.symm)]; rw [if_neg (fun q => zm116 q.symm)]; rw [if_neg (fun q => zm119 q.symm)]; rw [if_neg (fun q => zm120 q.symm)]
  refine zr_aload_n hE eX12_readsStatement_136 rfl ?_
  refine zr_dup hE eX12_readsStatement_137 rfl ?_
  refine zr_getI hE eX12_readsStatement_138 fX12_93 zs57 rfl ?_
  refine zr_iconst hE eX12_readsStatement_141 (v := 1) (by decide) ?_
  rw [hP0.2.2.2.2.2]
  refine zr_isub hE eX12_readsStatement_142 ?_
  show G _ _ (.int (nI (p + 1) - 1) :: _) _
  rw [nI_pred]
  refine zr_put hE eX12_readsStatement_143 gX12_93 zs57 rfl rfl rfl ?_
  refine zr_iconst hE eX12_readsStatement_146 (v := 0) (by decide) ?_
  refine hR.2.1 _ _ _ _ _ _ eX12_readsStatement_147 rfl rfl ?_
  exact hQ1 _ _ (by rw [stF, if_neg zk23_98, if_neg (fun q => q.elim zk23_116 zk23_119), if_neg zk23_120]) (hW0.trans Prw.set)

