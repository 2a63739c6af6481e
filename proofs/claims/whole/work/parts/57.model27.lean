/-! The reference: heap. -/
theorem stF_bd {F : Nat → Int32} {n p q : Nat} {vs : Nat → Int32} (h : stF F n p = .inr (q, vs)) : p < q ∧ q ≤ n := by
  have cl : ∀ {p c}, hrF F n p = c → ¬ c = -1000 → p < n := fun a b => hrF_n a b
  unfold stF at h
  split at h
  · cases h1 : rnF F n 1 (p + 1) with
    | none => rw [bnd_n h1] at h; cases h
    | some r1 =>
      have l1 := rnF_le h1
      rw [bnd_s h1] at h
      cases h2 : rnF F n 1 r1.1 with
      | none => rw [bnd_n h2] at h; cases h
      | some r2 =>
        have l2 := rnF_le h2
        rw [bnd_s h2] at h
        cases h3 : rnF F n 1 r2.1 with
        | none => rw [bnd_n h3] at h; cases h
        | some r3 =>
          have l3 := rnF_le h3
          rw [bnd_s h3] at h
          cases h4 : rnF F n 2 r3.1 with
          | none => rw [bnd_n h4] at h; cases h
          | some r4 =>
            have l4 := rnF_le h4
            rw [bnd_s h4] at h
            split at h
            · cases h5 : rnF F n 2 (r4.1 + 1) with
              | none => rw [bnd_n h5] at h; cases h
              | some r5 =>
                have l5 := rnF_le h5
                rw [bnd_s h5] at h
                split at h
                · rename_i q9
                  have := cl q9 (by decide)
                  cases h; omega
                · cases h
            · cases h
  · split at h
    · cases h1 : rnF F n 1 (p + 1) with
      | none => rw [bnd_n h1] at h; cases h
      | some r1 =>
        have l1 := rnF_le h1
        rw [bnd_s h1] at h
        split at h
        · rename_i q9
          have := cl q9 (by decide)
          cases h; omega
        · cases h
    · split at h
      · split at h
        · rename_i q9
          have := cl q9 (by decide)
          cases h; omega
        · cases h
      · cases h
def RS (w : ww) (r : Nat ⊕ (Nat × (Nat → Int32))) (b : Bool) (u : ww) : Prop := match r with
  | .inl q => b = false ∧ Prw w u q
  | .inr (q, _) => b = true ∧ Prw w u q
theorem c_rs2 {dn n p : Nat} {w : ww} {Q : Option Value → ww → Prop} (hP : Ps w dn n p) (hp : p ≤ 100) (hQ : ∀ b u, RS w (stF (fE w dn) n p) b u → Q (some (.int (bi b))) u) : Ct mX12_readsStatement 4 [.ref 57] w Q := by
  refine c_X12_readsStatement hP hp (fun q u e hu => ?_) (fun q vs u e hu _ => ?_)
  · exact hQ false u (by rw [e]; exact ⟨rfl, hu⟩)
  · exact hQ true u (by rw [e]; exact ⟨rfl, hu⟩)
theorem c_rs3 {dn n p q : Nat} {vs : Nat → Int32} {w : ww} {Q : Option Value → ww → Prop} (hP : Ps w dn n p) (hp : p ≤ 100) (e : stF (fE w dn) n p = .inr (q, vs)) (hQ : ∀ u, Prw w u q → SR (hrF (fE w dn) n p) vs u → Q (some (.int (bi true))) u) : Ct mX12_readsStatement 4 [.ref 57] w Q := by
  refine c_X12_readsStatement hP hp (fun q u e2 hu => ?_) (fun q vs u e2 hu hs => ?_)
  · rw [e] at e2; cases e2
  · rw [e] at e2; cases e2; exact hQ u hu hs
def l1F (F : Nat → Int32) (n : Nat) : Nat → Nat → Nat → Nat ⊕ Nat
  | 0, _, t => .inr t
  | k + 1, p, t => match stF F n p with
    | .inl q => .inl q
    | .inr (q, _) => if q < n then l1F F n k q (t + 1) else .inr (t + 1)
set_option maxHeartbeats 4000000 in
theorem he_1 {G : zG} {w : ww} {Q : Option Value → ww → Prop} {dn n pz : Nat} {d z : Int32} {r : Nat ⊕ Nat} (hR : zR RX12 cX12_heap 7 5 (some .int) Q G) (hP0 : Ps w dn n pz)
    (hQ1 : ∀ q, r = .inl q → ∀ u, Prw w u q → Q (some (.int (-1000 - nI q))) u)
    (kk : ∀ t, r = .inr t → ∀ u q, Prw w u q → G 68 [some (.ref 57), some (.int d), some (.int z), some (.int (nI t)), none, none, none] [] u) :
    ∀ (k p t : Nat) (u : ww), n ≤ p + k → p ≤ n → Prw w u p → l1F (fE w dn) n (k + 1) p t = r → G 38 [some (.ref 57), some (.int d), some (.int z), some (.int (nI t)), none, none, none] [] u := by
  have hE := hR.1
  have main : ∀ (k p t : Nat) (u : ww), n ≤ p + k → p ≤ n → Prw w u p → l1F (fE w dn) n (k + 1) p t = r → (∀ k0, k = k0 + 1 → ∀ (p t : Nat) (u : ww), n ≤ p + k0 → p ≤ n → Prw w u p → l1F (fE w dn) n (k0 + 1) p t = r → G 38 [some (.ref 57), some (.int d), some (.int z), some (.int (nI t)), none, none, none] [] u) → G 38 [some (.ref 57), some (.int d), some (.int z), some (.int (nI t)), none, none, none] [] u := by
    intro k p t u h1 h2 hu hr ih0
    have hP := hu.ps hP0 (by have := hP0.2.1; omega)
    refine zr_aload_n hE eX12_heap_38 rfl ?_
    refine zr_callV0 hE eX12_heap_39 lX12_135 zs57 rfl rfl (by decide) (Nat.le_of_ble_eq_true rfl) (c_rs2 hP (by have := hP.2.1; omega) (fun xb u2 hu2 => ?_))
    rw [hu.fe] at hu2
    refine zr_bne hE eX12_heap_42 (tgt := 54) (by decide) (fun zc42 => ?_) (fun zc42 => ?_)
    · obtain ⟨q, vs, eq, hu3⟩ : ∃ q vs, stF (fE w dn) n p = .inr (q, vs) ∧ Prw u u2 q := by
        cases e : stF (fE w dn) n p with
        | inl q => rw [e] at hu2; have := hu2.1; rw [zc42] at this; cases this
        | inr r => rw [e] at hu2; exact ⟨r.1, r.2, rfl, hu2.2⟩
      have hb := stF_bd eq
      have hn100 := hP0.2.1
      rw [l1F, eq] at hr
      have hr : (if q < n then l1F (fE w dn) n k q (t + 1) else .inr (t + 1)) = r := hr
      have hu4 := hu.trans hu3
      refine zr_iincN hE eX12_heap_54 rfl (by decide) rfl ?_
      refine zr_aload_n hE eX12_heap_57 rfl ?_
      refine zr_getI hE eX12_heap_58 fX12_93 zs57 rfl ?_
      refine zr_aload_n hE eX12_heap_61 rfl ?_
      refine zr_getI hE eX12_heap_62 fX12_96 zs57 rfl ?_
      rw [hu3.2.2, (hu4.2.1 13 (by decide) (by decide)).trans hP0.2.2.2.2.1]
      refine zr_kicmp_lt hE eX12_heap_65 (tgt := 38) (by decide) (fun zc65 zd65 => ?_) (fun zc65 zd65 => ?_)
      · have hqn : q < n := (nI_ltI (by omega) (by omega)).mp (by first | exact zc65 | exact zd65)
        rw [if_pos hqn] at hr
        cases k with
        | zero => omega
        | succ k0 => exact ih0 k0 rfl q (t + 1) u2 (by omega) (by omega) hu4 hr
      · have hqn : ¬ q < n := fun x => by
          have y := (nI_ltI (show q < 2 ^ 31 by omega) (show n < 2 ^ 31 by omega)).mpr x
          first | exact zc65 y | exact zd65 y
        rw [if_neg hqn] at hr
        exact kk (t + 1) hr.symm u2 q hu4
    · obtain ⟨q, eq, hu3⟩ : ∃ q, stF (fE w dn) n p = .inl q ∧ Prw u u2 q := by
        cases e : stF (fE w dn) n p with
        | inl q => rw [e] at hu2; exact ⟨q, rfl, hu2.2⟩
        | inr r => rw [e] at hu2; have := hu2.1; rw [zc42] at this; cases this
      refine zr_sipush hE eX12_heap_45 (v := -1000) (by decide) ?_
      refine zr_aload_n hE eX12_heap_48 rfl ?_
      refine zr_getI hE eX12_heap_49 fX12_93 zs57 rfl ?_
      rw [hu3.2.2]
      show G _ _ (.int (nI q) :: .int (-1000) :: _) _
      refine zr_isub hE eX12_heap_52 ?_
      refine hR.2.1 _ _ _ _ _ _ eX12_heap_53 rfl rfl ?_
      rw [l1F, eq] at hr
      exact hQ1 q hr.symm u2 (hu.trans hu3)
  intro k
  induction k with
  | zero => intro p t u h1 h2 hu hr; exact main 0 p t u h1 h2 hu hr (fun k0 q => by omega)
  | succ k1 ih =>
    intro p t u h1 h2 hu hr
    exact main (k1 + 1) p t u h1 h2 hu hr (fun k0 q => by cases q; exact ih)
