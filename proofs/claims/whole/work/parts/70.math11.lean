/-! Both sides answer alike: heap. -/
def Hat (at0 : Int32 → Int32) (F : Nat → Int32) (n : Nat) : Prop := n ≤ 100 ∧ ∀ p, p ≤ 1000 → at0 (nI p) = if p < n then F p else 1000
theorem ngx : ∀ q, q < 1001 → (nI q ^^^ (-1)) < 0 ∧ (nI q ^^^ (-1)) ^^^ (-1) = nI q := by decide +kernel
section
variable {at0 : Int32 → Int32} {F : Nat → Int32} {n : Nat}
theorem Hat.dg (h : Hat at0 F n) {p : Nat} (hp : p ≤ 1000) : fDg (at0 (nI p)) = dgF F n p := by
  rw [h.2 p hp]
  unfold dgF hrF
  by_cases q : p < n
  · rw [if_pos q, if_pos q]; rfl
  · rw [if_neg q, if_neg q]; rfl
theorem Hat.sg (h : Hat at0 F n) {p : Nat} (hp : p ≤ 1000) {s : Int32} (h1 : s ≠ 1000) (h2 : s ≠ -1000) : at0 (nI p) = s ↔ hrF F n p = s := by
  rw [h.2 p hp]
  unfold hrF
  by_cases q : p < n
  · rw [if_pos q, if_pos q]
  · rw [if_neg q, if_neg q]; exact ⟨fun e => absurd e.symm h1, fun e => absurd e.symm h2⟩
theorem Hat.lt (h : Hat at0 F n) {p : Nat} (hp : p < n) : at0 (nI p) = hrF F n p := by
  have := h.1
  rw [h.2 p (by omega)]
  unfold hrF
  rw [if_pos hp, if_pos hp]
theorem dN {p : Nat} (hp : p ≤ 1000) : fDgE at0 (nI p ^^^ (-1)) = nI p ^^^ (-1) := by unfold fDgE; rw [if_pos (ngx p (by omega)).1]
theorem nN {p : Nat} (hp : p ≤ 1000) : fNuE at0 (nI p ^^^ (-1)) = nI p ^^^ (-1) := by unfold fNuE; rw [dN hp, if_pos (ngx p (by omega)).1]
theorem sN {p : Nat} {s : Int32} (hp : p ≤ 1000) : fSgE at0 (nI p ^^^ (-1)) s = nI p ^^^ (-1) := by unfold fSgE; rw [if_pos (ngx p (by omega)).1]
theorem Hat.dE (h : Hat at0 F n) {p : Nat} (hp : p ≤ 1000) : fDgE at0 (nI p) = if dgF F n p = true then nI (p + 1) else nI p ^^^ (-1) := by
  unfold fDgE
  rw [if_neg (nI_pos (by omega)), h.dg hp, nI_1]
theorem rn1_iff {p : Nat} : (dgF F n p = false ∧ rnF F n 1 p = none) ∨ (dgF F n p = true ∧ rnF F n 1 p = some (p + 1, hrF F n p - 48)) := by
  unfold rnF
  cases q : dgF F n p with
  | false => exact Or.inl ⟨rfl, by rw [if_neg (by decide)]⟩
  | true => exact Or.inr ⟨rfl, by rw [if_pos rfl, if_neg (fun z => absurd z.1 (by decide))]⟩
theorem Hat.d_n (h : Hat at0 F n) {p : Nat} (hp : p ≤ 1000) (e : rnF F n 1 p = none) : fDgE at0 (nI p) = nI p ^^^ (-1) := by
  rw [h.dE hp]
  rcases rn1_iff (F := F) (n := n) (p := p) with ⟨q, _⟩ | ⟨_, q⟩
  · rw [if_neg (by rw [q]; decide)]
  · rw [e] at q; cases q
theorem Hat.d_s (h : Hat at0 F n) {p q : Nat} {v : Int32} (hp : p ≤ 1000) (e : rnF F n 1 p = some (q, v)) : fDgE at0 (nI p) = nI q ∧ q = p + 1 ∧ v = at0 (nI p) - 48 := by
  rw [h.dE hp]
  rcases rn1_iff (F := F) (n := n) (p := p) with ⟨_, z⟩ | ⟨z1, z⟩
  · rw [e] at z; cases z
  · rw [e] at z
    cases z
    rw [if_pos z1, h.lt (dgF_n z1)]
    exact ⟨rfl, rfl, rfl⟩
theorem dg48 {x : Int32} (h : fIs x 48 57 = true) : x = 48 ↔ ¬ 0 < x - 48 := by
  obtain ⟨d, hd, e⟩ := dg_v h
  have e2 : x = nI (48 + d) := by
    have : x - 48 + 48 = x := Int32.sub_add_cancel _ _
    rw [e, show (48 : Int32) = nI 48 from rfl, nI_add, Nat.add_comm] at this
    exact this.symm
  rw [e, e2, show (48 : Int32) = nI 48 from rfl, nI_eqI (by omega) (by decide), show (0 : Int32) = nI 0 from rfl, nI_ltI (by decide) (by omega)]
  omega
theorem Hat.n_c (h : Hat at0 F n) {p : Nat} (hp : p ≤ 999) : (rnF F n 2 p = none ∧ fNuE at0 (nI p) = nI p ^^^ (-1)) ∨ ∃ q v, rnF F n 2 p = some (q, v) ∧ fNuE at0 (nI p) = nI q ∧ (dgF F n q = false → v = fNuA at0 (nI p)) ∧ (q = p + 1 ∨ q = p + 2 ∧ dgF F n (p + 1) = true) := by
  have hA : fNuA at0 (nI p) = if fDg (at0 (nI p + 1)) = true then (at0 (nI p) - 48) * 10 + (at0 (nI p + 1) - 48) else at0 (nI p) - 48 := rfl
  have hE : fNuE at0 (nI p) = if fDgE at0 (nI p) < 0 then fDgE at0 (nI p) else if at0 (nI p) = 48 then fDgE at0 (nI p) else if fDg (at0 (fDgE at0 (nI p))) then fDgE at0 (nI p) + 1 else fDgE at0 (nI p) := rfl
  rw [h.dE (by omega)] at hE
  unfold rnF
  cases q : dgF F n p with
  | false =>
    have nf : ¬ false = true := by decide
    rw [q, if_neg nf, if_pos (ngx p (by omega)).1] at hE
    exact Or.inl ⟨by rw [if_neg (by decide)], hE⟩
  | true =>
    right
    have hpn := dgF_n q
    rw [q, if_pos rfl, if_neg (nI_pos (by omega)), h.dg (by omega), h.lt hpn] at hE
    rw [nI_1, h.dg (by omega), h.lt hpn] at hA
    rw [if_pos rfl]
    have z48 := dg48 (x := hrF F n p) q
    by_cases w : hrF F n p = 48
    · rw [if_pos w] at hE
      refine ⟨p + 1, hrF F n p - 48, by rw [if_neg (fun z => (z48.mp w) z.2.1)], hE, fun q3 => ?_, Or.inl rfl⟩
      rw [hA, q3, if_neg (by decide)]
    · rw [if_neg w] at hE
      have hw : 0 < hrF F n p - 48 := Decidable.not_not.mp (fun z => w (z48.mpr z))
      cases q2 : dgF F n (p + 1) with
      | false =>
        rw [q2, if_neg (by decide)] at hE
        refine ⟨p + 1, hrF F n p - 48, by rw [if_neg (fun z => absurd z.2.2 (by decide))], hE, fun _ => ?_, Or.inl rfl⟩
        rw [hA, q2, if_neg (by decide)]
      | true =>
        rw [q2, if_pos rfl, nI_1] at hE
        refine ⟨p + 2, _, by rw [if_pos ⟨by decide, hw, rfl⟩], hE, fun _ => ?_, Or.inr ⟨rfl, rfl⟩⟩
        rw [hA, q2, if_pos rfl, h.lt (dgF_n q2), Int32.mul_comm, Int32.sub_eq_add_neg, Int32.add_assoc, ← Int32.sub_eq_add_neg]
theorem hr_dg {p : Nat} {s : Int32} (e : hrF F n p = s) (d : fIs s 48 57 = false) : dgF F n p = false := by unfold dgF; rw [e, d]
/-- the comma stands where the number ends -/
theorem Hat.cm (h : Hat at0 F n) {p q : Nat} (hp : p ≤ 900) (e : hrF F n q = 44) (d : q = p + 4 + 1 ∨ q = p + 4 + 2 ∧ dgF F n (p + 4 + 1) = true) : fCm at0 (nI p) = nI q := by
  have s5 := h.sg (p := p + 5) (by omega) (s := 44) (by decide) (by decide)
  have a5 : nI p + 5 = nI (p + 5) := by rw [show (5 : Int32) = nI 5 from rfl, nI_add]
  have a6 : nI p + 6 = nI (p + 6) := by rw [show (6 : Int32) = nI 6 from rfl, nI_add]
  unfold fCm
  rw [a5, a6]
  rcases d with rfl | ⟨rfl, d⟩
  · rw [if_pos (s5.mpr e)]
  · rw [if_neg (fun z => absurd (d.symm.trans (hr_dg (s5.mp z) (by decide))) (by decide))]
theorem Hat.sE (h : Hat at0 F n) {p : Nat} {s : Int32} (hp : p ≤ 1000) (h1 : s ≠ 1000) (h2 : s ≠ -1000) : fSgE at0 (nI p) s = if hrF F n p = s then nI (p + 1) else nI p ^^^ (-1) := by
  unfold fSgE
  rw [if_neg (nI_pos (by omega)), nI_1]
  by_cases q : hrF F n p = s
  · rw [if_pos q, if_pos ((h.sg hp h1 h2).mpr q)]
  · rw [if_neg q, if_neg (fun z => q ((h.sg hp h1 h2).mp z))]
def encS : Nat ⊕ (Nat × (Nat → Int32)) → Int32
  | .inl q => nI q ^^^ (-1)
  | .inr (q, _) => nI q
/-- what the class reads at a place, and the numbers of it -/
theorem Hat.st (h : Hat at0 F n) {p : Nat} (hp : p ≤ n) : fStE at0 (nI p) = encS (stF F n p) ∧ ∀ q vs, stF F n p = .inr (q, vs) → (hrF F n p = 98 → vs 0 = at0 (nI (p + 1)) - 48 ∧ vs 1 = at0 (nI (p + 2)) - 48 ∧ vs 2 = at0 (nI (p + 3)) - 48 ∧ vs 3 = fNuA at0 (nI (p + 4)) ∧ vs 4 = fNuA at0 (fCm at0 (nI p) + 1)) ∧ (hrF F n p = 116 ∨ hrF F n p = 119 → vs 0 = at0 (nI (p + 1)) - 48) := by
  have hn := h.1
  have s98 := h.sg (p := p) (by omega) (s := 98) (by decide) (by decide)
  have s116 := h.sg (p := p) (by omega) (s := 116) (by decide) (by decide)
  have s119 := h.sg (p := p) (by omega) (s := 119) (by decide) (by decide)
  have s120 := h.sg (p := p) (by omega) (s := 120) (by decide) (by decide)
  unfold fStE stF
  by_cases z98 : hrF F n p = 98
  · rw [if_pos (s98.mpr z98), if_pos z98, nI_1]
    have zz : ¬ (hrF F n p = 116 ∨ hrF F n p = 119) := by rw [z98]; decide
    cases h1 : rnF F n 1 (p + 1) with
    | none => rw [bnd_n rfl, h.d_n (by omega) h1, dN (by omega), dN (by omega), nN (by omega), sN (by omega), nN (by omega), sN (by omega)]; exact ⟨rfl, fun q vs e => by cases e⟩
    | some r1 =>
      have l1 := rnF_le h1
      obtain ⟨a1, a2, a3⟩ := h.d_s (q := r1.1) (v := r1.2) (by omega) h1
      rw [bnd_s (q := r1.1) (v := r1.2) rfl, a1]
      cases h2 : rnF F n 1 r1.1 with
      | none => rw [bnd_n rfl, h.d_n (by omega) h2, dN (by omega), nN (by omega), sN (by omega), nN (by omega), sN (by omega)]; exact ⟨rfl, fun q vs e => by cases e⟩
      | some r2 =>
        have l2 := rnF_le h2
        obtain ⟨b1, b2, b3⟩ := h.d_s (q := r2.1) (v := r2.2) (by omega) h2
        rw [bnd_s (q := r2.1) (v := r2.2) rfl, b1]
        cases h3 : rnF F n 1 r2.1 with
        | none => rw [bnd_n rfl, h.d_n (by omega) h3, nN (by omega), sN (by omega), nN (by omega), sN (by omega)]; exact ⟨rfl, fun q vs e => by cases e⟩
        | some r3 =>
          have l3 := rnF_le h3
          obtain ⟨c1, c2, c3⟩ := h.d_s (q := r3.1) (v := r3.2) (by omega) h3
          rw [bnd_s (q := r3.1) (v := r3.2) rfl, c1]
          rcases h.n_c (p := r3.1) (by omega) with ⟨h4, d1⟩ | ⟨q4, v4, h4, d1, d2, d3⟩
          · rw [bnd_n h4, d1, sN (by omega), nN (by omega), sN (by omega)]; exact ⟨rfl, fun q vs e => by cases e⟩
          · have l4 := rnF_le h4
            rw [bnd_s h4, d1, h.sE (by omega) (by decide) (by decide)]
            by_cases z44 : hrF F n q4 = 44
            · rw [if_pos z44, if_pos z44]
              rcases h.n_c (p := q4 + 1) (by omega) with ⟨h5, e1⟩ | ⟨q5, v5', h5, e1, e2, _⟩
              · rw [bnd_n h5, e1, sN (by omega)]; exact ⟨rfl, fun q vs e => by cases e⟩
              · have l5 := rnF_le h5
                rw [bnd_s h5, e1, h.sE (by omega) (by decide) (by decide)]
                by_cases z59 : hrF F n q5 = 59
                · rw [if_pos z59, if_pos z59]
                  refine ⟨rfl, fun q vs e => ?_⟩
                  cases e
                  refine ⟨fun _ => ⟨a3, ?_, ?_, ?_, ?_⟩, fun q => absurd q zz⟩
                  · show r2.2 = _
                    rw [b3, a2]
                  · show r3.2 = _
                    rw [c3, b2, a2]
                  · show v4 = _
                    rw [d2 (hr_dg z44 (by decide)), c2, b2, a2]
                  · show v5' = _
                    have e3 : r3.1 = p + 4 := by rw [c2, b2, a2]
                    rw [e3] at d3
                    rw [e2 (hr_dg z59 (by decide)), h.cm (by omega) z44 d3, nI_1]
                · rw [if_neg z59, if_neg z59]; exact ⟨rfl, fun q vs e => by cases e⟩
            · rw [if_neg z44, if_neg z44, nN (by omega), sN (by omega)]; exact ⟨rfl, fun q vs e => by cases e⟩
  · rw [if_neg (fun z => z98 (s98.mp z)), if_neg z98]
    by_cases zz : hrF F n p = 116 ∨ hrF F n p = 119
    · rw [if_pos (zz.elim (fun z => Or.inl (s116.mpr z)) (fun z => Or.inr (s119.mpr z))), if_pos zz, nI_1]
      cases h1 : rnF F n 1 (p + 1) with
      | none => rw [bnd_n rfl, h.d_n (by omega) h1, sN (by omega)]; exact ⟨rfl, fun q vs e => by cases e⟩
      | some r1 =>
        have l1 := rnF_le h1
        obtain ⟨a1, a2, a3⟩ := h.d_s (q := r1.1) (v := r1.2) (by omega) h1
        rw [bnd_s (q := r1.1) (v := r1.2) rfl, a1, h.sE (by omega) (by decide) (by decide)]
        by_cases z59 : hrF F n r1.1 = 59
        · rw [if_pos z59, if_pos z59]
          refine ⟨rfl, fun q vs e => ?_⟩
          cases e
          exact ⟨fun q => absurd q z98, fun _ => a3⟩
        · rw [if_neg z59, if_neg z59]; exact ⟨rfl, fun q vs e => by cases e⟩
    · rw [if_neg (fun z => zz (z.elim (fun z => Or.inl (s116.mp z)) (fun z => Or.inr (s119.mp z)))), if_neg zz]
      by_cases z120 : hrF F n p = 120
      · rw [if_pos (s120.mpr z120), if_pos z120, nI_1, h.sE (by omega) (by decide) (by decide)]
        by_cases z59 : hrF F n (p + 1) = 59
        · rw [if_pos z59, if_pos z59]
          exact ⟨rfl, fun q vs e => by cases e; exact ⟨fun q => absurd q z98, fun q => absurd q zz⟩⟩
        · rw [if_neg z59, if_neg z59]; exact ⟨rfl, fun q vs e => by cases e⟩
      · rw [if_neg (fun z => z120 (s120.mp z)), if_neg z120]; exact ⟨rfl, fun q vs e => by cases e⟩
theorem stF_fl {p q : Nat} (hp : p ≤ n) (h : stF F n p = .inl q) : q ≤ n + 1 := by
  unfold stF at h
  split at h
  · rename_i z98
    have hp := hrF_n z98 (by decide)
    cases h1 : rnF F n 1 (p + 1) with
    | none => rw [bnd_n h1] at h; cases h; omega
    | some r1 =>
      have l1 := rnF_le h1
      rw [bnd_s (q := r1.1) (v := r1.2) h1] at h
      cases h2 : rnF F n 1 r1.1 with
      | none => rw [bnd_n h2] at h; cases h; omega
      | some r2 =>
        have l2 := rnF_le h2
        rw [bnd_s (q := r2.1) (v := r2.2) h2] at h
        cases h3 : rnF F n 1 r2.1 with
        | none => rw [bnd_n h3] at h; cases h; omega
        | some r3 =>
          have l3 := rnF_le h3
          rw [bnd_s (q := r3.1) (v := r3.2) h3] at h
          cases h4 : rnF F n 2 r3.1 with
          | none => rw [bnd_n h4] at h; cases h; omega
          | some r4 =>
            have l4 := rnF_le h4
            rw [bnd_s (q := r4.1) (v := r4.2) h4] at h
            split at h
            · rename_i z44
              have := hrF_n z44 (by decide)
              cases h5 : rnF F n 2 (r4.1 + 1) with
              | none => rw [bnd_n h5] at h; cases h; omega
              | some r5 =>
                have l5 := rnF_le h5
                rw [bnd_s (q := r5.1) (v := r5.2) h5] at h
                split at h
                · cases h
                · cases h; omega
            · cases h; omega
  · split at h
    · rename_i zz
      have hp : p < n := zz.elim (fun z => hrF_n z (by decide)) (fun z => hrF_n z (by decide))
      cases h1 : rnF F n 1 (p + 1) with
      | none => rw [bnd_n h1] at h; cases h; omega
      | some r1 =>
        have l1 := rnF_le h1
        rw [bnd_s (q := r1.1) (v := r1.2) h1] at h
        split at h
        · cases h
        · cases h; omega
    · split at h
      · rename_i z
        have := hrF_n z (by decide)
        split at h
        · cases h
        · cases h; omega
      · cases h; omega
theorem Hat.ff (h : Hat at0 F n) : ∀ (k j p t : Nat), p < n → n ≤ p + k → n ≤ p + j → ffF at0 (nI n) j (nI p) = match l1F F n (k + 1) p t with
    | .inl q => nI q
    | .inr _ => -1
  | k, 0, p, t, hp, _, hj => by omega
  | k, j + 1, p, t, hp, hk, hj => by
    have hn := h.1
    rw [ffF, if_pos ((nI_ltI (by omega) (by omega)).mpr hp), l1F, (h.st (by omega)).1]
    cases e : stF F n p with
    | inl q =>
      have := stF_fl (by omega) e
      show (if nI q ^^^ (-1) < 0 then (nI q ^^^ (-1)) ^^^ (-1) else _) = nI q
      rw [if_pos (ngx q (by omega)).1, (ngx q (by omega)).2]
    | inr r =>
      have hb := stF_bd (q := r.1) (vs := r.2) e
      show (if nI r.1 < 0 then _ else ffF at0 (nI n) j (nI r.1)) = match (if r.1 < n then l1F F n k r.1 (t + 1) else .inr (t + 1)) with
        | .inl q => nI q
        | .inr _ => -1
      rw [if_neg (nI_pos (by omega))]
      by_cases hq : r.1 < n
      · rw [if_pos hq]
        cases k with
        | zero => omega
        | succ k => exact Hat.ff h k j r.1 (t + 1) hq (by omega) (by omega)
      · rw [if_neg hq]
        cases j with
        | zero => rfl
        | succ j => rw [ffF, if_neg (fun z => hq ((nI_ltI (by omega) (by omega)).mp z))]
end
/-- a heap's bowls and warmth are the reference's -/
def HRel (u : ww) (h : Nat) (x : ww) (c : Nat) : Prop := Mrw x c ∧ u h 7 = nI c ∧ u h 8 = x 58 1 ∧ ∀ k b, k < 5 → b < c → hB u h k b = mB x k b
theorem hB_pl {u : ww} {h c : Nat} {k f t s d : Int32} (hc : c ≤ 9) (h7 : u h 7 = nI c) : ∀ j b, j < 5 → hB (hPl u h k f t s d) h j b = if b = c then v5 k f t s d j else hB u h j b := by
  intro j b hj
  unfold hPl hB
  rw [h7, nI_clamp (by omega)]
  rcases (by omega : j = 0 ∨ j = 1 ∨ j = 2 ∨ j = 3 ∨ j = 4) with rfl | rfl | rfl | rfl | rfl <;> by_cases q : b = c <;> simp [wu, q, v5] <;> omega
theorem hB_pt {u : ww} {h a : Nat} {v : Int32} : ∀ j b, j < 5 → hB (wu u (h + 3) a v) h j b = if b = a ∧ j = 2 then v else hB u h j b := by
  intro j b hj
  unfold hB
  by_cases q : b = a ∧ j = 2
  · rw [if_pos q, q.1, q.2]; exact wu_eq
  · rw [if_neg q]
    by_cases e : j = 2
    · rw [e, wu_nj (by omega)]
    · rw [wu_ne (by omega)]
theorem hB_h {u : ww} {h i : Nat} {v : Int32} : ∀ j b, hB (wu u h i v) h j b = hB u h j b := by
  intro j b
  unfold hB
  rw [wu_ne (by omega)]
theorem HRel.step {u x : ww} {c n p q : Nat} {at0 : Int32 → Int32} {F : Nat → Int32} {vs : Nat → Int32} (hR : HRel u 17 x c) (h : Hat at0 F n) (hp : p < n) (e : stF F n p = .inr (q, vs)) :
    (hTl at0 u 17 (nI p) = none ∧ mtl x c (hrF F n p) vs = none) ∨ ∃ u2 x2 c2, hTl at0 u 17 (nI p) = some u2 ∧ mtl x c (hrF F n p) vs = some x2 ∧ HRel u2 17 x2 c2 := by
  obtain ⟨hM, h7, h8, hB0⟩ := id hR
  have hc9 := hM.1
  have hn := h.1
  have hv := stF_vs e
  obtain ⟨_, hst⟩ := h.st (p := p) (by omega)
  obtain ⟨v98, vwt⟩ := hst q vs e
  have hat := h.lt hp
  have fin : ∀ u2 x2, mtl x c (hrF F n p) vs = some x2 → (∀ c2, Mrw x2 c2 → HRel u2 17 x2 c2) → ∃ x2 c2, mtl x c (hrF F n p) vs = some x2 ∧ HRel u2 17 x2 c2 := fun u2 x2 h1 h2 => by
    obtain ⟨⟨c2, hc2⟩, _⟩ := mtl_ok hM hv h1
    exact ⟨x2, c2, h1, h2 c2 hc2⟩
  have cc : ∀ {x2 : ww} {c2 m : Nat}, Mrw x2 c2 → x2 58 0 = nI m → m ≤ 9 → c2 = m := fun {x2 c2 m} h1 h2 h3 => by
    have := h1.2.1
    rw [h2, nI_eqI (by omega) (by have := h1.1; omega)] at this
    exact this.symm
  unfold hTl
  rw [hat]
  by_cases z98 : hrF F n p = 98
  · rw [if_pos z98]
    obtain ⟨a0, a1, a2, a3, a4⟩ := v98 z98
    obtain ⟨⟨d0, x0, e0⟩, ⟨d1, x1, e1⟩, ⟨d2, x2, e2⟩, ⟨d3, x3, e3⟩, ⟨d4, x4, e4⟩⟩ := hv.1 z98
    unfold hTb
    rw [nI_1, show nI p + 2 = nI (p + 2) from by rw [show (2 : Int32) = nI 2 from rfl, nI_add], show nI p + 3 = nI (p + 3) from by rw [show (3 : Int32) = nI 3 from rfl, nI_add], show nI p + 4 = nI (p + 4) from by rw [show (4 : Int32) = nI 4 from rfl, nI_add], ← a0, ← a1, ← a2, ← a3, ← a4]
    have cond : (vs 0 < 8 ∧ vs 2 ≤ 1 ∧ 1 ≤ vs 3 ∧ 1 ≤ vs 4) ↔ (vs 0 < 8 ∧ vs 2 < 2 ∧ 0 < vs 3 ∧ 0 < vs 4) := by
      rw [e2, e3, e4, show (2 : Int32) = nI 2 from rfl, show (1 : Int32) = nI 1 from rfl, show (0 : Int32) = nI 0 from rfl, nI_leI (by omega) (by decide), nI_leI (by decide) (by omega), nI_leI (by decide) (by omega), nI_ltI (by omega) (by decide), nI_ltI (by decide) (by omega), nI_ltI (by decide) (by omega)]
      constructor
      · rintro ⟨a, b, d, e⟩; exact ⟨a, by omega, by omega, by omega⟩
      · rintro ⟨a, b, d, e⟩; exact ⟨a, by omega, by omega, by omega⟩
    unfold hAdd
    rw [h7]
    by_cases w : vs 0 < 8 ∧ vs 2 ≤ 1 ∧ 1 ≤ vs 3 ∧ 1 ≤ vs 4
    · have w2 := cond.mp w
      rw [if_pos w]
      by_cases w9 : (9 : Int32) ≤ nI c
      · rw [if_pos w9]
        refine Or.inl ⟨rfl, ?_⟩
        rw [show (9 : Int32) = nI 9 from rfl, nI_leI (by decide) (by omega)] at w9
        unfold mtl
        rw [if_pos z98, if_neg (fun z => by have := z.2.2.2.2; omega)]
      · rw [if_neg w9]
        have w10 : c < 9 := by
          rw [show (9 : Int32) = nI 9 from rfl, nI_leI (by decide) (by omega)] at w9
          omega
        have em : mtl x c (hrF F n p) vs = some (wu (mAd x c (vs 0) (vs 1) (vs 2) (vs 3) (vs 4)) 58 0 (nI (c + 1))) := by
          unfold mtl
          rw [if_pos z98, if_pos ⟨w2.1, w2.2.1, w2.2.2.1, w2.2.2.2, w10⟩]
        obtain ⟨x2, c2, y1, y2⟩ := fin (hPl u 17 (vs 0) (vs 1) (vs 2) (vs 3) (vs 4)) _ em (fun c2 hc2 => by
          obtain rfl := cc hc2 wu_eq (by omega)
          refine ⟨hc2, ?_, ?_, fun k b hk hb => ?_⟩
          · unfold hPl; rw [wu_eq, h7, nI_1]
          · unfold hPl
            rw [wu_nj (by decide), wu_ne (by decide), wu_ne (by decide), wu_ne (by decide), wu_ne (by decide), wu_ne (by decide), h8, wu_nj (by decide), mAd_1]
          · rw [hB_pl hc9 h7 k b hk, mB_lo (by decide), mAd_Bg k b hk]
            by_cases q : b = c
            · rw [if_pos q, if_pos q]
            · rw [if_neg q, if_neg q]; exact hB0 k b hk (by omega))
        exact Or.inr ⟨_, x2, c2, rfl, y1, y2⟩
    · rw [if_neg w]
      refine Or.inl ⟨rfl, ?_⟩
      unfold mtl
      rw [if_pos z98, if_neg (fun z => w (cond.mpr ⟨z.1, z.2.1, z.2.2.1, z.2.2.2.1⟩))]
  · rw [if_neg z98]
    by_cases z116 : hrF F n p = 116
    · rw [if_pos z116, nI_1, ← vwt (Or.inl z116)]
      obtain ⟨d0, x0, e0⟩ := hv.2 (Or.inl z116)
      unfold hFlp
      rw [h7]
      by_cases w : 0 ≤ vs 0 ∧ vs 0 < nI c
      · rw [if_pos w]
        have hd : d0 < c := by
          have := w.2
          rw [e0, nI_ltI (by omega) (by omega)] at this
          exact this
        have hcl : (vs 0).toNatClampNeg = d0 := by rw [e0, nI_clamp (by omega)]
        have em : mtl x c (hrF F n p) vs = some (wu x 58 (2 + 5 * d0 + 2) (1 - mB x 2 d0)) := by
          unfold mtl
          rw [if_neg z98, if_pos z116, if_pos w, hcl]
        rw [hcl]
        have e20 : u 20 d0 = mB x 2 d0 := hB0 2 d0 (by decide) hd
        obtain ⟨x2, c2, y1, y2⟩ := fin (wu u (17 + 3) d0 (1 - u (17 + 3) d0)) _ em (fun c2 hc2 => by
          obtain rfl := cc (m := c) hc2 (by rw [wu_nj (by omega)]; exact hM.2.1) hc9
          refine ⟨hc2, by rw [wu_ne (by decide)]; exact h7, by rw [wu_ne (by decide), wu_nj (by omega)]; exact h8, fun k b hk hb => ?_⟩
          rw [hB_pt k b hk, mB_tn hk]
          by_cases q : b = d0 ∧ k = 2
          · rw [if_pos q, if_pos q]
            show 1 - u 20 d0 = _
            rw [e20]
          · rw [if_neg q, if_neg q]; exact hB0 k b hk hb)
        exact Or.inr ⟨_, x2, c2, rfl, y1, y2⟩
      · rw [if_neg w]
        refine Or.inl ⟨rfl, ?_⟩
        unfold mtl
        rw [if_neg z98, if_pos z116, if_neg w]
    · rw [if_neg z116]
      by_cases z119 : hrF F n p = 119
      · rw [if_pos z119, nI_1, ← vwt (Or.inr z119)]
        have em : mtl x c (hrF F n p) vs = some (wu x 58 1 (vs 0)) := by
          unfold mtl
          rw [if_neg z98, if_neg z116, if_pos z119]
        obtain ⟨x2, c2, y1, y2⟩ := fin (wu u 17 8 (vs 0)) _ em (fun c2 hc2 => by
          obtain rfl := cc (m := c) hc2 (by rw [wu_nj (by decide)]; exact hM.2.1) hc9
          refine ⟨hc2, by rw [wu_nj (by decide)]; exact h7, by rw [wu_eq, wu_eq], fun k b hk hb => ?_⟩
          rw [hB_h, mB_lo (by decide)]; exact hB0 k b hk hb)
        exact Or.inr ⟨_, x2, c2, rfl, y1, y2⟩
      · rw [if_neg z119]
        unfold hDrp
        rw [h7]
        by_cases w : c = 0
        · subst w
          rw [if_pos (show nI 0 = 0 from rfl)]
          refine Or.inl ⟨rfl, ?_⟩
          unfold mtl
          rw [if_neg z98, if_neg z116, if_neg z119, if_pos rfl]
        · rw [if_neg (fun z => w ((nI_0i (by omega)).mp z))]
          have em : mtl x c (hrF F n p) vs = some (wu x 58 0 (nI (c - 1))) := by
            unfold mtl
            rw [if_neg z98, if_neg z116, if_neg z119, if_neg w]
          obtain ⟨x2, c2, y1, y2⟩ := fin (wu u 17 7 (nI c - 1)) _ em (fun c2 hc2 => by
            obtain rfl := cc (m := c - 1) hc2 wu_eq (by omega)
            refine ⟨hc2, ?_, by rw [wu_nj (by decide), wu_nj (by decide)]; exact h8, fun k b hk hb => ?_⟩
            · rw [wu_eq, show (1 : Int32) = nI 1 from rfl, nI_subN (by omega)]
            · rw [hB_h, mB_lo (by decide)]; exact hB0 k b hk (by omega))
          exact Or.inr ⟨_, x2, c2, rfl, y1, y2⟩
/-- all statements told: both refuse at one place, or come to one heap, and as many were told -/
theorem HRel.tell {n : Nat} {at0 : Int32 → Int32} {F : Nat → Int32} (h : Hat at0 F n) : ∀ (k j p t tz : Nat) (u x : ww) (c : Nat), HRel u 17 x c → p ≤ n → n ≤ p + k → n ≤ p + j → (p < n → l1F F n (j + 1) p t = .inr tz) → (p = n → t = tz) →
    (∃ q, taF at0 (nI n) k (nI p) u (nI t) = .inl (nI q) ∧ l2F F n (j + 1) p x = .inl q) ∨ ∃ u2 x2 c2, taF at0 (nI n) k (nI p) u (nI t) = .inr (u2, nI tz) ∧ l2F F n (j + 1) p x = .inr x2 ∧ HRel u2 17 x2 c2
  | 0, j, p, t, tz, u, x, c, hR, hp, hk, hj, hl, ht => by
    have e : p = n := by omega
    refine Or.inr ⟨u, x, c, by rw [taF, ht e], by rw [l2F, if_neg (by omega)], hR⟩
  | k + 1, j, p, t, tz, u, x, c, hR, hp, hk, hj, hl, ht => by
    have hn := h.1
    by_cases hpn : p < n
    · have hl := hl hpn
      rw [l1F] at hl
      rw [taF, if_pos ((nI_ltI (by omega) (by omega)).mpr hpn), l2F, if_pos hpn]
      have hcc : (x 58 0).toNatClampNeg = c := by rw [hR.1.2.1, nI_clamp (by have := hR.1.1; omega)]
      rw [hcc]
      cases e : stF F n p with
      | inl q => rw [e] at hl; cases hl
      | inr r =>
        have hb := stF_bd (q := r.1) (vs := r.2) e
        rw [e] at hl
        have hl : (if r.1 < n then l1F F n j r.1 (t + 1) else .inr (t + 1)) = .inr tz := hl
        have hE := (h.st (p := p) (by omega)).1
        rw [e] at hE
        have hE : fStE at0 (nI p) = nI r.1 := hE
        rcases hR.step h hpn (q := r.1) (vs := r.2) e with ⟨s1, s2⟩ | ⟨u2, x2, c2, s1, s2, s3⟩
        · rw [s1]
          refine Or.inl ⟨p, rfl, ?_⟩
          show (match mtl x c (hrF F n p) r.2 with
            | none => Sum.inl p
            | some x2 => l2F F n j r.1 x2) = _
          rw [s2]
        · rw [s1]
          show (∃ q, taF at0 (nI n) k (fStE at0 (nI p)) u2 (nI t + 1) = .inl (nI q) ∧ (match mtl x c (hrF F n p) r.2 with
            | none => Sum.inl p
            | some x2 => l2F F n j r.1 x2) = .inl q) ∨ ∃ u3 x3 c3, taF at0 (nI n) k (fStE at0 (nI p)) u2 (nI t + 1) = .inr (u3, nI tz) ∧ (match mtl x c (hrF F n p) r.2 with
            | none => Sum.inl p
            | some x2 => l2F F n j r.1 x2) = .inr x3 ∧ HRel u3 17 x3 c3
          rw [s2, hE, nI_1]
          by_cases hq : r.1 < n
          · rw [if_pos hq] at hl
            cases j with
            | zero => omega
            | succ j => exact HRel.tell h k j r.1 (t + 1) tz u2 x2 c2 s3 (by omega) (by omega) (by omega) (fun _ => hl) (fun z => by omega)
          · rw [if_neg hq] at hl
            have hq2 : r.1 = n := by omega
            cases hl
            refine Or.inr ⟨u2, x2, c2, ?_, ?_, s3⟩
            · cases k with
              | zero => rfl
              | succ k => rw [taF, if_neg (fun z => hq ((nI_ltI (by omega) (by omega)).mp z))]
            · show l2F F n j r.1 x2 = _
              cases j with
              | zero => rfl
              | succ j => rw [l2F, if_neg hq]
    · have e : p = n := by omega
      refine Or.inr ⟨u, x, c, ?_, by rw [l2F, if_neg hpn], hR⟩
      rw [taF, if_neg (fun z => hpn ((nI_ltI (by omega) (by omega)).mp z)), ht e]
