/-! Sets made whole: both sides. -/
theorem pop_dif {s p : Nat} (hs : s < 512) (h : sbN p s) : ∀ n, pop (nDif s p) n + pop p n = pop s n
  | 0 => rfl
  | n + 1 => by
    have ih := pop_dif hs h n
    rw [pop, pop, pop]
    by_cases q : p.testBit n = true
    · have h1 : ¬ (nDif s p).testBit n = true := fun z => ((tbd hs).mp z).2 q
      rw [if_pos q, if_neg h1, if_pos (h n q)]; omega
    · by_cases q2 : s.testBit n = true
      · rw [if_neg q, if_pos ((tbd hs).mpr ⟨q2, q⟩), if_pos q2]; omega
      · have h1 : ¬ (nDif s p).testBit n = true := fun z => q2 ((tbd hs).mp z).1
        rw [if_neg q, if_neg h1, if_neg q2]; omega
theorem Pk_cnt {N : Nat → Bool} {kn : Nat} (hk : 0 < kn) : ∀ (n s : Nat), s < 512 → Pk N kn n s → n ≤ pop s 10
  | 0, s, _, _ => Nat.zero_le _
  | n + 1, s, hs, ⟨p, h1, h2, h3, h4⟩ => by
    have := Pk_cnt hk n _ (dif_lt hs) h4
    have := pop_dif hs h1 10
    omega
theorem woL_sp {f : Nat → Int32} {N : Nat → Bool} {k : Int32} {s : Nat} : ∀ (l : List Nat) (m : Int32), (woL f N k s l m = m ∨ ∃ p ∈ l, (p ≠ 0 ∧ nI (pop p 10) = k ∧ N p = true) ∧ woL f N k s l m = 1 + f (blw s p)) ∧ m ≤ woL f N k s l m ∧ ∀ p ∈ l, (p ≠ 0 ∧ nI (pop p 10) = k ∧ N p = true) → 1 + f (blw s p) ≤ woL f N k s l m
  | [], m => ⟨Or.inl rfl, Int32.le_refl _, fun p hp => by simp at hp⟩
  | p :: l, m => by
    rw [woL]
    by_cases q : p ≠ 0 ∧ nI (pop p 10) = k ∧ N p = true
    · rw [if_pos q]
      obtain ⟨h1, h2, h3⟩ := woL_sp (f := f) (N := N) (k := k) (s := s) l (mx m (1 + f (nDif s p &&& (2 ^ Nat.log2 p - 1))))
      have e : nDif s p &&& (2 ^ Nat.log2 p - 1) = blw s p := rfl
      rw [e] at h1 h2 h3 ⊢
      have hm : m ≤ mx m (1 + f (blw s p)) ∧ 1 + f (blw s p) ≤ mx m (1 + f (blw s p)) ∧ (mx m (1 + f (blw s p)) = m ∨ mx m (1 + f (blw s p)) = 1 + f (blw s p)) := by
        unfold mx
        by_cases z : m < 1 + f (blw s p)
        · rw [if_pos z]; exact ⟨Int32.le_of_lt z, Int32.le_refl _, Or.inr rfl⟩
        · rw [if_neg z]; exact ⟨Int32.le_refl _, Int32.not_lt.mp z, Or.inl rfl⟩
      refine ⟨?_, Int32.le_trans hm.1 h2, fun x hx hc => ?_⟩
      · rcases h1 with h1 | ⟨x, hx, hc, he⟩
        · rcases hm.2.2 with z | z
          · exact Or.inl (h1.trans z)
          · exact Or.inr ⟨p, List.mem_cons_self, q, h1.trans z⟩
        · exact Or.inr ⟨x, List.mem_cons_of_mem _ hx, hc, he⟩
      · rcases List.mem_cons.mp hx with rfl | hx
        · exact Int32.le_trans hm.2.1 h2
        · exact h3 x hx hc
    · rw [if_neg q]
      obtain ⟨h1, h2, h3⟩ := woL_sp (f := f) (N := N) (k := k) (s := s) l m
      refine ⟨h1.elim Or.inl (fun ⟨x, hx, hc, he⟩ => Or.inr ⟨x, List.mem_cons_of_mem _ hx, hc, he⟩), h2, fun x hx hc => ?_⟩
      rcases List.mem_cons.mp hx with rfl | hx
      · exact absurd hc q
      · exact h3 x hx hc
theorem woF_sp {N : Nat → Bool} {kn : Nat} (hk : 0 < kn) (hk9 : kn ≤ 9) : ∀ (j s : Nat), j ≤ 9 → s < 512 → ∃ n, n ≤ j ∧ woF N (nI kn) j s = nI n ∧ Pk N kn n s ∧ ∀ m, m ≤ j → Pk N kn m s → m ≤ n
  | 0, s, _, _ => ⟨0, Nat.le_refl _, rfl, True.intro, fun m h _ => h⟩
  | j + 1, s, hj, hs => by
    have ih := fun t ht => woF_sp (N := N) hk hk9 j t (by omega) ht
    obtain ⟨h1, h2, h3⟩ := woL_sp (f := woF N (nI kn) j) (N := N) (k := nI kn) (s := s) (subL s 1024 s) 0
    rw [woF]
    generalize woL (woF N (nI kn) j) N (nI kn) s (subL s 1024 s) 0 = x at h1 h2 h3
    have cond : ∀ p, pop p 10 = kn → N p = true → (p ≠ 0 ∧ nI (pop p 10) = nI kn ∧ N p = true) := fun p a b => ⟨k_ne hk a, by rw [a], b⟩
    have up : ∀ m, m ≤ j + 1 → Pk N kn m s → nI m ≤ x := fun m hm hP => by
      cases m with
      | zero => exact h2
      | succ m =>
        obtain ⟨p, p1, p2, p3, p4⟩ := Pk_top hk m s hs hP
        obtain ⟨n', n1, n2, n3, n4⟩ := ih (blw s p) (blw_lt hs)
        have hle := h3 p (subL_all 1024 s (by omega) (Nat.and_self _) p (sbN_and.mp p1) (sbN_le p1)) (cond p p2 p3)
        have := n4 m (by omega) p4
        rw [n2, show (1 : Int32) = nI 1 from rfl, nI_add] at hle
        refine Int32.le_trans ?_ hle
        rw [nI_leI (by omega) (by omega)]; omega
    rcases h1 with rfl | ⟨p, hp, ⟨q0, q1, q2⟩, he⟩
    · refine ⟨0, Nat.zero_le _, rfl, True.intro, fun m hm hP => ?_⟩
      have := up m hm hP
      rw [show (0 : Int32) = nI 0 from rfl, nI_leI (by omega) (by decide)] at this
      exact this
    · obtain ⟨n', n1, n2, n3, n4⟩ := ih (blw s p) (blw_lt hs)
      have hx : x = nI (n' + 1) := by rw [he, n2, show (1 : Int32) = nI 1 from rfl, nI_add, Nat.add_comm]
      have hpp := pop_le p 10
      have hsub : sbN p s := sbN_and.mpr (subL_sub 1024 s (Nat.and_self _) p hp)
      refine ⟨n' + 1, by omega, hx, ⟨p, hsub, (nI_eqI (by omega) (by omega)).mp q1, q2, Pk_mono _ _ _ (blw_lt hs) (dif_lt hs) (blw_sub hs) n3⟩, fun m hm hP => ?_⟩
      have := up m hm hP
      rw [hx, nI_leI (by omega) (by omega)] at this
      exact this
theorem bst_sp {C Lf : Nat → Int32} {low rest : Nat} : ∀ (l : List Nat) (b : Int32), (bstF C Lf low rest l b = b ∨ ∃ p ∈ l, bstF C Lf low rest l b = C (p ||| low) + Lf (rest ^^^ p)) ∧ bstF C Lf low rest l b ≤ b ∧ ∀ p ∈ l, bstF C Lf low rest l b ≤ C (p ||| low) + Lf (rest ^^^ p)
  | [], b => ⟨Or.inl rfl, Int32.le_refl _, fun p hp => by simp at hp⟩
  | p :: l, b => by
    rw [bstF]
    obtain ⟨h1, h2, h3⟩ := bst_sp (C := C) (Lf := Lf) (low := low) (rest := rest) l (mn b (C (p ||| low) + Lf (rest ^^^ p)))
    have hm : mn b (C (p ||| low) + Lf (rest ^^^ p)) ≤ b ∧ mn b (C (p ||| low) + Lf (rest ^^^ p)) ≤ C (p ||| low) + Lf (rest ^^^ p) ∧ (mn b (C (p ||| low) + Lf (rest ^^^ p)) = b ∨ mn b (C (p ||| low) + Lf (rest ^^^ p)) = C (p ||| low) + Lf (rest ^^^ p)) := by
      unfold mn
      by_cases z : C (p ||| low) + Lf (rest ^^^ p) < b
      · rw [if_pos z]; exact ⟨Int32.le_of_lt z, Int32.le_refl _, Or.inr rfl⟩
      · rw [if_neg z]; exact ⟨Int32.le_refl _, Int32.not_lt.mp z, Or.inl rfl⟩
    refine ⟨?_, Int32.le_trans h2 hm.1, fun x hx => ?_⟩
    · rcases h1 with h1 | ⟨x, hx, he⟩
      · rcases hm.2.2 with z | z
        · exact Or.inl (h1.trans z)
        · exact Or.inr ⟨p, List.mem_cons_self, h1.trans z⟩
      · exact Or.inr ⟨x, List.mem_cons_of_mem _ hx, he⟩
    · rcases List.mem_cons.mp hx with rfl | hx
      · exact Int32.le_trans h2 hm.2.1
      · exact h3 x hx
theorem lwb_ok : ∀ s, s < 512 → s ≠ 0 → pop (lwb s) 10 = 1 ∧ s &&& lwb s = lwb s ∧ lwb s = 2 ^ Nat.log2 (lwb s) ∧ nDif s (lwb s) = s ^^^ lwb s := by decide +kernel
theorem iM1 : (-1 : Int32).toInt = -1 := by decide
theorem iBig : (1000000 : Int32).toInt = 1000000 := by decide
/-- the costs: one off for a nest of k, nothing for one left over -/
def cWN (N : Nat → Bool) (kn s : Nat) : Int32 := if pop s 10 = kn ∧ N s = true then -1 else if pop s 10 = 1 then 0 else 1000000
theorem cWN_i {N : Nat → Bool} {kn s : Nat} : (cWN N kn s).toInt = if pop s 10 = kn ∧ N s = true then -1 else if pop s 10 = 1 then 0 else 1000000 := by
  unfold cWN
  by_cases h : pop s 10 = kn ∧ N s = true
  · rw [if_pos h, if_pos h]; exact iM1
  · rw [if_neg h, if_neg h]
    by_cases h2 : pop s 10 = 1
    · rw [if_pos h2, if_pos h2]; exact i0
    · rw [if_neg h2, if_neg h2]; exact iBig
theorem lsT_sp {N : Nat → Bool} {C : Nat → Int32} {kn S : Nat} (hk : 0 < kn) (hS : S < 512) (hC : ∀ t, 0 < t → t ≤ S → C t = cWN N kn t) : ∀ (n : Nat), n ≤ S → ∀ s, s ≤ n → ∃ m : Nat, m ≤ 10 ∧ (lsT C n s).toInt = -(m : Int) ∧ Pk N kn m s ∧ ∀ j, Pk N kn j s → j ≤ m
  | 0, _, s, hs => by
    obtain rfl : s = 0 := by omega
    refine ⟨0, by omega, rfl, True.intro, fun j hj => ?_⟩
    have := Pk_cnt hk j 0 (by decide) hj
    rw [pop_0] at this; exact this
  | n + 1, hn, s, hs => by
    have ih := lsT_sp hk hS hC n (by omega)
    rw [lsT]
    by_cases q : s = n + 1
    · rw [if_pos q]
      subst q
      have hs9 : n + 1 < 512 := by omega
      obtain ⟨l1, l2, l3, l4⟩ := lwb_ok (n + 1) hs9 (by omega)
      have sb0 := sb_ok0 (n + 1) hs9 (by omega)
      rw [lowN_lwb (n + 1) hs9 (by omega)]
      obtain ⟨b1, b2, b3⟩ := bst_sp (C := C) (Lf := lsT C n) (low := lwb (n + 1)) (rest := (n + 1) ^^^ lwb (n + 1)) (subL ((n + 1) ^^^ lwb (n + 1)) 1024 ((n + 1) ^^^ lwb (n + 1))) 1000000
      generalize bstF C (lsT C n) (lwb (n + 1)) ((n + 1) ^^^ lwb (n + 1)) (subL ((n + 1) ^^^ lwb (n + 1)) 1024 ((n + 1) ^^^ lwb (n + 1))) 1000000 = x at b1 b2 b3
      have hrest : (n + 1) ^^^ lwb (n + 1) < 512 := by rw [← l4]; exact dif_lt hs9
      have hlsub : sbN (lwb (n + 1)) (n + 1) := sbN_and.mpr (by rw [Nat.and_comm]; exact l2)
      -- what a candidate is
      have cand : ∀ p ∈ subL ((n + 1) ^^^ lwb (n + 1)) 1024 ((n + 1) ^^^ lwb (n + 1)), ∃ m : Nat, m ≤ 10 ∧ (C (p ||| lwb (n + 1)) + lsT C n (((n + 1) ^^^ lwb (n + 1)) ^^^ p)).toInt = (if pop (p ||| lwb (n + 1)) 10 = kn ∧ N (p ||| lwb (n + 1)) = true then -1 else if pop (p ||| lwb (n + 1)) 10 = 1 then 0 else 1000000 : Int) + -(m : Int) ∧ Pk N kn m (nDif (n + 1) (p ||| lwb (n + 1))) ∧ ∀ j, Pk N kn j (nDif (n + 1) (p ||| lwb (n + 1))) → j ≤ m := fun p hp => by
        obtain ⟨c1, c2, c3, c4, c5, c6, c7, c8⟩ := sb0 p hp
        obtain ⟨m, m1, m2, m3, m4⟩ := ih (((n + 1) ^^^ lwb (n + 1)) ^^^ p) (by omega)
        refine ⟨m, m1, ?_, by rw [c4]; exact m3, by rw [c4]; exact m4⟩
        rw [hC _ (by omega) (by omega)]
        refine sadd cWN_i m2 ?_
        split
        · omega
        · split <;> omega
      have zmem : 0 ∈ subL ((n + 1) ^^^ lwb (n + 1)) 1024 ((n + 1) ^^^ lwb (n + 1)) := subL_all 1024 _ (by omega) (Nat.and_self _) 0 (Nat.zero_and _) (Nat.zero_le _)
      have up : ∀ j, Pk N kn j (n + 1) → x.toInt ≤ -(j : Int) := fun j hj => by
        have alone : ∀ i, Pk N kn i (nDif (n + 1) (lwb (n + 1))) → x.toInt ≤ -(i : Int) := fun i hi => by
          obtain ⟨m, m1, m2, m3, m4⟩ := cand 0 zmem
          have h1 := b3 0 zmem
          rw [Int32.le_iff_toInt_le, m2] at h1
          rw [Nat.zero_or] at h1 m4
          have := m4 i hi
          rw [l1] at h1
          split at h1
          · omega
          · rw [if_pos rfl] at h1; omega
        cases j with
        | zero => exact alone 0 True.intro
        | succ j =>
          rcases Pk_bit (b := Nat.log2 (lwb (n + 1))) j (n + 1) hs9 hj with h5 | ⟨p, p1, p2, p3, p4, p5⟩
          · rw [← l3] at h5
            exact alone (j + 1) h5
          · have hor : nDif p (lwb (n + 1)) ||| lwb (n + 1) = p := by
              apply Nat.eq_of_testBit_eq
              intro i
              have hp9 : p < 512 := Nat.lt_of_le_of_lt (sbN_le p1) hs9
              rw [Nat.testBit_or]
              have hb : (lwb (n + 1)).testBit i = decide (Nat.log2 (lwb (n + 1)) = i) := by
                have := tb_one (Nat.log2 (lwb (n + 1))) i
                rw [← l3] at this; exact this
              by_cases w : p.testBit i = true
              · by_cases w2 : (lwb (n + 1)).testBit i = true
                · rw [w2, w, Bool.or_true]
                · rw [(tbd hp9).mpr ⟨w, w2⟩, w]; rfl
              · have w2 : ¬ (lwb (n + 1)).testBit i = true := fun z => w (by
                  rw [hb] at z
                  have := of_decide_eq_true z
                  rw [← this]; exact p2)
                have w3 : ¬ (nDif p (lwb (n + 1))).testBit i = true := fun z => w ((tbd hp9).mp z).1
                rw [Bool.eq_false_iff.mpr w, Bool.eq_false_iff.mpr w2, Bool.eq_false_iff.mpr w3]; rfl
            have hmem : nDif p (lwb (n + 1)) ∈ subL ((n + 1) ^^^ lwb (n + 1)) 1024 ((n + 1) ^^^ lwb (n + 1)) := by
              have hp9 : p < 512 := Nat.lt_of_le_of_lt (sbN_le p1) hs9
              have hsub : sbN (nDif p (lwb (n + 1))) ((n + 1) ^^^ lwb (n + 1)) := fun i w => by
                rw [← l4, tbd hs9]
                rw [tbd hp9] at w
                exact ⟨p1 i w.1, w.2⟩
              exact subL_all 1024 _ (by omega) (Nat.and_self _) _ (sbN_and.mp hsub) (sbN_le hsub)
            obtain ⟨m, m1, m2, m3, m4⟩ := cand _ hmem
            have h1 := b3 _ hmem
            rw [hor] at m2 m4
            rw [Int32.le_iff_toInt_le, hor, m2, if_pos ⟨p3, p4⟩] at h1
            have := m4 j p5
            omega
      have hx0 : x.toInt ≤ 0 := up 0 True.intro
      rcases b1 with rfl | ⟨p, hp, he⟩
      · rw [iBig] at hx0; omega
      · obtain ⟨m, m1, m2, m3, m4⟩ := cand p hp
        obtain ⟨c1, c2, c3, c4, c5, c6, c7, c8⟩ := sb0 p hp
        have hps : sbN (p ||| lwb (n + 1)) (n + 1) := fun i w => by
          rw [Nat.testBit_or, Bool.or_eq_true] at w
          rcases w with w | w
          · have h7 : p &&& ((n + 1) ^^^ lwb (n + 1)) = p := subL_sub 1024 _ (Nat.and_self _) p hp
            have := sbN_and.mpr h7 i w
            rw [← l4, tbd hs9] at this; exact this.1
          · exact hlsub i w
        rw [he, m2] at hx0
        by_cases w : pop (p ||| lwb (n + 1)) 10 = kn ∧ N (p ||| lwb (n + 1)) = true
        · rw [if_pos w] at m2 hx0
          have hP : Pk N kn (m + 1) (n + 1) := ⟨_, hps, w.1, w.2, m3⟩
          have hc := Pk_cnt hk _ _ hs9 hP
          have hl := pop_le (n + 1) 10
          refine ⟨m + 1, by omega, by rw [he, m2]; omega, hP, fun j hj => ?_⟩
          have := up j hj
          rw [he, m2] at this; omega
        · rw [if_neg w] at m2 hx0
          by_cases w2 : pop (p ||| lwb (n + 1)) 10 = 1
          · rw [if_pos w2] at m2 hx0
            refine ⟨m, m1, by rw [he, m2]; omega, Pk_mono _ _ _ (dif_lt hs9) hs9 (fun i z => ((tbd hs9).mp z).1) m3, fun j hj => ?_⟩
            have := up j hj
            rw [he, m2] at this; omega
          · rw [if_neg w2] at hx0; omega
    · rw [if_neg q]
      exact ih s (by omega)
theorem fIs_k {m : Int32} (h : fIs m 1 9 = true) : ∃ kn, 0 < kn ∧ kn ≤ 9 ∧ m = nI kn := by
  simp only [fIs, Bool.and_eq_true, decide_eq_true_eq] at h
  obtain ⟨a, ha, rfl⟩ := nI_ge0 (x := m) (Int32.le_trans (by decide) h.1)
  have h1 := h.1
  have h2 := h.2
  rw [show (1 : Int32) = nI 1 from rfl, nI_leI (by decide) ha] at h1
  rw [show (9 : Int32) = nI 9 from rfl, nI_leI ha (by decide)] at h2
  exact ⟨a, h1, h2, rfl⟩
theorem Rlt.whole {B M : zBv} {c : Nat} {v m : Int32} (h : Rlt B M c v) (hm : fIs m 1 9 = true) : -(fSum (coW (fHt B v c) m) c) = woF (fun s => nsB M v s) m 9 (2 ^ c - 1) := by
  obtain ⟨kn, k1, k2, rfl⟩ := fIs_k hm
  have hS := (fM_lt h.1).1
  obtain ⟨n, n1, n2, n3, n4⟩ := woF_sp (N := fun s => nsB M v s) k1 k2 9 (2 ^ c - 1) (by decide) hS
  obtain ⟨j, j1, j2, j3, j4⟩ := lsT_sp (N := fun s => nsB M v s) (C := coW (fHt B v c) (nI kn)) k1 hS (fun t t1 t2 => by
    have ht := fM_le t2
    have hp := pop_le t 10
    unfold coW cWN
    rw [fHt_hg h.1 ht]
    have e1 : (nI (pop t 10) = nI kn ∧ 0 < fHg B v c (nI t)) ↔ (pop t 10 = kn ∧ nsB M v t = true) := by rw [h.pos ht, nI_eqI (by omega) (by omega)]
    by_cases w : pop t 10 = kn ∧ nsB M v t = true
    · rw [if_pos (e1.mpr w), if_pos w]
    · rw [if_neg (fun z => w (e1.mp z)), if_neg w]) (fM c) (Nat.le_refl _) (fM c) (Nat.le_refl _)
  have hj9 : j ≤ 9 := by
    have := Pk_cnt k1 j _ hS j3
    have h5 := pop_le (fM c) 9
    have h6 : pop (fM c) 10 = pop (fM c) 9 := by
      rw [pop, if_neg]
      · rfl
      · intro z
        have := lt_bit (c := 9) (show fM c < 2 ^ 9 from hS) z
        omega
    omega
  have hjn : j = n := Nat.le_antisymm (n4 j hj9 j3) (j4 n n3)
  rw [n2, ← hjn]
  apply Int32.toInt_inj.mp
  unfold fSum
  rw [Int32.toInt_neg, j2, nI_toInt (by omega)]
  have e : (-(-(j : Int))) = (j : Int) := by omega
  rw [e]
  exact Int.bmod_eq_of_le (by simp only [Nat.reducePow]; omega) (by simp only [Nat.reducePow]; omega)
