/-! Calls that change: copy, heap. -/
theorem zcpy_in {f g : Nat → Int32} {sp dp n j : Nat} (h : dp ≤ j) (h2 : j < dp + n) : va_cpy f g sp dp n j = f (sp + (j - dp)) := by
  unfold va_cpy; rw [if_pos ⟨h, h2⟩]
theorem zcpy_out {f g : Nat → Int32} {sp dp n j : Nat} (h : ¬ (dp ≤ j ∧ j < dp + n)) : va_cpy f g sp dp n j = g j := by
  unfold va_cpy; rw [if_neg h]
theorem str1 {z nn ii : Nat} (hz : z ≤ 100) (hn : nn < 2 ^ 31) (hi : ii < 2 ^ 31) : (nI nn ≤ nI z ∧ nI ii ≤ nI z - nI nn) ↔ nI nn ≤ nI z - nI ii := by
  rw [sub_le hz hn hi, sub_le hz hi hn, nI_leI hn (by omega)]; omega
theorem str_iff {w : ww} {S S2 z1 z2 : Nat} {i j n : Int32} (h1 : w S 5 = nI z1) (h2 : w S2 5 = nI z2) (hz1 : z1 ≤ 100) (hz2 : z2 ≤ 100) : (strB w S i n = true ∧ strB w S2 j n = true) ↔ (0 ≤ n ∧ 0 ≤ i ∧ 0 ≤ j ∧ n ≤ nI z1 - i ∧ n ≤ nI z2 - j) := by
  unfold strB
  rw [h1, h2]
  simp only [Bool.and_eq_true, decide_eq_true_eq]
  constructor
  · rintro ⟨⟨⟨⟨a1, a2⟩, a3⟩, a4⟩, ⟨⟨b1, b2⟩, b3⟩, b4⟩
    obtain ⟨nn, hn, rfl⟩ := nI_ge0 a1
    obtain ⟨ii, hi, rfl⟩ := nI_ge0 a3
    obtain ⟨jj, hj, rfl⟩ := nI_ge0 b3
    exact ⟨a1, a3, b3, (str1 hz1 hn hi).mp ⟨a2, a4⟩, (str1 hz2 hn hj).mp ⟨b2, b4⟩⟩
  · rintro ⟨a1, a3, b3, c1, c2⟩
    obtain ⟨nn, hn, rfl⟩ := nI_ge0 a1
    obtain ⟨ii, hi, rfl⟩ := nI_ge0 a3
    obtain ⟨jj, hj, rfl⟩ := nI_ge0 b3
    obtain ⟨x1, x2⟩ := (str1 hz1 hn hi).mpr c1
    obtain ⟨y1, y2⟩ := (str1 hz2 hn hj).mpr c2
    exact ⟨⟨⟨⟨a1, x1⟩, a3⟩, x2⟩, ⟨⟨a1, y1⟩, b3⟩, y2⟩
theorem Inv.cE {w : ww} {d i e j n : Int32} (hI : Inv w) : cpE w d i e j n = mcE w d i e j n := by
  unfold cpE mcE
  by_cases hc : fIs d 0 7 = true ∧ fIs e 0 7 = true
  · rw [if_pos hc, if_pos hc]
    obtain ⟨dd, hd, rfl⟩ := fIs7 hc.1
    obtain ⟨ee, he, rfl⟩ := fIs7 hc.2
    rw [fSh_n hd, fSh_n he, nI_clamp (by omega), nI_clamp (by omega), (hI.2.2.1 dd hd).1, (hI.2.2.1 ee he).1]
    by_cases h0 : w 61 dd = 0 ∨ w 61 ee = 0
    · rw [if_pos h0, if_pos h0]
    · rw [if_neg h0, if_neg h0]
      by_cases h2 : w 61 dd = 2 ∧ w 61 ee = 2
      · obtain ⟨z1, a1, a2, a3, a4, _⟩ := hI.row hd ((hI.2.2.1 dd hd).1.trans h2.1)
        obtain ⟨z2, b1, b2, b3, b4, _⟩ := hI.row he ((hI.2.2.1 ee he).1.trans h2.2)
        rw [a4, b4, a3, b3]
        by_cases h3 : w 61 dd = 2 ∧ w 61 ee = 2 ∧ w 62 dd = w 62 ee
        · rw [if_pos h3, if_pos h3]
          by_cases h4 : strB w (41 + 2 * dd) i n = true ∧ strB w (41 + 2 * ee) j n = true
          · rw [if_pos h4, if_pos ((str_iff a2 b2 a1 b1).mp h4)]
          · rw [if_neg h4, if_neg (fun q => h4 ((str_iff a2 b2 a1 b1).mpr q))]
        · rw [if_neg h3, if_neg h3]
      · rw [if_neg (fun q => h2 ⟨q.1, q.2.1⟩), if_neg (fun q => h2 ⟨q.1, q.2.1⟩)]
  · rw [if_neg hc, if_neg hc]
theorem o_copy {w : ww} {Q : Option Value → ww → Prop} {d i e j n : Int32} (hI : Inv w) (hQ : ∀ rz w1, Pr mX12_copy 3 [.ref 57, .int d, .int i, .int e, .int j, .int n] rz w1 → Q (some (.int rz)) w1) : Ct mX11_copy 3 [.ref 0, .int d, .int i, .int e, .int j, .int n] w Q := by
  have hs : ∀ x : Int32, w (fSh x) 1 = 2 → fIs x 0 7 = true → ∃ n, n ≤ 100 ∧ w (fSh x) 5 = nI n := fun x h1 h2 => by
    obtain ⟨dn, hd, rfl⟩ := fIs7 h2
    rw [fSh_n hd] at h1 ⊢
    obtain ⟨n, n1, n2, _⟩ := hI.row hd h1
    exact ⟨n, n1, n2⟩
  refine c_X11_copy (hs d) (hs e) (fun h => hQ _ w (fun Q2 h2 => c_X12_copy hI.2.2.2 (fun _ => zqe (h2 w hI) hI.cE) (fun q => absurd (hI.cE.trans q) h))) (fun h => hQ _ _ (fun Q2 h2 => ?_))
  have hm := hI.cE.symm.trans h
  have hc : fIs d 0 7 = true ∧ fIs e 0 7 = true := by
    unfold cpE at h
    by_cases q : fIs d 0 7 = true ∧ fIs e 0 7 = true
    · exact q
    · rw [if_neg q] at h; exact absurd h (by decide)
  obtain ⟨dd, hd, rfl⟩ := fIs7 hc.1
  obtain ⟨ee, he, rfl⟩ := fIs7 hc.2
  have h61 : w 61 dd = 2 ∧ w 61 ee = 2 := by
    unfold mcE at hm
    rw [if_pos hc, nI_clamp (by omega), nI_clamp (by omega)] at hm
    split at hm
    · exact absurd hm (by decide)
    · split at hm
      · rename_i q; exact ⟨q.1, q.2.1⟩
      · exact absurd hm (by decide)
  obtain ⟨z1, a1, a2, a3, a4, a5⟩ := hI.row hd ((hI.2.2.1 dd hd).1.trans h61.1)
  obtain ⟨z2, b1, b2, b3, b4, b5⟩ := hI.row he ((hI.2.2.1 ee he).1.trans h61.2)
  rw [fSh_n hd, fSh_n he]
  have off : ∀ p, p ≠ 41 + 2 * ee + 1 → wcp w (41 + 2 * dd + 1) i.toNatClampNeg (41 + 2 * ee + 1) j.toNatClampNeg n.toNatClampNeg p = w p := fun p hp => wcp_ne hp
  have on : ∀ b, wcp w (41 + 2 * dd + 1) i.toNatClampNeg (41 + 2 * ee + 1) j.toNatClampNeg n.toNatClampNeg (41 + 2 * ee + 1) b = va_cpy (w (41 + 2 * dd + 1)) (w (41 + 2 * ee + 1)) i.toNatClampNeg j.toNatClampNeg n.toNatClampNeg b := fun b => by unfold wcp; rw [if_pos rfl]
  generalize wcp w (41 + 2 * dd + 1) i.toNatClampNeg (41 + 2 * ee + 1) j.toNatClampNeg n.toNatClampNeg = w1 at off on
  have hm1 : mcE w1 (nI dd) i (nI ee) j n = 0 := by
    unfold mcE at *
    rw [off 61 (by omega), off 62 (by omega), off 63 (by omega)]; exact hm
  refine c_X12_copy (fun x hx => by rw [off 63 (by omega)]; exact hI.2.2.2 x hx) (fun q => absurd hm1 q) (fun _ d2 i2 e2 j2 n2 q1 q2 q3 q4 q5 q6 q7 q8 q9 u k1 k2 => ?_)
  obtain rfl : dd = d2 := (nI_eqI (by omega) (by omega)).mp q1
  obtain rfl : ee = e2 := (nI_eqI (by omega) (by omega)).mp q3
  subst q2
  subst q4
  subst q5
  rw [nI_clamp (by omega), nI_clamp (by omega), nI_clamp (by omega)] at on
  have e : ∀ p, p ≠ 64 → p ≠ 41 + 2 * ee + 1 → u p = w p := fun p h1 h2 => (k1 p h1).trans (off p h2)
  have hSe := hI.2.2.1 ee he
  refine h2 _ (hI.shelf he (fun p hp q1 q2 q3 => e p (by omega) q2) (by rw [e 57 (by decide) (by omega)]) (fun d hd8 hne => ⟨?_, ?_, ?_, ?_, ?_, fun x hx => ?_⟩) ⟨?_, Or.inr (Or.inr ⟨?_, ?_, ?_, fun x hx => ?_⟩)⟩ ⟨z2, b1, ?_⟩)
  · rw [e 61 (by decide) (by omega)]
  · rw [e 62 (by decide) (by omega)]
  · rw [e 63 (by decide) (by omega)]
  · rw [e 65 (by decide) (by omega)]
  · rw [e 66 (by decide) (by omega)]
  · rw [k2, if_neg (by omega), off 64 (by omega)]
  · rw [e _ (by omega) (by omega), e 61 (by decide) (by omega)]; exact hSe.1
  · rw [e 61 (by decide) (by omega)]; exact h61.2
  · rw [e _ (by omega) (by omega), e 62 (by decide) (by omega)]; exact b4
  · rw [e _ (by omega) (by omega), e 63 (by decide) (by omega), b2, b3]
  · rw [k1 _ (by omega), on, k2]
    by_cases q : j2 ≤ x ∧ x < j2 + n2
    · rw [zcpy_in q.1 q.2, if_pos (by omega), off 64 (by omega), a5 _ (by omega)]
      unfold fE
      congr 1; omega
    · rw [zcpy_out q, if_neg (by omega), off 64 (by omega)]; exact b5 x hx
  · rw [e 63 (by decide) (by omega)]; exact b3
-- heap
theorem taF_off {at0 : Int32 → Int32} {n : Int32} : ∀ (k : Nat) (p : Int32) (u : ww) (t : Int32) (u1 : ww) (t1 : Int32) (c : Nat), c ≤ 9 → u 17 7 = nI c → taF at0 n k p u t = .inr (u1, t1) → ∀ q, ¬ tri q → u1 q = u q
  | 0, p, u, t, u1, t1, c, _, _, h, q, hq => by
    rw [taF] at h; cases h; rfl
  | k + 1, p, u, t, u1, t1, c, hc, h7, h, q, hq => by
    rw [taF] at h
    by_cases z : p < n
    · rw [if_pos z] at h
      cases e : hTl at0 u 17 p with
      | none => rw [e] at h; cases h
      | some u2 =>
        rw [e] at h
        obtain ⟨⟨c2, hc2, h72⟩, ho⟩ := hTl_ok hc h7 e
        rw [taF_off k _ u2 _ u1 t1 c2 hc2 h72 h q hq]
        exact ho q hq
    · rw [if_neg z] at h; cases h; rfl
theorem Inv.hat {w : ww} {dn n : Nat} (hI : Inv w) (hd : dn < 8) (h4 : w (41 + 2 * dn) 1 = 2) (hn : w 63 dn = nI n) (hn1 : n ≤ 100) : Hat (sAt w (41 + 2 * dn)) (fE w dn) n := by
  obtain ⟨m, m1, m2, m3, m4, m5⟩ := hI.row hd h4
  obtain rfl : n = m := by
    rw [hn] at m3
    exact (nI_eqI (by omega) (by omega)).mp m3
  refine ⟨hn1, fun p hp => ?_⟩
  unfold sAt
  rw [m2]
  by_cases q : p < n
  · rw [if_pos q, if_pos ⟨nI_pos' (by omega), (nI_ltI (by omega) (by omega)).mpr q⟩, nI_clamp (by omega)]
    exact m5 p (by omega)
  · rw [if_neg q, if_neg (fun z => q ((nI_ltI (by omega) (by omega)).mp z.2))]
theorem l1F_0 {F : Nat → Int32} : l1F F 0 1 0 0 = .inl 0 := by
  rw [l1F]
  have e : stF F 0 0 = .inl 0 := by
    unfold stF
    have h : hrF F 0 0 = -1000 := by unfold hrF; rw [if_neg (by decide)]
    rw [h, if_neg (by decide), if_neg (by decide), if_neg (by decide)]
  rw [e]
theorem o_heap {w : ww} {Q : Option Value → ww → Prop} {d : Int32} (hI : Inv w) (hQ : ∀ rz w1, Pr mX12_heap 5 [.ref 57, .int d] rz w1 → Q (some (.int rz)) w1) : Ct mX11_heap 10 [.ref 0, .int d] w Q := by
  obtain ⟨c, hR⟩ := hI.1
  have hz : ∀ w1 : ww, (∀ p, p = 61 ∨ p = 62 ∨ p = 63 ∨ p = 64 → w1 p = w p) → mrR w1 d 0 = mrR w d 0 ∧ (∀ x, w1 63 x = w 63 x) ∧ ∀ dn, fE w1 dn = fE w dn := fun w1 h => by
    refine ⟨mrR_of (h 61 (by omega)) (h 62 (by omega)), fun x => by rw [h 63 (by omega)], fun dn => ?_⟩
    funext j; unfold fE; rw [h 64 (by omega)]
  -- behind: what is kept
  have beh : ∀ w1 u : ww, Inv w1 → Hrw w1 u → ∀ c2, HRel u 10 u c2 → Inv u := fun w1 u h1 h2 c2 h3 => h1.bh h3 (fun p hp => h2.1 p (by unfold Kb at hp; omega) (by unfold Kb at hp; omega) (by unfold Kb at hp; omega) (by unfold Kb at hp; omega)) (h2.2 9 (by decide) (by decide) (by decide) (by decide))
  have keep : ∀ w1 u : ww, Inv w1 → HRel w1 10 w1 c → Hrw w1 u → (∀ k, k < 52 → u 58 k = w1 58 k) → Inv u := fun w1 u h1 h0 h2 h3 => beh w1 u h1 h2 c (h0.tr (fun p q1 q2 => h2.1 p (by omega) (by omega) (by omega) (by omega)) h3)
  refine c_X11_heap hR.now hI.sok (fun h => hQ _ w (fun Q2 h2 => ?_)) (fun h n n1 n2 hf => hQ _ w (fun Q2 h2 => ?_)) (fun h n n1 n2 hf u0 hu0 => ?_)
  · have e := hI.rB (d := d)
    have hne : ¬ mrR w d 0 = 0 := fun q => h (e.trans q)
    exact c_X12_heap hR.1 hI.2.2.2 (fun _ => zqe (h2 w hI) e) (fun q => absurd q hne) (fun q => absurd q hne) (fun q => absurd q hne)
  · have h0 := hI.rB.symm.trans h
    obtain ⟨dn, hd, rfl, h4⟩ := rfS_2 (rfB_0 h)
    rw [fSh_n hd] at n2 hf h2
    obtain ⟨m, m1, m2, m3, m4, m5⟩ := hI.row hd h4
    obtain rfl : n = m := by rw [n2] at m2; exact (nI_eqI (by omega) (by omega)).mp m2
    have H := hI.hat hd h4 m3 n1
    have ef : ∀ q, l1F (fE w dn) n (n + 1) 0 0 = .inl q → ffW w (41 + 2 * dn) n = nI q := fun q hq => by
      unfold ffW
      by_cases z : n = 0
      · subst z
        rw [l1F_0] at hq
        cases hq
        rw [if_pos rfl]; rfl
      · rw [if_neg z]
        have := H.ff n n 0 0 (by omega) (by omega) (by omega)
        rw [hq] at this
        exact this
    have er : ∀ t, ¬ l1F (fE w dn) n (n + 1) 0 0 = .inr t := fun t ht => by
      have hz : n ≠ 0 := fun z => by subst z; rw [l1F_0] at ht; cases ht
      have := H.ff n n 0 0 (by omega) (by omega) (by omega)
      rw [ht] at this
      unfold ffW at hf
      rw [if_neg hz] at hf
      have this : ffF (sAt w (41 + 2 * dn)) (nI n) n 0 = -1 := this
      rw [this] at hf
      exact absurd hf (by decide)
    refine c_X12_heap hR.1 hI.2.2.2 (fun q => absurd h0 q) (fun _ d2 k2 hd2 e2 hk2 ek2 q hq u hu hu58 => ?_) (fun _ d2 k2 hd2 e2 hk2 ek2 t ht => ?_) (fun _ d2 k2 hd2 e2 hk2 ek2 t ht => ?_)
    · obtain rfl : dn = d2 := (nI_eqI (by omega) (by omega)).mp e2
      obtain rfl : n = k2 := by rw [m3] at ek2; exact (nI_eqI (by omega) (by omega)).mp ek2
      refine zqe (h2 u (keep w u hI hR hu (fun k _ => by rw [hu58]))) ?_
      rw [ef q hq]
    · obtain rfl : dn = d2 := (nI_eqI (by omega) (by omega)).mp e2
      obtain rfl : n = k2 := by rw [m3] at ek2; exact (nI_eqI (by omega) (by omega)).mp ek2
      exact absurd ht (er t)
    · obtain rfl : dn = d2 := (nI_eqI (by omega) (by omega)).mp e2
      obtain rfl : n = k2 := by rw [m3] at ek2; exact (nI_eqI (by omega) (by omega)).mp ek2
      exact absurd ht (er t)
  · have h0 := hI.rB.symm.trans h
    obtain ⟨dn, hd, rfl, h4⟩ := rfS_2 (rfB_0 h)
    rw [fSh_n hd] at n2 hf
    rw [fSh_n hd]
    obtain ⟨m, m1, m2, m3, m4, m5⟩ := hI.row hd h4
    obtain rfl : n = m := by rw [n2] at m2; exact (nI_eqI (by omega) (by omega)).mp m2
    have H := hI.hat hd h4 m3 n1
    have hz0 : n ≠ 0 := fun z => by subst z; unfold ffW at hf; rw [if_pos rfl] at hf; exact absurd (by decide) hf
    obtain ⟨tz, htz⟩ : ∃ t, l1F (fE w dn) n (n + 1) 0 0 = .inr t := by
      have := H.ff n n 0 0 (by omega) (by omega) (by omega)
      cases e : l1F (fE w dn) n (n + 1) 0 0 with
      | inr t => exact ⟨t, rfl⟩
      | inl q =>
        rw [e] at this
        have this : ffF (sAt w (41 + 2 * dn)) (nI n) n 0 = nI q := this
        unfold ffW at hf
        rw [if_neg hz0, this] at hf
        have hq : q < 2 ^ 31 := by
          have hb : ∀ (k p t q : Nat), p ≤ n → l1F (fE w dn) n k p t = .inl q → q ≤ n + 1 := by
            intro k
            induction k with
            | zero => intro p t q _ h; rw [l1F] at h; cases h
            | succ k ih =>
              intro p t q hp h
              rw [l1F] at h
              cases e : stF (fE w dn) n p with
              | inl q2 => rw [e] at h; cases h; exact stF_fl hp e
              | inr r =>
                rw [e] at h
                have h : (if r.1 < n then l1F (fE w dn) n k r.1 (t + 1) else .inr (t + 1)) = .inl q := h
                by_cases z : r.1 < n
                · rw [if_pos z] at h; exact ih r.1 (t + 1) q (by omega) h
                · rw [if_neg z] at h; cases h
          have := hb (n + 1) 0 0 q (Nat.zero_le _) e
          omega
        exact absurd (nI_pos' hq) hf
    obtain ⟨b1, b2, b3, b4⟩ := hu0
    have hu17 : ∀ x : ww, x 58 = w 58 → HRel u0 17 x c := fun x hx => by
      refine ⟨hR.1.of52 (fun k _ => by rw [hx]), by rw [b2]; exact hR.2.1, by rw [b3, hx]; exact hR.2.2.1, fun k b hk hb => ?_⟩
      have hc := hR.1.1
      rw [b4 k b hk (by omega), hR.2.2.2 k b hk hb]
      unfold mB; rw [hx]
    have tell := fun x (hx : x 58 = w 58) => HRel.tell H n n 0 0 tz u0 x c (hu17 x hx) (Nat.zero_le _) (by omega) (by omega) (fun _ => htz) (fun z => absurd z.symm hz0)
    refine ⟨fun p hp u hu => hQ _ u (fun Q2 h2 => ?_), fun u1 t ht u hu => hQ _ u (fun Q2 h2 => ?_)⟩
    · -- refused
      have hIu : Inv u := hI.of (fun p hp => hu p (by unfold Ky at hp; unfold tri; omega)) (by rw [hu 57 (by unfold tri; omega)])
      have hRu : HRel u 10 u c := hR.tr (fun p q1 q2 => hu p (by unfold tri; omega)) (fun k _ => by rw [hu 58 (by unfold tri; omega)])
      obtain ⟨y1, y2, y3⟩ := hz u (fun p hp => hu p (by unfold tri; omega))
      rcases tell u (hu 58 (by unfold tri; omega)) with ⟨q, x1, x2⟩ | ⟨u2, x3, c2, x1, _⟩
      · have hpq : p = nI q := by
          have x1 : taF (sAt w (41 + 2 * dn)) (nI n) n 0 u0 0 = .inl (nI q) := x1
          rw [hp] at x1; cases x1; rfl
        subst hpq
        refine c_X12_heap hRu.1 hIu.2.2.2 (fun q => absurd (y1.trans h0) q) (fun _ d2 k2 hd2 e2 hk2 ek2 q2 hq2 => ?_) (fun _ d2 k2 hd2 e2 hk2 ek2 t2 ht2 p2 hp2 u3 hu3 hu4 => ?_) (fun _ d2 k2 hd2 e2 hk2 ek2 t2 ht2 x3 hx3 => ?_)
        · obtain rfl : dn = d2 := (nI_eqI (by omega) (by omega)).mp e2
          obtain rfl : n = k2 := by rw [y2, m3] at ek2; exact (nI_eqI (by omega) (by omega)).mp ek2
          rw [y3, htz] at hq2; cases hq2
        · obtain rfl : dn = d2 := (nI_eqI (by omega) (by omega)).mp e2
          obtain rfl : n = k2 := by rw [y2, m3] at ek2; exact (nI_eqI (by omega) (by omega)).mp ek2
          rw [y3, x2] at hp2
          cases hp2
          exact h2 u3 (keep u u3 hIu hRu hu3 hu4)
        · obtain rfl : dn = d2 := (nI_eqI (by omega) (by omega)).mp e2
          obtain rfl : n = k2 := by rw [y2, m3] at ek2; exact (nI_eqI (by omega) (by omega)).mp ek2
          rw [y3, x2] at hx3; cases hx3
      · have x1 : taF (sAt w (41 + 2 * dn)) (nI n) n 0 u0 0 = .inr (u2, nI tz) := x1
        rw [hp] at x1; cases x1
    · -- told
      obtain ⟨g1, g2, g3, g4⟩ := hu
      have hoff := taF_off n 0 u0 0 u1 t c hR.1.1 (by rw [b2]; exact hR.2.1) ht
      have e : ∀ p, (p < 10 ∨ 22 < p) → u p = w p := fun p hp => by
        rw [g1 p (by omega), hoff p (by unfold tri; omega), b1 p (by omega)]
      obtain ⟨y1, y2, y3⟩ := hz u (fun p hp => e p (by omega))
      have u58 : u 58 = w 58 := e 58 (by omega)
      have hMu : Mrw u c := hR.1.of52 (fun k _ => by rw [u58])
      have hZu : Msz u := fun x hx => by rw [y2]; exact hI.2.2.2 x hx
      rcases tell u u58 with ⟨q, x1, _⟩ | ⟨u2, x3, c2, x1, x2, hR2⟩
      · have x1 : taF (sAt w (41 + 2 * dn)) (nI n) n 0 u0 0 = .inl (nI q) := x1
        rw [ht] at x1; cases x1
      · have x1 : taF (sAt w (41 + 2 * dn)) (nI n) n 0 u0 0 = .inr (u2, nI tz) := x1
        rw [ht] at x1
        cases x1
        refine c_X12_heap hMu hZu (fun q => absurd (y1.trans h0) q) (fun _ d2 k2 hd2 e2 hk2 ek2 q2 hq2 => ?_) (fun _ d2 k2 hd2 e2 hk2 ek2 t2 ht2 p2 hp2 => ?_) (fun _ d2 k2 hd2 e2 hk2 ek2 t2 ht2 x4 hx4 u3 hu3 hu4 hc4 => ?_)
        · obtain rfl : dn = d2 := (nI_eqI (by omega) (by omega)).mp e2
          obtain rfl : n = k2 := by rw [y2, m3] at ek2; exact (nI_eqI (by omega) (by omega)).mp ek2
          rw [y3, htz] at hq2; cases hq2
        · obtain rfl : dn = d2 := (nI_eqI (by omega) (by omega)).mp e2
          obtain rfl : n = k2 := by rw [y2, m3] at ek2; exact (nI_eqI (by omega) (by omega)).mp ek2
          rw [y3, x2] at hp2; cases hp2
        · obtain rfl : dn = d2 := (nI_eqI (by omega) (by omega)).mp e2
          obtain rfl : n = k2 := by rw [y2, m3] at ek2; exact (nI_eqI (by omega) (by omega)).mp ek2
          rw [y3, htz] at ht2
          cases ht2
          rw [y3, x2] at hx4
          cases hx4
          have h58 : ∀ k, k < 52 → u3 58 k = x3 58 k := fun k _ => by rw [hu4]
          refine h2 u3 (hI.bh (c := c2) ⟨hR2.1.of52 h58, ?_, ?_, fun k b hk hb => ?_⟩ (fun p hp => ?_) ?_)
          · rw [hu3.1 10 (by decide) (by decide) (by decide) (by decide), g2]; exact hR2.2.1
          · rw [hu3.1 10 (by decide) (by decide) (by decide) (by decide), g3, h58 1 (by decide)]; exact hR2.2.2.1
          · have hc := hR2.1.1
            have q1 := g4 k b hk (by omega)
            have q2 := hR2.2.2.2 k b hk hb
            unfold hB mB at *
            rw [hu3.1 _ (by omega) (by omega) (by omega) (by omega), q1, q2, hu4]
          · unfold Kb at hp
            rw [hu3.1 p (by omega) (by omega) (by omega) (by omega), e p (by omega)]
          · rw [hu3.2 9 (by decide) (by decide) (by decide) (by decide), e 57 (by omega)]
