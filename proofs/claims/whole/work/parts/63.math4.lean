/-! Both sides answer alike: nest, height, longest, fewest, carry, load, apart. -/
def Rlt (B M : zBv) (c : Nat) (v : Int32) : Prop := c ≤ 9 ∧ (∃ vn, vn ≤ 9 ∧ v = nI vn) ∧ (∀ k b, k < 5 → b < c → B k b = M k b) ∧ ∀ b, b < c → Rgb M b
theorem Rlt.wid {B M : zBv} {c : Nat} {v : Int32} (h : Rlt B M c v) : Wid (fun a b => fLi M a b v) (oB M) c := fun a b _ hb hl => by
  obtain ⟨vn, h1, h2⟩ := h.2.1
  exact li_lt (h.2.2.2 b hb) h2 h1 hl
theorem Rlt.hg {B M : zBv} {c : Nat} {v bits : Int32} (h : Rlt B M c v) : fHg B v c bits = fHg M v c bits := fHg_cong h.2.2.1
theorem fHt_hg {B : zBv} {v : Int32} {c t : Nat} (hc : c ≤ 9) (ht : t < 2 ^ c) : fHt B v c t = fHg B v c (nI t) := by
  have h9 := p29 hc
  rw [fHt_l hc ht, fHg_l (by omega) (by omega)]
theorem ri_n {M : zBv} {b : Nat} (h : Rgb M b) : ∃ r, r ≤ 20 ∧ fRi M b = nI r := by
  obtain ⟨⟨k, hk, e0⟩, ⟨f, hf, e1⟩, _⟩ := h
  unfold fRi
  rw [e0, e1]
  rcases (by omega : k = 0 ∨ k = 1 ∨ k = 2 ∨ k = 3 ∨ k = 4 ∨ k = 5 ∨ k = 6 ∨ k = 7) with rfl | rfl | rfl | rfl | rfl | rfl | rfl | rfl
  · exact ⟨1, by decide, rfl⟩
  · exact ⟨1, by decide, rfl⟩
  · exact ⟨2, by decide, rfl⟩
  · refine ⟨1 + f, by omega, ?_⟩
    show (1 : Int32) + nI f = _
    rw [show (1 : Int32) = nI 1 from rfl, nI_add]
  · exact ⟨1, by decide, rfl⟩
  · refine ⟨1 + f, by omega, ?_⟩
    show (1 : Int32) + nI f = _
    rw [show (1 : Int32) = nI 1 from rfl, nI_add]
  · refine ⟨2 + 2 * f, by omega, ?_⟩
    show (2 : Int32) + 2 * nI f = _
    rw [show (2 : Int32) = nI 2 from rfl, nI_mulN, nI_add]
  · exact ⟨1, by decide, rfl⟩
theorem hgt_n {M : zBv} : ∀ l : List Nat, l ≠ [] → (∀ x ∈ l, Rgb M x) → ∃ n, 1 ≤ n ∧ n ≤ 79 + 20 * l.length ∧ hgt (fRi M) (M 4) l = nI n
  | [], h, _ => absurd rfl h
  | [a], _, h => by
    obtain ⟨d, h1, h2, e⟩ := (h a (by simp)).2.2.2.2
    exact ⟨d, h1, by simp; omega, e⟩
  | a :: b :: l, _, h => by
    obtain ⟨n, h1, h2, e⟩ := hgt_n (b :: l) (by simp) (fun x hx => h x (List.mem_cons_of_mem _ hx))
    obtain ⟨r, h3, e3⟩ := ri_n (h a (by simp))
    refine ⟨r + n, by omega, ?_, ?_⟩
    · rw [List.length_cons]; omega
    · rw [hgt, e, e3, nI_add]
theorem lstN_len {B : zBv} {c t : Nat} : (lstN B c t).length ≤ c := by
  have := List.length_filter_le t.testBit (ordO (oB B) c)
  rw [ordO_len] at this; exact this
theorem Rlt.hn {B M : zBv} {c t : Nat} {v : Int32} (h : Rlt B M c v) (ht : t < 2 ^ c) (hg : gN (fun a b => fLi M a b v) (lstN M c t) = true) : ∃ n, 1 ≤ n ∧ n ≤ 400 ∧ hgt (fRi M) (M 4) (lstN M c t) = nI n := by
  obtain ⟨h0, _⟩ := (gN_iff ht).mp hg
  obtain ⟨n, h1, h2, e⟩ := hgt_n (M := M) (lstN M c t) (fun q => h0 ((lstN_ne ht).mp q)) (fun x hx => h.2.2.2 x (lt_bit ht ((lstN_mem ht).mp hx)))
  have := lstN_len (B := M) (c := c) (t := t)
  have := h.1
  exact ⟨n, h1, by omega, e⟩
/-- a nest has a height above 0, else it is 0; and both sides say so -/
theorem Rlt.ns {B M : zBv} {c t : Nat} {v : Int32} (h : Rlt B M c v) (ht : t < 2 ^ c) : (nsB M v t = true ∧ ∃ n, 1 ≤ n ∧ n ≤ 400 ∧ fHg B v c (nI t) = nI n ∧ mHt M t = nI n) ∨ (nsB M v t = false ∧ fHg B v c (nI t) = 0) := by
  have hc := h.1
  have h9 := p29 hc
  rw [h.hg, fHg_l (by omega) (by omega), nsB_l (by omega) h.wid ht]
  cases q : gN (fun a b => fLi M a b v) (lstN M c t) with
  | true =>
    obtain ⟨n, h1, h2, e⟩ := h.hn ht q
    exact Or.inl ⟨rfl, n, h1, h2, by rw [if_pos rfl]; exact e, by rw [mHt_l (by omega) h.wid ht q]; exact e⟩
  | false => exact Or.inr ⟨rfl, by rw [if_neg (by decide)]⟩
theorem n0lt {n : Nat} (h1 : 1 ≤ n) (h2 : n ≤ 400) : (0 : Int32) < nI n := by
  rw [show (0 : Int32) = nI 0 from rfl, nI_ltI (by decide) (by omega)]; exact h1
theorem Rlt.pos {B M : zBv} {c t : Nat} {v : Int32} (h : Rlt B M c v) (ht : t < 2 ^ c) : 0 < fHg B v c (nI t) ↔ nsB M v t = true := by
  rcases h.ns ht with ⟨h1, n, h2, h3, h4, h5⟩ | ⟨h1, h2⟩
  · rw [h4]; exact ⟨fun _ => h1, fun _ => n0lt h2 h3⟩
  · rw [h1, h2]; exact ⟨fun q => absurd q (by decide), fun q => by cases q⟩
theorem Rlt.mh {B M : zBv} {c t : Nat} {v : Int32} (h : Rlt B M c v) (ht : t < 2 ^ c) (hn : nsB M v t = true) : mHt M t = fHg B v c (nI t) := by
  rcases h.ns ht with ⟨h1, n, h2, h3, h4, h5⟩ | ⟨h1, h2⟩
  · rw [h4, h5]
  · rw [h1] at hn; cases hn
theorem fM_le {c t : Nat} (h : t ≤ fM c) : t < 2 ^ c := by
  have : 0 < 2 ^ c := Nat.pow_pos (by decide)
  unfold fM at h; omega
theorem Rlt.sum {B M : zBv} {c : Nat} {v : Int32} (h : Rlt B M c v) {C C2 : Nat → Int32} (e : ∀ t, 0 < t → t < 2 ^ c → C t = C2 t) : fSum C c = fSum C2 c :=
  lsT_cong _ (fM_lt h.1).1 (fun t h1 h2 => e t h1 (fM_le h2)) _ (Nat.le_refl _)
theorem Rlt.fewest {B M : zBv} {c : Nat} {v : Int32} (h : Rlt B M c v) : fSum (co1 (fHt B v c) 1000000) c = fSum (ctF M v 0 0) c := by
  refine h.sum (fun t _ ht => ?_)
  unfold co1 ctF
  rw [fHt_hg h.1 ht]
  rcases h.ns ht with ⟨h1, n, h2, h3, h4, h5⟩ | ⟨h1, h2⟩
  · rw [h4, h1, if_pos ⟨n0lt h2 h3, by rw [show (1000000 : Int32) = nI 1000000 from rfl, nI_leI (by omega) (by decide)]; omega⟩, if_pos rfl, if_neg (by decide), if_neg (fun q => absurd q.1 (by decide))]
  · rw [h2, h1, if_neg (fun q => absurd q.1 (by decide)), if_neg (by decide)]
theorem Rlt.carry {B M : zBv} {c : Nat} {v : Int32} (h : Rlt B M c v) : fSum (coH (fHt B v c)) c = fSum (ctF M v 1 0) c := by
  refine h.sum (fun t _ ht => ?_)
  unfold coH ctF
  rw [fHt_hg h.1 ht]
  rcases h.ns ht with ⟨h1, n, h2, h3, h4, h5⟩ | ⟨h1, h2⟩
  · rw [h4, h1, h5, if_pos (n0lt h2 h3), if_pos rfl, if_pos rfl]
  · rw [h2, h1, if_neg (by decide), if_neg (by decide)]
theorem Rlt.load {B M : zBv} {c : Nat} {v m : Int32} (h : Rlt B M c v) : fSum (co1 (fHt B v c) m) c = fSum (ctF M v 2 m) c := by
  refine h.sum (fun t _ ht => ?_)
  unfold co1 ctF
  rw [fHt_hg h.1 ht]
  rcases h.ns ht with ⟨h1, n, h2, h3, h4, h5⟩ | ⟨h1, h2⟩
  · rw [h4, h1, h5]
    have e21 : ¬ (2 : Int32) = 1 := by decide
    rw [if_pos (show true = true from rfl), if_neg e21]
    by_cases q : nI n ≤ m
    · rw [if_pos ⟨n0lt h2 h3, q⟩, if_neg (fun z => absurd z.2 (Int32.not_lt.mpr q))]
    · rw [if_neg (fun z => q z.2), if_pos ⟨rfl, Int32.not_le.mp q⟩]
  · rw [h2, h1, if_neg (fun q => absurd q.1 (by decide)), if_neg (by decide)]
-- the longest
theorem pop_ps : ∀ s, s < 1024 → s ≠ 0 → 0 < pop s 10 := pop_pos
theorem lgr_iff {H : Nat → Int32} {s t : Nat} : lgr H s t = true ↔ pop t 10 < pop s 10 ∨ (pop s 10 = pop t 10 ∧ (H s < H t ∨ (H s = H t ∧ s < t))) := by
  unfold lgr
  by_cases h1 : pop s 10 = pop t 10
  · rw [if_pos h1]
    by_cases h2 : H s = H t
    · rw [if_pos h2, decide_eq_true_eq]
      constructor
      · exact fun q => Or.inr ⟨h1, Or.inr ⟨h2, q⟩⟩
      · rintro (q | ⟨-, q | ⟨-, q⟩⟩)
        · omega
        · rw [h2] at q; exact absurd q Int32.lt_irrefl
        · exact q
    · rw [if_neg h2, decide_eq_true_eq]
      constructor
      · exact fun q => Or.inr ⟨h1, Or.inl q⟩
      · rintro (q | ⟨-, q | ⟨q, -⟩⟩)
        · omega
        · exact q
        · exact absurd q h2
  · rw [if_neg h1, decide_eq_true_eq]
    constructor
    · exact fun q => Or.inl q
    · rintro (q | ⟨q, -⟩)
      · exact q
      · exact absurd q h1
theorem lgr_tr {H : Nat → Int32} {a b d : Nat} (h1 : lgr H a b = true) (h2 : lgr H b d = true) : lgr H a d = true := by
  rw [lgr_iff] at *
  rcases h1 with h1 | ⟨h1, h1'⟩
  · rcases h2 with h2 | ⟨h2, h2'⟩
    · exact Or.inl (by omega)
    · exact Or.inl (by omega)
  · rcases h2 with h2 | ⟨h2, h2'⟩
    · exact Or.inl (by omega)
    · refine Or.inr ⟨by omega, ?_⟩
      rcases h1' with q | ⟨q, q'⟩
      · rcases h2' with z | ⟨z, z'⟩
        · exact Or.inl (Int32.lt_trans q z)
        · exact Or.inl (z ▸ q)
      · rcases h2' with z | ⟨z, z'⟩
        · exact Or.inl (by rw [q]; exact z)
        · exact Or.inr ⟨q.trans z, by omega⟩
theorem lgr_tot {H : Nat → Int32} {a b : Nat} (h1 : lgr H a b = false) (h2 : lgr H b a = false) : a = b := by
  have h1 : ¬ lgr H a b = true := by rw [h1]; decide
  have h2 : ¬ lgr H b a = true := by rw [h2]; decide
  rw [lgr_iff] at h1 h2
  have e : pop a 10 = pop b 10 := by omega
  have e2 : H a = H b := Int32.le_antisymm (Int32.not_lt.mp (fun q => h2 (Or.inr ⟨e.symm, Or.inl q⟩))) (Int32.not_lt.mp (fun q => h1 (Or.inr ⟨e, Or.inl q⟩)))
  have x1 : ¬ a < b := fun q => h1 (Or.inr ⟨e, Or.inr ⟨e2, q⟩⟩)
  have x2 : ¬ b < a := fun q => h2 (Or.inr ⟨e.symm, Or.inr ⟨e2.symm, q⟩⟩)
  omega
/-- of the sets S within t the best, 0 if there is none -/
def opt (H : Nat → Int32) (t : Nat) (S : Nat → Prop) (b : Nat) : Prop := (b = 0 ∨ (S b ∧ nDif b t = 0)) ∧ ∀ s, S s → nDif s t = 0 → lgr H s b = false
theorem opt_step {H : Nat → Int32} {t b s : Nat} {S : Nat → Prop} (h : opt H t S b) : opt H t (fun x => S x ∨ x = s) (if nDif s t = 0 ∧ lgr H s b = true then s else b) := by
  have irr : ∀ x, lgr H x x = false := fun x => Bool.eq_false_iff.mpr (fun q => by
    rw [lgr_iff] at q
    rcases q with q | ⟨-, q | ⟨-, q⟩⟩
    · omega
    · exact Int32.lt_irrefl q
    · omega)
  by_cases q : nDif s t = 0 ∧ lgr H s b = true
  · rw [if_pos q]
    refine ⟨Or.inr ⟨Or.inr rfl, q.1⟩, fun x hx hd => ?_⟩
    rcases hx with hx | rfl
    · refine Bool.eq_false_iff.mpr (fun z => ?_)
      have := lgr_tr z q.2
      rw [h.2 x hx hd] at this; cases this
    · exact irr x
  · rw [if_neg q]
    refine ⟨h.1.elim Or.inl (fun z => Or.inr ⟨Or.inl z.1, z.2⟩), fun x hx hd => ?_⟩
    rcases hx with hx | rfl
    · exact h.2 x hx hd
    · exact Bool.eq_false_iff.mpr (fun z => q ⟨hd, z⟩)
theorem opt_S {H : Nat → Int32} {t b : Nat} {S S2 : Nat → Prop} (h : opt H t S b) (e : ∀ x, S x ↔ S2 x) : opt H t S2 b := by
  have : S = S2 := funext fun x => propext (e x)
  rw [← this]; exact h
theorem lgF_opt {H : Nat → Int32} {t : Nat} : ∀ (l : List Nat) (b : Nat) (S : Nat → Prop), opt H t S b → opt H t (fun x => S x ∨ x ∈ l) (lgF H t l b)
  | [], b, S, h => opt_S h (fun x => by simp)
  | s :: l, b, S, h => by
    rw [lgF]
    exact opt_S (lgF_opt l _ _ (opt_step h)) (fun x => by rw [List.mem_cons, or_assoc])
theorem opt_uniq {H : Nat → Int32} {t a b : Nat} {S : Nat → Prop} (hS : ∀ s, S s → s < 1024 ∧ s ≠ 0) (h1 : opt H t S a) (h2 : opt H t S b) : a = b := by
  have zero : ∀ s, S s → lgr H s 0 = true := fun s hs => by
    rw [lgr_iff]
    have := pop_ps s (hS s hs).1 (hS s hs).2
    rw [pop_0]; exact Or.inl this
  rcases h1.1 with rfl | ha
  · rcases h2.1 with rfl | hb
    · rfl
    · have := h1.2 b hb.1 hb.2
      rw [zero b hb.1] at this; cases this
  · rcases h2.1 with rfl | hb
    · have := h2.2 a ha.1 ha.2
      rw [zero a ha.1] at this; cases this
    · exact lgr_tot (h2.2 a ha.1 ha.2) (h1.2 b hb.1 hb.2)
theorem opt_H {H H2 : Nat → Int32} {t b : Nat} {S : Nat → Prop} (h : opt H t S b) (e : ∀ s, S s → lgr H s b = lgr H2 s b) : opt H2 t S b := ⟨h.1, fun s hs hd => by rw [← e s hs]; exact h.2 s hs hd⟩
theorem lo_opt {B M : zBv} {c t : Nat} {v : Int32} (h : Rlt B M c v) (ht : t < 2 ^ c) : ∀ n, n < 2 ^ c → opt (fun s => fHg B v c (nI s)) t (fun s => nsB M v s = true ∧ 0 < s ∧ s ≤ n) (loM M v t n)
  | 0, _ => ⟨Or.inl rfl, fun s hs _ => absurd hs.2 (by omega)⟩
  | n + 1, hn => by
    have ih := lo_opt h ht n (by omega)
    have h9 := p29 h.1
    rw [loM, loS]
    generalize loM M v t n = b at ih
    by_cases hq : nsB M v (n + 1) = true
    · refine opt_S (S := fun x => (nsB M v x = true ∧ 0 < x ∧ x ≤ n) ∨ x = n + 1) ?_ (fun x => ?_)
      · have st := opt_step (s := n + 1) ih
        have hb9 : b = 0 ∨ (nsB M v b = true ∧ 0 < b ∧ b ≤ n) := ih.1.elim Or.inl (fun z => Or.inr z.1)
        have key : (if nDif (n + 1) t ≠ 0 ∨ pop (n + 1) 10 < pop b 10 ∨ nsB M v (n + 1) = false then b else if pop b 10 < pop (n + 1) 10 ∨ mHt M (n + 1) < mHt M b then n + 1 else b) = if nDif (n + 1) t = 0 ∧ lgr (fun s => fHg B v c (nI s)) (n + 1) b = true then n + 1 else b := by
          have e1 := h.mh hn hq
          have p1 := pop_ps (n + 1) (by omega) (by omega)
          by_cases z1 : nDif (n + 1) t = 0
          · rcases hb9 with rfl | ⟨hb1, hb2, hb3⟩
            · have L := lgr_iff (H := fun s => fHg B v c (nI s)) (s := n + 1) (t := 0)
              rw [pop_0] at L
              rw [pop_0, if_neg (fun q => q.elim (fun q => q z1) (fun q => q.elim (fun q => by omega) (fun q => by rw [hq] at q; cases q))), if_pos (Or.inl p1), if_pos ⟨z1, L.mpr (Or.inl p1)⟩]
            · have L := lgr_iff (H := fun s => fHg B v c (nI s)) (s := n + 1) (t := b)
              have e2 := h.mh (t := b) (by omega) hb1
              rw [e1, e2]
              by_cases z2 : pop (n + 1) 10 < pop b 10
              · rw [if_pos (Or.inr (Or.inl z2)), if_neg (fun q => (L.mp q.2).elim (fun q => by omega) (fun q => by omega))]
              · rw [if_neg (fun q => q.elim (fun q => q z1) (fun q => q.elim z2 (fun q => by rw [hq] at q; cases q)))]
                by_cases z3 : pop b 10 < pop (n + 1) 10
                · rw [if_pos (Or.inl z3), if_pos ⟨z1, L.mpr (Or.inl z3)⟩]
                · by_cases z4 : fHg B v c (nI (n + 1)) < fHg B v c (nI b)
                  · rw [if_pos (Or.inr z4), if_pos ⟨z1, L.mpr (Or.inr ⟨by omega, Or.inl z4⟩)⟩]
                  · rw [if_neg (fun q => q.elim z3 z4), if_neg (fun q => (L.mp q.2).elim z3 (fun q => q.2.elim z4 (fun q => by omega)))]
          · rw [if_pos (Or.inl z1), if_neg (fun q => z1 q.1)]
        rw [key]; exact st
      · constructor
        · rintro (⟨a, b, d⟩ | rfl)
          · exact ⟨a, b, by omega⟩
          · exact ⟨hq, by omega, by omega⟩
        · rintro ⟨a, b, d⟩
          by_cases q : x = n + 1
          · exact Or.inr q
          · exact Or.inl ⟨a, b, by omega⟩
    · have hq := Bool.eq_false_iff.mpr hq
      rw [if_pos (Or.inr (Or.inr hq))]
      refine opt_S ih (fun x => ⟨fun z => ⟨z.1, z.2.1, by omega⟩, fun z => ⟨z.1, z.2.1, ?_⟩⟩)
      by_cases q : x = n + 1
      · rw [q, hq] at z; cases z.1
      · omega
theorem Rlt.longest {B M : zBv} {c t : Nat} {v : Int32} (h : Rlt B M c v) (ht : t < 2 ^ c) : fLg B v c t = loM M v t t := by
  have h9 := p29 h.1
  have hS : ∀ s, (nsB M v s = true ∧ 0 < s ∧ s < 2 ^ c ∧ nDif s t = 0) → s < 1024 ∧ s ≠ 0 := fun s hs => by omega
  have hle : ∀ s, s < 2 ^ c → nDif s t = 0 → s ≤ t := fun s hs hd => by
    have e : s &&& t = s := by
      apply Nat.eq_of_testBit_eq
      intro i
      rw [Nat.testBit_and]
      by_cases q : s.testBit i = true
      · rw [q, nDif_0 (by omega) hd q]; rfl
      · rw [Bool.eq_false_iff.mpr q]; rfl
    rw [← e]; exact Nat.and_le_right
  refine opt_uniq (H := fun s => fHg B v c (nI s)) (t := t) hS ?_ ?_
  · have h1 := lgF_opt (H := fHt B v c) (t := t) ((fFo B v c).map (·.1)) 0 (fun _ => False) ⟨Or.inl rfl, fun s hs _ => hs.elim⟩
    have hm : ∀ x, (False ∨ x ∈ (fFo B v c).map (·.1)) ↔ (nsB M v x = true ∧ 0 < x ∧ x < 2 ^ c) := fun x => by
      rw [false_or, List.mem_map]
      constructor
      · rintro ⟨e, he, rfl⟩
        have hlt := fFo_lt he
        have hg := (fFo_iff (B := B) (v := v) h.1 hlt).mp ⟨e, he, rfl⟩
        have hp : 0 < fHg B v c (nI e.1) := by
          have e5 : fHg B v c (nI e.1) = fHg M v c (nI e.1) := h.hg
          rw [fHg_l (by have := h.1; omega) (by omega), if_pos hg] at e5
          have hne : nsB M v e.1 = true ∨ nsB M v e.1 = false := by cases nsB M v e.1 <;> simp
          rcases h.ns hlt with ⟨z1, n, z2, z3, z4, z5⟩ | ⟨z1, z2⟩
          · rw [z4]; exact n0lt z2 z3
          · exfalso
            have hB : ∀ x ∈ lstN B c e.1, Rgb B x := fun x hx => (h.2.2.2 x (lt_bit hlt ((lstN_mem hlt).mp hx))).cong (fun k hk => h.2.2.1 k x hk (lt_bit hlt ((lstN_mem hlt).mp hx)))
            obtain ⟨h0, _⟩ := (gN_iff hlt).mp hg
            obtain ⟨n, y1, y2, y3⟩ := hgt_n (M := B) (lstN B c e.1) (fun q => h0 ((lstN_ne hlt).mp q)) hB
            have y4 := lstN_len (B := B) (c := c) (t := e.1)
            have y5 := h.1
            rw [fHg_l (by omega) (by omega), if_pos hg, y3] at z2
            have := n0lt y1 (by omega)
            rw [z2] at this; exact absurd this (by decide)
        have hn := (h.pos hlt).mp hp
        refine ⟨hn, Nat.pos_of_ne_zero (fun q => ?_), hlt⟩
        rw [q] at hg
        exact ((gN_iff (Nat.pow_pos (by decide))).mp hg).1 rfl
      · rintro ⟨a, b, d⟩
        have hp := (h.pos d).mpr a
        obtain ⟨e, he, het⟩ := (fFo_iff (B := B) (v := v) h.1 d).mpr (by
          rw [fHg_l (by have := h.1; omega) (by omega)] at hp
          by_cases q : gN (fun a b => fLi B a b v) (lstN B c x) = true
          · exact q
          · rw [if_neg q] at hp; exact absurd hp (by decide))
        exact ⟨e, he, het⟩
    have h2 := opt_S h1 hm
    have h3 : opt (fun s => fHg B v c (nI s)) t (fun x => nsB M v x = true ∧ 0 < x ∧ x < 2 ^ c) (fLg B v c t) := opt_H h2 (fun s hs => lgr_cong (fHt_hg h.1 hs.2.2) (by
      have : fLg B v c t < 2 ^ c := fLg_lt
      exact fHt_hg h.1 this))
    refine ⟨h3.1.elim Or.inl (fun z => Or.inr ⟨⟨z.1.1, z.1.2.1, z.1.2.2, z.2⟩, z.2⟩), fun s hs hd => h3.2 s ⟨hs.1, hs.2.1, hs.2.2.1⟩ hd⟩
  · have h1 := lo_opt h ht t ht
    refine ⟨h1.1.elim Or.inl (fun z => Or.inr ⟨⟨z.1.1, z.1.2.1, by omega, z.2⟩, z.2⟩), fun s hs hd => h1.2 s ⟨hs.1, hs.2.1, hle s hs.2.2.1 hd⟩ hd⟩
-- apart
theorem apF_pm {A : Nat → Int32} {c : Nat} : ∀ k s, apF A c k (s + 1) (pmM (fun s => apB A s c) s) = pmM (fun s => apB A s c) (s + k)
  | 0, s => rfl
  | k + 1, s => by
    rw [apF]
    have e : (if pop (pmM (fun s => apB A s c) s) 10 < pop (s + 1) 10 ∧ apB A (s + 1) c = true then s + 1 else pmM (fun s => apB A s c) s) = pmM (fun s => apB A s c) (s + 1) := by rw [pmM]
    rw [e, apF_pm k (s + 1)]
    congr 1; omega
theorem apB_iff {A : Nat → Int32} {s : Nat} : ∀ c, apB A s c = true ↔ ∀ n, n < c → s.testBit n = true → A n &&& nI s = 0
  | 0 => by simp [apB]
  | c + 1 => by
    rw [apB, Bool.and_eq_true, apB_iff c]
    constructor
    · rintro ⟨h1, h2⟩ n hn hb
      by_cases q : n = c
      · subst q
        rw [hb, Bool.true_and, Bool.not_not, decide_eq_true_eq] at h2
        exact h2
      · exact h1 n (by omega) hb
    · intro h
      refine ⟨fun n hn => h n (by omega), ?_⟩
      by_cases q : s.testBit c = true
      · rw [q, Bool.true_and, Bool.not_not, decide_eq_true_eq]
        exact h c (by omega) q
      · rw [Bool.eq_false_iff.mpr q]; rfl
theorem apB_M {lz : Nat → Nat → Bool} {c s : Nat} (hc : c ≤ 9) (hs : s < 2 ^ c) : apB (fun b => nI (aMk lz c b)) s c = apM lz s c := by
  have h9 := p29 hc
  apply Bool.eq_iff_iff.mpr
  rw [apB_iff]
  unfold apM
  rw [decide_eq_true_eq]
  have hz : ∀ n, nI (aMk lz c n) &&& nI s = 0 ↔ ∀ i, i < c → n ≠ i → lz n i = true → s.testBit i = false := fun n => by
    have h1 : aMk lz c n < 2 ^ c := amF_lt _ _
    rw [nb_and, nI_0i (Nat.lt_of_le_of_lt Nat.and_le_left (by omega))]
    constructor
    · intro h i hi hne hl
      have := congrArg (fun z => z.testBit i) h
      simp only [Nat.testBit_and, Nat.zero_testBit] at this
      have e : (aMk lz c n).testBit i = true := by unfold aMk; rw [amF_tb, decide_eq_true hi, decide_eq_false hne, hl]; rfl
      rw [e, Bool.true_and] at this
      exact this
    · intro h
      apply Nat.eq_of_testBit_eq
      intro i
      rw [Nat.testBit_and, Nat.zero_testBit]
      cases e : (aMk lz c n).testBit i with
      | false => rfl
      | true =>
        unfold aMk at e
        rw [amF_tb, Bool.and_eq_true, Bool.and_eq_true] at e
        obtain ⟨e1, e2, e3⟩ := e
        rw [h i (of_decide_eq_true e1) (by simpa using e2) e3]; rfl
  constructor
  · intro h a ha b hb hne h1 h2
    refine Bool.eq_false_iff.mpr (fun q => ?_)
    have := (hz a).mp (h a ha h1) b hb hne q
    rw [h2] at this; cases this
  · intro h n hn hb
    rw [hz]
    intro i hi hne hl
    refine Bool.eq_false_iff.mpr (fun q => ?_)
    have := h n hn i hi hne hb q
    rw [hl] at this; cases this
theorem pmM_cong {P P2 : Nat → Bool} : ∀ n, (∀ s, 0 < s → s ≤ n → P s = P2 s) → pmM P n = pmM P2 n
  | 0, _ => rfl
  | n + 1, h => by rw [pmM, pmM, pmM_cong n (fun s h1 h2 => h s h1 (by omega)), h (n + 1) (by omega) (by omega)]
theorem amF_cong {f g : Nat → Bool} : ∀ n, (∀ i, i < n → f i = g i) → amF f n = amF g n
  | 0, _ => rfl
  | n + 1, h => by rw [amF, amF, amF_cong n (fun i hi => h i (by omega)), h n (by omega)]
theorem Rlt.li {B M : zBv} {c : Nat} {v : Int32} (h : Rlt B M c v) {a b : Nat} (ha : a < c) (hb : b < c) (v2 : Int32) : fLi B a b v2 = fLi M a b v2 := fLi_cong (fun k hk => h.2.2.1 k a hk ha) (fun k hk => h.2.2.1 k b hk hb)
theorem Rlt.aM {B M : zBv} {c : Nat} {v : Int32} (h : Rlt B M c v) {b : Nat} (hb : b < c) : aMk (fun a b => fLi B a b v) c b = aMk (fun a b => fLi M a b v) c b := amF_cong c (fun i hi => by show (!decide (b = i) && fLi B b i v) = (!decide (b = i) && fLi M b i v); rw [h.li hb hi])
theorem Rlt.apart {B M : zBv} {c : Nat} {v : Int32} (h : Rlt B M c v) : fAp B v c = apR M v c := by
  unfold fAp apR
  have e := apF_cong (A := fun b => nI (aMk (fun a b => fLi B a b v) c b)) (A' := fun b => nI (aMk (fun a b => fLi M a b v) c b)) (c := c) (fun b hb => by show nI _ = nI _; rw [h.aM hb])
  rw [e]
  have e2 := apF_pm (A := fun b => nI (aMk (fun a b => fLi M a b v) c b)) (c := c) (fM c) 0
  rw [show pmM (fun s => apB (fun b => nI (aMk (fun a b => fLi M a b v) c b)) s c) 0 = 0 from rfl] at e2
  rw [e2, Nat.zero_add]
  exact pmM_cong _ (fun s _ hs => apB_M h.1 (fM_le hs))
