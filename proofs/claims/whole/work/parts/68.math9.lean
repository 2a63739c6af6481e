/-! Longest rows of bowls: chains. -/
def Ce (lz : Nat → Nat → Bool) (m : Nat) : Nat → Nat → Prop
  | 0, _ => True
  | n + 1, b => ∃ a, a < m ∧ lz a b = true ∧ Ce lz m n a
def Co (lz : Nat → Nat → Bool) (m : Nat) : Nat → Nat → Prop
  | 0, _ => True
  | n + 1, b => ∃ a, a < m ∧ lz b a = true ∧ Co lz m n a
def rk (out : Nat → Int32) (b : Nat) : Nat → Nat
  | 0 => 0
  | n + 1 => rk out b n + if out n < out b then 1 else 0
theorem rk_le {out : Nat → Int32} {a b : Nat} (h : out a < out b) : ∀ n, rk out a n ≤ rk out b n ∧ (a < n → rk out a n < rk out b n)
  | 0 => ⟨Nat.le_refl _, fun q => absurd q (by omega)⟩
  | n + 1 => by
    obtain ⟨h1, h2⟩ := rk_le h n
    rw [rk, rk]
    by_cases q : out n < out a
    · rw [if_pos q, if_pos (Int32.lt_trans q h)]
      refine ⟨by omega, fun z => ?_⟩
      by_cases e : a = n
      · rw [e] at q; exact absurd q Int32.lt_irrefl
      · have := h2 (by omega); omega
    · rw [if_neg q]
      by_cases e : a = n
      · subst e
        rw [if_pos h]; omega
      · refine ⟨by omega, fun z => ?_⟩
        have := h2 (by omega); omega
theorem rk_m {out : Nat → Int32} {b : Nat} : ∀ n, rk out b n ≤ n ∧ (b < n → rk out b n < n)
  | 0 => ⟨Nat.le_refl _, fun q => absurd q (by omega)⟩
  | n + 1 => by
    obtain ⟨h1, h2⟩ := rk_m (out := out) (b := b) n
    rw [rk]
    by_cases e : b = n
    · subst e
      rw [if_neg Int32.lt_irrefl]; omega
    · by_cases q : out n < out b
      · rw [if_pos q]; exact ⟨by omega, fun z => by have := h2 (by omega); omega⟩
      · rw [if_neg q]; exact ⟨by omega, fun z => by omega⟩
theorem Ce_rk {lz : Nat → Nat → Bool} {out : Nat → Int32} {m : Nat} (hw : Wid lz out m) : ∀ n b, b < m → Ce lz m n b → n ≤ rk out b m
  | 0, b, _, _ => Nat.zero_le _
  | n + 1, b, hb, ⟨a, ha, hl, hc⟩ => by
    have := Ce_rk hw n a ha hc
    have := (rk_le (hw a b ha hb hl) m).2 ha
    omega
theorem Ce_lt {lz : Nat → Nat → Bool} {out : Nat → Int32} {m n b : Nat} (hw : Wid lz out m) (hb : b < m) (h : Ce lz m n b) : n < m := by
  have := Ce_rk hw n b hb h
  have := (rk_m (out := out) (b := b) m).2 hb
  omega
theorem Co_rk {lz : Nat → Nat → Bool} {out : Nat → Int32} {m : Nat} (hw : Wid lz out m) : ∀ n b, b < m → Co lz m n b → rk out b m + n < m
  | 0, b, hb, _ => by have := (rk_m (out := out) (b := b) m).2 hb; omega
  | n + 1, b, hb, ⟨a, ha, hl, hc⟩ => by
    have := Co_rk hw n a ha hc
    have := (rk_le (hw b a hb ha hl) m).2 hb
    omega
-- the reference's rows
def Sd (lz : Nat → Nat → Bool) (m : Nat) (f : Nat → Int32) : Prop := ∀ i, i < m → ∃ r, r < m ∧ f i = nI (r + 1) ∧ Ce lz m r i
theorem upd_eq {f : Nat → Int32} {i : Nat} {v : Int32} : upd f i v i = v := by unfold upd; rw [if_pos rfl]
theorem upd_ne {f : Nat → Int32} {i j : Nat} {v : Int32} (h : j ≠ i) : upd f i v j = f j := by unfold upd; rw [if_neg h]
theorem lrB_ok {lz : Nat → Nat → Bool} {out : Nat → Int32} {m a : Nat} (hm : m ≤ 10) (hw : Wid lz out m) (ha : a < m) {f : Nat → Int32} (hf : Sd lz m f) : ∀ n, n ≤ m → Sd lz m (lrB lz a n f) ∧ lrB lz a n f a = f a ∧ (∀ i, i < m → f i ≤ lrB lz a n f i) ∧ ∀ i, i < n → lz a i = true → f a < lrB lz a n f i
  | 0, _ => ⟨hf, rfl, fun i _ => Int32.le_refl _, fun i hi => absurd hi (by omega)⟩
  | n + 1, hn => by
    obtain ⟨h1, h2, h3, h4⟩ := lrB_ok hm hw ha hf n (by omega)
    rw [lrB]
    by_cases q : a ≠ n ∧ lrB lz a n f n ≤ lrB lz a n f a ∧ lz a n = true
    · rw [if_pos q]
      obtain ⟨ra, ra1, ra2, ra3⟩ := h1 a ha
      obtain ⟨rn, rn1, rn2, rn3⟩ := h1 n (by omega)
      have hcn : Ce lz m (ra + 1) n := ⟨a, ha, q.2.2, ra3⟩
      have hlt := Ce_lt hw (by omega : n < m) hcn
      have hle : f n ≤ lrB lz a n f a + 1 := by
        refine Int32.le_trans (h3 n (by omega)) ?_
        rw [rn2, ra2, nI_1, nI_leI (by omega) (by omega)]
        have := q.2.1
        rw [rn2, ra2, nI_leI (by omega) (by omega)] at this
        omega
      refine ⟨fun i hi => ?_, ?_, fun i hi => ?_, fun i hi hl => ?_⟩
      · by_cases e : i = n
        · subst e
          rw [upd_eq]
          exact ⟨ra + 1, hlt, by rw [ra2, nI_1], hcn⟩
        · rw [upd_ne e]; exact h1 i hi
      · rw [upd_ne q.1]; exact h2
      · by_cases e : i = n
        · subst e
          rw [upd_eq]; exact hle
        · rw [upd_ne e]; exact h3 i hi
      · by_cases e : i = n
        · subst e
          rw [upd_eq, h2]
          have e2 : f a = nI (ra + 1) := by rw [← h2]; exact ra2
          rw [e2, nI_1, nI_ltI (by omega) (by omega)]; omega
        · rw [upd_ne e]; exact h4 i (by omega) hl
    · rw [if_neg q]
      refine ⟨h1, h2, h3, fun i hi hl => ?_⟩
      by_cases e : i = n
      · subst e
        have hne : a ≠ i := fun w => by
          have := hw a i ha (by omega) hl
          rw [w] at this; exact absurd this Int32.lt_irrefl
        rw [← h2]
        exact Int32.not_le.mp (fun z => q ⟨hne, z, hl⟩)
      · exact h4 i (by omega) hl
theorem lrA_ok {lz : Nat → Nat → Bool} {out : Nat → Int32} {m : Nat} (hm : m ≤ 10) (hw : Wid lz out m) {f : Nat → Int32} (hf : Sd lz m f) : ∀ n, n ≤ m → Sd lz m (lrA lz m n f) ∧ (∀ i, i < m → f i ≤ lrA lz m n f i) ∧ ∀ a, a < n → ∀ i, i < m → lz a i = true → f a < lrA lz m n f i
  | 0, _ => ⟨hf, fun i _ => Int32.le_refl _, fun a ha => absurd ha (by omega)⟩
  | n + 1, hn => by
    obtain ⟨h1, h2, h3⟩ := lrA_ok hm hw hf n (by omega)
    obtain ⟨g1, g2, g3, g4⟩ := lrB_ok hm hw (show n < m by omega) h1 m (Nat.le_refl _)
    rw [lrA]
    refine ⟨g1, fun i hi => Int32.le_trans (h2 i hi) (g3 i hi), fun a ha i hi hl => ?_⟩
    by_cases e : a = n
    · subst e
      exact Int32.lt_of_le_of_lt (h2 a (by omega)) (g4 i hi hl)
    · exact Int32.lt_of_lt_of_le (h3 a (by omega) i hi hl) (g3 i hi)
theorem lrR_ok {lz : Nat → Nat → Bool} {out : Nat → Int32} {m : Nat} (hm : m ≤ 10) (hw : Wid lz out m) : ∀ R, Sd lz m (lrR lz m R (fun _ => 1)) ∧ ∀ n, n ≤ R → ∀ b, b < m → Ce lz m n b → nI (n + 1) ≤ lrR lz m R (fun _ => 1) b
  | 0 => ⟨fun i hi => ⟨0, by omega, rfl, True.intro⟩, fun n hn b _ _ => by
      obtain rfl : n = 0 := by omega
      exact Int32.le_refl _⟩
  | R + 1 => by
    obtain ⟨h1, h2⟩ := lrR_ok hm hw R
    obtain ⟨g1, g2, g3⟩ := lrA_ok hm hw h1 m (Nat.le_refl _)
    rw [lrR]
    refine ⟨g1, fun n hn b hb hc => ?_⟩
    cases n with
    | zero =>
      obtain ⟨r, r1, r2, _⟩ := g1 b hb
      rw [r2, nI_leI (by omega) (by omega)]; omega
    | succ n =>
      obtain ⟨a, ha, hl, hc2⟩ := hc
      have q1 := h2 n (by omega) a ha hc2
      have q2 := Int32.lt_of_le_of_lt q1 (g3 a ha b hb hl)
      have hn2 := Ce_lt hw ha hc2
      obtain ⟨r, r1, r2, _⟩ := g1 b hb
      rw [r2] at q2 ⊢
      rw [nI_ltI (by omega) (by omega)] at q2
      rw [nI_leI (by omega) (by omega)]; omega
theorem lrX_ok {f : Nat → Int32} : ∀ n, (∀ i, i < n → 0 < f i) → (∀ i, i < n → f i ≤ lrX f n) ∧ (0 < n → ∃ b, b < n ∧ lrX f n = f b) ∧ (n = 0 → lrX f n = 0) ∧ 0 ≤ lrX f n
  | 0, _ => ⟨fun i hi => absurd hi (by omega), fun h => absurd h (by omega), fun _ => rfl, Int32.le_refl _⟩
  | n + 1, h0 => by
    obtain ⟨h1, h2, h3, h4⟩ := lrX_ok (f := f) n (fun i hi => h0 i (by omega))
    rw [lrX]
    have hp := h0 n (by omega)
    by_cases q : lrX f n < f n
    · rw [if_pos q]
      refine ⟨fun i hi => ?_, fun _ => ⟨n, by omega, rfl⟩, fun z => by omega, Int32.le_of_lt hp⟩
      by_cases e : i = n
      · rw [e]; exact Int32.le_refl _
      · exact Int32.le_trans (h1 i (by omega)) (Int32.le_of_lt q)
    · rw [if_neg q]
      refine ⟨fun i hi => ?_, fun _ => ?_, fun z => by omega, h4⟩
      · by_cases e : i = n
        · rw [e]; exact Int32.not_lt.mp q
        · exact h1 i (by omega)
      · cases n with
        | zero => rw [h3 rfl] at q; exact absurd hp q
        | succ n =>
          obtain ⟨b, hb, e⟩ := h2 (by omega)
          exact ⟨b, by omega, e⟩
theorem lrM_ok {lz : Nat → Nat → Bool} {out : Nat → Int32} {m : Nat} (hm : m ≤ 10) (h0 : 0 < m) (hw : Wid lz out m) : ∃ n, n < m ∧ lrM lz m = nI (n + 1) ∧ (∃ b, b < m ∧ Ce lz m n b) ∧ ∀ b, b < m → ∀ k, Ce lz m k b → k ≤ n := by
  obtain ⟨h1, h2⟩ := lrR_ok hm hw m
  unfold lrM
  generalize lrR lz m m (fun _ => 1) = f at h1 h2
  obtain ⟨x1, x2, _, _⟩ := lrX_ok (f := f) m (fun i hi => by
    obtain ⟨r, r1, r2, _⟩ := h1 i hi
    rw [r2, show (0 : Int32) = nI 0 from rfl, nI_ltI (by decide) (by omega)]; omega)
  obtain ⟨b, hb, e⟩ := x2 h0
  obtain ⟨r, r1, r2, r3⟩ := h1 b hb
  refine ⟨r, r1, by rw [e, r2], ⟨b, hb, r3⟩, fun i hi k hk => ?_⟩
  have hk2 := Ce_lt hw hi hk
  have q := Int32.le_trans (h2 k (by omega) i hi hk) (x1 i hi)
  rw [e, r2, nI_leI (by omega) (by omega)] at q
  omega
-- the class's chains inward
theorem liN_v {A : Int32} {b : Nat} {f : Nat → Int32} (hb : iBit A b = false) : ∀ n, liN A b n f b = f b ∧ ∀ i, liN A b n f i = if i < n ∧ iBit A i = true then mx (f i) (f b + 1) else f i
  | 0 => ⟨rfl, fun i => by rw [if_neg (fun q => absurd q.1 (by omega))]; rfl⟩
  | n + 1 => by
    obtain ⟨h1, h2⟩ := liN_v hb n
    rw [liN]
    by_cases q : iBit A n = true
    · have hne : b ≠ n := fun e => by rw [e, q] at hb; cases hb
      rw [if_pos q]
      refine ⟨by rw [upd_ne hne]; exact h1, fun i => ?_⟩
      by_cases e : i = n
      · subst e
        rw [upd_eq, h1, h2 i, if_neg (fun z => absurd z.1 (by omega)), if_pos ⟨by omega, q⟩]
      · rw [upd_ne e, h2 i]
        by_cases z : i < n ∧ iBit A i = true
        · rw [if_pos z, if_pos ⟨by omega, z.2⟩]
        · rw [if_neg z, if_neg (fun w => z ⟨by omega, w.2⟩)]
    · rw [if_neg q]
      refine ⟨h1, fun i => ?_⟩
      rw [h2 i]
      by_cases z : i < n ∧ iBit A i = true
      · rw [if_pos z, if_pos ⟨by omega, z.2⟩]
      · rw [if_neg z, if_neg (fun w => z ⟨by
          by_cases e : i = n
          · rw [e] at w; exact absurd w.2 q
          · omega, w.2⟩)]
theorem aMk_0 {lz : Nat → Nat → Bool} {c b : Nat} (hc : c ≤ 9) (hb : b < c) : iBit (nI (aMk lz c b)) b = false := by
  have h1 : aMk lz c b < 2 ^ c := amF_lt _ _
  have h2 := p29 hc
  rw [iBit_nI (by omega) (by omega)]
  unfold aMk
  rw [amF_tb, decide_eq_true (rfl : b = b)]
  simp
theorem liA_ok {lz : Nat → Nat → Bool} {out : Nat → Int32} {c : Nat} (hc : c ≤ 9) (hw : Wid lz out c) : ∀ (l : List Nat) (f : Nat → Int32) (P : Nat → Prop), Sd lz c f → (∀ i, i < c → ∀ a, a < c → P a → lz a i = true → ∀ n, Ce lz c n a → nI (n + 2) ≤ f i) → (∀ y ∈ l, y < c) → l.Pairwise (fun x y => ¬ lz y x = true) → (∀ a, a < c → P a ∨ a ∈ l) →
    Sd lz c (liA (fun b => nI (aMk lz c b)) c l f) ∧ ∀ i, i < c → ∀ a, a < c → lz a i = true → ∀ n, Ce lz c n a → nI (n + 2) ≤ liA (fun b => nI (aMk lz c b)) c l f i
  | [], f, P, h1, h2, _, _, h5 => ⟨h1, fun i hi a ha hl n hn => h2 i hi a ha ((h5 a ha).elim id (fun q => by simp at q)) hl n hn⟩
  | b :: l, f, P, h1, h2, h3, h4, h5 => by
    have hb := h3 b (by simp)
    have hA := aMk_0 (lz := lz) hc hb
    obtain ⟨v1, v2⟩ := liN_v (f := f) hA c
    have hbit : ∀ i, i < c → (iBit (nI (aMk lz c b)) i = true ↔ lz b i = true) := fun i hi => by
      by_cases e : i = b
      · subst e
        rw [hA]
        exact ⟨fun q => (by cases q), fun q => absurd (hw i i hi hi q) Int32.lt_irrefl⟩
      · rw [aMk_b hc hi e]
    have hval : ∀ i, i < c → liN (nI (aMk lz c b)) b c f i = if lz b i = true then mx (f i) (f b + 1) else f i := fun i hi => by
      rw [v2 i]
      by_cases q : lz b i = true
      · rw [if_pos ⟨hi, (hbit i hi).mpr q⟩, if_pos q]
      · rw [if_neg (fun z => q ((hbit i hi).mp z.2)), if_neg q]
    obtain ⟨rb, rb1, rb2, rb3⟩ := h1 b hb
    -- b is through
    have hbf : ∀ n, Ce lz c n b → n ≤ rb := fun n hn => by
      cases n with
      | zero => omega
      | succ n =>
        obtain ⟨a, ha, hl, hn2⟩ := hn
        have hPa : P a := (h5 a ha).elim id (fun q => by
          rcases List.mem_cons.mp q with e | e
          · rw [e] at hl; exact absurd (hw b b hb hb hl) Int32.lt_irrefl
          · exact absurd hl (List.rel_of_pairwise_cons h4 e))
        have q := h2 b hb a ha hPa hl n hn2
        have := Ce_lt hw ha hn2
        rw [rb2, nI_leI (by omega) (by omega)] at q
        omega
    rw [liA]
    refine liA_ok hc hw l _ (fun a => P a ∨ a = b) (fun i hi => ?_) (fun i hi a ha hP hl n hn => ?_) (fun y hy => h3 y (List.mem_cons_of_mem _ hy)) (List.Pairwise.of_cons h4) (fun a ha => ?_)
    · rw [hval i hi]
      by_cases q : lz b i = true
      · rw [if_pos q, mx]
        by_cases z : f i < f b + 1
        · rw [if_pos z]
          have hce : Ce lz c (rb + 1) i := ⟨b, hb, q, rb3⟩
          exact ⟨rb + 1, Ce_lt hw hi hce, by rw [rb2, nI_1], hce⟩
        · rw [if_neg z]; exact h1 i hi
      · rw [if_neg q]; exact h1 i hi
    · rw [hval i hi]
      have hmx : ∀ x y : Int32, x ≤ mx x y ∧ y ≤ mx x y := fun x y => by
        unfold mx
        by_cases z : x < y
        · rw [if_pos z]; exact ⟨Int32.le_of_lt z, Int32.le_refl _⟩
        · rw [if_neg z]; exact ⟨Int32.le_refl _, Int32.not_lt.mp z⟩
      rcases hP with hP | rfl
      · have q := h2 i hi a ha hP hl n hn
        by_cases z : lz b i = true
        · rw [if_pos z]; exact Int32.le_trans q (hmx _ _).1
        · rw [if_neg z]; exact q
      · rw [if_pos hl]
        refine Int32.le_trans ?_ (hmx _ _).2
        have := hbf n hn
        rw [rb2, nI_1, nI_leI (by omega) (by omega)]; omega
    · rcases h5 a ha with q | q
      · exact Or.inl (Or.inl q)
      · rcases List.mem_cons.mp q with e | e
        · exact Or.inl (Or.inr e)
        · exact Or.inr e
theorem LI_ok {lz : Nat → Nat → Bool} {out : Nat → Int32} {c : Nat} (hc : c ≤ 9) (hw : Wid lz out c) : ∀ i, i < c → ∃ r, r < c ∧ liA (fun b => nI (aMk lz c b)) c (ordO out c) (fun _ => 1) i = nI (r + 1) ∧ Ce lz c r i ∧ ∀ n, Ce lz c n i → n ≤ r := by
  have hm : ∀ y ∈ ordO out c, y < c := fun y hy => (ordO_mem _ _ _).mp hy
  have hs : (ordO out c).Pairwise (fun x y => ¬ lz y x = true) := by
    refine List.Pairwise.imp_of_mem ?_ (ordO_sorted out c)
    intro x y hx hy hxy hl
    have h1 := hw y x (hm y hy) (hm x hx) hl
    rcases hxy with q | q
    · exact absurd (Int32.lt_trans h1 q) Int32.lt_irrefl
    · rw [q.1] at h1; exact absurd h1 Int32.lt_irrefl
  obtain ⟨h1, h2⟩ := liA_ok hc hw (ordO out c) (fun _ => 1) (fun _ => False) (fun i hi => ⟨0, by omega, rfl, True.intro⟩) (fun i _ a _ q => q.elim) hm hs (fun a ha => Or.inr ((ordO_mem _ _ _).mpr ha))
  intro i hi
  obtain ⟨r, r1, r2, r3⟩ := h1 i hi
  refine ⟨r, r1, r2, r3, fun n hn => ?_⟩
  cases n with
  | zero => omega
  | succ n =>
    obtain ⟨a, ha, hl, hn2⟩ := hn
    have q := h2 i hi a ha hl n hn2
    have := Ce_lt hw ha hn2
    rw [r2, nI_leI (by omega) (by omega)] at q
    omega
-- outward
theorem loN_v {A : Int32} {b : Nat} {f : Nat → Int32} (hb : iBit A b = false) : ∀ n, (∀ i, i ≠ b → loN A b n f i = f i) ∧ f b ≤ loN A b n f b ∧ (∀ i, i < n → iBit A i = true → f i + 1 ≤ loN A b n f b) ∧ (loN A b n f b = f b ∨ ∃ i, i < n ∧ iBit A i = true ∧ loN A b n f b = f i + 1)
  | 0 => ⟨fun i _ => rfl, Int32.le_refl _, fun i hi => absurd hi (by omega), Or.inl rfl⟩
  | n + 1 => by
    obtain ⟨h1, h2, h3, h4⟩ := loN_v hb n
    rw [loN]
    by_cases q : iBit A n = true
    · have hne : n ≠ b := fun e => by rw [← e, q] at hb; cases hb
      rw [if_pos q, h1 n hne]
      have hmx : loN A b n f b ≤ mx (loN A b n f b) (f n + 1) ∧ f n + 1 ≤ mx (loN A b n f b) (f n + 1) ∧ (mx (loN A b n f b) (f n + 1) = loN A b n f b ∨ mx (loN A b n f b) (f n + 1) = f n + 1) := by
        unfold mx
        by_cases z : loN A b n f b < f n + 1
        · rw [if_pos z]; exact ⟨Int32.le_of_lt z, Int32.le_refl _, Or.inr rfl⟩
        · rw [if_neg z]; exact ⟨Int32.le_refl _, Int32.not_lt.mp z, Or.inl rfl⟩
      refine ⟨fun i hi => by rw [upd_ne hi]; exact h1 i hi, ?_, fun i hi hl => ?_, ?_⟩
      · rw [upd_eq]; exact Int32.le_trans h2 hmx.1
      · rw [upd_eq]
        by_cases e : i = n
        · rw [e]; exact hmx.2.1
        · exact Int32.le_trans (h3 i (by omega) hl) hmx.1
      · rw [upd_eq]
        rcases hmx.2.2 with z | z
        · rw [z]
          rcases h4 with w | ⟨i, w1, w2, w3⟩
          · exact Or.inl w
          · exact Or.inr ⟨i, by omega, w2, w3⟩
        · exact Or.inr ⟨n, by omega, q, z⟩
    · rw [if_neg q]
      refine ⟨h1, h2, fun i hi hl => ?_, ?_⟩
      · by_cases e : i = n
        · rw [e] at hl; exact absurd hl q
        · exact h3 i (by omega) hl
      · rcases h4 with w | ⟨i, w1, w2, w3⟩
        · exact Or.inl w
        · exact Or.inr ⟨i, by omega, w2, w3⟩
theorem loA_ok {lz : Nat → Nat → Bool} {out : Nat → Int32} {c : Nat} (hc : c ≤ 9) (hw : Wid lz out c) : ∀ (l : List Nat), (∀ y ∈ l, y < c) → l.Nodup → (∀ a ∈ l, ∀ b, b < c → lz a b = true → b ∈ l) → l.Pairwise (fun x y => ¬ lz y x = true) →
    (∀ i, i ∉ l → loA (fun b => nI (aMk lz c b)) c l (fun _ => 1) i = 1) ∧ ∀ i ∈ l, ∃ r, r < c ∧ loA (fun b => nI (aMk lz c b)) c l (fun _ => 1) i = nI (r + 1) ∧ Co lz c r i ∧ ∀ n, Co lz c n i → n ≤ r
  | [], _, _, _, _ => ⟨fun i _ => rfl, fun i hi => by simp at hi⟩
  | b :: l, h3, hn, hcl, h4 => by
    obtain ⟨hbl, hn⟩ := List.nodup_cons.mp hn
    have hb := h3 b (by simp)
    have hA := aMk_0 (lz := lz) hc hb
    have hm : ∀ y ∈ l, y < c := fun y hy => h3 y (List.mem_cons_of_mem _ hy)
    obtain ⟨i1, i2⟩ := loA_ok hc hw l hm hn (fun a ha x hx hl => by
      rcases List.mem_cons.mp (hcl a (List.mem_cons_of_mem _ ha) x hx hl) with e | e
      · rw [e] at hl; exact absurd hl (List.rel_of_pairwise_cons h4 ha)
      · exact e) (List.Pairwise.of_cons h4)
    rw [loA]
    generalize loA (fun b => nI (aMk lz c b)) c l (fun _ => 1) = f at i1 i2
    obtain ⟨v1, v2, v3, v4⟩ := loN_v (f := f) hA c
    have hbit : ∀ i, i < c → (iBit (nI (aMk lz c b)) i = true ↔ lz b i = true) := fun i hi => by
      by_cases e : i = b
      · subst e
        rw [hA]
        exact ⟨fun q => (by cases q), fun q => absurd (hw i i hi hi q) Int32.lt_irrefl⟩
      · rw [aMk_b hc hi e]
    have hin : ∀ i, i < c → lz b i = true → i ∈ l := fun i hi hl => by
      rcases List.mem_cons.mp (hcl b (by simp) i hi hl) with e | e
      · rw [e] at hl; exact absurd (hw b b hb hb hl) Int32.lt_irrefl
      · exact e
    have fb : f b = 1 := i1 b hbl
    refine ⟨fun i hi => ?_, fun i hi => ?_⟩
    · rw [List.mem_cons, not_or] at hi
      show loN _ b c f i = 1
      rw [v1 i hi.1]; exact i1 i hi.2
    · show ∃ r, r < c ∧ loN _ b c f i = nI (r + 1) ∧ _
      by_cases e : i = b
      · subst e
        have up : ∀ n, Co lz c n i → nI (n + 1) ≤ loN (nI (aMk lz c i)) i c f i := fun n hn => by
          cases n with
          | zero => rw [fb] at v2; exact v2
          | succ n =>
            obtain ⟨a, ha, hl, hn2⟩ := hn
            obtain ⟨r, r1, r2, r3, r4⟩ := i2 a (hin a ha hl)
            have := r4 n hn2
            refine Int32.le_trans ?_ (v3 a ha ((hbit a ha).mpr hl))
            rw [r2, nI_1, nI_leI (by omega) (by omega)]; omega
        rcases v4 with w | ⟨a, a1, a2, a3⟩
        · refine ⟨0, by omega, by rw [w, fb]; rfl, True.intro, fun n hn => ?_⟩
          have q := up n hn
          have := Co_rk hw n i hb hn
          rw [w, fb, show (1 : Int32) = nI 1 from rfl, nI_leI (by omega) (by decide)] at q
          omega
        · have hl := (hbit a a1).mp a2
          obtain ⟨r, r1, r2, r3, r4⟩ := i2 a (hin a a1 hl)
          have hco : Co lz c (r + 1) i := ⟨a, a1, hl, r3⟩
          have := Co_rk hw _ i hb hco
          refine ⟨r + 1, by omega, by rw [a3, r2, nI_1], hco, fun n hn => ?_⟩
          have q := up n hn
          have := Co_rk hw n i hb hn
          rw [a3, r2, nI_1, nI_leI (by omega) (by omega)] at q
          omega
      · rw [v1 i e]
        rcases List.mem_cons.mp hi with q | q
        · exact absurd q e
        · exact i2 i q
theorem LO_ok {lz : Nat → Nat → Bool} {out : Nat → Int32} {c : Nat} (hc : c ≤ 9) (hw : Wid lz out c) : ∀ i, i < c → ∃ r, r < c ∧ loA (fun b => nI (aMk lz c b)) c (ordO out c) (fun _ => 1) i = nI (r + 1) ∧ Co lz c r i ∧ ∀ n, Co lz c n i → n ≤ r := by
  have hm : ∀ y ∈ ordO out c, y < c := fun y hy => (ordO_mem _ _ _).mp hy
  have hs : (ordO out c).Pairwise (fun x y => ¬ lz y x = true) := by
    refine List.Pairwise.imp_of_mem ?_ (ordO_sorted out c)
    intro x y hx hy hxy hl
    have h1 := hw y x (hm y hy) (hm x hx) hl
    rcases hxy with q | q
    · exact absurd (Int32.lt_trans h1 q) Int32.lt_irrefl
    · rw [q.1] at h1; exact absurd h1 Int32.lt_irrefl
  obtain ⟨_, h2⟩ := loA_ok hc hw (ordO out c) hm (ordO_nodup _ _) (fun a _ b hb _ => (ordO_mem _ _ _).mpr hb) hs
  exact fun i hi => h2 i ((ordO_mem _ _ _).mpr hi)
