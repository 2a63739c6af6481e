/-! Both sides answer alike: helps. -/
theorem Ce_sub {lz lz2 : Nat → Nat → Bool} {c m : Nat} (hcm : c ≤ m) (h : ∀ a b, a < c → b < c → lz a b = lz2 a b) : ∀ n b, b < c → Ce lz c n b → Ce lz2 m n b
  | 0, b, _, _ => True.intro
  | n + 1, b, hb, ⟨a, ha, hl, hc⟩ => ⟨a, by omega, by rw [← h a b ha hb]; exact hl, Ce_sub hcm h n a ha hc⟩
theorem Co_sub {lz lz2 : Nat → Nat → Bool} {c m : Nat} (hcm : c ≤ m) (h : ∀ a b, a < c → b < c → lz a b = lz2 a b) : ∀ n b, b < c → Co lz c n b → Co lz2 m n b
  | 0, b, _, _ => True.intro
  | n + 1, b, hb, ⟨a, ha, hl, hc⟩ => ⟨a, by omega, by rw [← h b a hb ha]; exact hl, Co_sub hcm h n a ha hc⟩
def Pbs (lz : Nat → Nat → Bool) (c : Nat) : Nat → Nat → Prop
  | 0, b => b = c
  | l + 1, b => b < c ∧ ∃ a, Pbs lz c l a ∧ lz a b = true
theorem Pt_le {lz : Nat → Nat → Bool} {c : Nat} : ∀ l b, Pbs lz c l b → b ≤ c
  | 0, b, h => Nat.le_of_eq h
  | l + 1, b, h => Nat.le_of_lt h.1
theorem Pt_out {lz : Nat → Nat → Bool} {out : Nat → Int32} {c : Nat} (hw : Wid lz out (c + 1)) : ∀ l b, Pbs lz c (l + 1) b → out c < out b
  | 0, b, ⟨hb, a, ha, hl⟩ => by
    have ha : a = c := ha
    subst ha
    exact hw a b (by omega) (by omega) hl
  | l + 1, b, ⟨hb, a, ha, hl⟩ => by
    have h1 := Pt_out hw l a ha
    have := Pt_le _ _ ha
    exact Int32.lt_trans h1 (hw a b (by omega) (by omega) hl)
theorem Pt_co {lz : Nat → Nat → Bool} {c : Nat} : ∀ l b n, Pbs lz c (l + 1) b → Co lz c n b → ∃ b1, b1 < c ∧ lz c b1 = true ∧ Co lz c (l + n) b1
  | 0, b, n, ⟨hb, a, ha, hl⟩, hc => by
    have ha : a = c := ha
    subst ha
    exact ⟨b, hb, hl, by rw [Nat.zero_add]; exact hc⟩
  | l + 1, b, n, ⟨hb, a, ha, hl⟩, hc => by
    obtain ⟨b1, h1, h2, h3⟩ := Pt_co l a (n + 1) ha ⟨b, hb, hl, hc⟩
    exact ⟨b1, h1, h2, by rw [show l + 1 + n = l + (n + 1) by omega]; exact h3⟩
/-- a chain stays away from c or goes through it once -/
theorem Ce_thru {lz : Nat → Nat → Bool} {out : Nat → Int32} {c : Nat} (hw : Wid lz out (c + 1)) : ∀ n b, b ≤ c → Ce lz (c + 1) n b → (b = c → n = 0 ∨ ∃ a, a < c ∧ lz a c = true ∧ Ce lz c (n - 1) a ∧ 0 < n) ∧ (b < c → Ce lz c n b ∨ ∃ k l, n = k + l + 1 ∧ (k = 0 ∨ ∃ a, a < c ∧ lz a c = true ∧ Ce lz c (k - 1) a ∧ 0 < k) ∧ Pbs lz c (l + 1) b)
  | 0, b, hb, _ => ⟨fun _ => Or.inl rfl, fun _ => Or.inl True.intro⟩
  | n + 1, b, hb, ⟨a, ha, hl, hc⟩ => by
    obtain ⟨i1, i2⟩ := Ce_thru hw n a (by omega) hc
    have hlt := hw a b ha (by omega) hl
    refine ⟨fun e => Or.inr ?_, fun e => ?_⟩
    · have hac : a < c := by
        by_cases q : a = c
        · rw [q, e] at hlt; exact absurd hlt Int32.lt_irrefl
        · omega
      rcases i2 hac with q | ⟨k, l, q1, q2, q3⟩
      · exact ⟨a, hac, by rw [← e]; exact hl, by rw [Nat.add_sub_cancel]; exact q, by omega⟩
      · have := Pt_out hw l a q3
        rw [e] at hlt
        exact absurd (Int32.lt_trans this hlt) Int32.lt_irrefl
    · by_cases q : a = c
      · refine Or.inr ⟨n, 0, by omega, i1 q, e, a, q, hl⟩
      · rcases i2 (by omega) with z | ⟨k, l, q1, q2, q3⟩
        · exact Or.inl ⟨a, by omega, hl, z⟩
        · exact Or.inr ⟨k, l + 1, by omega, q2, e, a, q3, hl⟩
theorem Ce_ext {lz : Nat → Nat → Bool} {c m : Nat} (hcm : c ≤ m) : ∀ q k w j, w < m → j < c → Ce lz m k w → lz w j = true → Co lz c q j → ∃ e, e < c ∧ Ce lz m (k + 1 + q) e
  | 0, k, w, j, hw, hj, h1, h2, _ => ⟨j, hj, w, hw, h2, h1⟩
  | q + 1, k, w, j, hw, hj, h1, h2, ⟨j2, h3, h4, h5⟩ => by
    obtain ⟨e, e1, e2⟩ := Ce_ext hcm q (k + 1) j j2 (by omega) h3 ⟨w, hw, h2, h1⟩ h4 h5
    exact ⟨e, e1, by rw [show k + 1 + (q + 1) = k + 1 + 1 + q by omega]; exact e2⟩
theorem mx_n {a b : Nat} (ha : a < 1000) (hb : b < 1000) : mx (nI a) (nI b) = nI (max a b) := by
  unfold mx
  by_cases q : a < b
  · rw [if_pos ((nI_ltI (by omega) (by omega)).mpr q), Nat.max_eq_right (by omega)]
  · rw [if_neg (fun z => q ((nI_ltI (by omega) (by omega)).mp z)), Nat.max_eq_left (by omega)]
theorem lwT_ok {LI LO : Nat → Int32} {ib ob : Nat → Bool} {p q : Nat → Nat} : ∀ n, (∀ i, i < n → LI i = nI (p i + 1) ∧ p i ≤ 20) → (∀ i, i < n → LO i = nI (q i + 1) ∧ q i ≤ 20) → ∃ x y z, lwT LI LO ib ob n = (nI x, nI y, nI z) ∧ (x ≤ 21 ∧ y ≤ 21 ∧ z ≤ 21) ∧ ((x = 0 ∨ ∃ i, i < n ∧ x = p i + 1) ∧ ∀ i, i < n → p i + 1 ≤ x) ∧ ((y = 0 ∨ ∃ i, i < n ∧ ib i = true ∧ y = p i + 1) ∧ ∀ i, i < n → ib i = true → p i + 1 ≤ y) ∧ ((z = 0 ∨ ∃ i, i < n ∧ ob i = true ∧ z = q i + 1) ∧ ∀ i, i < n → ob i = true → q i + 1 ≤ z)
  | 0, _, _ => ⟨0, 0, 0, rfl, by omega, ⟨Or.inl rfl, fun i hi => absurd hi (by omega)⟩, ⟨Or.inl rfl, fun i hi => absurd hi (by omega)⟩, ⟨Or.inl rfl, fun i hi => absurd hi (by omega)⟩⟩
  | n + 1, hp, hq => by
    obtain ⟨x, y, z, h1, h2, h3, h4, h5⟩ := lwT_ok (ib := ib) (ob := ob) n (fun i hi => hp i (by omega)) (fun i hi => hq i (by omega))
    obtain ⟨p1, p2⟩ := hp n (by omega)
    obtain ⟨q1, q2⟩ := hq n (by omega)
    have step : ∀ (x : Nat) (f : Nat → Nat) (P : Nat → Prop), (x = 0 ∨ ∃ i, i < n ∧ P i ∧ x = f i + 1) → (∀ i, i < n → P i → f i + 1 ≤ x) → P n → (max x (f n + 1) = 0 ∨ ∃ i, i < n + 1 ∧ P i ∧ max x (f n + 1) = f i + 1) ∧ ∀ i, i < n + 1 → P i → f i + 1 ≤ max x (f n + 1) := by
      intro x f P a1 a2 a3
      refine ⟨Or.inr ?_, fun i hi hPi => ?_⟩
      · by_cases w : x ≤ f n + 1
        · exact ⟨n, by omega, a3, Nat.max_eq_right w⟩
        · rcases a1 with rfl | ⟨i, b1, b2, b3⟩
          · omega
          · exact ⟨i, by omega, b2, by rw [Nat.max_eq_left (by omega)]; exact b3⟩
      · by_cases e : i = n
        · rw [e]; exact Nat.le_max_right _ _
        · exact Nat.le_trans (a2 i (by omega) hPi) (Nat.le_max_left _ _)
    have skip : ∀ (x : Nat) (f : Nat → Nat) (P : Nat → Prop), (x = 0 ∨ ∃ i, i < n ∧ P i ∧ x = f i + 1) → (∀ i, i < n → P i → f i + 1 ≤ x) → ¬ P n → (x = 0 ∨ ∃ i, i < n + 1 ∧ P i ∧ x = f i + 1) ∧ ∀ i, i < n + 1 → P i → f i + 1 ≤ x := by
      intro x f P a1 a2 a3
      refine ⟨a1.elim Or.inl (fun ⟨i, b1, b2, b3⟩ => Or.inr ⟨i, by omega, b2, b3⟩), fun i hi hPi => ?_⟩
      by_cases e : i = n
      · rw [e] at hPi; exact absurd hPi a3
      · exact a2 i (by omega) hPi
    have X := step x p (fun _ => True) (h3.1.elim Or.inl (fun ⟨i, b1, b2⟩ => Or.inr ⟨i, b1, True.intro, b2⟩)) (fun i hi _ => h3.2 i hi) True.intro
    have hX : (max x (p n + 1) = 0 ∨ ∃ i, i < n + 1 ∧ max x (p n + 1) = p i + 1) ∧ ∀ i, i < n + 1 → p i + 1 ≤ max x (p n + 1) := ⟨X.1.elim Or.inl (fun ⟨i, b1, _, b2⟩ => Or.inr ⟨i, b1, b2⟩), fun i hi => X.2 i hi True.intro⟩
    have hY : ∃ y', (if ib n = true then mx (nI y) (LI n) else nI y) = nI y' ∧ y' ≤ 21 ∧ ((y' = 0 ∨ ∃ i, i < n + 1 ∧ ib i = true ∧ y' = p i + 1) ∧ ∀ i, i < n + 1 → ib i = true → p i + 1 ≤ y') := by
      by_cases w : ib n = true
      · refine ⟨max y (p n + 1), by rw [if_pos w, p1, mx_n (by omega) (by omega)], by omega, step y p (fun i => ib i = true) h4.1 h4.2 w⟩
      · exact ⟨y, by rw [if_neg w], h2.2.1, skip y p (fun i => ib i = true) h4.1 h4.2 w⟩
    have hZ : ∃ z', (if ob n = true then mx (nI z) (LO n) else nI z) = nI z' ∧ z' ≤ 21 ∧ ((z' = 0 ∨ ∃ i, i < n + 1 ∧ ob i = true ∧ z' = q i + 1) ∧ ∀ i, i < n + 1 → ob i = true → q i + 1 ≤ z') := by
      by_cases w : ob n = true
      · refine ⟨max z (q n + 1), by rw [if_pos w, q1, mx_n (by omega) (by omega)], by omega, step z q (fun i => ob i = true) h5.1 h5.2 w⟩
      · exact ⟨z, by rw [if_neg w], h2.2.2, skip z q (fun i => ob i = true) h5.1 h5.2 w⟩
    obtain ⟨y', y1, y2, y3⟩ := hY
    obtain ⟨z', z1, z2, z3⟩ := hZ
    refine ⟨max x (p n + 1), y', z', ?_, by omega, hX, y3, z3⟩
    rw [lwT, h1]
    show (mx (nI x) (LI n), (if ib n = true then mx (nI y) (LI n) else nI y), (if ob n = true then mx (nI z) (LO n) else nI z)) = _
    rw [y1, z1, p1, mx_n (by omega) (by omega)]
theorem hp_main {lz lz0 : Nat → Nat → Bool} {out out0 : Nat → Int32} {c : Nat} (hc : c ≤ 9) (hw : Wid lz out (c + 1)) (hw0 : Wid lz0 out0 c) (ha : ∀ a b, a < c → b < c → lz0 a b = lz a b) : lwR (liA (fun b => nI (aMk lz0 c b)) c (ordO out0 c) (fun _ => 1)) (loA (fun b => nI (aMk lz0 c b)) c (ordO out0 c) (fun _ => 1)) (fun a => lz a c) (fun a => lz c a) c = lrM lz (c + 1) := by
  have hI := LI_ok hc hw0
  have hO := LO_ok hc hw0
  obtain ⟨p, hp⟩ : ∃ p : Nat → Nat, ∀ i, i < c → p i < c ∧ liA (fun b => nI (aMk lz0 c b)) c (ordO out0 c) (fun _ => 1) i = nI (p i + 1) ∧ Ce lz0 c (p i) i ∧ ∀ n, Ce lz0 c n i → n ≤ p i := by
    refine ⟨fun i => if h : i < c then Classical.choose (hI i h) else 0, fun i hi => ?_⟩
    dsimp only
    rw [dif_pos hi]
    exact Classical.choose_spec (hI i hi)
  obtain ⟨q, hq⟩ : ∃ q : Nat → Nat, ∀ i, i < c → q i < c ∧ loA (fun b => nI (aMk lz0 c b)) c (ordO out0 c) (fun _ => 1) i = nI (q i + 1) ∧ Co lz0 c (q i) i ∧ ∀ n, Co lz0 c n i → n ≤ q i := by
    refine ⟨fun i => if h : i < c then Classical.choose (hO i h) else 0, fun i hi => ?_⟩
    dsimp only
    rw [dif_pos hi]
    exact Classical.choose_spec (hO i hi)
  obtain ⟨x, y, z, h1, h2, h3, h4, h5⟩ := lwT_ok (LI := liA (fun b => nI (aMk lz0 c b)) c (ordO out0 c) (fun _ => 1)) (LO := loA (fun b => nI (aMk lz0 c b)) c (ordO out0 c) (fun _ => 1)) (ib := fun a => lz a c) (ob := fun a => lz c a) (p := p) (q := q) c (fun i hi => ⟨(hp i hi).2.1, by have := (hp i hi).1; omega⟩) (fun i hi => ⟨(hq i hi).2.1, by have := (hq i hi).1; omega⟩)
  obtain ⟨n, n1, n2, ⟨b, hb, n3⟩, n4⟩ := lrM_ok (by omega : c + 1 ≤ 10) (by omega) hw
  unfold lwR
  rw [h1, n2]
  show mx (nI x) (nI y + 1 + nI z) = _
  rw [nI_1, nI_add, mx_n (by omega) (by omega)]
  congr 1
  have ha2 : ∀ a b, a < c → b < c → lz a b = lz0 a b := fun a b h h' => (ha a b h h').symm
  have l1 : x ≤ n + 1 := by
    rcases h3.1 with e | ⟨i, hi, e⟩
    · omega
    · have := n4 i (by omega) (p i) (Ce_sub (by omega) ha _ _ hi (hp i hi).2.2.1)
      omega
  have cy : Ce lz (c + 1) y c := by
    rcases h4.1 with e | ⟨i, hi, hib, e⟩
    · rw [e]; exact True.intro
    · rw [e]
      exact ⟨i, by omega, hib, Ce_sub (by omega) ha _ _ hi (hp i hi).2.2.1⟩
  have l2 : y + 1 + z ≤ n + 1 := by
    rcases h5.1 with e | ⟨j, hj, hob, e⟩
    · have := n4 c (by omega) y cy
      omega
    · obtain ⟨e2, e3, e4⟩ := Ce_ext (c := c) (m := c + 1) (by omega) (q j) y c j (by omega) hj cy hob (Co_sub (Nat.le_refl _) ha _ _ hj (hq j hj).2.2.1)
      have := n4 e2 (by omega) _ e4
      omega
  have pa : ∀ a k, a < c → Ce lz c k a → k ≤ p a := fun a k h h' => (hp a h).2.2.2 k (Ce_sub (Nat.le_refl _) ha2 _ _ h h')
  have u : n + 1 ≤ max x (y + 1 + z) := by
    obtain ⟨t1, t2⟩ := Ce_thru hw n b (by omega) n3
    by_cases e : b = c
    · refine Nat.le_trans ?_ (Nat.le_max_right _ _)
      rcases t1 e with w | ⟨a, w1, w2, w3, w4⟩
      · omega
      · have := pa a _ w1 w3
        have := h4.2 a w1 w2
        omega
    · rcases t2 (by omega) with w | ⟨k, l, w1, w2, w3⟩
      · refine Nat.le_trans ?_ (Nat.le_max_left _ _)
        have := pa b n (by omega) w
        have := h3.2 b (by omega)
        omega
      · refine Nat.le_trans ?_ (Nat.le_max_right _ _)
        obtain ⟨b1, v1, v2, v3⟩ := Pt_co l b 0 w3 True.intro
        have r1 := (hq b1 v1).2.2.2 (l + 0) (Co_sub (Nat.le_refl _) ha2 _ _ v1 v3)
        have r2 := h5.2 b1 v1 v2
        have r3 : k ≤ y := by
          rcases w2 with w2 | ⟨a, a1, a2, a3, a4⟩
          · omega
          · have := pa a _ a1 a3
            have := h4.2 a a1 a2
            omega
        omega
  exact Nat.le_antisymm (Nat.max_le.mpr ⟨l1, l2⟩) u
theorem addB_rg {M : zBv} {c wn dn : Nat} (h1 : 1 ≤ wn) (h2 : wn ≤ 99) (h3 : 1 ≤ dn) (h4 : dn ≤ 99) (hr : ∀ b, b < c → Rgb M b) : ∀ b, b < c + 1 → Rgb (addB M c (nI wn) (nI dn)) b := by
  intro b hb
  by_cases e : b = c
  · subst e
    refine ⟨⟨0, by omega, ?_⟩, ⟨0, by omega, ?_⟩, ⟨0, by omega, ?_⟩, ⟨wn, h1, h2, ?_⟩, ⟨dn, h3, h4, ?_⟩⟩ <;> unfold addB <;> rw [if_pos rfl] <;> rfl
  · refine (hr b (by omega)).cong (fun k hk => ?_)
    unfold addB
    rw [if_neg e]
theorem fIs_99 {m : Int32} (h : fIs m 1 99 = true) : ∃ n, 1 ≤ n ∧ n ≤ 99 ∧ m = nI n := by
  simp only [fIs, Bool.and_eq_true, decide_eq_true_eq] at h
  obtain ⟨a, ha, rfl⟩ := nI_ge0 (x := m) (Int32.le_trans (by decide) h.1)
  have h1 := h.1
  have h2 := h.2
  rw [show (1 : Int32) = nI 1 from rfl, nI_leI (by decide) ha] at h1
  rw [show (99 : Int32) = nI 99 from rfl, nI_leI ha (by decide)] at h2
  exact ⟨a, h1, h2, rfl⟩
theorem Rlt.hv {B M : zBv} {c wn : Nat} {v d : Int32} (h : Rlt B M c v) (hd : fIs d 1 99 = true) (h1 : 1 ≤ wn) (h2 : wn ≤ 99) : hpV B v c d (nI wn) = hlV M v c d (nI wn) ∧ 0 < hlV M v c d (nI wn) := by
  obtain ⟨hc, ⟨vn, hvn, hv⟩, he, hr⟩ := id h
  obtain ⟨dn, d1, d2, rfl⟩ := fIs_99 hd
  have hrA := addB_rg (M := M) (c := c) h1 h2 d1 d2 hr
  have hw : Wid (fun a b => fLi (addB M c (nI wn) (nI dn)) a b v) (oB (addB M c (nI wn) (nI dn))) (c + 1) := fun a b _ hb hl => li_lt (hrA b hb) hv hvn hl
  have hrB : ∀ b, b < c → Rgb B b := fun b hb => (hr b hb).cong (fun k hk => he k b hk hb)
  have hw0 : Wid (fun a b => fLi B a b v) (oB B) c := fun a b _ hb hl => li_lt (hrB b hb) hv hvn hl
  have eB : ∀ x, x < c → ∀ k, k < 5 → B k x = addB M c (nI wn) (nI dn) k x := fun x hx k hk => by
    unfold addB
    rw [if_neg (by omega)]; exact he k x hk hx
  have eA : ∀ x, x < c + 1 → ∀ k, k < 5 → addB B c (nI wn) (nI dn) k x = addB M c (nI wn) (nI dn) k x := fun x hx k hk => by
    unfold addB
    by_cases e : x = c
    · rw [if_pos e, if_pos e]
    · rw [if_neg e, if_neg e]; exact he k x hk (by omega)
  have key := hp_main hc hw hw0 (fun a b ha hb => fLi_cong (eB a ha) (eB b hb))
  refine ⟨?_, ?_⟩
  · have e1 := lwT_cong (LI := liA (fun b => nI (aMk (fun a b => fLi B a b v) c b)) c (ordO (oB B) c) (fun _ => 1)) (LI2 := liA (fun b => nI (aMk (fun a b => fLi B a b v) c b)) c (ordO (oB B) c) (fun _ => 1)) (LO := loA (fun b => nI (aMk (fun a b => fLi B a b v) c b)) c (ordO (oB B) c) (fun _ => 1)) (LO2 := loA (fun b => nI (aMk (fun a b => fLi B a b v) c b)) c (ordO (oB B) c) (fun _ => 1)) (ib := fun a => fLi (addB B c (nI wn) (nI dn)) a c v) (ib2 := fun a => fLi (addB M c (nI wn) (nI dn)) a c v) (ob := fun a => fLi (addB B c (nI wn) (nI dn)) c a v) (ob2 := fun a => fLi (addB M c (nI wn) (nI dn)) c a v) c (fun i _ => rfl) (fun i _ => rfl) (fun i hi => fLi_cong (eA i (by omega)) (eA c (by omega))) (fun i hi => fLi_cong (eA c (by omega)) (eA i (by omega)))
    unfold hlV
    rw [← key]
    show lwR (liA (fun b => nI (aMk (fun a b => fLi B a b v) c b)) c (ordO (oB B) c) (fun _ => 1)) (loA (fun b => nI (aMk (fun a b => fLi B a b v) c b)) c (ordO (oB B) c) (fun _ => 1)) (fun a => fLi (addB B c (nI wn) (nI dn)) a c v) (fun a => fLi (addB B c (nI wn) (nI dn)) c a v) c = _
    unfold lwR
    rw [e1]
  · obtain ⟨n, n1, n2, _⟩ := lrM_ok (by omega : c + 1 ≤ 10) (by omega) hw
    show 0 < lrM _ (c + 1)
    rw [n2, show (0 : Int32) = nI 0 from rfl, nI_ltI (by decide) (by omega)]; omega
theorem hpF_cong {f g : Int32 → Int32} : ∀ (k i : Nat) (b m : Int32), 1 ≤ i → i + k ≤ 100 → (∀ j, 1 ≤ j → j ≤ 99 → f (nI j) = g (nI j)) → hpF f k i b m = hpF g k i b m
  | 0, i, b, m, _, _, _ => rfl
  | k + 1, i, b, m, h1, h2, h => by
    rw [hpF, hpF, h i h1 (by omega), hpF_cong k (i + 1) _ _ (by omega) (by omega) h, hpF_cong k (i + 1) _ _ (by omega) (by omega) h]
theorem Rlt.helps {B M : zBv} {c : Nat} {v d : Int32} (h : Rlt B M c v) (hd : fIs d 1 99 = true) : hpR B v c d = hlR M v c d := by
  unfold hpR hlR
  rw [hpF_cong 99 1 1 0 (by decide) (by decide) (fun j h1 h2 => (h.hv hd h1 h2).1)]
  have h0 := (h.hv hd (show 1 ≤ 1 by decide) (by decide)).2
  have e1 : hpF (hlV M v c d) 99 1 1 0 = hpF (hlV M v c d) 98 2 (nI 1) (hlV M v c d (nI 1)) := by rw [hpF, if_pos h0]
  have e2 : hpF (hlV M v c d) 99 1 0 0 = hpF (hlV M v c d) 98 2 (nI 1) (hlV M v c d (nI 1)) := by rw [hpF, if_pos h0]
  rw [e1, e2]
