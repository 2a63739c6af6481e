/-! What holds between two calls of the law; calls that only look. -/
theorem Mrw.of52 {x u : ww} {c : Nat} (h : Mrw x c) (e : ∀ k, k < 52 → u 58 k = x 58 k) : Mrw u c := by
  obtain ⟨h1, h2, h3, h4⟩ := h
  refine ⟨h1, by rw [e 0 (by decide)]; exact h2, by rw [e 1 (by decide)]; exact h3, fun b hb => (h4 b hb).cong (fun k hk => ?_)⟩
  unfold mB
  exact e _ (by omega)
theorem HRel.tr {u u2 x x2 : ww} {h c : Nat} (hR : HRel u h x c) (e1 : ∀ p, h ≤ p → p ≤ h + 5 → u2 p = u p) (e2 : ∀ k, k < 52 → x2 58 k = x 58 k) : HRel u2 h x2 c := by
  obtain ⟨h1, h2, h3, h4⟩ := hR
  refine ⟨h1.of52 e2, by rw [e1 h (by omega) (by omega)]; exact h2, by rw [e1 h (by omega) (by omega), e2 1 (by decide)]; exact h3, fun k b hk hb => ?_⟩
  have e := h4 k b hk hb
  have hc := h1.1
  unfold hB mB at *
  rw [e1 (h + 1 + k) (by omega) (by omega), e2 _ (by omega)]; exact e
theorem HRel.now {w x : ww} {c : Nat} (h : HRel w 10 x c) : Now w c := by
  refine ⟨h.1.1, h.2.1, fun b hb => ?_⟩
  obtain ⟨k, hk, e⟩ := (h.1.2.2.2 b hb).1
  have e2 : w 11 b = nI k := (h.2.2.2 0 b (by decide) hb).trans e
  rw [e2]; exact vpn (by omega) (by decide)
theorem HRel.rl {w x : ww} {h c : Nat} (hR : HRel w h x c) : Rlt (hB w h) (mB x) c (x 58 1) := ⟨hR.1.1, hR.1.2.2.1, hR.2.2.2, hR.1.2.2.2⟩
theorem HRel.rlM {w x : ww} {h c : Nat} (hR : HRel w h x c) : Rlt (mB x) (mB x) c (x 58 1) := ⟨hR.1.1, hR.1.2.2.1, fun _ _ _ _ => rfl, hR.1.2.2.2⟩
/-- one shelf on both sides -/
def ShR (w : ww) (d : Nat) : Prop := w (41 + 2 * d) 1 = w 61 d ∧ (w 61 d = 0 ∨ (w 61 d = 1 ∧ w (41 + 2 * d) 2 = w 65 d ∧ w (41 + 2 * d) 3 = w 66 d ∧ (∃ k, k ≤ 7 ∧ w 65 d = nI k) ∧ ∃ f, f ≤ 9 ∧ w 66 d = nI f) ∨ (w 61 d = 2 ∧ w (41 + 2 * d) 4 = w 62 d ∧ w (41 + 2 * d) 5 = w 63 d ∧ ∀ j, j < 100 → w (41 + 2 * d + 1) j = w 64 (100 * d + j)))
def Inv (w : ww) : Prop := (∃ c, HRel w 10 w c) ∧ (w 0 6 = w 57 9 ∧ (¬ w 0 6 = 0 → ∃ c, HRel w 24 (fun _ => w 59) c)) ∧ (∀ d, d < 8 → ShR w d) ∧ Msz w
def Ky (p : Nat) : Prop := p = 0 ∨ (10 ≤ p ∧ p ≤ 15) ∨ (24 ≤ p ∧ p ≤ 29) ∨ (41 ≤ p ∧ p ≤ 56) ∨ p = 58 ∨ p = 59 ∨ (61 ≤ p ∧ p ≤ 66)
def Kb (p : Nat) : Prop := p = 0 ∨ (24 ≤ p ∧ p ≤ 29) ∨ (41 ≤ p ∧ p ≤ 56) ∨ p = 59 ∨ (61 ≤ p ∧ p ≤ 66)
theorem ShR.of {w u : ww} {d : Nat} (hS : ShR w d) (h : ∀ p, (p = 41 + 2 * d ∨ p = 41 + 2 * d + 1 ∨ (61 ≤ p ∧ p ≤ 66)) → u p = w p) : ShR u d := by
  unfold ShR at *
  rw [h (41 + 2 * d) (Or.inl rfl), h (41 + 2 * d + 1) (Or.inr (Or.inl rfl)), h 61 (by omega), h 62 (by omega), h 63 (by omega), h 64 (by omega), h 65 (by omega), h 66 (by omega)]
  exact hS
/-- but for the heap -/
theorem Inv.bh {w u : ww} {c : Nat} (hI : Inv w) (hR : HRel u 10 u c) (h : ∀ p, Kb p → u p = w p) (h9 : u 57 9 = w 57 9) : Inv u := by
  obtain ⟨_, ⟨i1, i2⟩, i3, i4⟩ := hI
  have e0 : u 0 = w 0 := h 0 (by unfold Kb; omega)
  have e59 : u 59 = w 59 := h 59 (by unfold Kb; omega)
  refine ⟨⟨c, hR⟩, ⟨by rw [e0, h9]; exact i1, fun q => ?_⟩, fun d hd => (i3 d hd).of (fun p hp => h p (by unfold Kb; omega)), fun d hd => ?_⟩
  · rw [e0] at q
    obtain ⟨c2, h2⟩ := i2 q
    exact ⟨c2, h2.tr (fun p h1 h2 => h p (by unfold Kb; omega)) (fun k _ => by show u 59 k = w 59 k; rw [e59])⟩
  · rw [h 63 (by unfold Kb; omega)]; exact i4 d hd
theorem Inv.of {w u : ww} (hI : Inv w) (h : ∀ p, Ky p → u p = w p) (h9 : u 57 9 = w 57 9) : Inv u := by
  obtain ⟨c, hR⟩ := hI.1
  exact hI.bh (hR.tr (fun p h1 h2 => h p (by unfold Ky; omega)) (fun k _ => by rw [h 58 (by unfold Ky; omega)])) (fun p hp => h p (by unfold Kb at hp; unfold Ky; omega)) h9
theorem Inv.sc {w u : ww} (hI : Inv w) (h : SC w u) : Inv u := hI.of (fun p hp => h p (by unfold Ky at hp; unfold Scr; omega)) (by rw [h 57 (by unfold Scr; omega)])
theorem Inv.mc {w u : ww} (hI : Inv w) (h : MC w u) : Inv u := hI.of (fun p hp => h p (by unfold Ky at hp; unfold Mcr; omega)) (by rw [h 57 (by unfold Mcr; omega)])
theorem sc58 {w u : ww} (h : SC w u) : u 58 = w 58 := h 58 (by unfold Scr; omega)
theorem scB {w u : ww} (h : SC w u) : mB u = mB w := by funext k b; unfold mB; rw [sc58 h]
theorem scR {w u : ww} {c : Nat} (h : SC w u) (hR : HRel w 10 w c) : HRel u 10 u c := hR.tr (fun p h1 h2 => h p (by unfold Scr; omega)) (fun k _ => by rw [sc58 h])
/-- the reference answers v, and what holds between calls holds again -/
def Pr (M2 : zM) (n2 : Nat) (av2 : List Value) (v : Int32) (w1 : ww) : Prop := ∀ Q2 : Option Value → ww → Prop, (∀ w2, Inv w2 → Q2 (some (.int v)) w2) → Ct M2 n2 av2 w1 Q2
theorem zqe {Q : Option Value → ww → Prop} {w : ww} {a b : Int32} (h : Q (some (.int a)) w) (e : a = b) : Q (some (.int b)) w := e ▸ h
theorem o_nest {w : ww} {Q : Option Value → ww → Prop} {b : Int32} (hI : Inv w) (hQ : ∀ v w1, Pr mX12_nest 8 [.ref 57, .int b] v w1 → Q (some (.int v)) w1) : Ct mX11_nest 7 [.ref 0, .int b] w Q := by
  obtain ⟨c, hR⟩ := hI.1
  have h8 : w 10 8 = w 58 1 := hR.2.2.1
  refine c_X11_nest hR.now (fun h => hQ _ w (fun Q2 h2 => c_X12_nest hR.1.mow (fun _ => h2 w hI) (fun t ht e => absurd ⟨t, ht, e⟩ h))) (fun h u hu => hQ _ u (fun Q2 h2 => ?_))
  refine c_X12_nest (scR hu hR).1.mow (fun q => absurd h q) (fun t ht e => ?_)
  subst e
  rw [scB hu, sc58 hu]
  refine zqe (h2 u (hI.sc hu)) ?_
  rw [h8]
  congr 1
  exact Bool.eq_iff_iff.mpr (by rw [decide_eq_true_eq]; exact hR.rl.pos ht)
theorem o_height {w : ww} {Q : Option Value → ww → Prop} {b : Int32} (hI : Inv w) (hQ : ∀ v w1, Pr mX12_height 8 [.ref 57, .int b] v w1 → Q (some (.int v)) w1) : Ct mX11_height 7 [.ref 0, .int b] w Q := by
  obtain ⟨c, hR⟩ := hI.1
  have h8 : w 10 8 = w 58 1 := hR.2.2.1
  refine c_X11_height hR.now (fun h => hQ _ w (fun Q2 h2 => c_X12_height hR.1.mow (fun _ => h2 w hI) (fun t ht e => absurd ⟨t, ht, e⟩ h))) (fun h u hu => hQ _ u (fun Q2 h2 => ?_))
  refine c_X12_height (scR hu hR).1.mow (fun q => absurd h q) (fun t ht e => ?_)
  subst e
  rw [scB hu, sc58 hu]
  refine zqe (h2 u (hI.sc hu)) ?_
  rw [h8]
  by_cases q : nsB (mB w) (w 58 1) t = true
  · rw [if_pos q, if_pos ((hR.rl.pos ht).mpr q), hR.rl.mh ht q]
  · rw [if_neg q, if_neg (fun z => q ((hR.rl.pos ht).mp z))]
theorem o_longest {w : ww} {Q : Option Value → ww → Prop} {b k : Int32} (hI : Inv w) (hQ : ∀ v w1, Pr mX12_longest 9 [.ref 57, .int b, .int k] v w1 → Q (some (.int v)) w1) : Ct mX11_longest 8 [.ref 0, .int b, .int k] w Q := by
  obtain ⟨c, hR⟩ := hI.1
  have h8 : w 10 8 = w 58 1 := hR.2.2.1
  refine c_X11_longest hR.now (fun h => hQ _ w (fun Q2 h2 => c_X12_longest hR.1.mow (fun _ => h2 w hI) (fun t ht e hk => h.elim (fun q => absurd ⟨t, ht, e⟩ q) (fun q => by rw [hk] at q; cases q)))) (fun t ht e hk u hu => hQ _ u (fun Q2 h2 => ?_))
  refine c_X12_longest (scR hu hR).1.mow (fun q => absurd ⟨⟨t, ht, e⟩, hk⟩ q) (fun t2 ht2 e2 _ => ?_)
  have hp := p29 hR.1.1
  obtain rfl : t = t2 := by
    rw [e] at e2
    exact (nI_eqI (by omega) (by omega)).mp e2
  rw [scB hu, sc58 hu]
  refine zqe (h2 u (hI.sc hu)) ?_
  rw [h8, hR.rl.longest ht]
theorem o_fewest {w : ww} {Q : Option Value → ww → Prop} (hI : Inv w) (hQ : ∀ v w1, Pr mX12_fewest 10 [.ref 57] v w1 → Q (some (.int v)) w1) : Ct mX11_fewest 8 [.ref 0] w Q := by
  obtain ⟨c, hR⟩ := hI.1
  have h8 : w 10 8 = w 58 1 := hR.2.2.1
  refine c_X11_fewest hR.now (fun u hu => hQ _ u (fun Q2 h2 => ?_))
  refine c_X12_fewest (scR hu hR).1.mow (fun u2 hu2 => ?_)
  rw [scB hu, sc58 hu]
  refine zqe (h2 u2 ((hI.sc hu).mc hu2)) ?_
  rw [h8, hR.rl.fewest]
theorem o_carry {w : ww} {Q : Option Value → ww → Prop} (hI : Inv w) (hQ : ∀ v w1, Pr mX12_carry 10 [.ref 57] v w1 → Q (some (.int v)) w1) : Ct mX11_carry 8 [.ref 0] w Q := by
  obtain ⟨c, hR⟩ := hI.1
  have h8 : w 10 8 = w 58 1 := hR.2.2.1
  refine c_X11_carry hR.now (fun u hu => hQ _ u (fun Q2 h2 => ?_))
  refine c_X12_carry (scR hu hR).1.mow (fun u2 hu2 => ?_)
  rw [scB hu, sc58 hu]
  refine zqe (h2 u2 ((hI.sc hu).mc hu2)) ?_
  rw [h8, hR.rl.carry]
theorem o_load {w : ww} {Q : Option Value → ww → Prop} {m : Int32} (hI : Inv w) (hQ : ∀ v w1, Pr mX12_load 10 [.ref 57, .int m] v w1 → Q (some (.int v)) w1) : Ct mX11_load 8 [.ref 0, .int m] w Q := by
  obtain ⟨c, hR⟩ := hI.1
  have h8 : w 10 8 = w 58 1 := hR.2.2.1
  refine c_X11_load hR.now (fun h => hQ _ w (fun Q2 h2 => c_X12_load hR.1.mow (fun _ => h2 w hI) (fun q => by rw [h] at q; cases q))) (fun h u hu => hQ _ u (fun Q2 h2 => ?_))
  refine c_X12_load (scR hu hR).1.mow (fun q => by rw [h] at q; cases q) (fun _ u2 hu2 => ?_)
  rw [scB hu, sc58 hu]
  refine zqe (h2 u2 ((hI.sc hu).mc hu2)) ?_
  rw [h8, hR.rl.load]
theorem o_whole {w : ww} {Q : Option Value → ww → Prop} {m : Int32} (hI : Inv w) (hQ : ∀ v w1, Pr mX12_whole 18 [.ref 57, .int m] v w1 → Q (some (.int v)) w1) : Ct mX11_whole 8 [.ref 0, .int m] w Q := by
  obtain ⟨c, hR⟩ := hI.1
  have h8 : w 10 8 = w 58 1 := hR.2.2.1
  refine c_X11_whole hR.now (fun h => hQ _ w (fun Q2 h2 => c_X12_whole hR.1.mow (fun _ => h2 w hI) (fun q => by rw [h] at q; cases q))) (fun h u hu => hQ _ u (fun Q2 h2 => ?_))
  refine c_X12_whole (scR hu hR).1.mow (fun q => by rw [h] at q; cases q) (fun _ => ?_)
  rw [scB hu, sc58 hu]
  refine zqe (h2 u (hI.sc hu)) ?_
  rw [h8, hR.rl.whole h]
theorem o_apart {w : ww} {Q : Option Value → ww → Prop} {m : Int32} (hI : Inv w) (hQ : ∀ v w1, Pr mX12_apart 8 [.ref 57, .int m] v w1 → Q (some (.int v)) w1) : Ct mX11_apart 8 [.ref 0, .int m] w Q := by
  obtain ⟨c, hR⟩ := hI.1
  have h8 : w 10 8 = w 58 1 := hR.2.2.1
  refine c_X11_apart hR.now (fun h => hQ _ w (fun Q2 h2 => c_X12_apart hR.1.mow (fun _ => h2 w hI) (fun q => by rw [h] at q; cases q))) (fun h u hu => hQ _ u (fun Q2 h2 => ?_))
  refine c_X12_apart (scR hu hR).1.mow (fun q => by rw [h] at q; cases q) (fun _ => ?_)
  rw [scB hu, sc58 hu]
  refine zqe (h2 u (hI.sc hu)) ?_
  rw [h8, hR.rl.apart]
theorem o_throwsNew {w : ww} {Q : Option Value → ww → Prop} (hI : Inv w) (hQ : ∀ v w1, Pr mX12_throwsNew 7 [.ref 57] v w1 → Q (some (.int v)) w1) : Ct mX11_throwsNew 7 [.ref 0] w Q := by
  obtain ⟨c, hR⟩ := hI.1
  have h8 : w 10 8 = w 58 1 := hR.2.2.1
  refine c_X11_throwsNew hR.now (fun h => hQ _ w (fun Q2 h2 => c_X12_throwsNew hR.1.mow (fun _ => h2 w hI) (fun q => by omega))) (fun h u hu => hQ _ u (fun Q2 h2 => ?_))
  refine c_X12_throwsNew (scR hu hR).1.mow (fun q => by omega) (fun _ => ?_)
  rw [scB hu, sc58 hu]
  refine zqe (h2 u (hI.sc hu)) ?_
  rw [h8, hR.rl.throws h]
theorem Inv.hw {w u : ww} {c : Nat} (hI : Inv w) (hR : HRel w 10 w c) (h : HW w c u) : Inv u := by
  have hB2 : ∀ k b, k < 5 → b < c → mB u k b = mB w k b := fun k b hk hb => h.B hk hb
  have hR2 : HRel u 10 u c := by
    obtain ⟨h1, h2, h3, h4⟩ := hR
    have hc := h1.1
    refine ⟨⟨h1.1, by rw [h.2 0 (by omega)]; exact h1.2.1, by rw [h.2 1 (by omega)]; exact h1.2.2.1, fun b hb => (h1.2.2.2 b hb).cong (fun k hk => hB2 k b hk hb)⟩, by rw [h.1 10 (by decide) (by decide)]; exact h2, by rw [h.1 10 (by decide) (by decide), h.2 1 (by omega)]; exact h3, fun k b hk hb => ?_⟩
    rw [hB2 k b hk hb, ← h4 k b hk hb]
    unfold hB
    rw [h.1 (10 + 1 + k) (by omega) (by omega)]
  exact hI.bh hR2 (fun p hp => h.1 p (by unfold Kb at hp; omega) (by unfold Kb at hp; omega)) (by rw [h.1 57 (by decide) (by decide)])
theorem HW.ad0 {w : ww} {c : Nat} {s d : Int32} : HW w c (mAd w c 0 0 0 s d) := ⟨fun p hp _ => by funext z; exact mAd_o hp, fun j hj => mAd_lo hj⟩
theorem o_helps {w : ww} {Q : Option Value → ww → Prop} {d k : Int32} (hI : Inv w) (hQ : ∀ v w1, Pr mX12_helps 8 [.ref 57, .int d, .int k] v w1 → Q (some (.int v)) w1) : Ct mX11_helps 8 [.ref 0, .int d, .int k] w Q := by
  obtain ⟨c, hR⟩ := hI.1
  have h8 : w 10 8 = w 58 1 := hR.2.2.1
  refine c_X11_helps hR.now (fun h => hQ _ w (fun Q2 h2 => c_X12_helps hR.1.mow (fun _ => h2 w hI) (fun q => absurd q h))) (fun h u hu => hQ _ u (fun Q2 h2 => ?_))
  refine c_X12_helps (scR hu hR).1.mow (fun q => absurd h q) (fun _ u2 hu2 => ?_)
  rw [scB hu, sc58 hu]
  refine zqe (h2 u2 ((hI.sc hu).hw (scR hu hR) hu2)) ?_
  rw [h8, hR.rl.helps h.1]
theorem o_next {w : ww} {Q : Option Value → ww → Prop} {e k : Int32} (hI : Inv w) (hQ : ∀ v w1, Pr mX12_next 6 [.ref 57, .int e, .int k] v w1 → Q (some (.int v)) w1) : Ct mX11_next 7 [.ref 0, .int e, .int k] w Q := by
  obtain ⟨c, hR⟩ := hI.1
  have h8 : w 10 8 = w 58 1 := hR.2.2.1
  refine c_X11_next hR.now (fun h => hQ _ w (fun Q2 h2 => c_X12_next hR.1.mow (fun _ => h2 w hI) (fun q => absurd q h))) (fun h => hQ _ w (fun Q2 h2 => ?_))
  refine c_X12_next hR.1.mow (fun q => absurd h q) (fun _ => ?_)
  refine zqe (h2 w hI) ?_
  rw [h8, hR.rl.next]
theorem o_count {w : ww} {Q : Option Value → ww → Prop} {k : Int32} (hI : Inv w) (hQ : ∀ v w1, Pr mX12_count 7 [.ref 57, .int k] v w1 → Q (some (.int v)) w1) : Ct mX11_count 7 [.ref 0, .int k] w Q := by
  obtain ⟨c, hR⟩ := hI.1
  have h8 : w 10 8 = w 58 1 := hR.2.2.1
  refine c_X11_count hR.now (hQ _ w (fun Q2 h2 => ?_))
  refine c_X12_count hR.1.mow (zqe (h2 w hI) ?_)
  rw [h8, hR.rl.pairs, hR.rl.ds, hR.2.1, hR.1.2.1]
theorem o_lies {w : ww} {Q : Option Value → ww → Prop} {a b : Int32} (hI : Inv w) (hQ : ∀ v w1, Pr mX12_lies 7 [.ref 57, .int a, .int b] v w1 → Q (some (.int v)) w1) : Ct mX11_lies 6 [.ref 0, .int a, .int b] w Q := by
  obtain ⟨c, hR⟩ := hI.1
  have h8 : w 10 8 = w 58 1 := hR.2.2.1
  refine c_X11_lies hR.now (hQ _ w (fun Q2 h2 => ?_))
  refine c_X12_lies hR.1.mow (zqe (h2 w hI) ?_)
  rw [h8, hR.2.1]
  by_cases q : (0 ≤ a ∧ a < nI c) ∧ (0 ≤ b ∧ b < nI c) ∧ ¬ a = b
  · rw [if_pos q, if_pos q, hR.rl.li (rg_lt hR.1.1 q.1) (rg_lt hR.1.1 q.2.1)]
  · rw [if_neg q, if_neg q]
theorem o_spans {w : ww} {Q : Option Value → ww → Prop} {a b k : Int32} (hI : Inv w) (hQ : ∀ v w1, Pr mX12_spans 6 [.ref 57, .int a, .int b, .int k] v w1 → Q (some (.int v)) w1) : Ct mX11_spans 6 [.ref 0, .int a, .int b, .int k] w Q := by
  obtain ⟨c, hR⟩ := hI.1
  have h8 : w 10 8 = w 58 1 := hR.2.2.1
  refine c_X11_spans hR.now (hQ _ w (fun Q2 h2 => ?_))
  refine c_X12_spans hR.1.mow (zqe (h2 w hI) ?_)
  rw [h8, hR.2.1]
  by_cases q : ((0 ≤ a ∧ a < nI c) ∧ (0 ≤ b ∧ b < nI c) ∧ ¬ a = b) ∧ fIs k 0 9 = true
  · rw [if_pos q, if_pos q]
    exact fSp_cong (fun j hj => hR.2.2.2 j _ hj (rg_lt hR.1.1 q.1.1)) (fun j hj => hR.2.2.2 j _ hj (rg_lt hR.1.1 q.1.2.1))
  · rw [if_neg q, if_neg q]
theorem o_breaks {w : ww} {Q : Option Value → ww → Prop} {n z k : Int32} (hI : Inv w) (hQ : ∀ v w1, Pr mX12_breaks 9 [.ref 57, .int n, .int z, .int k] v w1 → Q (some (.int v)) w1) : Ct mX11_breaks 8 [.ref 0, .int n, .int z, .int k] w Q := by
  obtain ⟨c, hR⟩ := hI.1
  have h8 : w 10 8 = w 58 1 := hR.2.2.1
  refine c_X11_breaks hR.now (fun h => hQ _ w (fun Q2 h2 => c_X12_breaks hR.1.mow (fun _ => h2 w hI) (fun q _ => absurd q h) (fun q _ _ _ _ _ => absurd q h))) (fun h h0 => hQ _ w (fun Q2 h2 => c_X12_breaks hR.1.mow (fun q => absurd h q) (fun _ _ => h2 w hI) (fun _ q _ _ _ _ => by omega))) (fun h h0 m hm e u hu => hQ _ u (fun Q2 h2 => ?_))
  refine c_X12_breaks (scR hu hR).1.mow (fun q => absurd h q) (fun _ q => by omega) (fun _ _ m2 hm2 e2 s => ?_)
  obtain rfl : m = m2 := by
    rw [e] at e2
    exact (nI_eqI (by omega) (by omega)).mp e2
  rw [scB hu, sc58 hu]
  refine zqe (h2 _ ((hI.sc hu).of (fun p hp => by funext y; exact wu_ne (by unfold Ky at hp; omega)) (wu_nj (by decide)))) ?_
  have hp0 : 0 < 2 ^ c := Nat.pow_pos (by decide)
  have hd := nDif_le (2 ^ c - 1) (bkT c m z)
  rw [h8, show fM c = 2 ^ c - 1 from rfl, hR.rl.longest (by omega)]
theorem o_from {w : ww} {Q : Option Value → ww → Prop} {a b s d : Int32} (hI : Inv w) (hQ : ∀ v w1, Pr mX12_from 8 [.ref 57, .int a, .int b, .int s, .int d] v w1 → Q (some (.int v)) w1) : Ct mX11_from 7 [.ref 0, .int a, .int b, .int s, .int d] w Q := by
  obtain ⟨c, hR⟩ := hI.1
  have h8 : w 10 8 = w 58 1 := hR.2.2.1
  refine c_X11_from hR.now (fun h => hQ _ w (fun Q2 h2 => c_X12_from hR.1.mow (fun _ => h2 w hI) (fun q => absurd q h))) (fun h u hu => hQ _ u (fun Q2 h2 => ?_))
  refine c_X12_from (scR hu hR).1.mow (fun q => absurd h q) (fun _ t1 t2 ht1 ht2 e1 e2 => ?_)
  subst e1
  subst e2
  refine zqe (h2 _ ((hI.sc hu).hw (scR hu hR) HW.ad0)) ?_
  obtain ⟨vn, hvn, hv⟩ := hR.1.2.2.1
  obtain ⟨wn, w1, w2, rfl⟩ := fIs_99 h.2.2.2.1
  obtain ⟨dn, d1, d2, rfl⟩ := fIs_99 h.2.2.2.2
  rw [h8, sc58 hu]
  have hBM : ∀ k b, k < 5 → b < c + 1 → mB (mAd u c 0 0 0 (nI wn) (nI dn)) k b = addB (mB w) c (nI wn) (nI dn) k b := fun k b hk hb => by
    rw [mAd_B k b hk (by omega), scB hu]
  exact frR_eq hR.1.1 hv hvn (fun k b hk hb => by
    rw [hBM k b hk hb]
    unfold addB
    by_cases q : b = c
    · rw [if_pos q, if_pos q]
    · rw [if_neg q, if_neg q]; exact hR.2.2.2 k b hk (by omega)) (fun b hb => (addB_rg w1 w2 d1 d2 hR.1.2.2.2 b hb).cong (fun k hk => hBM k b hk hb)) ht1 ht2
