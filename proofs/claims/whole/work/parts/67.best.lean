/-! ===== the best of all sets of guesses: what the class's search finds ===== -/
def b3 (x : Int32) (i : Nat) : Bool := x.toBitVec.getLsbD i
theorem b3_ext {x y : Int32} (h : ∀ i, i < 32 → b3 x i = b3 y i) : x = y := Int32.toBitVec_inj.1 (BitVec.eq_of_getLsbD_eq fun i hi => h i hi)
theorem b3_or (x y : Int32) (i : Nat) : b3 (x ||| y) i = (b3 x i || b3 y i) := by
  unfold b3
  rw [Int32.toBitVec_or, BitVec.getLsbD_or]
theorem b3_and (x y : Int32) (i : Nat) : b3 (x &&& y) i = (b3 x i && b3 y i) := by
  unfold b3
  rw [Int32.toBitVec_and, BitVec.getLsbD_and]
theorem b3_0 (i : Nat) : b3 0 i = false := by
  unfold b3
  exact BitVec.getLsbD_zero
theorem b3_sh1 : ∀ p, p < 12 → ((1 : Int32) <<< (nI p &&& 31)).toBitVec = BitVec.twoPow 32 p := by decide +kernel
theorem b3_one {p : Nat} (hp : p < 12) (i : Nat) : b3 ((1 : Int32) <<< (nI p &&& 31)) i = decide (i = p) := by
  unfold b3
  rw [b3_sh1 p hp, BitVec.getLsbD_twoPow]
  by_cases h : i = p
  · subst h; simp [show i < 32 by omega]
  · simp [h, Ne.symm h]
theorem b3_n {m i : Nat} (hi : i < 32) : b3 (nI m) i = m.testBit i := by
  show (BitVec.ofNat 32 m).getLsbD i = _
  rw [BitVec.getLsbD_ofNat]
  simp [hi]
theorem b3_mk {P : Nat → Bool} (i : Nat) : ∀ n, n ≤ 12 → b3 (mkC P n) i = (decide (i < n) && P i)
  | 0, _ => by simp [mkC, b3_0]
  | n + 1, hn => by
    have ih := b3_mk (P := P) i n (by omega)
    simp only [mkC]
    by_cases c : P n = true
    · rw [if_pos c, b3_or, ih, b3_one (by omega)]
      by_cases e : i = n
      · subst e; simp [c]
      · simp [e, show (i < n + 1) = (i < n) by simp; omega]
    · rw [if_neg c, ih]
      by_cases e : i = n
      · subst e; simp [show P i = false by simpa using c]
      · simp [show (i < n + 1) = (i < n) by simp; omega]
theorem mk_land {P : Nat → Bool} {n m : Nat} (hn : n ≤ 12) : mkC P n &&& nI m = 0 ↔ ∀ k, k < n → P k = true → m.testBit k = false := by
  constructor
  · intro h k hk hp
    have t := congrArg (fun z => b3 z k) h
    simp only [b3_and, b3_0] at t
    rw [b3_mk k n hn, b3_n (by omega), decide_eq_true hk, hp] at t
    simpa using t
  · intro h
    apply b3_ext
    intro i hi
    rw [b3_and, b3_0, b3_mk i n hn, b3_n hi]
    by_cases c : i < n
    · cases hp : P i
      · simp
      · rw [h i c hp, Bool.and_false]
    · rw [decide_eq_false c, Bool.false_and, Bool.false_and]
theorem mk_0 {P : Nat → Bool} {n : Nat} (hn : n ≤ 12) : mkC P n = 0 ↔ ∀ k, k < n → P k = false := by
  constructor
  · intro h k hk
    have t := congrArg (fun z => b3 z k) h
    simp only [b3_0] at t
    rw [b3_mk k n hn, decide_eq_true hk, Bool.true_and] at t
    exact t
  · intro h
    apply b3_ext
    intro i hi
    rw [b3_0, b3_mk i n hn]
    by_cases c : i < n
    · rw [h i c, Bool.and_false]
    · rw [decide_eq_false c, Bool.false_and]
/-- a number by its part from a bit on and its part below -/
theorem hp_bit {a b g k : Nat} (h : a / 2 ^ g = b / 2 ^ g) (hk : g ≤ k) : a.testBit k = b.testBit k := by
  have := Nat.testBit_div_two_pow (n := g) a (k - g)
  rw [show k - g + g = k by omega] at this
  rw [← this, h, Nat.testBit_div_two_pow, show k - g + g = k by omega]
theorem at_bit {a g : Nat} : a.testBit g = decide (a / 2 ^ g % 2 = 1) := Nat.testBit_eq_decide_div_mod_eq
theorem p2s (g : Nat) : 2 ^ (g + 1) = 2 ^ g * 2 := by rw [Nat.pow_succ]
theorem p2p (g : Nat) : 0 < 2 ^ g := Nat.two_pow_pos g
theorem md_div {x g r : Nat} (hr : r < 2 ^ g) : (x * 2 ^ g + r) / 2 ^ g = x := by
  rw [Nat.mul_comm, Nat.mul_add_div (p2p g), Nat.div_eq_of_lt hr, Nat.add_zero]
theorem md_lo {x g r k : Nat} (hr : r < 2 ^ g) (hk : k < g) : (x * 2 ^ g + r).testBit k = r.testBit k := by
  have h1 := Nat.testBit_mod_two_pow (x * 2 ^ g + r) g k
  rw [decide_eq_true hk, Bool.true_and] at h1
  rw [← h1, Nat.mul_comm, Nat.mul_add_mod, Nat.mod_eq_of_lt hr]
theorem dv_dv {a g : Nat} : a / 2 ^ (g + 1) = a / 2 ^ g / 2 := by rw [p2s, Nat.div_div_eq_div_mul]
theorem up_le {q h n : Nat} (hn : h ≤ n) (hq : q * 2 ^ h < 2 ^ n) : (q + 1) * 2 ^ h ≤ 2 ^ n := by
  obtain ⟨e, rfl⟩ : ∃ e, n = h + e := ⟨n - h, by omega⟩
  rw [Nat.pow_add, Nat.mul_comm (2 ^ h)] at hq ⊢
  exact Nat.mul_le_mul_right _ (Nat.lt_of_mul_lt_mul_right hq)
/-- bit g off, on; all other bits the same -/
theorem tog {q g r : Nat} (hr : r < 2 ^ g) : (∀ k, k ≠ g → ((2 * q) * 2 ^ g + r).testBit k = ((2 * q + 1) * 2 ^ g + r).testBit k) ∧ ((2 * q) * 2 ^ g + r).testBit g = false ∧ ((2 * q + 1) * 2 ^ g + r).testBit g = true := by
  refine ⟨fun k hk => ?_, ?_, ?_⟩
  · by_cases c : k < g
    · rw [md_lo hr c, md_lo hr c]
    · refine hp_bit (g := g + 1) ?_ (by omega)
      rw [dv_dv, dv_dv, md_div hr, md_div hr]
      omega
  · rw [at_bit, md_div hr]
    exact decide_eq_false (by omega)
  · rw [at_bit, md_div hr]
    exact decide_eq_true (by omega)
def sgm (z : Nat → Int) (m : Nat) : Nat → Int
  | 0 => 0
  | k + 1 => sgm z m k + if m.testBit k then z k else 0
def vld (C : Nat → Nat → Bool) (n m : Nat) : Prop := ∀ j k, j < n → k < n → m.testBit j = true → m.testBit k = true → C j k = false
theorem sgm_eq {z : Nat → Int} {a b : Nat} : ∀ n, (∀ k, k < n → a.testBit k = b.testBit k) → sgm z a n = sgm z b n
  | 0, _ => rfl
  | n + 1, h => by
    simp only [sgm]
    rw [sgm_eq n fun k hk => h k (by omega), h n (by omega)]
theorem sgm_tog {z : Nat → Int} {a b g : Nat} (h : ∀ k, k ≠ g → a.testBit k = b.testBit k) (ha : a.testBit g = false) (hb : b.testBit g = true) : ∀ n, g < n → sgm z b n = sgm z a n + z g
  | 0, hg => by omega
  | n + 1, hg => by
    simp only [sgm]
    by_cases e : n = g
    · subst e
      rw [ha, hb, sgm_eq (a := a) (b := b) n fun k hk => h k (by omega)]
      simp
    · rw [sgm_tog h ha hb n (by omega), h n e]
      omega
theorem oi_lt {a b : Int} (ha : -100000 ≤ a ∧ a ≤ 100000) (hb : -100000 ≤ b ∧ b ≤ 100000) : Int32.ofInt a < Int32.ofInt b ↔ a < b := by
  rw [Int32.lt_iff_toInt_lt, Int32.toInt_ofInt_of_le (by omega) (by omega), Int32.toInt_ofInt_of_le (by omega) (by omega)]
theorem or_bit {q g n : Nat} (hg : g < n) (hn : n ≤ 12) : nI (q * 2 ^ (g + 1)) ||| ((1 : Int32) <<< (nI g &&& 31)) = nI ((2 * q + 1) * 2 ^ g) := by
  apply b3_ext
  intro i hi
  rw [b3_or, b3_n hi, b3_one (by omega), b3_n hi]
  have e : q * 2 ^ (g + 1) = (2 * q) * 2 ^ g + 0 := by
    rw [p2s, Nat.add_zero, Nat.mul_comm (2 ^ g) 2, ← Nat.mul_assoc, Nat.mul_comm q 2]
  obtain ⟨t1, t2, t3⟩ := tog (q := q) (g := g) (r := 0) (p2p g)
  rw [e]
  by_cases c : i = g
  · rw [decide_eq_true c, Bool.or_true, c, ← t3, Nat.add_zero]
  · rw [decide_eq_false c, Bool.or_false, t1 i c, Nat.add_zero]
theorem dcS_ok {n : Nat} (hn : n ≤ 12) {sc : Nat → Int32} {z : Nat → Int} (hz : ∀ k, k < n → sc k = Int32.ofInt (z k) ∧ -60 ≤ z k ∧ z k ≤ 180) {C : Nat → Nat → Bool} (hs : ∀ j k, C j k = C k j) (h0 : ∀ k, C k k = false) : ∀ (g q : Nat) (σ : Int) (bm : Nat) (bz : Int), g ≤ n → q * 2 ^ g < 2 ^ n → (∀ j k, g ≤ j → j < n → g ≤ k → k < n → (q * 2 ^ g).testBit j = true → (q * 2 ^ g).testBit k = true → C j k = false) → (∀ m, m / 2 ^ g = q → sgm z m n = sgm z m g + σ) → -60 * ((n : Int) - g) ≤ σ → σ ≤ 180 * ((n : Int) - g) → 0 ≤ bz → bz ≤ 2160 →
    ∃ rm rz, dcS sc (fun k => mkC (C k) n) g (nI (q * 2 ^ g)) (Int32.ofInt σ) (nI bm, Int32.ofInt bz) = (nI rm, Int32.ofInt rz) ∧ bz ≤ rz ∧ rz ≤ 2160 ∧ ((rm = bm ∧ rz = bz) ∨ (bz < rz ∧ rm / 2 ^ g = q ∧ vld C n rm ∧ sgm z rm n = rz)) ∧ ∀ m, m / 2 ^ g = q → vld C n m → sgm z m n ≤ rz ∧ (sgm z m n = rz → bz < rz → rm ≤ m)
  | 0, q, σ, bm, bz, hg, hq, hv, hσ, s1, s2, b1, b2 => by
    simp only [dcS]
    have hS : ∀ m, m / 2 ^ 0 = q → m = q ∧ sgm z m n = σ := fun m hm => ⟨by simpa using hm, by rw [hσ m hm]; simp [sgm]⟩
    have eq1 : q * 2 ^ 0 = q := by simp
    rw [eq1] at hv ⊢
    by_cases c : bz < σ
    · rw [if_pos ((oi_lt (by omega) (by omega)).mpr c)]
      refine ⟨q, σ, rfl, by omega, by omega, Or.inr ⟨c, by simp, fun j k hj hk => hv j k (by omega) hj (by omega) hk, (hS q (by simp)).2⟩, fun m hm _ => ?_⟩
      obtain ⟨e1, e2⟩ := hS m hm
      exact ⟨by omega, fun _ _ => by omega⟩
    · rw [if_neg (fun h => c ((oi_lt (by omega) (by omega)).mp h))]
      refine ⟨bm, bz, rfl, by omega, by omega, Or.inl ⟨rfl, rfl⟩, fun m hm _ => ?_⟩
      obtain ⟨e1, e2⟩ := hS m hm
      exact ⟨by omega, fun _ h => by omega⟩
  | g + 1, q, σ, bm, bz, hg, hq, hv, hσ, s1, s2, b1, b2 => by
    obtain ⟨z1, z2, z3⟩ := hz g (by omega)
    have e0 : q * 2 ^ (g + 1) = (2 * q) * 2 ^ g := by
      rw [p2s, Nat.mul_comm (2 ^ g) 2, ← Nat.mul_assoc, Nat.mul_comm q 2]
    have up := up_le hg hq
    have up2 : (q + 1) * 2 ^ (g + 1) = (2 * q + 1) * 2 ^ g + 2 ^ g := by
      rw [p2s, Nat.mul_comm (2 ^ g) 2, ← Nat.mul_assoc]
      rw [show (q + 1) * 2 = (2 * q + 1) + 1 by omega, Nat.add_mul, Nat.one_mul]
    have pg := p2p g
    have t0 : ((2 * q) * 2 ^ g).testBit g = false := by
      have := (tog (q := q) (g := g) (r := 0) pg).2.1
      rwa [Nat.add_zero] at this
    have t1 : ((2 * q + 1) * 2 ^ g).testBit g = true := by
      have := (tog (q := q) (g := g) (r := 0) pg).2.2
      rwa [Nat.add_zero] at this
    have tk : ∀ k, k ≠ g → ((2 * q) * 2 ^ g).testBit k = ((2 * q + 1) * 2 ^ g).testBit k := by
      have := (tog (q := q) (g := g) (r := 0) pg).1
      simpa only [Nat.add_zero] using this
    have dq : ∀ m, m / 2 ^ (g + 1) = q ↔ (m / 2 ^ g = 2 * q ∨ m / 2 ^ g = 2 * q + 1) := fun m => by rw [dv_dv]; omega
    have A := fun (bm : Nat) (bz : Int) (h1 : 0 ≤ bz) (h2 : bz ≤ 2160) => dcS_ok hn hz hs h0 g (2 * q) σ bm bz (by omega) (by rw [← e0]; exact hq) (fun j k a1 a2 a3 a4 a5 a6 => by
      by_cases ej : j = g
      · rw [ej, t0] at a5; cases a5
      · by_cases ek : k = g
        · rw [ek, t0] at a6; cases a6
        · rw [← e0] at a5 a6
          exact hv j k (by omega) a2 (by omega) a4 a5 a6) (fun m hm => by
      rw [hσ m ((dq m).mpr (Or.inl hm))]
      simp only [sgm]
      rw [at_bit, hm, if_neg (by simp)]
      omega) (by omega) (by omega) h1 h2
    have B := fun (hc : mkC (C g) n &&& nI (q * 2 ^ (g + 1)) = 0) (bm : Nat) (bz : Int) (h1 : 0 ≤ bz) (h2 : bz ≤ 2160) => dcS_ok hn hz hs h0 g (2 * q + 1) (σ + z g) bm bz (by omega) (by omega) (fun j k a1 a2 a3 a4 a5 a6 => by
      rw [mk_land hn] at hc
      have nc : ∀ k, k < n → k ≠ g → ((2 * q + 1) * 2 ^ g).testBit k = true → C g k = false := fun k hk hkg hb => by
        cases hq : C g k
        · rfl
        · have := hc k hk hq
          rw [e0, tk k hkg, hb] at this
          cases this
      by_cases ej : j = g
      · by_cases ek : k = g
        · rw [ej, ek]; exact h0 g
        · rw [ej]; exact nc k a4 ek a6
      · by_cases ek : k = g
        · rw [ek, hs]; exact nc j a2 ej a5
        · rw [← tk j ej, ← e0] at a5
          rw [← tk k ek, ← e0] at a6
          exact hv j k (by omega) a2 (by omega) a4 a5 a6) (fun m hm => by
      rw [hσ m ((dq m).mpr (Or.inr hm))]
      simp only [sgm]
      rw [at_bit, hm, if_pos (by simp)]
      omega) (by omega) (by omega) h1 h2
    have pos : (0 < sc g) ↔ 0 < z g := by
      rw [z1]
      exact oi_lt (a := 0) (by omega) (by omega)
    have npos : sc g ≤ 0 ↔ ¬ 0 < z g := by
      rw [← pos]
      exact Int32.not_lt.symm
    have es : Int32.ofInt σ + sc g = Int32.ofInt (σ + z g) := by rw [z1, Int32.ofInt_add]
    simp only [dcS]
    rw [or_bit (n := n) (by omega) hn, es]
    by_cases take : 0 < sc g ∧ mkC (C g) n &&& nI (q * 2 ^ (g + 1)) = 0
    · rw [if_pos take]
      have zp := pos.mp take.1
      by_cases cl0 : mkC (C g) n = 0
      · rw [if_neg (fun h => h.elim (fun h => npos.mp h zp) (fun h => h cl0))]
        obtain ⟨rm, rz, r1, r2, r3, r4, r5⟩ := B take.2 bm bz b1 b2
        refine ⟨rm, rz, r1, r2, r3, r4.imp id (fun h => ⟨h.1, (dq rm).mpr (Or.inr h.2.1), h.2.2⟩), fun m hm hvm => ?_⟩
        rcases (dq m).mp hm with e | e
        · have hr := Nat.mod_lt m pg
          obtain ⟨g1, g2, g3⟩ := tog (q := q) (g := g) (r := m % 2 ^ g) hr
          have em : (2 * q) * 2 ^ g + m % 2 ^ g = m := by rw [← e, Nat.mul_comm]; exact Nat.div_add_mod m (2 ^ g)
          rw [em] at g1 g2
          have hC := (mk_0 hn).mp cl0
          have := r5 ((2 * q + 1) * 2 ^ g + m % 2 ^ g) (md_div hr) (fun j k hj hk bj bk => by
            by_cases ej : j = g
            · rw [ej]; exact hC k hk
            · by_cases ek : k = g
              · rw [ek, hs]; exact hC j hj
              · exact hvm j k hj hk (by rw [g1 j ej]; exact bj) (by rw [g1 k ek]; exact bk))
          rw [sgm_tog g1 g2 g3 n (by omega)] at this
          exact ⟨by omega, fun h _ => by omega⟩
        · exact r5 m e hvm
      · rw [if_pos (Or.inr cl0), e0]
        obtain ⟨rm1, rz1, p1, p2, p3, p4, p5⟩ := A bm bz b1 b2
        rw [p1]
        obtain ⟨rm, rz, r1, r2, r3, r4, r5⟩ := B take.2 rm1 rz1 (by omega) (by omega)
        refine ⟨rm, rz, r1, by omega, r3, ?_, fun m hm hvm => ?_⟩
        · rcases r4 with ⟨rfl, rfl⟩ | ⟨c1, c2, c3, c4⟩
          · exact p4.imp id (fun h => ⟨h.1, (dq _).mpr (Or.inl h.2.1), h.2.2⟩)
          · exact Or.inr ⟨by omega, (dq _).mpr (Or.inr c2), c3, c4⟩
        · rcases (dq m).mp hm with e | e
          · obtain ⟨d1, d2⟩ := p5 m e hvm
            refine ⟨by omega, fun h1 h2 => ?_⟩
            rcases r4 with ⟨rfl, rfl⟩ | ⟨c1, c2, c3, c4⟩
            · exact d2 h1 h2
            · omega
          · obtain ⟨d1, d2⟩ := r5 m e hvm
            refine ⟨d1, fun h1 h2 => ?_⟩
            rcases r4 with ⟨rfl, rfl⟩ | ⟨c1, c2, c3, c4⟩
            · rcases p4 with ⟨_, h⟩ | ⟨_, h, _⟩
              · omega
              · exact Nat.le_of_lt (Nat.lt_of_div_lt_div (c := 2 ^ g) (by rw [h, e]; omega))
            · exact d2 h1 c1
    · rw [if_neg take]
      have hk : sc g ≤ 0 ∨ mkC (C g) n ≠ 0 := by
        by_cases c : 0 < sc g
        · refine Or.inr fun h => take ⟨c, ?_⟩
          rw [mk_land hn]
          intro k hk hp
          rw [(mk_0 hn).mp h k hk] at hp
          cases hp
        · exact Or.inl (Int32.not_lt.mp c)
      rw [if_pos hk, e0]
      obtain ⟨rm, rz, r1, r2, r3, r4, r5⟩ := A bm bz b1 b2
      refine ⟨rm, rz, r1, r2, r3, r4.imp id (fun h => ⟨h.1, (dq rm).mpr (Or.inl h.2.1), h.2.2⟩), fun m hm hvm => ?_⟩
      rcases (dq m).mp hm with e | e
      · exact r5 m e hvm
      · have hr := Nat.mod_lt m pg
        obtain ⟨g1, g2, g3⟩ := tog (q := q) (g := g) (r := m % 2 ^ g) hr
        have em : (2 * q + 1) * 2 ^ g + m % 2 ^ g = m := by rw [← e, Nat.mul_comm]; exact Nat.div_add_mod m (2 ^ g)
        rw [em] at g1 g3
        by_cases zp : 0 < z g
        · exfalso
          apply take
          refine ⟨pos.mpr zp, ?_⟩
          rw [mk_land hn]
          intro k hk hp
          cases hb : (q * 2 ^ (g + 1)).testBit k
          · rfl
          · exfalso
            by_cases kg : k < g + 1
            · have : (q * 2 ^ (g + 1) + 0).testBit k = (0 : Nat).testBit k := md_lo (p2p (g + 1)) kg
              rw [Nat.add_zero, hb] at this
              simp at this
            · have hmk : m.testBit k = true := by
                rw [← hb]
                refine hp_bit (g := g + 1) ?_ (by omega)
                rw [hm, Nat.mul_div_cancel _ (p2p (g + 1))]
              have := hvm g k (by omega) hk g3 hmk
              rw [this] at hp
              cases hp
        · have := r5 ((2 * q) * 2 ^ g + m % 2 ^ g) (md_div hr) (fun j k hj hk bj bk => by
            have nb : ∀ k, ((2 * q) * 2 ^ g + m % 2 ^ g).testBit k = true → m.testBit k = true := fun k hb => by
              by_cases ek : k = g
              · rw [ek, g2] at hb; cases hb
              · rw [← g1 k ek]; exact hb
            exact hvm j k hj hk (nb j bj) (nb k bk))
          have st := sgm_tog (z := z) g1 g2 g3 n (by omega)
          refine ⟨by omega, fun h1 h2 => ?_⟩
          have h3 := this.2 (by omega) h2
          have h4 : (2 * q) * 2 ^ g + m % 2 ^ g ≤ m := by
            have h5 : (2 * q) * 2 ^ g ≤ (2 * q + 1) * 2 ^ g := Nat.mul_le_mul_right _ (by omega)
            omega
          omega
