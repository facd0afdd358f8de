/-! ===== Long.bitCount counts bits (wb_ rows: pasted from kit/laws) ===== -/
theorem wb_tb (n : Nat) : (lN n).toBitVec = BitVec.ofNat 64 n := rfl
theorem wb_inj {a b : Int64} (h : a.toBitVec = b.toBitVec) : a = b := Int64.toBitVec_inj.mp h
theorem wb_tn {n : Nat} (h : n < 2 ^ 64) : (lN n).toBitVec.toNat = n := by rw [wb_tb, BitVec.toNat_ofNat, Nat.mod_eq_of_lt h]
theorem wb_of (x : Int64) : ∃ n, n < 2 ^ 64 ∧ x = lN n := ⟨x.toBitVec.toNat, x.toBitVec.isLt, wb_inj (by rw [wb_tb]; simp)⟩
theorem wb_cu : ∀ k, k < 64 → ((nI k).toInt64.toUInt64 &&& Int64.toUInt64 63) = UInt64.ofNat k := by decide +kernel
theorem wb_shr {n k : Nat} (hn : n < 2 ^ 64) (hk : k < 64) : ((lN n).toUInt64 >>> ((nI k).toInt64.toUInt64 &&& Int64.toUInt64 63)).toInt64 = lN (n / 2 ^ k) := by
  rw [wb_cu k hk]
  apply wb_inj
  apply BitVec.eq_of_toNat_eq
  show ((lN n).toUInt64 >>> UInt64.ofNat k).toNat = (BitVec.ofNat 64 _).toNat
  have h1 : (UInt64.ofNat k).toNat = k := by
    show (BitVec.ofNat 64 k).toNat = k
    rw [BitVec.toNat_ofNat, Nat.mod_eq_of_lt (by omega)]
  have h2 : (lN n).toUInt64.toNat = n := wb_tn hn
  rw [UInt64.toNat_shiftRight, h1, h2, Nat.mod_eq_of_lt hk, Nat.shiftRight_eq_div_pow, BitVec.toNat_ofNat, Nat.mod_eq_of_lt (Nat.lt_of_le_of_lt (Nat.div_le_self _ _) hn)]
theorem wb_and {a b : Nat} (ha : a < 2 ^ 64) (hb : b < 2 ^ 64) : lN a &&& lN b = lN (a &&& b) := by
  apply wb_inj
  rw [Int64.toBitVec_and, wb_tb, wb_tb, wb_tb]
  apply BitVec.eq_of_toNat_eq
  rw [BitVec.toNat_and, BitVec.toNat_ofNat, BitVec.toNat_ofNat, BitVec.toNat_ofNat, Nat.mod_eq_of_lt ha, Nat.mod_eq_of_lt hb, Nat.mod_eq_of_lt (Nat.and_lt_two_pow _ hb)]
theorem pc_an (a r c s : Nat) (ha : a < 256) (hc : c < 256) : (a + 256 * r) &&& (c + 256 * s) = (a &&& c) + 256 * (r &&& s) := by
  have e1 : a + 256 * r = 2 ^ 8 * r + a := by omega
  have e2 : c + 256 * s = 2 ^ 8 * s + c := by omega
  have e3 : (a &&& c) + 256 * (r &&& s) = 2 ^ 8 * (r &&& s) + (a &&& c) := by omega
  have h8 : a &&& c < 2 ^ 8 := Nat.and_lt_two_pow _ hc
  rw [e1, e2, e3]
  apply Nat.eq_of_testBit_eq
  intro i
  rw [Nat.testBit_and, Nat.testBit_two_pow_mul_add _ (show a < 2 ^ 8 from ha), Nat.testBit_two_pow_mul_add _ (show c < 2 ^ 8 from hc), Nat.testBit_two_pow_mul_add _ h8]
  by_cases h : i < 8
  · simp [h, Nat.testBit_and]
  · simp [h, Nat.testBit_and]
def pc_1 (b : Nat) : Nat := b - ((b / 2) &&& 85)
def pc_2 (b : Nat) : Nat := (b &&& 51) + ((b / 4) &&& 51)
def pc_3 (b : Nat) : Nat := (b + b / 16) &&& 15
def pc_h (b : Nat) : Nat := pc_3 (pc_2 (pc_1 b))
def pc_v : List Nat → Nat
  | [] => 0
  | b :: r => b + 256 * pc_v r
def pc_m (c : Nat) : List Nat → Nat
  | [] => 0
  | _ :: r => c + 256 * pc_m c r
theorem pc_d1 : ∀ b, b < 256 → ∀ x, x < 2 → (b / 2 + 128 * x) &&& 85 = (b / 2) &&& 85 := by decide +kernel
theorem pc_d2 : ∀ b, b < 256 → ∀ x, x < 4 → (b / 4 + 64 * x) &&& 51 = (b / 4) &&& 51 := by decide +kernel
theorem pc_d3 : ∀ b, b < 80 → ∀ x, x < 5 → (b + b / 16 + 16 * x) &&& 15 = (b + b / 16) &&& 15 := by decide +kernel
theorem pc_b1 : ∀ b, b < 256 → pc_1 b < 256 := by decide +kernel
theorem pc_b2 : ∀ b, b < 256 → pc_2 (pc_1 b) < 80 ∧ pc_2 (pc_1 b) % 16 ≤ 4 ∧ pc_2 (pc_1 b) / 16 ≤ 4 := by decide +kernel
theorem pc_b3 : ∀ b, b < 256 → pc_h b ≤ 8 ∧ cntB (fun i => b.testBit i) 8 = pc_h b := by decide +kernel
theorem pc_s1 : ∀ l : List Nat, (∀ b ∈ l, b < 256) → pc_v l - ((pc_v l / 2) &&& pc_m 85 l) = pc_v (l.map pc_1) ∧ ((pc_v l / 2) &&& pc_m 85 l) ≤ pc_v l
  | [], _ => ⟨rfl, Nat.le_refl _⟩
  | b :: r, h => by
    obtain ⟨ih, il⟩ := pc_s1 r (fun x hx => h x (List.mem_cons_of_mem _ hx))
    have hb := h b List.mem_cons_self
    have e : pc_v (b :: r) / 2 = (b / 2 + 128 * (pc_v r % 2)) + 256 * (pc_v r / 2) := by
      simp only [pc_v]
      omega
    have hd := pc_d1 b hb (pc_v r % 2) (by omega)
    have hle : (b / 2) &&& 85 ≤ b := Nat.le_trans Nat.and_le_left (Nat.div_le_self _ _)
    rw [e]
    simp only [pc_m]
    rw [pc_an _ _ _ _ (by omega) (by omega), hd]
    simp only [List.map_cons, pc_v, ← ih, pc_1]
    omega
theorem pc_s2 : ∀ l : List Nat, (∀ b ∈ l, b < 256) → (pc_v l &&& pc_m 51 l) + ((pc_v l / 4) &&& pc_m 51 l) = pc_v (l.map pc_2)
  | [], _ => rfl
  | b :: r, h => by
    have ih := pc_s2 r (fun x hx => h x (List.mem_cons_of_mem _ hx))
    have hb := h b List.mem_cons_self
    have e : pc_v (b :: r) / 4 = (b / 4 + 64 * (pc_v r % 4)) + 256 * (pc_v r / 4) := by
      simp only [pc_v]
      omega
    have hd := pc_d2 b hb (pc_v r % 4) (by omega)
    rw [e]
    simp only [pc_m, pc_v]
    rw [pc_an b (pc_v r) 51 _ hb (by omega), pc_an _ _ _ _ (by omega) (by omega), hd]
    simp only [List.map_cons, pc_v, ← ih, pc_2]
    omega
theorem pc_s3 : ∀ l : List Nat, (∀ b ∈ l, b < 80 ∧ b % 16 ≤ 4 ∧ b / 16 ≤ 4) → (pc_v l + pc_v l / 16) &&& pc_m 15 l = pc_v (l.map pc_3) ∧ pc_v l % 16 ≤ 4
  | [], _ => ⟨rfl, by decide⟩
  | b :: r, h => by
    obtain ⟨ih, i2⟩ := pc_s3 r (fun x hx => h x (List.mem_cons_of_mem _ hx))
    obtain ⟨hb, hb2, hb3⟩ := h b List.mem_cons_self
    have e : pc_v (b :: r) + pc_v (b :: r) / 16 = (b + b / 16 + 16 * (pc_v r % 16)) + 256 * (pc_v r + pc_v r / 16) := by
      simp only [pc_v]
      omega
    have hd := pc_d3 b hb (pc_v r % 16) (by omega)
    refine ⟨?_, by simp only [pc_v]; omega⟩
    rw [e]
    simp only [pc_m]
    rw [pc_an _ _ _ _ (by omega) (by omega), hd]
    simp only [List.map_cons, pc_v, ← ih, pc_3]
theorem cntB_add (P : Nat → Bool) (a : Nat) : ∀ k, cntB P (a + k) = cntB P a + cntB (fun i => P (a + i)) k
  | 0 => by simp [cntB]
  | k + 1 => by
    rw [← Nat.add_assoc]
    simp only [cntB, cntB_add P a k]
    omega
theorem cntB_congr {P R : Nat → Bool} : ∀ n, (∀ i, i < n → P i = R i) → cntB P n = cntB R n
  | 0, _ => rfl
  | n + 1, h => by
    simp only [cntB, cntB_congr n (fun i hi => h i (by omega)), h n (by omega)]
theorem pc_cnt : ∀ l : List Nat, (∀ b ∈ l, b < 256) → cntB (fun i => (pc_v l).testBit i) (8 * l.length) = (l.map pc_h).sum
  | [], _ => rfl
  | b :: r, h => by
    have ih := pc_cnt r (fun x hx => h x (List.mem_cons_of_mem _ hx))
    have hb := h b List.mem_cons_self
    have e1 : pc_v (b :: r) = 2 ^ 8 * pc_v r + b := by simp only [pc_v]; omega
    have e2 : 8 * (b :: r).length = 8 + 8 * r.length := by simp only [List.length_cons]; omega
    rw [e1, e2, cntB_add]
    have h1 : cntB (fun i => (2 ^ 8 * pc_v r + b).testBit i) 8 = cntB (fun i => b.testBit i) 8 := cntB_congr 8 fun i hi => by
      rw [Nat.testBit_two_pow_mul_add _ (show b < 2 ^ 8 from hb), if_pos hi]
    have h2 : cntB (fun i => (2 ^ 8 * pc_v r + b).testBit (8 + i)) (8 * r.length) = cntB (fun i => (pc_v r).testBit i) (8 * r.length) := cntB_congr _ fun i hi => by
      rw [Nat.testBit_two_pow_mul_add _ (show b < 2 ^ 8 from hb), if_neg (by omega), show 8 + i - 8 = i by omega]
    rw [h1, h2, ih, (pc_b3 b hb).2]
    simp
theorem pc_and127 (n : Nat) : nI n &&& 127 = nI (n % 128) := by
  apply Int32.toBitVec_inj.1
  rw [Int32.toBitVec_and]
  show BitVec.ofNat 32 n &&& BitVec.ofNat 32 127 = BitVec.ofNat 32 (n % 128)
  apply BitVec.eq_of_toNat_eq
  rw [BitVec.toNat_and, BitVec.toNat_ofNat, BitVec.toNat_ofNat, BitVec.toNat_ofNat]
  have := Nat.and_two_pow_sub_one_eq_mod (n % 2 ^ 32) 7
  simp at this ⊢
  omega
theorem pc_div (b : Nat) (r : List Nat) (h : b < 256) : pc_v (b :: r) / 256 = pc_v r := by
  simp only [pc_v]
  omega
theorem pc_add : ∀ l m : List Nat, l.length = m.length → pc_v l + pc_v m = pc_v (List.zipWith (· + ·) l m)
  | [], [], _ => rfl
  | a :: l, b :: m, h => by
    have ih := pc_add l m (by simpa using h)
    simp only [List.zipWith_cons_cons, pc_v, ← ih]
    omega
theorem pc_fin (p q r s t u v w : Nat) (h0 : p ≤ 8) (h1 : q ≤ 8) (h2 : r ≤ 8) (h3 : s ≤ 8) (h4 : t ≤ 8) (h5 : u ≤ 8) (h6 : v ≤ 8) (h7 : w ≤ 8) {g : Nat} (hg : pc_v [p, q, r, s, t, u, v, w] = g) :
    (g + g / 256 + (g + g / 256) / 256 / 256 + (g + g / 256 + (g + g / 256) / 256 / 256) / 256 / 256 / 256 / 256) % 128 = p + (q + (r + (s + (t + (u + (v + (w + 0))))))) := by
  have e1 : g / 256 = pc_v [q, r, s, t, u, v, w, 0] := by rw [← hg, pc_div _ _ (by omega)]; rfl
  have e2 : g + g / 256 = pc_v [p + q, q + r, r + s, s + t, t + u, u + v, v + w, w + 0] := by rw [e1, ← hg]; exact pc_add [p, q, r, s, t, u, v, w] [q, r, s, t, u, v, w, 0] rfl
  have e3 : (g + g / 256) / 256 / 256 = pc_v [r + s, s + t, t + u, u + v, v + w, w + 0, 0, 0] := by rw [e2, pc_div _ _ (by omega), pc_div _ _ (by omega)]; rfl
  have e4 : g + g / 256 + (g + g / 256) / 256 / 256 = pc_v [p + q + (r + s), q + r + (s + t), r + s + (t + u), s + t + (u + v), t + u + (v + w), u + v + (w + 0), v + w + 0, w + 0 + 0] := by rw [e3, e2]; exact pc_add [p + q, q + r, r + s, s + t, t + u, u + v, v + w, w + 0] [r + s, s + t, t + u, u + v, v + w, w + 0, 0, 0] rfl
  have e5 : (g + g / 256 + (g + g / 256) / 256 / 256) / 256 / 256 / 256 / 256 = pc_v [t + u + (v + w), u + v + (w + 0), v + w + 0, w + 0 + 0] := by rw [e4, pc_div _ _ (by omega), pc_div _ _ (by omega), pc_div _ _ (by omega), pc_div _ _ (by omega)]
  rw [e5, e4]
  simp only [pc_v]
  generalize q + r + (s + t) + 256 * _ = A
  generalize u + v + (w + 0) + 256 * _ = B
  omega
theorem pc_ex : ∀ k n : Nat, n < 256 ^ k → ∃ l : List Nat, l.length = k ∧ (∀ b ∈ l, b < 256) ∧ pc_v l = n
  | 0, n, h => ⟨[], rfl, fun b hb => by simp at hb, by simp only [pc_v]; simp at h; omega⟩
  | k + 1, n, h => by
    obtain ⟨l, h1, h2, h3⟩ := pc_ex k (n / 256) (by rw [Nat.pow_succ] at h; omega)
    refine ⟨n % 256 :: l, by simp [h1], ?_, by simp only [pc_v, h3]; omega⟩
    intro b hb
    rcases List.mem_cons.mp hb with rfl | hb
    · omega
    · exact h2 b hb
theorem pc_half : ∀ l : List Nat, (∀ b ∈ l, b < 128) → 2 * pc_v l < 256 ^ l.length
  | [], _ => by simp [pc_v]
  | b :: r, h => by
    have ih := pc_half r (fun x hx => h x (List.mem_cons_of_mem _ hx))
    have hb := h b List.mem_cons_self
    simp only [List.length_cons, Nat.pow_succ, pc_v]
    omega
theorem pc_lt : ∀ l : List Nat, (∀ b ∈ l, b < 256) → pc_v l < 256 ^ l.length
  | [], _ => by simp [pc_v]
  | b :: r, h => by
    have ih := pc_lt r (fun x hx => h x (List.mem_cons_of_mem _ hx))
    have hb := h b List.mem_cons_self
    simp only [List.length_cons, Nat.pow_succ, pc_v]
    omega
/-- what Long.bitCount works out -/
def bc_s (y : Int64) (k : Int32) : Int64 := (y.toUInt64 >>> (k.toInt64.toUInt64 &&& Int64.toUInt64 63)).toInt64
def bc_1 (x : Int64) : Int64 := x - (bc_s x (nI 1) &&& lN 6148914691236517205)
def bc_2 (x : Int64) : Int64 := (x &&& lN 3689348814741910323) + (bc_s x (nI 2) &&& lN 3689348814741910323)
def bc_3 (x : Int64) : Int64 := (x + bc_s x (nI 4)) &&& lN 1085102592571150095
def bc_4 (x : Int64) (k : Int32) : Int64 := x + bc_s x k
def bcJ (x : Int64) : Int32 := (bc_4 (bc_4 (bc_4 (bc_3 (bc_2 (bc_1 x))) (nI 8)) (nI 16)) (nI 32)).toInt32 &&& 127
theorem pc_bl {n : Nat} (hn : n < 2 ^ 64) (i : Nat) (hi : i < 64) : bl (lN n) i = n.testBit i := by
  unfold bl
  rw [wb_tb, BitVec.getLsbD_ofNat]
  simp [hi]
theorem pc_m8 {c v : Nat} (l : List Nat) (h : l.length = 8) (hv : pc_m c [0, 0, 0, 0, 0, 0, 0, 0] = v) : pc_m c l = v := by
  rw [← hv]
  match l, h with
  | [_, _, _, _, _, _, _, _], _ => rfl
theorem bcJ_ok (x : Int64) : bcJ x = nI (cntB (bl x) 64) := by
  obtain ⟨n, hn, rfl⟩ := wb_of x
  obtain ⟨l, hl8, hb, hv'⟩ := pc_ex 8 n hn
  have hv : n = pc_v l := hv'.symm
  have hc : cntB (bl (lN n)) 64 = (l.map pc_h).sum := by
    have := pc_cnt l hb
    have e8 : 8 * l.length = 64 := by rw [hl8]
    rw [e8] at this
    rw [← this, ← hv]
    exact cntB_congr 64 fun i hi => pc_bl hn i hi
  have m1 : pc_m 85 l = 6148914691236517205 := pc_m8 l hl8 (by simp [pc_m])
  have m2 : pc_m 51 l = 3689348814741910323 := pc_m8 l hl8 (by simp [pc_m])
  have m3 : pc_m 15 l = 1085102592571150095 := pc_m8 l hl8 (by simp [pc_m])
  obtain ⟨s1, s1l⟩ := pc_s1 l hb
  have hb1 : ∀ b ∈ l.map pc_1, b < 256 := fun b h => by
    obtain ⟨x, hx, rfl⟩ := List.mem_map.mp h
    exact pc_b1 x (hb x hx)
  have s2 := pc_s2 (l.map pc_1) hb1
  have hb2 : ∀ b ∈ (l.map pc_1).map pc_2, b < 80 ∧ b % 16 ≤ 4 ∧ b / 16 ≤ 4 := fun b h => by
    obtain ⟨y, hy, rfl⟩ := List.mem_map.mp h
    obtain ⟨x, hx, rfl⟩ := List.mem_map.mp hy
    exact pc_b2 x (hb x hx)
  have s3 := (pc_s3 _ hb2).1
  have hm : ∀ (c : Nat) (f : Nat → Nat) (l : List Nat), pc_m c (l.map f) = pc_m c l := by
    intro c f l
    induction l with
    | nil => rfl
    | cons a r ih => simp only [List.map_cons, pc_m, ih]
  rw [hm, m2] at s2
  rw [hm, hm, m3] at s3
  rw [m1] at s1 s1l
  rw [← hv] at s1 s1l
  have a1 : n - ((n / 2 ^ 1) &&& 6148914691236517205) = pc_v (l.map pc_1) := s1
  have p8 : (256 : Nat) ^ 8 = 2 ^ 64 := by decide
  have k1 : pc_v (l.map pc_1) < 2 ^ 64 := by
    have := pc_lt _ hb1
    rw [List.length_map, hl8, p8] at this
    exact this
  have v2 : 2 * pc_v ((l.map pc_1).map pc_2) < 2 ^ 64 := by
    have := pc_half _ (fun b hb => Nat.lt_trans (hb2 b hb).1 (by decide))
    rw [List.length_map, List.length_map, hl8, p8] at this
    exact this
  have hmap : ((l.map pc_1).map pc_2).map pc_3 = l.map pc_h := by simp only [List.map_map]; rfl
  rw [hmap] at s3
  have hh : ∀ b ∈ l.map pc_h, b ≤ 8 := fun b h => by
    obtain ⟨x, hx, rfl⟩ := List.mem_map.mp h
    exact (pc_b3 x (hb x hx)).1
  rw [hc]
  generalize hg : pc_v (l.map pc_h) = g at s3
  have hg9 : g < 2 ^ 60 := by
    rw [← s3]
    exact Nat.lt_of_le_of_lt Nat.and_le_right (by decide)
  have q1 : ∀ {y k : Nat}, y < 2 ^ 64 → k < 64 → bc_s (lN y) (nI k) = lN (y / 2 ^ k) := fun hy hk => wb_shr hy hk
  have e1 : bc_1 (lN n) = lN (pc_v (l.map pc_1)) := by
    unfold bc_1
    rw [q1 hn (by decide), wb_and (by omega) (by decide), lN_sub s1l, a1]
  have e2 : bc_2 (lN (pc_v (l.map pc_1))) = lN (pc_v ((l.map pc_1).map pc_2)) := by
    unfold bc_2
    rw [q1 k1 (by decide), wb_and k1 (by decide), wb_and (by omega) (by decide), lN_add]
    exact congrArg lN s2
  have e3 : bc_3 (lN (pc_v ((l.map pc_1).map pc_2))) = lN g := by
    unfold bc_3
    rw [q1 (by omega) (by decide), lN_add, wb_and (by omega) (by decide)]
    exact congrArg lN s3
  have e4 : ∀ {y k : Nat}, y < 2 ^ 64 → k < 64 → bc_4 (lN y) (nI k) = lN (y + y / 2 ^ k) := fun hy hk => by
    unfold bc_4
    rw [q1 hy hk, lN_add]
  have main : bcJ (lN n) = nI ((g + g / 2 ^ 8 + (g + g / 2 ^ 8) / 2 ^ 16 + (g + g / 2 ^ 8 + (g + g / 2 ^ 8) / 2 ^ 16) / 2 ^ 32) % 128) := by
    unfold bcJ
    rw [e1, e2, e3, e4 (by omega) (by decide), e4 (by omega) (by decide), e4 (by omega) (by decide), lN_i, pc_and127]
  rw [main]
  congr 1
  clear main e1 e2 e3 e4 q1 s1 s1l s2 s3 m1 m2 m3 a1 k1 v2 hmap hc hv hn hb hb1 hb2 hm hv'
  match l, hl8 with
  | [b0, b1, b2, b3, b4, b5, b6, b7], _ =>
    have d2 : ∀ x : Nat, x / 2 ^ 8 = x / 256 := fun x => rfl
    have d4 : ∀ x : Nat, x / 2 ^ 16 = x / 256 / 256 := fun x => by rw [Nat.div_div_eq_div_mul]
    have d5 : ∀ x : Nat, x / 2 ^ 32 = x / 256 / 256 / 256 / 256 := fun x => by rw [Nat.div_div_eq_div_mul, Nat.div_div_eq_div_mul, Nat.div_div_eq_div_mul]
    rw [d5, d4, d2]
    simp only [List.map_cons, List.map_nil, List.mem_cons, List.not_mem_nil, or_false] at hh
    exact pc_fin _ _ _ _ _ _ _ _ (hh _ (Or.inl rfl)) (hh _ (Or.inr (Or.inl rfl))) (hh _ (Or.inr (Or.inr (Or.inl rfl)))) (hh _ (Or.inr (Or.inr (Or.inr (Or.inl rfl))))) (hh _ (Or.inr (Or.inr (Or.inr (Or.inr (Or.inl rfl)))))) (hh _ (Or.inr (Or.inr (Or.inr (Or.inr (Or.inr (Or.inl rfl))))))) (hh _ (Or.inr (Or.inr (Or.inr (Or.inr (Or.inr (Or.inr (Or.inl rfl)))))))) (hh _ (Or.inr (Or.inr (Or.inr (Or.inr (Or.inr (Or.inr (Or.inr rfl)))))))) hg
theorem cntB_mono0 (P : Nat → Bool) (a : Nat) : ∀ k, (∀ i, a ≤ i → P i = false) → cntB P (a + k) = cntB P a
  | 0, _ => rfl
  | k + 1, h => by
    rw [← Nat.add_assoc]
    simp only [cntB, cntB_mono0 P a k h, h (a + k) (by omega)]
    simp
theorem bcJ_mkS (P : Nat → Bool) : bcJ (mkS P 40) = nI (cntB P 40) := by
  rw [bcJ_ok]
  congr 1
  have h : cntB (bl (mkS P 40)) 64 = cntB (fun i => decide (i < 40) && P i) (40 + 24) := cntB_congr 64 fun i hi => bl_mkS P i 40 (by decide)
  rw [h, cntB_mono0 _ 40 24 (fun i hi => by simp; omega)]
  exact cntB_congr 40 fun i hi => by simp [hi]
theorem t_bitCount {d L : Nat} {I : Nat → Nat → Int32} {J : Nat → Nat → Int64} {p : Nat → Nat} {Q : Option Value → am_M → Prop} (x : Int64) (h : Q (some (.int (bcJ x))) (I, J, KR p)) : T d me_J13_bitCount_95d88 [.long x] L I J p Q := by
  refine am_enter [some (.long x), none] rfl rfl rfl rfl ?_
  refine ev_lload_n (pc := 0) dJ13_bitCount_95d88_0 rfl (ev_lload_n (pc := 1) dJ13_bitCount_95d88_1 rfl (ev_iconst (pc := 2) (v := (1)) dJ13_bitCount_95d88_2 iconst_c1 (ev_lushr (pc := 3) dJ13_bitCount_95d88_3 (ev_ldc2 (pc := 4) kL_10_314 dJ13_bitCount_95d88_4 (ev_land (pc := 7) dJ13_bitCount_95d88_7 (ev_lsub (pc := 8) dJ13_bitCount_95d88_8 (ev_lstore_n (pc := 9) dJ13_bitCount_95d88_9 rfl (?_))))))))
  refine ev_lload_n (pc := 10) dJ13_bitCount_95d88_10 rfl (ev_ldc2 (pc := 11) kL_10_316 dJ13_bitCount_95d88_11 (ev_land (pc := 14) dJ13_bitCount_95d88_14 (ev_lload_n (pc := 15) dJ13_bitCount_95d88_15 rfl (ev_iconst (pc := 16) (v := (2)) dJ13_bitCount_95d88_16 iconst_c2 (ev_lushr (pc := 17) dJ13_bitCount_95d88_17 (ev_ldc2 (pc := 18) kL_10_316 dJ13_bitCount_95d88_18 (ev_land (pc := 21) dJ13_bitCount_95d88_21 (ev_ladd (pc := 22) dJ13_bitCount_95d88_22 (ev_lstore_n (pc := 23) dJ13_bitCount_95d88_23 rfl (?_))))))))))
  refine ev_lload_n (pc := 24) dJ13_bitCount_95d88_24 rfl (ev_lload_n (pc := 25) dJ13_bitCount_95d88_25 rfl (ev_iconst (pc := 26) (v := (4)) dJ13_bitCount_95d88_26 iconst_c4 (ev_lushr (pc := 27) dJ13_bitCount_95d88_27 (ev_ladd (pc := 28) dJ13_bitCount_95d88_28 (ev_ldc2 (pc := 29) kL_10_318 dJ13_bitCount_95d88_29 (ev_land (pc := 32) dJ13_bitCount_95d88_32 (ev_lstore_n (pc := 33) dJ13_bitCount_95d88_33 rfl (?_))))))))
  refine ev_lload_n (pc := 34) dJ13_bitCount_95d88_34 rfl (ev_lload_n (pc := 35) dJ13_bitCount_95d88_35 rfl (ev_bipush (pc := 36) (v := (8)) dJ13_bitCount_95d88_36 bipush_c8 (ev_lushr (pc := 38) dJ13_bitCount_95d88_38 (ev_ladd (pc := 39) dJ13_bitCount_95d88_39 (ev_lstore_n (pc := 40) dJ13_bitCount_95d88_40 rfl (?_))))))
  refine ev_lload_n (pc := 41) dJ13_bitCount_95d88_41 rfl (ev_lload_n (pc := 42) dJ13_bitCount_95d88_42 rfl (ev_bipush (pc := 43) (v := (16)) dJ13_bitCount_95d88_43 bipush_c16 (ev_lushr (pc := 45) dJ13_bitCount_95d88_45 (ev_ladd (pc := 46) dJ13_bitCount_95d88_46 (ev_lstore_n (pc := 47) dJ13_bitCount_95d88_47 rfl (?_))))))
  refine ev_lload_n (pc := 48) dJ13_bitCount_95d88_48 rfl (ev_lload_n (pc := 49) dJ13_bitCount_95d88_49 rfl (ev_bipush (pc := 50) (v := (32)) dJ13_bitCount_95d88_50 bipush_c32 (ev_lushr (pc := 52) dJ13_bitCount_95d88_52 (ev_ladd (pc := 53) dJ13_bitCount_95d88_53 (ev_lstore_n (pc := 54) dJ13_bitCount_95d88_54 rfl (?_))))))
  refine ev_lload_n (pc := 55) dJ13_bitCount_95d88_55 rfl (ev_l2i (pc := 56) dJ13_bitCount_95d88_56 (ev_bipush (pc := 57) (v := (127)) dJ13_bitCount_95d88_57 bipush_c127 (ev_iand (pc := 59) dJ13_bitCount_95d88_59 (ev_iret (pc := 60) dJ13_bitCount_95d88_60 rfl ?_))))
  exact h
