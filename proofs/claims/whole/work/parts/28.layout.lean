/-! ===== what the layouts take: pages that are free, apart, as many as asked ===== -/
theorem rnP_congr {P R : Nat → Bool} : ∀ n, (∀ j, j < n → P j = R j) → rnP P n = rnP R n
  | 0, _ => rfl
  | n + 1, h => by simp only [rnP, rnP_congr n (fun j hj => h j (by omega)), h n (by omega)]
theorem mxP_congr {P R : Nat → Bool} : ∀ n, (∀ j, j < n → P j = R j) → mxP P n = mxP R n
  | 0, _ => rfl
  | n + 1, h => by simp only [mxP, mxP_congr n (fun j hj => h j (by omega)), rnP_congr (n + 1) h]
theorem lrF_congr {P R : Nat → Bool} {len : Nat} : ∀ n i, (∀ j, j < i + n → P j = R j) → lrF P len n i = lrF R len n i
  | 0, i, _ => rfl
  | n + 1, i, h => by simp only [lrF, rnP_congr (i + 1) (fun j hj => h j (by omega)), lrF_congr n (i + 1) (fun j hj => h j (by omega))]
theorem tkR_congr {P R : Nat → Bool} {len : Nat} : ∀ n i ps, (∀ j, j < i + n → P j = R j) → tkR P len n i ps = tkR R len n i ps
  | 0, i, ps, _ => rfl
  | n + 1, i, ps, h => by
    have ih := fun ps => tkR_congr (len := len) n (i + 1) ps (fun j hj => h j (by omega))
    simp only [tkR, ih, h i (by omega)]
theorem tkF_congr {P R : Nat → Bool} {len : Nat} : ∀ n ps, (∀ j, j < n → P j = R j) → tkF P len n ps = tkF R len n ps
  | 0, ps, _ => rfl
  | n + 1, ps, h => by
    have ih := fun ps => tkF_congr (len := len) n ps (fun j hj => h j (by omega))
    simp only [tkF, ih, h n (by omega)]
theorem lrF_le {P : Nat → Bool} {len m : Nat} (h : lrF P len 40 0 = some m) : m ≤ 40 := by
  have := lrF_lt _ _ _ _ _ h
  omega
theorem chC_congr {P R : Nat → Bool} {len lay : Nat} (h : ∀ j, j < 40 → P j = R j) : chC P len lay = chC R len lay := by
  unfold chC
  have e1 : lrF P len 40 0 = lrF R len 40 0 := lrF_congr 40 0 (fun j hj => h j (by omega))
  have e2 : tkF P len 40 [] = tkF R len 40 [] := tkF_congr 40 [] h
  rw [e1, e2]
  by_cases c : lay = 2
  · rw [if_pos c, if_pos c]
  · rw [if_neg c, if_neg c]
    cases hq : lrF R len 40 0 with
    | none => exact tkR_congr _ _ _ (fun j hj => h j (by split at hj <;> simp at hj <;> omega))
    | some m =>
      have hm := lrF_le hq
      exact tkR_congr _ _ _ (fun j hj => h j (by split at hj <;> simp at hj <;> omega))
theorem rnP_all (P : Nat → Bool) : ∀ n k, k < rnP P n → P (n - 1 - k) = true
  | 0, k, h => by simp [rnP] at h
  | n + 1, k, h => by
    simp only [rnP] at h
    split at h
    · rename_i c
      cases k with
      | zero => simpa using c
      | succ k =>
        have := rnP_all P n k (by omega)
        rw [show n + 1 - 1 - (k + 1) = n - 1 - k by omega]
        exact this
    · omega
theorem lrF_run {P : Nat → Bool} {len : Nat} : ∀ n i m, lrF P len n i = some m → m + len ≤ i + n ∧ ∀ k, k < len → P (m + k) = true
  | 0, i, m, h => by simp [lrF] at h
  | n + 1, i, m, h => by
    simp only [lrF] at h
    split at h
    · rename_i c
      cases h
      have hl := rnP_le P (i + 1)
      refine ⟨by omega, fun k hk => ?_⟩
      have := rnP_all P (i + 1) (len - 1 - k) (by omega)
      rw [show i + 1 - len + k = i + 1 - 1 - (len - 1 - k) by omega]
      exact this
    · obtain ⟨h1, h2⟩ := lrF_run n (i + 1) m h
      exact ⟨by omega, h2⟩
theorem cntB_all {P : Nat → Bool} : ∀ n, (∀ k, k < n → P k = true) → cntB P n = n
  | 0, _ => rfl
  | n + 1, h => by simp only [cntB, cntB_all n (fun k hk => h k (by omega)), h n (by omega)]; rfl
theorem cntB_mono (P : Nat → Bool) {a b : Nat} (h : a ≤ b) : cntB P a ≤ cntB P b := by
  obtain ⟨k, rfl⟩ : ∃ k, b = a + k := ⟨b - a, by omega⟩
  rw [cntB_add]
  omega
theorem tkR_ok {P : Nat → Bool} {len : Nat} : ∀ n i ps, ps.Nodup → (∀ q ∈ ps, q < i) → ps.length ≤ len →
    (tkR P len n i ps).Nodup ∧ (∀ q ∈ tkR P len n i ps, q ∈ ps ∨ (i ≤ q ∧ q < i + n ∧ P q = true)) ∧ (tkR P len n i ps).length ≤ len ∧ (len ≤ ps.length + cntB (fun k => P (i + k)) n → (tkR P len n i ps).length = len) ∧ (ps.length + cntB (fun k => P (i + k)) n < len → (tkR P len n i ps).length < len)
  | 0, i, ps, h1, h2, h3 => ⟨h1, fun q hq => Or.inl hq, h3, fun h => by simp only [cntB] at h; simp only [tkR]; omega, fun h => by simp only [cntB] at h; simp only [tkR]; omega⟩
  | n + 1, i, ps, h1, h2, h3 => by
    have hc : cntB (fun k => P (i + k)) (n + 1) = (if P i then 1 else 0) + cntB (fun k => P (i + 1 + k)) n := by
      rw [show n + 1 = 1 + n by omega, cntB_add]
      simp only [cntB, Nat.add_zero, Nat.zero_add]
      congr 1
      exact cntB_congr n (fun k _ => by rw [Nat.add_assoc])
    simp only [tkR]
    by_cases c : len ≤ ps.length
    · rw [if_pos c]
      exact ⟨h1, fun q hq => Or.inl hq, h3, fun _ => by omega, fun _ => by omega⟩
    · rw [if_neg c]
      by_cases c2 : P i = true
      · rw [if_pos c2]
        rw [if_pos c2] at hc
        have hni : i ∉ ps := fun q => by have := h2 i q; omega
        obtain ⟨g1, g2, g3, g4, g5⟩ := tkR_ok (P := P) (len := len) n (i + 1) (ps ++ [i]) (List.nodup_append.mpr ⟨h1, by simp, fun a ha b hb => by rw [List.mem_singleton.mp hb]; exact fun e => hni (e ▸ ha)⟩) (fun q hq => by
          rcases List.mem_append.mp hq with hq | hq
          · have := h2 q hq; omega
          · rw [List.mem_singleton.mp hq]; omega) (by simp; omega)
        refine ⟨g1, fun q hq => ?_, g3, fun h => g4 ?_, fun h => g5 ?_⟩
        · rcases g2 q hq with h | h
          · rcases List.mem_append.mp h with h | h
            · exact Or.inl h
            · rw [List.mem_singleton.mp h]; exact Or.inr ⟨by omega, by omega, c2⟩
          · exact Or.inr ⟨by omega, by omega, h.2.2⟩
        · simp only [List.length_append, List.length_cons, List.length_nil]; omega
        · simp only [List.length_append, List.length_cons, List.length_nil]; omega
      · rw [if_neg c2]
        rw [if_neg c2] at hc
        obtain ⟨g1, g2, g3, g4, g5⟩ := tkR_ok (P := P) (len := len) n (i + 1) ps h1 (fun q hq => by have := h2 q hq; omega) h3
        exact ⟨g1, fun q hq => (g2 q hq).imp id (fun h => ⟨by omega, by omega, h.2.2⟩), g3, fun h => g4 (by omega), fun h => g5 (by omega)⟩
theorem tkF_ok {P : Nat → Bool} {len : Nat} : ∀ n ps, ps.Nodup → (∀ q ∈ ps, n ≤ q) → ps.length ≤ len →
    (tkF P len n ps).Nodup ∧ (∀ q ∈ tkF P len n ps, q ∈ ps ∨ (q < n ∧ P q = true)) ∧ (tkF P len n ps).length ≤ len ∧ (len ≤ ps.length + cntB P n → (tkF P len n ps).length = len) ∧ (ps.length + cntB P n < len → (tkF P len n ps).length < len)
  | 0, ps, h1, h2, h3 => ⟨h1, fun q hq => Or.inl hq, h3, fun h => by simp only [cntB] at h; simp only [tkF]; omega, fun h => by simp only [cntB] at h; simp only [tkF]; omega⟩
  | n + 1, ps, h1, h2, h3 => by
    simp only [tkF, cntB]
    by_cases c : len ≤ ps.length
    · rw [if_pos c]
      exact ⟨h1, fun q hq => Or.inl hq, h3, fun _ => by omega, fun _ => by omega⟩
    · rw [if_neg c]
      by_cases c2 : P n = true
      · rw [if_pos c2, if_pos c2]
        have hni : n ∉ ps := fun q => by have := h2 n q; omega
        obtain ⟨g1, g2, g3, g4, g5⟩ := tkF_ok (P := P) (len := len) n (ps ++ [n]) (List.nodup_append.mpr ⟨h1, by simp, fun a ha b hb => by rw [List.mem_singleton.mp hb]; exact fun e => hni (e ▸ ha)⟩) (fun q hq => by
          rcases List.mem_append.mp hq with hq | hq
          · have := h2 q hq; omega
          · rw [List.mem_singleton.mp hq]; omega) (by simp; omega)
        refine ⟨g1, fun q hq => ?_, g3, fun h => g4 ?_, fun h => g5 ?_⟩
        · rcases g2 q hq with h | h
          · rcases List.mem_append.mp h with h | h
            · exact Or.inl h
            · rw [List.mem_singleton.mp h]; exact Or.inr ⟨by omega, c2⟩
          · exact Or.inr ⟨by omega, h.2⟩
        · simp only [List.length_append, List.length_cons, List.length_nil]; omega
        · simp only [List.length_append, List.length_cons, List.length_nil]; omega
      · rw [if_neg c2, if_neg c2]
        obtain ⟨g1, g2, g3, g4, g5⟩ := tkF_ok (P := P) (len := len) n ps h1 (fun q hq => by have := h2 q hq; omega) h3
        exact ⟨g1, fun q hq => (g2 q hq).imp id (fun h => ⟨by omega, h.2⟩), g3, fun h => g4 (by omega), fun h => g5 (by omega)⟩
/-- pages of a row: apart, below 40, each has it -/
def rowOK (P : Nat → Bool) (ps : List Nat) : Prop := ps.Nodup ∧ ∀ q ∈ ps, q < 40 ∧ P q = true
theorem rowOK.lt {P : Nat → Bool} {ps : List Nat} (h : rowOK P ps) : ∀ i, i < ps.length → ps.getD i 0 < 40 := fun i hi => (h.2 _ (getD_mem hi)).1
theorem rowOK.inj {P : Nat → Bool} {ps : List Nat} (h : rowOK P ps) : ∀ i j, i < ps.length → j < ps.length → ps.getD i 0 = ps.getD j 0 → i = j := by
  intro i j hi hj e
  simp only [List.getD_eq_getElem?_getD, List.getElem?_eq_getElem hi, List.getElem?_eq_getElem hj, Option.getD_some] at e
  have hp := List.pairwise_iff_getElem.mp h.1
  rcases Nat.lt_trichotomy i j with c | c | c
  · exact absurd e (hp i j hi hj c)
  · exact c
  · exact absurd e.symm (hp j i hj hi c)
theorem chC_ok {P : Nat → Bool} {len lay : Nat} (hc : len ≤ cntB P 40) : rowOK P (chC P len lay) ∧ (chC P len lay).length = len := by
  unfold chC
  by_cases c : lay = 2
  · rw [if_pos c]
    obtain ⟨g1, g2, g3, g4, g5⟩ := tkF_ok (P := P) (len := len) 40 [] List.nodup_nil (fun q hq => by simp at hq) (by simp)
    exact ⟨⟨g1, fun q hq => (g2 q hq).elim (fun h => by simp at h) id⟩, g4 (by simpa using hc)⟩
  · rw [if_neg c]
    have base : rowOK P (tkR P len (40 - 0) 0 []) ∧ (tkR P len (40 - 0) 0 []).length = len := by
      obtain ⟨g1, g2, g3, g4, g5⟩ := tkR_ok (P := P) (len := len) 40 0 [] List.nodup_nil (fun q hq => by simp at hq) (by simp)
      refine ⟨⟨g1, fun q hq => (g2 q hq).elim (fun h => by simp at h) (fun h => ⟨by omega, h.2.2⟩)⟩, g4 ?_⟩
      simp only [List.length_nil, Nat.zero_add]
      exact hc
    by_cases c1 : lay = 1
    · rw [if_pos c1]
      cases hq : lrF P len 40 0 with
      | none => exact base
      | some m =>
        obtain ⟨m1, m2⟩ := lrF_run 40 0 m hq
        obtain ⟨g1, g2, g3, g4, g5⟩ := tkR_ok (P := P) (len := len) (40 - m) m [] List.nodup_nil (fun q hq => by simp at hq) (by simp)
        refine ⟨⟨g1, fun q hq => (g2 q hq).elim (fun h => by simp at h) (fun h => ⟨by omega, h.2.2⟩)⟩, g4 ?_⟩
        have e1 := cntB_all (P := fun k => P (m + k)) len m2
        have e2 := cntB_mono (fun k => P (m + k)) (show len ≤ 40 - m by omega)
        simp only [List.length_nil, Nat.zero_add]
        omega
    · rw [if_neg c1]
      exact base
theorem chC_no {P : Nat → Bool} {len lay : Nat} (hc : cntB P 40 < len) : (chC P len lay).length < len := by
  unfold chC
  by_cases c : lay = 2
  · rw [if_pos c]
    exact (tkF_ok (P := P) (len := len) 40 [] List.nodup_nil (fun q hq => by simp at hq) (by simp)).2.2.2.2 (by simpa using hc)
  · rw [if_neg c]
    have base : (tkR P len (40 - 0) 0 []).length < len := (tkR_ok (P := P) (len := len) 40 0 [] List.nodup_nil (fun q hq => by simp at hq) (by simp)).2.2.2.2 (by simp only [List.length_nil, Nat.zero_add]; exact hc)
    by_cases c1 : lay = 1
    · rw [if_pos c1]
      cases hq : lrF P len 40 0 with
      | none => exact base
      | some m =>
        obtain ⟨m1, m2⟩ := lrF_run 40 0 m hq
        have e1 := cntB_all (P := fun k => P (m + k)) len m2
        have e2 := cntB_add P m len
        have e3 := cntB_mono P (show m + len ≤ 40 by omega)
        omega
    · rw [if_neg c1]
      exact base
