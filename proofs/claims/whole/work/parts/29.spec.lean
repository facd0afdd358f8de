/-! ===== a disk as one row of numbers (as the reference has it), and what the orders do to it ===== -/
def fD (D : Nat → Int32) (j : Nat) : Bool := decide (D (160 + j) = -1)
def zD (D : Nat → Int32) : Nat := (D 248).toNatClampNeg
def uD (D : Nat → Int32) (i : Nat) (v : Int32) : Nat → Int32 := fun k => if k = i then v else D k
def Rep (I : Nat → Nat → Int32) (b : Nat) (D : Nat → Int32) : Prop :=
  (∀ j, j < 40 → I (b + 1) j = D j ∧ (D j ≠ 0 → I (b + 2) j = D (40 + j)) ∧ (D j = 1 → I (b + 3) j = D (80 + j)) ∧ I (b + 4) j = D (120 + j) ∧ I (b + 5) j = D (160 + j)) ∧
  (∀ n, n < 30 → I (b + 6) n = D (200 + n)) ∧ I (b + 7) 3 = D 248 ∧
  (∀ k, k < 6 → k < zD D → I (b + 8) k = D (230 + 3 * k) ∧ I (b + 9) k = D (231 + 3 * k) ∧ I (b + 10) k = D (232 + 3 * k)) ∧
  I b 7 = D 249 ∧ I b 8 = D 250 ∧ I b 9 = D 251
/-- a file's pages, in a row -/
def fileD (D : Nat → Int32) (n : Nat) (ps : List Nat) : Prop := 1 ≤ ps.length ∧ ps.length ≤ 12 ∧ D (200 + n) = nI (ps.getD 0 0) ∧ D (ps.getD 0 0) = 1 ∧ D (80 + ps.getD 0 0) = nI ps.length ∧
  ∀ i, i < ps.length → ps.getD i 0 < 40 ∧ D (160 + ps.getD i 0) = nI n ∧ D (120 + ps.getD i 0) = if i + 1 < ps.length then nI (ps.getD (i + 1) 0) else -1
def wfD (D : Nat → Int32) : Prop :=
  (∀ j, j < 40 → (D j = 0 ∨ D j = 1 ∨ D j = 2) ∧ (D j ≠ 0 → ∃ s, s < 10 ∧ D (40 + j) = nI s) ∧ (D j = 1 → ∃ l, 1 ≤ l ∧ l ≤ 12 ∧ D (80 + j) = nI l) ∧ (D (120 + j) = -1 ∨ ∃ q, q < 40 ∧ D (120 + j) = nI q) ∧ (D (160 + j) = -1 ∨ ∃ n, n < 30 ∧ D (160 + j) = nI n) ∧ (D j = 0 → D (120 + j) = -1)) ∧
  (∀ n, n < 30 → D (200 + n) = -1 ∨ ∃ ps, fileD D n ps) ∧
  (D 248 = nI (zD D) ∧ zD D ≤ 6 ∧ ∀ k, k < zD D → (∃ n, n < 30 ∧ D (230 + 3 * k) = nI n) ∧ (∃ q, q < 40 ∧ D (231 + 3 * k) = nI q) ∧ ∃ s, s < 10 ∧ D (232 + 3 * k) = nI s)
/-- the place of a page in a row -/
def ixL (ps : List Nat) (j : Nat) : Option Nat := fstP (fun i => decide (ps.getD i 0 = j)) ps.length 0
def laysD (D : Nat → Int32) (nm : Nat) (sty : Int32) (ps : List Nat) : Nat → Int32 := fun i =>
  if i < 200 then match ixL ps (i % 40) with
    | none => D i
    | some k => if i < 40 then (if k = 0 then 1 else 2) else if i < 80 then sty else if i < 120 then nI ps.length else if i < 160 then (if k + 1 < ps.length then nI (ps.getD (k + 1) 0) else -1) else nI nm
  else if i = 200 + nm then nI (ps.getD 0 0) else D i
def wrS (D : Nat → Int32) (nm : Nat) (sty : Int32) (len lay : Nat) : Int32 × (Nat → Int32) :=
  if D (200 + nm) ≠ -1 then (-1000002, D) else if cntB (fD D) 40 < len then (-1000003, D)
  else (nI ((chC (fD D) len lay).getD 0 0), uD (laysD D nm sty (chC (fD D) len lay)) 249 (D 249 + 1))
def relD (D : Nat → Int32) (nm : Nat) : Nat → Int32 := fun i =>
  if 160 ≤ i ∧ i < 200 then (if D i = nI nm then -1 else D i)
  else if i = 200 + nm then -1
  else if i = 248 then nI (if 6 < zD D + 1 then 6 else zD D + 1)
  else if i = 230 then nI nm else if i = 231 then D (200 + nm) else if i = 232 then D (40 + (D (200 + nm)).toNatClampNeg)
  else if 233 ≤ i ∧ i < 248 then D (i - 3) else D i
def dlS (D : Nat → Int32) (nm : Nat) : Int32 × (Nat → Int32) :=
  if D (200 + nm) = -1 then (-1000002, D) else (nI (cntB (fD (relD D nm)) 40), uD (relD D nm) 250 (D 250 + 1))
def wpD (D : Nat → Int32) (j : Nat) : Nat → Int32 := uD (uD D j 0) (120 + j) (-1)
def wpS (D : Nat → Int32) (j : Nat) : Int32 × (Nat → Int32) := if D (160 + j) ≠ -1 then (-1000002, D) else (D j, wpD D j)
/-! guesses -/
def okD (D : Nat → Int32) (fr : Nat → Bool) (s : Int32) (j : Nat) : Bool := fr j && decide (D j = 2) && decide (D (40 + j) = s)
def lnD (D : Nat → Int32) (i : Nat) : Nat := (D (80 + i)).toNatClampNeg
def gdD (D : Nat → Int32) (fr : Nat → Bool) (i : Nat) : List Nat × Nat × Nat := gsT (fun j => D (120 + j)) (okD D fr (D (40 + i))) (lnD D i - 1) [i] i 0 0
def pgD (D : Nat → Int32) (fr : Nat → Bool) (i : Nat) : List Nat := (gdD D fr i).1
def jwD (D : Nat → Int32) (f s : Int32) : Option Nat := fstP (fun k => decide (D (231 + 3 * k) = f) && decide (D (232 + 3 * k) = s)) (zD D) 0
def jsD (D : Nat → Int32) (s : Int32) : Option Nat := fstP (fun k => decide (D (232 + 3 * k) = s)) (zD D) 0
def nmD (D : Nat → Int32) (i : Nat) : Option Nat := match jwD D (nI i) (D (40 + i)) with
  | some k => some k
  | none => jsD D (D (40 + i))
def scD (D : Nat → Int32) (fr : Nat → Bool) (i : Nat) : Int32 := scI (gdD D fr i).2.1 (gdD D fr i).2.2 (nI (lnD D i) - nI (pgD D fr i).length) (jwD D (nI i) (D (40 + i))).isSome
def fpD (D : Nat → Int32) (fr : Nat → Bool) (i : Nat) : Bool := fr i && decide (D i = 1)
def glD (D : Nat → Int32) (fr : Nat → Bool) : List Nat := gsL (scD D fr) (fpD D fr) 40
/-- the name under which a guess is claimed: a number below 30, if it has one -/
def itsD (D : Nat → Int32) (f : Nat) (nm : Int32) : Int32 := if nm = -1 then (nmD D f).elim (-1) (fun k => D (230 + 3 * k)) else nm
def clS (D : Nat → Int32) (g : Nat) (nm : Int32) : Int32 × (Nat → Int32) :=
  if (glD D (fD D)).length ≤ g then (-1000002, D)
  else if itsD D ((glD D (fD D)).getD g 0) nm = -1 ∨ D (200 + (itsD D ((glD D (fD D)).getD g 0) nm).toNatClampNeg) ≠ -1 then (-1000002, D)
  else (nI (pgD D (fD D) ((glD D (fD D)).getD g 0)).length, uD (laysD D (itsD D ((glD D (fD D)).getD g 0) nm).toNatClampNeg (D (40 + (glD D (fD D)).getD g 0)) (pgD D (fD D) ((glD D (fD D)).getD g 0))) 251 (D 251 + 1))
/-! facts -/
theorem ixL_some {ps : List Nat} {j k : Nat} (h : ixL ps j = some k) : k < ps.length ∧ ps.getD k 0 = j := by
  obtain ⟨h1, h2, h3⟩ := fstP_some h
  exact ⟨by omega, by simpa using h3⟩
theorem fstP_none {P : Nat → Bool} : ∀ {n i : Nat}, fstP P n i = none → ∀ k, i ≤ k → k < i + n → P k = false
  | 0, i, h, k, h1, h2 => by omega
  | n + 1, i, h, k, h1, h2 => by
    simp only [fstP] at h
    split at h
    · cases h
    · rename_i c
      by_cases e : k = i
      · subst e
        simpa using c
      · exact fstP_none h k (by omega) (by omega)
theorem ixL_none {ps : List Nat} {j : Nat} (h : ixL ps j = none) : ∀ k, k < ps.length → ps.getD k 0 ≠ j := by
  intro k hk
  have := fstP_none h k (by omega) (by omega)
  simpa using this
theorem ixL_at {P : Nat → Bool} {ps : List Nat} (h : rowOK P ps) {k : Nat} (hk : k < ps.length) : ixL ps (ps.getD k 0) = some k := by
  cases hq : ixL ps (ps.getD k 0) with
  | none => exact absurd rfl (ixL_none hq k hk)
  | some m =>
    obtain ⟨m1, m2⟩ := ixL_some hq
    rw [h.inj m k m1 hk m2]
theorem fstP_congr {P R : Nat → Bool} : ∀ n i, (∀ k, i ≤ k → k < i + n → P k = R k) → fstP P n i = fstP R n i
  | 0, i, _ => rfl
  | n + 1, i, h => by
    simp only [fstP, h i (by omega) (by omega), fstP_congr n (i + 1) (fun k h1 h2 => h k (by omega) (by omega))]
theorem gsP_congr {ok ok' : Nat → Bool} {ps : List Nat} {q : Int32} (h : ∀ j, j < 40 → ok j = ok' j) : gsP ok ps q = gsP ok' ps q := by
  cases h1 : gsP ok ps q with
  | some j =>
    obtain ⟨a, b, c, e⟩ := gsP_some h1
    unfold gsP at h1 ⊢
    rw [b, ix_n a (by decide)] at h1 ⊢
    simp only [Option.bind_some] at h1 ⊢
    rw [← h j a]
    exact h1.symm
  | none =>
    cases h2 : gsP ok' ps q with
    | none => rfl
    | some j =>
      obtain ⟨a, b, c, e⟩ := gsP_some h2
      unfold gsP at h1 h2
      rw [b, ix_n a (by decide)] at h1 h2
      simp only [Option.bind_some] at h1 h2
      rw [h j a, h2] at h1
      cases h1
theorem gsT_congr {nx nx' : Nat → Int32} {ok ok' : Nat → Bool} (hn : ∀ j, j < 40 → nx j = nx' j) (ho : ∀ j, j < 40 → ok j = ok' j) : ∀ n ps l c b, l < 40 → gsT nx ok n ps l c b = gsT nx' ok' n ps l c b
  | 0, ps, l, c, b, hl => rfl
  | n + 1, ps, l, c, b, hl => by
    simp only [gsT]
    rw [hn l hl, gsP_congr (q := nx' l) ho, gsP_congr (q := nI l + 1) ho]
    cases h1 : gsP ok' ps (nx' l) with
    | some j => exact gsT_congr hn ho n _ _ _ _ (gsP_some h1).1
    | none =>
      cases h2 : gsP ok' ps (nI l + 1) with
      | some j => exact gsT_congr hn ho n _ _ _ _ (gsP_some h2).1
      | none => rfl
theorem gsL_congr {sc sc' : Nat → Int32} {P P' : Nat → Bool} : ∀ n, (∀ i, i < n → P i = P' i) → (∀ i, i < n → P i = true → sc i = sc' i) → gsL sc P n = gsL sc' P' n
  | 0, _, _ => rfl
  | n + 1, hP, hs => by
    have ih := gsL_congr n (fun i hi => hP i (by omega)) (fun i hi => hs i (by omega))
    simp only [gsL]
    rw [← hP n (by omega), ih]
    by_cases c : P n = true
    · rw [if_pos c, if_pos c]
      have hm : ∀ (l : List Nat), (∀ y ∈ l, sc y = sc' y) → insG sc n l = insG sc' n l := by
        intro l
        induction l with
        | nil => intro _; rfl
        | cons y l ih2 =>
          intro h
          simp only [insG]
          rw [h y List.mem_cons_self, hs n (by omega) c, ih2 (fun z hz => h z (List.mem_cons_of_mem _ hz))]
      exact hm _ fun y hy => by
        obtain ⟨y1, y2⟩ := gsL_mem.mp hy
        exact hs y (by omega) (by rw [hP y (by omega)]; exact y2)
    · rw [if_neg c, if_neg c]
/-- pages of a traced guess: apart, below 40, each has it -/
theorem gsT_row {nx : Nat → Int32} {ok P : Nat → Bool} (hok : ∀ j, ok j = true → P j = true) : ∀ n ps l c b, rowOK P ps → rowOK P (gsT nx ok n ps l c b).1 ∧ ps.length ≤ (gsT nx ok n ps l c b).1.length ∧ (gsT nx ok n ps l c b).1.length ≤ ps.length + n ∧ (1 ≤ ps.length → (gsT nx ok n ps l c b).1.getD 0 0 = ps.getD 0 0) ∧ (gsT nx ok n ps l c b).2.1 ≤ c + n ∧ (gsT nx ok n ps l c b).2.2 ≤ b + n
  | 0, ps, l, c, b, h => ⟨h, Nat.le_refl _, Nat.le_refl _, fun _ => rfl, Nat.le_refl _, Nat.le_refl _⟩
  | n + 1, ps, l, c, b, h => by
    have push : ∀ j q, gsP ok ps q = some j → rowOK P (ps ++ [j]) := by
      intro j q hj
      obtain ⟨a1, a2, a3, a4⟩ := gsP_some hj
      refine ⟨List.nodup_append.mpr ⟨h.1, by simp, fun a ha b hb => by rw [List.mem_singleton.mp hb]; exact fun e => a4 (e ▸ ha)⟩, fun q hq => ?_⟩
      rcases List.mem_append.mp hq with hq | hq
      · exact h.2 q hq
      · rw [List.mem_singleton.mp hq]; exact ⟨a1, hok _ a3⟩
    have g0 : ∀ j, 1 ≤ ps.length → (ps ++ [j]).getD 0 0 = ps.getD 0 0 := by
      intro j hp
      simp only [List.getD_eq_getElem?_getD]
      rw [List.getElem?_append_left (by omega)]
    simp only [gsT]
    cases h1 : gsP ok ps (nx l) with
    | some j =>
      dsimp only
      obtain ⟨g1, g2, g3, g4, g5, g6⟩ := gsT_row (nx := nx) hok n (ps ++ [j]) j (c + 1) b (push j _ h1)
      simp only [List.length_append, List.length_cons, List.length_nil] at g2 g3 g4
      exact ⟨g1, by omega, by omega, fun hp => (g4 (by omega)).trans (g0 j hp), by omega, by omega⟩
    | none =>
      cases h2 : gsP ok ps (nI l + 1) with
      | some j =>
        dsimp only
        obtain ⟨g1, g2, g3, g4, g5, g6⟩ := gsT_row (nx := nx) hok n (ps ++ [j]) j c (b + 1) (push j _ h2)
        simp only [List.length_append, List.length_cons, List.length_nil] at g2 g3 g4
        exact ⟨g1, by omega, by omega, fun hp => (g4 (by omega)).trans (g0 j hp), by omega, by omega⟩
      | none =>
        dsimp only
        exact ⟨h, by omega, by omega, fun _ => rfl, by omega, by omega⟩
