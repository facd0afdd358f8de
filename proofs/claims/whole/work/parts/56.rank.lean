/-! ===== ranks: counting who is ahead sorts as inserting does ===== -/
def flP (P : Nat → Bool) : Nat → List Nat
  | 0 => []
  | n + 1 => if P n then flP P n ++ [n] else flP P n
def cL (R : Nat → Bool) : List Nat → Nat
  | [] => 0
  | a :: l => (if R a then 1 else 0) + cL R l
def sL (f : Nat → Int32) : List Nat → Int32
  | [] => 0
  | a :: l => f a + sL f l
def bfo (sc : Nat → Int32) (y x : Nat) : Bool := decide (sc x < sc y) || (decide (y < x) && decide (sc y = sc x))
theorem cL_app {R : Nat → Bool} {b : List Nat} : ∀ a : List Nat, cL R (a ++ b) = cL R a + cL R b
  | [] => (Nat.zero_add _).symm
  | x :: a => by
    show (if R x then 1 else 0) + cL R (a ++ b) = (if R x then 1 else 0) + cL R a + cL R b
    rw [cL_app a]
    omega
theorem cL_ins {R : Nat → Bool} {sc : Nat → Int32} {x : Nat} : ∀ l : List Nat, cL R (insG sc x l) = (if R x then 1 else 0) + cL R l
  | [] => rfl
  | y :: l => by
    simp only [insG]
    by_cases c : sc y < sc x
    · rw [if_pos c]; rfl
    · rw [if_neg c]
      show (if R y then 1 else 0) + cL R (insG sc x l) = (if R x then 1 else 0) + ((if R y then 1 else 0) + cL R l)
      rw [cL_ins l]
      omega
theorem cL_fl {R P : Nat → Bool} {sc : Nat → Int32} : ∀ n, cL R (flP P n) = cL R (gsL sc P n)
  | 0 => rfl
  | n + 1 => by
    simp only [flP, gsL]
    by_cases c : P n = true
    · rw [if_pos c, if_pos c, cL_app, cL_ins, cL_fl (sc := sc) n]
      show _ + ((if R n then 1 else 0) + 0) = _
      omega
    · rw [if_neg c, if_neg c]
      exact cL_fl n
theorem sL_app {f : Nat → Int32} {b : List Nat} : ∀ a : List Nat, sL f (a ++ b) = sL f a + sL f b
  | [] => (Int32.zero_add _).symm
  | x :: a => by
    show f x + sL f (a ++ b) = f x + sL f a + sL f b
    rw [sL_app a, Int32.add_assoc]
theorem sL_ins {f sc : Nat → Int32} {x : Nat} : ∀ l : List Nat, sL f (insG sc x l) = f x + sL f l
  | [] => rfl
  | y :: l => by
    simp only [insG]
    by_cases c : sc y < sc x
    · rw [if_pos c]; rfl
    · rw [if_neg c]
      show f y + sL f (insG sc x l) = f x + (f y + sL f l)
      rw [sL_ins l, ← Int32.add_assoc, ← Int32.add_assoc, Int32.add_comm (f y)]
theorem sL_fl {f sc : Nat → Int32} {P : Nat → Bool} : ∀ n, sL f (flP P n) = sL f (gsL sc P n)
  | 0 => rfl
  | n + 1 => by
    simp only [flP, gsL]
    by_cases c : P n = true
    · rw [if_pos c, if_pos c, sL_app, sL_ins, sL_fl (sc := sc) n, Int32.add_comm]
      show f n + 0 + _ = _
      rw [Int32.add_zero]
    · rw [if_neg c, if_neg c]
      exact sL_fl n
theorem foldl_sL {f : Nat → Int32} : ∀ (l : List Nat) (a : Int32), (l.map f).foldl (· + ·) a = a + sL f l
  | [], a => (Int32.add_zero a).symm
  | x :: l, a => by
    show (l.map f).foldl (· + ·) (a + f x) = a + (f x + sL f l)
    rw [foldl_sL l, Int32.add_assoc]
theorem cntB_cL {R : Nat → Bool} {l : List Nat} : ∀ n, n ≤ l.length → cntB (fun k => R (l.getD k 0)) n = cL R (l.take n)
  | 0, _ => by simp [cntB, cL]
  | n + 1, hn => by
    have e : l.take (n + 1) = l.take n ++ [l.getD n 0] := by
      rw [List.take_succ_eq_append_getElem (by omega)]
      simp [List.getD_eq_getElem?_getD, show n < l.length by omega]
    rw [e, cL_app]
    show cntB (fun k => R (l.getD k 0)) n + (if R (l.getD n 0) then 1 else 0) = _ + ((if R (l.getD n 0) then 1 else 0) + 0)
    rw [cntB_cL n (by omega)]
    omega
theorem cnt_all {R : Nat → Bool} {l : List Nat} : cntB (fun k => R (l.getD k 0)) l.length = cL R l := by
  rw [cntB_cL _ (Nat.le_refl _), List.take_length]
theorem sum_cL {f : Nat → Int32} {l : List Nat} : ∀ n, n < l.length → sL f (l.take (n + 1)) = sL f (l.take n) + f (l.getD n 0) := fun n hn => by
  have e : l.take (n + 1) = l.take n ++ [l.getD n 0] := by
    rw [List.take_succ_eq_append_getElem hn]
    simp [List.getD_eq_getElem?_getD, hn]
  rw [e, sL_app]
  show _ + (f (l.getD n 0) + 0) = _
  rw [Int32.add_zero]
theorem cL_0 {R : Nat → Bool} : ∀ {l : List Nat}, (∀ y ∈ l, R y = false) → cL R l = 0
  | [], _ => rfl
  | a :: l, h => by
    show (if R a then 1 else 0) + cL R l = 0
    rw [if_neg (by rw [h a List.mem_cons_self]; decide), cL_0 fun y hy => h y (List.mem_cons_of_mem _ hy)]
theorem bfo_as {sc : Nat → Int32} {x y : Nat} (h : bfo sc x y = true) : bfo sc y x = false := by
  unfold bfo at h ⊢
  simp only [Bool.or_eq_true, Bool.and_eq_true, decide_eq_true_eq, Bool.or_eq_false_iff, Bool.and_eq_false_iff, decide_eq_false_iff_not, Int32.lt_iff_toInt_lt, ← Int32.toInt_inj] at h ⊢
  omega
theorem bfo_rf {sc : Nat → Int32} {x : Nat} : bfo sc x x = false := by
  unfold bfo
  simp only [Bool.or_eq_false_iff, Bool.and_eq_false_iff, decide_eq_false_iff_not, Int32.lt_iff_toInt_lt]
  omega
theorem rank {sc : Nat → Int32} : ∀ {l : List Nat}, l.Pairwise (fun y x => bfo sc y x = true) → ∀ k, k < l.length → cL (fun y => bfo sc y (l.getD k 0)) l = k
  | [], _, k, hk => by simp at hk
  | a :: t, h, k, hk => by
    obtain ⟨h1, h2⟩ := List.pairwise_cons.mp h
    cases k with
    | zero =>
      show (if bfo sc a a then 1 else 0) + cL (fun y => bfo sc y a) t = 0
      rw [bfo_rf, if_neg (by decide), cL_0 fun y hy => bfo_as (h1 y hy)]
    | succ k =>
      have hk' : k < t.length := by simpa using hk
      show (if bfo sc a (t.getD k 0) then 1 else 0) + cL (fun y => bfo sc y (t.getD k 0)) t = k + 1
      rw [if_pos (h1 _ (getD_mem hk')), rank h2 k hk']
      omega
theorem pw_ins {sc : Nat → Int32} {x : Nat} : ∀ {l : List Nat}, l.Pairwise (fun y x => bfo sc y x = true) → (∀ y ∈ l, y < x) → (insG sc x l).Pairwise (fun y x => bfo sc y x = true)
  | [], _, _ => by simp [insG]
  | y :: l, h, hx => by
    obtain ⟨h1, h2⟩ := List.pairwise_cons.mp h
    simp only [insG]
    have hy := hx y List.mem_cons_self
    by_cases c : sc y < sc x
    · rw [if_pos c]
      refine List.pairwise_cons.mpr ⟨fun z hz => ?_, h⟩
      rcases List.mem_cons.mp hz with e | hz
      · subst e
        unfold bfo
        rw [decide_eq_true c, Bool.true_or]
      · have := h1 z hz
        unfold bfo at this ⊢
        simp only [Bool.or_eq_true, Bool.and_eq_true, decide_eq_true_eq, Int32.lt_iff_toInt_lt, ← Int32.toInt_inj] at this c ⊢
        omega
    · rw [if_neg c]
      refine List.pairwise_cons.mpr ⟨fun z hz => ?_, pw_ins h2 fun z hz => hx z (List.mem_cons_of_mem _ hz)⟩
      rcases insG_mem.mp hz with e | hz
      · subst e
        unfold bfo
        simp only [Bool.or_eq_true, Bool.and_eq_true, decide_eq_true_eq, Int32.lt_iff_toInt_lt, ← Int32.toInt_inj] at c ⊢
        omega
      · exact h1 z hz
theorem pw_gs {sc : Nat → Int32} {P : Nat → Bool} : ∀ n, (gsL sc P n).Pairwise (fun y x => bfo sc y x = true)
  | 0 => by simp [gsL]
  | n + 1 => by
    simp only [gsL]
    split
    · exact pw_ins (pw_gs n) fun y hy => (gsL_mem.mp hy).1
    · exact pw_gs n
theorem fl_mem {P : Nat → Bool} {y : Nat} : ∀ {n : Nat}, y ∈ flP P n ↔ y < n ∧ P y = true
  | 0 => by simp [flP]
  | n + 1 => by
    simp only [flP]
    by_cases c : P n = true
    · rw [if_pos c, List.mem_append, List.mem_singleton, fl_mem (n := n)]
      constructor
      · rintro (⟨h1, h2⟩ | rfl)
        · exact ⟨by omega, h2⟩
        · exact ⟨by omega, c⟩
      · rintro ⟨h1, h2⟩
        by_cases e : y = n
        · exact Or.inr e
        · exact Or.inl ⟨by omega, h2⟩
    · rw [if_neg c, fl_mem (n := n)]
      constructor
      · rintro ⟨h1, h2⟩; exact ⟨by omega, h2⟩
      · rintro ⟨h1, h2⟩
        refine ⟨?_, h2⟩
        by_cases e : y = n
        · exact absurd (e ▸ h2) c
        · omega
theorem fl_len {P : Nat → Bool} : ∀ n, (flP P n).length = cntB P n
  | 0 => rfl
  | n + 1 => by
    simp only [flP, cntB]
    by_cases c : P n = true
    · rw [if_pos c, if_pos c, List.length_append, fl_len n]
      rfl
    · rw [if_neg c, if_neg c, fl_len n]
      rfl
theorem fl_asc {P : Nat → Bool} : ∀ n i j, i < j → j < (flP P n).length → (flP P n).getD i 0 < (flP P n).getD j 0
  | 0, i, j, _, hj => by simp [flP] at hj
  | n + 1, i, j, hij, hj => by
    have ih := fl_asc (P := P) n i j hij
    simp only [flP] at hj ⊢
    by_cases c : P n = true
    · rw [if_pos c] at hj ⊢
      simp only [List.length_append, List.length_cons, List.length_nil] at hj
      have ga : ∀ k, k < (flP P n).length → (flP P n ++ [n]).getD k 0 = (flP P n).getD k 0 := fun k hk => by
        simp only [List.getD_eq_getElem?_getD]
        rw [List.getElem?_append_left hk]
      by_cases e : j = (flP P n).length
      · have gb : (flP P n ++ [n]).getD j 0 = n := by rw [e]; simp [List.getD_eq_getElem?_getD]
        rw [gb, ga i (by omega)]
        exact (fl_mem.mp (getD_mem (show i < (flP P n).length by omega))).1
      · rw [ga i (by omega), ga j (by omega)]
        exact ih (by omega)
    · rw [if_neg c] at hj ⊢
      exact ih hj
theorem fl_app {P : Nat → Bool} {n k : Nat} (hk : k < (flP P n).length) : (flP P n ++ [n]).getD k 0 = (flP P n).getD k 0 := by
  simp only [List.getD_eq_getElem?_getD]
  rw [List.getElem?_append_left hk]
