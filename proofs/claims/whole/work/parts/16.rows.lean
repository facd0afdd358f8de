/-! ===== rows of pages (room: cells 80, 81; the traced guess's row: 15, 16) ===== -/
def rowIs (I : Nat → Nat → Int32) (a b : Nat) (ps : List Nat) : Prop := I a 1 = nI ps.length ∧ ps.length ≤ 12 ∧ ∀ k, k < ps.length → I b k = nI (ps.getD k 0)
def tkR (P : Nat → Bool) (len : Nat) : Nat → Nat → List Nat → List Nat
  | 0, _, ps => ps
  | n + 1, i, ps => if len ≤ ps.length then ps else tkR P len n (i + 1) (if P i then ps ++ [i] else ps)
def tkF (P : Nat → Bool) (len : Nat) : Nat → List Nat → List Nat
  | 0, ps => ps
  | n + 1, ps => if len ≤ ps.length then ps else tkF P len n (if P n then ps ++ [n] else ps)
/-- the pages that a layout takes -/
def chC (P : Nat → Bool) (len lay : Nat) : List Nat := if lay = 2 then tkF P len 40 [] else tkR P len (40 - (if lay = 1 then (lrF P len 40 0).getD 0 else 0)) (if lay = 1 then (lrF P len 40 0).getD 0 else 0) []
/-- the pages of a row as a set, the first n of them -/
def stS (ps : List Nat) : Nat → Int64
  | 0 => 0
  | n + 1 => stS ps n ||| ((1 : Int64) <<< ((nI (ps.getD n 0)).toInt64 &&& 63))
theorem bl_stS {ps : List Nat} (h : ∀ q ∈ ps, q < 40) (i : Nat) : ∀ n, n ≤ ps.length → bl (stS ps n) i = decide (i ∈ ps.take n)
  | 0, _ => by simp [stS, bl_0]
  | n + 1, hn => by
    have ih := bl_stS h i n (by omega)
    have hg : ps.getD n 0 = ps[n]'(by omega) := by simp [List.getD_eq_getElem?_getD, show n < ps.length by omega]
    have hq : ps.getD n 0 < 40 := by rw [hg]; exact h _ (List.getElem_mem _)
    have key : i ∈ ps.take (n + 1) ↔ i ∈ ps.take n ∨ i = ps[n]'(by omega) := by rw [List.take_succ_eq_append_getElem (by omega), List.mem_append, List.mem_singleton]
    simp only [stS]
    rw [bl_or, ih, bl_one (by omega), hg, Bool.eq_iff_iff]
    simp only [Bool.or_eq_true, decide_eq_true_eq, key]
theorem rowIs_push {I : Nat → Nat → Int32} {a b : Nat} {ps : List Nat} (hab : a ≠ b) (h : rowIs I a b ps) (hl : ps.length < 12) (q : Nat) : rowIs (ui (ui I b ps.length (nI q)) a 1 (nI (ps.length + 1))) a b (ps ++ [q]) := by
  obtain ⟨h1, h2, h3⟩ := h
  refine ⟨by simp [ui], by simp; omega, fun k hk => ?_⟩
  simp only [List.length_append, List.length_cons, List.length_nil] at hk
  simp only [ui, Ne.symm hab, false_and, if_false]
  by_cases e : k = ps.length
  · subst e
    simp [List.getD_eq_getElem?_getD]
  · rw [if_neg (fun q => e q.2), h3 k (by omega)]
    simp [List.getD_eq_getElem?_getD, List.getElem?_append_left (show k < ps.length by omega)]
theorem rowIs_nil {I : Nat → Nat → Int32} {a b : Nat} : rowIs (ui I a 1 0) a b [] := ⟨by simp [ui]; rfl, by simp, fun k hk => by simp at hk⟩
theorem rowIs_of {I I' : Nat → Nat → Int32} {a b : Nat} {ps : List Nat} (h : rowIs I a b ps) (ha : I' a = I a) (hb : I' b = I b) : rowIs I' a b ps := by
  unfold rowIs
  rw [ha, hb]
  exact h
section T16
variable {d L : Nat} {I : Nat → Nat → Int32} {J : Nat → Nat → Int64} {p : Nat → Nat} {Q : Option Value → am_M → Prop}
theorem t_rm_empty (h : Q none (ui I 80 1 0, J, KR p)) : T d me_X5_empty [.ref 80] L I J p Q := by
  refine am_enter [some (.ref 80)] rfl rfl rfl rfl ?_
  refine ev_aload_n (pc := 0) dX5_empty_0 rfl (ev_iconst (pc := 1) (v := (0)) dX5_empty_1 iconst_c0 (ev_puti (pc := 2) kF_5_15 dX5_empty_2 rfl rfl rfl rfl rfl (ev_vret (pc := 5) dX5_empty_5 rfl ?_)))
  exact h
theorem t_rm_at {ps : List Nat} (hr : rowIs I 80 81 ps) {k : Nat} (hk : k ≤ 12) (h : Q (some (.int (if k < ps.length then nI (ps.getD k 0) else -1))) (I, J, KR p)) : T d me_X5_at [.ref 80, .int (nI k)] L I J p Q := by
  obtain ⟨r1, r2, r3⟩ := hr
  refine am_enter [some (.ref 80), some (.int (nI k))] rfl rfl rfl rfl ?_
  refine ev_iload_n (pc := 0) dX5_at_0 rfl (ev_if_lt (pc := 1) 27 dX5_at_1 (by decide) (kt := fun c => absurd c (nI_pos (by omega))) (kf := fun c1 => ev_iload_n (pc := 4) dX5_at_4 rfl (ev_aload_n (pc := 5) dX5_at_5 rfl (ev_geti (pc := 6) kF_5_15 dX5_at_6 rfl rfl (ev_ncmp_ge (pc := 9) 27 (k) (ps.length) dX5_at_9 (by decide) (rfl) (r1) (by omega) (by omega) (fun c9 => ?_) (fun c9 => ?_))))))
  · rw [if_neg (by omega)] at h
    refine ev_iconst (pc := 27) (v := (-1)) dX5_at_27 iconst_cm1 (ev_iret (pc := 28) dX5_at_28 rfl ?_)
    exact h
  · rw [if_pos c9] at h
    refine ev_iload_n (pc := 12) dX5_at_12 rfl (ev_bipush (pc := 13) (v := (12)) dX5_at_13 bipush_c12 (ev_ncmp_ge (pc := 15) 27 (k) (12) dX5_at_15 (by decide) (rfl) (rfl) (by omega) (by omega) (kt := fun c => absurd c (by omega)) (kf := fun c15 => ev_aload_n (pc := 18) dX5_at_18 rfl (ev_getr (pc := 19) kF_5_9 dX5_at_19 rfl rfl rfl (ev_iload_n (pc := 22) dX5_at_22 rfl (ev_iald (pc := 23) (i := k) dX5_at_23 rfl (rfl) (by omega) rfl (ev_goto (pc := 24) 28 dX5_at_24 (by decide) (ev_iret (pc := 28) dX5_at_28 rfl ?_))))))))
    rw [r3 k c9]
    exact h
theorem t_rm_add {ps : List Nat} (hr : rowIs I 80 81 ps) (hl : ps.length < 12) (x : Int32) (h : Q none (ui (ui I 81 ps.length x) 80 1 (nI (ps.length + 1)), J, KR p)) : T d me_X5_add [.ref 80, .int x] L I J p Q := by
  obtain ⟨r1, r2, r3⟩ := hr
  refine am_enter [some (.ref 80), some (.int x)] rfl rfl rfl rfl ?_
  refine ev_aload_n (pc := 0) dX5_add_0 rfl (ev_geti (pc := 1) kF_5_15 dX5_add_1 rfl rfl (ev_if_lt (pc := 4) 36 dX5_add_4 (by decide) (kt := fun c => absurd c (by rw [r1]; exact nI_pos (by omega))) (kf := fun c4 => ev_aload_n (pc := 7) dX5_add_7 rfl (ev_geti (pc := 8) kF_5_15 dX5_add_8 rfl rfl (ev_bipush (pc := 11) (v := (12)) dX5_add_11 bipush_c12 (ev_ncmp_ge (pc := 13) 36 (ps.length) (12) dX5_add_13 (by decide) (r1) (rfl) (by omega) (by omega) (kt := fun c => absurd c (by omega)) (kf := fun c13 => ev_aload_n (pc := 16) dX5_add_16 rfl (ev_getr (pc := 17) kF_5_9 dX5_add_17 rfl rfl rfl (ev_aload_n (pc := 20) dX5_add_20 rfl (ev_geti (pc := 21) kF_5_15 dX5_add_21 rfl rfl (ev_iload_n (pc := 24) dX5_add_24 rfl (ev_iast (pc := 25) (i := ps.length) dX5_add_25 rfl rfl (r1) (by omega) rfl (ev_aload_n (pc := 26) dX5_add_26 rfl (ev_dup (pc := 27) dX5_add_27 rfl (ev_geti (pc := 28) kF_5_15 dX5_add_28 rfl rfl (ev_iconst (pc := 31) (v := (1)) dX5_add_31 iconst_c1 (ev_iadd (pc := 32) dX5_add_32 (ev_puti (pc := 33) kF_5_15 dX5_add_33 rfl rfl rfl rfl rfl (ev_vret (pc := 36) dX5_add_36 rfl ?_)))))))))))))))))))
  have e : ui I 81 ps.length x 80 1 + 1 = nI (ps.length + 1) := by
    show (if 80 = 81 ∧ 1 = ps.length then x else I 80 1) + 1 = _
    rw [if_neg (by omega), r1]
    exact nI_1 _
  rw [e]
  exact h
theorem lp_rm_set {ps : List Nat} (hr : rowIs I 80 81 ps) : ∀ (n k : Nat) (S : Int64), k + n = ps.length → S = stS ps k → Q (some (.long (stS ps ps.length))) (I, J, KR p) → E me_X5_set d L 4 [some (.ref 80), some (.long S), none, some (.int (nI k))] [] I J p Q
  | 0, k, S, hk, hS, h => by
    have r2 := hr.2.1
    refine ev_iload_n (pc := 4) dX5_set_4 rfl (ev_aload_n (pc := 5) dX5_set_5 rfl (ev_geti (pc := 6) kF_5_15 dX5_set_6 rfl rfl (ev_ncmp_ge (pc := 9) 35 (k) (ps.length) dX5_set_9 (by decide) (rfl) (hr.1) (by omega) (by omega) (kf := fun c => absurd c (by omega)) (kt := fun c9 => ev_lload_n (pc := 35) dX5_set_35 rfl (ev_lret (pc := 36) dX5_set_36 rfl ?_)))))
    rw [hS, show k = ps.length by omega]
    exact h
  | n + 1, k, S, hk, hS, h => by
    have r2 := hr.2.1
    refine ev_iload_n (pc := 4) dX5_set_4 rfl (ev_aload_n (pc := 5) dX5_set_5 rfl (ev_geti (pc := 6) kF_5_15 dX5_set_6 rfl rfl (ev_ncmp_ge (pc := 9) 35 (k) (ps.length) dX5_set_9 (by decide) (rfl) (hr.1) (by omega) (by omega) (kt := fun c => absurd c (by omega)) (kf := fun c9 => ev_iload_n (pc := 12) dX5_set_12 rfl (ev_bipush (pc := 13) (v := (12)) dX5_set_13 bipush_c12 (ev_ncmp_ge (pc := 15) 35 (k) (12) dX5_set_15 (by decide) (rfl) (rfl) (by omega) (by omega) (kt := fun c => absurd c (by omega)) (kf := fun c15 => ev_lload_n (pc := 18) dX5_set_18 rfl (ev_lconst (pc := 19) (v := 1) dX5_set_19 rfl (ev_aload_n (pc := 20) dX5_set_20 rfl (ev_getr (pc := 21) kF_5_9 dX5_set_21 rfl rfl rfl (ev_iload_n (pc := 24) dX5_set_24 rfl (ev_iald (pc := 25) (i := k) dX5_set_25 rfl (rfl) (by omega) rfl (?_)))))))))))))
    rw [hr.2.2 k (by omega)]
    refine ev_lshl (pc := 26) dX5_set_26 (ev_lor (pc := 27) dX5_set_27 (ev_lstore_n (pc := 28) dX5_set_28 rfl (ev_iinc (pc := 29) dX5_set_29 rfl (iinc_1 _) rfl (ev_goto (pc := 32) 4 dX5_set_32 (by decide) (?_)))))
    exact lp_rm_set hr n (k + 1) _ (by omega) (by rw [hS]; rfl) h
theorem t_rm_set {ps : List Nat} (hr : rowIs I 80 81 ps) (h : Q (some (.long (stS ps ps.length))) (I, J, KR p)) : T d me_X5_set [.ref 80] L I J p Q := by
  refine am_enter [some (.ref 80), none, none, none] rfl rfl rfl rfl ?_
  refine ev_lconst (pc := 0) (v := 0) dX5_set_0 rfl (ev_lstore_n (pc := 1) dX5_set_1 rfl (ev_iconst (pc := 2) (v := (0)) dX5_set_2 iconst_c0 (ev_istore_n (pc := 3) dX5_set_3 rfl (?_))))
  exact lp_rm_set hr ps.length 0 0 (by omega) rfl h
theorem t_tr_empty (h : Q none (ui I 15 1 0, J, KR p)) : T d me_X5_empty [.ref 15] L I J p Q := by
  refine am_enter [some (.ref 15)] rfl rfl rfl rfl ?_
  refine ev_aload_n (pc := 0) dX5_empty_0 rfl (ev_iconst (pc := 1) (v := (0)) dX5_empty_1 iconst_c0 (ev_puti (pc := 2) kF_5_15 dX5_empty_2 rfl rfl rfl rfl rfl (ev_vret (pc := 5) dX5_empty_5 rfl ?_)))
  exact h
theorem t_tr_at {ps : List Nat} (hr : rowIs I 15 16 ps) {k : Nat} (hk : k ≤ 12) (h : Q (some (.int (if k < ps.length then nI (ps.getD k 0) else -1))) (I, J, KR p)) : T d me_X5_at [.ref 15, .int (nI k)] L I J p Q := by
  obtain ⟨r1, r2, r3⟩ := hr
  refine am_enter [some (.ref 15), some (.int (nI k))] rfl rfl rfl rfl ?_
  refine ev_iload_n (pc := 0) dX5_at_0 rfl (ev_if_lt (pc := 1) 27 dX5_at_1 (by decide) (kt := fun c => absurd c (nI_pos (by omega))) (kf := fun c1 => ev_iload_n (pc := 4) dX5_at_4 rfl (ev_aload_n (pc := 5) dX5_at_5 rfl (ev_geti (pc := 6) kF_5_15 dX5_at_6 rfl rfl (ev_ncmp_ge (pc := 9) 27 (k) (ps.length) dX5_at_9 (by decide) (rfl) (r1) (by omega) (by omega) (fun c9 => ?_) (fun c9 => ?_))))))
  · rw [if_neg (by omega)] at h
    refine ev_iconst (pc := 27) (v := (-1)) dX5_at_27 iconst_cm1 (ev_iret (pc := 28) dX5_at_28 rfl ?_)
    exact h
  · rw [if_pos c9] at h
    refine ev_iload_n (pc := 12) dX5_at_12 rfl (ev_bipush (pc := 13) (v := (12)) dX5_at_13 bipush_c12 (ev_ncmp_ge (pc := 15) 27 (k) (12) dX5_at_15 (by decide) (rfl) (rfl) (by omega) (by omega) (kt := fun c => absurd c (by omega)) (kf := fun c15 => ev_aload_n (pc := 18) dX5_at_18 rfl (ev_getr (pc := 19) kF_5_9 dX5_at_19 rfl rfl rfl (ev_iload_n (pc := 22) dX5_at_22 rfl (ev_iald (pc := 23) (i := k) dX5_at_23 rfl (rfl) (by omega) rfl (ev_goto (pc := 24) 28 dX5_at_24 (by decide) (ev_iret (pc := 28) dX5_at_28 rfl ?_))))))))
    rw [r3 k c9]
    exact h
theorem t_tr_add {ps : List Nat} (hr : rowIs I 15 16 ps) (hl : ps.length < 12) (x : Int32) (h : Q none (ui (ui I 16 ps.length x) 15 1 (nI (ps.length + 1)), J, KR p)) : T d me_X5_add [.ref 15, .int x] L I J p Q := by
  obtain ⟨r1, r2, r3⟩ := hr
  refine am_enter [some (.ref 15), some (.int x)] rfl rfl rfl rfl ?_
  refine ev_aload_n (pc := 0) dX5_add_0 rfl (ev_geti (pc := 1) kF_5_15 dX5_add_1 rfl rfl (ev_if_lt (pc := 4) 36 dX5_add_4 (by decide) (kt := fun c => absurd c (by rw [r1]; exact nI_pos (by omega))) (kf := fun c4 => ev_aload_n (pc := 7) dX5_add_7 rfl (ev_geti (pc := 8) kF_5_15 dX5_add_8 rfl rfl (ev_bipush (pc := 11) (v := (12)) dX5_add_11 bipush_c12 (ev_ncmp_ge (pc := 13) 36 (ps.length) (12) dX5_add_13 (by decide) (r1) (rfl) (by omega) (by omega) (kt := fun c => absurd c (by omega)) (kf := fun c13 => ev_aload_n (pc := 16) dX5_add_16 rfl (ev_getr (pc := 17) kF_5_9 dX5_add_17 rfl rfl rfl (ev_aload_n (pc := 20) dX5_add_20 rfl (ev_geti (pc := 21) kF_5_15 dX5_add_21 rfl rfl (ev_iload_n (pc := 24) dX5_add_24 rfl (ev_iast (pc := 25) (i := ps.length) dX5_add_25 rfl rfl (r1) (by omega) rfl (ev_aload_n (pc := 26) dX5_add_26 rfl (ev_dup (pc := 27) dX5_add_27 rfl (ev_geti (pc := 28) kF_5_15 dX5_add_28 rfl rfl (ev_iconst (pc := 31) (v := (1)) dX5_add_31 iconst_c1 (ev_iadd (pc := 32) dX5_add_32 (ev_puti (pc := 33) kF_5_15 dX5_add_33 rfl rfl rfl rfl rfl (ev_vret (pc := 36) dX5_add_36 rfl ?_)))))))))))))))))))
  have e : ui I 16 ps.length x 15 1 + 1 = nI (ps.length + 1) := by
    show (if 15 = 16 ∧ 1 = ps.length then x else I 15 1) + 1 = _
    rw [if_neg (by omega), r1]
    exact nI_1 _
  rw [e]
  exact h
theorem lp_tr_set {ps : List Nat} (hr : rowIs I 15 16 ps) : ∀ (n k : Nat) (S : Int64), k + n = ps.length → S = stS ps k → Q (some (.long (stS ps ps.length))) (I, J, KR p) → E me_X5_set d L 4 [some (.ref 15), some (.long S), none, some (.int (nI k))] [] I J p Q
  | 0, k, S, hk, hS, h => by
    have r2 := hr.2.1
    refine ev_iload_n (pc := 4) dX5_set_4 rfl (ev_aload_n (pc := 5) dX5_set_5 rfl (ev_geti (pc := 6) kF_5_15 dX5_set_6 rfl rfl (ev_ncmp_ge (pc := 9) 35 (k) (ps.length) dX5_set_9 (by decide) (rfl) (hr.1) (by omega) (by omega) (kf := fun c => absurd c (by omega)) (kt := fun c9 => ev_lload_n (pc := 35) dX5_set_35 rfl (ev_lret (pc := 36) dX5_set_36 rfl ?_)))))
    rw [hS, show k = ps.length by omega]
    exact h
  | n + 1, k, S, hk, hS, h => by
    have r2 := hr.2.1
    refine ev_iload_n (pc := 4) dX5_set_4 rfl (ev_aload_n (pc := 5) dX5_set_5 rfl (ev_geti (pc := 6) kF_5_15 dX5_set_6 rfl rfl (ev_ncmp_ge (pc := 9) 35 (k) (ps.length) dX5_set_9 (by decide) (rfl) (hr.1) (by omega) (by omega) (kt := fun c => absurd c (by omega)) (kf := fun c9 => ev_iload_n (pc := 12) dX5_set_12 rfl (ev_bipush (pc := 13) (v := (12)) dX5_set_13 bipush_c12 (ev_ncmp_ge (pc := 15) 35 (k) (12) dX5_set_15 (by decide) (rfl) (rfl) (by omega) (by omega) (kt := fun c => absurd c (by omega)) (kf := fun c15 => ev_lload_n (pc := 18) dX5_set_18 rfl (ev_lconst (pc := 19) (v := 1) dX5_set_19 rfl (ev_aload_n (pc := 20) dX5_set_20 rfl (ev_getr (pc := 21) kF_5_9 dX5_set_21 rfl rfl rfl (ev_iload_n (pc := 24) dX5_set_24 rfl (ev_iald (pc := 25) (i := k) dX5_set_25 rfl (rfl) (by omega) rfl (?_)))))))))))))
    rw [hr.2.2 k (by omega)]
    refine ev_lshl (pc := 26) dX5_set_26 (ev_lor (pc := 27) dX5_set_27 (ev_lstore_n (pc := 28) dX5_set_28 rfl (ev_iinc (pc := 29) dX5_set_29 rfl (iinc_1 _) rfl (ev_goto (pc := 32) 4 dX5_set_32 (by decide) (?_)))))
    exact lp_tr_set hr n (k + 1) _ (by omega) (by rw [hS]; rfl) h
theorem t_tr_set {ps : List Nat} (hr : rowIs I 15 16 ps) (h : Q (some (.long (stS ps ps.length))) (I, J, KR p)) : T d me_X5_set [.ref 15] L I J p Q := by
  refine am_enter [some (.ref 15), none, none, none] rfl rfl rfl rfl ?_
  refine ev_lconst (pc := 0) (v := 0) dX5_set_0 rfl (ev_lstore_n (pc := 1) dX5_set_1 rfl (ev_iconst (pc := 2) (v := (0)) dX5_set_2 iconst_c0 (ev_istore_n (pc := 3) dX5_set_3 rfl (?_))))
  exact lp_tr_set hr ps.length 0 0 (by omega) rfl h
theorem frP_of {I I' : Nat → Nat → Int32} (h : I' 7 = I 7) : frP I' = frP I := by
  unfold frP
  rw [h]
theorem lp_takeRising (hd : 1 ≤ d) (fr : Value) (len : Nat) (hlen : len ≤ 12) : ∀ (n i : Nat) (ps : List Nat) (I1 : Nat → Nat → Int32), i + n = 40 → rowIs I1 80 81 ps → (∀ a, a ≠ 80 → a ≠ 81 → I1 a = I a) → (∀ I', rowIs I' 80 81 (tkR (frP I) len n i ps) → (∀ a, a ≠ 80 → a ≠ 81 → I' a = I a) → Q none (I', J, KR p)) → E me_X5_takeRising d L 3 [some (.ref 80), some (.ref 2), some fr, some (.int (nI len)), some (.int (nI i))] [] I1 J p Q
  | 0, i, ps, I1, hi, hr, hI, h => by
    refine ev_iload (pc := 3) dX5_takeRising_3 rfl (ev_bipush (pc := 5) (v := (40)) dX5_takeRising_5 bipush_c40 (ev_ncmp_ge (pc := 7) 39 (i) (40) dX5_takeRising_7 (by decide) (rfl) (rfl) (by omega) (by omega) (kf := fun c => absurd c (by omega)) (kt := fun c7 => ev_vret (pc := 39) dX5_takeRising_39 rfl ?_)))
    exact h I1 hr hI
  | n + 1, i, ps, I1, hi, hr, hI, h => by
    have r2 := hr.2.1
    simp only [tkR] at h
    refine ev_iload (pc := 3) dX5_takeRising_3 rfl (ev_bipush (pc := 5) (v := (40)) dX5_takeRising_5 bipush_c40 (ev_ncmp_ge (pc := 7) 39 (i) (40) dX5_takeRising_7 (by decide) (rfl) (rfl) (by omega) (by omega) (kt := fun c => absurd c (by omega)) (kf := fun c7 => ev_aload_n (pc := 10) dX5_takeRising_10 rfl (ev_geti (pc := 11) kF_5_15 dX5_takeRising_11 rfl rfl (ev_iload_n (pc := 14) dX5_takeRising_14 rfl (ev_ncmp_ge (pc := 15) 39 (ps.length) (len) dX5_takeRising_15 (by decide) (hr.1) (rfl) (by omega) (by omega) (fun c15 => ?_) (fun c15 => ?_)))))))
    · rw [if_pos c15] at h
      refine ev_vret (pc := 39) dX5_takeRising_39 rfl ?_
      exact h I1 hr hI
    · rw [if_neg (by omega)] at h
      refine ev_aload_n (pc := 18) dX5_takeRising_18 rfl (ev_iload (pc := 19) dX5_takeRising_19 rfl (ev_invV (pc := 21) kV_5_36 dX5_takeRising_21 rfl rfl rfl (by omega) rfl ?_))
      refine t_isFree_n (by omega) ?_
      rw [frP_of (hI 7 (by decide) (by decide))]
      refine ev_ifb_eq (pc := 24) 33 dX5_takeRising_24 (by decide) (fun c24 => ?_) (fun c24 => ?_)
      · refine ev_iinc (pc := 33) dX5_takeRising_33 rfl (iinc_1 _) rfl (ev_goto (pc := 36) 3 dX5_takeRising_36 (by decide) (?_))
        rw [c24] at h
        exact lp_takeRising hd fr len hlen n (i + 1) ps I1 (by omega) hr hI h
      · refine ev_aload_n (pc := 27) dX5_takeRising_27 rfl (ev_iload (pc := 28) dX5_takeRising_28 rfl (ev_invV (pc := 30) kV_5_40 dX5_takeRising_30 rfl rfl rfl (by omega) rfl ?_))
        refine t_rm_add hr (by omega) _ ?_
        refine ev_iinc (pc := 33) dX5_takeRising_33 rfl (iinc_1 _) rfl (ev_goto (pc := 36) 3 dX5_takeRising_36 (by decide) (?_))
        rw [c24] at h
        refine lp_takeRising hd fr len hlen n (i + 1) (ps ++ [i]) _ (by omega) (rowIs_push (by decide) hr (by omega) i) (fun a h1 h2 => ?_) h
        funext j
        simp only [ui, h1, h2, false_and, if_false, hI a h1 h2]
theorem t_takeRising (hd : 2 ≤ d) {from_ len : Nat} (hf : from_ ≤ 40) (hlen : len ≤ 12) (hr : rowIs I 80 81 []) (h : ∀ I', rowIs I' 80 81 (tkR (frP I) len (40 - from_) from_ []) → (∀ a, a ≠ 80 → a ≠ 81 → I' a = I a) → Q none (I', J, KR p)) : T d me_X5_takeRising [.ref 80, .ref 2, .int (nI from_), .int (nI len)] L I J p Q := by
  refine am_enter [some (.ref 80), some (.ref 2), some (.int (nI from_)), some (.int (nI len)), none] rfl rfl rfl rfl ?_
  refine ev_iload_n (pc := 0) dX5_takeRising_0 rfl (ev_istore (pc := 1) dX5_takeRising_1 rfl (?_))
  exact lp_takeRising (by omega) _ len hlen (40 - from_) from_ [] I (by omega) hr (fun _ _ _ => rfl) h
theorem lp_takeFalling (hd : 1 ≤ d) (len : Nat) (hlen : len ≤ 12) : ∀ (n : Nat) (ps : List Nat) (I1 : Nat → Nat → Int32), n ≤ 40 → rowIs I1 80 81 ps → (∀ a, a ≠ 80 → a ≠ 81 → I1 a = I a) → (∀ I', rowIs I' 80 81 (tkF (frP I) len n ps) → (∀ a, a ≠ 80 → a ≠ 81 → I' a = I a) → Q none (I', J, KR p)) → E me_X5_takeFalling d L 3 [some (.ref 80), some (.ref 2), some (.int (nI len)), some (.int (nI n - 1))] [] I1 J p Q
  | 0, ps, I1, hn, hr, hI, h => by
    refine ev_iload_n (pc := 3) dX5_takeFalling_3 rfl (ev_if_lt (pc := 4) 34 dX5_takeFalling_4 (by decide) (kf := fun c => absurd (by decide) c) (kt := fun c4 => ev_vret (pc := 34) dX5_takeFalling_34 rfl ?_))
    exact h I1 hr hI
  | n + 1, ps, I1, hn, hr, hI, h => by
    have r2 := hr.2.1
    simp only [tkF] at h
    rw [nI_pred]
    refine ev_iload_n (pc := 3) dX5_takeFalling_3 rfl (ev_if_lt (pc := 4) 34 dX5_takeFalling_4 (by decide) (kt := fun c => absurd c (nI_pos (by omega))) (kf := fun c4 => ev_aload_n (pc := 7) dX5_takeFalling_7 rfl (ev_geti (pc := 8) kF_5_15 dX5_takeFalling_8 rfl rfl (ev_iload_n (pc := 11) dX5_takeFalling_11 rfl (ev_ncmp_ge (pc := 12) 34 (ps.length) (len) dX5_takeFalling_12 (by decide) (hr.1) (rfl) (by omega) (by omega) (fun c12 => ?_) (fun c12 => ?_))))))
    · rw [if_pos c12] at h
      refine ev_vret (pc := 34) dX5_takeFalling_34 rfl ?_
      exact h I1 hr hI
    · rw [if_neg (by omega)] at h
      refine ev_aload_n (pc := 15) dX5_takeFalling_15 rfl (ev_iload_n (pc := 16) dX5_takeFalling_16 rfl (ev_invV (pc := 17) kV_5_36 dX5_takeFalling_17 rfl rfl rfl (by omega) rfl ?_))
      refine t_isFree_n (by omega) ?_
      rw [frP_of (hI 7 (by decide) (by decide))]
      refine ev_ifb_eq (pc := 20) 28 dX5_takeFalling_20 (by decide) (fun c20 => ?_) (fun c20 => ?_)
      · refine ev_iinc (pc := 28) dX5_takeFalling_28 rfl ( iinc_m _) rfl (ev_goto (pc := 31) 3 dX5_takeFalling_31 (by decide) (?_))
        rw [c20] at h
        exact lp_takeFalling hd len hlen n ps I1 (by omega) hr hI h
      · refine ev_aload_n (pc := 23) dX5_takeFalling_23 rfl (ev_iload_n (pc := 24) dX5_takeFalling_24 rfl (ev_invV (pc := 25) kV_5_40 dX5_takeFalling_25 rfl rfl rfl (by omega) rfl ?_))
        refine t_rm_add hr (by omega) _ ?_
        refine ev_iinc (pc := 28) dX5_takeFalling_28 rfl ( iinc_m _) rfl (ev_goto (pc := 31) 3 dX5_takeFalling_31 (by decide) (?_))
        rw [c20] at h
        refine lp_takeFalling hd len hlen n (ps ++ [n]) _ (by omega) (rowIs_push (by decide) hr (by omega) n) (fun a h1 h2 => ?_) h
        funext j
        simp only [ui, h1, h2, false_and, if_false, hI a h1 h2]
theorem t_takeFalling (hd : 2 ≤ d) {len : Nat} (hlen : len ≤ 12) (hr : rowIs I 80 81 []) (h : ∀ I', rowIs I' 80 81 (tkF (frP I) len 40 []) → (∀ a, a ≠ 80 → a ≠ 81 → I' a = I a) → Q none (I', J, KR p)) : T d me_X5_takeFalling [.ref 80, .ref 2, .int (nI len)] L I J p Q := by
  refine am_enter [some (.ref 80), some (.ref 2), some (.int (nI len)), none] rfl rfl rfl rfl ?_
  refine ev_bipush (pc := 0) (v := (39)) dX5_takeFalling_0 bipush_c39 (ev_istore_n (pc := 2) dX5_takeFalling_2 rfl (?_))
  exact lp_takeFalling (by omega) len hlen 40 [] I (by omega) hr (fun _ _ _ => rfl) h
theorem lrF_lt (P : Nat → Bool) (len : Nat) : ∀ (n i k : Nat), lrF P len n i = some k → k < i + n + 1
  | 0, i, k, h => by simp [lrF] at h
  | n + 1, i, k, h => by
    simp only [lrF] at h
    split at h
    · cases h; omega
    · have := lrF_lt P len n (i + 1) k h
      omega
theorem t_allot (hd : 3 ≤ d) {len lay : Nat} (hlen : len ≤ 12) (hlay : lay < 3) (h : ∀ I', rowIs I' 80 81 (chC (frP I) len lay) → (∀ a, a ≠ 80 → a ≠ 81 → I' a = I a) → Q none (I', J, KR p)) : T d me_X5_allot [.ref 80, .ref 2, .int (nI len), .int (nI lay)] L I J p Q := by
  refine am_enter [some (.ref 80), some (.ref 2), some (.int (nI len)), some (.int (nI lay)), none] rfl rfl rfl rfl ?_
  have hI : ∀ a, a ≠ 80 → a ≠ 81 → ui I 80 1 0 a = I a := fun a h1 h2 => by funext j; simp [ui, h1]
  have hP : frP (ui I 80 1 0) = frP I := frP_of (hI 7 (by decide) (by decide))
  refine ev_aload_n (pc := 0) dX5_allot_0 rfl (ev_invV (pc := 1) kV_5_19 dX5_allot_1 rfl rfl rfl (by omega) rfl ?_)
  refine t_rm_empty ?_
  refine ev_iload_n (pc := 4) dX5_allot_4 rfl (ev_iconst (pc := 5) (v := (2)) dX5_allot_5 iconst_c2 (ev_ncmp_ne (pc := 6) 16 (lay) (2) dX5_allot_6 (by decide) (rfl) (rfl) (by omega) (by omega) (fun c6 => ?_) (fun c6 => ?_)))
  · refine ev_iload_n (pc := 16) dX5_allot_16 rfl (ev_iconst (pc := 17) (v := (1)) dX5_allot_17 iconst_c1 (ev_ncmp_ne (pc := 18) 29 (lay) (1) dX5_allot_18 (by decide) (rfl) (rfl) (by omega) (by omega) (fun c18 => ?_) (fun c18 => ?_)))
    · refine ev_iconst (pc := 29) (v := (-1)) dX5_allot_29 iconst_cm1 (ev_istore (pc := 30) dX5_allot_30 rfl (?_))
      refine ev_aload_n (pc := 32) dX5_allot_32 rfl (ev_aload_n (pc := 33) dX5_allot_33 rfl (ev_iload (pc := 34) dX5_allot_34 rfl (ev_iconst (pc := 36) (v := (-1)) dX5_allot_36 iconst_cm1 (ev_icmp_ne (pc := 37) 44 dX5_allot_37 (by decide) (kt := fun c => absurd (rfl) c) (kf := fun c37 => ev_iconst (pc := 40) (v := (0)) dX5_allot_40 iconst_c0 (ev_goto (pc := 41) 46 dX5_allot_41 (by decide) (ev_iload_n (pc := 46) dX5_allot_46 rfl (ev_invV (pc := 47) kV_5_32 dX5_allot_47 rfl rfl rfl (by omega) rfl ?_))))))))
      refine t_takeRising (from_ := 0) (by omega) (by omega) hlen rowIs_nil fun I' h1 h2 => ?_
      refine ev_vret (pc := 50) dX5_allot_50 rfl ?_
      refine h I' ?_ fun a a1 a2 => (h2 a a1 a2).trans (hI a a1 a2)
      rw [hP] at h1
      simpa only [chC, c6, c18, if_false] using h1
    · refine ev_aload_n (pc := 21) dX5_allot_21 rfl (ev_iload_n (pc := 22) dX5_allot_22 rfl (ev_invV (pc := 23) kV_5_26 dX5_allot_23 rfl rfl rfl (by omega) rfl ?_))
      refine t_X0_lowestRun (by omega) (by omega) ?_
      rw [hP]
      refine ev_goto (pc := 26) 30 dX5_allot_26 (by decide) (ev_istore (pc := 30) dX5_allot_30 rfl (?_))
      cases hq : lrF (frP I) len 40 0 with
      | none =>
        simp only [Option.elim]
        refine ev_aload_n (pc := 32) dX5_allot_32 rfl (ev_aload_n (pc := 33) dX5_allot_33 rfl (ev_iload (pc := 34) dX5_allot_34 rfl (ev_iconst (pc := 36) (v := (-1)) dX5_allot_36 iconst_cm1 (ev_icmp_ne (pc := 37) 44 dX5_allot_37 (by decide) (kt := fun c => absurd (rfl) c) (kf := fun c37 => ev_iconst (pc := 40) (v := (0)) dX5_allot_40 iconst_c0 (ev_goto (pc := 41) 46 dX5_allot_41 (by decide) (ev_iload_n (pc := 46) dX5_allot_46 rfl (ev_invV (pc := 47) kV_5_32 dX5_allot_47 rfl rfl rfl (by omega) rfl ?_))))))))
        refine t_takeRising (from_ := 0) (by omega) (by omega) hlen rowIs_nil fun I' h1 h2 => ?_
        refine ev_vret (pc := 50) dX5_allot_50 rfl ?_
        refine h I' ?_ fun a a1 a2 => (h2 a a1 a2).trans (hI a a1 a2)
        rw [hP] at h1
        simpa [chC, c6, c18, hq] using h1
      | some m =>
        have hm := lrF_lt _ _ _ _ _ hq
        simp only [Option.elim]
        have hne : ¬ nI m = -1 := fun e => absurd (e ▸ nI_pos (n := m) (by omega)) (by decide)
        refine ev_aload_n (pc := 32) dX5_allot_32 rfl (ev_aload_n (pc := 33) dX5_allot_33 rfl (ev_iload (pc := 34) dX5_allot_34 rfl (ev_iconst (pc := 36) (v := (-1)) dX5_allot_36 iconst_cm1 (ev_icmp_ne (pc := 37) 44 dX5_allot_37 (by decide) (kf := fun c => absurd c (hne)) (kt := fun c37 => ev_iload (pc := 44) dX5_allot_44 rfl (ev_iload_n (pc := 46) dX5_allot_46 rfl (ev_invV (pc := 47) kV_5_32 dX5_allot_47 rfl rfl rfl (by omega) rfl ?_)))))))
        refine t_takeRising (from_ := m) (by omega) (by omega) hlen rowIs_nil fun I' h1 h2 => ?_
        refine ev_vret (pc := 50) dX5_allot_50 rfl ?_
        refine h I' ?_ fun a a1 a2 => (h2 a a1 a2).trans (hI a a1 a2)
        rw [hP] at h1
        simpa [chC, c6, c18, hq] using h1
  · refine ev_aload_n (pc := 9) dX5_allot_9 rfl (ev_aload_n (pc := 10) dX5_allot_10 rfl (ev_iload_n (pc := 11) dX5_allot_11 rfl (ev_invV (pc := 12) kV_5_22 dX5_allot_12 rfl rfl rfl (by omega) rfl ?_)))
    refine t_takeFalling (by omega) hlen rowIs_nil fun I' h1 h2 => ?_
    refine ev_vret (pc := 15) dX5_allot_15 rfl ?_
    refine h I' ?_ fun a a1 a2 => (h2 a a1 a2).trans (hI a a1 a2)
    rw [hP] at h1
    simpa [chC, c6] using h1
end T16
