/-! ===== the text, read by the class (cell 78, its signs 79) ===== -/
theorem ui_ui (I : Nat → Nat → Int32) (a i : Nat) (v w : Int32) : ui (ui I a i v) a i w = ui I a i w := by
  funext b j
  simp only [ui]
  by_cases h : b = a ∧ j = i
  · rw [if_pos h, if_pos h]
  · rw [if_neg h, if_neg h, if_neg h]
/-- the sign at a place of a text of n signs -/
def sgT (f : Nat → Int32) (n a : Nat) : Int32 := if a < n then f a else -1
def dgt (x : Int32) : Option Nat := if 48 ≤ x ∧ x ≤ 57 then some (x.toNatClampNeg - 48) else none
theorem dgt_some {x : Int32} (h1 : 48 ≤ x) (h2 : x ≤ 57) : ∃ v, v < 10 ∧ dgt x = some v ∧ x - 48 = nI v ∧ x = nI (48 + v) := by
  have h0 : ¬ x < 0 := Int32.not_lt.mpr (Int32.le_trans (by decide) h1)
  obtain ⟨j, hj, rfl⟩ := nI_of2 (n := 57) (M := 57) rfl h0 h2
  have h48 : 48 ≤ j := (nI_leI (a := 48) (by decide) (by omega)).mp h1
  refine ⟨j - 48, by omega, ?_, ?_, by rw [show 48 + (j - 48) = j by omega]⟩
  · unfold dgt
    rw [if_pos ⟨h1, h2⟩, nI_clamp (by omega)]
  · exact pk_sub (a := j) (b := 48) h48
theorem dgt_none {x : Int32} (h : ¬ (48 ≤ x ∧ x ≤ 57)) : dgt x = none := if_neg h
/-- a number of one digit or two: its value, the place behind it -/
def rdN (g : Nat → Int32) (a : Nat) : Option (Nat × Nat) := match dgt (g a) with
  | none => none
  | some u => match dgt (g (a + 1)) with
    | none => some (u, a + 1)
    | some v => some (10 * u + v, a + 2)
theorem rdN_lt {g : Nat → Int32} {a v b : Nat} (h : rdN g a = some (v, b)) : v < 100 ∧ a < b ∧ b ≤ a + 2 := by
  have hd : ∀ x u, dgt x = some u → u < 10 := by
    intro x u hx
    unfold dgt at hx
    split at hx
    · rename_i c
      obtain ⟨w, w1, w2, -, -⟩ := dgt_some c.1 c.2
      unfold dgt at w2
      rw [if_pos c] at w2
      cases hx
      cases w2
      exact w1
    · cases hx
  unfold rdN at h
  split at h
  · cases h
  · rename_i u hu
    have := hd _ _ hu
    split at h
    · cases h; omega
    · rename_i w hw
      have := hd _ _ hw
      cases h; omega
/-- and the sign that must follow -/
def rdS (g : Nat → Int32) (c : Int32) (a : Nat) : Option (Nat × Nat) := match rdN g a with
  | none => none
  | some (v, b) => if g b = c then some (v, b + 1) else none
/-- what an order has: its letter, its numbers, the place behind it -/
def rdO (g : Nat → Int32) (a : Nat) : Option (Int32 × Nat × Nat × Nat × Nat) :=
  if g a = 119 then match rdS g 44 (a + 1) with
    | none => none
    | some (u, b) => match rdS g 44 b with
      | none => none
      | some (v, c) => match rdS g 59 c with
        | none => none
        | some (w, e) => some (119, u, v, w, e)
  else if g a = 100 ∨ g a = 99 ∨ g a = 122 then match rdS g 59 (a + 1) with
    | none => none
    | some (u, b) => some (g a, u, 0, 0, b)
  else none
section T20
variable {d L : Nat} {I : Nat → Nat → Int32} {J : Nat → Nat → Int64} {p : Nat → Nat} {Q : Option Value → am_M → Prop}
theorem t_append {n : Nat} (hn : I 78 1 = nI n) (hn60 : n < 60) (x : Int32) (h : Q none (ui (ui I 79 n x) 78 1 (nI (n + 1)), J, KR p)) : T d me_X6_append [.ref 78, .int x] L I J p Q := by
  refine am_enter [some (.ref 78), some (.int x)] rfl rfl rfl rfl ?_
  refine ev_aload_n (pc := 0) dX6_append_0 rfl (ev_geti (pc := 1) kF_6_15 dX6_append_1 rfl rfl (ev_if_lt (pc := 4) 36 dX6_append_4 (by decide) (kt := fun c => absurd c (by rw [hn]; exact nI_pos (by omega))) (kf := fun c4 => ev_aload_n (pc := 7) dX6_append_7 rfl (ev_geti (pc := 8) kF_6_15 dX6_append_8 rfl rfl (ev_bipush (pc := 11) (v := (60)) dX6_append_11 bipush_c60 (ev_ncmp_ge (pc := 13) 36 (n) (60) dX6_append_13 (by decide) (hn) (rfl) (by omega) (by omega) (kt := fun c => absurd c (by omega)) (kf := fun c13 => ev_aload_n (pc := 16) dX6_append_16 rfl (ev_getr (pc := 17) kF_6_9 dX6_append_17 rfl rfl rfl (ev_aload_n (pc := 20) dX6_append_20 rfl (ev_geti (pc := 21) kF_6_15 dX6_append_21 rfl rfl (ev_iload_n (pc := 24) dX6_append_24 rfl (ev_iast (pc := 25) (i := n) dX6_append_25 rfl rfl (hn) (by omega) rfl (ev_aload_n (pc := 26) dX6_append_26 rfl (ev_dup (pc := 27) dX6_append_27 rfl (ev_geti (pc := 28) kF_6_15 dX6_append_28 rfl rfl (ev_iconst (pc := 31) (v := (1)) dX6_append_31 iconst_c1 (ev_iadd (pc := 32) dX6_append_32 (ev_puti (pc := 33) kF_6_15 dX6_append_33 rfl rfl rfl rfl rfl (ev_vret (pc := 36) dX6_append_36 rfl ?_)))))))))))))))))))
  have e : ui I 79 n x 78 1 + 1 = nI (n + 1) := by
    show (if 78 = 79 ∧ 1 = n then x else I 78 1) + 1 = _
    rw [if_neg (by omega), hn]
    exact nI_1 _
  rw [e]
  exact h
theorem t_rewind (h : Q none (ui (ui (ui I 78 2 0) 78 3 0) 78 4 0, J, KR p)) : T d me_X6_rewind [.ref 78] L I J p Q := by
  refine am_enter [some (.ref 78)] rfl rfl rfl rfl ?_
  refine ev_aload_n (pc := 0) dX6_rewind_0 rfl (ev_iconst (pc := 1) (v := (0)) dX6_rewind_1 iconst_c0 (ev_puti (pc := 2) kF_6_19 dX6_rewind_2 rfl rfl rfl rfl rfl (ev_aload_n (pc := 5) dX6_rewind_5 rfl (ev_iconst (pc := 6) (v := (0)) dX6_rewind_6 iconst_c0 (ev_puti (pc := 7) kF_6_22 dX6_rewind_7 rfl rfl rfl rfl rfl (ev_aload_n (pc := 10) dX6_rewind_10 rfl (ev_iconst (pc := 11) (v := (0)) dX6_rewind_11 iconst_c0 (ev_puti (pc := 12) kF_6_25 dX6_rewind_12 rfl rfl rfl rfl rfl (ev_vret (pc := 15) dX6_rewind_15 rfl ?_)))))))))
  exact h
theorem t_hasMore {n a : Nat} (hn : I 78 1 = nI n) (ha : I 78 2 = nI a) (hn60 : n ≤ 60) (ha60 : a ≤ 200) (h : Q (some (.int (bI (decide (a < n))))) (I, J, KR p)) : T d me_X6_hasMore [.ref 78] L I J p Q := by
  refine am_enter [some (.ref 78)] rfl rfl rfl rfl ?_
  refine ev_aload_n (pc := 0) dX6_hasMore_0 rfl (ev_geti (pc := 1) kF_6_19 dX6_hasMore_1 rfl rfl (ev_aload_n (pc := 4) dX6_hasMore_4 rfl (ev_geti (pc := 5) kF_6_15 dX6_hasMore_5 rfl rfl (ev_ncmp_ge (pc := 8) 15 (a) (n) dX6_hasMore_8 (by decide) (ha) (hn) (by omega) (by omega) (fun c8 => ?_) (fun c8 => ?_)))))
  · rw [decide_eq_false (by omega)] at h
    refine ev_iconst (pc := 15) (v := (0)) dX6_hasMore_15 iconst_c0 (ev_zret (pc := 16) dX6_hasMore_16 rfl (bI_01 false) ?_)
    exact h
  · rw [decide_eq_true (by omega)] at h
    refine ev_iconst (pc := 11) (v := (1)) dX6_hasMore_11 iconst_c1 (ev_goto (pc := 12) 16 dX6_hasMore_12 (by decide) (ev_zret (pc := 16) dX6_hasMore_16 rfl (bI_01 true) ?_))
    exact h
theorem t_signHere {n a : Nat} (hn : I 78 1 = nI n) (ha : I 78 2 = nI a) (hn60 : n ≤ 60) (ha60 : a ≤ 200) (h : Q (some (.int (sgT (I 79) n a))) (I, J, KR p)) : T d me_X6_signHere [.ref 78] L I J p Q := by
  unfold sgT at h
  refine am_enter [some (.ref 78)] rfl rfl rfl rfl ?_
  refine ev_aload_n (pc := 0) dX6_signHere_0 rfl (ev_geti (pc := 1) kF_6_19 dX6_signHere_1 rfl rfl (ev_if_lt (pc := 4) 39 dX6_signHere_4 (by decide) (kt := fun c => absurd c (by rw [ha]; exact nI_pos (by omega))) (kf := fun c4 => ev_aload_n (pc := 7) dX6_signHere_7 rfl (ev_geti (pc := 8) kF_6_19 dX6_signHere_8 rfl rfl (ev_aload_n (pc := 11) dX6_signHere_11 rfl (ev_geti (pc := 12) kF_6_15 dX6_signHere_12 rfl rfl (ev_ncmp_ge (pc := 15) 39 (a) (n) dX6_signHere_15 (by decide) (ha) (hn) (by omega) (by omega) (fun c15 => ?_) (fun c15 => ?_))))))))
  · rw [if_neg (by omega)] at h
    refine ev_iconst (pc := 39) (v := (-1)) dX6_signHere_39 iconst_cm1 (ev_iret (pc := 40) dX6_signHere_40 rfl ?_)
    exact h
  · rw [if_pos c15] at h
    refine ev_aload_n (pc := 18) dX6_signHere_18 rfl (ev_geti (pc := 19) kF_6_19 dX6_signHere_19 rfl rfl (ev_bipush (pc := 22) (v := (60)) dX6_signHere_22 bipush_c60 (ev_ncmp_ge (pc := 24) 39 (a) (60) dX6_signHere_24 (by decide) (ha) (rfl) (by omega) (by omega) (kt := fun c => absurd c (by omega)) (kf := fun c24 => ev_aload_n (pc := 27) dX6_signHere_27 rfl (ev_getr (pc := 28) kF_6_9 dX6_signHere_28 rfl rfl rfl (ev_aload_n (pc := 31) dX6_signHere_31 rfl (ev_geti (pc := 32) kF_6_19 dX6_signHere_32 rfl rfl (ev_iald (pc := 35) (i := a) dX6_signHere_35 rfl (ha) (by omega) rfl (ev_goto (pc := 36) 40 dX6_signHere_36 (by decide) (ev_iret (pc := 40) dX6_signHere_40 rfl ?_))))))))))
    exact h
theorem t_passes (hd : 1 ≤ d) {n a : Nat} (hn : I 78 1 = nI n) (ha : I 78 2 = nI a) (hn60 : n ≤ 60) (ha60 : a ≤ 200) (c : Int32) (h1 : sgT (I 79) n a = c → Q (some (.int (bI true))) (ui I 78 2 (nI (a + 1)), J, KR p)) (h2 : ¬ sgT (I 79) n a = c → Q (some (.int (bI false))) (I, J, KR p)) : T d me_X6_passes [.ref 78, .int c] L I J p Q := by
  refine am_enter [some (.ref 78), some (.int c)] rfl rfl rfl rfl ?_
  refine ev_aload_n (pc := 0) dX6_passes_0 rfl (ev_invV (pc := 1) kV_6_28 dX6_passes_1 rfl rfl rfl (by omega) rfl ?_)
  refine t_signHere hn ha hn60 ha60 ?_
  refine ev_iload_n (pc := 4) dX6_passes_4 rfl (ev_icmp_eq (pc := 5) 10 dX6_passes_5 (by decide) (fun c5 => ?_) (fun c5 => ?_))
  · refine ev_aload_n (pc := 10) dX6_passes_10 rfl (ev_dup (pc := 11) dX6_passes_11 rfl (ev_geti (pc := 12) kF_6_19 dX6_passes_12 rfl rfl (ev_iconst (pc := 15) (v := (1)) dX6_passes_15 iconst_c1 (ev_iadd (pc := 16) dX6_passes_16 (ev_puti (pc := 17) kF_6_19 dX6_passes_17 rfl rfl rfl rfl rfl (ev_iconst (pc := 20) (v := (1)) dX6_passes_20 iconst_c1 (ev_zret (pc := 21) dX6_passes_21 rfl (bI_01 true) ?_)))))))
    rw [ha, nI_1]
    exact h1 c5
  · refine ev_iconst (pc := 8) (v := (0)) dX6_passes_8 iconst_c0 (ev_zret (pc := 9) dX6_passes_9 rfl (bI_01 false) ?_)
    exact h2 c5
theorem t_readDigit (hd : 1 ≤ d) {n a : Nat} (hn : I 78 1 = nI n) (ha : I 78 2 = nI a) (hn60 : n ≤ 60) (ha60 : a ≤ 200) (h1 : dgt (sgT (I 79) n a) = none → Q (some (.int (-1))) (I, J, KR p)) (h2 : ∀ v, v < 10 → dgt (sgT (I 79) n a) = some v → Q (some (.int (nI v))) (ui I 78 2 (nI (a + 1)), J, KR p)) : T d me_X6_readDigit [.ref 78] L I J p Q := by
  refine am_enter [some (.ref 78), none] rfl rfl rfl rfl ?_
  refine ev_aload_n (pc := 0) dX6_readDigit_0 rfl (ev_invV (pc := 1) kV_6_28 dX6_readDigit_1 rfl rfl rfl (by omega) rfl ?_)
  refine t_signHere hn ha hn60 ha60 ?_
  refine ev_istore_n (pc := 4) dX6_readDigit_4 rfl (ev_iload_n (pc := 5) dX6_readDigit_5 rfl (ev_bipush (pc := 6) (v := (48)) dX6_readDigit_6 bipush_c48 (ev_icmp_lt (pc := 8) 17 dX6_readDigit_8 (by decide) (fun c8 => ?_) (fun c8 => ?_))))
  · refine ev_iconst (pc := 17) (v := (-1)) dX6_readDigit_17 iconst_cm1 (ev_iret (pc := 18) dX6_readDigit_18 rfl ?_)
    exact h1 (dgt_none fun q => absurd q.1 (Int32.not_le.mpr c8))
  · refine ev_iload_n (pc := 11) dX6_readDigit_11 rfl (ev_bipush (pc := 12) (v := (57)) dX6_readDigit_12 bipush_c57 (ev_icmp_le (pc := 14) 19 dX6_readDigit_14 (by decide) (fun c14 => ?_) (fun c14 => ?_)))
    · obtain ⟨v, hv, e1, e2, -⟩ := dgt_some (Int32.not_lt.mp c8) c14
      refine ev_aload_n (pc := 19) dX6_readDigit_19 rfl (ev_dup (pc := 20) dX6_readDigit_20 rfl (ev_geti (pc := 21) kF_6_19 dX6_readDigit_21 rfl rfl (ev_iconst (pc := 24) (v := (1)) dX6_readDigit_24 iconst_c1 (ev_iadd (pc := 25) dX6_readDigit_25 (ev_puti (pc := 26) kF_6_19 dX6_readDigit_26 rfl rfl rfl rfl rfl (ev_iload_n (pc := 29) dX6_readDigit_29 rfl (ev_bipush (pc := 30) (v := (48)) dX6_readDigit_30 bipush_c48 (ev_isub (pc := 32) dX6_readDigit_32 (ev_iret (pc := 33) dX6_readDigit_33 rfl ?_)))))))))
      rw [ha, nI_1, e2]
      exact h2 v hv e1
    · refine ev_iconst (pc := 17) (v := (-1)) dX6_readDigit_17 iconst_cm1 (ev_iret (pc := 18) dX6_readDigit_18 rfl ?_)
      exact h1 (dgt_none fun q => absurd q.2 c14)
theorem nI_ne_m1 {v : Nat} (hv : v < 2 ^ 31) : ¬ nI v = -1 := fun e => absurd (e ▸ nI_pos hv) (by decide)
theorem t_readNumber (hd : 2 ≤ d) {n a : Nat} (hn : I 78 1 = nI n) (ha : I 78 2 = nI a) (hn60 : n ≤ 60) (ha60 : a ≤ 199) (h1 : rdN (sgT (I 79) n) a = none → Q (some (.int (-1))) (I, J, KR p)) (h2 : ∀ v b, rdN (sgT (I 79) n) a = some (v, b) → Q (some (.int (nI v))) (ui I 78 2 (nI b), J, KR p)) : T d me_X6_readNumber [.ref 78] L I J p Q := by
  unfold rdN at h1 h2
  refine am_enter [some (.ref 78), none, none] rfl rfl rfl rfl ?_
  refine ev_aload_n (pc := 0) dX6_readNumber_0 rfl (ev_invV (pc := 1) kV_6_55 dX6_readNumber_1 rfl rfl rfl (by omega) rfl ?_)
  refine t_readDigit (by omega) hn ha hn60 (by omega) (fun e => ?_) (fun u hu e => ?_)
  · rw [e] at h1
    refine ev_istore_n (pc := 4) dX6_readNumber_4 rfl (ev_iload_n (pc := 5) dX6_readNumber_5 rfl (ev_iconst (pc := 6) (v := (-1)) dX6_readNumber_6 iconst_cm1 (ev_icmp_ne (pc := 7) 14 dX6_readNumber_7 (by decide) (kt := fun c => absurd (rfl) c) (kf := fun c7 => ev_iconst (pc := 10) (v := (-1)) dX6_readNumber_10 iconst_cm1 (ev_goto (pc := 11) 18 dX6_readNumber_11 (by decide) (ev_istore_n (pc := 18) dX6_readNumber_18 rfl (ev_iload_n (pc := 19) dX6_readNumber_19 rfl (ev_iconst (pc := 20) (v := (-1)) dX6_readNumber_20 iconst_cm1 (ev_icmp_ne (pc := 21) 28 dX6_readNumber_21 (by decide) (kt := fun c => absurd (rfl) c) (kf := fun c21 => ev_iload_n (pc := 24) dX6_readNumber_24 rfl (ev_goto (pc := 25) 34 dX6_readNumber_25 (by decide) (ev_iret (pc := 34) dX6_readNumber_34 rfl ?_))))))))))))
    exact h1 rfl
  · rw [e] at h1 h2
    refine ev_istore_n (pc := 4) dX6_readNumber_4 rfl (ev_iload_n (pc := 5) dX6_readNumber_5 rfl (ev_iconst (pc := 6) (v := (-1)) dX6_readNumber_6 iconst_cm1 (ev_icmp_ne (pc := 7) 14 dX6_readNumber_7 (by decide) (kf := fun c => absurd c (nI_ne_m1 (by omega))) (kt := fun c7 => ev_aload_n (pc := 14) dX6_readNumber_14 rfl (ev_invV (pc := 15) kV_6_55 dX6_readNumber_15 rfl rfl rfl (by omega) rfl ?_)))))
    refine t_readDigit (a := a + 1) (by omega) (by simpa [ui] using hn) (by simp [ui]) hn60 (by omega) (fun e2 => ?_) (fun v hv e2 => ?_)
    · have e3 : dgt (sgT (I 79) n (a + 1)) = none := e2
      rw [e3] at h2
      refine ev_istore_n (pc := 18) dX6_readNumber_18 rfl (ev_iload_n (pc := 19) dX6_readNumber_19 rfl (ev_iconst (pc := 20) (v := (-1)) dX6_readNumber_20 iconst_cm1 (ev_icmp_ne (pc := 21) 28 dX6_readNumber_21 (by decide) (kt := fun c => absurd (rfl) c) (kf := fun c21 => ev_iload_n (pc := 24) dX6_readNumber_24 rfl (ev_goto (pc := 25) 34 dX6_readNumber_25 (by decide) (ev_iret (pc := 34) dX6_readNumber_34 rfl ?_))))))
      exact h2 _ _ rfl
    · have e3 : dgt (sgT (I 79) n (a + 1)) = some v := e2
      rw [e3] at h2
      rw [ui_ui]
      refine ev_istore_n (pc := 18) dX6_readNumber_18 rfl (ev_iload_n (pc := 19) dX6_readNumber_19 rfl (ev_iconst (pc := 20) (v := (-1)) dX6_readNumber_20 iconst_cm1 (ev_icmp_ne (pc := 21) 28 dX6_readNumber_21 (by decide) (kf := fun c => absurd c (nI_ne_m1 (by omega))) (kt := fun c21 => ev_bipush (pc := 28) (v := (10)) dX6_readNumber_28 bipush_c10 (ev_iload_n (pc := 30) dX6_readNumber_30 rfl (ev_imul (pc := 31) dX6_readNumber_31 (ev_iload_n (pc := 32) dX6_readNumber_32 rfl (ev_iadd (pc := 33) dX6_readNumber_33 (ev_iret (pc := 34) dX6_readNumber_34 rfl ?_)))))))))
      have e4 : (10 : Int32) * nI u + nI v = nI (10 * u + v) := by
        rw [show (10 : Int32) = nI 10 from rfl, pk_mul, nI_add]
      rw [e4]
      exact h2 _ _ rfl
end T20
