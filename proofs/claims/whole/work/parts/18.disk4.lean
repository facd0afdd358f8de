/-! ===== a file's end, copies of disks, the history ===== -/
/-- a file's pages are free, its entry is in the journal -/
def relC (I I' : Nat → Nat → Int32) (nm : Nat) (s : Int32) (z : Nat) : Prop := ∃ I1, entC I I1 (nI nm) (I 8 nm) s z ∧ (∀ n, I' 8 n = if n = nm then -1 else I 8 n) ∧ (∀ j, j < 40 → I' 7 j = if I 7 j = nI nm then -1 else I 7 j) ∧ ∀ a, a ≠ 7 → a ≠ 8 → I' a = I1 a
def copC (I I' : Nat → Nat → Int32) (a b : Nat) : Prop := (∀ i, (1 ≤ i ∧ i ≤ 6) ∨ (8 ≤ i ∧ i ≤ 10) → I' (a + i) = I (b + i)) ∧ I' (a + 7) 3 = I (b + 7) 3 ∧ (∀ i, 7 ≤ i → i ≤ 9 → I' a i = I b i) ∧ ∀ c, (c < a ∨ a + 10 < c) → I' c = I c
def jcpC (I I' : Nat → Nat → Int32) (a b : Nat) : Prop := (∀ i, 1 ≤ i → i ≤ 3 → I' (a + i) = I (b + i)) ∧ I' a 3 = I b 3 ∧ ∀ c, (c < a ∨ a + 3 < c) → I' c = I c
section T18
variable {d L : Nat} {I : Nat → Nat → Int32} {J : Nat → Nat → Int64} {p : Nat → Nat} {Q : Option Value → am_M → Prop}
theorem lp_release (nm : Nat) (hnm : nm < 30) (fv : Int32) (I0 : Nat → Nat → Int32) (h : ∀ I', (∀ j, j < 40 → I' 7 j = if I0 7 j = nI nm then -1 else I0 7 j) → (∀ a, a ≠ 7 → I' a = I0 a) → Q none (I', J, KR p)) : ∀ (n i : Nat) (I1 : Nat → Nat → Int32), i + n = 40 → (∀ a, a ≠ 7 → I1 a = I0 a) → (∀ j, j < 40 → I1 7 j = if j < i ∧ I0 7 j = nI nm then -1 else I0 7 j) → E me_X0_release d L 41 [some (.ref 2), some (.int (nI nm)), some (.int fv), some (.int (nI i))] [] I1 J p Q
  | 0, i, I1, hi, hI, hj => by
    refine ev_iload_n (pc := 41) dX0_release_41 rfl (ev_bipush (pc := 42) (v := (40)) dX0_release_42 bipush_c40 (ev_ncmp_ge (pc := 44) 70 (i) (40) dX0_release_44 (by decide) (rfl) (rfl) (by omega) (by omega) (kf := fun c => absurd c (by omega)) (kt := fun c44 => ev_vret (pc := 70) dX0_release_70 rfl ?_)))
    exact h I1 (fun j hj4 => by rw [hj j hj4]; have : j < i := by omega
                                simp [this]) hI
  | n + 1, i, I1, hi, hI, hj => by
    have e := hj i (by omega)
    rw [if_neg (by omega)] at e
    refine ev_iload_n (pc := 41) dX0_release_41 rfl (ev_bipush (pc := 42) (v := (40)) dX0_release_42 bipush_c40 (ev_ncmp_ge (pc := 44) 70 (i) (40) dX0_release_44 (by decide) (rfl) (rfl) (by omega) (by omega) (kt := fun c => absurd c (by omega)) (kf := fun c44 => ev_aload_n (pc := 47) dX0_release_47 rfl (ev_getr (pc := 48) kF_0_24 dX0_release_48 rfl rfl rfl (ev_iload_n (pc := 51) dX0_release_51 rfl (ev_iald (pc := 52) (i := i) dX0_release_52 rfl (rfl) (by omega) rfl (ev_iload_n (pc := 53) dX0_release_53 rfl (ev_icmp_ne (pc := 54) 64 dX0_release_54 (by decide) (fun c54 => ?_) (fun c54 => ?_)))))))))
    · rw [e] at c54
      refine ev_iinc (pc := 64) dX0_release_64 rfl (iinc_1 _) rfl (ev_goto (pc := 67) 41 dX0_release_67 (by decide) (?_))
      refine lp_release nm hnm fv I0 h n (i + 1) I1 (by omega) hI fun j hj4 => ?_
      rw [hj j hj4]
      by_cases e1 : j = i
      · subst e1
        simp [c54]
      · have : (j < i + 1) = (j < i) := by simp; omega
        simp only [this]
    · rw [e] at c54
      refine ev_aload_n (pc := 57) dX0_release_57 rfl (ev_getr (pc := 58) kF_0_24 dX0_release_58 rfl rfl rfl (ev_iload_n (pc := 61) dX0_release_61 rfl (ev_iconst (pc := 62) (v := (-1)) dX0_release_62 iconst_cm1 (ev_iast (pc := 63) (i := i) dX0_release_63 rfl rfl (rfl) (by omega) rfl (ev_iinc (pc := 64) dX0_release_64 rfl (iinc_1 _) rfl (ev_goto (pc := 67) 41 dX0_release_67 (by decide) (?_)))))))
      refine lp_release nm hnm fv I0 h n (i + 1) _ (by omega) (fun a ha => ?_) fun j hj4 => ?_
      · rw [← hI a ha]
        funext z
        simp [ui, ha]
      · by_cases e1 : j = i
        · subst e1
          simp [ui, c54]
        · have : (j < i + 1) = (j < i) := by simp; omega
          simp only [this]
          rw [← hj j hj4]
          simp [ui, e1]
theorem t_release (hd : 2 ≤ d) {nm z : Nat} (hnm : nm < 30) (hz : I 9 3 = nI z) (hz6 : z ≤ 6) (h : ∀ I', relC I I' nm ((ix 40 (I 8 nm)).elim (-1) fun j => if I 3 j = 0 then -1 else I 4 j) z → Q none (I', J, KR p)) : T d me_X0_release [.ref 2, .int (nI nm)] L I J p Q := by
  refine am_enter [some (.ref 2), some (.int (nI nm)), none, none] rfl rfl rfl rfl ?_
  refine ev_iload_n (pc := 0) dX0_release_0 rfl (ev_if_lt (pc := 1) 10 dX0_release_1 (by decide) (kt := fun c => absurd c (nI_pos (by omega))) (kf := fun c1 => ev_iload_n (pc := 4) dX0_release_4 rfl (ev_bipush (pc := 5) (v := (30)) dX0_release_5 bipush_c30 (ev_ncmp_lt (pc := 7) 11 (nm) (30) dX0_release_7 (by decide) (rfl) (rfl) (by omega) (by omega) (kf := fun c => absurd c (by omega)) (kt := fun c7 => ev_aload_n (pc := 11) dX0_release_11 rfl (ev_getr (pc := 12) kF_0_27 dX0_release_12 rfl rfl rfl (ev_iload_n (pc := 15) dX0_release_15 rfl (ev_iald (pc := 16) (i := nm) dX0_release_16 rfl (rfl) (by omega) rfl (ev_istore_n (pc := 17) dX0_release_17 rfl (ev_aload_n (pc := 18) dX0_release_18 rfl (ev_getr (pc := 19) kF_0_33 dX0_release_19 rfl rfl rfl (ev_iload_n (pc := 22) dX0_release_22 rfl (ev_iload_n (pc := 23) dX0_release_23 rfl (ev_aload_n (pc := 24) dX0_release_24 rfl (ev_iload_n (pc := 25) dX0_release_25 rfl (ev_invV (pc := 26) kV_0_103 dX0_release_26 rfl rfl rfl (by omega) rfl ?_))))))))))))))))
  refine t_X0_styleOn _ ?_
  refine ev_invV (pc := 29) kV_0_106 dX0_release_29 rfl rfl rfl (by omega) rfl ?_
  refine t_enter (by omega) hz hz6 fun I1 h1 => ?_
  refine ev_aload_n (pc := 32) dX0_release_32 rfl (ev_getr (pc := 33) kF_0_27 dX0_release_33 rfl rfl rfl (ev_iload_n (pc := 36) dX0_release_36 rfl (ev_iconst (pc := 37) (v := (-1)) dX0_release_37 iconst_cm1 (ev_iast (pc := 38) (i := nm) dX0_release_38 rfl rfl (rfl) (by omega) rfl (ev_iconst (pc := 39) (v := (0)) dX0_release_39 iconst_c0 (ev_istore_n (pc := 40) dX0_release_40 rfl (?_)))))))
  have h7 : I1 7 = I 7 := h1.2.2 7 (by omega)
  have h8 : I1 8 = I 8 := h1.2.2 8 (by omega)
  refine lp_release nm hnm _ (ui I1 8 nm (-1)) (fun I' g1 g2 => h I' ⟨I1, h1, fun n => ?_, fun j hj => ?_, fun a a1 a2 => ?_⟩) 40 0 _ (by omega) (fun _ _ => rfl) (fun j _ => by simp)
  · rw [g2 8 (by decide), ← h8]
    simp [ui]
  · rw [g1 j hj, ← h7]
    simp [ui]
  · rw [g2 a a1]
    funext y
    simp [ui, a2]
theorem t_jcopy_30_9 (hd : 1 ≤ d) (h : ∀ I', jcpC I I' 30 9 → Q none (I', J, KR p)) : T d me_X4_copyFrom [.ref 30, .ref 9] L I J p Q := by
  refine am_enter [some (.ref 30), some (.ref 9)] rfl rfl rfl rfl ?_
  refine ev_aload_n (pc := 0) dX4_copyFrom_0 rfl (ev_getr (pc := 1) kF_4_9 dX4_copyFrom_1 rfl rfl rfl (ev_iconst (pc := 4) (v := (0)) dX4_copyFrom_4 iconst_c0 (ev_aload_n (pc := 5) dX4_copyFrom_5 rfl (ev_getr (pc := 6) kF_4_9 dX4_copyFrom_6 rfl rfl rfl (ev_iconst (pc := 9) (v := (0)) dX4_copyFrom_9 iconst_c0 (ev_bipush (pc := 10) (v := (6)) dX4_copyFrom_10 bipush_c6 (ev_copy (pc := 12) kA_4_25 dX4_copyFrom_12 rfl rfl rfl rfl rfl (by omega) rfl (?_))))))))
  refine ev_aload_n (pc := 15) dX4_copyFrom_15 rfl (ev_getr (pc := 16) kF_4_15 dX4_copyFrom_16 rfl rfl rfl (ev_iconst (pc := 19) (v := (0)) dX4_copyFrom_19 iconst_c0 (ev_aload_n (pc := 20) dX4_copyFrom_20 rfl (ev_getr (pc := 21) kF_4_15 dX4_copyFrom_21 rfl rfl rfl (ev_iconst (pc := 24) (v := (0)) dX4_copyFrom_24 iconst_c0 (ev_bipush (pc := 25) (v := (6)) dX4_copyFrom_25 bipush_c6 (ev_copy (pc := 27) kA_4_25 dX4_copyFrom_27 rfl rfl rfl rfl rfl (by omega) rfl (?_))))))))
  refine ev_aload_n (pc := 30) dX4_copyFrom_30 rfl (ev_getr (pc := 31) kF_4_18 dX4_copyFrom_31 rfl rfl rfl (ev_iconst (pc := 34) (v := (0)) dX4_copyFrom_34 iconst_c0 (ev_aload_n (pc := 35) dX4_copyFrom_35 rfl (ev_getr (pc := 36) kF_4_18 dX4_copyFrom_36 rfl rfl rfl (ev_iconst (pc := 39) (v := (0)) dX4_copyFrom_39 iconst_c0 (ev_bipush (pc := 40) (v := (6)) dX4_copyFrom_40 bipush_c6 (ev_copy (pc := 42) kA_4_25 dX4_copyFrom_42 rfl rfl rfl rfl rfl (by omega) rfl (?_))))))))
  refine ev_aload_n (pc := 45) dX4_copyFrom_45 rfl (ev_aload_n (pc := 46) dX4_copyFrom_46 rfl (ev_geti (pc := 47) kF_4_21 dX4_copyFrom_47 rfl rfl (ev_puti (pc := 50) kF_4_21 dX4_copyFrom_50 rfl rfl rfl rfl rfl (ev_vret (pc := 53) dX4_copyFrom_53 rfl ?_))))
  refine h _ ⟨fun i h1 h2 => ?_, by simp [ui, ur], fun c hc => ?_⟩
  · have : i = 1 ∨ i = 2 ∨ i = 3 := by omega
    rcases this with rfl | rfl | rfl <;> (funext j; simp [ui, ur])
  · funext j
    simp only [ui, ur]
    rw [if_neg (by omega), if_neg (by omega), if_neg (by omega), if_neg (by omega)]
theorem t_jcopy_41_9 (hd : 1 ≤ d) (h : ∀ I', jcpC I I' 41 9 → Q none (I', J, KR p)) : T d me_X4_copyFrom [.ref 41, .ref 9] L I J p Q := by
  refine am_enter [some (.ref 41), some (.ref 9)] rfl rfl rfl rfl ?_
  refine ev_aload_n (pc := 0) dX4_copyFrom_0 rfl (ev_getr (pc := 1) kF_4_9 dX4_copyFrom_1 rfl rfl rfl (ev_iconst (pc := 4) (v := (0)) dX4_copyFrom_4 iconst_c0 (ev_aload_n (pc := 5) dX4_copyFrom_5 rfl (ev_getr (pc := 6) kF_4_9 dX4_copyFrom_6 rfl rfl rfl (ev_iconst (pc := 9) (v := (0)) dX4_copyFrom_9 iconst_c0 (ev_bipush (pc := 10) (v := (6)) dX4_copyFrom_10 bipush_c6 (ev_copy (pc := 12) kA_4_25 dX4_copyFrom_12 rfl rfl rfl rfl rfl (by omega) rfl (?_))))))))
  refine ev_aload_n (pc := 15) dX4_copyFrom_15 rfl (ev_getr (pc := 16) kF_4_15 dX4_copyFrom_16 rfl rfl rfl (ev_iconst (pc := 19) (v := (0)) dX4_copyFrom_19 iconst_c0 (ev_aload_n (pc := 20) dX4_copyFrom_20 rfl (ev_getr (pc := 21) kF_4_15 dX4_copyFrom_21 rfl rfl rfl (ev_iconst (pc := 24) (v := (0)) dX4_copyFrom_24 iconst_c0 (ev_bipush (pc := 25) (v := (6)) dX4_copyFrom_25 bipush_c6 (ev_copy (pc := 27) kA_4_25 dX4_copyFrom_27 rfl rfl rfl rfl rfl (by omega) rfl (?_))))))))
  refine ev_aload_n (pc := 30) dX4_copyFrom_30 rfl (ev_getr (pc := 31) kF_4_18 dX4_copyFrom_31 rfl rfl rfl (ev_iconst (pc := 34) (v := (0)) dX4_copyFrom_34 iconst_c0 (ev_aload_n (pc := 35) dX4_copyFrom_35 rfl (ev_getr (pc := 36) kF_4_18 dX4_copyFrom_36 rfl rfl rfl (ev_iconst (pc := 39) (v := (0)) dX4_copyFrom_39 iconst_c0 (ev_bipush (pc := 40) (v := (6)) dX4_copyFrom_40 bipush_c6 (ev_copy (pc := 42) kA_4_25 dX4_copyFrom_42 rfl rfl rfl rfl rfl (by omega) rfl (?_))))))))
  refine ev_aload_n (pc := 45) dX4_copyFrom_45 rfl (ev_aload_n (pc := 46) dX4_copyFrom_46 rfl (ev_geti (pc := 47) kF_4_21 dX4_copyFrom_47 rfl rfl (ev_puti (pc := 50) kF_4_21 dX4_copyFrom_50 rfl rfl rfl rfl rfl (ev_vret (pc := 53) dX4_copyFrom_53 rfl ?_))))
  refine h _ ⟨fun i h1 h2 => ?_, by simp [ui, ur], fun c hc => ?_⟩
  · have : i = 1 ∨ i = 2 ∨ i = 3 := by omega
    rcases this with rfl | rfl | rfl <;> (funext j; simp [ui, ur])
  · funext j
    simp only [ui, ur]
    rw [if_neg (by omega), if_neg (by omega), if_neg (by omega), if_neg (by omega)]
theorem t_jcopy_52_9 (hd : 1 ≤ d) (h : ∀ I', jcpC I I' 52 9 → Q none (I', J, KR p)) : T d me_X4_copyFrom [.ref 52, .ref 9] L I J p Q := by
  refine am_enter [some (.ref 52), some (.ref 9)] rfl rfl rfl rfl ?_
  refine ev_aload_n (pc := 0) dX4_copyFrom_0 rfl (ev_getr (pc := 1) kF_4_9 dX4_copyFrom_1 rfl rfl rfl (ev_iconst (pc := 4) (v := (0)) dX4_copyFrom_4 iconst_c0 (ev_aload_n (pc := 5) dX4_copyFrom_5 rfl (ev_getr (pc := 6) kF_4_9 dX4_copyFrom_6 rfl rfl rfl (ev_iconst (pc := 9) (v := (0)) dX4_copyFrom_9 iconst_c0 (ev_bipush (pc := 10) (v := (6)) dX4_copyFrom_10 bipush_c6 (ev_copy (pc := 12) kA_4_25 dX4_copyFrom_12 rfl rfl rfl rfl rfl (by omega) rfl (?_))))))))
  refine ev_aload_n (pc := 15) dX4_copyFrom_15 rfl (ev_getr (pc := 16) kF_4_15 dX4_copyFrom_16 rfl rfl rfl (ev_iconst (pc := 19) (v := (0)) dX4_copyFrom_19 iconst_c0 (ev_aload_n (pc := 20) dX4_copyFrom_20 rfl (ev_getr (pc := 21) kF_4_15 dX4_copyFrom_21 rfl rfl rfl (ev_iconst (pc := 24) (v := (0)) dX4_copyFrom_24 iconst_c0 (ev_bipush (pc := 25) (v := (6)) dX4_copyFrom_25 bipush_c6 (ev_copy (pc := 27) kA_4_25 dX4_copyFrom_27 rfl rfl rfl rfl rfl (by omega) rfl (?_))))))))
  refine ev_aload_n (pc := 30) dX4_copyFrom_30 rfl (ev_getr (pc := 31) kF_4_18 dX4_copyFrom_31 rfl rfl rfl (ev_iconst (pc := 34) (v := (0)) dX4_copyFrom_34 iconst_c0 (ev_aload_n (pc := 35) dX4_copyFrom_35 rfl (ev_getr (pc := 36) kF_4_18 dX4_copyFrom_36 rfl rfl rfl (ev_iconst (pc := 39) (v := (0)) dX4_copyFrom_39 iconst_c0 (ev_bipush (pc := 40) (v := (6)) dX4_copyFrom_40 bipush_c6 (ev_copy (pc := 42) kA_4_25 dX4_copyFrom_42 rfl rfl rfl rfl rfl (by omega) rfl (?_))))))))
  refine ev_aload_n (pc := 45) dX4_copyFrom_45 rfl (ev_aload_n (pc := 46) dX4_copyFrom_46 rfl (ev_geti (pc := 47) kF_4_21 dX4_copyFrom_47 rfl rfl (ev_puti (pc := 50) kF_4_21 dX4_copyFrom_50 rfl rfl rfl rfl rfl (ev_vret (pc := 53) dX4_copyFrom_53 rfl ?_))))
  refine h _ ⟨fun i h1 h2 => ?_, by simp [ui, ur], fun c hc => ?_⟩
  · have : i = 1 ∨ i = 2 ∨ i = 3 := by omega
    rcases this with rfl | rfl | rfl <;> (funext j; simp [ui, ur])
  · funext j
    simp only [ui, ur]
    rw [if_neg (by omega), if_neg (by omega), if_neg (by omega), if_neg (by omega)]
theorem t_jcopy_63_9 (hd : 1 ≤ d) (h : ∀ I', jcpC I I' 63 9 → Q none (I', J, KR p)) : T d me_X4_copyFrom [.ref 63, .ref 9] L I J p Q := by
  refine am_enter [some (.ref 63), some (.ref 9)] rfl rfl rfl rfl ?_
  refine ev_aload_n (pc := 0) dX4_copyFrom_0 rfl (ev_getr (pc := 1) kF_4_9 dX4_copyFrom_1 rfl rfl rfl (ev_iconst (pc := 4) (v := (0)) dX4_copyFrom_4 iconst_c0 (ev_aload_n (pc := 5) dX4_copyFrom_5 rfl (ev_getr (pc := 6) kF_4_9 dX4_copyFrom_6 rfl rfl rfl (ev_iconst (pc := 9) (v := (0)) dX4_copyFrom_9 iconst_c0 (ev_bipush (pc := 10) (v := (6)) dX4_copyFrom_10 bipush_c6 (ev_copy (pc := 12) kA_4_25 dX4_copyFrom_12 rfl rfl rfl rfl rfl (by omega) rfl (?_))))))))
  refine ev_aload_n (pc := 15) dX4_copyFrom_15 rfl (ev_getr (pc := 16) kF_4_15 dX4_copyFrom_16 rfl rfl rfl (ev_iconst (pc := 19) (v := (0)) dX4_copyFrom_19 iconst_c0 (ev_aload_n (pc := 20) dX4_copyFrom_20 rfl (ev_getr (pc := 21) kF_4_15 dX4_copyFrom_21 rfl rfl rfl (ev_iconst (pc := 24) (v := (0)) dX4_copyFrom_24 iconst_c0 (ev_bipush (pc := 25) (v := (6)) dX4_copyFrom_25 bipush_c6 (ev_copy (pc := 27) kA_4_25 dX4_copyFrom_27 rfl rfl rfl rfl rfl (by omega) rfl (?_))))))))
  refine ev_aload_n (pc := 30) dX4_copyFrom_30 rfl (ev_getr (pc := 31) kF_4_18 dX4_copyFrom_31 rfl rfl rfl (ev_iconst (pc := 34) (v := (0)) dX4_copyFrom_34 iconst_c0 (ev_aload_n (pc := 35) dX4_copyFrom_35 rfl (ev_getr (pc := 36) kF_4_18 dX4_copyFrom_36 rfl rfl rfl (ev_iconst (pc := 39) (v := (0)) dX4_copyFrom_39 iconst_c0 (ev_bipush (pc := 40) (v := (6)) dX4_copyFrom_40 bipush_c6 (ev_copy (pc := 42) kA_4_25 dX4_copyFrom_42 rfl rfl rfl rfl rfl (by omega) rfl (?_))))))))
  refine ev_aload_n (pc := 45) dX4_copyFrom_45 rfl (ev_aload_n (pc := 46) dX4_copyFrom_46 rfl (ev_geti (pc := 47) kF_4_21 dX4_copyFrom_47 rfl rfl (ev_puti (pc := 50) kF_4_21 dX4_copyFrom_50 rfl rfl rfl rfl rfl (ev_vret (pc := 53) dX4_copyFrom_53 rfl ?_))))
  refine h _ ⟨fun i h1 h2 => ?_, by simp [ui, ur], fun c hc => ?_⟩
  · have : i = 1 ∨ i = 2 ∨ i = 3 := by omega
    rcases this with rfl | rfl | rfl <;> (funext j; simp [ui, ur])
  · funext j
    simp only [ui, ur]
    rw [if_neg (by omega), if_neg (by omega), if_neg (by omega), if_neg (by omega)]
theorem t_jcopy_74_9 (hd : 1 ≤ d) (h : ∀ I', jcpC I I' 74 9 → Q none (I', J, KR p)) : T d me_X4_copyFrom [.ref 74, .ref 9] L I J p Q := by
  refine am_enter [some (.ref 74), some (.ref 9)] rfl rfl rfl rfl ?_
  refine ev_aload_n (pc := 0) dX4_copyFrom_0 rfl (ev_getr (pc := 1) kF_4_9 dX4_copyFrom_1 rfl rfl rfl (ev_iconst (pc := 4) (v := (0)) dX4_copyFrom_4 iconst_c0 (ev_aload_n (pc := 5) dX4_copyFrom_5 rfl (ev_getr (pc := 6) kF_4_9 dX4_copyFrom_6 rfl rfl rfl (ev_iconst (pc := 9) (v := (0)) dX4_copyFrom_9 iconst_c0 (ev_bipush (pc := 10) (v := (6)) dX4_copyFrom_10 bipush_c6 (ev_copy (pc := 12) kA_4_25 dX4_copyFrom_12 rfl rfl rfl rfl rfl (by omega) rfl (?_))))))))
  refine ev_aload_n (pc := 15) dX4_copyFrom_15 rfl (ev_getr (pc := 16) kF_4_15 dX4_copyFrom_16 rfl rfl rfl (ev_iconst (pc := 19) (v := (0)) dX4_copyFrom_19 iconst_c0 (ev_aload_n (pc := 20) dX4_copyFrom_20 rfl (ev_getr (pc := 21) kF_4_15 dX4_copyFrom_21 rfl rfl rfl (ev_iconst (pc := 24) (v := (0)) dX4_copyFrom_24 iconst_c0 (ev_bipush (pc := 25) (v := (6)) dX4_copyFrom_25 bipush_c6 (ev_copy (pc := 27) kA_4_25 dX4_copyFrom_27 rfl rfl rfl rfl rfl (by omega) rfl (?_))))))))
  refine ev_aload_n (pc := 30) dX4_copyFrom_30 rfl (ev_getr (pc := 31) kF_4_18 dX4_copyFrom_31 rfl rfl rfl (ev_iconst (pc := 34) (v := (0)) dX4_copyFrom_34 iconst_c0 (ev_aload_n (pc := 35) dX4_copyFrom_35 rfl (ev_getr (pc := 36) kF_4_18 dX4_copyFrom_36 rfl rfl rfl (ev_iconst (pc := 39) (v := (0)) dX4_copyFrom_39 iconst_c0 (ev_bipush (pc := 40) (v := (6)) dX4_copyFrom_40 bipush_c6 (ev_copy (pc := 42) kA_4_25 dX4_copyFrom_42 rfl rfl rfl rfl rfl (by omega) rfl (?_))))))))
  refine ev_aload_n (pc := 45) dX4_copyFrom_45 rfl (ev_aload_n (pc := 46) dX4_copyFrom_46 rfl (ev_geti (pc := 47) kF_4_21 dX4_copyFrom_47 rfl rfl (ev_puti (pc := 50) kF_4_21 dX4_copyFrom_50 rfl rfl rfl rfl rfl (ev_vret (pc := 53) dX4_copyFrom_53 rfl ?_))))
  refine h _ ⟨fun i h1 h2 => ?_, by simp [ui, ur], fun c hc => ?_⟩
  · have : i = 1 ∨ i = 2 ∨ i = 3 := by omega
    rcases this with rfl | rfl | rfl <;> (funext j; simp [ui, ur])
  · funext j
    simp only [ui, ur]
    rw [if_neg (by omega), if_neg (by omega), if_neg (by omega), if_neg (by omega)]
theorem t_jcopy_9_30 (hd : 1 ≤ d) (h : ∀ I', jcpC I I' 9 30 → Q none (I', J, KR p)) : T d me_X4_copyFrom [.ref 9, .ref 30] L I J p Q := by
  refine am_enter [some (.ref 9), some (.ref 30)] rfl rfl rfl rfl ?_
  refine ev_aload_n (pc := 0) dX4_copyFrom_0 rfl (ev_getr (pc := 1) kF_4_9 dX4_copyFrom_1 rfl rfl rfl (ev_iconst (pc := 4) (v := (0)) dX4_copyFrom_4 iconst_c0 (ev_aload_n (pc := 5) dX4_copyFrom_5 rfl (ev_getr (pc := 6) kF_4_9 dX4_copyFrom_6 rfl rfl rfl (ev_iconst (pc := 9) (v := (0)) dX4_copyFrom_9 iconst_c0 (ev_bipush (pc := 10) (v := (6)) dX4_copyFrom_10 bipush_c6 (ev_copy (pc := 12) kA_4_25 dX4_copyFrom_12 rfl rfl rfl rfl rfl (by omega) rfl (?_))))))))
  refine ev_aload_n (pc := 15) dX4_copyFrom_15 rfl (ev_getr (pc := 16) kF_4_15 dX4_copyFrom_16 rfl rfl rfl (ev_iconst (pc := 19) (v := (0)) dX4_copyFrom_19 iconst_c0 (ev_aload_n (pc := 20) dX4_copyFrom_20 rfl (ev_getr (pc := 21) kF_4_15 dX4_copyFrom_21 rfl rfl rfl (ev_iconst (pc := 24) (v := (0)) dX4_copyFrom_24 iconst_c0 (ev_bipush (pc := 25) (v := (6)) dX4_copyFrom_25 bipush_c6 (ev_copy (pc := 27) kA_4_25 dX4_copyFrom_27 rfl rfl rfl rfl rfl (by omega) rfl (?_))))))))
  refine ev_aload_n (pc := 30) dX4_copyFrom_30 rfl (ev_getr (pc := 31) kF_4_18 dX4_copyFrom_31 rfl rfl rfl (ev_iconst (pc := 34) (v := (0)) dX4_copyFrom_34 iconst_c0 (ev_aload_n (pc := 35) dX4_copyFrom_35 rfl (ev_getr (pc := 36) kF_4_18 dX4_copyFrom_36 rfl rfl rfl (ev_iconst (pc := 39) (v := (0)) dX4_copyFrom_39 iconst_c0 (ev_bipush (pc := 40) (v := (6)) dX4_copyFrom_40 bipush_c6 (ev_copy (pc := 42) kA_4_25 dX4_copyFrom_42 rfl rfl rfl rfl rfl (by omega) rfl (?_))))))))
  refine ev_aload_n (pc := 45) dX4_copyFrom_45 rfl (ev_aload_n (pc := 46) dX4_copyFrom_46 rfl (ev_geti (pc := 47) kF_4_21 dX4_copyFrom_47 rfl rfl (ev_puti (pc := 50) kF_4_21 dX4_copyFrom_50 rfl rfl rfl rfl rfl (ev_vret (pc := 53) dX4_copyFrom_53 rfl ?_))))
  refine h _ ⟨fun i h1 h2 => ?_, by simp [ui, ur], fun c hc => ?_⟩
  · have : i = 1 ∨ i = 2 ∨ i = 3 := by omega
    rcases this with rfl | rfl | rfl <;> (funext j; simp [ui, ur])
  · funext j
    simp only [ui, ur]
    rw [if_neg (by omega), if_neg (by omega), if_neg (by omega), if_neg (by omega)]
theorem t_jcopy_9_41 (hd : 1 ≤ d) (h : ∀ I', jcpC I I' 9 41 → Q none (I', J, KR p)) : T d me_X4_copyFrom [.ref 9, .ref 41] L I J p Q := by
  refine am_enter [some (.ref 9), some (.ref 41)] rfl rfl rfl rfl ?_
  refine ev_aload_n (pc := 0) dX4_copyFrom_0 rfl (ev_getr (pc := 1) kF_4_9 dX4_copyFrom_1 rfl rfl rfl (ev_iconst (pc := 4) (v := (0)) dX4_copyFrom_4 iconst_c0 (ev_aload_n (pc := 5) dX4_copyFrom_5 rfl (ev_getr (pc := 6) kF_4_9 dX4_copyFrom_6 rfl rfl rfl (ev_iconst (pc := 9) (v := (0)) dX4_copyFrom_9 iconst_c0 (ev_bipush (pc := 10) (v := (6)) dX4_copyFrom_10 bipush_c6 (ev_copy (pc := 12) kA_4_25 dX4_copyFrom_12 rfl rfl rfl rfl rfl (by omega) rfl (?_))))))))
  refine ev_aload_n (pc := 15) dX4_copyFrom_15 rfl (ev_getr (pc := 16) kF_4_15 dX4_copyFrom_16 rfl rfl rfl (ev_iconst (pc := 19) (v := (0)) dX4_copyFrom_19 iconst_c0 (ev_aload_n (pc := 20) dX4_copyFrom_20 rfl (ev_getr (pc := 21) kF_4_15 dX4_copyFrom_21 rfl rfl rfl (ev_iconst (pc := 24) (v := (0)) dX4_copyFrom_24 iconst_c0 (ev_bipush (pc := 25) (v := (6)) dX4_copyFrom_25 bipush_c6 (ev_copy (pc := 27) kA_4_25 dX4_copyFrom_27 rfl rfl rfl rfl rfl (by omega) rfl (?_))))))))
  refine ev_aload_n (pc := 30) dX4_copyFrom_30 rfl (ev_getr (pc := 31) kF_4_18 dX4_copyFrom_31 rfl rfl rfl (ev_iconst (pc := 34) (v := (0)) dX4_copyFrom_34 iconst_c0 (ev_aload_n (pc := 35) dX4_copyFrom_35 rfl (ev_getr (pc := 36) kF_4_18 dX4_copyFrom_36 rfl rfl rfl (ev_iconst (pc := 39) (v := (0)) dX4_copyFrom_39 iconst_c0 (ev_bipush (pc := 40) (v := (6)) dX4_copyFrom_40 bipush_c6 (ev_copy (pc := 42) kA_4_25 dX4_copyFrom_42 rfl rfl rfl rfl rfl (by omega) rfl (?_))))))))
  refine ev_aload_n (pc := 45) dX4_copyFrom_45 rfl (ev_aload_n (pc := 46) dX4_copyFrom_46 rfl (ev_geti (pc := 47) kF_4_21 dX4_copyFrom_47 rfl rfl (ev_puti (pc := 50) kF_4_21 dX4_copyFrom_50 rfl rfl rfl rfl rfl (ev_vret (pc := 53) dX4_copyFrom_53 rfl ?_))))
  refine h _ ⟨fun i h1 h2 => ?_, by simp [ui, ur], fun c hc => ?_⟩
  · have : i = 1 ∨ i = 2 ∨ i = 3 := by omega
    rcases this with rfl | rfl | rfl <;> (funext j; simp [ui, ur])
  · funext j
    simp only [ui, ur]
    rw [if_neg (by omega), if_neg (by omega), if_neg (by omega), if_neg (by omega)]
theorem t_jcopy_9_52 (hd : 1 ≤ d) (h : ∀ I', jcpC I I' 9 52 → Q none (I', J, KR p)) : T d me_X4_copyFrom [.ref 9, .ref 52] L I J p Q := by
  refine am_enter [some (.ref 9), some (.ref 52)] rfl rfl rfl rfl ?_
  refine ev_aload_n (pc := 0) dX4_copyFrom_0 rfl (ev_getr (pc := 1) kF_4_9 dX4_copyFrom_1 rfl rfl rfl (ev_iconst (pc := 4) (v := (0)) dX4_copyFrom_4 iconst_c0 (ev_aload_n (pc := 5) dX4_copyFrom_5 rfl (ev_getr (pc := 6) kF_4_9 dX4_copyFrom_6 rfl rfl rfl (ev_iconst (pc := 9) (v := (0)) dX4_copyFrom_9 iconst_c0 (ev_bipush (pc := 10) (v := (6)) dX4_copyFrom_10 bipush_c6 (ev_copy (pc := 12) kA_4_25 dX4_copyFrom_12 rfl rfl rfl rfl rfl (by omega) rfl (?_))))))))
  refine ev_aload_n (pc := 15) dX4_copyFrom_15 rfl (ev_getr (pc := 16) kF_4_15 dX4_copyFrom_16 rfl rfl rfl (ev_iconst (pc := 19) (v := (0)) dX4_copyFrom_19 iconst_c0 (ev_aload_n (pc := 20) dX4_copyFrom_20 rfl (ev_getr (pc := 21) kF_4_15 dX4_copyFrom_21 rfl rfl rfl (ev_iconst (pc := 24) (v := (0)) dX4_copyFrom_24 iconst_c0 (ev_bipush (pc := 25) (v := (6)) dX4_copyFrom_25 bipush_c6 (ev_copy (pc := 27) kA_4_25 dX4_copyFrom_27 rfl rfl rfl rfl rfl (by omega) rfl (?_))))))))
  refine ev_aload_n (pc := 30) dX4_copyFrom_30 rfl (ev_getr (pc := 31) kF_4_18 dX4_copyFrom_31 rfl rfl rfl (ev_iconst (pc := 34) (v := (0)) dX4_copyFrom_34 iconst_c0 (ev_aload_n (pc := 35) dX4_copyFrom_35 rfl (ev_getr (pc := 36) kF_4_18 dX4_copyFrom_36 rfl rfl rfl (ev_iconst (pc := 39) (v := (0)) dX4_copyFrom_39 iconst_c0 (ev_bipush (pc := 40) (v := (6)) dX4_copyFrom_40 bipush_c6 (ev_copy (pc := 42) kA_4_25 dX4_copyFrom_42 rfl rfl rfl rfl rfl (by omega) rfl (?_))))))))
  refine ev_aload_n (pc := 45) dX4_copyFrom_45 rfl (ev_aload_n (pc := 46) dX4_copyFrom_46 rfl (ev_geti (pc := 47) kF_4_21 dX4_copyFrom_47 rfl rfl (ev_puti (pc := 50) kF_4_21 dX4_copyFrom_50 rfl rfl rfl rfl rfl (ev_vret (pc := 53) dX4_copyFrom_53 rfl ?_))))
  refine h _ ⟨fun i h1 h2 => ?_, by simp [ui, ur], fun c hc => ?_⟩
  · have : i = 1 ∨ i = 2 ∨ i = 3 := by omega
    rcases this with rfl | rfl | rfl <;> (funext j; simp [ui, ur])
  · funext j
    simp only [ui, ur]
    rw [if_neg (by omega), if_neg (by omega), if_neg (by omega), if_neg (by omega)]
theorem t_jcopy_9_63 (hd : 1 ≤ d) (h : ∀ I', jcpC I I' 9 63 → Q none (I', J, KR p)) : T d me_X4_copyFrom [.ref 9, .ref 63] L I J p Q := by
  refine am_enter [some (.ref 9), some (.ref 63)] rfl rfl rfl rfl ?_
  refine ev_aload_n (pc := 0) dX4_copyFrom_0 rfl (ev_getr (pc := 1) kF_4_9 dX4_copyFrom_1 rfl rfl rfl (ev_iconst (pc := 4) (v := (0)) dX4_copyFrom_4 iconst_c0 (ev_aload_n (pc := 5) dX4_copyFrom_5 rfl (ev_getr (pc := 6) kF_4_9 dX4_copyFrom_6 rfl rfl rfl (ev_iconst (pc := 9) (v := (0)) dX4_copyFrom_9 iconst_c0 (ev_bipush (pc := 10) (v := (6)) dX4_copyFrom_10 bipush_c6 (ev_copy (pc := 12) kA_4_25 dX4_copyFrom_12 rfl rfl rfl rfl rfl (by omega) rfl (?_))))))))
  refine ev_aload_n (pc := 15) dX4_copyFrom_15 rfl (ev_getr (pc := 16) kF_4_15 dX4_copyFrom_16 rfl rfl rfl (ev_iconst (pc := 19) (v := (0)) dX4_copyFrom_19 iconst_c0 (ev_aload_n (pc := 20) dX4_copyFrom_20 rfl (ev_getr (pc := 21) kF_4_15 dX4_copyFrom_21 rfl rfl rfl (ev_iconst (pc := 24) (v := (0)) dX4_copyFrom_24 iconst_c0 (ev_bipush (pc := 25) (v := (6)) dX4_copyFrom_25 bipush_c6 (ev_copy (pc := 27) kA_4_25 dX4_copyFrom_27 rfl rfl rfl rfl rfl (by omega) rfl (?_))))))))
  refine ev_aload_n (pc := 30) dX4_copyFrom_30 rfl (ev_getr (pc := 31) kF_4_18 dX4_copyFrom_31 rfl rfl rfl (ev_iconst (pc := 34) (v := (0)) dX4_copyFrom_34 iconst_c0 (ev_aload_n (pc := 35) dX4_copyFrom_35 rfl (ev_getr (pc := 36) kF_4_18 dX4_copyFrom_36 rfl rfl rfl (ev_iconst (pc := 39) (v := (0)) dX4_copyFrom_39 iconst_c0 (ev_bipush (pc := 40) (v := (6)) dX4_copyFrom_40 bipush_c6 (ev_copy (pc := 42) kA_4_25 dX4_copyFrom_42 rfl rfl rfl rfl rfl (by omega) rfl (?_))))))))
  refine ev_aload_n (pc := 45) dX4_copyFrom_45 rfl (ev_aload_n (pc := 46) dX4_copyFrom_46 rfl (ev_geti (pc := 47) kF_4_21 dX4_copyFrom_47 rfl rfl (ev_puti (pc := 50) kF_4_21 dX4_copyFrom_50 rfl rfl rfl rfl rfl (ev_vret (pc := 53) dX4_copyFrom_53 rfl ?_))))
  refine h _ ⟨fun i h1 h2 => ?_, by simp [ui, ur], fun c hc => ?_⟩
  · have : i = 1 ∨ i = 2 ∨ i = 3 := by omega
    rcases this with rfl | rfl | rfl <;> (funext j; simp [ui, ur])
  · funext j
    simp only [ui, ur]
    rw [if_neg (by omega), if_neg (by omega), if_neg (by omega), if_neg (by omega)]
theorem t_jcopy_9_74 (hd : 1 ≤ d) (h : ∀ I', jcpC I I' 9 74 → Q none (I', J, KR p)) : T d me_X4_copyFrom [.ref 9, .ref 74] L I J p Q := by
  refine am_enter [some (.ref 9), some (.ref 74)] rfl rfl rfl rfl ?_
  refine ev_aload_n (pc := 0) dX4_copyFrom_0 rfl (ev_getr (pc := 1) kF_4_9 dX4_copyFrom_1 rfl rfl rfl (ev_iconst (pc := 4) (v := (0)) dX4_copyFrom_4 iconst_c0 (ev_aload_n (pc := 5) dX4_copyFrom_5 rfl (ev_getr (pc := 6) kF_4_9 dX4_copyFrom_6 rfl rfl rfl (ev_iconst (pc := 9) (v := (0)) dX4_copyFrom_9 iconst_c0 (ev_bipush (pc := 10) (v := (6)) dX4_copyFrom_10 bipush_c6 (ev_copy (pc := 12) kA_4_25 dX4_copyFrom_12 rfl rfl rfl rfl rfl (by omega) rfl (?_))))))))
  refine ev_aload_n (pc := 15) dX4_copyFrom_15 rfl (ev_getr (pc := 16) kF_4_15 dX4_copyFrom_16 rfl rfl rfl (ev_iconst (pc := 19) (v := (0)) dX4_copyFrom_19 iconst_c0 (ev_aload_n (pc := 20) dX4_copyFrom_20 rfl (ev_getr (pc := 21) kF_4_15 dX4_copyFrom_21 rfl rfl rfl (ev_iconst (pc := 24) (v := (0)) dX4_copyFrom_24 iconst_c0 (ev_bipush (pc := 25) (v := (6)) dX4_copyFrom_25 bipush_c6 (ev_copy (pc := 27) kA_4_25 dX4_copyFrom_27 rfl rfl rfl rfl rfl (by omega) rfl (?_))))))))
  refine ev_aload_n (pc := 30) dX4_copyFrom_30 rfl (ev_getr (pc := 31) kF_4_18 dX4_copyFrom_31 rfl rfl rfl (ev_iconst (pc := 34) (v := (0)) dX4_copyFrom_34 iconst_c0 (ev_aload_n (pc := 35) dX4_copyFrom_35 rfl (ev_getr (pc := 36) kF_4_18 dX4_copyFrom_36 rfl rfl rfl (ev_iconst (pc := 39) (v := (0)) dX4_copyFrom_39 iconst_c0 (ev_bipush (pc := 40) (v := (6)) dX4_copyFrom_40 bipush_c6 (ev_copy (pc := 42) kA_4_25 dX4_copyFrom_42 rfl rfl rfl rfl rfl (by omega) rfl (?_))))))))
  refine ev_aload_n (pc := 45) dX4_copyFrom_45 rfl (ev_aload_n (pc := 46) dX4_copyFrom_46 rfl (ev_geti (pc := 47) kF_4_21 dX4_copyFrom_47 rfl rfl (ev_puti (pc := 50) kF_4_21 dX4_copyFrom_50 rfl rfl rfl rfl rfl (ev_vret (pc := 53) dX4_copyFrom_53 rfl ?_))))
  refine h _ ⟨fun i h1 h2 => ?_, by simp [ui, ur], fun c hc => ?_⟩
  · have : i = 1 ∨ i = 2 ∨ i = 3 := by omega
    rcases this with rfl | rfl | rfl <;> (funext j; simp [ui, ur])
  · funext j
    simp only [ui, ur]
    rw [if_neg (by omega), if_neg (by omega), if_neg (by omega), if_neg (by omega)]
theorem t_copy_23_2 (hd : 2 ≤ d) (h : ∀ I', copC I I' 23 2 → Q none (I', J, KR p)) : T d me_X0_copyFrom [.ref 23, .ref 2] L I J p Q := by
  refine am_enter [some (.ref 23), some (.ref 2)] rfl rfl rfl rfl ?_
  refine ev_aload_n (pc := 0) dX0_copyFrom_0 rfl (ev_getr (pc := 1) kF_0_9 dX0_copyFrom_1 rfl rfl rfl (ev_iconst (pc := 4) (v := (0)) dX0_copyFrom_4 iconst_c0 (ev_aload_n (pc := 5) dX0_copyFrom_5 rfl (ev_getr (pc := 6) kF_0_9 dX0_copyFrom_6 rfl rfl rfl (ev_iconst (pc := 9) (v := (0)) dX0_copyFrom_9 iconst_c0 (ev_bipush (pc := 10) (v := (40)) dX0_copyFrom_10 bipush_c40 (ev_copy (pc := 12) kA_0_37 dX0_copyFrom_12 rfl rfl rfl rfl rfl (by omega) rfl (?_))))))))
  refine ev_aload_n (pc := 15) dX0_copyFrom_15 rfl (ev_getr (pc := 16) kF_0_15 dX0_copyFrom_16 rfl rfl rfl (ev_iconst (pc := 19) (v := (0)) dX0_copyFrom_19 iconst_c0 (ev_aload_n (pc := 20) dX0_copyFrom_20 rfl (ev_getr (pc := 21) kF_0_15 dX0_copyFrom_21 rfl rfl rfl (ev_iconst (pc := 24) (v := (0)) dX0_copyFrom_24 iconst_c0 (ev_bipush (pc := 25) (v := (40)) dX0_copyFrom_25 bipush_c40 (ev_copy (pc := 27) kA_0_37 dX0_copyFrom_27 rfl rfl rfl rfl rfl (by omega) rfl (?_))))))))
  refine ev_aload_n (pc := 30) dX0_copyFrom_30 rfl (ev_getr (pc := 31) kF_0_18 dX0_copyFrom_31 rfl rfl rfl (ev_iconst (pc := 34) (v := (0)) dX0_copyFrom_34 iconst_c0 (ev_aload_n (pc := 35) dX0_copyFrom_35 rfl (ev_getr (pc := 36) kF_0_18 dX0_copyFrom_36 rfl rfl rfl (ev_iconst (pc := 39) (v := (0)) dX0_copyFrom_39 iconst_c0 (ev_bipush (pc := 40) (v := (40)) dX0_copyFrom_40 bipush_c40 (ev_copy (pc := 42) kA_0_37 dX0_copyFrom_42 rfl rfl rfl rfl rfl (by omega) rfl (?_))))))))
  refine ev_aload_n (pc := 45) dX0_copyFrom_45 rfl (ev_getr (pc := 46) kF_0_21 dX0_copyFrom_46 rfl rfl rfl (ev_iconst (pc := 49) (v := (0)) dX0_copyFrom_49 iconst_c0 (ev_aload_n (pc := 50) dX0_copyFrom_50 rfl (ev_getr (pc := 51) kF_0_21 dX0_copyFrom_51 rfl rfl rfl (ev_iconst (pc := 54) (v := (0)) dX0_copyFrom_54 iconst_c0 (ev_bipush (pc := 55) (v := (40)) dX0_copyFrom_55 bipush_c40 (ev_copy (pc := 57) kA_0_37 dX0_copyFrom_57 rfl rfl rfl rfl rfl (by omega) rfl (?_))))))))
  refine ev_aload_n (pc := 60) dX0_copyFrom_60 rfl (ev_getr (pc := 61) kF_0_24 dX0_copyFrom_61 rfl rfl rfl (ev_iconst (pc := 64) (v := (0)) dX0_copyFrom_64 iconst_c0 (ev_aload_n (pc := 65) dX0_copyFrom_65 rfl (ev_getr (pc := 66) kF_0_24 dX0_copyFrom_66 rfl rfl rfl (ev_iconst (pc := 69) (v := (0)) dX0_copyFrom_69 iconst_c0 (ev_bipush (pc := 70) (v := (40)) dX0_copyFrom_70 bipush_c40 (ev_copy (pc := 72) kA_0_37 dX0_copyFrom_72 rfl rfl rfl rfl rfl (by omega) rfl (?_))))))))
  refine ev_aload_n (pc := 75) dX0_copyFrom_75 rfl (ev_getr (pc := 76) kF_0_27 dX0_copyFrom_76 rfl rfl rfl (ev_iconst (pc := 79) (v := (0)) dX0_copyFrom_79 iconst_c0 (ev_aload_n (pc := 80) dX0_copyFrom_80 rfl (ev_getr (pc := 81) kF_0_27 dX0_copyFrom_81 rfl rfl rfl (ev_iconst (pc := 84) (v := (0)) dX0_copyFrom_84 iconst_c0 (ev_bipush (pc := 85) (v := (30)) dX0_copyFrom_85 bipush_c30 (ev_copy (pc := 87) kA_0_37 dX0_copyFrom_87 rfl rfl rfl rfl rfl (by omega) rfl (?_))))))))
  refine ev_aload_n (pc := 90) dX0_copyFrom_90 rfl (ev_getr (pc := 91) kF_0_33 dX0_copyFrom_91 rfl rfl rfl (ev_aload_n (pc := 94) dX0_copyFrom_94 rfl (ev_getr (pc := 95) kF_0_33 dX0_copyFrom_95 rfl rfl rfl (ev_invV (pc := 98) kV_0_43 dX0_copyFrom_98 rfl rfl rfl (by omega) rfl ?_))))
  refine t_jcopy_30_9 (by omega) fun I1 h1 => ?_
  refine ev_aload_n (pc := 101) dX0_copyFrom_101 rfl (ev_aload_n (pc := 102) dX0_copyFrom_102 rfl (ev_geti (pc := 103) kF_0_47 dX0_copyFrom_103 rfl rfl (ev_puti (pc := 106) kF_0_47 dX0_copyFrom_106 rfl rfl rfl rfl rfl (ev_aload_n (pc := 109) dX0_copyFrom_109 rfl (ev_aload_n (pc := 110) dX0_copyFrom_110 rfl (ev_geti (pc := 111) kF_0_51 dX0_copyFrom_111 rfl rfl (ev_puti (pc := 114) kF_0_51 dX0_copyFrom_114 rfl rfl rfl rfl rfl (ev_aload_n (pc := 117) dX0_copyFrom_117 rfl (ev_aload_n (pc := 118) dX0_copyFrom_118 rfl (ev_geti (pc := 119) kF_0_54 dX0_copyFrom_119 rfl rfl (ev_puti (pc := 122) kF_0_54 dX0_copyFrom_122 rfl rfl rfl rfl rfl (ev_vret (pc := 125) dX0_copyFrom_125 rfl ?_))))))))))))
  obtain ⟨g1, g2, g3⟩ := h1
  refine h _ ⟨fun i hi => ?_, ?_, fun i h1 h2 => ?_, fun c hc => ?_⟩
  · have : i = 1 ∨ i = 2 ∨ i = 3 ∨ i = 4 ∨ i = 5 ∨ i = 6 ∨ i = 8 ∨ i = 9 ∨ i = 10 := by omega
    rcases this with rfl | rfl | rfl | rfl | rfl | rfl | rfl | rfl | rfl
    all_goals
      funext j
      simp only [ui]
      rw [if_neg (by omega), if_neg (by omega), if_neg (by omega)]
    · rw [g3 _ (by omega)]; simp [ur]
    · rw [g3 _ (by omega)]; simp [ur]
    · rw [g3 _ (by omega)]; simp [ur]
    · rw [g3 _ (by omega)]; simp [ur]
    · rw [g3 _ (by omega)]; simp [ur]
    · rw [g3 _ (by omega)]; simp [ur]
    · rw [g1 1 (by omega) (by omega)]; simp [ur]
    · rw [g1 2 (by omega) (by omega)]; simp [ur]
    · rw [g1 3 (by omega) (by omega)]; simp [ur]
  · simp only [ui]
    rw [if_neg (by omega), if_neg (by omega), if_neg (by omega), g2]
    simp [ur]
  · have : i = 7 ∨ i = 8 ∨ i = 9 := by omega
    have e2 : I1 2 = I 2 := by rw [g3 _ (by omega)]; funext j; simp [ur]
    rcases this with rfl | rfl | rfl <;> simp [ui, e2]
  · rw [show I c = I1 c by rw [g3 _ (by omega)]; funext j; simp only [ur]; rw [if_neg (by omega), if_neg (by omega), if_neg (by omega), if_neg (by omega), if_neg (by omega), if_neg (by omega)]]
    funext j
    simp only [ui]
    rw [if_neg (by omega), if_neg (by omega), if_neg (by omega)]
theorem t_copy_34_2 (hd : 2 ≤ d) (h : ∀ I', copC I I' 34 2 → Q none (I', J, KR p)) : T d me_X0_copyFrom [.ref 34, .ref 2] L I J p Q := by
  refine am_enter [some (.ref 34), some (.ref 2)] rfl rfl rfl rfl ?_
  refine ev_aload_n (pc := 0) dX0_copyFrom_0 rfl (ev_getr (pc := 1) kF_0_9 dX0_copyFrom_1 rfl rfl rfl (ev_iconst (pc := 4) (v := (0)) dX0_copyFrom_4 iconst_c0 (ev_aload_n (pc := 5) dX0_copyFrom_5 rfl (ev_getr (pc := 6) kF_0_9 dX0_copyFrom_6 rfl rfl rfl (ev_iconst (pc := 9) (v := (0)) dX0_copyFrom_9 iconst_c0 (ev_bipush (pc := 10) (v := (40)) dX0_copyFrom_10 bipush_c40 (ev_copy (pc := 12) kA_0_37 dX0_copyFrom_12 rfl rfl rfl rfl rfl (by omega) rfl (?_))))))))
  refine ev_aload_n (pc := 15) dX0_copyFrom_15 rfl (ev_getr (pc := 16) kF_0_15 dX0_copyFrom_16 rfl rfl rfl (ev_iconst (pc := 19) (v := (0)) dX0_copyFrom_19 iconst_c0 (ev_aload_n (pc := 20) dX0_copyFrom_20 rfl (ev_getr (pc := 21) kF_0_15 dX0_copyFrom_21 rfl rfl rfl (ev_iconst (pc := 24) (v := (0)) dX0_copyFrom_24 iconst_c0 (ev_bipush (pc := 25) (v := (40)) dX0_copyFrom_25 bipush_c40 (ev_copy (pc := 27) kA_0_37 dX0_copyFrom_27 rfl rfl rfl rfl rfl (by omega) rfl (?_))))))))
  refine ev_aload_n (pc := 30) dX0_copyFrom_30 rfl (ev_getr (pc := 31) kF_0_18 dX0_copyFrom_31 rfl rfl rfl (ev_iconst (pc := 34) (v := (0)) dX0_copyFrom_34 iconst_c0 (ev_aload_n (pc := 35) dX0_copyFrom_35 rfl (ev_getr (pc := 36) kF_0_18 dX0_copyFrom_36 rfl rfl rfl (ev_iconst (pc := 39) (v := (0)) dX0_copyFrom_39 iconst_c0 (ev_bipush (pc := 40) (v := (40)) dX0_copyFrom_40 bipush_c40 (ev_copy (pc := 42) kA_0_37 dX0_copyFrom_42 rfl rfl rfl rfl rfl (by omega) rfl (?_))))))))
  refine ev_aload_n (pc := 45) dX0_copyFrom_45 rfl (ev_getr (pc := 46) kF_0_21 dX0_copyFrom_46 rfl rfl rfl (ev_iconst (pc := 49) (v := (0)) dX0_copyFrom_49 iconst_c0 (ev_aload_n (pc := 50) dX0_copyFrom_50 rfl (ev_getr (pc := 51) kF_0_21 dX0_copyFrom_51 rfl rfl rfl (ev_iconst (pc := 54) (v := (0)) dX0_copyFrom_54 iconst_c0 (ev_bipush (pc := 55) (v := (40)) dX0_copyFrom_55 bipush_c40 (ev_copy (pc := 57) kA_0_37 dX0_copyFrom_57 rfl rfl rfl rfl rfl (by omega) rfl (?_))))))))
  refine ev_aload_n (pc := 60) dX0_copyFrom_60 rfl (ev_getr (pc := 61) kF_0_24 dX0_copyFrom_61 rfl rfl rfl (ev_iconst (pc := 64) (v := (0)) dX0_copyFrom_64 iconst_c0 (ev_aload_n (pc := 65) dX0_copyFrom_65 rfl (ev_getr (pc := 66) kF_0_24 dX0_copyFrom_66 rfl rfl rfl (ev_iconst (pc := 69) (v := (0)) dX0_copyFrom_69 iconst_c0 (ev_bipush (pc := 70) (v := (40)) dX0_copyFrom_70 bipush_c40 (ev_copy (pc := 72) kA_0_37 dX0_copyFrom_72 rfl rfl rfl rfl rfl (by omega) rfl (?_))))))))
  refine ev_aload_n (pc := 75) dX0_copyFrom_75 rfl (ev_getr (pc := 76) kF_0_27 dX0_copyFrom_76 rfl rfl rfl (ev_iconst (pc := 79) (v := (0)) dX0_copyFrom_79 iconst_c0 (ev_aload_n (pc := 80) dX0_copyFrom_80 rfl (ev_getr (pc := 81) kF_0_27 dX0_copyFrom_81 rfl rfl rfl (ev_iconst (pc := 84) (v := (0)) dX0_copyFrom_84 iconst_c0 (ev_bipush (pc := 85) (v := (30)) dX0_copyFrom_85 bipush_c30 (ev_copy (pc := 87) kA_0_37 dX0_copyFrom_87 rfl rfl rfl rfl rfl (by omega) rfl (?_))))))))
  refine ev_aload_n (pc := 90) dX0_copyFrom_90 rfl (ev_getr (pc := 91) kF_0_33 dX0_copyFrom_91 rfl rfl rfl (ev_aload_n (pc := 94) dX0_copyFrom_94 rfl (ev_getr (pc := 95) kF_0_33 dX0_copyFrom_95 rfl rfl rfl (ev_invV (pc := 98) kV_0_43 dX0_copyFrom_98 rfl rfl rfl (by omega) rfl ?_))))
  refine t_jcopy_41_9 (by omega) fun I1 h1 => ?_
  refine ev_aload_n (pc := 101) dX0_copyFrom_101 rfl (ev_aload_n (pc := 102) dX0_copyFrom_102 rfl (ev_geti (pc := 103) kF_0_47 dX0_copyFrom_103 rfl rfl (ev_puti (pc := 106) kF_0_47 dX0_copyFrom_106 rfl rfl rfl rfl rfl (ev_aload_n (pc := 109) dX0_copyFrom_109 rfl (ev_aload_n (pc := 110) dX0_copyFrom_110 rfl (ev_geti (pc := 111) kF_0_51 dX0_copyFrom_111 rfl rfl (ev_puti (pc := 114) kF_0_51 dX0_copyFrom_114 rfl rfl rfl rfl rfl (ev_aload_n (pc := 117) dX0_copyFrom_117 rfl (ev_aload_n (pc := 118) dX0_copyFrom_118 rfl (ev_geti (pc := 119) kF_0_54 dX0_copyFrom_119 rfl rfl (ev_puti (pc := 122) kF_0_54 dX0_copyFrom_122 rfl rfl rfl rfl rfl (ev_vret (pc := 125) dX0_copyFrom_125 rfl ?_))))))))))))
  obtain ⟨g1, g2, g3⟩ := h1
  refine h _ ⟨fun i hi => ?_, ?_, fun i h1 h2 => ?_, fun c hc => ?_⟩
  · have : i = 1 ∨ i = 2 ∨ i = 3 ∨ i = 4 ∨ i = 5 ∨ i = 6 ∨ i = 8 ∨ i = 9 ∨ i = 10 := by omega
    rcases this with rfl | rfl | rfl | rfl | rfl | rfl | rfl | rfl | rfl
    all_goals
      funext j
      simp only [ui]
      rw [if_neg (by omega), if_neg (by omega), if_neg (by omega)]
    · rw [g3 _ (by omega)]; simp [ur]
    · rw [g3 _ (by omega)]; simp [ur]
    · rw [g3 _ (by omega)]; simp [ur]
    · rw [g3 _ (by omega)]; simp [ur]
    · rw [g3 _ (by omega)]; simp [ur]
    · rw [g3 _ (by omega)]; simp [ur]
    · rw [g1 1 (by omega) (by omega)]; simp [ur]
    · rw [g1 2 (by omega) (by omega)]; simp [ur]
    · rw [g1 3 (by omega) (by omega)]; simp [ur]
  · simp only [ui]
    rw [if_neg (by omega), if_neg (by omega), if_neg (by omega), g2]
    simp [ur]
  · have : i = 7 ∨ i = 8 ∨ i = 9 := by omega
    have e2 : I1 2 = I 2 := by rw [g3 _ (by omega)]; funext j; simp [ur]
    rcases this with rfl | rfl | rfl <;> simp [ui, e2]
  · rw [show I c = I1 c by rw [g3 _ (by omega)]; funext j; simp only [ur]; rw [if_neg (by omega), if_neg (by omega), if_neg (by omega), if_neg (by omega), if_neg (by omega), if_neg (by omega)]]
    funext j
    simp only [ui]
    rw [if_neg (by omega), if_neg (by omega), if_neg (by omega)]
theorem t_copy_45_2 (hd : 2 ≤ d) (h : ∀ I', copC I I' 45 2 → Q none (I', J, KR p)) : T d me_X0_copyFrom [.ref 45, .ref 2] L I J p Q := by
  refine am_enter [some (.ref 45), some (.ref 2)] rfl rfl rfl rfl ?_
  refine ev_aload_n (pc := 0) dX0_copyFrom_0 rfl (ev_getr (pc := 1) kF_0_9 dX0_copyFrom_1 rfl rfl rfl (ev_iconst (pc := 4) (v := (0)) dX0_copyFrom_4 iconst_c0 (ev_aload_n (pc := 5) dX0_copyFrom_5 rfl (ev_getr (pc := 6) kF_0_9 dX0_copyFrom_6 rfl rfl rfl (ev_iconst (pc := 9) (v := (0)) dX0_copyFrom_9 iconst_c0 (ev_bipush (pc := 10) (v := (40)) dX0_copyFrom_10 bipush_c40 (ev_copy (pc := 12) kA_0_37 dX0_copyFrom_12 rfl rfl rfl rfl rfl (by omega) rfl (?_))))))))
  refine ev_aload_n (pc := 15) dX0_copyFrom_15 rfl (ev_getr (pc := 16) kF_0_15 dX0_copyFrom_16 rfl rfl rfl (ev_iconst (pc := 19) (v := (0)) dX0_copyFrom_19 iconst_c0 (ev_aload_n (pc := 20) dX0_copyFrom_20 rfl (ev_getr (pc := 21) kF_0_15 dX0_copyFrom_21 rfl rfl rfl (ev_iconst (pc := 24) (v := (0)) dX0_copyFrom_24 iconst_c0 (ev_bipush (pc := 25) (v := (40)) dX0_copyFrom_25 bipush_c40 (ev_copy (pc := 27) kA_0_37 dX0_copyFrom_27 rfl rfl rfl rfl rfl (by omega) rfl (?_))))))))
  refine ev_aload_n (pc := 30) dX0_copyFrom_30 rfl (ev_getr (pc := 31) kF_0_18 dX0_copyFrom_31 rfl rfl rfl (ev_iconst (pc := 34) (v := (0)) dX0_copyFrom_34 iconst_c0 (ev_aload_n (pc := 35) dX0_copyFrom_35 rfl (ev_getr (pc := 36) kF_0_18 dX0_copyFrom_36 rfl rfl rfl (ev_iconst (pc := 39) (v := (0)) dX0_copyFrom_39 iconst_c0 (ev_bipush (pc := 40) (v := (40)) dX0_copyFrom_40 bipush_c40 (ev_copy (pc := 42) kA_0_37 dX0_copyFrom_42 rfl rfl rfl rfl rfl (by omega) rfl (?_))))))))
  refine ev_aload_n (pc := 45) dX0_copyFrom_45 rfl (ev_getr (pc := 46) kF_0_21 dX0_copyFrom_46 rfl rfl rfl (ev_iconst (pc := 49) (v := (0)) dX0_copyFrom_49 iconst_c0 (ev_aload_n (pc := 50) dX0_copyFrom_50 rfl (ev_getr (pc := 51) kF_0_21 dX0_copyFrom_51 rfl rfl rfl (ev_iconst (pc := 54) (v := (0)) dX0_copyFrom_54 iconst_c0 (ev_bipush (pc := 55) (v := (40)) dX0_copyFrom_55 bipush_c40 (ev_copy (pc := 57) kA_0_37 dX0_copyFrom_57 rfl rfl rfl rfl rfl (by omega) rfl (?_))))))))
  refine ev_aload_n (pc := 60) dX0_copyFrom_60 rfl (ev_getr (pc := 61) kF_0_24 dX0_copyFrom_61 rfl rfl rfl (ev_iconst (pc := 64) (v := (0)) dX0_copyFrom_64 iconst_c0 (ev_aload_n (pc := 65) dX0_copyFrom_65 rfl (ev_getr (pc := 66) kF_0_24 dX0_copyFrom_66 rfl rfl rfl (ev_iconst (pc := 69) (v := (0)) dX0_copyFrom_69 iconst_c0 (ev_bipush (pc := 70) (v := (40)) dX0_copyFrom_70 bipush_c40 (ev_copy (pc := 72) kA_0_37 dX0_copyFrom_72 rfl rfl rfl rfl rfl (by omega) rfl (?_))))))))
  refine ev_aload_n (pc := 75) dX0_copyFrom_75 rfl (ev_getr (pc := 76) kF_0_27 dX0_copyFrom_76 rfl rfl rfl (ev_iconst (pc := 79) (v := (0)) dX0_copyFrom_79 iconst_c0 (ev_aload_n (pc := 80) dX0_copyFrom_80 rfl (ev_getr (pc := 81) kF_0_27 dX0_copyFrom_81 rfl rfl rfl (ev_iconst (pc := 84) (v := (0)) dX0_copyFrom_84 iconst_c0 (ev_bipush (pc := 85) (v := (30)) dX0_copyFrom_85 bipush_c30 (ev_copy (pc := 87) kA_0_37 dX0_copyFrom_87 rfl rfl rfl rfl rfl (by omega) rfl (?_))))))))
  refine ev_aload_n (pc := 90) dX0_copyFrom_90 rfl (ev_getr (pc := 91) kF_0_33 dX0_copyFrom_91 rfl rfl rfl (ev_aload_n (pc := 94) dX0_copyFrom_94 rfl (ev_getr (pc := 95) kF_0_33 dX0_copyFrom_95 rfl rfl rfl (ev_invV (pc := 98) kV_0_43 dX0_copyFrom_98 rfl rfl rfl (by omega) rfl ?_))))
  refine t_jcopy_52_9 (by omega) fun I1 h1 => ?_
  refine ev_aload_n (pc := 101) dX0_copyFrom_101 rfl (ev_aload_n (pc := 102) dX0_copyFrom_102 rfl (ev_geti (pc := 103) kF_0_47 dX0_copyFrom_103 rfl rfl (ev_puti (pc := 106) kF_0_47 dX0_copyFrom_106 rfl rfl rfl rfl rfl (ev_aload_n (pc := 109) dX0_copyFrom_109 rfl (ev_aload_n (pc := 110) dX0_copyFrom_110 rfl (ev_geti (pc := 111) kF_0_51 dX0_copyFrom_111 rfl rfl (ev_puti (pc := 114) kF_0_51 dX0_copyFrom_114 rfl rfl rfl rfl rfl (ev_aload_n (pc := 117) dX0_copyFrom_117 rfl (ev_aload_n (pc := 118) dX0_copyFrom_118 rfl (ev_geti (pc := 119) kF_0_54 dX0_copyFrom_119 rfl rfl (ev_puti (pc := 122) kF_0_54 dX0_copyFrom_122 rfl rfl rfl rfl rfl (ev_vret (pc := 125) dX0_copyFrom_125 rfl ?_))))))))))))
  obtain ⟨g1, g2, g3⟩ := h1
  refine h _ ⟨fun i hi => ?_, ?_, fun i h1 h2 => ?_, fun c hc => ?_⟩
  · have : i = 1 ∨ i = 2 ∨ i = 3 ∨ i = 4 ∨ i = 5 ∨ i = 6 ∨ i = 8 ∨ i = 9 ∨ i = 10 := by omega
    rcases this with rfl | rfl | rfl | rfl | rfl | rfl | rfl | rfl | rfl
    all_goals
      funext j
      simp only [ui]
      rw [if_neg (by omega), if_neg (by omega), if_neg (by omega)]
    · rw [g3 _ (by omega)]; simp [ur]
    · rw [g3 _ (by omega)]; simp [ur]
    · rw [g3 _ (by omega)]; simp [ur]
    · rw [g3 _ (by omega)]; simp [ur]
    · rw [g3 _ (by omega)]; simp [ur]
    · rw [g3 _ (by omega)]; simp [ur]
    · rw [g1 1 (by omega) (by omega)]; simp [ur]
    · rw [g1 2 (by omega) (by omega)]; simp [ur]
    · rw [g1 3 (by omega) (by omega)]; simp [ur]
  · simp only [ui]
    rw [if_neg (by omega), if_neg (by omega), if_neg (by omega), g2]
    simp [ur]
  · have : i = 7 ∨ i = 8 ∨ i = 9 := by omega
    have e2 : I1 2 = I 2 := by rw [g3 _ (by omega)]; funext j; simp [ur]
    rcases this with rfl | rfl | rfl <;> simp [ui, e2]
  · rw [show I c = I1 c by rw [g3 _ (by omega)]; funext j; simp only [ur]; rw [if_neg (by omega), if_neg (by omega), if_neg (by omega), if_neg (by omega), if_neg (by omega), if_neg (by omega)]]
    funext j
    simp only [ui]
    rw [if_neg (by omega), if_neg (by omega), if_neg (by omega)]
theorem t_copy_56_2 (hd : 2 ≤ d) (h : ∀ I', copC I I' 56 2 → Q none (I', J, KR p)) : T d me_X0_copyFrom [.ref 56, .ref 2] L I J p Q := by
  refine am_enter [some (.ref 56), some (.ref 2)] rfl rfl rfl rfl ?_
  refine ev_aload_n (pc := 0) dX0_copyFrom_0 rfl (ev_getr (pc := 1) kF_0_9 dX0_copyFrom_1 rfl rfl rfl (ev_iconst (pc := 4) (v := (0)) dX0_copyFrom_4 iconst_c0 (ev_aload_n (pc := 5) dX0_copyFrom_5 rfl (ev_getr (pc := 6) kF_0_9 dX0_copyFrom_6 rfl rfl rfl (ev_iconst (pc := 9) (v := (0)) dX0_copyFrom_9 iconst_c0 (ev_bipush (pc := 10) (v := (40)) dX0_copyFrom_10 bipush_c40 (ev_copy (pc := 12) kA_0_37 dX0_copyFrom_12 rfl rfl rfl rfl rfl (by omega) rfl (?_))))))))
  refine ev_aload_n (pc := 15) dX0_copyFrom_15 rfl (ev_getr (pc := 16) kF_0_15 dX0_copyFrom_16 rfl rfl rfl (ev_iconst (pc := 19) (v := (0)) dX0_copyFrom_19 iconst_c0 (ev_aload_n (pc := 20) dX0_copyFrom_20 rfl (ev_getr (pc := 21) kF_0_15 dX0_copyFrom_21 rfl rfl rfl (ev_iconst (pc := 24) (v := (0)) dX0_copyFrom_24 iconst_c0 (ev_bipush (pc := 25) (v := (40)) dX0_copyFrom_25 bipush_c40 (ev_copy (pc := 27) kA_0_37 dX0_copyFrom_27 rfl rfl rfl rfl rfl (by omega) rfl (?_))))))))
  refine ev_aload_n (pc := 30) dX0_copyFrom_30 rfl (ev_getr (pc := 31) kF_0_18 dX0_copyFrom_31 rfl rfl rfl (ev_iconst (pc := 34) (v := (0)) dX0_copyFrom_34 iconst_c0 (ev_aload_n (pc := 35) dX0_copyFrom_35 rfl (ev_getr (pc := 36) kF_0_18 dX0_copyFrom_36 rfl rfl rfl (ev_iconst (pc := 39) (v := (0)) dX0_copyFrom_39 iconst_c0 (ev_bipush (pc := 40) (v := (40)) dX0_copyFrom_40 bipush_c40 (ev_copy (pc := 42) kA_0_37 dX0_copyFrom_42 rfl rfl rfl rfl rfl (by omega) rfl (?_))))))))
  refine ev_aload_n (pc := 45) dX0_copyFrom_45 rfl (ev_getr (pc := 46) kF_0_21 dX0_copyFrom_46 rfl rfl rfl (ev_iconst (pc := 49) (v := (0)) dX0_copyFrom_49 iconst_c0 (ev_aload_n (pc := 50) dX0_copyFrom_50 rfl (ev_getr (pc := 51) kF_0_21 dX0_copyFrom_51 rfl rfl rfl (ev_iconst (pc := 54) (v := (0)) dX0_copyFrom_54 iconst_c0 (ev_bipush (pc := 55) (v := (40)) dX0_copyFrom_55 bipush_c40 (ev_copy (pc := 57) kA_0_37 dX0_copyFrom_57 rfl rfl rfl rfl rfl (by omega) rfl (?_))))))))
  refine ev_aload_n (pc := 60) dX0_copyFrom_60 rfl (ev_getr (pc := 61) kF_0_24 dX0_copyFrom_61 rfl rfl rfl (ev_iconst (pc := 64) (v := (0)) dX0_copyFrom_64 iconst_c0 (ev_aload_n (pc := 65) dX0_copyFrom_65 rfl (ev_getr (pc := 66) kF_0_24 dX0_copyFrom_66 rfl rfl rfl (ev_iconst (pc := 69) (v := (0)) dX0_copyFrom_69 iconst_c0 (ev_bipush (pc := 70) (v := (40)) dX0_copyFrom_70 bipush_c40 (ev_copy (pc := 72) kA_0_37 dX0_copyFrom_72 rfl rfl rfl rfl rfl (by omega) rfl (?_))))))))
  refine ev_aload_n (pc := 75) dX0_copyFrom_75 rfl (ev_getr (pc := 76) kF_0_27 dX0_copyFrom_76 rfl rfl rfl (ev_iconst (pc := 79) (v := (0)) dX0_copyFrom_79 iconst_c0 (ev_aload_n (pc := 80) dX0_copyFrom_80 rfl (ev_getr (pc := 81) kF_0_27 dX0_copyFrom_81 rfl rfl rfl (ev_iconst (pc := 84) (v := (0)) dX0_copyFrom_84 iconst_c0 (ev_bipush (pc := 85) (v := (30)) dX0_copyFrom_85 bipush_c30 (ev_copy (pc := 87) kA_0_37 dX0_copyFrom_87 rfl rfl rfl rfl rfl (by omega) rfl (?_))))))))
  refine ev_aload_n (pc := 90) dX0_copyFrom_90 rfl (ev_getr (pc := 91) kF_0_33 dX0_copyFrom_91 rfl rfl rfl (ev_aload_n (pc := 94) dX0_copyFrom_94 rfl (ev_getr (pc := 95) kF_0_33 dX0_copyFrom_95 rfl rfl rfl (ev_invV (pc := 98) kV_0_43 dX0_copyFrom_98 rfl rfl rfl (by omega) rfl ?_))))
  refine t_jcopy_63_9 (by omega) fun I1 h1 => ?_
  refine ev_aload_n (pc := 101) dX0_copyFrom_101 rfl (ev_aload_n (pc := 102) dX0_copyFrom_102 rfl (ev_geti (pc := 103) kF_0_47 dX0_copyFrom_103 rfl rfl (ev_puti (pc := 106) kF_0_47 dX0_copyFrom_106 rfl rfl rfl rfl rfl (ev_aload_n (pc := 109) dX0_copyFrom_109 rfl (ev_aload_n (pc := 110) dX0_copyFrom_110 rfl (ev_geti (pc := 111) kF_0_51 dX0_copyFrom_111 rfl rfl (ev_puti (pc := 114) kF_0_51 dX0_copyFrom_114 rfl rfl rfl rfl rfl (ev_aload_n (pc := 117) dX0_copyFrom_117 rfl (ev_aload_n (pc := 118) dX0_copyFrom_118 rfl (ev_geti (pc := 119) kF_0_54 dX0_copyFrom_119 rfl rfl (ev_puti (pc := 122) kF_0_54 dX0_copyFrom_122 rfl rfl rfl rfl rfl (ev_vret (pc := 125) dX0_copyFrom_125 rfl ?_))))))))))))
  obtain ⟨g1, g2, g3⟩ := h1
  refine h _ ⟨fun i hi => ?_, ?_, fun i h1 h2 => ?_, fun c hc => ?_⟩
  · have : i = 1 ∨ i = 2 ∨ i = 3 ∨ i = 4 ∨ i = 5 ∨ i = 6 ∨ i = 8 ∨ i = 9 ∨ i = 10 := by omega
    rcases this with rfl | rfl | rfl | rfl | rfl | rfl | rfl | rfl | rfl
    all_goals
      funext j
      simp only [ui]
      rw [if_neg (by omega), if_neg (by omega), if_neg (by omega)]
    · rw [g3 _ (by omega)]; simp [ur]
    · rw [g3 _ (by omega)]; simp [ur]
    · rw [g3 _ (by omega)]; simp [ur]
    · rw [g3 _ (by omega)]; simp [ur]
    · rw [g3 _ (by omega)]; simp [ur]
    · rw [g3 _ (by omega)]; simp [ur]
    · rw [g1 1 (by omega) (by omega)]; simp [ur]
    · rw [g1 2 (by omega) (by omega)]; simp [ur]
    · rw [g1 3 (by omega) (by omega)]; simp [ur]
  · simp only [ui]
    rw [if_neg (by omega), if_neg (by omega), if_neg (by omega), g2]
    simp [ur]
  · have : i = 7 ∨ i = 8 ∨ i = 9 := by omega
    have e2 : I1 2 = I 2 := by rw [g3 _ (by omega)]; funext j; simp [ur]
    rcases this with rfl | rfl | rfl <;> simp [ui, e2]
  · rw [show I c = I1 c by rw [g3 _ (by omega)]; funext j; simp only [ur]; rw [if_neg (by omega), if_neg (by omega), if_neg (by omega), if_neg (by omega), if_neg (by omega), if_neg (by omega)]]
    funext j
    simp only [ui]
    rw [if_neg (by omega), if_neg (by omega), if_neg (by omega)]
theorem t_copy_67_2 (hd : 2 ≤ d) (h : ∀ I', copC I I' 67 2 → Q none (I', J, KR p)) : T d me_X0_copyFrom [.ref 67, .ref 2] L I J p Q := by
  refine am_enter [some (.ref 67), some (.ref 2)] rfl rfl rfl rfl ?_
  refine ev_aload_n (pc := 0) dX0_copyFrom_0 rfl (ev_getr (pc := 1) kF_0_9 dX0_copyFrom_1 rfl rfl rfl (ev_iconst (pc := 4) (v := (0)) dX0_copyFrom_4 iconst_c0 (ev_aload_n (pc := 5) dX0_copyFrom_5 rfl (ev_getr (pc := 6) kF_0_9 dX0_copyFrom_6 rfl rfl rfl (ev_iconst (pc := 9) (v := (0)) dX0_copyFrom_9 iconst_c0 (ev_bipush (pc := 10) (v := (40)) dX0_copyFrom_10 bipush_c40 (ev_copy (pc := 12) kA_0_37 dX0_copyFrom_12 rfl rfl rfl rfl rfl (by omega) rfl (?_))))))))
  refine ev_aload_n (pc := 15) dX0_copyFrom_15 rfl (ev_getr (pc := 16) kF_0_15 dX0_copyFrom_16 rfl rfl rfl (ev_iconst (pc := 19) (v := (0)) dX0_copyFrom_19 iconst_c0 (ev_aload_n (pc := 20) dX0_copyFrom_20 rfl (ev_getr (pc := 21) kF_0_15 dX0_copyFrom_21 rfl rfl rfl (ev_iconst (pc := 24) (v := (0)) dX0_copyFrom_24 iconst_c0 (ev_bipush (pc := 25) (v := (40)) dX0_copyFrom_25 bipush_c40 (ev_copy (pc := 27) kA_0_37 dX0_copyFrom_27 rfl rfl rfl rfl rfl (by omega) rfl (?_))))))))
  refine ev_aload_n (pc := 30) dX0_copyFrom_30 rfl (ev_getr (pc := 31) kF_0_18 dX0_copyFrom_31 rfl rfl rfl (ev_iconst (pc := 34) (v := (0)) dX0_copyFrom_34 iconst_c0 (ev_aload_n (pc := 35) dX0_copyFrom_35 rfl (ev_getr (pc := 36) kF_0_18 dX0_copyFrom_36 rfl rfl rfl (ev_iconst (pc := 39) (v := (0)) dX0_copyFrom_39 iconst_c0 (ev_bipush (pc := 40) (v := (40)) dX0_copyFrom_40 bipush_c40 (ev_copy (pc := 42) kA_0_37 dX0_copyFrom_42 rfl rfl rfl rfl rfl (by omega) rfl (?_))))))))
  refine ev_aload_n (pc := 45) dX0_copyFrom_45 rfl (ev_getr (pc := 46) kF_0_21 dX0_copyFrom_46 rfl rfl rfl (ev_iconst (pc := 49) (v := (0)) dX0_copyFrom_49 iconst_c0 (ev_aload_n (pc := 50) dX0_copyFrom_50 rfl (ev_getr (pc := 51) kF_0_21 dX0_copyFrom_51 rfl rfl rfl (ev_iconst (pc := 54) (v := (0)) dX0_copyFrom_54 iconst_c0 (ev_bipush (pc := 55) (v := (40)) dX0_copyFrom_55 bipush_c40 (ev_copy (pc := 57) kA_0_37 dX0_copyFrom_57 rfl rfl rfl rfl rfl (by omega) rfl (?_))))))))
  refine ev_aload_n (pc := 60) dX0_copyFrom_60 rfl (ev_getr (pc := 61) kF_0_24 dX0_copyFrom_61 rfl rfl rfl (ev_iconst (pc := 64) (v := (0)) dX0_copyFrom_64 iconst_c0 (ev_aload_n (pc := 65) dX0_copyFrom_65 rfl (ev_getr (pc := 66) kF_0_24 dX0_copyFrom_66 rfl rfl rfl (ev_iconst (pc := 69) (v := (0)) dX0_copyFrom_69 iconst_c0 (ev_bipush (pc := 70) (v := (40)) dX0_copyFrom_70 bipush_c40 (ev_copy (pc := 72) kA_0_37 dX0_copyFrom_72 rfl rfl rfl rfl rfl (by omega) rfl (?_))))))))
  refine ev_aload_n (pc := 75) dX0_copyFrom_75 rfl (ev_getr (pc := 76) kF_0_27 dX0_copyFrom_76 rfl rfl rfl (ev_iconst (pc := 79) (v := (0)) dX0_copyFrom_79 iconst_c0 (ev_aload_n (pc := 80) dX0_copyFrom_80 rfl (ev_getr (pc := 81) kF_0_27 dX0_copyFrom_81 rfl rfl rfl (ev_iconst (pc := 84) (v := (0)) dX0_copyFrom_84 iconst_c0 (ev_bipush (pc := 85) (v := (30)) dX0_copyFrom_85 bipush_c30 (ev_copy (pc := 87) kA_0_37 dX0_copyFrom_87 rfl rfl rfl rfl rfl (by omega) rfl (?_))))))))
  refine ev_aload_n (pc := 90) dX0_copyFrom_90 rfl (ev_getr (pc := 91) kF_0_33 dX0_copyFrom_91 rfl rfl rfl (ev_aload_n (pc := 94) dX0_copyFrom_94 rfl (ev_getr (pc := 95) kF_0_33 dX0_copyFrom_95 rfl rfl rfl (ev_invV (pc := 98) kV_0_43 dX0_copyFrom_98 rfl rfl rfl (by omega) rfl ?_))))
  refine t_jcopy_74_9 (by omega) fun I1 h1 => ?_
  refine ev_aload_n (pc := 101) dX0_copyFrom_101 rfl (ev_aload_n (pc := 102) dX0_copyFrom_102 rfl (ev_geti (pc := 103) kF_0_47 dX0_copyFrom_103 rfl rfl (ev_puti (pc := 106) kF_0_47 dX0_copyFrom_106 rfl rfl rfl rfl rfl (ev_aload_n (pc := 109) dX0_copyFrom_109 rfl (ev_aload_n (pc := 110) dX0_copyFrom_110 rfl (ev_geti (pc := 111) kF_0_51 dX0_copyFrom_111 rfl rfl (ev_puti (pc := 114) kF_0_51 dX0_copyFrom_114 rfl rfl rfl rfl rfl (ev_aload_n (pc := 117) dX0_copyFrom_117 rfl (ev_aload_n (pc := 118) dX0_copyFrom_118 rfl (ev_geti (pc := 119) kF_0_54 dX0_copyFrom_119 rfl rfl (ev_puti (pc := 122) kF_0_54 dX0_copyFrom_122 rfl rfl rfl rfl rfl (ev_vret (pc := 125) dX0_copyFrom_125 rfl ?_))))))))))))
  obtain ⟨g1, g2, g3⟩ := h1
  refine h _ ⟨fun i hi => ?_, ?_, fun i h1 h2 => ?_, fun c hc => ?_⟩
  · have : i = 1 ∨ i = 2 ∨ i = 3 ∨ i = 4 ∨ i = 5 ∨ i = 6 ∨ i = 8 ∨ i = 9 ∨ i = 10 := by omega
    rcases this with rfl | rfl | rfl | rfl | rfl | rfl | rfl | rfl | rfl
    all_goals
      funext j
      simp only [ui]
      rw [if_neg (by omega), if_neg (by omega), if_neg (by omega)]
    · rw [g3 _ (by omega)]; simp [ur]
    · rw [g3 _ (by omega)]; simp [ur]
    · rw [g3 _ (by omega)]; simp [ur]
    · rw [g3 _ (by omega)]; simp [ur]
    · rw [g3 _ (by omega)]; simp [ur]
    · rw [g3 _ (by omega)]; simp [ur]
    · rw [g1 1 (by omega) (by omega)]; simp [ur]
    · rw [g1 2 (by omega) (by omega)]; simp [ur]
    · rw [g1 3 (by omega) (by omega)]; simp [ur]
  · simp only [ui]
    rw [if_neg (by omega), if_neg (by omega), if_neg (by omega), g2]
    simp [ur]
  · have : i = 7 ∨ i = 8 ∨ i = 9 := by omega
    have e2 : I1 2 = I 2 := by rw [g3 _ (by omega)]; funext j; simp [ur]
    rcases this with rfl | rfl | rfl <;> simp [ui, e2]
  · rw [show I c = I1 c by rw [g3 _ (by omega)]; funext j; simp only [ur]; rw [if_neg (by omega), if_neg (by omega), if_neg (by omega), if_neg (by omega), if_neg (by omega), if_neg (by omega)]]
    funext j
    simp only [ui]
    rw [if_neg (by omega), if_neg (by omega), if_neg (by omega)]
theorem t_copy_2_23 (hd : 2 ≤ d) (h : ∀ I', copC I I' 2 23 → Q none (I', J, KR p)) : T d me_X0_copyFrom [.ref 2, .ref 23] L I J p Q := by
  refine am_enter [some (.ref 2), some (.ref 23)] rfl rfl rfl rfl ?_
  refine ev_aload_n (pc := 0) dX0_copyFrom_0 rfl (ev_getr (pc := 1) kF_0_9 dX0_copyFrom_1 rfl rfl rfl (ev_iconst (pc := 4) (v := (0)) dX0_copyFrom_4 iconst_c0 (ev_aload_n (pc := 5) dX0_copyFrom_5 rfl (ev_getr (pc := 6) kF_0_9 dX0_copyFrom_6 rfl rfl rfl (ev_iconst (pc := 9) (v := (0)) dX0_copyFrom_9 iconst_c0 (ev_bipush (pc := 10) (v := (40)) dX0_copyFrom_10 bipush_c40 (ev_copy (pc := 12) kA_0_37 dX0_copyFrom_12 rfl rfl rfl rfl rfl (by omega) rfl (?_))))))))
  refine ev_aload_n (pc := 15) dX0_copyFrom_15 rfl (ev_getr (pc := 16) kF_0_15 dX0_copyFrom_16 rfl rfl rfl (ev_iconst (pc := 19) (v := (0)) dX0_copyFrom_19 iconst_c0 (ev_aload_n (pc := 20) dX0_copyFrom_20 rfl (ev_getr (pc := 21) kF_0_15 dX0_copyFrom_21 rfl rfl rfl (ev_iconst (pc := 24) (v := (0)) dX0_copyFrom_24 iconst_c0 (ev_bipush (pc := 25) (v := (40)) dX0_copyFrom_25 bipush_c40 (ev_copy (pc := 27) kA_0_37 dX0_copyFrom_27 rfl rfl rfl rfl rfl (by omega) rfl (?_))))))))
  refine ev_aload_n (pc := 30) dX0_copyFrom_30 rfl (ev_getr (pc := 31) kF_0_18 dX0_copyFrom_31 rfl rfl rfl (ev_iconst (pc := 34) (v := (0)) dX0_copyFrom_34 iconst_c0 (ev_aload_n (pc := 35) dX0_copyFrom_35 rfl (ev_getr (pc := 36) kF_0_18 dX0_copyFrom_36 rfl rfl rfl (ev_iconst (pc := 39) (v := (0)) dX0_copyFrom_39 iconst_c0 (ev_bipush (pc := 40) (v := (40)) dX0_copyFrom_40 bipush_c40 (ev_copy (pc := 42) kA_0_37 dX0_copyFrom_42 rfl rfl rfl rfl rfl (by omega) rfl (?_))))))))
  refine ev_aload_n (pc := 45) dX0_copyFrom_45 rfl (ev_getr (pc := 46) kF_0_21 dX0_copyFrom_46 rfl rfl rfl (ev_iconst (pc := 49) (v := (0)) dX0_copyFrom_49 iconst_c0 (ev_aload_n (pc := 50) dX0_copyFrom_50 rfl (ev_getr (pc := 51) kF_0_21 dX0_copyFrom_51 rfl rfl rfl (ev_iconst (pc := 54) (v := (0)) dX0_copyFrom_54 iconst_c0 (ev_bipush (pc := 55) (v := (40)) dX0_copyFrom_55 bipush_c40 (ev_copy (pc := 57) kA_0_37 dX0_copyFrom_57 rfl rfl rfl rfl rfl (by omega) rfl (?_))))))))
  refine ev_aload_n (pc := 60) dX0_copyFrom_60 rfl (ev_getr (pc := 61) kF_0_24 dX0_copyFrom_61 rfl rfl rfl (ev_iconst (pc := 64) (v := (0)) dX0_copyFrom_64 iconst_c0 (ev_aload_n (pc := 65) dX0_copyFrom_65 rfl (ev_getr (pc := 66) kF_0_24 dX0_copyFrom_66 rfl rfl rfl (ev_iconst (pc := 69) (v := (0)) dX0_copyFrom_69 iconst_c0 (ev_bipush (pc := 70) (v := (40)) dX0_copyFrom_70 bipush_c40 (ev_copy (pc := 72) kA_0_37 dX0_copyFrom_72 rfl rfl rfl rfl rfl (by omega) rfl (?_))))))))
  refine ev_aload_n (pc := 75) dX0_copyFrom_75 rfl (ev_getr (pc := 76) kF_0_27 dX0_copyFrom_76 rfl rfl rfl (ev_iconst (pc := 79) (v := (0)) dX0_copyFrom_79 iconst_c0 (ev_aload_n (pc := 80) dX0_copyFrom_80 rfl (ev_getr (pc := 81) kF_0_27 dX0_copyFrom_81 rfl rfl rfl (ev_iconst (pc := 84) (v := (0)) dX0_copyFrom_84 iconst_c0 (ev_bipush (pc := 85) (v := (30)) dX0_copyFrom_85 bipush_c30 (ev_copy (pc := 87) kA_0_37 dX0_copyFrom_87 rfl rfl rfl rfl rfl (by omega) rfl (?_))))))))
  refine ev_aload_n (pc := 90) dX0_copyFrom_90 rfl (ev_getr (pc := 91) kF_0_33 dX0_copyFrom_91 rfl rfl rfl (ev_aload_n (pc := 94) dX0_copyFrom_94 rfl (ev_getr (pc := 95) kF_0_33 dX0_copyFrom_95 rfl rfl rfl (ev_invV (pc := 98) kV_0_43 dX0_copyFrom_98 rfl rfl rfl (by omega) rfl ?_))))
  refine t_jcopy_9_30 (by omega) fun I1 h1 => ?_
  refine ev_aload_n (pc := 101) dX0_copyFrom_101 rfl (ev_aload_n (pc := 102) dX0_copyFrom_102 rfl (ev_geti (pc := 103) kF_0_47 dX0_copyFrom_103 rfl rfl (ev_puti (pc := 106) kF_0_47 dX0_copyFrom_106 rfl rfl rfl rfl rfl (ev_aload_n (pc := 109) dX0_copyFrom_109 rfl (ev_aload_n (pc := 110) dX0_copyFrom_110 rfl (ev_geti (pc := 111) kF_0_51 dX0_copyFrom_111 rfl rfl (ev_puti (pc := 114) kF_0_51 dX0_copyFrom_114 rfl rfl rfl rfl rfl (ev_aload_n (pc := 117) dX0_copyFrom_117 rfl (ev_aload_n (pc := 118) dX0_copyFrom_118 rfl (ev_geti (pc := 119) kF_0_54 dX0_copyFrom_119 rfl rfl (ev_puti (pc := 122) kF_0_54 dX0_copyFrom_122 rfl rfl rfl rfl rfl (ev_vret (pc := 125) dX0_copyFrom_125 rfl ?_))))))))))))
  obtain ⟨g1, g2, g3⟩ := h1
  refine h _ ⟨fun i hi => ?_, ?_, fun i h1 h2 => ?_, fun c hc => ?_⟩
  · have : i = 1 ∨ i = 2 ∨ i = 3 ∨ i = 4 ∨ i = 5 ∨ i = 6 ∨ i = 8 ∨ i = 9 ∨ i = 10 := by omega
    rcases this with rfl | rfl | rfl | rfl | rfl | rfl | rfl | rfl | rfl
    all_goals
      funext j
      simp only [ui]
      rw [if_neg (by omega), if_neg (by omega), if_neg (by omega)]
    · rw [g3 _ (by omega)]; simp [ur]
    · rw [g3 _ (by omega)]; simp [ur]
    · rw [g3 _ (by omega)]; simp [ur]
    · rw [g3 _ (by omega)]; simp [ur]
    · rw [g3 _ (by omega)]; simp [ur]
    · rw [g3 _ (by omega)]; simp [ur]
    · rw [g1 1 (by omega) (by omega)]; simp [ur]
    · rw [g1 2 (by omega) (by omega)]; simp [ur]
    · rw [g1 3 (by omega) (by omega)]; simp [ur]
  · simp only [ui]
    rw [if_neg (by omega), if_neg (by omega), if_neg (by omega), g2]
    simp [ur]
  · have : i = 7 ∨ i = 8 ∨ i = 9 := by omega
    have e2 : I1 23 = I 23 := by rw [g3 _ (by omega)]; funext j; simp [ur]
    rcases this with rfl | rfl | rfl <;> simp [ui, e2]
  · rw [show I c = I1 c by rw [g3 _ (by omega)]; funext j; simp only [ur]; rw [if_neg (by omega), if_neg (by omega), if_neg (by omega), if_neg (by omega), if_neg (by omega), if_neg (by omega)]]
    funext j
    simp only [ui]
    rw [if_neg (by omega), if_neg (by omega), if_neg (by omega)]
theorem t_copy_2_34 (hd : 2 ≤ d) (h : ∀ I', copC I I' 2 34 → Q none (I', J, KR p)) : T d me_X0_copyFrom [.ref 2, .ref 34] L I J p Q := by
  refine am_enter [some (.ref 2), some (.ref 34)] rfl rfl rfl rfl ?_
  refine ev_aload_n (pc := 0) dX0_copyFrom_0 rfl (ev_getr (pc := 1) kF_0_9 dX0_copyFrom_1 rfl rfl rfl (ev_iconst (pc := 4) (v := (0)) dX0_copyFrom_4 iconst_c0 (ev_aload_n (pc := 5) dX0_copyFrom_5 rfl (ev_getr (pc := 6) kF_0_9 dX0_copyFrom_6 rfl rfl rfl (ev_iconst (pc := 9) (v := (0)) dX0_copyFrom_9 iconst_c0 (ev_bipush (pc := 10) (v := (40)) dX0_copyFrom_10 bipush_c40 (ev_copy (pc := 12) kA_0_37 dX0_copyFrom_12 rfl rfl rfl rfl rfl (by omega) rfl (?_))))))))
  refine ev_aload_n (pc := 15) dX0_copyFrom_15 rfl (ev_getr (pc := 16) kF_0_15 dX0_copyFrom_16 rfl rfl rfl (ev_iconst (pc := 19) (v := (0)) dX0_copyFrom_19 iconst_c0 (ev_aload_n (pc := 20) dX0_copyFrom_20 rfl (ev_getr (pc := 21) kF_0_15 dX0_copyFrom_21 rfl rfl rfl (ev_iconst (pc := 24) (v := (0)) dX0_copyFrom_24 iconst_c0 (ev_bipush (pc := 25) (v := (40)) dX0_copyFrom_25 bipush_c40 (ev_copy (pc := 27) kA_0_37 dX0_copyFrom_27 rfl rfl rfl rfl rfl (by omega) rfl (?_))))))))
  refine ev_aload_n (pc := 30) dX0_copyFrom_30 rfl (ev_getr (pc := 31) kF_0_18 dX0_copyFrom_31 rfl rfl rfl (ev_iconst (pc := 34) (v := (0)) dX0_copyFrom_34 iconst_c0 (ev_aload_n (pc := 35) dX0_copyFrom_35 rfl (ev_getr (pc := 36) kF_0_18 dX0_copyFrom_36 rfl rfl rfl (ev_iconst (pc := 39) (v := (0)) dX0_copyFrom_39 iconst_c0 (ev_bipush (pc := 40) (v := (40)) dX0_copyFrom_40 bipush_c40 (ev_copy (pc := 42) kA_0_37 dX0_copyFrom_42 rfl rfl rfl rfl rfl (by omega) rfl (?_))))))))
  refine ev_aload_n (pc := 45) dX0_copyFrom_45 rfl (ev_getr (pc := 46) kF_0_21 dX0_copyFrom_46 rfl rfl rfl (ev_iconst (pc := 49) (v := (0)) dX0_copyFrom_49 iconst_c0 (ev_aload_n (pc := 50) dX0_copyFrom_50 rfl (ev_getr (pc := 51) kF_0_21 dX0_copyFrom_51 rfl rfl rfl (ev_iconst (pc := 54) (v := (0)) dX0_copyFrom_54 iconst_c0 (ev_bipush (pc := 55) (v := (40)) dX0_copyFrom_55 bipush_c40 (ev_copy (pc := 57) kA_0_37 dX0_copyFrom_57 rfl rfl rfl rfl rfl (by omega) rfl (?_))))))))
  refine ev_aload_n (pc := 60) dX0_copyFrom_60 rfl (ev_getr (pc := 61) kF_0_24 dX0_copyFrom_61 rfl rfl rfl (ev_iconst (pc := 64) (v := (0)) dX0_copyFrom_64 iconst_c0 (ev_aload_n (pc := 65) dX0_copyFrom_65 rfl (ev_getr (pc := 66) kF_0_24 dX0_copyFrom_66 rfl rfl rfl (ev_iconst (pc := 69) (v := (0)) dX0_copyFrom_69 iconst_c0 (ev_bipush (pc := 70) (v := (40)) dX0_copyFrom_70 bipush_c40 (ev_copy (pc := 72) kA_0_37 dX0_copyFrom_72 rfl rfl rfl rfl rfl (by omega) rfl (?_))))))))
  refine ev_aload_n (pc := 75) dX0_copyFrom_75 rfl (ev_getr (pc := 76) kF_0_27 dX0_copyFrom_76 rfl rfl rfl (ev_iconst (pc := 79) (v := (0)) dX0_copyFrom_79 iconst_c0 (ev_aload_n (pc := 80) dX0_copyFrom_80 rfl (ev_getr (pc := 81) kF_0_27 dX0_copyFrom_81 rfl rfl rfl (ev_iconst (pc := 84) (v := (0)) dX0_copyFrom_84 iconst_c0 (ev_bipush (pc := 85) (v := (30)) dX0_copyFrom_85 bipush_c30 (ev_copy (pc := 87) kA_0_37 dX0_copyFrom_87 rfl rfl rfl rfl rfl (by omega) rfl (?_))))))))
  refine ev_aload_n (pc := 90) dX0_copyFrom_90 rfl (ev_getr (pc := 91) kF_0_33 dX0_copyFrom_91 rfl rfl rfl (ev_aload_n (pc := 94) dX0_copyFrom_94 rfl (ev_getr (pc := 95) kF_0_33 dX0_copyFrom_95 rfl rfl rfl (ev_invV (pc := 98) kV_0_43 dX0_copyFrom_98 rfl rfl rfl (by omega) rfl ?_))))
  refine t_jcopy_9_41 (by omega) fun I1 h1 => ?_
  refine ev_aload_n (pc := 101) dX0_copyFrom_101 rfl (ev_aload_n (pc := 102) dX0_copyFrom_102 rfl (ev_geti (pc := 103) kF_0_47 dX0_copyFrom_103 rfl rfl (ev_puti (pc := 106) kF_0_47 dX0_copyFrom_106 rfl rfl rfl rfl rfl (ev_aload_n (pc := 109) dX0_copyFrom_109 rfl (ev_aload_n (pc := 110) dX0_copyFrom_110 rfl (ev_geti (pc := 111) kF_0_51 dX0_copyFrom_111 rfl rfl (ev_puti (pc := 114) kF_0_51 dX0_copyFrom_114 rfl rfl rfl rfl rfl (ev_aload_n (pc := 117) dX0_copyFrom_117 rfl (ev_aload_n (pc := 118) dX0_copyFrom_118 rfl (ev_geti (pc := 119) kF_0_54 dX0_copyFrom_119 rfl rfl (ev_puti (pc := 122) kF_0_54 dX0_copyFrom_122 rfl rfl rfl rfl rfl (ev_vret (pc := 125) dX0_copyFrom_125 rfl ?_))))))))))))
  obtain ⟨g1, g2, g3⟩ := h1
  refine h _ ⟨fun i hi => ?_, ?_, fun i h1 h2 => ?_, fun c hc => ?_⟩
  · have : i = 1 ∨ i = 2 ∨ i = 3 ∨ i = 4 ∨ i = 5 ∨ i = 6 ∨ i = 8 ∨ i = 9 ∨ i = 10 := by omega
    rcases this with rfl | rfl | rfl | rfl | rfl | rfl | rfl | rfl | rfl
    all_goals
      funext j
      simp only [ui]
      rw [if_neg (by omega), if_neg (by omega), if_neg (by omega)]
    · rw [g3 _ (by omega)]; simp [ur]
    · rw [g3 _ (by omega)]; simp [ur]
    · rw [g3 _ (by omega)]; simp [ur]
    · rw [g3 _ (by omega)]; simp [ur]
    · rw [g3 _ (by omega)]; simp [ur]
    · rw [g3 _ (by omega)]; simp [ur]
    · rw [g1 1 (by omega) (by omega)]; simp [ur]
    · rw [g1 2 (by omega) (by omega)]; simp [ur]
    · rw [g1 3 (by omega) (by omega)]; simp [ur]
  · simp only [ui]
    rw [if_neg (by omega), if_neg (by omega), if_neg (by omega), g2]
    simp [ur]
  · have : i = 7 ∨ i = 8 ∨ i = 9 := by omega
    have e2 : I1 34 = I 34 := by rw [g3 _ (by omega)]; funext j; simp [ur]
    rcases this with rfl | rfl | rfl <;> simp [ui, e2]
  · rw [show I c = I1 c by rw [g3 _ (by omega)]; funext j; simp only [ur]; rw [if_neg (by omega), if_neg (by omega), if_neg (by omega), if_neg (by omega), if_neg (by omega), if_neg (by omega)]]
    funext j
    simp only [ui]
    rw [if_neg (by omega), if_neg (by omega), if_neg (by omega)]
theorem t_copy_2_45 (hd : 2 ≤ d) (h : ∀ I', copC I I' 2 45 → Q none (I', J, KR p)) : T d me_X0_copyFrom [.ref 2, .ref 45] L I J p Q := by
  refine am_enter [some (.ref 2), some (.ref 45)] rfl rfl rfl rfl ?_
  refine ev_aload_n (pc := 0) dX0_copyFrom_0 rfl (ev_getr (pc := 1) kF_0_9 dX0_copyFrom_1 rfl rfl rfl (ev_iconst (pc := 4) (v := (0)) dX0_copyFrom_4 iconst_c0 (ev_aload_n (pc := 5) dX0_copyFrom_5 rfl (ev_getr (pc := 6) kF_0_9 dX0_copyFrom_6 rfl rfl rfl (ev_iconst (pc := 9) (v := (0)) dX0_copyFrom_9 iconst_c0 (ev_bipush (pc := 10) (v := (40)) dX0_copyFrom_10 bipush_c40 (ev_copy (pc := 12) kA_0_37 dX0_copyFrom_12 rfl rfl rfl rfl rfl (by omega) rfl (?_))))))))
  refine ev_aload_n (pc := 15) dX0_copyFrom_15 rfl (ev_getr (pc := 16) kF_0_15 dX0_copyFrom_16 rfl rfl rfl (ev_iconst (pc := 19) (v := (0)) dX0_copyFrom_19 iconst_c0 (ev_aload_n (pc := 20) dX0_copyFrom_20 rfl (ev_getr (pc := 21) kF_0_15 dX0_copyFrom_21 rfl rfl rfl (ev_iconst (pc := 24) (v := (0)) dX0_copyFrom_24 iconst_c0 (ev_bipush (pc := 25) (v := (40)) dX0_copyFrom_25 bipush_c40 (ev_copy (pc := 27) kA_0_37 dX0_copyFrom_27 rfl rfl rfl rfl rfl (by omega) rfl (?_))))))))
  refine ev_aload_n (pc := 30) dX0_copyFrom_30 rfl (ev_getr (pc := 31) kF_0_18 dX0_copyFrom_31 rfl rfl rfl (ev_iconst (pc := 34) (v := (0)) dX0_copyFrom_34 iconst_c0 (ev_aload_n (pc := 35) dX0_copyFrom_35 rfl (ev_getr (pc := 36) kF_0_18 dX0_copyFrom_36 rfl rfl rfl (ev_iconst (pc := 39) (v := (0)) dX0_copyFrom_39 iconst_c0 (ev_bipush (pc := 40) (v := (40)) dX0_copyFrom_40 bipush_c40 (ev_copy (pc := 42) kA_0_37 dX0_copyFrom_42 rfl rfl rfl rfl rfl (by omega) rfl (?_))))))))
  refine ev_aload_n (pc := 45) dX0_copyFrom_45 rfl (ev_getr (pc := 46) kF_0_21 dX0_copyFrom_46 rfl rfl rfl (ev_iconst (pc := 49) (v := (0)) dX0_copyFrom_49 iconst_c0 (ev_aload_n (pc := 50) dX0_copyFrom_50 rfl (ev_getr (pc := 51) kF_0_21 dX0_copyFrom_51 rfl rfl rfl (ev_iconst (pc := 54) (v := (0)) dX0_copyFrom_54 iconst_c0 (ev_bipush (pc := 55) (v := (40)) dX0_copyFrom_55 bipush_c40 (ev_copy (pc := 57) kA_0_37 dX0_copyFrom_57 rfl rfl rfl rfl rfl (by omega) rfl (?_))))))))
  refine ev_aload_n (pc := 60) dX0_copyFrom_60 rfl (ev_getr (pc := 61) kF_0_24 dX0_copyFrom_61 rfl rfl rfl (ev_iconst (pc := 64) (v := (0)) dX0_copyFrom_64 iconst_c0 (ev_aload_n (pc := 65) dX0_copyFrom_65 rfl (ev_getr (pc := 66) kF_0_24 dX0_copyFrom_66 rfl rfl rfl (ev_iconst (pc := 69) (v := (0)) dX0_copyFrom_69 iconst_c0 (ev_bipush (pc := 70) (v := (40)) dX0_copyFrom_70 bipush_c40 (ev_copy (pc := 72) kA_0_37 dX0_copyFrom_72 rfl rfl rfl rfl rfl (by omega) rfl (?_))))))))
  refine ev_aload_n (pc := 75) dX0_copyFrom_75 rfl (ev_getr (pc := 76) kF_0_27 dX0_copyFrom_76 rfl rfl rfl (ev_iconst (pc := 79) (v := (0)) dX0_copyFrom_79 iconst_c0 (ev_aload_n (pc := 80) dX0_copyFrom_80 rfl (ev_getr (pc := 81) kF_0_27 dX0_copyFrom_81 rfl rfl rfl (ev_iconst (pc := 84) (v := (0)) dX0_copyFrom_84 iconst_c0 (ev_bipush (pc := 85) (v := (30)) dX0_copyFrom_85 bipush_c30 (ev_copy (pc := 87) kA_0_37 dX0_copyFrom_87 rfl rfl rfl rfl rfl (by omega) rfl (?_))))))))
  refine ev_aload_n (pc := 90) dX0_copyFrom_90 rfl (ev_getr (pc := 91) kF_0_33 dX0_copyFrom_91 rfl rfl rfl (ev_aload_n (pc := 94) dX0_copyFrom_94 rfl (ev_getr (pc := 95) kF_0_33 dX0_copyFrom_95 rfl rfl rfl (ev_invV (pc := 98) kV_0_43 dX0_copyFrom_98 rfl rfl rfl (by omega) rfl ?_))))
  refine t_jcopy_9_52 (by omega) fun I1 h1 => ?_
  refine ev_aload_n (pc := 101) dX0_copyFrom_101 rfl (ev_aload_n (pc := 102) dX0_copyFrom_102 rfl (ev_geti (pc := 103) kF_0_47 dX0_copyFrom_103 rfl rfl (ev_puti (pc := 106) kF_0_47 dX0_copyFrom_106 rfl rfl rfl rfl rfl (ev_aload_n (pc := 109) dX0_copyFrom_109 rfl (ev_aload_n (pc := 110) dX0_copyFrom_110 rfl (ev_geti (pc := 111) kF_0_51 dX0_copyFrom_111 rfl rfl (ev_puti (pc := 114) kF_0_51 dX0_copyFrom_114 rfl rfl rfl rfl rfl (ev_aload_n (pc := 117) dX0_copyFrom_117 rfl (ev_aload_n (pc := 118) dX0_copyFrom_118 rfl (ev_geti (pc := 119) kF_0_54 dX0_copyFrom_119 rfl rfl (ev_puti (pc := 122) kF_0_54 dX0_copyFrom_122 rfl rfl rfl rfl rfl (ev_vret (pc := 125) dX0_copyFrom_125 rfl ?_))))))))))))
  obtain ⟨g1, g2, g3⟩ := h1
  refine h _ ⟨fun i hi => ?_, ?_, fun i h1 h2 => ?_, fun c hc => ?_⟩
  · have : i = 1 ∨ i = 2 ∨ i = 3 ∨ i = 4 ∨ i = 5 ∨ i = 6 ∨ i = 8 ∨ i = 9 ∨ i = 10 := by omega
    rcases this with rfl | rfl | rfl | rfl | rfl | rfl | rfl | rfl | rfl
    all_goals
      funext j
      simp only [ui]
      rw [if_neg (by omega), if_neg (by omega), if_neg (by omega)]
    · rw [g3 _ (by omega)]; simp [ur]
    · rw [g3 _ (by omega)]; simp [ur]
    · rw [g3 _ (by omega)]; simp [ur]
    · rw [g3 _ (by omega)]; simp [ur]
    · rw [g3 _ (by omega)]; simp [ur]
    · rw [g3 _ (by omega)]; simp [ur]
    · rw [g1 1 (by omega) (by omega)]; simp [ur]
    · rw [g1 2 (by omega) (by omega)]; simp [ur]
    · rw [g1 3 (by omega) (by omega)]; simp [ur]
  · simp only [ui]
    rw [if_neg (by omega), if_neg (by omega), if_neg (by omega), g2]
    simp [ur]
  · have : i = 7 ∨ i = 8 ∨ i = 9 := by omega
    have e2 : I1 45 = I 45 := by rw [g3 _ (by omega)]; funext j; simp [ur]
    rcases this with rfl | rfl | rfl <;> simp [ui, e2]
  · rw [show I c = I1 c by rw [g3 _ (by omega)]; funext j; simp only [ur]; rw [if_neg (by omega), if_neg (by omega), if_neg (by omega), if_neg (by omega), if_neg (by omega), if_neg (by omega)]]
    funext j
    simp only [ui]
    rw [if_neg (by omega), if_neg (by omega), if_neg (by omega)]
theorem t_copy_2_56 (hd : 2 ≤ d) (h : ∀ I', copC I I' 2 56 → Q none (I', J, KR p)) : T d me_X0_copyFrom [.ref 2, .ref 56] L I J p Q := by
  refine am_enter [some (.ref 2), some (.ref 56)] rfl rfl rfl rfl ?_
  refine ev_aload_n (pc := 0) dX0_copyFrom_0 rfl (ev_getr (pc := 1) kF_0_9 dX0_copyFrom_1 rfl rfl rfl (ev_iconst (pc := 4) (v := (0)) dX0_copyFrom_4 iconst_c0 (ev_aload_n (pc := 5) dX0_copyFrom_5 rfl (ev_getr (pc := 6) kF_0_9 dX0_copyFrom_6 rfl rfl rfl (ev_iconst (pc := 9) (v := (0)) dX0_copyFrom_9 iconst_c0 (ev_bipush (pc := 10) (v := (40)) dX0_copyFrom_10 bipush_c40 (ev_copy (pc := 12) kA_0_37 dX0_copyFrom_12 rfl rfl rfl rfl rfl (by omega) rfl (?_))))))))
  refine ev_aload_n (pc := 15) dX0_copyFrom_15 rfl (ev_getr (pc := 16) kF_0_15 dX0_copyFrom_16 rfl rfl rfl (ev_iconst (pc := 19) (v := (0)) dX0_copyFrom_19 iconst_c0 (ev_aload_n (pc := 20) dX0_copyFrom_20 rfl (ev_getr (pc := 21) kF_0_15 dX0_copyFrom_21 rfl rfl rfl (ev_iconst (pc := 24) (v := (0)) dX0_copyFrom_24 iconst_c0 (ev_bipush (pc := 25) (v := (40)) dX0_copyFrom_25 bipush_c40 (ev_copy (pc := 27) kA_0_37 dX0_copyFrom_27 rfl rfl rfl rfl rfl (by omega) rfl (?_))))))))
  refine ev_aload_n (pc := 30) dX0_copyFrom_30 rfl (ev_getr (pc := 31) kF_0_18 dX0_copyFrom_31 rfl rfl rfl (ev_iconst (pc := 34) (v := (0)) dX0_copyFrom_34 iconst_c0 (ev_aload_n (pc := 35) dX0_copyFrom_35 rfl (ev_getr (pc := 36) kF_0_18 dX0_copyFrom_36 rfl rfl rfl (ev_iconst (pc := 39) (v := (0)) dX0_copyFrom_39 iconst_c0 (ev_bipush (pc := 40) (v := (40)) dX0_copyFrom_40 bipush_c40 (ev_copy (pc := 42) kA_0_37 dX0_copyFrom_42 rfl rfl rfl rfl rfl (by omega) rfl (?_))))))))
  refine ev_aload_n (pc := 45) dX0_copyFrom_45 rfl (ev_getr (pc := 46) kF_0_21 dX0_copyFrom_46 rfl rfl rfl (ev_iconst (pc := 49) (v := (0)) dX0_copyFrom_49 iconst_c0 (ev_aload_n (pc := 50) dX0_copyFrom_50 rfl (ev_getr (pc := 51) kF_0_21 dX0_copyFrom_51 rfl rfl rfl (ev_iconst (pc := 54) (v := (0)) dX0_copyFrom_54 iconst_c0 (ev_bipush (pc := 55) (v := (40)) dX0_copyFrom_55 bipush_c40 (ev_copy (pc := 57) kA_0_37 dX0_copyFrom_57 rfl rfl rfl rfl rfl (by omega) rfl (?_))))))))
  refine ev_aload_n (pc := 60) dX0_copyFrom_60 rfl (ev_getr (pc := 61) kF_0_24 dX0_copyFrom_61 rfl rfl rfl (ev_iconst (pc := 64) (v := (0)) dX0_copyFrom_64 iconst_c0 (ev_aload_n (pc := 65) dX0_copyFrom_65 rfl (ev_getr (pc := 66) kF_0_24 dX0_copyFrom_66 rfl rfl rfl (ev_iconst (pc := 69) (v := (0)) dX0_copyFrom_69 iconst_c0 (ev_bipush (pc := 70) (v := (40)) dX0_copyFrom_70 bipush_c40 (ev_copy (pc := 72) kA_0_37 dX0_copyFrom_72 rfl rfl rfl rfl rfl (by omega) rfl (?_))))))))
  refine ev_aload_n (pc := 75) dX0_copyFrom_75 rfl (ev_getr (pc := 76) kF_0_27 dX0_copyFrom_76 rfl rfl rfl (ev_iconst (pc := 79) (v := (0)) dX0_copyFrom_79 iconst_c0 (ev_aload_n (pc := 80) dX0_copyFrom_80 rfl (ev_getr (pc := 81) kF_0_27 dX0_copyFrom_81 rfl rfl rfl (ev_iconst (pc := 84) (v := (0)) dX0_copyFrom_84 iconst_c0 (ev_bipush (pc := 85) (v := (30)) dX0_copyFrom_85 bipush_c30 (ev_copy (pc := 87) kA_0_37 dX0_copyFrom_87 rfl rfl rfl rfl rfl (by omega) rfl (?_))))))))
  refine ev_aload_n (pc := 90) dX0_copyFrom_90 rfl (ev_getr (pc := 91) kF_0_33 dX0_copyFrom_91 rfl rfl rfl (ev_aload_n (pc := 94) dX0_copyFrom_94 rfl (ev_getr (pc := 95) kF_0_33 dX0_copyFrom_95 rfl rfl rfl (ev_invV (pc := 98) kV_0_43 dX0_copyFrom_98 rfl rfl rfl (by omega) rfl ?_))))
  refine t_jcopy_9_63 (by omega) fun I1 h1 => ?_
  refine ev_aload_n (pc := 101) dX0_copyFrom_101 rfl (ev_aload_n (pc := 102) dX0_copyFrom_102 rfl (ev_geti (pc := 103) kF_0_47 dX0_copyFrom_103 rfl rfl (ev_puti (pc := 106) kF_0_47 dX0_copyFrom_106 rfl rfl rfl rfl rfl (ev_aload_n (pc := 109) dX0_copyFrom_109 rfl (ev_aload_n (pc := 110) dX0_copyFrom_110 rfl (ev_geti (pc := 111) kF_0_51 dX0_copyFrom_111 rfl rfl (ev_puti (pc := 114) kF_0_51 dX0_copyFrom_114 rfl rfl rfl rfl rfl (ev_aload_n (pc := 117) dX0_copyFrom_117 rfl (ev_aload_n (pc := 118) dX0_copyFrom_118 rfl (ev_geti (pc := 119) kF_0_54 dX0_copyFrom_119 rfl rfl (ev_puti (pc := 122) kF_0_54 dX0_copyFrom_122 rfl rfl rfl rfl rfl (ev_vret (pc := 125) dX0_copyFrom_125 rfl ?_))))))))))))
  obtain ⟨g1, g2, g3⟩ := h1
  refine h _ ⟨fun i hi => ?_, ?_, fun i h1 h2 => ?_, fun c hc => ?_⟩
  · have : i = 1 ∨ i = 2 ∨ i = 3 ∨ i = 4 ∨ i = 5 ∨ i = 6 ∨ i = 8 ∨ i = 9 ∨ i = 10 := by omega
    rcases this with rfl | rfl | rfl | rfl | rfl | rfl | rfl | rfl | rfl
    all_goals
      funext j
      simp only [ui]
      rw [if_neg (by omega), if_neg (by omega), if_neg (by omega)]
    · rw [g3 _ (by omega)]; simp [ur]
    · rw [g3 _ (by omega)]; simp [ur]
    · rw [g3 _ (by omega)]; simp [ur]
    · rw [g3 _ (by omega)]; simp [ur]
    · rw [g3 _ (by omega)]; simp [ur]
    · rw [g3 _ (by omega)]; simp [ur]
    · rw [g1 1 (by omega) (by omega)]; simp [ur]
    · rw [g1 2 (by omega) (by omega)]; simp [ur]
    · rw [g1 3 (by omega) (by omega)]; simp [ur]
  · simp only [ui]
    rw [if_neg (by omega), if_neg (by omega), if_neg (by omega), g2]
    simp [ur]
  · have : i = 7 ∨ i = 8 ∨ i = 9 := by omega
    have e2 : I1 56 = I 56 := by rw [g3 _ (by omega)]; funext j; simp [ur]
    rcases this with rfl | rfl | rfl <;> simp [ui, e2]
  · rw [show I c = I1 c by rw [g3 _ (by omega)]; funext j; simp only [ur]; rw [if_neg (by omega), if_neg (by omega), if_neg (by omega), if_neg (by omega), if_neg (by omega), if_neg (by omega)]]
    funext j
    simp only [ui]
    rw [if_neg (by omega), if_neg (by omega), if_neg (by omega)]
theorem t_copy_2_67 (hd : 2 ≤ d) (h : ∀ I', copC I I' 2 67 → Q none (I', J, KR p)) : T d me_X0_copyFrom [.ref 2, .ref 67] L I J p Q := by
  refine am_enter [some (.ref 2), some (.ref 67)] rfl rfl rfl rfl ?_
  refine ev_aload_n (pc := 0) dX0_copyFrom_0 rfl (ev_getr (pc := 1) kF_0_9 dX0_copyFrom_1 rfl rfl rfl (ev_iconst (pc := 4) (v := (0)) dX0_copyFrom_4 iconst_c0 (ev_aload_n (pc := 5) dX0_copyFrom_5 rfl (ev_getr (pc := 6) kF_0_9 dX0_copyFrom_6 rfl rfl rfl (ev_iconst (pc := 9) (v := (0)) dX0_copyFrom_9 iconst_c0 (ev_bipush (pc := 10) (v := (40)) dX0_copyFrom_10 bipush_c40 (ev_copy (pc := 12) kA_0_37 dX0_copyFrom_12 rfl rfl rfl rfl rfl (by omega) rfl (?_))))))))
  refine ev_aload_n (pc := 15) dX0_copyFrom_15 rfl (ev_getr (pc := 16) kF_0_15 dX0_copyFrom_16 rfl rfl rfl (ev_iconst (pc := 19) (v := (0)) dX0_copyFrom_19 iconst_c0 (ev_aload_n (pc := 20) dX0_copyFrom_20 rfl (ev_getr (pc := 21) kF_0_15 dX0_copyFrom_21 rfl rfl rfl (ev_iconst (pc := 24) (v := (0)) dX0_copyFrom_24 iconst_c0 (ev_bipush (pc := 25) (v := (40)) dX0_copyFrom_25 bipush_c40 (ev_copy (pc := 27) kA_0_37 dX0_copyFrom_27 rfl rfl rfl rfl rfl (by omega) rfl (?_))))))))
  refine ev_aload_n (pc := 30) dX0_copyFrom_30 rfl (ev_getr (pc := 31) kF_0_18 dX0_copyFrom_31 rfl rfl rfl (ev_iconst (pc := 34) (v := (0)) dX0_copyFrom_34 iconst_c0 (ev_aload_n (pc := 35) dX0_copyFrom_35 rfl (ev_getr (pc := 36) kF_0_18 dX0_copyFrom_36 rfl rfl rfl (ev_iconst (pc := 39) (v := (0)) dX0_copyFrom_39 iconst_c0 (ev_bipush (pc := 40) (v := (40)) dX0_copyFrom_40 bipush_c40 (ev_copy (pc := 42) kA_0_37 dX0_copyFrom_42 rfl rfl rfl rfl rfl (by omega) rfl (?_))))))))
  refine ev_aload_n (pc := 45) dX0_copyFrom_45 rfl (ev_getr (pc := 46) kF_0_21 dX0_copyFrom_46 rfl rfl rfl (ev_iconst (pc := 49) (v := (0)) dX0_copyFrom_49 iconst_c0 (ev_aload_n (pc := 50) dX0_copyFrom_50 rfl (ev_getr (pc := 51) kF_0_21 dX0_copyFrom_51 rfl rfl rfl (ev_iconst (pc := 54) (v := (0)) dX0_copyFrom_54 iconst_c0 (ev_bipush (pc := 55) (v := (40)) dX0_copyFrom_55 bipush_c40 (ev_copy (pc := 57) kA_0_37 dX0_copyFrom_57 rfl rfl rfl rfl rfl (by omega) rfl (?_))))))))
  refine ev_aload_n (pc := 60) dX0_copyFrom_60 rfl (ev_getr (pc := 61) kF_0_24 dX0_copyFrom_61 rfl rfl rfl (ev_iconst (pc := 64) (v := (0)) dX0_copyFrom_64 iconst_c0 (ev_aload_n (pc := 65) dX0_copyFrom_65 rfl (ev_getr (pc := 66) kF_0_24 dX0_copyFrom_66 rfl rfl rfl (ev_iconst (pc := 69) (v := (0)) dX0_copyFrom_69 iconst_c0 (ev_bipush (pc := 70) (v := (40)) dX0_copyFrom_70 bipush_c40 (ev_copy (pc := 72) kA_0_37 dX0_copyFrom_72 rfl rfl rfl rfl rfl (by omega) rfl (?_))))))))
  refine ev_aload_n (pc := 75) dX0_copyFrom_75 rfl (ev_getr (pc := 76) kF_0_27 dX0_copyFrom_76 rfl rfl rfl (ev_iconst (pc := 79) (v := (0)) dX0_copyFrom_79 iconst_c0 (ev_aload_n (pc := 80) dX0_copyFrom_80 rfl (ev_getr (pc := 81) kF_0_27 dX0_copyFrom_81 rfl rfl rfl (ev_iconst (pc := 84) (v := (0)) dX0_copyFrom_84 iconst_c0 (ev_bipush (pc := 85) (v := (30)) dX0_copyFrom_85 bipush_c30 (ev_copy (pc := 87) kA_0_37 dX0_copyFrom_87 rfl rfl rfl rfl rfl (by omega) rfl (?_))))))))
  refine ev_aload_n (pc := 90) dX0_copyFrom_90 rfl (ev_getr (pc := 91) kF_0_33 dX0_copyFrom_91 rfl rfl rfl (ev_aload_n (pc := 94) dX0_copyFrom_94 rfl (ev_getr (pc := 95) kF_0_33 dX0_copyFrom_95 rfl rfl rfl (ev_invV (pc := 98) kV_0_43 dX0_copyFrom_98 rfl rfl rfl (by omega) rfl ?_))))
  refine t_jcopy_9_74 (by omega) fun I1 h1 => ?_
  refine ev_aload_n (pc := 101) dX0_copyFrom_101 rfl (ev_aload_n (pc := 102) dX0_copyFrom_102 rfl (ev_geti (pc := 103) kF_0_47 dX0_copyFrom_103 rfl rfl (ev_puti (pc := 106) kF_0_47 dX0_copyFrom_106 rfl rfl rfl rfl rfl (ev_aload_n (pc := 109) dX0_copyFrom_109 rfl (ev_aload_n (pc := 110) dX0_copyFrom_110 rfl (ev_geti (pc := 111) kF_0_51 dX0_copyFrom_111 rfl rfl (ev_puti (pc := 114) kF_0_51 dX0_copyFrom_114 rfl rfl rfl rfl rfl (ev_aload_n (pc := 117) dX0_copyFrom_117 rfl (ev_aload_n (pc := 118) dX0_copyFrom_118 rfl (ev_geti (pc := 119) kF_0_54 dX0_copyFrom_119 rfl rfl (ev_puti (pc := 122) kF_0_54 dX0_copyFrom_122 rfl rfl rfl rfl rfl (ev_vret (pc := 125) dX0_copyFrom_125 rfl ?_))))))))))))
  obtain ⟨g1, g2, g3⟩ := h1
  refine h _ ⟨fun i hi => ?_, ?_, fun i h1 h2 => ?_, fun c hc => ?_⟩
  · have : i = 1 ∨ i = 2 ∨ i = 3 ∨ i = 4 ∨ i = 5 ∨ i = 6 ∨ i = 8 ∨ i = 9 ∨ i = 10 := by omega
    rcases this with rfl | rfl | rfl | rfl | rfl | rfl | rfl | rfl | rfl
    all_goals
      funext j
      simp only [ui]
      rw [if_neg (by omega), if_neg (by omega), if_neg (by omega)]
    · rw [g3 _ (by omega)]; simp [ur]
    · rw [g3 _ (by omega)]; simp [ur]
    · rw [g3 _ (by omega)]; simp [ur]
    · rw [g3 _ (by omega)]; simp [ur]
    · rw [g3 _ (by omega)]; simp [ur]
    · rw [g3 _ (by omega)]; simp [ur]
    · rw [g1 1 (by omega) (by omega)]; simp [ur]
    · rw [g1 2 (by omega) (by omega)]; simp [ur]
    · rw [g1 3 (by omega) (by omega)]; simp [ur]
  · simp only [ui]
    rw [if_neg (by omega), if_neg (by omega), if_neg (by omega), g2]
    simp [ur]
  · have : i = 7 ∨ i = 8 ∨ i = 9 := by omega
    have e2 : I1 67 = I 67 := by rw [g3 _ (by omega)]; funext j; simp [ur]
    rcases this with rfl | rfl | rfl <;> simp [ui, e2]
  · rw [show I c = I1 c by rw [g3 _ (by omega)]; funext j; simp only [ur]; rw [if_neg (by omega), if_neg (by omega), if_neg (by omega), if_neg (by omega), if_neg (by omega), if_neg (by omega)]]
    funext j
    simp only [ui]
    rw [if_neg (by omega), if_neg (by omega), if_neg (by omega)]
end T18
