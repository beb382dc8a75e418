section
variable {x x' : xS} {s s' : z_row} {m : Nat} {sv : Nat → z_row} {kp : Nat → Bool} {sl : Nat → z_row} {len : Nat} {tx : Nat → Int32}
theorem z_M_bad {f : Option (Int32 × xS)} {v : Int32} (z_hv : v ≠ 0) (R : z_RelR x s m sv kp sl len tx) (h : f = some (0, up1 x 101 0 v)) : z_MX f x v s m sv kp sl len tx := by
  obtain ⟨R0, F0, z0⟩ := z_RelR_0 R v
  exact ⟨_, 0, h, R0, F0, z0⟩
theorem z_M_look {f : Option (Int32 × xS)} {r : Int32} (R : z_RelR x s m sv kp sl len tx) (h : ∀ y, z_RelR y s m sv kp sl len tx → y = up1 x 101 0 0 → f = some (r, y)) : z_MM f x r s m sv kp sl len tx := by
  obtain ⟨R0, F0, z0⟩ := z_RelR_0 R 0
  exact ⟨_, h _ R0 rfl, R0, F0, z0⟩
theorem z_M_at (R : z_RelR x s m sv kp sl len tx) {b h : Nat} (hb : b < 4) (hh : h < 12) : z_MM (fX7_at 101 (z_I b) (z_I h) x) x (z_hv s b h) s m sv kp sl len tx := by
  refine z_M_look R (fun y Ry ey => ?_)
  unfold fX7_at fX7_at_b0 fX7_at_b29
  rw [show fX7_in (z_I b) 0 3 x = some 1 from z_r_in_ok (a := 0) (b := 3) x (by omega) (by omega) (by omega), z_ob, if_neg (by decide), show fX7_in (z_I h) 0 11 x = some 1 from z_r_in_ok (a := 0) (b := 11) x (by omega) (by omega) (by omega), z_ob, if_neg (by decide), z_r_h0, z_ob, z_qh1, ← ey, z_r_ofBed, z_ob, z_gm (by omega), z_Rr_I Ry.1 (by omega)]
  rfl
theorem z_M_at_B (R : z_RelR x s m sv kp sl len tx) {v w : Int32} (h : ¬ z_inR v 0 3) : z_MX (fX7_at 101 v w x) x 1 s m sv kp sl len tx := by
  refine z_M_bad (by decide) R ?_
  unfold fX7_at fX7_at_b0 fX7_at_b29
  rw [show fX7_in v 0 3 x = some 0 from z_r_in_bad (a := 0) (b := 3) x (by omega) (by omega) h, z_ob, if_pos rfl, z_r_hn (by decide), z_ob, z_qh0]
theorem z_M_at_H (R : z_RelR x s m sv kp sl len tx) {b : Nat} {w : Int32} (hb : b < 4) (h : ¬ z_inR w 0 11) : z_MX (fX7_at 101 (z_I b) w x) x 2 s m sv kp sl len tx := by
  refine z_M_bad (by decide) R ?_
  unfold fX7_at fX7_at_b0 fX7_at_b29
  rw [show fX7_in (z_I b) 0 3 x = some 1 from z_r_in_ok (a := 0) (b := 3) x (by omega) (by omega) (by omega), z_ob, if_neg (by decide), show fX7_in w 0 11 x = some 0 from z_r_in_bad (a := 0) (b := 11) x (by omega) (by omega) h, z_ob, if_pos rfl, z_r_hn (by decide), z_ob, z_qh0]
theorem z_M_lodgerOf (R : z_RelR x s m sv kp sl len tx) (O : z_OKs s) {l k : Nat} (hl : l < 10) (hk : k < 7) : z_MM (fX7_lodgerOf 101 (z_I l) (z_I k) x) x (z_LN s l k) s m sv kp sl len tx := by
  refine z_M_look R (fun y Ry ey => ?_)
  unfold fX7_lodgerOf fX7_lodgerOf_b0 fX7_lodgerOf_b27
  rw [z_r_isLodger_ok x hl, z_ob, if_neg (by decide), show fX7_in (z_I k) 0 6 x = some 1 from z_r_in_ok (a := 0) (b := 6) x (by omega) (by omega) (by omega), z_ob, if_neg (by decide), z_r_h0, z_ob, z_qh1, ← ey, z_r_ofLodger Ry.1 O.2.2.2.2.2 hl hk, z_ob]
theorem z_M_lodgerOf_L (R : z_RelR x s m sv kp sl len tx) {v w : Int32} (h : ¬ z_inR v 0 9) : z_MX (fX7_lodgerOf 101 v w x) x 1 s m sv kp sl len tx := by
  refine z_M_bad (by decide) R ?_
  unfold fX7_lodgerOf fX7_lodgerOf_b0 fX7_lodgerOf_b27
  rw [z_r_isLodger_bad x h, z_ob, if_pos rfl, z_r_hn (by decide), z_ob, z_qh0]
theorem z_M_lodgerOf_K (R : z_RelR x s m sv kp sl len tx) {l : Nat} {w : Int32} (hl : l < 10) (h : ¬ z_inR w 0 6) : z_MX (fX7_lodgerOf 101 (z_I l) w x) x 2 s m sv kp sl len tx := by
  refine z_M_bad (by decide) R ?_
  unfold fX7_lodgerOf fX7_lodgerOf_b0 fX7_lodgerOf_b27
  rw [z_r_isLodger_ok x hl, z_ob, if_neg (by decide), show fX7_in w 0 6 x = some 0 from z_r_in_bad (a := 0) (b := 6) x (by omega) (by omega) h, z_ob, if_pos rfl, z_r_hn (by decide), z_ob, z_qh0]
def z_CT2 (s : z_row) (m k : Nat) : Int32 := if k = 11 then z_I m else z_CN s (z_S3 s) (z_S5 s) k
theorem z_r_counted2 (R : z_RelR x s m sv kp sl len tx) {k : Nat} (hk : k < 12) : fX7_counted 101 (z_I k) x = some (z_CT2 s m k) := by
  unfold z_CT2
  by_cases c : k = 11
  · subst c; rw [if_pos rfl, z_r_counted11 R.2.1]
  · rw [if_neg c, z_r_counted R.1 (by omega)]
theorem z_M_count (R : z_RelR x s m sv kp sl len tx) {k : Nat} (hk : k < 12) : z_MM (fX7_count 101 (z_I k) x) x (z_CT2 s m k) s m sv kp sl len tx := by
  refine z_M_look R (fun y Ry ey => ?_)
  unfold fX7_count fX7_count_b0 fX7_count_b16
  rw [show fX7_in (z_I k) 0 11 x = some 1 from z_r_in_ok (a := 0) (b := 11) x (by omega) (by omega) (by omega), z_ob, if_neg (by decide), z_r_h0, z_ob, z_qh1, ← ey, z_r_counted2 Ry hk, z_ob]
theorem z_M_count_K (R : z_RelR x s m sv kp sl len tx) {w : Int32} (h : ¬ z_inR w 0 11) : z_MX (fX7_count 101 w x) x 1 s m sv kp sl len tx := by
  refine z_M_bad (by decide) R ?_
  unfold fX7_count fX7_count_b0 fX7_count_b16
  rw [show fX7_in w 0 11 x = some 0 from z_r_in_bad (a := 0) (b := 11) x (by omega) (by omega) h, z_ob, if_pos rfl, z_r_hn (by decide), z_ob, z_qh0]
theorem z_M_refused (R : z_RelR x s m sv kp sl len tx) {r : Nat} (h1 : 1 ≤ r) (h4 : r ≤ 4) : z_MM (fX7_refused 101 (z_I r) x) x (s (110 + r)) s m sv kp sl len tx := by
  refine z_M_look R (fun y Ry ey => ?_)
  unfold fX7_refused fX7_refused_b0 fX7_refused_b15
  have e1 : (111 + z_I r) - 1 = z_I (110 + r) := by rw [z_L111, z_I_add, z_L1, z_I_sub (by omega)]; congr 1; omega
  rw [show fX7_in (z_I r) 1 4 x = some 1 from z_r_in_ok (a := 1) (b := 4) x (by omega) (by omega) (by omega), z_ob, if_neg (by decide), z_r_h0, z_ob, z_qh1, ← ey, e1, z_gm (by omega), z_Rr_I Ry.1 (by omega)]
theorem z_M_refused_R (R : z_RelR x s m sv kp sl len tx) {w : Int32} (h : ¬ z_inR w 1 4) : z_MX (fX7_refused 101 w x) x 1 s m sv kp sl len tx := by
  refine z_M_bad (by decide) R ?_
  unfold fX7_refused fX7_refused_b0 fX7_refused_b15
  rw [show fX7_in w 1 4 x = some 0 from z_r_in_bad (a := 1) (b := 4) x (by omega) (by omega) h, z_ob, if_pos rfl, z_r_hn (by decide), z_ob, z_qh0]
theorem z_M_ifAsked (R : z_RelR x s m sv kp sl len tx) (O : z_OKs s) {l f n : Nat} (hl : l < 10) (hf : f < 12) (h1 : 1 ≤ n) (h9 : n ≤ 9) (hh : f + n ≤ 12) : z_MM (fX7_ifAsked 101 (z_I l) (z_I f) (z_I n) x) x (z_I (z_AN s l f n)) s m sv kp sl len tx := by
  obtain ⟨R0, F0, z0⟩ := z_RelR_0 R 0
  unfold fX7_ifAsked fX7_ifAsked_b0 fX7_ifAsked_b25
  rw [z_r_isLodger_ok x hl, z_ob, if_neg (by decide), z_r_isTime_ok x ⟨f, n, rfl, rfl, hf, h1, h9, hh⟩, z_ob, if_neg (by decide), z_r_h0, z_ob, z_qh1]
  obtain ⟨z, ez, Az, Fz, _⟩ := z_r_would R0.1 O hl h1 hh
  rw [ez, z_ob]
  exact ⟨z, rfl, z_RelR_W R0 Fz Az, z_FM_t F0 (z_FM_W Fz), by rw [Fz.2.2 0 (by omega)]; exact z0⟩
theorem z_M_ifAsked_L (R : z_RelR x s m sv kp sl len tx) {v w u : Int32} (h : ¬ z_inR v 0 9) : z_MX (fX7_ifAsked 101 v w u x) x 1 s m sv kp sl len tx := by
  refine z_M_bad (by decide) R ?_
  unfold fX7_ifAsked fX7_ifAsked_b0 fX7_ifAsked_b25
  rw [z_r_isLodger_bad x h, z_ob, if_pos rfl, z_r_hn (by decide), z_ob, z_qh0]
theorem z_M_ifAsked_W (R : z_RelR x s m sv kp sl len tx) {l : Nat} {w u : Int32} (hl : l < 10) (h : ¬ z_WN w u) : z_MX (fX7_ifAsked 101 (z_I l) w u x) x 2 s m sv kp sl len tx := by
  refine z_M_bad (by decide) R ?_
  unfold fX7_ifAsked fX7_ifAsked_b0 fX7_ifAsked_b25
  rw [z_r_isLodger_ok x hl, z_ob, if_neg (by decide), z_r_isTime_bad x h, z_ob, if_pos rfl, z_r_hn (by decide), z_ob, z_qh0]
theorem z_M_ifPutOut (R : z_RelR x s m sv kp sl len tx) (O : z_OKs s) {l f n : Nat} (hl : l < 10) (hf : f < 12) (h1 : 1 ≤ n) (h9 : n ≤ 9) (hh : f + n ≤ 12) : z_MM (fX7_ifPutOut 101 (z_I l) (z_I f) (z_I n) x) x (z_I (z_WO s l f n)) s m sv kp sl len tx := by
  obtain ⟨R0, F0, z0⟩ := z_RelR_0 R 0
  unfold fX7_ifPutOut fX7_ifPutOut_b0 fX7_ifPutOut_b25
  rw [z_r_isLodger_ok x hl, z_ob, if_neg (by decide), z_r_isTime_ok x ⟨f, n, rfl, rfl, hf, h1, h9, hh⟩, z_ob, if_neg (by decide), z_r_h0, z_ob, z_qh1]
  obtain ⟨z, ez, Az, Fz, e9⟩ := z_r_would R0.1 O hl h1 hh
  rw [ez, z_ob]
  exact ⟨z, by rw [e9], z_RelR_W R0 Fz Az, z_FM_t F0 (z_FM_W Fz), by rw [Fz.2.2 0 (by omega)]; exact z0⟩
theorem z_M_ifPutOut_L (R : z_RelR x s m sv kp sl len tx) {v w u : Int32} (h : ¬ z_inR v 0 9) : z_MX (fX7_ifPutOut 101 v w u x) x 1 s m sv kp sl len tx := by
  refine z_M_bad (by decide) R ?_
  unfold fX7_ifPutOut fX7_ifPutOut_b0 fX7_ifPutOut_b25
  rw [z_r_isLodger_bad x h, z_ob, if_pos rfl, z_r_hn (by decide), z_ob, z_qh0]
theorem z_M_ifPutOut_W (R : z_RelR x s m sv kp sl len tx) {l : Nat} {w u : Int32} (hl : l < 10) (h : ¬ z_WN w u) : z_MX (fX7_ifPutOut 101 (z_I l) w u x) x 2 s m sv kp sl len tx := by
  refine z_M_bad (by decide) R ?_
  unfold fX7_ifPutOut fX7_ifPutOut_b0 fX7_ifPutOut_b25
  rw [z_r_isLodger_ok x hl, z_ob, if_neg (by decide), z_r_isTime_bad x h, z_ob, if_pos rfl, z_r_hn (by decide), z_ob, z_qh0]
theorem z_M_fewest (R : z_RelR x s m sv kp sl len tx) {v : Nat} (z_hv : v ≤ 1) : z_MM (fX7_fewestBeds 101 (z_I v) x) x (z_I (z_ML s)) s m sv kp sl len tx := by
  refine z_M_look R (fun y Ry ey => ?_)
  unfold fX7_fewestBeds fX7_fewestBeds_b0 fX7_fewestBeds_b15
  rw [show fX7_in (z_I v) 0 1 x = some 1 from z_r_in_ok (a := 0) (b := 1) x (by omega) (by omega) (by omega), z_ob, if_neg (by decide), z_r_h0, z_ob, z_qh1, ← ey, z_r_mostAtOnce Ry.1, z_ob]
theorem z_M_fewest_K (R : z_RelR x s m sv kp sl len tx) {w : Int32} (h : ¬ z_inR w 0 1) : z_MX (fX7_fewestBeds 101 w x) x 1 s m sv kp sl len tx := by
  refine z_M_bad (by decide) R ?_
  unfold fX7_fewestBeds fX7_fewestBeds_b0 fX7_fewestBeds_b15
  rw [show fX7_in w 0 1 x = some 0 from z_r_in_bad (a := 0) (b := 1) x (by omega) (by omega) h, z_ob, if_pos rfl, z_r_hn (by decide), z_ob, z_qh0]
theorem z_M_longest (R : z_RelR x s m sv kp sl len tx) (O : z_OKs s) {l f : Nat} (hl : l < 10) (hf : f < 12) : z_MM (fX7_longest 101 (z_I l) (z_I f) x) x (z_I (z_LF s (z_I l) f)) s m sv kp sl len tx := by
  refine z_M_look R (fun y Ry ey => ?_)
  unfold fX7_longest fX7_longest_b0 fX7_longest_b27
  rw [z_r_isLodger_ok x hl, z_ob, if_neg (by decide), show fX7_in (z_I f) 0 11 x = some 1 from z_r_in_ok (a := 0) (b := 11) x (by omega) (by omega) (by omega), z_ob, if_neg (by decide), z_r_h0, z_ob, z_qh1, ← ey, z_r_longestFor Ry.1 O.2.2.2.2.2 hl hf, z_ob]
theorem z_M_longest_L (R : z_RelR x s m sv kp sl len tx) {v w : Int32} (h : ¬ z_inR v 0 9) : z_MX (fX7_longest 101 v w x) x 1 s m sv kp sl len tx := by
  refine z_M_bad (by decide) R ?_
  unfold fX7_longest fX7_longest_b0 fX7_longest_b27
  rw [z_r_isLodger_bad x h, z_ob, if_pos rfl, z_r_hn (by decide), z_ob, z_qh0]
theorem z_M_longest_H (R : z_RelR x s m sv kp sl len tx) {l : Nat} {w : Int32} (hl : l < 10) (h : ¬ z_inR w 0 11) : z_MX (fX7_longest 101 (z_I l) w x) x 2 s m sv kp sl len tx := by
  refine z_M_bad (by decide) R ?_
  unfold fX7_longest fX7_longest_b0 fX7_longest_b27
  rw [z_r_isLodger_ok x hl, z_ob, if_neg (by decide), show fX7_in w 0 11 x = some 0 from z_r_in_bad (a := 0) (b := 11) x (by omega) (by omega) h, z_ob, if_pos rfl, z_r_hn (by decide), z_ob, z_qh0]
theorem z_M_poorest (R : z_RelR x s m sv kp sl len tx) (O : z_OKs s) : z_MM (fX7_poorest 101 x) x (z_I (z_RM s)) s m sv kp sl len tx := by
  refine z_M_look R (fun y Ry ey => ?_)
  unfold fX7_poorest fX7_poorest_b0
  rw [z_lt_, ← ey, z_r_refusedMost Ry.1 O, z_ob]
theorem z_M_clear (R : z_RelR x s m sv kp sl len tx) : z_MM (fX7_clearBuffer 101 x) x (z_I len) s m sv kp sl 0 tx := by
  obtain ⟨R0, F0, z0⟩ := z_RelR_0 R 0
  unfold fX7_clearBuffer fX7_clearBuffer_b0
  rw [z_lt_]
  generalize up1 x 101 0 0 = y at *
  rw [z_lt_, R0.2.2.2.1, z_lt_]
  obtain ⟨A, ⟨a, b, c⟩, ⟨d, e⟩, ⟨f, g, h'⟩⟩ := R0
  refine ⟨_, rfl, ⟨fun j hj => by rw [z_up1_o _ _ _ (by omega)]; exact A j hj, ⟨?_, b, fun k hk j hj => by rw [z_up1_o _ _ _ (by omega)]; exact c k hk j hj⟩, ⟨?_, fun k hk e1 j hj => by rw [z_up1_o _ _ _ (by omega)]; exact e k hk e1 j hj⟩, ⟨?_, by omega, fun k hk => absurd hk (Nat.not_lt_zero k)⟩⟩, z_FM_t F0 (z_FM_up _ _ (by omega) (by omega)), ?_⟩
  · rw [z_up1_at, if_neg (by omega)]; exact a
  · rw [z_up1_at, if_neg (by omega)]; exact d
  · rw [z_up1_at, if_pos ⟨rfl, rfl⟩]; rfl
  · rw [z_up1_at, if_neg (by omega)]; exact z0
theorem z_M_append (R : z_RelR x s m sv kp sl len tx) {v : Nat} (h1 : 33 ≤ v) (h2 : v ≤ 126) (h : len < 60) : z_MM (fX7_append 101 (z_I v) x) x (z_I (len + 1)) s m sv kp sl (len + 1) (fun k => if k = len then z_I v else tx k) := by
  obtain ⟨R0, F0, z0⟩ := z_RelR_0 R 0
  unfold fX7_append fX7_append_b0 fX7_append_b30
  rw [show fX7_in (z_I v) 33 126 x = some 1 from z_r_in_ok (a := 33) (b := 126) x h1 h2 (by omega), z_ob, if_neg (by decide), R.2.2.2.1, if_neg (by rw [z_L60, z_I_eq (by omega) (by omega)]; omega), z_r_h0, z_ob, z_qh1]
  generalize up1 x 101 0 0 = y at *
  dsimp only
  rw [R0.2.2.2.1, z_gd (show len < ln (101 + 5) from h) (by decide), z_lt_, z_I_nat (by omega)]
  obtain ⟨A, ⟨a, b, c⟩, ⟨d, e⟩, ⟨f, g, h'⟩⟩ := R0
  have e1 : (up1 y (101 + 5) len (z_I v)).1 101 8 = z_I len := by rw [z_up1_o _ _ _ (by omega)]; exact f
  rw [e1, z_I_s, z_lt_]
  refine ⟨_, by rw [z_up1_at, if_pos ⟨rfl, rfl⟩], ⟨fun j hj => by rw [z_up1_o _ _ _ (by omega), z_up1_o _ _ _ (by omega)]; exact A j hj, ⟨?_, b, fun k hk j hj => by rw [z_up1_o _ _ _ (by omega), z_up1_o _ _ _ (by omega)]; exact c k hk j hj⟩, ⟨?_, fun k hk e1 j hj => by rw [z_up1_o _ _ _ (by omega), z_up1_o _ _ _ (by omega)]; exact e k hk e1 j hj⟩, ⟨?_, by omega, fun k hk => ?_⟩⟩, z_FM_t F0 (z_FM_t (z_FM_up _ _ (by omega) (by omega)) (z_FM_up _ _ (by omega) (by omega))), ?_⟩
  · rw [z_up1_at, if_neg (by omega), z_up1_o _ _ _ (by omega)]; exact a
  · rw [z_up1_at, if_neg (by omega), z_up1_o _ _ _ (by omega)]; exact d
  · rw [z_up1_at, if_pos ⟨rfl, rfl⟩]
  · rw [z_up1_o _ _ _ (by omega), z_up1_at]
    dsimp only
    by_cases q : k = len
    · rw [if_pos ⟨rfl, q⟩, if_pos q]
    · rw [if_neg (fun w => q w.2), if_neg q]; exact h' k (by omega)
  · rw [z_up1_at, if_neg (by omega), z_up1_o _ _ _ (by omega)]; exact z0
theorem z_M_append_full (R : z_RelR x s m sv kp sl len tx) {v : Nat} (h1 : 33 ≤ v) (h2 : v ≤ 126) (h : ¬ len < 60) : z_MX (fX7_append 101 (z_I v) x) x 2 s m sv kp sl len tx := by
  refine z_M_bad (by decide) R ?_
  have := R.2.2.2.2.1
  unfold fX7_append fX7_append_b0 fX7_append_b30
  rw [show fX7_in (z_I v) 33 126 x = some 1 from z_r_in_ok (a := 33) (b := 126) x h1 h2 (by omega), z_ob, if_neg (by decide), R.2.2.2.1, if_pos (by rw [z_L60, z_I_eq (by omega) (by omega)]; omega), z_r_hn (by decide), z_ob, z_qh0]
theorem z_M_append_bad (R : z_RelR x s m sv kp sl len tx) {v : Int32} (h : ¬ z_inR v 33 126) : z_MX (fX7_append 101 v x) x 1 s m sv kp sl len tx := by
  refine z_M_bad (by decide) R ?_
  unfold fX7_append fX7_append_b0 fX7_append_b30
  rw [show fX7_in v 33 126 x = some 0 from z_r_in_bad (a := 33) (b := 126) x (by omega) (by omega) h, z_ob, if_pos rfl, z_r_hn (by decide), z_ob, z_qh0]
end

section
variable {x x' : xS} {s s' : z_row} {m : Nat} {sv : Nat → z_row} {kp : Nat → Bool} {sl : Nat → z_row} {len : Nat} {tx : Nat → Int32}
theorem z_kbor : ∀ a b : Bool, ∀ j, j < 2 → (z_I ((if a = true then 1 else 0) + (if b = true then 2 else 0)) ||| ((1 : Int32) <<< (z_I j &&& 31))) = z_I ((if (if 0 = j then true else a) = true then 1 else 0) + (if (if 1 = j then true else b) = true then 2 else 0)) := by decide
theorem z_kbbit : ∀ a b : Bool, ∀ j, j < 2 → ((z_I ((if a = true then 1 else 0) + (if b = true then 2 else 0)) >>> (z_I j &&& 31)) &&& 1) = (if (if j = 0 then a else b) = true then 1 else 0) := by decide
theorem z_M_keep (R : z_RelR x s m sv kp sl len tx) {j : Nat} (hj : j ≤ 1) : z_MM (fX7_keep 101 (z_I j) x) x (z_I (z_LT s)) s m sv (fun k => if k = j then true else kp k) (fun k => if k = j then s else sl k) len tx := by
  obtain ⟨R0, F0, z0⟩ := z_RelR_0 R 0
  unfold fX7_keep fX7_keep_b0 fX7_keep_b15
  rw [show fX7_in (z_I j) 0 1 x = some 1 from z_r_in_ok (a := 0) (b := 1) x (by omega) (by omega) (by omega), z_ob, if_neg (by decide), z_r_h0, z_ob, z_qh1]
  generalize up1 x 101 0 0 = y at *
  dsimp only
  have q : ∀ d n i w, (∀ k, k < i → w.1 105 (120 * j + k) = s k) → (∀ k, ¬ (120 * j ≤ k ∧ k < 120 * j + 120) → w.1 105 k = y.1 105 k) → (∀ i, i ≠ 105 → w.1 i = y.1 i) → w.2 = y.2 → i + d = 120 → d < n → ∃ z, fX7_keep_b25 101 (z_I j) n (z_I i) w = some (z_I (z_LT s), up1 z 101 6 (z.1 101 6 ||| ((1 : Int32) <<< (z_I j &&& 31)))) ∧ (∀ k, k < 120 → z.1 105 (120 * j + k) = s k) ∧ (∀ k, ¬ (120 * j ≤ k ∧ k < 120 * j + 120) → z.1 105 k = y.1 105 k) ∧ (∀ i, i ≠ 105 → z.1 i = y.1 i) ∧ z.2 = y.2 := by
    intro d
    induction d with
    | zero =>
      intro n i w h1 h2 h3 h4 hi z_hn
      obtain ⟨n, rfl⟩ : ∃ k, n = k + 1 := ⟨n - 1, by omega⟩
      rw [fX7_keep_b25, if_pos (by rw [z_L120, z_I_le (by omega) (by omega)]; omega), z_lt_]
      rw [z_r_lent (s := s) (fun k hk => by rw [z_up1_o _ _ _ (by omega), h3 102 (by omega)]; exact R0.1 k hk), z_ob]
      exact ⟨w, rfl, fun k hk => h1 k (by omega), h2, h3, h4⟩
    | succ d ih =>
      intro n i w h1 h2 h3 h4 hi z_hn
      obtain ⟨n, rfl⟩ : ∃ k, n = k + 1 := ⟨n - 1, by omega⟩
      rw [fX7_keep_b25, if_neg (by rw [z_L120, z_I_le (by omega) (by omega)]; omega), z_gm (by omega), z_L120, z_I_mul, z_I_add, z_gd (show 120 * j + i < ln (101 + 4) from (by show 120 * j + i < 240; omega)) (by decide), z_lt_, z_I_nat (by omega), z_I_nat (by omega), z_I_s]
      apply ih n (i + 1)
      · intro k hk
        rw [z_up1_at]
        by_cases c : k = i
        · rw [if_pos ⟨rfl, by rw [c]⟩, h3 (101 + 1) (by omega), c]; exact R0.1 i (by omega)
        · rw [if_neg (by omega)]; exact h1 k (by omega)
      · intro k hk; rw [z_up1_at, if_neg (by omega)]; exact h2 k hk
      · intro i hi; rw [z_up1_o _ _ _ hi]; exact h3 i hi
      · exact h4
      · omega
      · omega
  obtain ⟨z, ez, z1, z2, z3, z4⟩ := q 120 FU 0 y (fun k hk => absurd hk (Nat.not_lt_zero k)) (fun _ _ => rfl) (fun _ _ => rfl) rfl (by omega) (by decide)
  obtain ⟨A, ⟨a, b, c⟩, ⟨d, e⟩, ⟨f, g, h'⟩⟩ := R0
  have e6 : z.1 101 6 = z_I (z_kb kp) := by rw [z3 101 (by omega)]; exact d
  refine ⟨_, ez, ⟨fun k hk => by rw [z_up1_o _ _ _ (by omega), z3 102 (by omega)]; exact A k hk, ⟨?_, b, fun k hk j hj => by rw [z_up1_o _ _ _ (by omega), z3 104 (by omega)]; exact c k hk j hj⟩, ⟨?_, fun k hk hkp i hi => ?_⟩, ⟨?_, g, fun k hk => by rw [z_up1_o _ _ _ (by omega), z3 106 (by omega)]; exact h' k hk⟩⟩, ?_, ?_⟩
  · rw [z_up1_at, if_neg (by omega), z3 101 (by omega)]; exact a
  · rw [z_up1_at, if_pos ⟨rfl, rfl⟩, e6]; unfold z_kb; exact z_kbor _ _ j (by omega)
  · rw [z_up1_o _ _ _ (by omega)]
    dsimp only at hkp ⊢
    by_cases ck : k = j
    · rw [if_pos ck, ck]; exact z1 i hi
    · rw [if_neg ck] at hkp ⊢
      rw [z2 _ (by omega)]; exact e k hk hkp i hi
  · rw [z_up1_at, if_neg (by omega), z3 101 (by omega)]; exact f
  · exact z_FM_t F0 (z_FM_t ⟨by rw [z4], fun i hi => z3 i (by omega)⟩ (z_FM_up _ _ (by omega) (by omega)))
  · rw [z_up1_at, if_neg (by omega), z3 101 (by omega)]; exact z0
theorem z_M_keep_K (R : z_RelR x s m sv kp sl len tx) {w : Int32} (h : ¬ z_inR w 0 1) : z_MX (fX7_keep 101 w x) x 1 s m sv kp sl len tx := by
  refine z_M_bad (by decide) R ?_
  unfold fX7_keep fX7_keep_b0 fX7_keep_b15
  rw [show fX7_in w 0 1 x = some 0 from z_r_in_bad (a := 0) (b := 1) x (by omega) (by omega) h, z_ob, if_pos rfl, z_r_hn (by decide), z_ob, z_qh0]
theorem z_RelR_new {t : z_row} (h102 : z_Rr x' t) (ho : ∀ i, i ≠ 102 → x'.1 i = x.1 i) (R : z_RelR x s m sv kp sl len tx) : z_RelR x' t m sv kp sl len tx := by
  obtain ⟨A, ⟨a, b, c⟩, ⟨d, e⟩, ⟨f, g, h'⟩⟩ := R
  exact ⟨h102, ⟨by rw [ho 101 (by omega)]; exact a, b, fun k hk j hj => by rw [ho 104 (by omega)]; exact c k hk j hj⟩, ⟨by rw [ho 101 (by omega)]; exact d, fun k hk e1 j hj => by rw [ho 105 (by omega)]; exact e k hk e1 j hj⟩, ⟨by rw [ho 101 (by omega)]; exact f, g, fun k hk => by rw [ho 106 (by omega)]; exact h' k hk⟩⟩
theorem z_M_goBack (R : z_RelR x s m sv kp sl len tx) {j : Nat} (hj : j ≤ 1) (hk_ : kp j = true) : z_MM (fX7_goBack 101 (z_I j) x) x (z_I (z_LT (sl j))) (sl j) (z_nM m) (z_nV m sv s) kp sl len tx := by
  unfold fX7_goBack fX7_goBack_b0 fX7_goBack_b30
  have hkb := z_kbbit (kp 0) (kp 1) j (by omega)
  have e6 : x.1 101 6 = _ := R.2.2.1.1
  unfold z_kb at e6
  have kj : (if j = 0 then kp 0 else kp 1) = true := by
    rcases (by omega : j = 0 ∨ j = 1) with rfl | rfl
    · first | exact hk | exact hk_
    · first | exact hk | exact hk_
  rw [kj, if_pos rfl] at hkb
  rw [show fX7_in (z_I j) 0 1 x = some 1 from z_r_in_ok (a := 0) (b := 1) x (by omega) (by omega) (by omega), z_ob, if_neg (by decide), e6, hkb, if_neg (by decide), z_r_h0, z_ob, z_qh1]
  refine z_MM_save R (fun y Ry y0 => ?_)
  have q : ∀ d n i w, (∀ k, k < i → w.1 102 k = sl j k) → (∀ i, i ≠ 102 → w.1 i = y.1 i) → w.2 = y.2 → i + d = 120 → d < n → ∃ z, fX7_goBack_b44 101 (z_I j) n (z_I i) w = some (z_I (z_LT (sl j)), z) ∧ z_Rr z (sl j) ∧ (∀ i, i ≠ 102 → z.1 i = y.1 i) ∧ z.2 = y.2 := by
    intro d
    induction d with
    | zero =>
      intro n i w h1 h3 h4 hi z_hn
      obtain ⟨n, rfl⟩ : ∃ k, n = k + 1 := ⟨n - 1, by omega⟩
      have Aw : z_Rr w (sl j) := fun k hk => h1 k (by omega)
      rw [fX7_goBack_b44, if_pos (by rw [z_L120, z_I_le (by omega) (by omega)]; omega), z_r_lent Aw, z_ob]
      exact ⟨w, rfl, Aw, h3, h4⟩
    | succ d ih =>
      intro n i w h1 h3 h4 hi z_hn
      obtain ⟨n, rfl⟩ : ∃ k, n = k + 1 := ⟨n - 1, by omega⟩
      rw [fX7_goBack_b44, if_neg (by rw [z_L120, z_I_le (by omega) (by omega)]; omega), z_L120, z_I_mul, z_I_add, z_gd (show 120 * j + i < ln (101 + 4) from (by show 120 * j + i < 240; omega)) (by decide), z_gm (by omega), z_lt_, z_I_nat (by omega), z_I_nat (by omega), z_I_s]
      apply ih n (i + 1)
      · intro k hk
        rw [z_up1_at]
        by_cases c : k = i
        · rw [if_pos ⟨rfl, c⟩, h3 (101 + 4) (by omega), c]; exact Ry.2.2.1.2 j (by omega) hk_ i (by omega)
        · rw [if_neg (fun e => c e.2)]; exact h1 k (by omega)
      · intro i hi; rw [z_up1_o _ _ _ hi]; exact h3 i hi
      · exact h4
      · omega
      · omega
  obtain ⟨z, ez, Az, z3, z4⟩ := q 120 FU 0 y (fun k hk => absurd hk (Nat.not_lt_zero k)) (fun _ _ => rfl) rfl (by omega) (by decide)
  exact ⟨z, ez, z_RelR_new Az z3 Ry, ⟨by rw [z4], fun i hi => z3 i (by omega)⟩, by rw [z3 101 (by omega)]; exact y0⟩
theorem z_M_goBack_K (R : z_RelR x s m sv kp sl len tx) {w : Int32} (h : ¬ z_inR w 0 1) : z_MX (fX7_goBack 101 w x) x 1 s m sv kp sl len tx := by
  refine z_M_bad (by decide) R ?_
  unfold fX7_goBack fX7_goBack_b0 fX7_goBack_b30
  rw [show fX7_in w 0 1 x = some 0 from z_r_in_bad (a := 0) (b := 1) x (by omega) (by omega) h, z_ob, if_pos rfl, z_r_hn (by decide), z_ob, z_qh0]
theorem z_M_goBack_E (R : z_RelR x s m sv kp sl len tx) {j : Nat} (hj : j ≤ 1) (hk : ¬ kp j = true) : z_MX (fX7_goBack 101 (z_I j) x) x 2 s m sv kp sl len tx := by
  refine z_M_bad (by decide) R ?_
  unfold fX7_goBack fX7_goBack_b0 fX7_goBack_b30
  have hkb := z_kbbit (kp 0) (kp 1) j (by omega)
  have e6 : x.1 101 6 = _ := R.2.2.1.1
  unfold z_kb at e6
  have kj : ¬ (if j = 0 then kp 0 else kp 1) = true := by
    rcases (by omega : j = 0 ∨ j = 1) with rfl | rfl
    · first | exact hk | exact hk_
    · first | exact hk | exact hk_
  rw [if_neg kj] at hkb
  rw [show fX7_in (z_I j) 0 1 x = some 1 from z_r_in_ok (a := 0) (b := 1) x (by omega) (by omega) (by omega), z_ob, if_neg (by decide), e6, hkb, if_pos rfl, z_r_hn (by decide), z_ob, z_qh0]
theorem z_M_undo0 (R : z_RelR x s 0 sv kp sl len tx) : z_MX (fX7_undo 101 x) x 1 s 0 sv kp sl len tx := by
  refine z_M_bad (by decide) R ?_
  unfold fX7_undo fX7_undo_b0 fX7_undo_b13
  rw [R.2.1.1, if_pos (by decide), z_r_hn (by decide), z_ob, z_qh0]
theorem z_M_undo (R : z_RelR x s (m + 1) sv kp sl len tx) : z_MM (fX7_undo 101 x) x (z_I m) (sv m) m sv kp sl len tx := by
  obtain ⟨R0, F0, z0⟩ := z_RelR_0 R 0
  have z_hm := R.2.1.2.1
  unfold fX7_undo fX7_undo_b0 fX7_undo_b13
  rw [R.2.1.1, if_neg (by rw [z_L0, z_I_le (by omega) (by omega)]; omega), z_r_h0, z_ob, z_qh1]
  generalize up1 x 101 0 0 = y at *
  dsimp only
  rw [R0.2.1.1, z_L1, z_I_sub (by omega), show m + 1 - 1 = m from rfl, z_lt_]
  have e4 : (up1 y 101 4 (z_I m)).1 101 4 = z_I m := by rw [z_up1_at, if_pos ⟨rfl, rfl⟩]
  have e0 : (up1 y 101 4 (z_I m)).1 101 0 = 0 := by rw [z_up1_at, if_neg (by omega)]; exact z0
  have Ry : z_RelR (up1 y 101 4 (z_I m)) s m sv kp sl len tx := by
    obtain ⟨A, ⟨a, b, c⟩, ⟨d, e⟩, ⟨f, g, h'⟩⟩ := R0
    refine ⟨fun k hk => by rw [z_up1_o _ _ _ (by omega)]; exact A k hk, ⟨e4, by omega, fun k hk j hj => by rw [z_up1_o _ _ _ (by omega)]; exact c k (by omega) j hj⟩, ⟨?_, fun k hk e1 j hj => by rw [z_up1_o _ _ _ (by omega)]; exact e k hk e1 j hj⟩, ⟨?_, g, fun k hk => by rw [z_up1_o _ _ _ (by omega)]; exact h' k hk⟩⟩
    · rw [z_up1_at, if_neg (by omega)]; exact d
    · rw [z_up1_at, if_neg (by omega)]; exact f
  have hsv : ∀ j, j < 120 → (up1 y 101 4 (z_I m)).1 104 (120 * m + j) = sv m j := fun j hj => by rw [z_up1_o _ _ _ (by omega)]; exact R0.2.1.2.2 m (by omega) j hj
  have Fy : z_FM y (up1 y 101 4 (z_I m)) := z_FM_up _ _ (by omega) (by omega)
  generalize up1 y 101 4 (z_I m) = u at *
  have q : ∀ d n i w, (∀ k, k < i → w.1 102 k = sv m k) → (∀ i, i ≠ 102 → w.1 i = u.1 i) → w.2 = u.2 → i + d = 120 → d < n → ∃ z, fX7_undo_b33 101 n (z_I i) w = some (z_I m, z) ∧ z_Rr z (sv m) ∧ (∀ i, i ≠ 102 → z.1 i = u.1 i) ∧ z.2 = u.2 := by
    intro d
    induction d with
    | zero =>
      intro n i w h1 h3 h4 hi z_hn
      obtain ⟨n, rfl⟩ : ∃ k, n = k + 1 := ⟨n - 1, by omega⟩
      rw [fX7_undo_b33, if_pos (by rw [z_L120, z_I_le (by omega) (by omega)]; omega), h3 101 (by omega), e4]
      exact ⟨w, rfl, fun k hk => h1 k (by omega), h3, h4⟩
    | succ d ih =>
      intro n i w h1 h3 h4 hi z_hn
      obtain ⟨n, rfl⟩ : ∃ k, n = k + 1 := ⟨n - 1, by omega⟩
      rw [fX7_undo_b33, if_neg (by rw [z_L120, z_I_le (by omega) (by omega)]; omega), h3 101 (by omega), e4, z_L120, z_I_mul, z_I_add, z_gd (show 120 * m + i < ln (101 + 3) from (by show 120 * m + i < 720; omega)) (by decide), z_gm (by omega), z_lt_, z_I_nat (by omega), z_I_nat (by omega), z_I_s]
      apply ih n (i + 1)
      · intro k hk
        rw [z_up1_at]
        by_cases c : k = i
        · rw [if_pos ⟨rfl, c⟩, h3 (101 + 3) (by omega), c]; exact hsv i (by omega)
        · rw [if_neg (fun e => c e.2)]; exact h1 k (by omega)
      · intro i hi; rw [z_up1_o _ _ _ hi]; exact h3 i hi
      · exact h4
      · omega
      · omega
  obtain ⟨z, ez, Az, z3, z4⟩ := q 120 FU 0 u (fun k hk => absurd hk (Nat.not_lt_zero k)) (fun _ _ => rfl) rfl (by omega) (by decide)
  exact ⟨z, ez, z_RelR_new Az z3 Ry, z_FM_t F0 (z_FM_t Fy ⟨by rw [z4], fun i hi => z3 i (by omega)⟩), by rw [z3 101 (by omega)]; exact e0⟩
end

def z_ctb (s : z_row) (h b c : Nat) : Bool := !decide (z_hv s c h = -1) && (decide (c < b) || (decide (0 < h) && decide (z_hv s c (h - 1) = z_hv s c h)))
def z_CB (s : z_row) (h b t : Nat) : Nat := z_sm (fun c => if z_ctb s h b c = true ∧ t < z_PE s c h then 1 else 0) 4
def z_BU (bu : Nat → Nat) (t : Nat) : Nat := z_sm (fun i => if t < bu i then 1 else 0) 4
def z_updN' (f : Nat → Nat) (k v : Nat) : Nat → Nat := fun j => if j = k then v else f j
theorem z_sm4 (f : Nat → Nat) : z_sm f 4 = f 0 + f 1 + f 2 + f 3 := by simp only [z_sm, Nat.zero_add]
theorem z_BU_upd {bu : Nat → Nat} {i e h t : Nat} (hi : i < 4) (hb : bu i ≤ h) (ht : h ≤ t) : z_BU (z_updN' bu i e) t = z_BU bu t + (if t < e then 1 else 0) := by
  unfold z_BU z_updN'
  rw [z_sm4, z_sm4]
  rcases (by omega : i = 0 ∨ i = 1 ∨ i = 2 ∨ i = 3) with rfl | rfl | rfl | rfl
  · simp only [if_true, Nat.reduceEqDiff, if_false]; (repeat' split) <;> omega
  · simp only [if_true, Nat.reduceEqDiff, if_false]; (repeat' split) <;> omega
  · simp only [if_true, Nat.reduceEqDiff, if_false]; (repeat' split) <;> omega
  · simp only [if_true, Nat.reduceEqDiff, if_false]; (repeat' split) <;> omega
def z_lowF (bu : Nat → Nat) (h : Nat) : Nat := if bu 0 ≤ h then 0 else if bu 1 ≤ h then 1 else if bu 2 ≤ h then 2 else if bu 3 ≤ h then 3 else 4
theorem z_lowF_le (bu : Nat → Nat) (h : Nat) : z_lowF bu h ≤ z_BU bu h := by
  unfold z_lowF z_BU; rw [z_sm4]; (repeat' split) <;> omega
theorem z_lowF_fr {bu : Nat → Nat} {h : Nat} (hl : z_lowF bu h < 4) : bu (z_lowF bu h) ≤ h := by
  unfold z_lowF at hl ⊢
  by_cases h0 : bu 0 ≤ h
  · rw [if_pos h0]; exact h0
  · rw [if_neg h0] at hl ⊢
    by_cases h1 : bu 1 ≤ h
    · rw [if_pos h1]; exact h1
    · rw [if_neg h1] at hl ⊢
      by_cases h2 : bu 2 ≤ h
      · rw [if_pos h2]; exact h2
      · rw [if_neg h2] at hl ⊢
        by_cases h3 : bu 3 ≤ h
        · rw [if_pos h3]; exact h3
        · rw [if_neg h3] at hl; omega
theorem z_c_lay {x : xS} {bu : Nat → Nat} {h e : Nat} (hx : ∀ i, i < 4 → x.1 98 i = z_I (bu i)) (hb : ∀ i, i < 4 → bu i ≤ 12) (hh : h < 12) (hl : z_lowF bu h < 4) : fX1_lay 97 (z_I h) (z_I e) x = some (z_I (z_lowF bu h), up1 x 98 (z_lowF bu h) (z_I e)) := by
  unfold fX1_lay fX1_lay_b0
  have no : ∀ n i, i < 4 → ¬ bu i ≤ h → fX1_lay_b2 97 (z_I h) (z_I e) (n + 1) (z_I i) x = fX1_lay_b2 97 (z_I h) (z_I e) n (z_I (i + 1)) x := by
    intro n i hi z_hc
    have := hb i hi
    rw [fX1_lay_b2, if_neg (by show ¬ z_I 4 ≤ z_I i; rw [z_I_le (by omega) (by omega)]; omega), z_gd (show i < ln (97 + 1) from hi) (by decide), z_I_nat (by omega), show x.1 (97 + 1) i = z_I (bu i) from hx i hi, if_pos (by rw [z_I_lt (by omega) (by omega)]; omega), z_I_s]
  have yes : ∀ n i, i < 4 → bu i ≤ h → fX1_lay_b2 97 (z_I h) (z_I e) (n + 1) (z_I i) x = some (z_I i, up1 x 98 i (z_I e)) := by
    intro n i hi z_hc
    rw [fX1_lay_b2, if_neg (by show ¬ z_I 4 ≤ z_I i; rw [z_I_le (by omega) (by omega)]; omega), z_gd (show i < ln (97 + 1) from hi) (by decide), z_I_nat (by omega), show x.1 (97 + 1) i = z_I (bu i) from hx i hi, if_neg (by rw [z_I_lt (by omega) (by omega)]; omega)]
    have := z_gd (show i < ln (97 + 1) from hi) (by decide) (lt1 (up1 x (97 + 1) i (z_I e)) (fun x27 => some (z_I i, x27))) none
    rw [z_I_nat (by omega)] at this
    rw [this, z_lt_]
  rw [show fX1_lay_b2 97 (z_I h) (z_I e) FU 0 x = fX1_lay_b2 97 (z_I h) (z_I e) (1996 + 1 + 1 + 1 + 1) (z_I 0) x from rfl]
  unfold z_lowF at hl ⊢
  by_cases h0 : bu 0 ≤ h
  · rw [if_pos h0, yes _ 0 (by omega) h0]
  · rw [if_neg h0] at hl ⊢
    rw [no _ 0 (by omega) h0]
    by_cases h1 : bu 1 ≤ h
    · rw [if_pos h1, yes _ 1 (by omega) h1]
    · rw [if_neg h1] at hl ⊢
      rw [no _ 1 (by omega) h1]
      by_cases h2 : bu 2 ≤ h
      · rw [if_pos h2, yes _ 2 (by omega) h2]
      · rw [if_neg h2] at hl ⊢
        rw [no _ 2 (by omega) h2]
        by_cases h3 : bu 3 ≤ h
        · rw [if_pos h3, yes _ 3 (by omega) h3]
        · rw [if_neg h3] at hl; omega
def z_spb (s : z_row) (b h : Nat) : Bool := !decide (z_hv s b h = -1) && !(decide (0 < h) && decide (z_hv s b (h - 1) = z_hv s b h))
theorem z_c_startsPiece {x : xS} {s : z_row} (A : z_Ag x s) {b h : Nat} (hb : b < 4) (hh : h < 12) : fX4_startsPiece 2 (z_I b) (z_I h) x = some (if z_spb s b h = true then 1 else 0) := by
  unfold fX4_startsPiece fX4_startsPiece_b0 fX4_startsPiece_b34 z_spb
  rw [z_gH A hb hh, z_ob]
  by_cases e : z_hv s b h = -1
  · rw [if_pos e]; simp [e]
  · rw [if_neg e]
    by_cases h0 : h = 0
    · subst h0
      have : fX2_get (2 + 1) (z_I b) (z_I 0 - 1) x = some (-1) := by
        unfold fX2_get fX2_get_b0 fX2_get_b24
        rw [if_neg (by rw [z_I_nn (by omega)]; exact id), if_neg (by show ¬ z_I 4 ≤ z_I b; rw [z_I_le (by omega) (by omega)]; omega), if_pos (by decide)]
      rw [this, z_ob, if_neg e]; simp [e]
    · rw [show z_I h - 1 = z_I (h - 1) by rw [z_L1, z_I_sub (by omega)], show fX2_get (2 + 1) (z_I b) (z_I (h - 1)) x = _ from z_gH A hb (by omega), z_ob]
      have hp : 0 < h := by omega
      by_cases e2 : z_hv s b (h - 1) = z_hv s b h
      · rw [if_pos e2.symm]; simp [e, e2, hp]
      · rw [if_neg (fun w => e2 w.symm)]; simp [e, e2, hp]
theorem z_ctb_s {s : z_row} {h b : Nat} (hsp : z_spb s b h = true) : ∀ c, z_ctb s h (b + 1) c = (z_ctb s h b c || decide (c = b)) ∧ (z_ctb s h b b = false) := by
  intro c
  unfold z_spb at hsp
  unfold z_ctb
  simp only [Bool.and_eq_true, Bool.not_eq_true', decide_eq_false_iff_not] at hsp
  obtain ⟨h1, h2⟩ := hsp
  constructor
  · by_cases e : c = b
    · subst e; simp [h1]
    · have : (c < b + 1) = (c < b) := by rw [eq_iff_iff]; omega
      simp [this, e]
  · rw [h2]; simp
theorem z_ctb_n {s : z_row} {h b : Nat} (hsp : ¬ z_spb s b h = true) : ∀ c, z_ctb s h (b + 1) c = z_ctb s h b c := by
  intro c
  unfold z_ctb
  by_cases e : c = b
  · subst e
    unfold z_spb at hsp
    by_cases h1 : z_hv s c h = -1
    · simp [h1]
    · by_cases h2 : (decide (0 < h) && decide (z_hv s c (h - 1) = z_hv s c h)) = true
      · rw [h2]; simp
      · rw [Bool.not_eq_true] at h2
        rw [h2] at hsp; simp [h1] at hsp
  · have : (c < b + 1) = (c < b) := by rw [eq_iff_iff]; omega
    simp [this]
theorem z_CB_n {s : z_row} {h b t : Nat} (hsp : ¬ z_spb s b h = true) : z_CB s h (b + 1) t = z_CB s h b t := z_sm_congr (fun c _ => by rw [z_ctb_n hsp])
theorem z_CB_s {s : z_row} {h b t : Nat} (hb : b < 4) (hsp : z_spb s b h = true) : z_CB s h (b + 1) t = z_CB s h b t + (if t < z_PE s b h then 1 else 0) := by
  have h1 := fun c => (z_ctb_s hsp c).1
  have h2 := (z_ctb_s hsp 0).2
  unfold z_CB
  rw [z_sm4, z_sm4]
  simp only [h1]
  rcases (by omega : b = 0 ∨ b = 1 ∨ b = 2 ∨ b = 3) with rfl | rfl | rfl | rfl
  · simp [h2]; omega
  · simp [h2]; omega
  · simp [h2]; omega
  · simp [h2]
theorem z_CB_4 {s : z_row} {h : Nat} (hh : h < 12) : z_CB s h 4 h = z_LB s h := by
  unfold z_CB z_LB
  rw [z_sm4, z_sm4]
  have e : ∀ c, c < 4 → (if z_ctb s h 4 c = true ∧ h < z_PE s c h then 1 else 0) = (if z_hv s c h = -1 then 0 else 1) := by
    intro c z_hc
    have hp := (z_PE_le s c h hh).1
    unfold z_ctb
    by_cases e : z_hv s c h = -1
    · simp [e]
    · simp [e, z_hc, hp]
  rw [e 0 (by omega), e 1 (by omega), e 2 (by omega), e 3 (by omega)]
theorem z_CB_lt {s : z_row} {h b : Nat} (hb : b < 4) (hh : h < 12) (hsp : z_spb s b h = true) : z_CB s h b h + 1 ≤ z_LB s h := by
  have mono : ∀ b', z_CB s h b' h ≤ z_CB s h (b' + 1) h := fun b' => by
    unfold z_CB
    rw [z_sm4, z_sm4]
    have e : ∀ c, (if z_ctb s h b' c = true ∧ h < z_PE s c h then 1 else 0) ≤ (if z_ctb s h (b' + 1) c = true ∧ h < z_PE s c h then 1 else 0) := by
      intro c
      have : z_ctb s h b' c = true → z_ctb s h (b' + 1) c = true := by
        unfold z_ctb
        simp only [Bool.and_eq_true, Bool.or_eq_true, decide_eq_true_eq]
        rintro ⟨p, q | q⟩
        · exact ⟨p, Or.inl (by omega)⟩
        · exact ⟨p, Or.inr q⟩
      by_cases c1 : z_ctb s h b' c = true ∧ h < z_PE s c h
      · rw [if_pos c1, if_pos ⟨this c1.1, c1.2⟩]; omega
      · rw [if_neg c1]; omega
    have := e 0; have := e 1; have := e 2; have := e 3
    omega
  have h1 := z_CB_s (t := h) hb hsp
  rw [if_pos (z_PE_le s b h hh).1] at h1
  have h4 := z_CB_4 (s := s) hh
  have m0 := mono 1; have m1 := mono 2; have m2 := mono 3
  rcases (by omega : b = 0 ∨ b = 1 ∨ b = 2 ∨ b = 3) with rfl | rfl | rfl | rfl <;> simp only [Nat.reduceAdd, Nat.zero_add] at * <;> omega
theorem z_fo_max (s : z_row) : ∀ d a j, a ≤ z_fo (fun a h => if a < z_LB s h then z_LB s h else a) a j d := by
  intro d
  induction d with
  | zero => intro a j; exact Nat.le_refl a
  | succ d ih => intro a j; simp only [z_fo]; refine Nat.le_trans ?_ (ih _ _); split <;> omega
theorem z_CB_next {s : z_row} {h t : Nat} (hh : h + 1 < 12) (ht : h + 1 ≤ t) : z_CB s h 4 t = z_CB s (h + 1) 0 t := by
  unfold z_CB
  rw [z_sm4, z_sm4]
  have e : ∀ c, c < 4 → (if z_ctb s h 4 c = true ∧ t < z_PE s c h then 1 else 0) = (if z_ctb s (h + 1) 0 c = true ∧ t < z_PE s c (h + 1) then 1 else 0) := by
    intro c z_hc
    have : (z_ctb s h 4 c = true ∧ t < z_PE s c h) ↔ (z_ctb s (h + 1) 0 c = true ∧ t < z_PE s c (h + 1)) := by
      unfold z_ctb
      simp only [Bool.and_eq_true, Bool.or_eq_true, decide_eq_true_eq, Bool.not_eq_true', decide_eq_false_iff_not, Nat.add_sub_cancel]
      constructor
      · rintro ⟨⟨p, _⟩, q⟩
        have e1 := z_PE_in (s := s) (b := c) (h := h) (j := h + 1) (by omega) (by omega)
        have e2 := z_PE_eq (s := s) (b := c) (h := h) (j := h + 1) (by omega) (by omega) (by omega)
        exact ⟨⟨by rw [e1]; exact p, Or.inr ⟨by omega, e1.symm⟩⟩, by rw [e2]; exact q⟩
      · rintro ⟨⟨p, q⟩, r⟩
        have e1 : z_hv s c h = z_hv s c (h + 1) := by
          rcases q with q | q
          · omega
          · exact q.2
        have hlt : h + 1 < z_PE s c h := by
          have hp := z_PE_le s c h (by omega)
          by_cases w : z_PE s c h = h + 1
          · have := z_PE_st (s := s) (b := c) (h := h) (by omega) (by omega)
            rw [w] at this; exact absurd e1.symm this
          · omega
        have e2 := z_PE_eq (s := s) (b := c) (h := h) (j := h + 1) (by omega) hlt (by omega)
        exact ⟨⟨by rw [e1]; exact p, Or.inl (by omega)⟩, by rw [← e2]; exact r⟩
    by_cases c1 : z_ctb s h 4 c = true ∧ t < z_PE s c h
    · rw [if_pos c1, if_pos (this.mp c1)]
    · rw [if_neg c1, if_neg (fun w => c1 (this.mpr w))]
  rw [e 0 (by omega), e 1 (by omega), e 2 (by omega), e 3 (by omega)]
theorem z_BU0_of {bu : Nat → Nat} {u h : Nat} (hz : ∀ i, u ≤ i → i < 4 → bu i = 0) (hu : u ≤ 4) : z_BU bu h ≤ u := by
  unfold z_BU
  rw [z_sm4]
  have z := fun i (h1 : u ≤ i) (h2 : i < 4) => hz i h1 h2
  have t : ∀ i, i < 4 → (if h < bu i then 1 else 0) ≤ (if i < u then 1 else 0) := by
    intro i hi
    by_cases c : i < u
    · rw [if_pos c]; split <;> omega
    · rw [hz i (by omega) hi, if_neg (by omega)]; omega
  have := t 0 (by omega); have := t 1 (by omega); have := t 2 (by omega); have := t 3 (by omega)
  have : (if 0 < u then 1 else 0) + (if 1 < u then 1 else 0) + (if 2 < u then 1 else 0) + (if 3 < u then 1 else 0) ≤ u := by (repeat' split) <;> omega
  omega
def z_XB (x y : xS) : Prop := (∀ j, j ≠ 98 → y.1 j = x.1 j) ∧ y.2 = x.2
theorem z_c_bedsFor {x : xS} {s : z_row} (A : z_Ag x s) : ∃ x', fX1_bedsFor 97 2 x = some (z_I (z_ML s), x') ∧ z_XB x x' := by
  unfold fX1_bedsFor fX1_bedsFor_b0
  rw [show fJ7_fill_53178 (97 + 1) 0 x = _ from z_fill_gen 98 0 (by decide) x, z_ob]
  have AgX : ∀ y, z_XB x y → z_Ag y s := fun y h k hk => by
    have := z_pr_m hk
    rw [h.1 _ (by omega)]; exact A k hk
  have q2 : ∀ h, h < 12 → ∀ k12 M, M ≤ 4 → ∀ d n b u y bu, b + d = 4 → d < n → z_XB x y → (∀ i, i < 4 → y.1 98 i = z_I (bu i)) → (∀ i, i < 4 → bu i ≤ 12) → (∀ i, u ≤ i → i < 4 → bu i = 0) → u ≤ 4 → M ≤ u → (u ≤ M ∨ u ≤ z_LB s h) → (∀ t, h ≤ t → z_BU bu t = z_CB s h b t) →
      ∃ y' bu', fX1_bedsFor_b21 k12 97 2 n (z_I u) (z_I h) (z_I b) y = k12 (z_I (if M < z_LB s h then z_LB s h else M)) (z_I (h + 1)) y' ∧ z_XB x y' ∧ (∀ i, i < 4 → y'.1 98 i = z_I (bu' i)) ∧ (∀ i, i < 4 → bu' i ≤ 12) ∧ (∀ i, (if M < z_LB s h then z_LB s h else M) ≤ i → i < 4 → bu' i = 0) ∧ (∀ t, h ≤ t → z_BU bu' t = z_CB s h 4 t) := by
    intro h hh k12 M hM d
    induction d with
    | zero =>
      intro n b u y bu hb z_hn X h98 h12 hz hu hMu hor hI
      obtain ⟨n, rfl⟩ : ∃ k, n = k + 1 := ⟨n - 1, by omega⟩
      have : b = 4 := by omega
      subst this
      have e1 := hI h (Nat.le_refl h)
      rw [z_CB_4 hh] at e1
      have e2 := z_BU0_of (h := h) hz hu
      have eu : u = (if M < z_LB s h then z_LB s h else M) := by split <;> omega
      rw [fX1_bedsFor_b21, if_pos (by decide), z_I_s, ← eu]
      exact ⟨y, bu, rfl, X, h98, h12, hz, hI⟩
    | succ d ih =>
      intro n b u y bu hb z_hn X h98 h12 hz hu hMu hor hI
      obtain ⟨n, rfl⟩ : ∃ k, n = k + 1 := ⟨n - 1, by omega⟩
      have Ay := AgX y X
      rw [fX1_bedsFor_b21, if_neg (by rw [z_L4, z_I_le (by omega) (by omega)]; omega), z_c_startsPiece Ay (by omega) hh, z_ob]
      unfold fX1_bedsFor_b56
      rw [z_I_s]
      by_cases sp : z_spb s b h = true
      · rw [if_pos sp, if_neg (by decide), z_c_pieceEnd Ay (by omega) hh, z_ob]
        have z_hc := z_CB_lt (by omega) hh sp
        have hLB := z_LB_le s h
        have hlf : z_lowF bu h < 4 := by have := z_lowF_le bu h; rw [hI h (Nat.le_refl h)] at this; omega
        have hl2 : z_lowF bu h + 1 ≤ z_LB s h := by have := z_lowF_le bu h; rw [hI h (Nat.le_refl h)] at this; omega
        have hfr := z_lowF_fr hlf
        have hp := z_PE_le s b h hh
        rw [z_c_lay h98 h12 hh hlf, z_ob]
        dsimp only
        rw [z_I_s]
        have eu : (if z_I u < z_I (z_lowF bu h + 1) then z_I (z_lowF bu h + 1) else z_I u) = z_I (if u < z_lowF bu h + 1 then z_lowF bu h + 1 else u) := by
          by_cases c : u < z_lowF bu h + 1
          · rw [if_pos (by rw [z_I_lt (by omega) (by omega)]; exact c), if_pos c]
          · rw [if_neg (by rw [z_I_lt (by omega) (by omega)]; exact c), if_neg c]
        rw [eu, z_lt_]
        apply ih n (b + 1) (if u < z_lowF bu h + 1 then z_lowF bu h + 1 else u) _ (z_updN' bu (z_lowF bu h) (z_PE s b h)) (by omega) (by omega)
        · exact ⟨fun j hj => by rw [z_up1_o _ _ _ hj]; exact X.1 j hj, X.2⟩
        · intro i hi
          rw [z_up1_at]; unfold z_updN'
          by_cases c : i = z_lowF bu h
          · rw [if_pos ⟨rfl, c⟩, if_pos c]
          · rw [if_neg (fun w => c w.2), if_neg c]; exact h98 i hi
        · intro i hi; unfold z_updN'; split
          · omega
          · exact h12 i hi
        · intro i h1 h2
          unfold z_updN'
          rw [if_neg (by revert h1; split <;> omega)]
          exact hz i (by revert h1; split <;> omega) h2
        · split <;> omega
        · split <;> omega
        · split <;> omega
        · intro t ht
          rw [z_BU_upd hlf hfr ht, hI t ht, z_CB_s (by omega) sp]
      · rw [if_neg sp, if_pos rfl]
        exact ih n (b + 1) u y bu (by omega) (by omega) X h98 h12 hz hu hMu hor (fun t ht => by rw [hI t ht, z_CB_n sp])
  have q1 : ∀ d n h M y bu, h + d = 12 → d < n → z_XB x y → M ≤ 4 → (∀ i, i < 4 → y.1 98 i = z_I (bu i)) → (∀ i, i < 4 → bu i ≤ 12) → (∀ i, M ≤ i → i < 4 → bu i = 0) → (h < 12 → ∀ t, h ≤ t → z_BU bu t = z_CB s h 0 t) → ∃ y', fX1_bedsFor_b12 97 2 n (z_I M) (z_I h) y = some (z_I (z_fo (fun a h => if a < z_LB s h then z_LB s h else a) M h d), y') ∧ z_XB x y' := by
    intro d
    induction d with
    | zero =>
      intro n h M y bu hd z_hn X hM h98 h12 hz hI
      obtain ⟨n, rfl⟩ : ∃ k, n = k + 1 := ⟨n - 1, by omega⟩
      rw [fX1_bedsFor_b12, if_pos (by rw [z_L12, z_I_le (by omega) (by omega)]; omega)]
      exact ⟨y, rfl, X⟩
    | succ d ih =>
      intro n h M y bu hd z_hn X hM h98 h12 hz hI
      obtain ⟨n, rfl⟩ : ∃ k, n = k + 1 := ⟨n - 1, by omega⟩
      rw [fX1_bedsFor_b12, if_neg (by rw [z_L12, z_I_le (by omega) (by omega)]; omega)]
      obtain ⟨y', bu', e, X', g98, g12, gz, gI⟩ := q2 h (by omega) (fX1_bedsFor_b12 97 2 n) M hM 4 FU 0 M y bu (by omega) (by decide) X h98 h12 hz hM (Nat.le_refl M) (Or.inl (Nat.le_refl M)) (hI (by omega))
      rw [show fX1_bedsFor_b21 (fX1_bedsFor_b12 97 2 n) 97 2 FU (z_I M) (z_I h) 0 y = _ from e]
      have hLB := z_LB_le s h
      obtain ⟨z, ez, Xz⟩ := ih n (h + 1) (if M < z_LB s h then z_LB s h else M) y' bu' (by omega) (by omega) X' (by split <;> omega) g98 g12 gz (fun hlt t ht => by rw [gI t (by omega), z_CB_next hlt ht])
      exact ⟨z, ez, Xz⟩
  obtain ⟨y, ey, Xy⟩ := q1 12 FU 0 0 (upR x 98 (fun k => if k < ln 98 then 0 else x.1 98 k)) (fun _ => 0) (by omega) (by decide) ⟨fun j hj => if_neg hj, rfl⟩ (by omega) (fun i hi => by rw [z_upR_at, if_pos rfl, if_pos (show i < ln 98 from hi)]; rfl) (fun i _ => Nat.zero_le _) (fun i _ _ => rfl) (fun _ t _ => by
    unfold z_BU z_CB z_ctb
    rw [z_sm4, z_sm4]; simp)
  exact ⟨y, ey, Xy⟩

section
variable {x x' : xS} {s s' : z_row} {m : Nat} {sv : Nat → z_row} {kp : Nat → Bool} {sl : Nat → z_row} {len : Nat} {tx : Nat → Int32}
theorem z_C_at (R : z_RelC x s m sv kp sl len tx) {b h : Nat} (hb : b < 4) (hh : h < 12) : fX6_at 0 (z_I b) (z_I h) x = some (Sum.inr (z_hv s b h)) := by
  unfold fX6_at fX6_at_b0 fX4_holder fX4_holder_b0
  rw [if_neg (by rw [z_I_nn (by omega)]; exact id), if_pos (by rw [z_L4, z_I_lt (by omega) (by omega)]; exact hb), z_c_hour_ok x (by omega), z_ob]
  dsimp only
  rw [show fX2_get (0 + 1 + 1 + 1) (z_I b) (z_I h) x = _ from z_gH (z_House_1 R.1) hb hh, z_ob, z_ob]
theorem z_C_at_B {v w : Int32} (x : xS) (h : ¬ z_inR v 0 3) : fX6_at 0 v w x = some (Sum.inl 1) := by
  unfold fX6_at fX6_at_b0
  rcases z_inR_of (by omega) (by omega) h with h3 | ⟨h3, h4⟩
  · rw [if_pos (show v < 0 from h3)]
  · rw [if_neg (show ¬ v < 0 from h3), if_neg]
    rw [Int32.lt_iff_toInt_lt]
    rw [z_lt_I (by omega)] at h4
    show ¬ _ < (4 : Int)
    omega
theorem z_C_at_H {b : Nat} {w : Int32} (x : xS) (hb : b < 4) (h : ¬ z_inR w 0 11) : fX6_at 0 (z_I b) w x = some (Sum.inl 2) := by
  unfold fX6_at fX6_at_b0
  rw [if_neg (by rw [z_I_nn (by omega)]; exact id), if_pos (by rw [z_L4, z_I_lt (by omega) (by omega)]; exact hb), z_c_hour_bad x h, z_ob]
theorem z_C_lodgerOf (R : z_RelC x s m sv kp sl len tx) {l k : Nat} (hl : l < 10) (hk : k < 7) : fX6_lodgerOf 0 (z_I l) (z_I k) x = some (Sum.inr (z_LN s l k)) := by
  unfold fX6_lodgerOf fX6_lodgerOf_b0
  rw [z_c_chkL_ok x hl, z_ob]
  dsimp only
  rw [show fX6_checkRange (z_I k) 0 6 x = _ from z_c_chkR_ok (a := 0) (b := 6) x (by omega) (by omega) (by omega), z_ob]
  dsimp only
  rw [show fX3_lodgerNumber (0 + 1) (z_I l) (z_I k) x = _ from z_c_lodgerNumber (z_House_1 R.1) hl hk, z_ob]
theorem z_C_lodgerOf_K {l : Nat} {w : Int32} (x : xS) (hl : l < 10) (h : ¬ z_inR w 0 6) : fX6_lodgerOf 0 (z_I l) w x = some (Sum.inl 2) := by
  unfold fX6_lodgerOf fX6_lodgerOf_b0
  rw [z_c_chkL_ok x hl, z_ob]
  dsimp only
  rw [show fX6_checkRange w 0 6 x = _ from z_c_chkR_bad (a := 0) (b := 6) x (by omega) (by omega) h, z_ob]
theorem z_c_accountOf (R : z_RelC x s m sv kp sl len tx) {k : Nat} (hk : k < 12) : fX6_accountOf 0 (z_I k) x = some (z_CT2 s m k) := by
  unfold fX6_accountOf fX6_accountOf_b0 z_CT2
  by_cases c : k = 11
  · subst c
    obtain ⟨nx, _, _, h, _⟩ := R.2.1
    rw [if_pos (by decide), if_pos rfl, h]
  · rw [if_neg (by rw [z_L11, z_I_eq (by omega) (by omega)]; exact c), if_neg c, show fX3_account (0 + 1) (z_I k) x = _ from z_c_account (z_House_1 R.1) (by omega), z_ob]
    have h3 := R.1.2.1
    have h5 := R.1.2.2
    rw [show x.1 8 3 = z_S3 s from h3, show x.1 8 5 = z_S5 s from h5]
theorem z_C_count (R : z_RelC x s m sv kp sl len tx) {k : Nat} (hk : k < 12) : fX6_count 0 (z_I k) x = some (Sum.inr (z_CT2 s m k)) := by
  unfold fX6_count fX6_count_b0
  rw [show fX6_checkRange (z_I k) 0 11 x = _ from z_c_chkR_ok (a := 0) (b := 11) x (by omega) (by omega) (by omega), z_ob]
  dsimp only
  rw [z_c_accountOf R hk, z_ob]
theorem z_C_refused (R : z_RelC x s m sv kp sl len tx) {r : Nat} (h1 : 1 ≤ r) (h4 : r ≤ 4) : fX6_refused 0 (z_I r) x = some (Sum.inr (s (110 + r))) := by
  unfold fX6_refused fX6_refused_b0
  rw [show fX6_checkRange (z_I r) 1 4 x = _ from z_c_chkR_ok (a := 1) (b := 4) x (by omega) (by omega) (by omega), z_ob]
  dsimp only
  rw [show fX3_refusedFor (0 + 1) (z_I r) x = _ from z_c_refusedFor (z_House_1 R.1) h1 h4, z_ob]
theorem z_C_ifAsked (R : z_RelC x s m sv kp sl len tx) (O : z_OKs s) {l f n : Nat} (hl : l < 10) (hf : f < 12) (h1 : 1 ≤ n) (h9 : n ≤ 9) (hh : f + n ≤ 12) : fX6_ifAsked 0 (z_I l) (z_I f) (z_I n) x = some (Sum.inr (z_I (z_AN s l f n))) := by
  unfold fX6_ifAsked fX6_ifAsked_b0
  rw [z_c_chkA_ok x hl ⟨f, n, rfl, rfl, hf, h1, h9, hh⟩, z_ob]
  dsimp only
  rw [show fX3_answerTo (0 + 1) (z_I l) (z_I f) (z_I n) x = _ from z_c_answerTo (z_House_1 R.1) O hl hh, z_ob]
theorem z_C_ifPutOut (R : z_RelC x s m sv kp sl len tx) (O : z_OKs s) {l f n : Nat} (hl : l < 10) (hf : f < 12) (h1 : 1 ≤ n) (h9 : n ≤ 9) (hh : f + n ≤ 12) : fX6_ifPutOut 0 (z_I l) (z_I f) (z_I n) x = some (Sum.inr (z_I (z_WO s l f n))) := by
  unfold fX6_ifPutOut fX6_ifPutOut_b0
  rw [z_c_chkA_ok x hl ⟨f, n, rfl, rfl, hf, h1, h9, hh⟩, z_ob]
  dsimp only
  rw [show fX3_wouldBePutOut (0 + 1) (z_I l) (z_I f) (z_I n) x = _ from z_c_wouldBePutOut (z_House_1 R.1) O hl hh, z_ob]
  rfl
theorem z_C_longest (R : z_RelC x s m sv kp sl len tx) {l f : Nat} (hl : l < 10) (hf : f < 12) : fX6_longest 0 (z_I l) (z_I f) x = some (Sum.inr (z_I (z_LF s (z_I l) f))) := by
  unfold fX6_longest fX6_longest_b0
  rw [z_c_chkL_ok x hl, z_ob]
  dsimp only
  rw [z_c_hour_ok x (by omega), z_ob]
  dsimp only
  rw [show fX4_longestFor (0 + 1 + 1) (z_I l) (z_I f) x = _ from z_c_longestFor (z_House_1 R.1) hf, z_ob]
theorem z_C_longest_H {l : Nat} {w : Int32} (x : xS) (hl : l < 10) (h : ¬ z_inR w 0 11) : fX6_longest 0 (z_I l) w x = some (Sum.inl 2) := by
  unfold fX6_longest fX6_longest_b0
  rw [z_c_chkL_ok x hl, z_ob]
  dsimp only
  rw [z_c_hour_bad x h, z_ob]
theorem z_C_poorest (R : z_RelC x s m sv kp sl len tx) (O : z_OKs s) : fX6_poorest 0 x = some (z_I (z_RM s)) := by
  unfold fX6_poorest fX6_poorest_b0
  rw [show fX3_poorestLodger (0 + 1) x = _ from z_c_poorest (z_House_1 R.1) O, z_ob]
theorem z_RelC_XB (R : z_RelC x s m sv kp sl len tx) (h : z_XB x x') : z_RelC x' s m sv kp sl len tx ∧ z_FrC x x' := by
  refine ⟨⟨z_House_fr (by omega) (fun i a b => h.1 i (by omega)) R.1, z_RS_fr (fun i a => h.1 i (by omega)) R.2.1, z_RK_fr (fun i a => h.1 i (by omega)) R.2.2.1, z_RT_fr (fun i a => h.1 i (by omega)) R.2.2.2⟩, h.2, fun i hi => h.1 i (by omega)⟩
theorem z_C_fewest (R : z_RelC x s m sv kp sl len tx) {v : Nat} (z_hv : v ≤ 1) : z_CC (fX6_fewestBeds 0 (z_I v) x) x (z_I (z_ML s)) s m sv kp sl len tx := by
  unfold fX6_fewestBeds fX6_fewestBeds_b0
  rw [show fX6_checkRange (z_I v) 0 1 x = _ from z_c_chkR_ok (a := 0) (b := 1) x (by omega) (by omega) (by omega), z_ob]
  dsimp only
  rcases (by omega : v = 0 ∨ v = 1) with rfl | rfl
  · rw [if_pos (by decide)]
    obtain ⟨y, ey, Xy⟩ := z_c_bedsFor (z_House_1 R.1)
    rw [show fX1_bedsFor (0 + 97) (0 + 1 + 1) x = _ from ey, z_ob]
    exact ⟨y, rfl, (z_RelC_XB R Xy).1, (z_RelC_XB R Xy).2⟩
  · rw [if_neg (by decide), show fX4_mostLentBeds (0 + 1 + 1) x = _ from z_c_mostLentBeds (z_House_1 R.1), z_ob]
    exact ⟨x, rfl, R, z_FrC_refl x⟩
def z_shr (n : Nat) : UInt64 := FP.ddiv (FP.i2d (z_I n)) (4631952216750555136 : UInt64)
set_option maxRecDepth 100000 in
theorem z_shr_ok : ∀ n, n < 49 → (z_shr n &&& 0x7fffffffffffffff ≤ (0x7ff0000000000000 : UInt64)) := by decide +kernel
def z_xz : xS := (fun _ _ => 0, fun _ _ => 0)
set_option maxRecDepth 100000 in
theorem z_bits_eq : ∀ n, n < 49 → (fX6_bitsOf (z_shr n) z_xz = fX7_bitsOf (z_shr n) z_xz ∧ (fX6_bitsOf (z_shr n) z_xz).isSome = true) := by decide +kernel
theorem z_c_share (A : z_Ag x s) : fX3_shareLent 1 x = some (z_shr (z_LT s)) := by
  unfold fX3_shareLent fX3_shareLent_b0
  have := z_LT_le s
  rw [show fX4_lentHours (1 + 1) x = _ from z_c_lentHours A, z_ob]
  exact if_pos (z_shr_ok (z_LT s) (by omega))
theorem z_r_share (A : z_Rr x s) : fX7_share 101 x = some (z_shr (z_LT s)) := by
  unfold fX7_share fX7_share_b0
  have := z_LT_le s
  rw [z_r_lent A, z_ob]
  exact if_pos (z_shr_ok (z_LT s) (by omega))
theorem z_C_fullness (R : z_RelC x s m sv kp sl len tx) : fX6_fullness 0 x = some (z_shr (z_LT s)) := by
  unfold fX6_fullness fX6_fullness_b0
  rw [show fX3_shareLent (0 + 1) x = _ from z_c_share (z_House_1 R.1), z_ob]
theorem z_M_fullness (R : z_RelR x s m sv kp sl len tx) : ∃ x', fX7_fullness 101 x = some (z_shr (z_LT s), x') ∧ z_RelR x' s m sv kp sl len tx ∧ z_FM x x' := by
  obtain ⟨R0, F0, z0⟩ := z_RelR_0 R 0
  unfold fX7_fullness fX7_fullness_b0
  rw [z_lt_, z_r_share R0.1, z_ob]
  exact ⟨_, rfl, R0, F0⟩
theorem z_bits6 (d : UInt64) (x : xS) : fX6_bitsOf d x = fX6_bitsOf d z_xz := by
  have q : ∀ n d l v, fX6_bitsOf_b18 x n d l v = fX6_bitsOf_b18 z_xz n d l v := by
    intro n
    induction n with
    | zero => intro d l v; rfl
    | succ n ih =>
      intro d l v
      unfold fX6_bitsOf_b18 lt1
      simp only [ih]
      rfl
  unfold fX6_bitsOf fX6_bitsOf_b0
  rw [q]
theorem z_bits7 (d : UInt64) (x : xS) : fX7_bitsOf d x = fX7_bitsOf d z_xz := by
  have q : ∀ n l d, fX7_bitsOf_b15 x n l d = fX7_bitsOf_b15 z_xz n l d := by
    intro n
    induction n with
    | zero => intro l d; rfl
    | succ n ih =>
      intro l d
      unfold fX7_bitsOf_b15 lt1
      simp only [ih]
  unfold fX7_bitsOf fX7_bitsOf_b0
  rw [q]
theorem z_bitsB : ∃ B : Nat → Int64, ∀ n, n < 49 → (∀ x : xS, fX6_bitsOf (z_shr n) x = some (B n)) ∧ (∀ x : xS, fX7_bitsOf (z_shr n) x = some (B n)) := by
  refine ⟨fun n => (fX6_bitsOf (z_shr n) z_xz).getD 0, fun n z_hn => ?_⟩
  obtain ⟨h1, h2⟩ := z_bits_eq n z_hn
  obtain ⟨v, e⟩ := Option.isSome_iff_exists.mp h2
  dsimp only
  rw [e]
  refine ⟨fun x => ?_, fun x => ?_⟩
  · exact (show fX6_bitsOf (z_shr n) x = fX6_bitsOf (z_shr n) z_xz from z_bits6 _ x).trans e
  · exact (show fX7_bitsOf (z_shr n) x = fX7_bitsOf (z_shr n) z_xz from z_bits7 _ x).trans (h1.symm.trans e)
end

theorem z_loopK {α β : Type} {F : Nat → α → Int32 → Option β} {A B : Nat} {g : α → Nat → α} {c : α → Option β}
    (h0 : ∀ n acc, F (n + 1) acc (z_I B) = c acc) (h1 : ∀ n acc j, A ≤ j → j < B → F (n + 1) acc (z_I j) = F n (g acc j) (z_I (j + 1))) :
    ∀ d n acc j, A ≤ j → j + d = B → d < n → F n acc (z_I j) = c (z_fo g acc j d) := by
  intro d
  induction d with
  | zero =>
    intro n acc j hA hj z_hn
    obtain ⟨n, rfl⟩ : ∃ k, n = k + 1 := ⟨n - 1, by omega⟩
    have : j = B := by omega
    subst this
    rw [h0]; rfl
  | succ d ih =>
    intro n acc j hA hj z_hn
    obtain ⟨n, rfl⟩ : ∃ k, n = k + 1 := ⟨n - 1, by omega⟩
    rw [h1 n acc j hA (by omega), ih n _ (j + 1) (by omega) (by omega) (by omega)]; rfl
theorem z_loopX {β : Type} {F : Nat → Int32 → xS → Option β} {B : Nat} {P : xS → Int64 → Prop} {g : Int64 → Nat → Int64}
    (h1 : ∀ n j y h, j < B → P y h → ∃ z, F (n + 1) (z_I j) y = F n (z_I (j + 1)) z ∧ P z (g h j)) :
    ∀ d n j y h, j + d = B → d < n → P y h → ∃ k z, F n (z_I j) y = F (k + 1) (z_I B) z ∧ P z (z_fo g h j d) := by
  intro d
  induction d with
  | zero =>
    intro n j y h hj z_hn hP
    obtain ⟨n, rfl⟩ : ∃ k, n = k + 1 := ⟨n - 1, by omega⟩
    have : j = B := by omega
    subst this
    exact ⟨n, y, rfl, hP⟩
  | succ d ih =>
    intro n j y h hj z_hn hP
    obtain ⟨n, rfl⟩ : ∃ k, n = k + 1 := ⟨n - 1, by omega⟩
    obtain ⟨z, ez, Pz⟩ := h1 n j y h (by omega) hP
    obtain ⟨k, w, ew, Pw⟩ := ih n (j + 1) z _ (by omega) (by omega) Pz
    exact ⟨k, w, by rw [ez, ew], Pw⟩
theorem z_fo_add {α : Type} (g : α → Nat → α) : ∀ d e a j, z_fo g a j (d + e) = z_fo g (z_fo g a j d) (j + d) e := by
  intro d
  induction d with
  | zero => intro e a j; rw [Nat.zero_add]; rfl
  | succ d ih => intro e a j; rw [show d + 1 + e = (d + e) + 1 by omega]; simp only [z_fo]; rw [ih]; congr 1; omega
theorem z_fo_shift {α : Type} (g : α → Nat → α) (c : Nat) : ∀ d a j, z_fo (fun a j => g a (c + j)) a j d = z_fo g a (c + j) d := by
  intro d
  induction d with
  | zero => intro a j; rfl
  | succ d ih => intro a j; simp only [z_fo]; rw [ih]; rfl
def z_dg (h v : Int64) : Int64 := 31 * h + v
def z_dA (s : z_row) (m : Nat) : Int64 := z_fo (fun h k => z_dg h (z_CT2 s m k).toInt64) 3659 0 12
def z_dR (s : z_row) (h : Int64) : Int64 := z_fo (fun h r => z_dg h (s (110 + r)).toInt64) h 1 4
def z_dB (s : z_row) (h : Int64) : Int64 := z_fo (fun h k => z_dg h (s (60 + k)).toInt64) h 0 48
def z_dL (s : z_row) (h : Int64) (l : Nat) : Int64 := z_dg (z_dg (z_dg (z_dg (z_fo (fun h k => z_dg h (z_LN s l k).toInt64) h 0 7) (z_I (z_LF s (z_I l) 0)).toInt64) (z_I (z_LF s (z_I l) 6)).toInt64) (z_I (z_AN s l 8 3)).toInt64) (z_I (z_WO s l 8 3)).toInt64
def z_dM (B : Nat → Int64) (s : z_row) (kp : Nat → Bool) (h : Int64) : Int64 := z_dg (z_dg (z_dg (z_dg (z_dg (z_dg h (z_I (z_ML s)).toInt64) (z_I (z_ML s)).toInt64) (z_I (z_RM s)).toInt64) (B (z_LT s))) (if kp 0 = true then 1 else 0)) (if kp 1 = true then 1 else 0)
def z_dT (len : Nat) (tx : Nat → Int32) (h : Int64) : Int64 := z_fo (fun h k => z_dg h (tx k).toInt64) (z_dg h (z_I len).toInt64) 0 len
def z_DG (B : Nat → Int64) (s : z_row) (m : Nat) (kp : Nat → Bool) (len : Nat) (tx : Nat → Int32) : Int64 := z_dT len tx (z_dM B s kp (z_fo (z_dL s) (z_dB s (z_dR s (z_dA s m))) 0 10))
section
variable {x x' : xS} {s s' : z_row} {m : Nat} {sv : Nat → z_row} {kp : Nat → Bool} {sl : Nat → z_row} {len : Nat} {tx : Nat → Int32} {B : Nat → Int64}
theorem z_c_mixed (h v : Int64) (x : xS) : fX6_mixed h v x = some (z_dg h v) := rfl
theorem z_c_withAccounts (R : z_RelC x s m sv kp sl len tx) : fX6_withAccounts 0 3659 x = some (z_dR s (z_dA s m)) := by
  unfold fX6_withAccounts fX6_withAccounts_b0
  have h2 : ∀ h, fX6_withAccounts_b33 0 x FU h (z_I 1) = some (z_dR s h) := fun h => by
    refine z_loopK (F := fun n (a : Int64) j => fX6_withAccounts_b33 0 x n a j) (A := 1) (B := 5) (g := fun h r => z_dg h (s (110 + r)).toInt64) (c := some) (fun n acc => ?_) (fun n acc j hA hj => ?_) 4 FU h 1 (by omega) rfl (by decide)
    · rw [fX6_withAccounts_b33, if_pos (by decide)]
    · rw [fX6_withAccounts_b33, if_neg (by rw [z_L4, z_I_lt (by omega) (by omega)]; omega), show fX3_refusedFor (0 + 1) (z_I j) x = _ from z_c_refusedFor (z_House_1 R.1) (by omega) (by omega), z_ob, z_c_mixed, z_ob, z_I_s]
  refine z_loopK (F := fun n (a : Int64) j => fX6_withAccounts_b5 0 x n a j) (A := 0) (B := 12) (g := fun h k => z_dg h (z_CT2 s m k).toInt64) (c := fun h => some (z_dR s h)) (fun n acc => ?_) (fun n acc j hA hj => ?_) 12 FU 3659 0 (by omega) rfl (by decide)
  · rw [fX6_withAccounts_b5, if_pos (by decide)]; exact h2 acc
  · rw [fX6_withAccounts_b5, if_neg (by rw [z_L12, z_I_le (by omega) (by omega)]; omega), z_c_accountOf R (by omega), z_ob, z_c_mixed, z_ob, z_I_s]
theorem z_dB_split (s : z_row) (h : Int64) : z_fo (fun h b => z_fo (fun h j => z_dg h (z_hv s b j).toInt64) h 0 12) h 0 4 = z_dB s h := by
  unfold z_dB
  rw [show (48 : Nat) = 12 + (12 + (12 + 12)) from rfl, z_fo_add, z_fo_add, z_fo_add]
  simp only [z_fo]
  rfl
theorem z_c_withBeds (A : z_Ag x s) (h : Int64) : fX6_withBeds 0 h x = some (z_dB s h) := by
  unfold fX6_withBeds fX6_withBeds_b0
  rw [← z_dB_split]
  refine z_loopK (F := fun n (a : Int64) j => fX6_withBeds_b5 0 x n a j) (A := 0) (B := 4) (g := fun h b => z_fo (fun h j => z_dg h (z_hv s b j).toInt64) h 0 12) (c := some) (fun n acc => ?_) (fun n acc b hA hb => ?_) 4 FU h 0 (by omega) rfl (by decide)
  · rw [fX6_withBeds_b5, if_pos (by decide)]
  · rw [fX6_withBeds_b5, if_neg (by rw [z_L4, z_I_le (by omega) (by omega)]; omega)]
    refine z_loopK (F := fun q (a : Int64) j => fX6_withBeds_b14 (fX6_withBeds_b5 0 x n) 0 x q a (z_I b) j) (A := 0) (B := 12) (g := fun h j => z_dg h (z_hv s b j).toInt64) (c := fun a => fX6_withBeds_b5 0 x n a (z_I (b + 1))) (fun q acc => ?_) (fun q acc j hA hj => ?_) 12 FU acc 0 (by omega) rfl (by decide)
    · rw [fX6_withBeds_b14, if_pos (by decide), z_I_s]
    · rw [fX6_withBeds_b14, if_neg (by rw [z_L12, z_I_le (by omega) (by omega)]; omega)]
      unfold fX4_holder fX4_holder_b0
      rw [show fX2_get (0 + 1 + 1 + 1) (z_I b) (z_I j) x = _ from z_gH A hb hj, z_ob, z_ob, z_c_mixed, z_ob, z_I_s]
theorem z_c_withLodgers (A : z_Ag x s) (O : z_OKs s) (h : Int64) : fX6_withLodgers 0 h x = some (z_fo (z_dL s) h 0 10) := by
  unfold fX6_withLodgers fX6_withLodgers_b0
  refine z_loopK (F := fun n (a : Int64) j => fX6_withLodgers_b5 0 x n a j) (A := 0) (B := 10) (g := z_dL s) (c := some) (fun n acc => ?_) (fun n acc l hA hl => ?_) 10 FU h 0 (by omega) rfl (by decide)
  · rw [fX6_withLodgers_b5, if_pos (by decide)]
  · rw [fX6_withLodgers_b5, if_neg (by rw [z_L10, z_I_le (by omega) (by omega)]; omega)]
    refine z_loopK (F := fun q (a : Int64) j => fX6_withLodgers_b15 (fX6_withLodgers_b5 0 x n) 0 x q a (z_I l) j) (A := 0) (B := 7) (g := fun h k => z_dg h (z_LN s l k).toInt64) (c := fun a => fX6_withLodgers_b5 0 x n (z_dg (z_dg (z_dg (z_dg a (z_I (z_LF s (z_I l) 0)).toInt64) (z_I (z_LF s (z_I l) 6)).toInt64) (z_I (z_AN s l 8 3)).toInt64) (z_I (z_WO s l 8 3)).toInt64) (z_I (l + 1))) (fun q acc => ?_) (fun q acc j hA hj => ?_) 7 FU acc 0 (by omega) rfl (by decide)
    · rw [fX6_withLodgers_b15, if_pos (by decide), show fX4_longestFor (0 + 1 + 1) (z_I l) 0 x = _ from z_c_longestFor (f := 0) A (by omega), z_ob, z_c_mixed, z_ob, show fX4_longestFor (0 + 1 + 1) (z_I l) 6 x = _ from z_c_longestFor (f := 6) A (by omega), z_ob, z_c_mixed, z_ob, show fX3_answerTo (0 + 1) (z_I l) 8 3 x = _ from z_c_answerTo (f := 8) (n := 3) A O hl (by omega), z_ob, z_c_mixed, z_ob, show fX3_wouldBePutOut (0 + 1) (z_I l) 8 3 x = some (z_I (z_WO s l 8 3)) from z_c_wouldBePutOut (f := 8) (n := 3) A O hl (by omega), z_ob, z_c_mixed, z_ob, z_I_s]
    · rw [fX6_withLodgers_b15, if_neg (by rw [z_L7, z_I_le (by omega) (by omega)]; omega), show fX3_lodgerNumber (0 + 1) (z_I l) (z_I j) x = _ from z_c_lodgerNumber A hl hj, z_ob, z_c_mixed, z_ob, z_I_s]
theorem z_c_sign (T : z_RT x len tx) {p : Nat} (hp : p < 1000) : fX0_sign 99 (z_I p) x = some (if p < len then tx p else -1) := by
  have h60 := T.1
  unfold fX0_sign fX0_sign_b0 fX0_sign_b30
  rw [if_neg (by rw [z_I_nn (by omega)]; exact id), T.2.1]
  by_cases c : p < len
  · rw [if_neg (by rw [z_I_le (by omega) (by omega)]; omega), if_neg (by show ¬ z_I 60 ≤ z_I p; rw [z_I_le (by omega) (by omega)]; omega), z_gd (show p < ln (99 + 1) from (by show p < 60; omega)) (by decide), z_I_nat (by omega), if_pos c]
    rw [show x.1 (99 + 1) p = tx p from T.2.2 p c]
  · rw [if_pos (by rw [z_I_le (by omega) (by omega)]; omega), if_neg c]
theorem z_c_withText (T : z_RT x len tx) (h : Int64) : fX6_withText 0 h x = some (z_dT len tx h) := by
  have h60 := T.1
  unfold fX6_withText fX6_withText_b0
  rw [show fX0_size (0 + 99) x = some (x.1 99 1) from rfl, T.2.1, z_ob, z_c_mixed, z_ob]
  refine z_loopK (F := fun n (a : Int64) j => fX6_withText_b16 0 x n a j) (A := 0) (B := len) (g := fun h k => z_dg h (tx k).toInt64) (c := some) (fun n acc => ?_) (fun n acc j hA hj => ?_) len FU _ 0 (by omega) (by omega) (by show len < 2000; omega)
  · rw [fX6_withText_b16, show fX0_size (0 + 99) x = some (x.1 99 1) from rfl, T.2.1, z_ob, if_pos (Int32.le_refl _)]
  · rw [fX6_withText_b16, show fX0_size (0 + 99) x = some (x.1 99 1) from rfl, T.2.1, z_ob, if_neg (by rw [z_I_le (by omega) (by omega)]; omega), show fX0_sign (0 + 99) (z_I j) x = _ from z_c_sign T (by omega), z_ob, if_pos hj, z_c_mixed, z_ob, z_I_s]
theorem z_C_digest (hB : ∀ n, n < 49 → (∀ x : xS, fX6_bitsOf (z_shr n) x = some (B n)) ∧ (∀ x : xS, fX7_bitsOf (z_shr n) x = some (B n))) (R : z_RelC x s m sv kp sl len tx) (O : z_OKs s) : ∃ x', fX6_digest 0 x = some (z_DG B s m kp len tx, x') ∧ z_RelC x' s m sv kp sl len tx ∧ z_FrC x x' := by
  have A := z_House_1 R.1
  have hL := z_LT_le s
  unfold fX6_digest fX6_digest_b0
  rw [z_c_withAccounts R, z_ob, z_c_withBeds A, z_ob, z_c_withLodgers A O, z_ob]
  obtain ⟨y, ey, Xy⟩ := z_c_bedsFor A
  obtain ⟨Ry, Fy⟩ := z_RelC_XB R Xy
  have Ay := z_House_1 Ry.1
  rw [show fX1_bedsFor (0 + 97) (0 + 1 + 1) x = _ from ey, z_ob, z_c_mixed, z_ob, show fX4_mostLentBeds (0 + 1 + 1) y = _ from z_c_mostLentBeds Ay, z_ob, z_c_mixed, z_ob, show fX3_poorestLodger (0 + 1) y = _ from z_c_poorest Ay O, z_ob, z_c_mixed, z_ob, show fX3_shareLent (0 + 1) y = _ from z_c_share Ay, z_ob, (hB (z_LT s) (by omega)).1 y, z_ob, z_c_mixed, z_ob]
  have q : ∀ n h, fX6_digest_b86 0 (n + 1 + 1 + 1) h 0 y = some (z_dT len tx (z_dg (z_dg h (if kp 0 = true then 1 else 0)) (if kp 1 = true then 1 else 0)), y) := by
    intro n h
    have st : ∀ n h j, j < 2 → fX6_digest_b86 0 (n + 1) h (z_I j) y = fX6_digest_b86 0 n (z_dg h (if kp j = true then 1 else 0)) (z_I (j + 1)) y := by
      intro n h j hj
      rw [fX6_digest_b86, if_neg (by rw [z_L2, z_I_le (by omega) (by omega)]; omega), z_c_isFilled Ry.2.2.1 (by omega), z_ob]
      unfold fX6_digest_b108
      by_cases c : kp j = true
      · rw [if_pos c, if_neg (by decide), if_pos c, z_c_mixed, z_ob, z_I_s]
      · rw [if_neg c, if_pos rfl, if_neg c, z_c_mixed, z_ob, z_I_s]
    rw [show fX6_digest_b86 0 (n + 1 + 1 + 1) h 0 y = fX6_digest_b86 0 (n + 1 + 1 + 1) h (z_I 0) y from rfl, st _ _ 0 (by omega), st _ _ 1 (by omega), fX6_digest_b86, if_pos (by decide), z_c_withText Ry.2.2.2, z_ob]
  rw [show FU = 1997 + 1 + 1 + 1 from rfl, q]
  exact ⟨y, rfl, Ry, Fy⟩
theorem z_up2_107 (y : xS) (v : Int64) : (up2 y 101 15 v).2 107 = y.2 107 := by
  unfold up2; dsimp only; rw [if_neg (by omega)]
theorem z_up2_15 (y : xS) (v : Int64) : (up2 y 101 15 v).2 101 15 = v := by
  unfold up2 vp_updL; simp
def z_DP (x : xS) (s : z_row) (m : Nat) (sv : Nat → z_row) (kp : Nat → Bool) (sl : Nat → z_row) (len : Nat) (tx : Nat → Int32) (y : xS) (h : Int64) : Prop := z_RelR y s m sv kp sl len tx ∧ z_FM x y ∧ y.2 101 15 = h
theorem z_r_digestOne {y : xS} {h : Int64} (v : Int64) (D : z_DP x s m sv kp sl len tx y h) : ∃ z, fX7_digestOne 101 v y = some z ∧ z_DP x s m sv kp sl len tx z (z_dg h v) ∧ z.1 = y.1 := by
  unfold fX7_digestOne fX7_digestOne_b0
  obtain ⟨R, F, e⟩ := D
  rw [e, z_lt_]
  exact ⟨_, rfl, ⟨R, ⟨(z_up2_107 y _).trans F.1, F.2⟩, z_up2_15 y _⟩, rfl⟩
theorem z_r_digestLodger (O : z_OKs s) {l : Nat} (hl : l < 10) {y : xS} {h : Int64} (D : z_DP x s m sv kp sl len tx y h) : ∃ z, fX7_digestLodger 101 (z_I l) y = some z ∧ z_DP x s m sv kp sl len tx z (z_dL s h l) := by
  unfold fX7_digestLodger fX7_digestLodger_b0
  obtain ⟨k, z, ez, Pz⟩ := z_loopX (F := fun n j y => fX7_digestLodger_b2 101 (z_I l) n j y) (B := 7) (P := z_DP x s m sv kp sl len tx) (g := fun h k => z_dg h (z_LN s l k).toInt64) (fun n j y h hj D => by
    obtain ⟨z, ez, Dz, _⟩ := z_r_digestOne (z_LN s l j).toInt64 D
    refine ⟨z, ?_, Dz⟩
    rw [fX7_digestLodger_b2, if_neg (by rw [z_L7, z_I_le (by omega) (by omega)]; omega), z_r_ofLodger D.1.1 O.2.2.2.2.2 hl hj, z_ob, ez, z_ob, z_I_s]) 7 FU 0 y h rfl (by decide) D
  rw [show fX7_digestLodger_b2 101 (z_I l) FU 0 y = _ from ez, fX7_digestLodger_b2, if_pos (by decide)]
  rw [show fX7_longestFor 101 (z_I l) 0 z = _ from z_r_longestFor (f := 0) Pz.1.1 O.2.2.2.2.2 hl (by omega), z_ob]
  obtain ⟨z1, e1, D1, _⟩ := z_r_digestOne (z_I (z_LF s (z_I l) 0)).toInt64 Pz
  rw [e1, z_ob, show fX7_longestFor 101 (z_I l) 6 z1 = _ from z_r_longestFor (f := 6) D1.1.1 O.2.2.2.2.2 hl (by omega), z_ob]
  obtain ⟨z2, e2, D2, _⟩ := z_r_digestOne (z_I (z_LF s (z_I l) 6)).toInt64 D1
  rw [e2, z_ob]
  obtain ⟨w, ew, Aw, Fw, w9⟩ := z_r_would (f := 8) (n := 3) D2.1.1 O hl (by omega) (by omega)
  rw [show fX7_would 101 (z_I l) 8 3 z2 = _ from ew, z_ob]
  have Dw : z_DP x s m sv kp sl len tx w (z_dg (z_dg (z_fo (fun h k => z_dg h (z_LN s l k).toInt64) h 0 7) (z_I (z_LF s (z_I l) 0)).toInt64) (z_I (z_LF s (z_I l) 6)).toInt64) := ⟨z_RelR_W D2.1 Fw Aw, z_FM_t D2.2.1 (z_FM_W Fw), by rw [Fw.1]; exact D2.2.2⟩
  obtain ⟨z3, e3, D3, f3⟩ := z_r_digestOne (z_I (z_AN s l 8 3)).toInt64 Dw
  rw [e3, z_ob, f3, w9]
  obtain ⟨z4, e4, D4, _⟩ := z_r_digestOne (z_I (z_WO s l 8 3)).toInt64 D3
  rw [e4, z_ob]
  exact ⟨z4, rfl, D4⟩
theorem z_kbit0 : ∀ a b : Bool, ((z_I ((if a = true then 1 else 0) + (if b = true then 2 else 0))) &&& 1).toInt64 = (if a = true then 1 else 0) := by decide
theorem z_kbit1 : ∀ a b : Bool, (((z_I ((if a = true then 1 else 0) + (if b = true then 2 else 0))) >>> ((1 : Int32) &&& 31)) &&& 1).toInt64 = (if b = true then 1 else 0) := by decide
theorem z_M_digest (hB : ∀ n, n < 49 → (∀ x : xS, fX6_bitsOf (z_shr n) x = some (B n)) ∧ (∀ x : xS, fX7_bitsOf (z_shr n) x = some (B n))) (R : z_RelR x s m sv kp sl len tx) (O : z_OKs s) : ∃ x', fX7_digest 101 x = some (z_DG B s m kp len tx, x') ∧ z_RelR x' s m sv kp sl len tx ∧ z_FM x x' := by
  obtain ⟨R0, F0, z0⟩ := z_RelR_0 R 0
  have hL := z_LT_le s
  unfold fX7_digest fX7_digest_b0
  rw [z_lt_, z_lt_]
  have D0 : z_DP x s m sv kp sl len tx (up2 (up1 x 101 0 0) 101 15 3659) 3659 := ⟨R0, ⟨(z_up2_107 _ _).trans F0.1, F0.2⟩, z_up2_15 _ _⟩
  generalize up2 (up1 x 101 0 0) 101 15 3659 = y at *
  obtain ⟨k1, y1, e1, D1⟩ := z_loopX (F := fun n j y => fX7_digest_b14 101 n j y) (B := 12) (P := z_DP x s m sv kp sl len tx) (g := fun h k => z_dg h (z_CT2 s m k).toInt64) (fun n j y h hj D => by
    obtain ⟨z, ez, Dz, _⟩ := z_r_digestOne (z_CT2 s m j).toInt64 D
    refine ⟨z, ?_, Dz⟩
    rw [fX7_digest_b14, if_neg (by rw [z_L12, z_I_le (by omega) (by omega)]; omega), z_r_counted2 D.1 hj, z_ob, ez, z_ob, z_I_s]) 12 FU 0 y 3659 rfl (by decide) D0
  rw [show fX7_digest_b14 101 FU 0 y = _ from e1, fX7_digest_b14, if_pos (by decide)]
  obtain ⟨k2, y2, e2, D2⟩ := z_loopX (F := fun n j y => fX7_digest_b38 101 n j y) (B := 4) (P := z_DP x s m sv kp sl len tx) (g := fun h k => z_dg h (s (110 + (1 + k))).toInt64) (fun n j y h hj D => by
    obtain ⟨z, ez, Dz, _⟩ := z_r_digestOne (s (110 + (1 + j))).toInt64 D
    refine ⟨z, ?_, Dz⟩
    rw [fX7_digest_b38, if_neg (by rw [z_L4, z_I_le (by omega) (by omega)]; omega), z_L111, z_I_add, z_gm (by omega), z_Rr_I D.1.1 (by omega), show 111 + j = 110 + (1 + j) by omega, ez, z_ob, z_I_s]) 4 FU 0 y1 _ rfl (by decide) D1
  rw [show fX7_digest_b38 101 FU 0 y1 = _ from e2, fX7_digest_b38, if_pos (by decide)]
  rw [show z_fo (fun h k => z_dg h (s (110 + (1 + k))).toInt64) (z_fo (fun h k => z_dg h (z_CT2 s m k).toInt64) 3659 0 12) 0 4 = z_dR s (z_dA s m) from z_fo_shift (fun h r => z_dg h (s (110 + r)).toInt64) 1 4 _ 0] at D2
  obtain ⟨k3, y3, e3, D3⟩ := z_loopX (F := fun n j y => fX7_digest_b65 101 n j y) (B := 48) (P := z_DP x s m sv kp sl len tx) (g := fun h k => z_dg h (s (60 + k)).toInt64) (fun n j y h hj D => by
    obtain ⟨z, ez, Dz, _⟩ := z_r_digestOne (s (60 + j)).toInt64 D
    refine ⟨z, ?_, Dz⟩
    rw [fX7_digest_b65, if_neg (by rw [z_L48, z_I_le (by omega) (by omega)]; omega), z_L60, z_I_add, z_gm (by omega), z_Rr_I D.1.1 (by omega), ez, z_ob, z_I_s]) 48 FU 0 y2 _ rfl (by decide) D2
  rw [show fX7_digest_b65 101 FU 0 y2 = _ from e3, fX7_digest_b65, if_pos (by decide)]
  obtain ⟨k4, y4, e4, D4⟩ := z_loopX (F := fun n j y => fX7_digest_b93 101 n j y) (B := 10) (P := z_DP x s m sv kp sl len tx) (g := z_dL s) (fun n j y h hj D => by
    obtain ⟨z, ez, Dz⟩ := z_r_digestLodger O hj D
    refine ⟨z, ?_, Dz⟩
    rw [fX7_digest_b93, if_neg (by rw [z_L10, z_I_le (by omega) (by omega)]; omega), ez, z_ob, z_I_s]) 10 FU 0 y3 _ rfl (by decide) D3
  rw [show fX7_digest_b93 101 FU 0 y3 = _ from e4, fX7_digest_b93, if_pos (by decide)]
  rw [z_r_mostAtOnce D4.1.1, z_ob]
  obtain ⟨y5, e5, D5, _⟩ := z_r_digestOne (z_I (z_ML s)).toInt64 D4
  rw [e5, z_ob, z_r_mostAtOnce D5.1.1, z_ob]
  obtain ⟨y6, e6, D6, _⟩ := z_r_digestOne (z_I (z_ML s)).toInt64 D5
  rw [e6, z_ob, z_r_refusedMost D6.1.1 O, z_ob]
  obtain ⟨y7, e7, D7, _⟩ := z_r_digestOne (z_I (z_RM s)).toInt64 D6
  rw [e7, z_ob, z_r_share D7.1.1, z_ob, (hB (z_LT s) (by omega)).2 y7, z_ob]
  obtain ⟨y8, e8, D8, _⟩ := z_r_digestOne (B (z_LT s)) D7
  rw [e8, z_ob, show y8.1 101 6 = z_I (z_kb kp) from D8.1.2.2.1.1]
  unfold z_kb
  rw [z_kbit0]
  obtain ⟨y9, e9, D9, _⟩ := z_r_digestOne (if kp 0 = true then 1 else 0) D8
  rw [e9, z_ob, show y9.1 101 6 = z_I (z_kb kp) from D9.1.2.2.1.1]
  unfold z_kb
  rw [z_kbit1]
  obtain ⟨y10, e10, D10, _⟩ := z_r_digestOne (if kp 1 = true then 1 else 0) D9
  rw [e10, z_ob, show y10.1 101 8 = z_I len from D10.1.2.2.2.1]
  obtain ⟨y11, e11, D11, _⟩ := z_r_digestOne (z_I len).toInt64 D10
  rw [e11, z_ob]
  have h60 := R.2.2.2.2.1
  obtain ⟨k12, y12, e12, D12⟩ := z_loopX (F := fun n j y => fX7_digest_b183 101 n j y) (B := len) (P := z_DP x s m sv kp sl len tx) (g := fun h k => z_dg h (tx k).toInt64) (fun n j y h hj D => by
    obtain ⟨z, ez, Dz, _⟩ := z_r_digestOne (tx j).toInt64 D
    refine ⟨z, ?_, Dz⟩
    rw [fX7_digest_b183, show y.1 101 8 = z_I len from D.1.2.2.2.1, if_neg (by rw [z_I_le (by omega) (by omega)]; omega), z_gd (show j < ln (101 + 5) from (by show j < 60; omega)) (by decide), z_I_nat (by omega), show y.1 (101 + 5) j = tx j from D.1.2.2.2.2.2 j hj, ez, z_ob, z_I_s]) len FU 0 y11 _ (by omega) (by show len < 2000; omega) D11
  rw [show fX7_digest_b183 101 FU 0 y11 = _ from e12, fX7_digest_b183, show y12.1 101 8 = z_I len from D12.1.2.2.2.1, if_pos (Int32.le_refl _)]
  exact ⟨y12, by rw [D12.2.2]; rfl, D12.1, D12.2.1⟩
end

def z_SubH (t s : z_row) : Prop := ∀ k, 60 ≤ k → k < 108 → t k = s k ∨ t k = -1
def z_LodOK (t : z_row) : Prop := ∀ l, l < 10 → (∃ a, a < 10 ∧ t (6 * l) = z_I a) ∧ (∃ a, a < 8 ∧ t (6 * l + 1) = z_I a) ∧ (∃ a, a < 4 ∧ t (6 * l + 2) = z_I a)
theorem z_OK_sub {s t : z_row} (O : z_OKs s) (hH : z_SubH t s) (h108 : ∃ g, g < 12 ∧ t 108 = z_I g) (hL : z_LodOK t) (h109 : ∃ n, n < 1000 ∧ t 109 = z_I n) (h119 : ∃ n, n < 10 ∧ t 119 = z_I n) : z_OKs t := by
  refine ⟨fun k hk => ?_, h108, hL, h109, h119, fun h hh b hb c z_hc e hne => ?_⟩
  · rcases hH (60 + k) (by omega) (by omega) with e | e
    · rw [e]; exact O.1 k hk
    · exact Or.inl e
  · have hb1 : z_hv t b h = z_hv s b h := by
      rcases hH (60 + 12 * b + h) (by omega) (by omega) with e1 | e1
      · exact e1
      · exact absurd e1 hne
    have hc1 : z_hv t c h = z_hv s c h := by
      rcases hH (60 + 12 * c + h) (by omega) (by omega) with e1 | e1
      · exact e1
      · exact absurd (e.trans e1) hne
    exact O.2.2.2.2.2 h hh b hb c z_hc (by rw [← hb1, ← hc1]; exact e) (by rw [← hb1]; exact hne)
theorem z_SubH_refl (s : z_row) : z_SubH s s := fun _ _ _ => Or.inl rfl
theorem z_SubH_t {s t u : z_row} (h : z_SubH u t) (k : z_SubH t s) : z_SubH u s := fun i a b => by
  rcases h i a b with e | e
  · rw [e]; exact k i a b
  · exact Or.inr e
theorem z_SubH_E {s t : z_row} (h : z_EqH t s) : z_SubH t s := fun i a b => Or.inl (h i a b)
theorem z_SubH_LE (s : z_row) (b f d : Nat) : z_SubH (z_LE s b f d (-1)) s := fun k h1 h2 => by
  unfold z_LE; split
  · exact Or.inr rfl
  · exact Or.inl rfl
theorem z_OK_eq {s t : z_row} (O : z_OKs s) (hH : z_SubH t s) (h : ∀ k, (k < 60 ∧ k % 6 < 3) ∨ k = 108 ∨ k = 109 ∨ k = 119 → t k = s k) : z_OKs t := by
  obtain ⟨g, hg, eg⟩ := O.2.1
  obtain ⟨n, z_hn, en⟩ := O.2.2.2.1
  obtain ⟨q, hq, eq⟩ := O.2.2.2.2.1
  refine z_OK_sub O hH ⟨g, hg, by rw [h 108 (by omega)]; exact eg⟩ (fun l hl => ?_) ⟨n, z_hn, by rw [h 109 (by omega)]; exact en⟩ ⟨q, hq, by rw [h 119 (by omega)]; exact eq⟩
  rw [h (6 * l) (by omega), h (6 * l + 1) (by omega), h (6 * l + 2) (by omega)]
  exact O.2.2.1 l hl
theorem z_OK_upd {s : z_row} (O : z_OKs s) {k : Nat} (hk : ¬ ((k < 60 ∧ k % 6 < 3) ∨ (60 ≤ k ∧ k < 110) ∨ k = 119)) (v : Int32) : z_OKs (upd s k v) :=
  z_OK_eq O (z_SubH_E (z_EqH_upd (by omega) v)) (fun j hj => z_updN _ (by omega) _)
theorem z_OK_LE {s : z_row} (O : z_OKs s) {b f d : Nat} (hb : b < 4) (hh : f + d ≤ 12) : z_OKs (z_LE s b f d (-1)) :=
  z_OK_eq O (z_SubH_LE s b f d) (fun j hj => z_LEN (by omega))
theorem z_OK_updL {s : z_row} (O : z_OKs s) {l w : Nat} (hl : l < 10) (hw : w < 3) {v : Int32} (z_hv : (w = 0 → ∃ a, a < 10 ∧ v = z_I a) ∧ (w = 1 → ∃ a, a < 8 ∧ v = z_I a) ∧ (w = 2 → ∃ a, a < 4 ∧ v = z_I a)) : z_OKs (upd s (6 * l + w) v) := by
  obtain ⟨g, hg, eg⟩ := O.2.1
  obtain ⟨n, z_hn, en⟩ := O.2.2.2.1
  obtain ⟨q, hq, eq⟩ := O.2.2.2.2.1
  refine z_OK_sub O (z_SubH_E (z_EqH_upd (by omega) v)) ⟨g, hg, by rw [z_updN _ (by omega)]; exact eg⟩ (fun j hj => ?_) ⟨n, z_hn, by rw [z_updN _ (by omega)]; exact en⟩ ⟨q, hq, by rw [z_updN _ (by omega)]; exact eq⟩
  obtain ⟨o1, o2, o3⟩ := O.2.2.1 j hj
  by_cases c : j = l
  · subst c
    rcases (by omega : w = 0 ∨ w = 1 ∨ w = 2) with rfl | rfl | rfl
    · exact ⟨by rw [z_updP _ (by omega)]; exact z_hv.1 rfl, by rw [z_updN _ (by omega)]; exact o2, by rw [z_updN _ (by omega)]; exact o3⟩
    · exact ⟨by rw [z_updN _ (by omega)]; exact o1, by rw [z_updP _ (by omega)]; exact z_hv.2.1 rfl, by rw [z_updN _ (by omega)]; exact o3⟩
    · exact ⟨by rw [z_updN _ (by omega)]; exact o1, by rw [z_updN _ (by omega)]; exact o2, by rw [z_updP _ (by omega)]; exact z_hv.2.2 rfl⟩
  · exact ⟨by rw [z_updN _ (by omega)]; exact o1, by rw [z_updN _ (by omega)]; exact o2, by rw [z_updN _ (by omega)]; exact o3⟩
theorem z_mi_ok : ∀ a, a < 8 → ∃ c, c < 8 ∧ z_mi (z_I a) = z_I c := by
  intro a ha
  refine ⟨if a < 6 then a + 1 else 7, by split <;> omega, ?_⟩
  revert a; decide
theorem z_OK_mi {s : z_row} (O : z_OKs s) {l : Nat} (hl : l < 10) : ∃ c, c < 8 ∧ z_mi (s (6 * l + 1)) = z_I c := by
  obtain ⟨a, ha, ea⟩ := (O.2.2.1 l hl).2.1
  rw [ea]; exact z_mi_ok a ha
theorem z_OK_RF {s : z_row} (O : z_OKs s) {l r : Nat} (hl : l < 10) (h1 : 1 ≤ r) (h4 : r ≤ 4) : z_OKs (z_RF s l r) := by
  have O1 := z_OK_upd O (k := 110 + r) (by omega) (s (110 + r) + 1)
  unfold z_RF
  split
  · exact z_OK_updL O1 hl (w := 1) (by omega) ⟨by omega, fun _ => z_OK_mi O hl, by omega⟩
  · exact O1
theorem z_OK_PU {s : z_row} (O : z_OKs s) (M : Nat) : z_OKs (z_PU s M 0 10) := by
  obtain ⟨g, hg, eg⟩ := O.2.1
  obtain ⟨n, z_hn, en⟩ := O.2.2.2.1
  obtain ⟨q, hq, eq⟩ := O.2.2.2.2.1
  refine z_OK_sub O (z_SubH_E (z_EqH_PU s M 0 10 (by omega))) ⟨g, hg, by rw [z_PUo _ _ (by omega)]; exact eg⟩ (fun j hj => ?_) ⟨n, z_hn, by rw [z_PUo _ _ (by omega)]; exact en⟩ ⟨q, hq, by rw [z_PUo _ _ (by omega)]; exact eq⟩
  obtain ⟨o1, o2, o3⟩ := O.2.2.1 j hj
  have e0 : z_PU s M 0 10 (6 * j) = s (6 * j) := by
    unfold z_PU; split
    · rw [if_neg (by omega), if_neg (by omega)]
    · rfl
  have e2 : z_PU s M 0 10 (6 * j + 2) = s (6 * j + 2) := by
    unfold z_PU; split
    · rw [if_neg (by omega), if_neg (by omega)]
    · rfl
  have e1 : z_PU s M 0 10 (6 * j + 1) = s (6 * j + 1) ∨ z_PU s M 0 10 (6 * j + 1) = z_mi (s (6 * j + 1)) := by
    unfold z_PU; split
    · rw [if_neg (by omega), if_pos (by omega)]; exact Or.inr rfl
    · exact Or.inl rfl
  refine ⟨by rw [e0]; exact o1, ?_, by rw [e2]; exact o3⟩
  rcases e1 with e | e
  · rw [e]; exact o2
  · rw [e]; exact z_OK_mi O hj
theorem z_OK_lend {s : z_row} (O : z_OKs s) {b f n l : Nat} (hb : b < 4) (hh : f + n ≤ 12) (hl : l < 10) (hno : ∀ c j, c < 4 → f ≤ j → j < f + n → z_hv s c j ≠ z_I l) : z_OKs (z_LE s b f n (z_I l)) := by
  have hvL : ∀ c j, c < 4 → j < 12 → z_hv (z_LE s b f n (z_I l)) c j = if c = b ∧ f ≤ j ∧ j < f + n then z_I l else z_hv s c j := by
    intro c j z_hc hj
    unfold z_hv z_LE
    by_cases q : c = b ∧ f ≤ j ∧ j < f + n
    · rw [if_pos q, if_pos (by obtain ⟨q1, q2, q3⟩ := q; subst q1; omega)]
    · rw [if_neg q, if_neg (by intro w; apply q; omega)]
  refine ⟨fun k hk => ?_, ?_, fun j hj => ?_, ?_, ?_, fun h hh2 c z_hc d hd e hne => ?_⟩
  · unfold z_LE; split
    · exact Or.inr ⟨l, hl, rfl⟩
    · exact O.1 k hk
  · rw [z_LEN (by omega)]; exact O.2.1
  · rw [z_LEN (by omega), z_LEN (by omega), z_LEN (by omega)]; exact O.2.2.1 j hj
  · rw [z_LEN (by omega)]; exact O.2.2.2.1
  · rw [z_LEN (by omega)]; exact O.2.2.2.2.1
  · rw [hvL c h z_hc hh2] at e hne
    rw [hvL d h hd hh2] at e
    by_cases q1 : c = b ∧ f ≤ h ∧ h < f + n
    · by_cases q2 : d = b ∧ f ≤ h ∧ h < f + n
      · omega
      · rw [if_pos q1, if_neg q2] at e
        exact absurd e.symm (hno d h hd q1.2.1 q1.2.2)
    · rw [if_neg q1] at e hne
      by_cases q2 : d = b ∧ f ≤ h ∧ h < f + n
      · rw [if_pos q2] at e
        exact absurd e (hno c h z_hc q2.2.1 q2.2.2)
      · rw [if_neg q2] at e
        exact O.2.2.2.2.2 h hh2 c z_hc d hd e hne
theorem z_HB_0 {s : z_row} {v : Int32} {f n : Nat} : z_HB s v f n = 0 → ∀ j, f ≤ j → j < f + n → z_BO s v j = 4 := by
  induction n with
  | zero => intro _ j h1 h2; omega
  | succ n ih =>
    intro h j h1 h2
    unfold z_HB at h
    simp only [z_sm] at h
    by_cases c : j = f + n
    · subst c
      by_cases e : z_BO s v (f + n) = 4
      · exact e
      · rw [if_neg e] at h; omega
    · exact ih (by unfold z_HB; omega) j h1 (by omega)
theorem z_BO_no {s : z_row} {v : Int32} {j : Nat} (h : z_BO s v j = 4) : ∀ c, c < 4 → z_hv s c j ≠ v := by
  intro c z_hc e
  unfold z_BO at h
  rcases (by omega : c = 0 ∨ c = 1 ∨ c = 2 ∨ c = 3) with rfl | rfl | rfl | rfl
  · revert h; (repeat' split) <;> first | omega | contradiction
  · revert h; (repeat' split) <;> first | omega | contradiction
  · revert h; (repeat' split) <;> first | omega | contradiction
  · revert h; (repeat' split) <;> first | omega | contradiction
theorem z_OK_GZ {s t : z_row} (O : z_OKs t) (hS : z_SubH t s) {l b f n : Nat} (hl : l < 10) (hb : b < 4) (hh : f + n ≤ 12) (hno : ∀ c j, c < 4 → f ≤ j → j < f + n → z_hv s c j ≠ z_I l) : z_OKs (z_GZ t l b f n) := by
  have n1 : z_I l ≠ -1 := by rw [Ne, z_I_n1 (by omega)]; exact id
  unfold z_GZ
  refine z_OK_upd (z_OK_lend (z_OK_updL O hl (w := 1) (by omega) ⟨by omega, fun _ => ⟨0, by omega, rfl⟩, by omega⟩) hb hh hl (fun c j z_hc h1 h2 => ?_)) (by omega) _
  rw [z_hv_c (z_EqH_upd (by omega) _) z_hc (by omega)]
  rcases hS (60 + 12 * c + j) (by omega) (by omega) with e | e
  · rw [show z_hv t c j = z_hv s c j from e]; exact hno c j z_hc h1 h2
  · rw [show z_hv t c j = -1 from e]; exact fun w => n1 w.symm
theorem z_fm1 : ∀ a, a < 4 → a ≠ 0 → ∃ c, c < 4 ∧ z_I a + (-1) = z_I c := by
  intro a ha h0
  refine ⟨a - 1, by omega, ?_⟩
  revert a; decide
theorem z_OK_TA {s : z_row} (O : z_OKs s) {l f n g : Nat} (hl : l < 10) (z_hn : 1 ≤ n) (hh : f + n ≤ 12) : z_OKs (z_TA s l f n g) := by
  have h1 := z_AN_lt s l f n
  have h2 := z_AN_13 s l f n
  unfold z_TA
  by_cases h : 10 ≤ z_AN s l f n
  · rw [if_pos h]
    have hb : z_AN s l f n - 10 < 4 := by omega
    have hHB : z_HB s (z_I l) f n = 0 := by
      unfold z_AN at h
      by_cases c : z_I f < s 108
      · rw [if_pos c] at h; omega
      · rw [if_neg c] at h
        by_cases c2 : 0 < z_HB s (z_I l) f n
        · rw [if_pos c2] at h; omega
        · omega
    have hno : ∀ c j, c < 4 → f ≤ j → j < f + n → z_hv s c j ≠ z_I l := fun c j z_hc a b => z_BO_no (z_HB_0 hHB j a b) c z_hc
    unfold z_GR
    by_cases h8 : s (6 * l + 1) = z_I 7
    · rw [if_pos h8]
      have E1 : z_EqH (z_GE s l) s := z_EqH_upd (by omega) _
      have O1 : z_OKs (z_CP (z_GE s l) (z_MK (z_GE s l) (z_AN s l f n - 10) f n)) := z_OK_PU (z_OK_upd (z_OK_upd O (by omega) _) (by omega) _) _
      have E2 : z_EqH (z_CP (z_GE s l) (z_MK (z_GE s l) (z_AN s l f n - 10) f n)) s := z_EqH_trans (z_EqH_PU _ _ _ _ (by omega)) (z_EqH_trans (z_EqH_upd (by omega) _) E1)
      unfold z_G8
      dsimp only
      have hF := z_FS_le (z_CP (z_GE s l) (z_MK (z_GE s l) (z_AN s l f n - 10) f n)) (z_AN s l f n - 10) f g
      have hP := z_PE_le (z_CP (z_GE s l) (z_MK (z_GE s l) (z_AN s l f n - 10) f n)) (z_AN s l f n - 10) (f + n - 1) (by omega)
      refine z_OK_GZ (s := s) (z_OK_upd (z_OK_LE O1 hb (by omega)) (by omega) _) ?_ hl hb hh hno
      exact z_SubH_t (z_SubH_E (z_EqH_upd (by omega) _)) (z_SubH_t (z_SubH_LE _ _ _ _) (z_SubH_E E2))
    · rw [if_neg h8]
      by_cases h6 : s (6 * l) < s 119
      · rw [if_pos h6]
        have hf0 : ¬ s (6 * l + 2) = 0 := by
          intro z
          unfold z_AN at h
          by_cases c : z_I f < s 108
          · rw [if_pos c] at h; omega
          · rw [if_neg c, if_neg (by omega), if_neg h8, if_pos ⟨h6, z⟩] at h; omega
        obtain ⟨a, ha, ea⟩ := (O.2.2.1 l hl).2.2
        have hfc : ∃ c, c < 4 ∧ s (6 * l + 2) + (-1) = z_I c := by
          rw [ea]; exact z_fm1 a ha (fun z => hf0 (by rw [ea, z]; rfl))
        unfold z_GF
        refine z_OK_GZ (s := s) (z_OK_upd (z_OK_updL O hl (w := 2) (by omega) ⟨by omega, by omega, fun _ => hfc⟩) (by omega) _) ?_ hl hb hh hno
        exact z_SubH_t (z_SubH_E (z_EqH_upd (by omega) _)) (z_SubH_E (z_EqH_upd (by omega) _))
      · rw [if_neg h6]
        exact z_OK_GZ O (z_SubH_refl s) hl hb hh hno
  · rw [if_neg h]
    exact z_OK_RF O hl (by omega) (by omega)
theorem z_OK_SL {s : z_row} (O : z_OKs s) (g : Nat) : z_OKs (z_SL s g 0 10) := by
  refine z_OK_eq O (fun k h1 h2 => Or.inl ?_) (fun k hk => ?_)
  · unfold z_SL; rw [if_neg (by omega)]
  · unfold z_SL; rw [if_neg (by omega)]
theorem z_OK_PS {s : z_row} (O : z_OKs s) {g : Nat} (hg : s 108 = z_I g) (hg12 : g < 12) (h9 : s 109 < 999) : z_OKs (z_PS s g) := by
  have O1 := z_OK_SL O g
  have e9 : z_SL s g 0 10 109 = s 109 := by unfold z_SL; rw [if_neg (by omega)]
  have e19 : z_SL s g 0 10 119 = s 119 := by unfold z_SL; rw [if_neg (by omega)]
  obtain ⟨n, z_hn, en⟩ := O.2.2.2.1
  obtain ⟨q, hq, eq⟩ := O.2.2.2.2.1
  unfold z_PS
  by_cases c : g + 1 < 12
  · rw [if_pos c]
    refine z_OK_sub O1 (z_SubH_E (z_EqH_upd (by omega) _)) ⟨g + 1, c, z_updP _ rfl _⟩ (fun l hl => ?_) ⟨n, z_hn, by rw [z_updN _ (by omega), e9]; exact en⟩ ⟨q, hq, by rw [z_updN _ (by omega), e19]; exact eq⟩
    rw [z_updN _ (by omega), z_updN _ (by omega), z_updN _ (by omega)]; exact O1.2.2.1 l hl
  · rw [if_neg c]
    have fi : ∀ (t : z_row) k, ¬ (60 ≤ k ∧ k < 108) → z_FI t k = t k := fun t k h => if_neg h
    refine z_OK_sub O1 (fun k h1 h2 => Or.inr ?_) ⟨0, by omega, ?_⟩ (fun l hl => ?_) ⟨n + 1, ?_, ?_⟩ ⟨q, hq, ?_⟩
    · rw [z_updN _ (by omega), z_updN _ (by omega)]; exact if_pos ⟨h1, h2⟩
    · rw [z_updN _ (by omega), z_updP _ rfl]; rfl
    · have e : ∀ k, k < 60 → upd (upd (z_FI (upd (z_SL s g 0 10) 108 (z_I (g + 1)))) 108 0) 109 (upd (z_FI (upd (z_SL s g 0 10) 108 (z_I (g + 1)))) 108 0 109 + 1) k = z_SL s g 0 10 k := fun k hk => by
        rw [z_updN _ (by omega), z_updN _ (by omega), fi _ _ (by omega), z_updN _ (by omega)]
      rw [e _ (by omega), e _ (by omega), e _ (by omega)]; exact O1.2.2.1 l hl
    · rw [en, show (999 : Int32) = z_I 999 from rfl, z_I_lt (by omega) (by omega)] at h9; omega
    · rw [z_updP _ rfl, z_updN _ (by omega), fi _ _ (by omega), z_updN _ (by omega), e9, en, z_I_s]
    · rw [z_updN _ (by omega), z_updN _ (by omega), fi _ _ (by omega), z_updN _ (by omega), e19]; exact eq
theorem z_OK_TBr {s : z_row} (O : z_OKs s) {l h : Nat} (hl : l < 10) (hh : h < 12) : z_OKs (z_TBr s l h) := by
  unfold z_TBr
  split
  · exact z_OK_upd O (by omega) _
  · next e =>
    have hB := z_BO_le s (z_I l) h
    have hp := z_PE_le s (z_BO s (z_I l) h) h hh
    exact z_OK_LE O (by omega) (by omega)
theorem z_fp1 : ∀ a, a < 4 → z_I a < 3 → ∃ c, c < 4 ∧ z_I a + 1 = z_I c := by
  intro a ha h
  rw [z_L3, z_I_lt (by omega) (by omega)] at h
  exact ⟨a + 1, by omega, z_I_s a⟩
theorem z_OK_fav {s : z_row} (O : z_OKs s) {l : Nat} (hl : l < 10) : z_OKs (if s (6 * l + 2) < 3 then upd s (6 * l + 2) (s (6 * l + 2) + 1) else upd s 118 (s 118 + 1)) := by
  split
  · next h =>
    obtain ⟨a, ha, ea⟩ := (O.2.2.1 l hl).2.2
    exact z_OK_updL O hl (w := 2) (by omega) ⟨by omega, by omega, fun _ => by rw [ea] at h ⊢; exact z_fp1 a ha h⟩
  · exact z_OK_upd O (by omega) _
theorem z_OK_need {s : z_row} (O : z_OKs s) {l v : Nat} (hl : l < 10) (z_hv : v ≤ 9) : z_OKs (upd s (6 * l) (z_I v)) :=
  z_OK_updL O hl (w := 0) (by omega) ⟨fun _ => ⟨v, by omega, rfl⟩, by omega, by omega⟩
theorem z_OK_set {s : z_row} (O : z_OKs s) {v : Nat} (z_hv : v ≤ 9) : z_OKs (upd s 119 (z_I v)) := by
  refine z_OK_sub O (z_SubH_E (z_EqH_upd (by omega) _)) ?_ (fun l hl => ?_) ?_ ⟨v, by omega, z_updP _ rfl _⟩
  · rw [z_updN _ (by omega)]; exact O.2.1
  · rw [z_updN _ (by omega), z_updN _ (by omega), z_updN _ (by omega)]; exact O.2.2.1 l hl
  · rw [z_updN _ (by omega)]; exact O.2.2.2.1

def z_ns (st : Nat) (c : Int32) : Nat := if st = 0 then (if c = 104 then 4 else if c < 48 then 5 else if (57 : Int32) < c then 5 else 1) else
  if st = 1 then (if c = 64 then 2 else 5) else if st = 2 then (if c < 97 then 5 else if (108 : Int32) < c then 5 else 3) else
  if st = 3 then (if c < 49 then 5 else if (57 : Int32) < c then 5 else 4) else if st = 4 then (if c = 59 then 0 else 5) else 5
theorem z_ns_le (st : Nat) (c : Int32) : z_ns st c ≤ 5 := by unfold z_ns; (repeat' split) <;> omega
theorem z_c_stateAfter {st : Nat} (h : st ≤ 5) (c : Int32) (x : xS) : fX0_stateAfter (z_I st) c x = some (z_I (z_ns st c)) := by
  unfold fX0_stateAfter fX0_stateAfter_b0 fX0_stateAfter_b62 fX0_stateAfter_b63 fX0_stateAfter_b79 fX0_stateAfter_b100 fX0_stateAfter_b101 fX0_stateAfter_b122 fX0_stateAfter_b123 fX0_stateAfter_b139 fX0_next fX0_next_b0 z_ns
  rcases (by omega : st = 0 ∨ st = 1 ∨ st = 2 ∨ st = 3 ∨ st = 4 ∨ st = 5) with rfl | rfl | rfl | rfl | rfl | rfl
  · rw [if_pos (show z_I 0 = 0 from rfl), if_pos (show (0 : Nat) = 0 from rfl)]; (repeat' split) <;> first | rfl | contradiction
  · rw [if_neg (show ¬ z_I 1 = 0 by decide), if_pos (show z_I 1 = 1 from rfl), if_neg (show ¬ (1 : Nat) = 0 by omega), if_pos (show (1 : Nat) = 1 from rfl)]; (repeat' split) <;> first | rfl | contradiction
  · rw [if_neg (show ¬ z_I 2 = 0 by decide), if_neg (show ¬ z_I 2 = 1 by decide), if_pos (show z_I 2 = 2 from rfl), if_neg (show ¬ (2 : Nat) = 0 by omega), if_neg (show ¬ (2 : Nat) = 1 by omega), if_pos (show (2 : Nat) = 2 from rfl)]; (repeat' split) <;> first | rfl | contradiction
  · rw [if_neg (show ¬ z_I 3 = 0 by decide), if_neg (show ¬ z_I 3 = 1 by decide), if_neg (show ¬ z_I 3 = 2 by decide), if_pos (show z_I 3 = 3 from rfl), if_neg (show ¬ (3 : Nat) = 0 by omega), if_neg (show ¬ (3 : Nat) = 1 by omega), if_neg (show ¬ (3 : Nat) = 2 by omega), if_pos (show (3 : Nat) = 3 from rfl)]; (repeat' split) <;> first | rfl | contradiction
  · rw [if_neg (show ¬ z_I 4 = 0 by decide), if_neg (show ¬ z_I 4 = 1 by decide), if_neg (show ¬ z_I 4 = 2 by decide), if_neg (show ¬ z_I 4 = 3 by decide), if_pos (show z_I 4 = 4 from rfl), if_neg (show ¬ (4 : Nat) = 0 by omega), if_neg (show ¬ (4 : Nat) = 1 by omega), if_neg (show ¬ (4 : Nat) = 2 by omega), if_neg (show ¬ (4 : Nat) = 3 by omega), if_pos (show (4 : Nat) = 4 from rfl)]; (repeat' split) <;> first | rfl | contradiction
  · rw [if_neg (show ¬ z_I 5 = 0 by decide), if_neg (show ¬ z_I 5 = 1 by decide), if_neg (show ¬ z_I 5 = 2 by decide), if_neg (show ¬ z_I 5 = 3 by decide), if_neg (show ¬ z_I 5 = 4 by decide), if_neg (show ¬ (5 : Nat) = 0 by omega), if_neg (show ¬ (5 : Nat) = 1 by omega), if_neg (show ¬ (5 : Nat) = 2 by omega), if_neg (show ¬ (5 : Nat) = 3 by omega), if_neg (show ¬ (5 : Nat) = 4 by omega)]; rfl
def z_ep (tx : Nat → Int32) : Nat → Nat → Nat → Nat × Nat
  | st, p, 0 => (p, st)
  | st, p, d + 1 => if z_ns st (tx p) = 5 then (p, 5) else z_ep tx (z_ns st (tx p)) (p + 1) d
section
variable {x x' : xS} {s s' : z_row} {m : Nat} {sv : Nat → z_row} {kp : Nat → Bool} {sl : Nat → z_row} {len : Nat} {tx : Nat → Int32}
theorem z_c_errorPlace (T : z_RT x len tx) : fX0_errorPlace 99 x = some (z_I (z_ep tx 0 0 len).1) := by
  have h60 := T.1
  unfold fX0_errorPlace fX0_errorPlace_b0
  have q : ∀ d n st p, st ≤ 5 → p + d = len → d < n → fX0_errorPlace_b4 99 x n (z_I st) (z_I p) = some (z_I (z_ep tx st p d).1) := by
    intro d
    induction d with
    | zero =>
      intro n st p hst hp z_hn
      obtain ⟨n, rfl⟩ : ∃ k, n = k + 1 := ⟨n - 1, by omega⟩
      rw [fX0_errorPlace_b4, T.2.1, if_pos (by rw [z_I_le (by omega) (by omega)]; omega), show len = p by omega]; rfl
    | succ d ih =>
      intro n st p hst hp z_hn
      obtain ⟨n, rfl⟩ : ∃ k, n = k + 1 := ⟨n - 1, by omega⟩
      have hns := z_ns_le st (tx p)
      rw [fX0_errorPlace_b4, T.2.1, if_neg (by rw [z_I_le (by omega) (by omega)]; omega), z_c_sign T (by omega), if_pos (by omega), z_ob, z_c_stateAfter hst, z_ob, z_I_s]
      simp only [z_ep]
      by_cases c : z_ns st (tx p) = 5
      · rw [if_pos (by rw [c]; rfl), if_pos c]
      · rw [if_neg (by rw [z_L5, z_I_eq (by omega) (by omega)]; exact c), if_neg c]
        exact ih n _ (p + 1) hns (by omega) (by omega)
  exact q len FU 0 0 (by omega) (by omega) (by show len < 2000; omega)
theorem z_c_tellsAskings (T : z_RT x len tx) : fX0_tellsAskings 99 x = some (if (z_ep tx 0 0 len).2 = 4 then 1 else 0) := by
  have h60 := T.1
  unfold fX0_tellsAskings fX0_tellsAskings_b0
  have q5 : ∀ d n p, p + d = len → d < n → fX0_tellsAskings_b4 99 x n (z_I 5) (z_I p) = some 0 := by
    intro d
    induction d with
    | zero =>
      intro n p hp z_hn
      obtain ⟨n, rfl⟩ : ∃ k, n = k + 1 := ⟨n - 1, by omega⟩
      rw [fX0_tellsAskings_b4, T.2.1, if_pos (by rw [z_I_le (by omega) (by omega)]; omega), if_neg (by decide)]
    | succ d ih =>
      intro n p hp z_hn
      obtain ⟨n, rfl⟩ : ∃ k, n = k + 1 := ⟨n - 1, by omega⟩
      rw [fX0_tellsAskings_b4, T.2.1, if_neg (by rw [z_I_le (by omega) (by omega)]; omega), z_c_sign T (by omega), if_pos (by omega), z_ob, z_c_stateAfter (by omega), z_ob, z_I_s]
      exact ih n (p + 1) (by omega) (by omega)
  have q : ∀ d n st p, st ≤ 4 → p + d = len → d < n → fX0_tellsAskings_b4 99 x n (z_I st) (z_I p) = some (if (z_ep tx st p d).2 = 4 then 1 else 0) := by
    intro d
    induction d with
    | zero =>
      intro n st p hst hp z_hn
      obtain ⟨n, rfl⟩ : ∃ k, n = k + 1 := ⟨n - 1, by omega⟩
      rw [fX0_tellsAskings_b4, T.2.1, if_pos (by rw [z_I_le (by omega) (by omega)]; omega)]
      by_cases c : st = 4
      · subst c; rw [if_pos (by decide)]; rfl
      · rw [if_neg (by rw [z_L4, z_I_eq (by omega) (by omega)]; exact c)]
        show some 0 = some (if st = 4 then 1 else 0)
        rw [if_neg c]
    | succ d ih =>
      intro n st p hst hp z_hn
      obtain ⟨n, rfl⟩ : ∃ k, n = k + 1 := ⟨n - 1, by omega⟩
      have hns := z_ns_le st (tx p)
      rw [fX0_tellsAskings_b4, T.2.1, if_neg (by rw [z_I_le (by omega) (by omega)]; omega), z_c_sign T (by omega), if_pos (by omega), z_ob, z_c_stateAfter (by omega), z_ob, z_I_s]
      by_cases c : z_ns st (tx p) = 5
      · have e : z_ep tx st p (d + 1) = (p, 5) := by simp only [z_ep]; rw [if_pos c]
        rw [e, c, q5 d n (p + 1) (by omega) (by omega)]; rfl
      · have e : z_ep tx st p (d + 1) = z_ep tx (z_ns st (tx p)) (p + 1) d := by simp only [z_ep]; rw [if_neg c]
        rw [e]
        exact ih n _ (p + 1) (by omega) (by omega) (by omega)
  exact q len FU 0 0 (by omega) (by omega) (by show len < 2000; omega)
def z_TF (y y' : xS) : Prop := y'.2 = y.2 ∧ (∀ i, i ≠ 101 → y'.1 i = y.1 i) ∧ (∀ k, ¬ (10 ≤ k ∧ k ≤ 14) → y'.1 101 k = y.1 101 k)
theorem z_TF_refl (y : xS) : z_TF y y := ⟨rfl, fun _ _ => rfl, fun _ _ => rfl⟩
theorem z_TF_t {x y z : xS} (h : z_TF x y) (k : z_TF y z) : z_TF x z := ⟨k.1.trans h.1, fun i a => (k.2.1 i a).trans (h.2.1 i a), fun i a => (k.2.2 i a).trans (h.2.2 i a)⟩
theorem z_TF_up (y : xS) {k : Nat} (h : 10 ≤ k ∧ k ≤ 14) (v : Int32) : z_TF y (up1 y 101 k v) := ⟨rfl, fun i a => z_up1_o y k v a, fun j a => by rw [z_up1_at, if_neg (by intro e; apply a; omega)]⟩
theorem z_QT_TF {y y' : xS} (h : z_TF y y') (T : z_QT y len tx) : z_QT y' len tx := ⟨by rw [h.2.2 8 (by omega)]; exact T.1, T.2.1, fun k hk => by rw [h.2.1 106 (by omega)]; exact T.2.2 k hk⟩
theorem z_RelR_TF {y y' : xS} (h : z_TF y y') (R : z_RelR y s m sv kp sl len tx) : z_RelR y' s m sv kp sl len tx := by
  obtain ⟨A, ⟨a, b, c⟩, ⟨d, e⟩, T⟩ := R
  exact ⟨fun k hk => by rw [h.2.1 102 (by omega)]; exact A k hk, ⟨by rw [h.2.2 4 (by omega)]; exact a, b, fun k hk j hj => by rw [h.2.1 104 (by omega)]; exact c k hk j hj⟩, ⟨by rw [h.2.2 6 (by omega)]; exact d, fun k hk e1 j hj => by rw [h.2.1 105 (by omega)]; exact e k hk e1 j hj⟩, z_QT_TF h T⟩
theorem z_FM_TF {y y' : xS} (h : z_TF y y') : z_FM y y' := ⟨by rw [h.1], fun i a => h.2.1 i (by omega)⟩
def z_At (y : xS) (p w : Nat) : Prop := y.1 101 10 = z_I p ∧ y.1 101 11 = z_I w
def z_may (tx : Nat → Int32) (len p : Nat) (lo hi : Int32) : Prop := p < len ∧ ¬ tx p < lo ∧ ¬ hi < tx p
theorem z_r_isNext_y {y : xS} {p : Nat} {lo hi : Int32} (T : z_QT y len tx) (a : z_At y p 0) (h : z_may tx len p lo hi) : fX7_isNext 101 lo hi y = some 1 := by
  have h60 := T.2.1
  unfold fX7_isNext fX7_isNext_b0 fX7_isNext_b39
  rw [a.2, if_pos (by decide), T.1, a.1, if_neg (by rw [z_I_le (by omega) (by have := h.1; omega)]; have := h.1; omega), z_gd (show p < ln (101 + 5) from (by show p < 60; have := h.1; omega)) (by decide), z_I_nat (by have := h.1; omega), show y.1 (101 + 5) p = tx p from T.2.2 p h.1]
  unfold fX7_in fX7_in_b0
  rw [if_neg h.2.1, if_neg h.2.2, z_ob, if_neg (by decide)]
theorem z_r_isNext_n {y : xS} {p : Nat} {lo hi : Int32} (hp : p ≤ len) (T : z_QT y len tx) (a : z_At y p 0) (h : ¬ z_may tx len p lo hi) : fX7_isNext 101 lo hi y = some 0 := by
  have h60 := T.2.1
  unfold fX7_isNext fX7_isNext_b0 fX7_isNext_b39
  rw [a.2, if_pos (by decide), T.1, a.1]
  by_cases c : p < len
  · rw [if_neg (by rw [z_I_le (by omega) (by omega)]; omega), z_gd (show p < ln (101 + 5) from (by show p < 60; omega)) (by decide), z_I_nat (by omega), show y.1 (101 + 5) p = tx p from T.2.2 p c]
    unfold fX7_in fX7_in_b0 fX7_in_b14
    by_cases c1 : tx p < lo
    · rw [if_pos c1, z_ob, if_pos rfl]
    · by_cases c2 : hi < tx p
      · rw [if_neg c1, if_pos c2, z_ob, if_pos rfl]
      · exact absurd ⟨c, c1, c2⟩ h
  · rw [if_pos (by rw [z_I_le (by omega) (by omega)]; omega)]
theorem z_r_isNext_w {y : xS} {p : Nat} {lo hi : Int32} (a : z_At y p 1) : fX7_isNext 101 lo hi y = some 0 := by
  unfold fX7_isNext fX7_isNext_b0 fX7_isNext_b39
  rw [a.2, if_neg (by decide)]
theorem z_At_up (y : xS) (p w : Nat) : z_At (up1 (up1 y 101 10 (z_I p)) 101 11 (z_I w)) p w := ⟨by rw [z_up1_at, if_neg (by omega), z_up1_at, if_pos ⟨rfl, rfl⟩], by rw [z_up1_at, if_pos ⟨rfl, rfl⟩]⟩
theorem z_TF_2 (y : xS) (v w : Int32) : z_TF y (up1 (up1 y 101 10 v) 101 11 w) := z_TF_t (z_TF_up y (by omega) v) (z_TF_up _ (by omega) w)
theorem z_r_takes_y {y : xS} {p : Nat} {lo hi : Int32} (T : z_QT y len tx) (a : z_At y p 0) (h : z_may tx len p lo hi) : ∃ y', fX7_takes 101 lo hi y = some (tx p - lo, y') ∧ z_TF y y' ∧ z_At y' (p + 1) 0 ∧ (∀ k, k ≠ 10 → k ≠ 11 → y'.1 101 k = y.1 101 k) := by
  have h60 := T.2.1
  have hp := h.1
  unfold fX7_takes fX7_takes_b0 fX7_takes_b26 fX7_takes_b42 fX7_takes_b58 fX7_takes_b63
  rw [z_r_isNext_y T a h, z_ob, if_neg (by decide), a.1, z_gd (show p < ln (101 + 5) from (by show p < 60; omega)) (by decide), z_I_nat (by omega), show y.1 (101 + 5) p = tx p from T.2.2 p hp, if_neg (by decide), z_I_s, z_lt_]
  rw [show (up1 y 101 10 (z_I (p + 1))).1 101 11 = 0 by rw [z_up1_at, if_neg (by omega)]; exact a.2, if_pos rfl, if_neg (by decide), if_pos (by decide), z_lt_]
  exact ⟨_, rfl, z_TF_2 y _ _, z_At_up y (p + 1) 0, fun k h1 h2 => by rw [z_up1_at, if_neg (by omega), z_up1_at, if_neg (by omega)]⟩
theorem z_r_takes_0 {y : xS} {p w : Nat} {lo hi : Int32} (hw : w = 0 ∨ w = 1) (a : z_At y p w) (h : fX7_isNext 101 lo hi y = some 0) : ∃ y', fX7_takes 101 lo hi y = some (0, y') ∧ z_TF y y' ∧ z_At y' p 1 := by
  unfold fX7_takes fX7_takes_b0 fX7_takes_b26 fX7_takes_b42 fX7_takes_b58 fX7_takes_b63
  rw [h, z_ob, if_pos rfl, if_pos rfl, a.1, Int32.add_zero, z_lt_]
  rw [show (up1 y 101 10 (z_I p)).1 101 11 = z_I w by rw [z_up1_at, if_neg (by omega)]; exact a.2]
  rcases hw with rfl | rfl
  · rw [if_pos (by decide), if_pos rfl, if_pos (by decide), z_lt_]
    exact ⟨_, rfl, z_TF_2 y _ _, z_At_up y p 1⟩
  · rw [if_neg (by decide), if_pos (by decide), z_lt_]
    exact ⟨_, rfl, z_TF_2 y _ _, z_At_up y p 1⟩
theorem z_r_takes_n {y : xS} {p : Nat} {lo hi : Int32} (hp : p ≤ len) (T : z_QT y len tx) (a : z_At y p 0) (h : ¬ z_may tx len p lo hi) : ∃ y', fX7_takes 101 lo hi y = some (0, y') ∧ z_TF y y' ∧ z_At y' p 1 := z_r_takes_0 (Or.inl rfl) a (z_r_isNext_n hp T a h)
theorem z_r_takes_w {y : xS} {p : Nat} {lo hi : Int32} (a : z_At y p 1) : ∃ y', fX7_takes 101 lo hi y = some (0, y') ∧ z_TF y y' ∧ z_At y' p 1 := z_r_takes_0 (Or.inr rfl) a (z_r_isNext_w a)
theorem z_At_12 {y : xS} {p w k : Nat} (h : 12 ≤ k) (v : Int32) (a : z_At y p w) : z_At (up1 y 101 k v) p w := ⟨by rw [z_up1_at, if_neg (by omega)]; exact a.1, by rw [z_up1_at, if_neg (by omega)]; exact a.2⟩
end

section
variable {x x' : xS} {s s' : z_row} {m : Nat} {sv : Nat → z_row} {kp : Nat → Bool} {sl : Nat → z_row} {len : Nat} {tx : Nat → Int32}
def z_okA (tx : Nat → Int32) (len p : Nat) : Prop := z_may tx len p 48 57 ∧ z_may tx len (p + 1) 64 64 ∧ z_may tx len (p + 2) 97 108 ∧ z_may tx len (p + 3) 49 57
def z_badA (tx : Nat → Int32) (len p q : Nat) : Prop := (q = p ∧ ¬ z_may tx len p 48 57) ∨ (q = p + 1 ∧ z_may tx len p 48 57 ∧ ¬ z_may tx len (p + 1) 64 64) ∨ (q = p + 2 ∧ z_may tx len p 48 57 ∧ z_may tx len (p + 1) 64 64 ∧ ¬ z_may tx len (p + 2) 97 108) ∨ (q = p + 3 ∧ z_may tx len p 48 57 ∧ z_may tx len (p + 1) 64 64 ∧ z_may tx len (p + 2) 97 108 ∧ ¬ z_may tx len (p + 3) 49 57)
theorem z_r_readOne_H {y : xS} {p : Nat} (T : z_QT y len tx) (a : z_At y p 0) (h : z_may tx len p 104 104) : ∃ y', fX7_readOne 101 y = some y' ∧ z_TF y y' ∧ z_At y' (p + 1) 0 ∧ y'.1 101 12 = -1 := by
  unfold fX7_readOne fX7_readOne_b0
  rw [z_r_isNext_y T a h, z_ob, if_neg (by decide), a.1, z_I_s, z_lt_, z_lt_]
  refine ⟨_, rfl, z_TF_t (z_TF_up y (by omega) _) (z_TF_up _ (by omega) _), z_At_12 (by omega) _ ⟨by rw [z_up1_at, if_pos ⟨rfl, rfl⟩], by rw [z_up1_at, if_neg (by omega)]; exact a.2⟩, by rw [z_up1_at, if_pos ⟨rfl, rfl⟩]⟩
theorem z_r_readOne_A {y : xS} {p : Nat} (hp : p ≤ len) (T : z_QT y len tx) (a : z_At y p 0) (h : ¬ z_may tx len p 104 104) : ∃ y', fX7_readOne 101 y = some y' ∧ z_TF y y' ∧
    ((z_okA tx len p ∧ z_At y' (p + 4) 0 ∧ y'.1 101 12 = tx p - 48 ∧ y'.1 101 13 = tx (p + 2) - 97 ∧ y'.1 101 14 = 1 + (tx (p + 3) - 49)) ∨ (∃ q, z_badA tx len p q ∧ z_At y' q 1)) := by
  unfold fX7_readOne fX7_readOne_b0
  rw [z_r_isNext_n hp T a h, z_ob, if_pos rfl]
  have wr : ∀ z q, z_TF y z → z_At z q 1 → ∀ v, ∃ y', lt1 (up1 z 101 14 v) (fun x71 => some x71) = some y' ∧ z_TF y y' ∧ z_At y' q 1 := fun z q F a v => ⟨_, rfl, z_TF_t F (z_TF_up z (by omega) v), z_At_12 (by omega) v a⟩
  have w3 : ∀ z q, z_TF y z → z_At z q 1 → ∃ y', Option.bind (fX7_takes 101 49 57 z) (fun r67 => lt1 (up1 r67.2 101 14 (1 + r67.1)) (fun x71 => some x71)) = some y' ∧ z_TF y y' ∧ z_At y' q 1 := fun z q F a => by
    obtain ⟨z', e, F', a'⟩ := z_r_takes_w (lo := 49) (hi := 57) a
    rw [e, z_ob]; exact wr z' q (z_TF_t F F') a' _
  have w2 : ∀ z q, z_TF y z → z_At z q 1 → ∃ y', Option.bind (fX7_takes 101 97 108 z) (fun r54 => lt1 (up1 r54.2 101 13 r54.1) (fun x57 => Option.bind (fX7_takes 101 49 57 x57) (fun r67 => lt1 (up1 r67.2 101 14 (1 + r67.1)) (fun x71 => some x71)))) = some y' ∧ z_TF y y' ∧ z_At y' q 1 := fun z q F a => by
    obtain ⟨z', e, F', a'⟩ := z_r_takes_w (lo := 97) (hi := 108) a
    rw [e, z_ob, z_lt_]; exact w3 _ q (z_TF_t F (z_TF_t F' (z_TF_up _ (by omega) _))) (z_At_12 (by omega) _ a')
  have w1 : ∀ z q, z_TF y z → z_At z q 1 → ∃ y', Option.bind (fX7_takes 101 64 64 z) (fun r44 => Option.bind (fX7_takes 101 97 108 r44.2) (fun r54 => lt1 (up1 r54.2 101 13 r54.1) (fun x57 => Option.bind (fX7_takes 101 49 57 x57) (fun r67 => lt1 (up1 r67.2 101 14 (1 + r67.1)) (fun x71 => some x71))))) = some y' ∧ z_TF y y' ∧ z_At y' q 1 := fun z q F a => by
    obtain ⟨z', e, F', a'⟩ := z_r_takes_w (lo := 64) (hi := 64) a
    rw [e, z_ob]; exact w2 z' q (z_TF_t F F') a'
  by_cases m0 : z_may tx len p 48 57
  · obtain ⟨y1, e1, F1, a1, k1⟩ := z_r_takes_y T a m0
    rw [e1, z_ob, z_lt_]
    have F1' : z_TF y (up1 y1 101 12 (tx p - 48)) := z_TF_t F1 (z_TF_up _ (by omega) _)
    have a1' := z_At_12 (k := 12) (by omega) (tx p - 48) a1
    have g1 : (up1 y1 101 12 (tx p - 48)).1 101 12 = tx p - 48 := by rw [z_up1_at, if_pos ⟨rfl, rfl⟩]
    generalize up1 y1 101 12 (tx p - 48) = z1 at *
    by_cases m1 : z_may tx len (p + 1) 64 64
    · obtain ⟨y2, e2, F2, a2, k2⟩ := z_r_takes_y (z_QT_TF F1' T) a1' m1
      rw [e2, z_ob]
      have F2' := z_TF_t F1' F2
      by_cases m2 : z_may tx len (p + 1 + 1) 97 108
      · obtain ⟨y3, e3, F3, a3, k3⟩ := z_r_takes_y (z_QT_TF F2' T) a2 m2
        rw [e3, z_ob, z_lt_]
        have F3' : z_TF y (up1 y3 101 13 (tx (p + 1 + 1) - 97)) := z_TF_t F2' (z_TF_t F3 (z_TF_up _ (by omega) _))
        have a3' := z_At_12 (k := 13) (by omega) (tx (p + 1 + 1) - 97) a3
        have g3 : (up1 y3 101 13 (tx (p + 1 + 1) - 97)).1 101 13 = tx (p + 1 + 1) - 97 := by rw [z_up1_at, if_pos ⟨rfl, rfl⟩]
        have g3' : (up1 y3 101 13 (tx (p + 1 + 1) - 97)).1 101 12 = tx p - 48 := by rw [z_up1_at, if_neg (by omega), k3 12 (by omega) (by omega), k2 12 (by omega) (by omega)]; exact g1
        generalize up1 y3 101 13 (tx (p + 1 + 1) - 97) = z3 at *
        by_cases m3 : z_may tx len (p + 1 + 1 + 1) 49 57
        · obtain ⟨y4, e4, F4, a4, k4⟩ := z_r_takes_y (z_QT_TF F3' T) a3' m3
          rw [e4, z_ob, z_lt_]
          refine ⟨_, rfl, z_TF_t F3' (z_TF_t F4 (z_TF_up _ (by omega) _)), Or.inl ⟨⟨m0, m1, m2, m3⟩, z_At_12 (by omega) _ a4, ?_, ?_, ?_⟩⟩
          · rw [z_up1_at, if_neg (by omega), k4 12 (by omega) (by omega)]; exact g3'
          · rw [z_up1_at, if_neg (by omega), k4 13 (by omega) (by omega)]; exact g3
          · rw [z_up1_at, if_pos ⟨rfl, rfl⟩]
        · obtain ⟨y4, e4, F4, a4⟩ := z_r_takes_n (lo := 49) (hi := 57) (by have := m2.1; omega) (z_QT_TF F3' T) a3' m3
          rw [e4, z_ob]
          obtain ⟨z, ez, Fz, az⟩ := wr y4 _ (z_TF_t F3' F4) a4 (1 + 0)
          exact ⟨z, ez, Fz, Or.inr ⟨_, Or.inr (Or.inr (Or.inr ⟨rfl, m0, m1, m2, m3⟩)), az⟩⟩
      · obtain ⟨y3, e3, F3, a3⟩ := z_r_takes_n (lo := 97) (hi := 108) (by have := m1.1; omega) (z_QT_TF F2' T) a2 m2
        rw [e3, z_ob, z_lt_]
        obtain ⟨z, ez, Fz, az⟩ := w3 (up1 y3 101 13 0) _ (z_TF_t F2' (z_TF_t F3 (z_TF_up _ (by omega) _))) (z_At_12 (by omega) _ a3)
        exact ⟨z, ez, Fz, Or.inr ⟨_, Or.inr (Or.inr (Or.inl ⟨rfl, m0, m1, m2⟩)), az⟩⟩
    · obtain ⟨y2, e2, F2, a2⟩ := z_r_takes_n (lo := 64) (hi := 64) (by have := m0.1; omega) (z_QT_TF F1' T) a1' m1
      rw [e2, z_ob]
      obtain ⟨z, ez, Fz, az⟩ := w2 y2 _ (z_TF_t F1' F2) a2
      exact ⟨z, ez, Fz, Or.inr ⟨_, Or.inr (Or.inl ⟨rfl, m0, m1⟩), az⟩⟩
  · obtain ⟨y1, e1, F1, a1⟩ := z_r_takes_n (lo := 48) (hi := 57) hp T a m0
    rw [e1, z_ob, z_lt_]
    obtain ⟨z, ez, Fz, az⟩ := w1 (up1 y1 101 12 0) _ (z_TF_t F1 (z_TF_up _ (by omega) _)) (z_At_12 (by omega) _ a1)
    exact ⟨z, ez, Fz, Or.inr ⟨_, Or.inl ⟨rfl, m0⟩, az⟩⟩
theorem z_anti {a b : Int32} (h1 : ¬ a < b) (h2 : ¬ b < a) : a = b := Int32.le_antisymm (Int32.not_lt.mp h2) (Int32.not_lt.mp h1)
theorem z_ep_S {st st' p d : Nat} (h : z_ns st (tx p) = st') (h5 : st' ≠ 5) : z_ep tx st p (d + 1) = z_ep tx st' (p + 1) d := by
  simp only [z_ep]; rw [h, if_neg h5]
theorem z_ep_F {st p d : Nat} (h : z_ns st (tx p) = 5) : z_ep tx st p (d + 1) = (p, 5) := by simp only [z_ep]; rw [if_pos h]
theorem z_nsH {p : Nat} (h : z_may tx len p 104 104) : z_ns 0 (tx p) = 4 := by
  unfold z_ns; rw [if_pos rfl, if_pos (z_anti h.2.1 h.2.2)]
theorem z_nsD {p : Nat} (h0 : ¬ z_may tx len p 104 104) (h : z_may tx len p 48 57) : z_ns 0 (tx p) = 1 := by
  unfold z_ns; rw [if_pos rfl, if_neg (fun e => h0 ⟨h.1, by rw [e]; exact Int32.lt_irrefl, by rw [e]; exact Int32.lt_irrefl⟩), if_neg h.2.1, if_neg h.2.2]
theorem z_nsD_n {p : Nat} (hp : p < len) (h0 : ¬ z_may tx len p 104 104) (h : ¬ z_may tx len p 48 57) : z_ns 0 (tx p) = 5 := by
  unfold z_ns; rw [if_pos rfl, if_neg (fun e => h0 ⟨hp, by rw [e]; exact Int32.lt_irrefl, by rw [e]; exact Int32.lt_irrefl⟩)]
  by_cases c1 : tx p < 48
  · rw [if_pos c1]
  · rw [if_neg c1]
    by_cases c2 : (57 : Int32) < tx p
    · rw [if_pos c2]
    · exact absurd ⟨hp, c1, c2⟩ h
theorem z_ns1 {p : Nat} (h : z_may tx len p 64 64) : z_ns 1 (tx p) = 2 := by
  unfold z_ns; rw [if_neg (by omega), if_pos rfl, if_pos (z_anti h.2.1 h.2.2)]
theorem z_ns1_n {p : Nat} (hp : p < len) (h : ¬ z_may tx len p 64 64) : z_ns 1 (tx p) = 5 := by
  unfold z_ns; rw [if_neg (by omega), if_pos rfl, if_neg (fun e => h ⟨hp, by rw [e]; exact Int32.lt_irrefl, by rw [e]; exact Int32.lt_irrefl⟩)]
theorem z_ns2 {p : Nat} (h : z_may tx len p 97 108) : z_ns 2 (tx p) = 3 := by
  unfold z_ns; rw [if_neg (by omega), if_neg (by omega), if_pos rfl, if_neg h.2.1, if_neg h.2.2]
theorem z_ns2_n {p : Nat} (hp : p < len) (h : ¬ z_may tx len p 97 108) : z_ns 2 (tx p) = 5 := by
  unfold z_ns; rw [if_neg (by omega), if_neg (by omega), if_pos rfl]
  by_cases c1 : tx p < 97
  · rw [if_pos c1]
  · rw [if_neg c1]
    by_cases c2 : (108 : Int32) < tx p
    · rw [if_pos c2]
    · exact absurd ⟨hp, c1, c2⟩ h
theorem z_ns3 {p : Nat} (h : z_may tx len p 49 57) : z_ns 3 (tx p) = 4 := by
  unfold z_ns; rw [if_neg (by omega), if_neg (by omega), if_neg (by omega), if_pos rfl, if_neg h.2.1, if_neg h.2.2]
theorem z_ns3_n {p : Nat} (hp : p < len) (h : ¬ z_may tx len p 49 57) : z_ns 3 (tx p) = 5 := by
  unfold z_ns; rw [if_neg (by omega), if_neg (by omega), if_neg (by omega), if_pos rfl]
  by_cases c1 : tx p < 49
  · rw [if_pos c1]
  · rw [if_neg c1]
    by_cases c2 : (57 : Int32) < tx p
    · rw [if_pos c2]
    · exact absurd ⟨hp, c1, c2⟩ h
theorem z_ns4 {p : Nat} (h : z_may tx len p 59 59) : z_ns 4 (tx p) = 0 := by
  unfold z_ns; rw [if_neg (by omega), if_neg (by omega), if_neg (by omega), if_neg (by omega), if_pos rfl, if_pos (z_anti h.2.1 h.2.2)]
theorem z_ns4_n {p : Nat} (hp : p < len) (h : ¬ z_may tx len p 59 59) : z_ns 4 (tx p) = 5 := by
  unfold z_ns; rw [if_neg (by omega), if_neg (by omega), if_neg (by omega), if_neg (by omega), if_pos rfl, if_neg (fun e => h ⟨hp, by rw [e]; exact Int32.lt_irrefl, by rw [e]; exact Int32.lt_irrefl⟩)]
theorem z_ep_okA {p d : Nat} (hd : p + d = len) (h0 : ¬ z_may tx len p 104 104) (h : z_okA tx len p) : ∃ e, d = e + 4 ∧ z_ep tx 0 p d = z_ep tx 4 (p + 4) e := by
  obtain ⟨a, b, c, e⟩ := h
  have := e.1
  refine ⟨d - 4, by omega, ?_⟩
  obtain ⟨k, rfl⟩ : ∃ k, d = k + 1 + 1 + 1 + 1 := ⟨d - 4, by omega⟩
  rw [z_ep_S (z_nsD h0 a) (by omega), z_ep_S (z_ns1 b) (by omega), z_ep_S (z_ns2 c) (by omega), z_ep_S (z_ns3 e) (by omega)]
  rw [show k + 1 + 1 + 1 + 1 - 4 = k by omega]
theorem z_ep_badA {p d q : Nat} (hd : p + d = len) (h0 : ¬ z_may tx len p 104 104) (h : z_badA tx len p q) : (z_ep tx 0 p d).1 = q ∧ (z_ep tx 0 p d).2 ≠ 4 := by
  rcases h with ⟨rfl, a⟩ | ⟨rfl, a, b⟩ | ⟨rfl, a, b, c⟩ | ⟨rfl, a, b, c, e⟩
  · cases d with
    | zero => exact ⟨rfl, by show (0 : Nat) ≠ 4; omega⟩
    | succ d => rw [z_ep_F (z_nsD_n (by omega) h0 a)]; exact ⟨rfl, by show (5 : Nat) ≠ 4; omega⟩
  · obtain ⟨d, rfl⟩ : ∃ k, d = k + 1 := ⟨d - 1, by have := a.1; omega⟩
    rw [z_ep_S (z_nsD h0 a) (by omega)]
    cases d with
    | zero => exact ⟨rfl, by show (1 : Nat) ≠ 4; omega⟩
    | succ d => rw [z_ep_F (z_ns1_n (by omega) b)]; exact ⟨rfl, by show (5 : Nat) ≠ 4; omega⟩
  · obtain ⟨d, rfl⟩ : ∃ k, d = k + 1 + 1 := ⟨d - 2, by have := b.1; omega⟩
    rw [z_ep_S (z_nsD h0 a) (by omega), z_ep_S (z_ns1 b) (by omega)]
    cases d with
    | zero => exact ⟨rfl, by show (2 : Nat) ≠ 4; omega⟩
    | succ d => rw [z_ep_F (z_ns2_n (by omega) c)]; exact ⟨rfl, by show (5 : Nat) ≠ 4; omega⟩
  · obtain ⟨d, rfl⟩ : ∃ k, d = k + 1 + 1 + 1 := ⟨d - 3, by have := c.1; omega⟩
    rw [z_ep_S (z_nsD h0 a) (by omega), z_ep_S (z_ns1 b) (by omega), z_ep_S (z_ns2 c) (by omega)]
    cases d with
    | zero => exact ⟨rfl, by show (3 : Nat) ≠ 4; omega⟩
    | succ d => rw [z_ep_F (z_ns3_n (by omega) e)]; exact ⟨rfl, by show (5 : Nat) ≠ 4; omega⟩
end

section
variable {x x' : xS} {s s' : z_row} {m : Nat} {sv : Nat → z_row} {kp : Nat → Bool} {sl : Nat → z_row} {len : Nat} {tx : Nat → Int32}
theorem z_gt_stop (w : Int32) (n : Nat) (v2 : Int32) (y : xS) : fX7_goesThrough_b14 101 w (n + 1) v2 0 y = some (v2, y) := by
  rw [fX7_goesThrough_b14, if_pos rfl]
theorem z_r_sep {y : xS} {q : Nat} (w v2 : Int32) (n : Nat) (hq : q ≤ len) (T : z_QT y len tx) (a : z_At y q 0) :
    (q = len ∧ fX7_goesThrough_b63 (fX7_goesThrough_b14 101 w (n + 1)) 101 w 1 v2 0 y = some (v2, y)) ∨
    (q < len ∧ z_may tx len q 59 59 ∧ ∃ y', fX7_goesThrough_b63 (fX7_goesThrough_b14 101 w (n + 1)) 101 w 1 v2 0 y = fX7_goesThrough_b14 101 w (n + 1) v2 1 y' ∧ z_TF y y' ∧ z_At y' (q + 1) 0) ∨
    (q < len ∧ ¬ z_may tx len q 59 59 ∧ ∃ y', fX7_goesThrough_b63 (fX7_goesThrough_b14 101 w (n + 1)) 101 w 1 v2 0 y = some (v2, y') ∧ z_TF y y' ∧ z_At y' q 1) := by
  have h60 := T.2.1
  unfold fX7_goesThrough_b63 fX7_goesThrough_b84 fX7_goesThrough_b85 fX7_goesThrough_b112
  rw [Int32.add_zero, z_lt_, if_neg (by decide), T.1, a.1]
  by_cases c : q < len
  · right
    rw [if_neg (by rw [z_I_le (by omega) (by omega)]; omega), if_neg (by decide)]
    by_cases h : z_may tx len q 59 59
    · left
      obtain ⟨y1, e1, F1, a1, _⟩ := z_r_takes_y T a h
      rw [e1, z_ob]
      dsimp only
      rw [a1.2, if_pos (show z_I 0 = 0 from rfl)]
      exact ⟨c, h, y1, rfl, F1, a1⟩
    · right
      obtain ⟨y1, e1, F1, a1⟩ := z_r_takes_n (lo := 59) (hi := 59) hq T a h
      rw [e1, z_ob]
      dsimp only
      rw [a1.2, if_neg (show ¬ z_I 1 = 0 by decide), z_gt_stop]
      exact ⟨c, h, y1, rfl, F1, a1⟩
  · left
    have : q = len := by omega
    rw [if_pos (by rw [z_I_le (by omega) (by omega)]; omega), if_pos rfl, z_gt_stop]
    exact ⟨this, rfl⟩
theorem z_ep4_end {q : Nat} (h : q = len) {e : Nat} (he : q + e = len) : z_ep tx 4 q e = (q, 4) := by
  have : e = 0 := by omega
  subst this; rfl
theorem z_r_gtF : ∀ d p y n v2, p + d = len → z_At y p 0 → z_QT y len tx → d + 2 < n → ∃ y', fX7_goesThrough_b14 101 0 n v2 1 y = some (v2, y') ∧ z_TF y y' ∧ ((z_ep tx 0 p d).2 = 4 → y'.1 101 11 = 0) ∧ ((z_ep tx 0 p d).2 ≠ 4 → y'.1 101 11 = z_I 1 ∧ y'.1 101 10 = z_I (z_ep tx 0 p d).1) := by
  intro d
  induction d using Nat.strongRecOn with
  | _ d ih =>
    intro p y n v2 hd a T z_hn
    obtain ⟨n, rfl⟩ : ∃ k, n = k + 1 + 1 := ⟨n - 2, by omega⟩
    rw [fX7_goesThrough_b14, if_neg (by decide)]
    have rest : ∀ y1 q e, z_TF y y1 → z_At y1 q 0 → p < q → q + e = len → z_ep tx 0 p d = z_ep tx 4 q e → ∃ y', fX7_goesThrough_b40 (fX7_goesThrough_b14 101 0 (n + 1)) 101 0 v2 y1 = some (v2, y') ∧ z_TF y y' ∧ ((z_ep tx 0 p d).2 = 4 → y'.1 101 11 = 0) ∧ ((z_ep tx 0 p d).2 ≠ 4 → y'.1 101 11 = z_I 1 ∧ y'.1 101 10 = z_I (z_ep tx 0 p d).1) := by
      intro y1 q e F1 a1 hpq hqe hep
      unfold fX7_goesThrough_b40 fX7_goesThrough_b45 fX7_goesThrough_b62
      rw [if_neg (by decide), if_pos rfl, hep]
      rcases z_r_sep 0 v2 n (by omega) (z_QT_TF F1 T) a1 with ⟨hq, e1⟩ | ⟨hq, z_hm, y2, e1, F2, a2⟩ | ⟨hq, z_hm, y2, e1, F2, a2⟩
      · rw [e1, z_ep4_end hq hqe]
        exact ⟨y1, rfl, F1, fun _ => a1.2, fun h => absurd rfl h⟩
      · obtain ⟨e, rfl⟩ : ∃ k, e = k + 1 := ⟨e - 1, by omega⟩
        rw [e1, z_ep_S (z_ns4 z_hm) (by omega)]
        obtain ⟨y3, e3, F3, h1, h2⟩ := ih e (by omega) (q + 1) y2 (n + 1) v2 (by omega) a2 (z_QT_TF (z_TF_t F1 F2) T) (by omega)
        exact ⟨y3, e3, z_TF_t (z_TF_t F1 F2) F3, h1, h2⟩
      · obtain ⟨e, rfl⟩ : ∃ k, e = k + 1 := ⟨e - 1, by omega⟩
        rw [e1, z_ep_F (z_ns4_n hq z_hm)]
        exact ⟨y2, rfl, z_TF_t F1 F2, fun h => absurd h (by show ¬ (5 : Nat) = 4; omega), fun _ => ⟨a2.2, a2.1⟩⟩
    by_cases h0 : z_may tx len p 104 104
    · obtain ⟨y1, e1, F1, a1, k1⟩ := z_r_readOne_H T a h0
      rw [e1, z_ob, a1.2, if_pos (show z_I 0 = 0 from rfl), if_pos rfl]
      have hp := h0.1
      obtain ⟨d, rfl⟩ : ∃ k, d = k + 1 := ⟨d - 1, by omega⟩
      exact rest y1 (p + 1) d F1 a1 (by omega) (by omega) (z_ep_S (z_nsH h0) (by omega))
    · obtain ⟨y1, e1, F1, hh⟩ := z_r_readOne_A (by omega) T a h0
      rw [e1, z_ob]
      rcases hh with ⟨hA, a1, _⟩ | ⟨q, hq, a1⟩
      · rw [a1.2, if_pos (show z_I 0 = 0 from rfl), if_pos rfl]
        obtain ⟨e, he, hep⟩ := z_ep_okA hd h0 hA
        exact rest y1 (p + 4) e F1 a1 (by omega) (by omega) hep
      · rw [a1.2, if_neg (show ¬ z_I 1 = 0 by decide)]
        unfold fX7_goesThrough_b44 fX7_goesThrough_b45 fX7_goesThrough_b62 fX7_goesThrough_b63 fX7_goesThrough_b84 fX7_goesThrough_b85
        rw [if_pos rfl, Int32.add_zero, z_lt_, if_pos rfl, if_pos rfl, z_gt_stop]
        obtain ⟨h1, h2⟩ := z_ep_badA hd h0 hq
        exact ⟨y1, rfl, F1, fun h => absurd h h2, fun _ => ⟨a1.2, by rw [h1]; exact a1.1⟩⟩
theorem z_r_goesF {y : xS} (T : z_QT y len tx) : ∃ y', fX7_goesThrough 101 0 y = some (0, y') ∧ z_TF y y' ∧ ((z_ep tx 0 0 len).2 = 4 → y'.1 101 11 = 0) ∧ ((z_ep tx 0 0 len).2 ≠ 4 → y'.1 101 11 = z_I 1 ∧ y'.1 101 10 = z_I (z_ep tx 0 0 len).1) := by
  have h60 := T.2.1
  unfold fX7_goesThrough fX7_goesThrough_b0
  rw [z_lt_, z_lt_]
  have F := z_TF_2 y (z_I 0) (z_I 0)
  obtain ⟨y', e, F', h1, h2⟩ := z_r_gtF (tx := tx) len 0 (up1 (up1 y 101 10 (z_I 0)) 101 11 (z_I 0)) FU 0 (by omega) (z_At_up y 0 0) (z_QT_TF F T) (by show len + 2 < 2000; omega)
  exact ⟨y', e, z_TF_t F F', h1, h2⟩
theorem z_ep_place : ∀ d st p, (z_ep tx st p d).2 = 4 → (z_ep tx st p d).1 = p + d := by
  intro d
  induction d with
  | zero => intro st p _; rfl
  | succ d ih =>
    intro st p h
    simp only [z_ep] at h ⊢
    by_cases c : z_ns st (tx p) = 5
    · rw [if_pos c] at h; exact absurd h (by show ¬ (5 : Nat) = 4; omega)
    · rw [if_neg c] at h ⊢; rw [ih _ _ h]; omega
theorem z_C_firstError (R : z_RelC x s m sv kp sl len tx) : fX6_firstError 0 x = some (z_I (z_ep tx 0 0 len).1) := by
  unfold fX6_firstError fX6_firstError_b0
  rw [show fX0_errorPlace (0 + 99) x = _ from z_c_errorPlace R.2.2.2, z_ob]
theorem z_M_firstError (R : z_RelR x s m sv kp sl len tx) : z_MM (fX7_firstError 101 x) x (z_I (z_ep tx 0 0 len).1) s m sv kp sl len tx := by
  obtain ⟨R0, F0, z0⟩ := z_RelR_0 R 0
  unfold fX7_firstError fX7_firstError_b0
  rw [z_lt_]
  obtain ⟨y, ey, Fy, h1, h2⟩ := z_r_goesF R0.2.2.2
  rw [ey, z_ob]
  dsimp only
  by_cases c : (z_ep tx 0 0 len).2 = 4
  · rw [h1 c, if_pos rfl, (z_QT_TF Fy R0.2.2.2).1]
    exact ⟨y, by rw [z_ep_place len 0 0 c, Nat.zero_add], z_RelR_TF Fy R0, z_FM_t F0 (z_FM_TF Fy), by rw [Fy.2.2 0 (by omega)]; exact z0⟩
  · rw [(h2 c).1, if_neg (show ¬ z_I 1 = 0 by decide), (h2 c).2]
    exact ⟨y, rfl, z_RelR_TF Fy R0, z_FM_t F0 (z_FM_TF Fy), by rw [Fy.2.2 0 (by omega)]; exact z0⟩
theorem z_C_run_bad (R : z_RelC x s m sv kp sl len tx) (h : ¬ (z_ep tx 0 0 len).2 = 4) : fX6_run 0 x = some (Sum.inl 2) := by
  unfold fX6_run fX6_run_b0
  rw [show fX0_tellsAskings (0 + 99) x = _ from z_c_tellsAskings R.2.2.2, z_ob, if_neg h, if_pos rfl]
theorem z_M_run_bad (R : z_RelR x s m sv kp sl len tx) (h : ¬ (z_ep tx 0 0 len).2 = 4) : z_MX (fX7_run 101 x) x 1 s m sv kp sl len tx := by
  unfold fX7_run fX7_run_b0 fX7_run_b19
  obtain ⟨y, ey, Fy, h1, h2⟩ := z_r_goesF R.2.2.2
  rw [ey, z_ob]
  dsimp only
  rw [(h2 h).1, if_neg (show ¬ z_I 1 = 0 by decide), z_r_hn (by decide), z_ob, z_qh0]
  obtain ⟨R0, F0, z0⟩ := z_RelR_0 (z_RelR_TF Fy R) 1
  exact ⟨_, _, rfl, R0, z_FM_t (z_FM_TF Fy) F0, z0⟩
end

section
variable {x x' : xS} {s s' : z_row} {m : Nat} {sv : Nat → z_row} {kp : Nat → Bool} {sl : Nat → z_row} {len : Nat} {tx : Nat → Int32}
theorem z_b63_eq (K : Int32 → Int32 → xS → Option (Int32 × xS)) (w a b : Int32) (y : xS) : fX7_goesThrough_b63 K 101 w 1 a b y = fX7_goesThrough_b63 K 101 w 1 (a + b) 0 y := by
  unfold fX7_goesThrough_b63; rw [Int32.add_zero]
theorem z_may_I {p a b : Nat} {lo hi : Int32} (hl : lo = z_I a) (hh : hi = z_I b) (hb : b < 1000) (hab : a ≤ b) (h : z_may tx len p lo hi) : ∃ c, a ≤ c ∧ c ≤ b ∧ tx p = z_I c := by
  by_cases q : z_inR (tx p) a b
  · exact q
  · rcases z_inR_of hb hab q with e | ⟨_, e⟩
    · exact absurd e (by rw [← hl]; exact h.2.1)
    · exact absurd e (by rw [← hh]; exact h.2.2)
def z_RJ (m : Nat) (sv : Nat → z_row) (kp : Nat → Bool) (sl : Nat → z_row) (len : Nat) (tx : Nat → Int32) (s : z_row) (done : Int32) (p d : Nat) : Prop := ∃ r s', z_OKs s' ∧
  (∀ x n, z_RelC x s m sv kp sl len tx → d + 1 < n → ∃ x', fX6_doText_b4 0 n done (z_I p) x = some (r, x') ∧ z_RelC x' s' m sv kp sl len tx ∧ z_FrC x x') ∧
  (∀ y n, z_RelR y s m sv kp sl len tx → z_At y p 0 → d + 2 < n → ∃ y', fX7_goesThrough_b14 101 1 n done 1 y = some (r, y') ∧ z_RelR y' s' m sv kp sl len tx ∧ z_FM y y' ∧ y'.1 101 0 = y.1 101 0)
theorem z_RJ_next {s1 : z_row} {done : Int32} {p d q e : Nat} (h60 : len ≤ 60) (O1 : z_OKs s1) (hpq : p < q) (hpd : p + d = len) (hqe : q + e = len) (hep : (z_ep tx 4 q e).2 = 4)
    (ih : ∀ d', d' < d → ∀ p' s done, z_OKs s → p' + d' = len → (z_ep tx 0 p' d').2 = 4 → z_RJ m sv kp sl len tx s done p' d') :
    ∃ r s', z_OKs s' ∧ (∀ x n, z_RelC x s1 m sv kp sl len tx → d < n → ∃ x', fX6_doText_b4 0 n done (z_I (q + 1)) x = some (r, x') ∧ z_RelC x' s' m sv kp sl len tx ∧ z_FrC x x') ∧
      (∀ y n, z_RelR y s1 m sv kp sl len tx → z_At y q 0 → d + 1 < n + 1 → ∃ y', fX7_goesThrough_b63 (fX7_goesThrough_b14 101 1 (n + 1)) 101 1 1 done 0 y = some (r, y') ∧ z_RelR y' s' m sv kp sl len tx ∧ z_FM y y' ∧ y'.1 101 0 = y.1 101 0) := by
  by_cases c : q = len
  · refine ⟨done, s1, O1, fun x n R z_hn => ?_, fun y n R a z_hn => ?_⟩
    · obtain ⟨n, rfl⟩ : ∃ k, n = k + 1 := ⟨n - 1, by omega⟩
      rw [fX6_doText_b4, show fX0_size (0 + 99) x = some (x.1 99 1) from rfl, R.2.2.2.2.1, z_ob, if_pos (by rw [z_I_le (by omega) (by omega)]; omega)]
      exact ⟨x, rfl, R, z_FrC_refl x⟩
    · rcases z_r_sep 1 done n (by omega) R.2.2.2 a with ⟨_, e1⟩ | ⟨hq, _⟩ | ⟨hq, _⟩
      · exact ⟨y, e1, R, z_FM_refl y, rfl⟩
      · omega
      · omega
  · obtain ⟨e, rfl⟩ : ∃ k, e = k + 1 := ⟨e - 1, by omega⟩
    by_cases z_hm : z_may tx len q 59 59
    · rw [z_ep_S (z_ns4 z_hm) (by omega)] at hep
      obtain ⟨r, s', O', hC, hR⟩ := ih e (by omega) (q + 1) s1 done O1 (by omega) hep
      refine ⟨r, s', O', fun x n R z_hn => hC x n R (by omega), fun y n R a z_hn => ?_⟩
      rcases z_r_sep 1 done n (by omega) R.2.2.2 a with ⟨hq, _⟩ | ⟨hq, hm2, y2, e1, F2, a2⟩ | ⟨hq, hm2, _⟩
      · exact absurd hq c
      · rw [e1]
        obtain ⟨z, ez, Rz, Fz, z0⟩ := hR y2 (n + 1) (z_RelR_TF F2 R) a2 (by omega)
        exact ⟨z, ez, Rz, z_FM_t (z_FM_TF F2) Fz, by rw [z0]; exact F2.2.2 0 (by omega)⟩
      · exact absurd z_hm hm2
    · rw [z_ep_F (z_ns4_n (by omega) z_hm)] at hep
      exact absurd hep (by show ¬ (5 : Nat) = 4; omega)
theorem z_b44_stop (n : Nat) (v2 : Int32) (y : xS) : fX7_goesThrough_b44 (fX7_goesThrough_b14 101 1 (n + 1)) 101 1 v2 y = some (v2, y) := by
  unfold fX7_goesThrough_b44 fX7_goesThrough_b45 fX7_goesThrough_b62 fX7_goesThrough_b63 fX7_goesThrough_b84 fX7_goesThrough_b85
  rw [if_pos rfl, Int32.add_zero, z_lt_, if_pos rfl, if_pos rfl, z_gt_stop]
theorem z_RJ_all (h60 : len ≤ 60) : ∀ d, ∀ p s done, z_OKs s → p + d = len → (z_ep tx 0 p d).2 = 4 → z_RJ m sv kp sl len tx s done p d := by
  intro d
  induction d using Nat.strongRecOn with
  | _ d ih =>
    intro p s done O hd hep
    obtain ⟨g1, g2⟩ := z_gn_ok O
    obtain ⟨d, rfl⟩ : ∃ k, d = k + 1 := by
      cases d with
      | zero => exact absurd hep (by show ¬ (0 : Nat) = 4; omega)
      | succ d => exact ⟨d, rfl⟩
    have size : ∀ x, z_RelC x s m sv kp sl len tx → fX0_size (0 + 99) x = some (z_I len) := fun x R => (show fX0_size (0 + 99) x = some (x.1 99 1) from rfl).trans (by rw [R.2.2.2.2.1])
    have nle : ¬ z_I len ≤ z_I p := by rw [z_I_le (by omega) (by omega)]; omega
    have sgn : ∀ x, z_RelC x s m sv kp sl len tx → fX0_sign (0 + 99) (z_I p) x = some (tx p) := fun x R => by
      have := z_c_sign (p := p) R.2.2.2 (by omega); rw [if_pos (by omega)] at this; exact this
    by_cases h0 : z_may tx len p 104 104
    · -- an hour
      have e104 : tx p = 104 := z_anti h0.2.1 h0.2.2
      have tells : ∀ x, z_RelC x s m sv kp sl len tx → fX0_tellsHour (0 + 99) (z_I p) x = some 1 := fun x R => by
        unfold fX0_tellsHour fX0_tellsHour_b0
        rw [sgn x R, z_ob, if_pos e104]
      rw [z_ep_S (z_nsH h0) (by omega)] at hep
      by_cases h9 : s 109 < 999
      · obtain ⟨r, s', O', hC, hR⟩ := z_RJ_next (m := m) (sv := sv) (kp := kp) (sl := sl) (done := done + 1) (s1 := z_PS s (z_gn s)) (p := p) (d := d + 1) (q := p + 1) (e := d) h60 (z_OK_PS O g2 g1 h9) (by omega) hd (by omega) hep ih
        refine ⟨r, s', O', fun x n R z_hn => ?_, fun y n R a z_hn => ?_⟩
        · obtain ⟨n, rfl⟩ : ∃ k, n = k + 1 := ⟨n - 1, by omega⟩
          rw [fX6_doText_b4, size x R, z_ob, if_neg nle]
          unfold fX6_canDo fX6_canDo_b0
          rw [tells x R, z_ob, if_neg (by decide), show fX3_canLetHourGo (0 + 1) x = _ from z_c_canLet (z_House_1 R.1), z_ob, if_pos h9, if_pos (by decide), z_ob, if_neg (by decide), z_ob, if_neg (by decide)]
          obtain ⟨z, ez, Az, jz⟩ := z_c_letHourGo (z_House_1 R.1) g2 g1
          rw [show fX3_letHourGo (0 + 1) x = _ from ez, z_ob, z_L2, z_I_add]
          have Rz := z_RelC_J R Az jz (z_S_PS O g1).1 (z_S_PS O g1).2
          obtain ⟨w, ew, Rw, Fw⟩ := hC z n Rz (by omega)
          exact ⟨w, ew, Rw, z_FrC_trans (z_J_FrC jz) Fw⟩
        · obtain ⟨n, rfl⟩ : ∃ k, n = k + 1 + 1 := ⟨n - 2, by omega⟩
          rw [fX7_goesThrough_b14, if_neg (by decide)]
          obtain ⟨y1, e1, F1, a1, k1⟩ := z_r_readOne_H R.2.2.2 a h0
          have R1 := z_RelR_TF F1 R
          rw [e1, z_ob, a1.2, if_pos (show z_I 0 = 0 from rfl), if_neg (by decide)]
          unfold fX7_isPossible fX7_isPossible_b0
          rw [k1, if_pos rfl, z_L109, z_gm (by omega), z_Rr_I R1.1 (by omega), if_neg (Int32.not_le.mpr h9), z_ob, if_neg (by decide)]
          unfold fX7_goesThrough_b40 fX7_goesThrough_b45 fX7_does fX7_does_b0 fX7_does_b34
          rw [if_neg (by decide), if_neg (by decide), k1, if_pos rfl]
          obtain ⟨z, ez, Az, Fz⟩ := z_r_passes R1.1 O g2 g1
          have hLB := z_LB_le s (z_gn s)
          rw [ez, z_ob, if_neg (show ¬ (10 + z_I (z_LB s (z_gn s)) < 10) by rw [z_L10, z_I_add, z_I_lt (by omega) (by omega)]; omega), z_ob, z_b63_eq]
          obtain ⟨w, ew, Rw, Fw, w0⟩ := hR z n (z_RelR_R R1 Fz Az) ⟨by rw [Fz.2 101 (by omega)]; exact a1.1, by rw [Fz.2 101 (by omega)]; exact a1.2⟩ (by omega)
          exact ⟨w, ew, Rw, z_FM_t (z_FM_TF F1) (z_FM_t (z_FM_R Fz) Fw), by rw [w0, Fz.2 101 (by omega)]; exact F1.2.2 0 (by omega)⟩
      · refine ⟨done, s, O, fun x n R z_hn => ?_, fun y n R a z_hn => ?_⟩
        · obtain ⟨n, rfl⟩ : ∃ k, n = k + 1 := ⟨n - 1, by omega⟩
          rw [fX6_doText_b4, size x R, z_ob, if_neg nle]
          unfold fX6_canDo fX6_canDo_b0
          rw [tells x R, z_ob, if_neg (by decide), show fX3_canLetHourGo (0 + 1) x = _ from z_c_canLet (z_House_1 R.1), z_ob, if_neg h9, if_pos (by decide), z_ob, if_pos rfl]
          exact ⟨x, rfl, R, z_FrC_refl x⟩
        · obtain ⟨n, rfl⟩ : ∃ k, n = k + 1 + 1 := ⟨n - 2, by omega⟩
          rw [fX7_goesThrough_b14, if_neg (by decide)]
          obtain ⟨y1, e1, F1, a1, k1⟩ := z_r_readOne_H R.2.2.2 a h0
          have R1 := z_RelR_TF F1 R
          rw [e1, z_ob, a1.2, if_pos (show z_I 0 = 0 from rfl), if_neg (by decide)]
          unfold fX7_isPossible fX7_isPossible_b0
          rw [k1, if_pos rfl, z_L109, z_gm (by omega), z_Rr_I R1.1 (by omega), if_pos (Int32.not_lt.mp h9), z_ob, if_pos rfl, z_b44_stop]
          exact ⟨y1, rfl, R1, z_FM_TF F1, F1.2.2 0 (by omega)⟩
    · -- an asking
      have hA : z_okA tx len p := by
        by_cases hA : z_okA tx len p
        · exact hA
        · exfalso
          have hq : ∃ q, z_badA tx len p q := by
            unfold z_okA at hA
            unfold z_badA
            by_cases m0 : z_may tx len p 48 57
            · by_cases m1 : z_may tx len (p + 1) 64 64
              · by_cases m2 : z_may tx len (p + 2) 97 108
                · exact ⟨_, Or.inr (Or.inr (Or.inr ⟨rfl, m0, m1, m2, fun m3 => hA ⟨m0, m1, m2, m3⟩⟩))⟩
                · exact ⟨_, Or.inr (Or.inr (Or.inl ⟨rfl, m0, m1, m2⟩))⟩
              · exact ⟨_, Or.inr (Or.inl ⟨rfl, m0, m1⟩)⟩
            · exact ⟨_, Or.inl ⟨rfl, m0⟩⟩
          obtain ⟨q, hq⟩ := hq
          exact (z_ep_badA hd h0 hq).2 hep
      obtain ⟨e, he, hepA⟩ := z_ep_okA hd h0 hA
      rw [hepA] at hep
      obtain ⟨m0, m1, m2, m3⟩ := hA
      obtain ⟨A, hA1, hA2, eA⟩ := z_may_I (a := 48) (b := 57) rfl rfl (by omega) (by omega) m0
      obtain ⟨B, hB1, hB2, eB⟩ := z_may_I (a := 97) (b := 108) rfl rfl (by omega) (by omega) m2
      obtain ⟨D, hD1, hD2, eD⟩ := z_may_I (a := 49) (b := 57) rfl rfl (by omega) (by omega) m3
      have p3 := m3.1
      have eL : tx p - 48 = z_I (A - 48) := by rw [eA, show (48 : Int32) = z_I 48 from rfl, z_I_sub hA1]
      have eF : tx (p + 2) - 97 = z_I (B - 97) := by rw [eB, show (97 : Int32) = z_I 97 from rfl, z_I_sub hB1]
      have eH : tx (p + 3) - 48 = z_I (D - 48) := by rw [eD, show (48 : Int32) = z_I 48 from rfl, z_I_sub (by omega)]
      have eH2 : 1 + (tx (p + 3) - 49) = z_I (D - 48) := by rw [eD, show (49 : Int32) = z_I 49 from rfl, z_I_sub hD1, z_L1, z_I_add]; congr 1; omega
      have tells : ∀ x, z_RelC x s m sv kp sl len tx → fX0_tellsHour (0 + 99) (z_I p) x = some 0 := fun x R => by
        unfold fX0_tellsHour fX0_tellsHour_b0
        rw [sgn x R, z_ob, if_neg]
        rw [eA, show (104 : Int32) = z_I 104 from rfl, z_I_eq (by omega) (by omega)]; omega
      have cF : ∀ x, z_RelC x s m sv kp sl len tx → fX0_firstHour (0 + 99) (z_I p) x = some (z_I (B - 97)) := fun x R => by
        unfold fX0_firstHour fX0_firstHour_b0
        have := z_c_sign (p := p + 2) R.2.2.2 (by omega); rw [if_pos (by omega)] at this
        rw [z_L2, z_I_add, show fX0_sign (0 + 99) (z_I (p + 2)) x = _ from this, z_ob, eF]
      have cH : ∀ x, z_RelC x s m sv kp sl len tx → fX0_hours (0 + 99) (z_I p) x = some (z_I (D - 48)) := fun x R => by
        unfold fX0_hours fX0_hours_b0
        have := z_c_sign (p := p + 3) R.2.2.2 (by omega); rw [if_pos (by omega)] at this
        rw [z_L3, z_I_add, show fX0_sign (0 + 99) (z_I (p + 3)) x = _ from this, z_ob, eH]
      have cL : ∀ x, z_RelC x s m sv kp sl len tx → fX0_lodger (0 + 99) (z_I p) x = some (z_I (A - 48)) := fun x R => by
        unfold fX0_lodger fX0_lodger_b0
        rw [sgn x R, z_ob, eL]
      have hAN := z_AN_lt s (A - 48) (B - 97) (D - 48)
      by_cases hw : (B - 97) + (D - 48) ≤ 12
      · have W : z_WN (z_I (B - 97)) (z_I (D - 48)) := ⟨B - 97, D - 48, rfl, rfl, by omega, by omega, by omega, hw⟩
        obtain ⟨r, s', O', hC, hR⟩ := z_RJ_next (m := m) (sv := sv) (kp := kp) (sl := sl) (done := done + (if 10 ≤ z_AN s (A - 48) (B - 97) (D - 48) then 1 else 0)) (s1 := z_TA s (A - 48) (B - 97) (D - 48) (z_gn s)) (p := p) (d := d + 1) (q := p + 4) (e := e) h60 (z_OK_TA O (by omega) (by omega) hw) (by omega) hd (by omega) hep ih
        refine ⟨r, s', O', fun x n R z_hn => ?_, fun y n R a z_hn => ?_⟩
        · obtain ⟨n, rfl⟩ : ∃ k, n = k + 1 := ⟨n - 1, by omega⟩
          rw [fX6_doText_b4, size x R, z_ob, if_neg nle]
          unfold fX6_canDo fX6_canDo_b0 fX6_doText_b99
          rw [tells x R, z_ob, if_pos rfl, cF x R, z_ob, cH x R, z_ob, z_c_within_ok x W, z_ob, if_pos (by decide), z_ob, if_neg (by decide), z_ob, if_pos rfl, z_ob, cL x R, z_ob, z_ob]
          obtain ⟨z, ez, Az, jz⟩ := z_c_takeAsking (z_House_1 R.1) O (l := A - 48) (f := B - 97) (n := D - 48) (by omega) (by omega) hw g2 g1
          rw [show fX3_takeAsking (0 + 1) (z_I (A - 48)) (z_I (B - 97)) (z_I (D - 48)) x = _ from ez, z_ob]
          have Rz := z_RelC_J R Az jz (z_S_TA s (by omega) (by omega) hw).1 (z_S_TA s (by omega) (by omega) hw).2
          obtain ⟨w, ew, Rw, Fw⟩ := hC z n Rz (by omega)
          rw [z_L5, z_I_add]
          refine ⟨w, ?_, Rw, z_FrC_trans (z_J_FrC jz) Fw⟩
          by_cases c : 10 ≤ z_AN s (A - 48) (B - 97) (D - 48)
          · rw [if_pos c] at ew
            rw [if_neg (by rw [z_L10, z_I_lt (by omega) (by omega)]; omega), z_lt_]; exact ew
          · rw [if_neg c] at ew
            rw [if_pos (by rw [z_L10, z_I_lt (by omega) (by omega)]; omega), z_lt_]; exact ew
        · obtain ⟨n, rfl⟩ : ∃ k, n = k + 1 + 1 := ⟨n - 2, by omega⟩
          rw [fX7_goesThrough_b14, if_neg (by decide)]
          obtain ⟨y1, e1, F1, hh⟩ := z_r_readOne_A (by omega) R.2.2.2 a h0
          rcases hh with ⟨_, a1, k12, k13, k14⟩ | ⟨q, hq, _⟩
          · have R1 := z_RelR_TF F1 R
            rw [e1, z_ob, a1.2, if_pos (show z_I 0 = 0 from rfl), if_neg (by decide)]
            unfold fX7_isPossible fX7_isPossible_b0
            rw [k12, k13, k14, eL, eF, eH2, if_neg (by rw [z_I_n1 (by omega)]; exact id), z_r_isTime_ok _ W, z_ob, if_pos (by decide), z_ob, if_neg (by decide)]
            unfold fX7_goesThrough_b40 fX7_goesThrough_b45 fX7_does fX7_does_b0 fX7_does_b34
            rw [if_neg (by decide), if_neg (by decide), k12, k13, k14, eL, eF, eH2, if_neg (by rw [z_I_n1 (by omega)]; exact id)]
            obtain ⟨z, ez, Az, Fz, _⟩ := z_r_asks R1.1 O (l := A - 48) (f := B - 97) (n := D - 48) (by omega) (by omega) hw g2 g1
            rw [ez, z_ob]
            have Rz := z_RelR_9 R1 Fz Az
            have az : z_At z (p + 4) 0 := ⟨by rw [Fz.2.2 10 (by omega)]; exact a1.1, by rw [Fz.2.2 11 (by omega)]; exact a1.2⟩
            obtain ⟨w, ew, Rw, Fw, w0⟩ := hR z n Rz az (by omega)
            refine ⟨w, ?_, Rw, z_FM_t (z_FM_TF F1) (z_FM_t (z_FM_9 Fz) Fw), by rw [w0, Fz.2.2 0 (by omega)]; exact F1.2.2 0 (by omega)⟩
            by_cases c : 10 ≤ z_AN s (A - 48) (B - 97) (D - 48)
            · rw [if_pos c] at ew
              rw [if_neg (by rw [z_L10, z_I_lt (by omega) (by omega)]; omega), z_ob, z_b63_eq]; exact ew
            · rw [if_neg c] at ew
              rw [if_pos (by rw [z_L10, z_I_lt (by omega) (by omega)]; omega), z_ob, z_b63_eq]; exact ew
          · exact absurd hep (by rw [← hepA]; exact (z_ep_badA hd h0 hq).2)
      · have W : ¬ z_WN (z_I (B - 97)) (z_I (D - 48)) := by
          rintro ⟨f, n, ef, en, _, _, _, hfn⟩
          rw [z_I_eq (by omega) (by omega)] at ef en
          omega
        refine ⟨done, s, O, fun x n R z_hn => ?_, fun y n R a z_hn => ?_⟩
        · obtain ⟨n, rfl⟩ : ∃ k, n = k + 1 := ⟨n - 1, by omega⟩
          rw [fX6_doText_b4, size x R, z_ob, if_neg nle]
          unfold fX6_canDo fX6_canDo_b0
          rw [tells x R, z_ob, if_pos rfl, cF x R, z_ob, cH x R, z_ob, z_c_within_bad x W, z_ob, if_pos (by decide), z_ob, if_pos rfl]
          exact ⟨x, rfl, R, z_FrC_refl x⟩
        · obtain ⟨n, rfl⟩ : ∃ k, n = k + 1 + 1 := ⟨n - 2, by omega⟩
          rw [fX7_goesThrough_b14, if_neg (by decide)]
          obtain ⟨y1, e1, F1, hh⟩ := z_r_readOne_A (by omega) R.2.2.2 a h0
          rcases hh with ⟨_, a1, k12, k13, k14⟩ | ⟨q, hq, _⟩
          · have R1 := z_RelR_TF F1 R
            rw [e1, z_ob, a1.2, if_pos (show z_I 0 = 0 from rfl), if_neg (by decide)]
            unfold fX7_isPossible fX7_isPossible_b0
            rw [k12, k13, k14, eL, eF, eH2, if_neg (by rw [z_I_n1 (by omega)]; exact id), z_r_isTime_bad _ W, z_ob, if_pos (by decide), z_ob, if_pos rfl, z_b44_stop]
            exact ⟨y1, rfl, R1, z_FM_TF F1, F1.2.2 0 (by omega)⟩
          · exact absurd hep (by rw [← hepA]; exact (z_ep_badA hd h0 hq).2)
end

section
variable {x x' : xS} {s s' : z_row} {m : Nat} {sv : Nat → z_row} {kp : Nat → Bool} {sl : Nat → z_row} {len : Nat} {tx : Nat → Int32}
theorem z_J_run (O : z_OKs s) (h60 : len ≤ 60) (z_hv : (z_ep tx 0 0 len).2 = 4) : ∃ r s', z_OKs s' ∧ (∀ x, z_RelC x s m sv kp sl len tx → z_CC (fX6_run 0 x) x r s' (z_nM m) (z_nV m sv s) kp sl 0 tx) ∧ (∀ y, z_RelR y s m sv kp sl len tx → z_MM (fX7_run 101 y) y r s' (z_nM m) (z_nV m sv s) kp sl 0 tx) := by
  obtain ⟨r, s', O', hC, hR⟩ := z_RJ_all (m := z_nM m) (sv := z_nV m sv s) (kp := kp) (sl := sl) h60 len 0 s 0 O (by omega) z_hv
  refine ⟨r, s', O', fun x R => ?_, fun y R => ?_⟩
  · unfold fX6_run fX6_run_b0
    rw [show fX0_tellsAskings (0 + 99) x = _ from z_c_tellsAskings R.2.2.2, z_ob, if_pos z_hv, if_neg (by decide)]
    obtain ⟨y, ey, Ry, Fy⟩ := z_c_saveState R
    rw [ey, z_ob]
    unfold fX6_doText fX6_doText_b0
    obtain ⟨z, ez, Rz, Fz⟩ := hC y FU Ry (by show len + 1 < 2000; omega)
    rw [show fX6_doText_b4 0 FU 0 0 y = _ from ez, z_ob]
    obtain ⟨H, S, K, T⟩ := Rz
    unfold fX0_empty fX0_empty_b0
    rw [show (0 + 99 : Nat) = 99 from rfl, z_lt_, T.2.1, z_lt_, z_ob]
    obtain ⟨a, b, c, d⟩ := z_RT_out (Or.inl rfl) 1 0 H S K (y := up1 z 99 1 0) rfl
    exact ⟨_, rfl, ⟨a, b, c, Nat.zero_le _, by rw [z_up1_at, if_pos ⟨rfl, rfl⟩]; rfl, fun k hk => absurd hk (Nat.not_lt_zero k)⟩, z_FrC_trans Fy (z_FrC_trans Fz d)⟩
  · unfold fX7_run fX7_run_b0 fX7_run_b19
    obtain ⟨y1, e1, F1, h1, _⟩ := z_r_goesF R.2.2.2
    have R1 := z_RelR_TF F1 R
    rw [e1, z_ob]
    dsimp only
    rw [h1 z_hv, if_pos rfl, z_r_h0, z_ob, z_qh1]
    have := z_MM_save (s' := s') (r := r) (f := fun r28 => Option.bind (fX7_goesThrough 101 1 r28) (fun r33 => lt1 (up1 r33.2 101 8 0) (fun x39 => some (r33.1, x39)))) R1 (x := y1) (kp := kp) (sl := sl) (len := len) (tx := tx)
    obtain ⟨y2, e2, R2, F2, k2, _⟩ := z_r_save (z_RelR_0 R1 0).1
    obtain ⟨R0, F0, z0⟩ := z_RelR_0 R1 0
    rw [e2, z_ob]
    unfold fX7_goesThrough fX7_goesThrough_b0
    rw [z_lt_, z_lt_]
    have Ft := z_TF_2 y2 (z_I 0) (z_I 0)
    obtain ⟨z, ez, Rz, Fz, zz⟩ := hR (up1 (up1 y2 101 10 (z_I 0)) 101 11 (z_I 0)) FU (z_RelR_TF Ft R2) (z_At_up y2 0 0) (by show len + 2 < 2000; omega)
    rw [show fX7_goesThrough_b14 101 1 FU 0 1 (up1 (up1 y2 101 10 0) 101 11 0) = _ from ez, z_ob, z_lt_]
    have e0 : z.1 101 0 = 0 := by rw [zz, Ft.2.2 0 (by omega), k2 0 (by omega)]; exact z0
    obtain ⟨A, ⟨a, b, c⟩, ⟨d, e⟩, ⟨f, g, h'⟩⟩ := Rz
    refine ⟨_, rfl, ⟨fun j hj => by rw [z_up1_o _ _ _ (by omega)]; exact A j hj, ⟨?_, b, fun k hk j hj => by rw [z_up1_o _ _ _ (by omega)]; exact c k hk j hj⟩, ⟨?_, fun k hk e1 j hj => by rw [z_up1_o _ _ _ (by omega)]; exact e k hk e1 j hj⟩, ⟨?_, by omega, fun k hk => absurd hk (Nat.not_lt_zero k)⟩⟩, z_FM_t (z_FM_TF F1) (z_FM_t F0 (z_FM_t F2 (z_FM_t (z_FM_TF Ft) (z_FM_t Fz (z_FM_up _ _ (by omega) (by omega)))))), ?_⟩
    · rw [z_up1_at, if_neg (by omega)]; exact a
    · rw [z_up1_at, if_neg (by omega)]; exact d
    · rw [z_up1_at, if_pos ⟨rfl, rfl⟩]; rfl
    · rw [z_up1_at, if_neg (by omega)]; exact e0
def z_OKA (s : z_row) (m : Nat) (sv : Nat → z_row) (kp : Nat → Bool) (sl : Nat → z_row) : Prop := z_OKs s ∧ (∀ k, k < m → z_OKs (sv k)) ∧ (∀ j, j < 2 → kp j = true → z_OKs (sl j))
theorem z_OKA_s (O : z_OKA s m sv kp sl) (O' : z_OKs s') (z_hm : m ≤ 6) : z_OKA s' (z_nM m) (z_nV m sv s) kp sl := by
  refine ⟨O', fun k hk => ?_, O.2.2⟩
  unfold z_nM at hk; unfold z_nV
  by_cases c : m = 6
  · rw [if_pos c] at hk
    rw [if_pos c]
    by_cases c5 : k < 5
    · rw [if_pos c5]; exact O.2.1 (k + 1) (by omega)
    · rw [if_neg c5]; exact O.1
  · rw [if_neg c] at hk
    rw [if_neg c]
    by_cases c5 : k < m
    · rw [if_pos c5]; exact O.2.1 k c5
    · rw [if_neg c5]; exact O.1
def z_Inv (x : xS) : Prop := ∃ s m sv kp sl len tx, z_RelC x s m sv kp sl len tx ∧ z_RelR x s m sv kp sl len tx ∧ z_OKA s m sv kp sl
theorem z_RelC_M (R : z_RelC x s m sv kp sl len tx) (h : z_FM x x') : z_RelC x' s m sv kp sl len tx := ⟨z_House_fr (by omega) (fun i a b => h.2 i (by omega)) R.1, z_RS_fr (fun i a => h.2 i (by omega)) R.2.1, z_RK_fr (fun i a => h.2 i (by omega)) R.2.2.1, z_RT_fr (fun i a => h.2 i (by omega)) R.2.2.2⟩
theorem z_RelR_C (R : z_RelR x s m sv kp sl len tx) (h : ∀ i, 101 ≤ i → x'.1 i = x.1 i) : z_RelR x' s m sv kp sl len tx := by
  obtain ⟨A, ⟨a, b, c⟩, ⟨d, e⟩, ⟨f, g, h'⟩⟩ := R
  exact ⟨fun k hk => by rw [h 102 (by omega)]; exact A k hk, ⟨by rw [h 101 (by omega)]; exact a, b, fun k hk j hj => by rw [h 104 (by omega)]; exact c k hk j hj⟩, ⟨by rw [h 101 (by omega)]; exact d, fun k hk e1 j hj => by rw [h 105 (by omega)]; exact e k hk e1 j hj⟩, ⟨by rw [h 101 (by omega)]; exact f, g, fun k hk => by rw [h 106 (by omega)]; exact h' k hk⟩⟩
def z_LC (fL : Option (Int32 × xS)) (fM : xS → Option (Int32 × xS)) : Prop := ∃ k x1 b x2, fL = some (k, x1) ∧ fM x1 = some (b, x2) ∧ x2.1 101 0 = k ∧ (k = 0 → x2.2 107 0 = b.toInt64) ∧ z_Inv x2
theorem z_up2_out (y : xS) (v : Int64) : (up2 y 107 0 v).2 107 0 = v := by unfold up2 vp_updL; simp
theorem z_LC_state {fX : Option (Sum Nat (Int32 × xS))} {fL : Option (Int32 × xS)} {fM : xS → Option (Int32 × xS)} {r : Int32} {m' : Nat} {sv' : Nat → z_row} {kp' : Nat → Bool} {sl' : Nat → z_row} {len' : Nat} {tx' : Nat → Int32}
    (hL : ∀ x1, fX = some (Sum.inr (r, x1)) → fL = some (0, up2 x1 107 0 r.toInt64)) (hC : z_CC fX x r s' m' sv' kp' sl' len' tx') (hR : ∀ y, z_RelR y s m sv kp sl len tx → z_MM (fM y) y r s' m' sv' kp' sl' len' tx') (RR : z_RelR x s m sv kp sl len tx) (O' : z_OKA s' m' sv' kp' sl') : z_LC fL fM := by
  obtain ⟨x1, e1, R1, F1⟩ := hC
  obtain ⟨x2, e2, R2, F2, z⟩ := hR (up2 x1 107 0 r.toInt64) (z_RelR_C RR (fun i hi => F1.2 i hi))
  exact ⟨0, _, r, x2, hL x1 e1, e2, z, fun _ => by rw [F2.1]; exact z_up2_out _ _, _, _, _, _, _, _, _, z_RelC_M (x := up2 x1 107 0 r.toInt64) R1 F2, R2, O'⟩
theorem z_LC_look {fL : Option (Int32 × xS)} {fM : xS → Option (Int32 × xS)} {r : Int32} (hL : fL = some (0, up2 x 107 0 r.toInt64)) (RC : z_RelC x s m sv kp sl len tx) (hR : ∀ y, z_RelR y s m sv kp sl len tx → z_MM (fM y) y r s m sv kp sl len tx) (RR : z_RelR x s m sv kp sl len tx) (O : z_OKA s m sv kp sl) : z_LC fL fM := by
  obtain ⟨x2, e2, R2, F2, z⟩ := hR (up2 x 107 0 r.toInt64) RR
  exact ⟨0, _, r, x2, hL, e2, z, fun _ => by rw [F2.1]; exact z_up2_out _ _, _, _, _, _, _, _, _, z_RelC_M (x := up2 x 107 0 r.toInt64) RC F2, R2, O⟩
theorem z_LC_throw {fL : Option (Int32 × xS)} {fM : xS → Option (Int32 × xS)} {k : Int32} (hk : k ≠ 0) (hL : fL = some (k, x)) (RC : z_RelC x s m sv kp sl len tx) (hM : z_MX (fM x) x k s m sv kp sl len tx) (O : z_OKA s m sv kp sl) : z_LC fL fM := by
  obtain ⟨x2, r, e2, R2, F2, z⟩ := hM
  exact ⟨k, x, r, x2, hL, e2, z, fun h => absurd h hk, _, _, _, _, _, _, _, z_RelC_M RC F2, R2, O⟩
end
theorem z_g107 {α : Type} (a : Option α) : (if (0 : Int32) < 0 ∨ ln 107 ≤ (0 : Int32).toNatClampNeg then none else a) = a := if_neg (by decide)
theorem z_LCask {x : xS} (h : z_Inv x) (v w u : Int32) : z_LC (fL_ask 0 v w u 107 x) (fun y => fX7_ask 101 v w u y) := by
  obtain ⟨s, m, sv, kp, sl, len, tx, RC, RR, O⟩ := h
  by_cases z_hv : z_inR v 0 9
  · obtain ⟨l, _, hl, rfl⟩ := z_hv
    by_cases hw : z_WN w u
    · obtain ⟨f, n, rfl, rfl, hf, h1, h9, hh⟩ := hw
      exact z_LC_state (fun x1 e => by unfold fL_ask; rw [e, z_ob]; exact z_g107 _) (z_C_ask RC O.1 (by omega) hf h1 h9 hh) (fun y R => z_M_ask R O.1 (by omega) hf h1 h9 hh) RR (z_OKA_s O (z_OK_TA O.1 (by omega) h1 hh) RR.2.1.2.1)
    · refine z_LC_throw (k := 2) (by decide) ?_ RC (z_M_ask_W RR (by omega) hw) O
      unfold fL_ask fX6_ask fX6_ask_b0
      rw [z_c_chkA_W x (by omega) hw]; rfl
  · refine z_LC_throw (k := 1) (by decide) ?_ RC (z_M_ask_L RR z_hv) O
    unfold fL_ask fX6_ask fX6_ask_b0
    rw [z_c_chkA_L x z_hv]; rfl
theorem z_LCgiveBack {x : xS} (h : z_Inv x) (v w : Int32) : z_LC (fL_giveBack 0 v w 107 x) (fun y => fX7_giveBack 101 v w y) := by
  obtain ⟨s, m, sv, kp, sl, len, tx, RC, RR, O⟩ := h
  by_cases z_hv : z_inR v 0 9
  · obtain ⟨l, _, hl, rfl⟩ := z_hv
    by_cases hw : z_inR w 0 11
    · obtain ⟨f, _, hf, rfl⟩ := hw
      exact z_LC_state (fun x1 e => by unfold fL_giveBack; rw [e, z_ob]; exact z_g107 _) (z_C_giveBack RC (by omega) (by omega)) (fun y R => z_M_giveBack R O.1 (by omega) (by omega)) RR (z_OKA_s O (z_OK_TBr O.1 (by omega) (by omega)) RR.2.1.2.1)
    · refine z_LC_throw (k := 2) (by decide) ?_ RC (z_M_giveBack_H RR (by omega) hw) O
      unfold fL_giveBack fX6_giveBack fX6_giveBack_b0
      rw [z_c_chkL_ok x (by omega), z_ob]; dsimp only; rw [z_c_hour_bad x hw]; rfl
  · refine z_LC_throw (k := 1) (by decide) ?_ RC (z_M_giveBack_L RR z_hv) O
    unfold fL_giveBack fX6_giveBack fX6_giveBack_b0
    rw [z_c_chkL_bad x z_hv]; rfl
theorem z_LCfavour {x : xS} (h : z_Inv x) (v : Int32) : z_LC (fL_favour 0 v 107 x) (fun y => fX7_favour 101 v y) := by
  obtain ⟨s, m, sv, kp, sl, len, tx, RC, RR, O⟩ := h
  by_cases z_hv : z_inR v 0 9
  · obtain ⟨l, _, hl, rfl⟩ := z_hv
    exact z_LC_state (fun x1 e => by unfold fL_favour; rw [e, z_ob]; exact z_g107 _) (z_C_favour RC (by omega)) (fun y R => z_M_favour R O.1 (by omega)) RR (z_OKA_s O (z_OK_fav O.1 (by omega)) RR.2.1.2.1)
  · refine z_LC_throw (k := 1) (by decide) ?_ RC (z_M_favour_L RR z_hv) O
    unfold fL_favour fX6_favour fX6_favour_b0
    rw [z_c_chkL_bad x z_hv]; rfl
theorem z_LCneed {x : xS} (h : z_Inv x) (v w : Int32) : z_LC (fL_need 0 v w 107 x) (fun y => fX7_need 101 v w y) := by
  obtain ⟨s, m, sv, kp, sl, len, tx, RC, RR, O⟩ := h
  by_cases z_hv : z_inR v 0 9
  · obtain ⟨l, _, hl, rfl⟩ := z_hv
    by_cases hw : z_inR w 0 9
    · obtain ⟨f, _, hf, rfl⟩ := hw
      exact z_LC_state (fun x1 e => by unfold fL_need; rw [e, z_ob]; exact z_g107 _) (z_C_need RC (by omega) hf) (fun y R => z_M_need R (by omega) hf) RR (z_OKA_s O (z_OK_need O.1 (by omega) hf) RR.2.1.2.1)
    · refine z_LC_throw (k := 2) (by decide) ?_ RC (z_M_need_N RR (by omega) hw) O
      unfold fL_need fX6_need fX6_need_b0
      rw [z_c_chkL_ok x (by omega), z_ob]; dsimp only; rw [z_c_need_bad x hw]; rfl
  · refine z_LC_throw (k := 1) (by decide) ?_ RC (z_M_need_L RR z_hv) O
    unfold fL_need fX6_need fX6_need_b0
    rw [z_c_chkL_bad x z_hv]; rfl
theorem z_LCpass {x : xS} (h : z_Inv x) : z_LC (fL_pass 0 107 x) (fun y => fX7_pass 101 y) := by
  obtain ⟨s, m, sv, kp, sl, len, tx, RC, RR, O⟩ := h
  by_cases h9 : s 109 < 999
  · exact z_LC_state (fun x1 e => by unfold fL_pass; rw [e, z_ob]; exact z_g107 _) (z_C_pass RC O.1 h9) (fun y R => z_M_pass R O.1 h9) RR (z_OKA_s O (z_OK_PS O.1 (z_gn_ok O.1).2 (z_gn_ok O.1).1 h9) RR.2.1.2.1)
  · refine z_LC_throw (k := 1) (by decide) ?_ RC (z_M_pass_bad RR O.1 h9) O
    unfold fL_pass
    rw [z_C_pass_bad RC h9]; rfl
theorem z_LCset {x : xS} (h : z_Inv x) (v : Int32) : z_LC (fL_set 0 v 107 x) (fun y => fX7_set 101 v y) := by
  obtain ⟨s, m, sv, kp, sl, len, tx, RC, RR, O⟩ := h
  by_cases z_hv : z_inR v 0 9
  · obtain ⟨l, _, hl, rfl⟩ := z_hv
    exact z_LC_state (fun x1 e => by unfold fL_set; rw [e, z_ob]; exact z_g107 _) (z_C_set RC hl) (fun y R => z_M_set R hl) RR (z_OKA_s O (z_OK_set O.1 hl) RR.2.1.2.1)
  · refine z_LC_throw (k := 1) (by decide) ?_ RC (z_M_set_N RR z_hv) O
    unfold fL_set fX6_set fX6_set_b0
    rw [z_c_need_bad x z_hv]; rfl
theorem z_LCappend {x : xS} (h : z_Inv x) (v : Int32) : z_LC (fL_append 0 v 107 x) (fun y => fX7_append 101 v y) := by
  obtain ⟨s, m, sv, kp, sl, len, tx, RC, RR, O⟩ := h
  by_cases z_hv : z_inR v 33 126
  · obtain ⟨l, h1, h2, rfl⟩ := z_hv
    by_cases h60 : len < 60
    · exact z_LC_state (fun x1 e => by unfold fL_append; rw [e, z_ob]; exact z_g107 _) (z_C_append RC h1 h2 h60) (fun y R => z_M_append R h1 h2 h60) RR O
    · refine z_LC_throw (k := 2) (by decide) ?_ RC (z_M_append_full RR h1 h2 h60) O
      unfold fL_append
      rw [z_C_append_full RC h1 h2 h60]; rfl
  · refine z_LC_throw (k := 1) (by decide) ?_ RC (z_M_append_bad RR z_hv) O
    unfold fL_append
    rw [z_C_append_bad x z_hv]; rfl
theorem z_LCrun {x : xS} (h : z_Inv x) : z_LC (fL_run 0 107 x) (fun y => fX7_run 101 y) := by
  obtain ⟨s, m, sv, kp, sl, len, tx, RC, RR, O⟩ := h
  by_cases z_hv : (z_ep tx 0 0 len).2 = 4
  · obtain ⟨r, s', O', hC, hR⟩ := z_J_run (m := m) (sv := sv) (kp := kp) (sl := sl) O.1 RR.2.2.2.2.1 z_hv
    exact z_LC_state (fun x1 e => by unfold fL_run; rw [e, z_ob]; exact z_g107 _) (hC x RC) (fun y R => hR y R) RR (z_OKA_s O O' RR.2.1.2.1)
  · refine z_LC_throw (k := 1) (by decide) ?_ RC (z_M_run_bad RR z_hv) O
    unfold fL_run
    rw [z_C_run_bad RC z_hv]; rfl
theorem z_LCkeep {x : xS} (h : z_Inv x) (v : Int32) : z_LC (fL_keep 0 v 107 x) (fun y => fX7_keep 101 v y) := by
  obtain ⟨s, m, sv, kp, sl, len, tx, RC, RR, O⟩ := h
  by_cases z_hv : z_inR v 0 1
  · obtain ⟨l, _, hl, rfl⟩ := z_hv
    refine z_LC_state (fun x1 e => by unfold fL_keep; rw [e, z_ob]; exact z_g107 _) (z_C_keep RC hl) (fun y R => z_M_keep R hl) RR ⟨O.1, O.2.1, fun j hj hk => ?_⟩
    dsimp only at hk ⊢
    by_cases c : j = l
    · rw [if_pos c]; exact O.1
    · rw [if_neg c] at hk ⊢; exact O.2.2 j hj hk
  · refine z_LC_throw (k := 1) (by decide) ?_ RC (z_M_keep_K RR z_hv) O
    unfold fL_keep fX6_keep fX6_keep_b0
    rw [z_c_slot_bad x z_hv]; rfl
theorem z_LCgoBack {x : xS} (h : z_Inv x) (v : Int32) : z_LC (fL_goBack 0 v 107 x) (fun y => fX7_goBack 101 v y) := by
  obtain ⟨s, m, sv, kp, sl, len, tx, RC, RR, O⟩ := h
  by_cases z_hv : z_inR v 0 1
  · obtain ⟨l, _, hl, rfl⟩ := z_hv
    by_cases hk : kp l = true
    · exact z_LC_state (fun x1 e => by unfold fL_goBack; rw [e, z_ob]; exact z_g107 _) (z_C_goBack RC hl hk) (fun y R => z_M_goBack R hl hk) RR (z_OKA_s O (O.2.2 l (by omega) hk) RR.2.1.2.1)
    · refine z_LC_throw (k := 2) (by decide) ?_ RC (z_M_goBack_E RR hl hk) O
      unfold fL_goBack
      rw [z_C_goBack_bad RC hl hk]; rfl
  · refine z_LC_throw (k := 1) (by decide) ?_ RC (z_M_goBack_K RR z_hv) O
    unfold fL_goBack fX6_goBack fX6_goBack_b0
    rw [z_c_slot_bad x z_hv]; rfl
theorem z_LCundo {x : xS} (h : z_Inv x) : z_LC (fL_undo 0 107 x) (fun y => fX7_undo 101 y) := by
  obtain ⟨s, m, sv, kp, sl, len, tx, RC, RR, O⟩ := h
  cases m with
  | zero =>
    refine z_LC_throw (k := 1) (by decide) ?_ RC (z_M_undo0 RR) O
    unfold fL_undo
    rw [z_c_undo0 RC]; rfl
  | succ m =>
    exact z_LC_state (fun x1 e => by unfold fL_undo; rw [e, z_ob]; exact z_g107 _) (z_c_undo RC) (fun y R => z_M_undo R) RR ⟨O.2.1 m (by omega), fun k hk => O.2.1 k (by omega), O.2.2⟩

theorem z_LCat {x : xS} (h : z_Inv x) (v w : Int32) : z_LC (fL_at 0 v w 107 x) (fun y => fX7_at 101 v w y) := by
  obtain ⟨s, m, sv, kp, sl, len, tx, RC, RR, O⟩ := h
  by_cases z_hv : z_inR v 0 3
  · obtain ⟨l, _, hl, rfl⟩ := z_hv
    by_cases hw : z_inR w 0 11
    · obtain ⟨f, _, hf, rfl⟩ := hw
      exact z_LC_look (by unfold fL_at; rw [z_C_at RC (by omega) (by omega), z_ob]; exact z_g107 _) RC (fun y R => z_M_at R (by omega) (by omega)) RR O
    · refine z_LC_throw (k := 2) (by decide) ?_ RC (z_M_at_H RR (by omega) hw) O
      unfold fL_at
      rw [z_C_at_H x (by omega) hw]; rfl
  · refine z_LC_throw (k := 1) (by decide) ?_ RC (z_M_at_B RR z_hv) O
    unfold fL_at
    rw [z_C_at_B x z_hv]; rfl
theorem z_LClodgerOf {x : xS} (h : z_Inv x) (v w : Int32) : z_LC (fL_lodgerOf 0 v w 107 x) (fun y => fX7_lodgerOf 101 v w y) := by
  obtain ⟨s, m, sv, kp, sl, len, tx, RC, RR, O⟩ := h
  by_cases z_hv : z_inR v 0 9
  · obtain ⟨l, _, hl, rfl⟩ := z_hv
    by_cases hw : z_inR w 0 6
    · obtain ⟨f, _, hf, rfl⟩ := hw
      exact z_LC_look (by unfold fL_lodgerOf; rw [z_C_lodgerOf RC (by omega) (by omega), z_ob]; exact z_g107 _) RC (fun y R => z_M_lodgerOf R O.1 (by omega) (by omega)) RR O
    · refine z_LC_throw (k := 2) (by decide) ?_ RC (z_M_lodgerOf_K RR (by omega) hw) O
      unfold fL_lodgerOf
      rw [z_C_lodgerOf_K x (by omega) hw]; rfl
  · refine z_LC_throw (k := 1) (by decide) ?_ RC (z_M_lodgerOf_L RR z_hv) O
    unfold fL_lodgerOf fX6_lodgerOf fX6_lodgerOf_b0
    rw [z_c_chkL_bad x z_hv]; rfl
theorem z_LCcount {x : xS} (h : z_Inv x) (v : Int32) : z_LC (fL_count 0 v 107 x) (fun y => fX7_count 101 v y) := by
  obtain ⟨s, m, sv, kp, sl, len, tx, RC, RR, O⟩ := h
  by_cases z_hv : z_inR v 0 11
  · obtain ⟨l, _, hl, rfl⟩ := z_hv
    exact z_LC_look (by unfold fL_count; rw [z_C_count RC (by omega), z_ob]; exact z_g107 _) RC (fun y R => z_M_count R (by omega)) RR O
  · refine z_LC_throw (k := 1) (by decide) ?_ RC (z_M_count_K RR z_hv) O
    unfold fL_count fX6_count fX6_count_b0
    rw [show fX6_checkRange v 0 11 x = _ from z_c_chkR_bad (a := 0) (b := 11) x (by omega) (by omega) z_hv]; rfl
theorem z_LCrefused {x : xS} (h : z_Inv x) (v : Int32) : z_LC (fL_refused 0 v 107 x) (fun y => fX7_refused 101 v y) := by
  obtain ⟨s, m, sv, kp, sl, len, tx, RC, RR, O⟩ := h
  by_cases z_hv : z_inR v 1 4
  · obtain ⟨l, h1, h4, rfl⟩ := z_hv
    exact z_LC_look (by unfold fL_refused; rw [z_C_refused RC h1 h4, z_ob]; exact z_g107 _) RC (fun y R => z_M_refused R h1 h4) RR O
  · refine z_LC_throw (k := 1) (by decide) ?_ RC (z_M_refused_R RR z_hv) O
    unfold fL_refused fX6_refused fX6_refused_b0
    rw [show fX6_checkRange v 1 4 x = _ from z_c_chkR_bad (a := 1) (b := 4) x (by omega) (by omega) z_hv]; rfl
theorem z_LCifAsked {x : xS} (h : z_Inv x) (v w u : Int32) : z_LC (fL_ifAsked 0 v w u 107 x) (fun y => fX7_ifAsked 101 v w u y) := by
  obtain ⟨s, m, sv, kp, sl, len, tx, RC, RR, O⟩ := h
  by_cases z_hv : z_inR v 0 9
  · obtain ⟨l, _, hl, rfl⟩ := z_hv
    by_cases hw : z_WN w u
    · obtain ⟨f, n, rfl, rfl, hf, h1, h9, hh⟩ := hw
      exact z_LC_look (by unfold fL_ifAsked; rw [z_C_ifAsked RC O.1 (by omega) hf h1 h9 hh, z_ob]; exact z_g107 _) RC (fun y R => z_M_ifAsked R O.1 (by omega) hf h1 h9 hh) RR O
    · refine z_LC_throw (k := 2) (by decide) ?_ RC (z_M_ifAsked_W RR (by omega) hw) O
      unfold fL_ifAsked fX6_ifAsked fX6_ifAsked_b0
      rw [z_c_chkA_W x (by omega) hw]; rfl
  · refine z_LC_throw (k := 1) (by decide) ?_ RC (z_M_ifAsked_L RR z_hv) O
    unfold fL_ifAsked fX6_ifAsked fX6_ifAsked_b0
    rw [z_c_chkA_L x z_hv]; rfl
theorem z_LCifPutOut {x : xS} (h : z_Inv x) (v w u : Int32) : z_LC (fL_ifPutOut 0 v w u 107 x) (fun y => fX7_ifPutOut 101 v w u y) := by
  obtain ⟨s, m, sv, kp, sl, len, tx, RC, RR, O⟩ := h
  by_cases z_hv : z_inR v 0 9
  · obtain ⟨l, _, hl, rfl⟩ := z_hv
    by_cases hw : z_WN w u
    · obtain ⟨f, n, rfl, rfl, hf, h1, h9, hh⟩ := hw
      exact z_LC_look (by unfold fL_ifPutOut; rw [z_C_ifPutOut RC O.1 (by omega) hf h1 h9 hh, z_ob]; exact z_g107 _) RC (fun y R => z_M_ifPutOut R O.1 (by omega) hf h1 h9 hh) RR O
    · refine z_LC_throw (k := 2) (by decide) ?_ RC (z_M_ifPutOut_W RR (by omega) hw) O
      unfold fL_ifPutOut fX6_ifPutOut fX6_ifPutOut_b0
      rw [z_c_chkA_W x (by omega) hw]; rfl
  · refine z_LC_throw (k := 1) (by decide) ?_ RC (z_M_ifPutOut_L RR z_hv) O
    unfold fL_ifPutOut fX6_ifPutOut fX6_ifPutOut_b0
    rw [z_c_chkA_L x z_hv]; rfl
theorem z_LCfewestBeds {x : xS} (h : z_Inv x) (v : Int32) : z_LC (fL_fewestBeds 0 v 107 x) (fun y => fX7_fewestBeds 101 v y) := by
  obtain ⟨s, m, sv, kp, sl, len, tx, RC, RR, O⟩ := h
  by_cases z_hv : z_inR v 0 1
  · obtain ⟨l, _, hl, rfl⟩ := z_hv
    exact z_LC_state (fun x1 e => by unfold fL_fewestBeds; rw [e, z_ob]; exact z_g107 _) (z_C_fewest RC hl) (fun y R => z_M_fewest R hl) RR O
  · refine z_LC_throw (k := 1) (by decide) ?_ RC (z_M_fewest_K RR z_hv) O
    unfold fL_fewestBeds fX6_fewestBeds fX6_fewestBeds_b0
    rw [show fX6_checkRange v 0 1 x = _ from z_c_chkR_bad (a := 0) (b := 1) x (by omega) (by omega) z_hv]; rfl
theorem z_LClongest {x : xS} (h : z_Inv x) (v w : Int32) : z_LC (fL_longest 0 v w 107 x) (fun y => fX7_longest 101 v w y) := by
  obtain ⟨s, m, sv, kp, sl, len, tx, RC, RR, O⟩ := h
  by_cases z_hv : z_inR v 0 9
  · obtain ⟨l, _, hl, rfl⟩ := z_hv
    by_cases hw : z_inR w 0 11
    · obtain ⟨f, _, hf, rfl⟩ := hw
      exact z_LC_look (by unfold fL_longest; rw [z_C_longest RC (by omega) (by omega), z_ob]; exact z_g107 _) RC (fun y R => z_M_longest R O.1 (by omega) (by omega)) RR O
    · refine z_LC_throw (k := 2) (by decide) ?_ RC (z_M_longest_H RR (by omega) hw) O
      unfold fL_longest
      rw [z_C_longest_H x (by omega) hw]; rfl
  · refine z_LC_throw (k := 1) (by decide) ?_ RC (z_M_longest_L RR z_hv) O
    unfold fL_longest fX6_longest fX6_longest_b0
    rw [z_c_chkL_bad x z_hv]; rfl
theorem z_lg_self (v : Int64) : lg_cmp v v = 0 := by
  unfold lg_cmp
  rw [if_neg (show ¬ v > v from Int64.lt_irrefl), if_pos rfl]
theorem z_law_call {fL : Option (Int32 × xS)} {fM : xS → Option (Int32 × xS)} (h : z_LC fL fM) (K : xS → Option Int32) : ∃ x2, z_Inv x2 ∧
    Option.bind fL (fun r168 => Option.bind (fM r168.2) (fun r192 => Option.bind (fX7_thrown 101 r192.2) (fun r198 => (if r198 = r168.1 then (if r168.1 = 0 then (if (0 : Int32) < 0 ∨ ln 107 ≤ (0 : Int32).toNatClampNeg then none else (if (lg_cmp (r192.2.2 107 (0 : Int32).toNatClampNeg) (r192.1.toInt64)) = 0 then K r192.2 else some 0)) else K r192.2) else some 0)))) = K x2 := by
  obtain ⟨k, x1, b, x2, e1, e2, z, ho, I2⟩ := h
  refine ⟨x2, I2, ?_⟩
  rw [e1, z_ob]
  dsimp only
  rw [e2, z_ob, show fX7_thrown 101 x2 = some (x2.1 101 0) from rfl, z_ob]
  dsimp only
  rw [if_pos z]
  by_cases c : k = 0
  · rw [if_pos c, if_neg (by decide), show x2.2 107 (0 : Int32).toNatClampNeg = b.toInt64 from ho c, z_lg_self, if_pos rfl]
  · rw [if_neg c]

theorem z_cmp_self : ∀ n, n < 49 → Op.cmpValue (FP.dcmp (z_shr n) (z_shr n)) CmpOp.l = 0 := by decide +kernel
theorem z_LW_clear {x : xS} (h : z_Inv x) (K : xS → Option Int32) : ∃ x2, z_Inv x2 ∧ Option.bind (fX6_clearBuffer 0 x) (fun r577 => Option.bind (fX7_clearBuffer 101 r577.2) (fun r581 => (if r577.1 = r581.1 then K r581.2 else some 0))) = K x2 := by
  obtain ⟨s, m, sv, kp, sl, len, tx, RC, RR, O⟩ := h
  obtain ⟨x1, e1, R1, F1⟩ := z_C_clear RC
  obtain ⟨x2, e2, R2, F2, z⟩ := z_M_clear (z_RelR_C RR F1.2)
  refine ⟨x2, ⟨_, _, _, _, _, _, _, z_RelC_M R1 F2, R2, O⟩, ?_⟩
  rw [e1, z_ob]; dsimp only; rw [e2, z_ob, if_pos rfl]
theorem z_LW_firstError {x : xS} (h : z_Inv x) (K : xS → Option Int32) : ∃ x2, z_Inv x2 ∧ Option.bind (fX6_firstError 0 x) (fun r590 => Option.bind (fX7_firstError 101 x) (fun r594 => (if r590 = r594.1 then K r594.2 else some 0))) = K x2 := by
  obtain ⟨s, m, sv, kp, sl, len, tx, RC, RR, O⟩ := h
  obtain ⟨x2, e2, R2, F2, z⟩ := z_M_firstError RR
  refine ⟨x2, ⟨_, _, _, _, _, _, _, z_RelC_M RC F2, R2, O⟩, ?_⟩
  rw [z_C_firstError RC, z_ob, e2, z_ob, if_pos rfl]
theorem z_LW_poorest {x : xS} (h : z_Inv x) (K : xS → Option Int32) : ∃ x2, z_Inv x2 ∧ Option.bind (fX6_poorest 0 x) (fun r590 => Option.bind (fX7_poorest 101 x) (fun r594 => (if r590 = r594.1 then K r594.2 else some 0))) = K x2 := by
  obtain ⟨s, m, sv, kp, sl, len, tx, RC, RR, O⟩ := h
  obtain ⟨x2, e2, R2, F2, z⟩ := z_M_poorest RR O.1
  refine ⟨x2, ⟨_, _, _, _, _, _, _, z_RelC_M RC F2, R2, O⟩, ?_⟩
  rw [z_C_poorest RC O.1, z_ob, e2, z_ob, if_pos rfl]
theorem z_LW_fullness {x : xS} (h : z_Inv x) (K K2 : xS → Option Int32) : ∃ x2, z_Inv x2 ∧ Option.bind (fX6_fullness 0 x) (fun r1348 => Option.bind (fX7_fullness 101 x) (fun r1354 => (if (Op.cmpValue (FP.dcmp r1348 r1354.1) CmpOp.l) = 0 then K r1354.2 else (if (Op.cmpValue (FP.dcmp r1348 r1348) CmpOp.l) = 0 then K2 r1354.2 else (if (Op.cmpValue (FP.dcmp r1354.1 r1354.1) CmpOp.l) = 0 then K2 r1354.2 else K r1354.2))))) = K x2 := by
  obtain ⟨s, m, sv, kp, sl, len, tx, RC, RR, O⟩ := h
  obtain ⟨x2, e2, R2, F2⟩ := z_M_fullness RR
  have hL := z_LT_le s
  refine ⟨x2, ⟨_, _, _, _, _, _, _, z_RelC_M RC F2, R2, O⟩, ?_⟩
  rw [z_C_fullness RC, z_ob, e2, z_ob, if_pos (z_cmp_self (z_LT s) (by omega))]
theorem z_LW_digest {x : xS} (h : z_Inv x) (K : xS → Option Int32) : ∃ x2, z_Inv x2 ∧ Option.bind (fX6_digest 0 x) (fun r1389 => Option.bind (fX7_digest 101 r1389.2) (fun r1393 => (if (lg_cmp r1389.1 r1393.1) = 0 then K r1393.2 else some 0))) = K x2 := by
  obtain ⟨s, m, sv, kp, sl, len, tx, RC, RR, O⟩ := h
  obtain ⟨B, hB⟩ := z_bitsB
  obtain ⟨x1, e1, R1, F1⟩ := z_C_digest hB RC O.1
  obtain ⟨x2, e2, R2, F2⟩ := z_M_digest hB (z_RelR_C RR F1.2) O.1
  refine ⟨x2, ⟨_, _, _, _, _, _, _, z_RelC_M R1 F2, R2, O⟩, ?_⟩
  rw [e1, z_ob]; dsimp only; rw [e2, z_ob, z_lg_self, if_pos rfl]
set_option maxRecDepth 10000 in
set_option maxHeartbeats 4000000 in
theorem z_law_step {x : xS} (h : z_Inv x) {L j n : Nat} {xs : Nat → Int32} (hL : L ≤ 2048) (hj : j + 3 < L) : ∃ x2, z_Inv x2 ∧ fL_law_b23 0 101 107 L xs (n + 1) (z_I j) x = fL_law_b23 0 101 107 L xs n (z_I j + 4) x2 := by
  have g0 : ∀ (a : Option Int32), (if z_I j < 0 ∨ L ≤ (z_I j).toNatClampNeg then none else a) = a := fun a => z_gd (by omega) (by omega) a none
  have g1 : ∀ (a : Option Int32), (if z_I j + 1 < 0 ∨ L ≤ (z_I j + 1).toNatClampNeg then none else a) = a := fun a => by
    rw [z_I_s]; exact z_gd (by omega) (by omega) a none
  have g2 : ∀ (a : Option Int32), (if z_I j + 2 < 0 ∨ L ≤ (z_I j + 2).toNatClampNeg then none else a) = a := fun a => by
    rw [z_L2, z_I_add]; exact z_gd (by omega) (by omega) a none
  have g3 : ∀ (a : Option Int32), (if z_I j + 3 < 0 ∨ L ≤ (z_I j + 3).toNatClampNeg then none else a) = a := fun a => by
    rw [z_L3, z_I_add]; exact z_gd (by omega) (by omega) a none
  have nl : ¬ (Int32.ofNat L - 4) < z_I j := by
    rw [show Int32.ofNat L = z_I L from rfl, z_L4, z_I_sub (by omega), z_I_lt (by omega) (by omega)]; omega
  rw [fL_law_b23, if_neg nl, g0]
  generalize xs (z_I j).toNatClampNeg &&& 31 = op
  by_cases c0 : op = 0
  · rw [if_pos c0]
    simp only [g1, g2, g3]
    unfold fL_law_b225 fL_law_b1402
    exact z_law_call (z_LCask h _ _ _) (fun y => fL_law_b23 0 101 107 L xs n (z_I j + 4) y)
  rw [if_neg c0]
  by_cases c1 : op = 1
  · rw [if_pos c1]
    simp only [g1, g2]
    unfold fL_law_b293 fL_law_b1402
    exact z_law_call (z_LCgiveBack h _ _) (fun y => fL_law_b23 0 101 107 L xs n (z_I j + 4) y)
  rw [if_neg c1]
  by_cases c2 : op = 2
  · rw [if_pos c2]
    simp only [g1]
    unfold fL_law_b349 fL_law_b1402
    exact z_law_call (z_LCfavour h _) (fun y => fL_law_b23 0 101 107 L xs n (z_I j + 4) y)
  rw [if_neg c2]
  by_cases c3 : op = 3
  · rw [if_pos c3]
    simp only [g1, g2]
    unfold fL_law_b417 fL_law_b1402
    exact z_law_call (z_LCneed h _ _) (fun y => fL_law_b23 0 101 107 L xs n (z_I j + 4) y)
  rw [if_neg c3]
  by_cases c4 : op = 4
  · rw [if_pos c4]
    unfold fL_law_b461 fL_law_b1402
    exact z_law_call (z_LCpass h ) (fun y => fL_law_b23 0 101 107 L xs n (z_I j + 4) y)
  rw [if_neg c4]
  by_cases c5 : op = 5
  · rw [if_pos c5]
    simp only [g1]
    unfold fL_law_b517 fL_law_b1402
    exact z_law_call (z_LCset h _) (fun y => fL_law_b23 0 101 107 L xs n (z_I j + 4) y)
  rw [if_neg c5]
  by_cases c6 : op = 6
  · rw [if_pos c6]
    simp only [g1]
    unfold fL_law_b573 fL_law_b1402
    exact z_law_call (z_LCappend h _) (fun y => fL_law_b23 0 101 107 L xs n (z_I j + 4) y)
  rw [if_neg c6]
  by_cases c7 : op = 7
  · rw [if_pos c7]
    unfold fL_law_b1402
    exact z_LW_clear h (fun y => fL_law_b23 0 101 107 L xs n (z_I j + 4) y)
  rw [if_neg c7]
  by_cases c8 : op = 8
  · rw [if_pos c8]
    unfold fL_law_b1402
    exact z_LW_firstError h (fun y => fL_law_b23 0 101 107 L xs n (z_I j + 4) y)
  rw [if_neg c8]
  by_cases c9 : op = 9
  · rw [if_pos c9]
    unfold fL_law_b643 fL_law_b1402
    exact z_law_call (z_LCrun h ) (fun y => fL_law_b23 0 101 107 L xs n (z_I j + 4) y)
  rw [if_neg c9]
  by_cases c10 : op = 10
  · rw [if_pos c10]
    simp only [g1]
    unfold fL_law_b699 fL_law_b1402
    exact z_law_call (z_LCkeep h _) (fun y => fL_law_b23 0 101 107 L xs n (z_I j + 4) y)
  rw [if_neg c10]
  by_cases c11 : op = 11
  · rw [if_pos c11]
    simp only [g1]
    unfold fL_law_b755 fL_law_b1402
    exact z_law_call (z_LCgoBack h _) (fun y => fL_law_b23 0 101 107 L xs n (z_I j + 4) y)
  rw [if_neg c11]
  by_cases c12 : op = 12
  · rw [if_pos c12]
    unfold fL_law_b799 fL_law_b1402
    exact z_law_call (z_LCundo h ) (fun y => fL_law_b23 0 101 107 L xs n (z_I j + 4) y)
  rw [if_neg c12]
  by_cases c13 : op = 13
  · rw [if_pos c13]
    simp only [g1, g2]
    unfold fL_law_b867 fL_law_b1402
    exact z_law_call (z_LCat h _ _) (fun y => fL_law_b23 0 101 107 L xs n (z_I j + 4) y)
  rw [if_neg c13]
  by_cases c14 : op = 14
  · rw [if_pos c14]
    simp only [g1, g2]
    unfold fL_law_b935 fL_law_b1402
    exact z_law_call (z_LClodgerOf h _ _) (fun y => fL_law_b23 0 101 107 L xs n (z_I j + 4) y)
  rw [if_neg c14]
  by_cases c15 : op = 15
  · rw [if_pos c15]
    simp only [g1]
    unfold fL_law_b991 fL_law_b1402
    exact z_law_call (z_LCcount h _) (fun y => fL_law_b23 0 101 107 L xs n (z_I j + 4) y)
  rw [if_neg c15]
  by_cases c16 : op = 16
  · rw [if_pos c16]
    simp only [g1]
    unfold fL_law_b1047 fL_law_b1402
    exact z_law_call (z_LCrefused h _) (fun y => fL_law_b23 0 101 107 L xs n (z_I j + 4) y)
  rw [if_neg c16]
  by_cases c17 : op = 17
  · rw [if_pos c17]
    simp only [g1, g2, g3]
    unfold fL_law_b1127 fL_law_b1402
    exact z_law_call (z_LCifAsked h _ _ _) (fun y => fL_law_b23 0 101 107 L xs n (z_I j + 4) y)
  rw [if_neg c17]
  by_cases c18 : op = 18
  · rw [if_pos c18]
    simp only [g1, g2, g3]
    unfold fL_law_b1207 fL_law_b1402
    exact z_law_call (z_LCifPutOut h _ _ _) (fun y => fL_law_b23 0 101 107 L xs n (z_I j + 4) y)
  rw [if_neg c18]
  by_cases c19 : op = 19
  · rw [if_pos c19]
    simp only [g1]
    unfold fL_law_b1263 fL_law_b1402
    exact z_law_call (z_LCfewestBeds h _) (fun y => fL_law_b23 0 101 107 L xs n (z_I j + 4) y)
  rw [if_neg c19]
  by_cases c20 : op = 20
  · rw [if_pos c20]
    simp only [g1, g2]
    unfold fL_law_b1331 fL_law_b1402
    exact z_law_call (z_LClongest h _ _) (fun y => fL_law_b23 0 101 107 L xs n (z_I j + 4) y)
  rw [if_neg c20]
  by_cases c21 : op = 21
  · rw [if_pos c21]
    unfold fL_law_b1402
    exact z_LW_poorest h (fun y => fL_law_b23 0 101 107 L xs n (z_I j + 4) y)
  rw [if_neg c21]
  by_cases c22 : op = 22
  · rw [if_pos c22]
    unfold fL_law_b1385 fL_law_b1402
    exact z_LW_fullness h (fun y => fL_law_b23 0 101 107 L xs n (z_I j + 4) y) (fun y => fL_law_b1383 0 101 107 L xs y)
  rw [if_neg c22]
  by_cases c23 : op = 23
  · rw [if_pos c23]
    unfold fL_law_b1402
    exact z_LW_digest h (fun y => fL_law_b23 0 101 107 L xs n (z_I j + 4) y)
  rw [if_neg c23]
  exact ⟨x, h, rfl⟩
theorem z_law_all {L : Nat} {xs : Nat → Int32} (hL : L ≤ 2048) : ∀ n j x, z_Inv x → j ≤ L → L < 4 * n + j → fL_law_b23 0 101 107 L xs n (z_I j) x = some 1 := by
  intro n
  induction n with
  | zero => intro j x _ h1 h2; omega
  | succ n ih =>
    intro j x h h1 h2
    by_cases c : j + 3 < L
    · obtain ⟨x2, I2, e⟩ := z_law_step (n := n) (xs := xs) h hL c
      rw [e, z_L4, z_I_add]
      by_cases c2 : j + 4 ≤ L
      · exact ih (j + 4) x2 I2 c2 (by omega)
      · omega
    · rw [fL_law_b23, if_pos]
      by_cases c4 : 4 ≤ L
      · rw [show Int32.ofNat L = z_I L from rfl, z_L4, z_I_sub c4, z_I_lt (by omega) (by omega)]; omega
      · have : ∀ L, L < 4 → ∀ j, j ≤ 4 → (z_I L - 4 < z_I j) := by decide
        exact this L (by omega) j (by omega)

def z_s00 : z_row := fun k => if k < 60 then (if k % 6 = 0 then z_I (k / 6) else 0) else if k < 108 then -1 else if k = 119 then 3 else 0
theorem z_OK_s00 : z_OKs z_s00 := by
  refine ⟨fun k hk => Or.inl ?_, ⟨0, by omega, ?_⟩, fun l hl => ⟨⟨l, hl, ?_⟩, ⟨0, by omega, ?_⟩, ⟨0, by omega, ?_⟩⟩, ⟨0, by omega, ?_⟩, ⟨3, by omega, ?_⟩, fun h hh b hb c z_hc e hne => absurd ?_ hne⟩
  · unfold z_s00; rw [if_neg (by omega), if_pos (by omega)]
  · unfold z_s00; rw [if_neg (by omega), if_neg (by omega), if_neg (by omega)]; rfl
  · unfold z_s00; rw [if_pos (by omega), if_pos (by omega), show 6 * l / 6 = l by omega]
  · unfold z_s00; rw [if_pos (by omega), if_neg (by omega)]; rfl
  · unfold z_s00; rw [if_pos (by omega), if_neg (by omega)]; rfl
  · unfold z_s00; rw [if_neg (by omega), if_neg (by omega), if_neg (by omega)]; rfl
  · unfold z_s00; rw [if_neg (by omega), if_neg (by omega), if_pos rfl]; rfl
  · unfold z_hv z_s00; rw [if_neg (by omega), if_pos (by omega)]
theorem z_S3_00 : z_S3 z_s00 = 0 := by decide
theorem z_S5_00 : z_S5 z_s00 = 0 := by decide
theorem z_Inv_init {x : xS} (h5 : x.1 0 5 = 0) (h6 : x.1 0 6 = 0) (h13 : ∀ j, j < 2 → x.1 13 j = 0) (h99 : x.1 99 1 = 0) (hH : ∀ k, k < 120 → x.1 (z_pr k) (z_pq k) = z_s00 k) (h83 : x.1 8 3 = 0) (h85 : x.1 8 5 = 0)
    (hR : ∀ k, k < 120 → x.1 102 k = z_s00 k) (h4 : x.1 101 4 = 0) (hk : x.1 101 6 = 0) (h8 : x.1 101 8 = 0) : z_Inv x := by
  refine ⟨z_s00, 0, fun _ => z_s00, fun _ => false, fun _ => z_s00, 0, fun _ => 0, ⟨z_House_of hH (by rw [h83, z_S3_00]) (by rw [h85, z_S5_00]), ⟨0, by omega, h6, h5, by omega, fun k hk => absurd hk (Nat.not_lt_zero k)⟩, fun j hj => ⟨by rw [h13 j hj]; rfl, fun e => by cases e⟩, ⟨by omega, h99, fun k hk => absurd hk (Nat.not_lt_zero k)⟩⟩,
    ⟨hR, ⟨h4, by omega, fun k hk => absurd hk (Nat.not_lt_zero k)⟩, ⟨hk, fun k _ e => by cases e⟩, ⟨h8, by omega, fun k hk => absurd hk (Nat.not_lt_zero k)⟩⟩, z_OK_s00, fun k hk => absurd hk (Nat.not_lt_zero k), fun j _ e => by cases e⟩
theorem z_law_true {L : Nat} {xs : Nat → Int32} {x : xS} (hL : L ≤ 2048) (h : z_Inv x) : fL_law_b23 0 101 107 L xs FU 0 x = some 1 := z_law_all hL FU 0 x h (by omega) (by show L < 4 * 2000 + 0; omega)
