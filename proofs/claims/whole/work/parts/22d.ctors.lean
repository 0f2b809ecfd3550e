/-! own text, printed by wip/whole/gen/mk22.py: the constructors -/
theorem kOi : Cond.instanceMethod Lib.objectInit ∈ TW := tw_t 29 (by decide +kernel) (by decide +kernel)
theorem kOc : Cond.code Lib.objectInit ⟨#[0xb1]⟩ 1 none ∈ TW := tw_t 30 (by decide +kernel) (by decide +kernel)
theorem kOX1 : Cond.methodLink RX1 3 Lib.objectInit ∈ TW := tw_t 92 (by decide +kernel) (by decide +kernel)
theorem kZX1 : Cond.instantiable RX1 8 ∈ TW := tw_t 88 (by decide +kernel) (by decide +kernel)
theorem tczX1 : ∀ k, tc k (zd 0) = zd 0 := fun _ => rfl
theorem dfzX1 : ∀ b j, j < 8 → defaultValue (tyX1 j) = zv b ((zd 0).2.2.2.getD j (3, 0, 0)) := by
  intro b j hj
  have : j = 0 ∨ j = 1 ∨ j = 2 ∨ j = 3 ∨ j = 4 ∨ j = 5 ∨ j = 6 ∨ j = 7 := by omega
  rcases this with rfl | rfl | rfl | rfl | rfl | rfl | rfl | rfl <;> rfl
theorem kOX2 : Cond.methodLink RX2 3 Lib.objectInit ∈ TW := tw_t 83 (by decide +kernel) (by decide +kernel)
theorem kZX2 : Cond.instantiable RX2 3 ∈ TW := tw_t 79 (by decide +kernel) (by decide +kernel)
theorem tczX2 : ∀ k, tc k (zd 1) = zd 1 := fun _ => rfl
theorem dfzX2 : ∀ b j, j < 3 → defaultValue (tyX2 j) = zv b ((zd 1).2.2.2.getD j (3, 0, 0)) := by
  intro b j hj
  have : j = 0 ∨ j = 1 ∨ j = 2 := by omega
  rcases this with rfl | rfl | rfl <;> rfl
theorem kOX3 : Cond.methodLink RX3 3 Lib.objectInit ∈ TW := tw_t 60 (by decide +kernel) (by decide +kernel)
theorem kZX3 : Cond.instantiable RX3 3 ∈ TW := tw_t 56 (by decide +kernel) (by decide +kernel)
theorem tczX3 : ∀ k, tc k (zd 2) = zd 2 := fun _ => rfl
theorem dfzX3 : ∀ b j, j < 3 → defaultValue (tyX3 j) = zv b ((zd 2).2.2.2.getD j (3, 0, 0)) := by
  intro b j hj
  have : j = 0 ∨ j = 1 ∨ j = 2 := by omega
  rcases this with rfl | rfl | rfl <;> rfl
theorem kOX4 : Cond.methodLink RX4 3 Lib.objectInit ∈ TW := tw_t 36 (by decide +kernel) (by decide +kernel)
theorem kZX4 : Cond.instantiable RX4 5 ∈ TW := tw_t 32 (by decide +kernel) (by decide +kernel)
theorem tczX4 : ∀ k, tc k (zd 3) = zd 3 := fun _ => rfl
theorem dfzX4 : ∀ b j, j < 5 → defaultValue (tyX4 j) = zv b ((zd 3).2.2.2.getD j (3, 0, 0)) := by
  intro b j hj
  have : j = 0 ∨ j = 1 ∨ j = 2 ∨ j = 3 ∨ j = 4 := by omega
  rcases this with rfl | rfl | rfl | rfl | rfl <;> rfl
theorem kOX5 : Cond.methodLink RX5 3 Lib.objectInit ∈ TW := tw_t 172 (by decide +kernel) (by decide +kernel)
theorem kZX5 : Cond.instantiable RX5 11 ∈ TW := tw_t 168 (by decide +kernel) (by decide +kernel)
theorem tczX5 : ∀ k, tc k (zd 4) = zd 4 := fun _ => rfl
theorem dfzX5 : ∀ b j, j < 11 → defaultValue (tyX5 j) = zv b ((zd 4).2.2.2.getD j (3, 0, 0)) := by
  intro b j hj
  have : j = 0 ∨ j = 1 ∨ j = 2 ∨ j = 3 ∨ j = 4 ∨ j = 5 ∨ j = 6 ∨ j = 7 ∨ j = 8 ∨ j = 9 ∨ j = 10 := by omega
  rcases this with rfl | rfl | rfl | rfl | rfl | rfl | rfl | rfl | rfl | rfl | rfl <;> rfl
theorem kOX6 : Cond.methodLink RX6 3 Lib.objectInit ∈ TW := tw_t 156 (by decide +kernel) (by decide +kernel)
theorem kZX6 : Cond.instantiable RX6 3 ∈ TW := tw_t 152 (by decide +kernel) (by decide +kernel)
theorem tczX6 : ∀ k, tc k (zd 5) = zd 5 := fun _ => rfl
theorem dfzX6 : ∀ b j, j < 3 → defaultValue (tyX6 j) = zv b ((zd 5).2.2.2.getD j (3, 0, 0)) := by
  intro b j hj
  have : j = 0 ∨ j = 1 ∨ j = 2 := by omega
  rcases this with rfl | rfl | rfl <;> rfl
theorem kOX8 : Cond.methodLink RX8 3 Lib.objectInit ∈ TW := tw_t 141 (by decide +kernel) (by decide +kernel)
theorem kZX8 : Cond.instantiable RX8 2 ∈ TW := tw_t 137 (by decide +kernel) (by decide +kernel)
theorem tczX8 : ∀ k, tc k (zd 6) = zd 6 := fun _ => rfl
theorem dfzX8 : ∀ b j, j < 2 → defaultValue (tyX8 j) = zv b ((zd 6).2.2.2.getD j (3, 0, 0)) := by
  intro b j hj
  have : j = 0 ∨ j = 1 := by omega
  rcases this with rfl | rfl <;> rfl
theorem kOX9 : Cond.methodLink RX9 3 Lib.objectInit ∈ TW := tw_t 28 (by decide +kernel) (by decide +kernel)
theorem kZX9 : Cond.instantiable RX9 11 ∈ TW := tw_t 24 (by decide +kernel) (by decide +kernel)
theorem tczX9 : ∀ k, tc k (zd 7) = zd 7 := fun _ => rfl
theorem dfzX9 : ∀ b j, j < 11 → defaultValue (tyX9 j) = zv b ((zd 7).2.2.2.getD j (3, 0, 0)) := by
  intro b j hj
  have : j = 0 ∨ j = 1 ∨ j = 2 ∨ j = 3 ∨ j = 4 ∨ j = 5 ∨ j = 6 ∨ j = 7 ∨ j = 8 ∨ j = 9 ∨ j = 10 := by omega
  rcases this with rfl | rfl | rfl | rfl | rfl | rfl | rfl | rfl | rfl | rfl | rfl <;> rfl
theorem kOX10 : Cond.methodLink RX10 3 Lib.objectInit ∈ TW := tw_t 1031 (by decide +kernel) (by decide +kernel)
theorem kZX10 : Cond.instantiable RX10 34 ∈ TW := tw_t 1027 (by decide +kernel) (by decide +kernel)
theorem tczX10 : ∀ k, tc k (zd 8) = zd 8 := fun _ => rfl
theorem dfzX10 : ∀ b j, j < 34 → defaultValue (tyX10 j) = zv b ((zd 8).2.2.2.getD j (3, 0, 0)) := by
  intro b j hj
  have : j = 0 ∨ j = 1 ∨ j = 2 ∨ j = 3 ∨ j = 4 ∨ j = 5 ∨ j = 6 ∨ j = 7 ∨ j = 8 ∨ j = 9 ∨ j = 10 ∨ j = 11 ∨ j = 12 ∨ j = 13 ∨ j = 14 ∨ j = 15 ∨ j = 16 ∨ j = 17 ∨ j = 18 ∨ j = 19 ∨ j = 20 ∨ j = 21 ∨ j = 22 ∨ j = 23 ∨ j = 24 ∨ j = 25 ∨ j = 26 ∨ j = 27 ∨ j = 28 ∨ j = 29 ∨ j = 30 ∨ j = 31 ∨ j = 32 ∨ j = 33 := by omega
  rcases this with rfl | rfl | rfl | rfl | rfl | rfl | rfl | rfl | rfl | rfl | rfl | rfl | rfl | rfl | rfl | rfl | rfl | rfl | rfl | rfl | rfl | rfl | rfl | rfl | rfl | rfl | rfl | rfl | rfl | rfl | rfl | rfl | rfl | rfl <;> rfl
def oX1 : Cz := (0, 0, 0, [(0, 0, 0), (2, 0, 0), (2, 0, 1), (2, 0, 2), (0, 0, 0), (1, 0, 0), (0, 1, 0), (0, 0, 0)])
def sX1 : List Cz := [(1, 0, 16, []), (1, 1, 16, []), (1, 1, 16, [])]
set_option maxHeartbeats 4000000 in
theorem n_X1 {K : Kx} : Cc K YX1_init 0 1 3 48 oX1 sX1 := by
  refine Cc.intro (mL := 0) (by decide) rfl rfl rfl tczX1 (fun D n => ?_)
  refine b_ld0 iX1_init_0 ?_
  refine b_obj kOX1 kOi kOc (by decide) iX1_init_1 ?_
  refine b_ld0 iX1_init_4 ?_
  refine b_iconst iX1_init_5 ?_
  refine b_put (ci := 0) (j := 0) (ty := tyX1 0) rfl (by decide) kWX1 rfl kFX1_9 tyX1_ok nmX1 rfl (tyX1_ok 0 (by decide)) (by decide) (fun _ _ => rfl) (fun _ _ => rfl) (by decide +kernel) iX1_init_6 ?_
  refine b_ld0 iX1_init_9 ?_
  refine b_bipush (by decide +kernel) iX1_init_10 ?_
  refine b_newI (N := 16) (k := 0) rfl (by decide +kernel) (by decide) (by decide) iX1_init_12 (by decide) (by decide) ?_
  refine b_put (ci := 0) (j := 1) (ty := tyX1 1) rfl (by decide) kWX1 rfl kFX1_15 tyX1_ok nmX1 rfl (tyX1_ok 1 (by decide)) (by decide) (fun _ _ => rfl) (fun _ _ => rfl) (by decide +kernel) iX1_init_14 ?_
  refine b_ld0 iX1_init_17 ?_
  refine b_bipush (by decide +kernel) iX1_init_18 ?_
  refine b_newL (N := 16) (k := 1) rfl (by decide +kernel) (by decide) (by decide) iX1_init_20 (by decide) (by decide) ?_
  refine b_put (ci := 0) (j := 2) (ty := tyX1 2) rfl (by decide) kWX1 rfl kFX1_19 tyX1_ok nmX1 rfl (tyX1_ok 2 (by decide)) (by decide) (fun _ _ => rfl) (fun _ _ => rfl) (by decide +kernel) iX1_init_22 ?_
  refine b_ld0 iX1_init_25 ?_
  refine b_bipush (by decide +kernel) iX1_init_26 ?_
  refine b_newL (N := 16) (k := 2) rfl (by decide +kernel) (by decide) (by decide) iX1_init_28 (by decide) (by decide) ?_
  refine b_put (ci := 0) (j := 3) (ty := tyX1 3) rfl (by decide) kWX1 rfl kFX1_23 tyX1_ok nmX1 rfl (tyX1_ok 3 (by decide)) (by decide) (fun _ _ => rfl) (fun _ _ => rfl) (by decide +kernel) iX1_init_30 ?_
  refine b_ld0 iX1_init_33 ?_
  refine b_iconst iX1_init_34 ?_
  refine b_put (ci := 0) (j := 4) (ty := tyX1 4) rfl (by decide) kWX1 rfl kFX1_26 tyX1_ok nmX1 rfl (tyX1_ok 4 (by decide)) (by decide) (fun _ _ => rfl) (fun _ _ => rfl) (by decide +kernel) iX1_init_35 ?_
  refine b_ld0 iX1_init_38 ?_
  refine b_lconst iX1_init_39 ?_
  refine b_put (ci := 0) (j := 5) (ty := tyX1 5) rfl (by decide) kWX1 rfl kFX1_29 tyX1_ok nmX1 rfl (tyX1_ok 5 (by decide)) (by decide) (fun _ _ => rfl) (fun _ _ => rfl) (by decide +kernel) iX1_init_40 ?_
  refine b_ld0 iX1_init_43 ?_
  refine b_iconst iX1_init_44 ?_
  refine b_put (ci := 0) (j := 6) (ty := tyX1 6) rfl (by decide) kWX1 rfl kFX1_33 tyX1_ok nmX1 rfl (tyX1_ok 6 (by decide)) (by decide) (fun _ _ => by show narrow .boolean (.int (Int32.ofInt 1)) = .int (Int32.ofInt 1); rfl) (fun _ _ => by show fits .boolean (.int (Int32.ofInt 1)) = true; rfl) (by decide +kernel) iX1_init_45 ?_
  refine b_ld0 iX1_init_48 ?_
  refine b_iconst iX1_init_49 ?_
  refine b_put (ci := 0) (j := 7) (ty := tyX1 7) rfl (by decide) kWX1 rfl kFX1_37 tyX1_ok nmX1 rfl (tyX1_ok 7 (by decide)) (by decide) (fun _ _ => rfl) (fun _ _ => rfl) (by decide +kernel) iX1_init_50 ?_
  exact b_ret iX1_init_53 rfl rfl (deq_eq (by decide +kernel)) (lseq_eq (by decide +kernel))
def oX3 : Cz := (0, 2, 0, [(2, 0, 0), (2, 0, 1), (2, 0, 2)])
def sX3 : List Cz := [(1, 1, 7, []), (1, 1, 7, []), (1, 0, 6, [])]
set_option maxHeartbeats 4000000 in
theorem n_X3 {K : Kx} : Cc K YX3_init 2 1 3 20 oX3 sX3 := by
  refine Cc.intro (mL := 0) (by decide) rfl rfl rfl tczX3 (fun D n => ?_)
  refine b_ld0 iX3_init_0 ?_
  refine b_obj kOX3 kOi kOc (by decide) iX3_init_1 ?_
  refine b_ld0 iX3_init_4 ?_
  refine b_bipush (by decide +kernel) iX3_init_5 ?_
  refine b_newL (N := 7) (k := 0) rfl (by decide +kernel) (by decide) (by decide) iX3_init_7 (by decide) (by decide) ?_
  refine b_put (ci := 2) (j := 0) (ty := tyX3 0) rfl (by decide) kWX3 rfl kFX3_9 tyX3_ok nmX3 rfl (tyX3_ok 0 (by decide)) (by decide) (fun _ _ => rfl) (fun _ _ => rfl) (by decide +kernel) iX3_init_9 ?_
  refine b_ld0 iX3_init_12 ?_
  refine b_bipush (by decide +kernel) iX3_init_13 ?_
  refine b_newL (N := 7) (k := 1) rfl (by decide +kernel) (by decide) (by decide) iX3_init_15 (by decide) (by decide) ?_
  refine b_put (ci := 2) (j := 1) (ty := tyX3 1) rfl (by decide) kWX3 rfl kFX3_15 tyX3_ok nmX3 rfl (tyX3_ok 1 (by decide)) (by decide) (fun _ _ => rfl) (fun _ _ => rfl) (by decide +kernel) iX3_init_17 ?_
  refine b_ld0 iX3_init_20 ?_
  refine b_bipush (by decide +kernel) iX3_init_21 ?_
  refine b_newI (N := 6) (k := 2) rfl (by decide +kernel) (by decide) (by decide) iX3_init_23 (by decide) (by decide) ?_
  refine b_put (ci := 2) (j := 2) (ty := tyX3 2) rfl (by decide) kWX3 rfl kFX3_18 tyX3_ok nmX3 rfl (tyX3_ok 2 (by decide)) (by decide) (fun _ _ => rfl) (fun _ _ => rfl) (by decide +kernel) iX3_init_25 ?_
  exact b_ret iX3_init_28 rfl rfl (deq_eq (by decide +kernel)) (lseq_eq (by decide +kernel))
def oX4 : Cz := (0, 3, 0, [(2, 0, 0), (0, 0, 0), (0, 0, 0), (0, (-1), 0), (0, 0, 0)])
def sX4 : List Cz := [(1, 0, 400, [])]
set_option maxHeartbeats 4000000 in
theorem n_X4 {K : Kx} : Cc K YX4_init 3 1 1 400 oX4 sX4 := by
  refine Cc.intro (mL := 0) (by decide) rfl rfl rfl tczX4 (fun D n => ?_)
  refine b_ld0 iX4_init_0 ?_
  refine b_obj kOX4 kOi kOc (by decide) iX4_init_1 ?_
  refine b_ld0 iX4_init_4 ?_
  refine b_sipush (by decide +kernel) iX4_init_5 ?_
  refine b_newI (N := 400) (k := 0) rfl (by decide +kernel) (by decide) (by decide) iX4_init_8 (by decide) (by decide) ?_
  refine b_put (ci := 3) (j := 0) (ty := tyX4 0) rfl (by decide) kWX4 rfl kFX4_9 tyX4_ok nmX4 rfl (tyX4_ok 0 (by decide)) (by decide) (fun _ _ => rfl) (fun _ _ => rfl) (by decide +kernel) iX4_init_10 ?_
  refine b_ld0 iX4_init_13 ?_
  refine b_iconst iX4_init_14 ?_
  refine b_put (ci := 3) (j := 1) (ty := tyX4 1) rfl (by decide) kWX4 rfl kFX4_15 tyX4_ok nmX4 rfl (tyX4_ok 1 (by decide)) (by decide) (fun _ _ => rfl) (fun _ _ => rfl) (by decide +kernel) iX4_init_15 ?_
  refine b_ld0 iX4_init_18 ?_
  refine b_iconst iX4_init_19 ?_
  refine b_put (ci := 3) (j := 2) (ty := tyX4 2) rfl (by decide) kWX4 rfl kFX4_19 tyX4_ok nmX4 rfl (tyX4_ok 2 (by decide)) (by decide) (fun _ _ => rfl) (fun _ _ => rfl) (by decide +kernel) iX4_init_20 ?_
  refine b_ld0 iX4_init_23 ?_
  refine b_iconst iX4_init_24 ?_
  refine b_put (ci := 3) (j := 3) (ty := tyX4 3) rfl (by decide) kWX4 rfl kFX4_22 tyX4_ok nmX4 rfl (tyX4_ok 3 (by decide)) (by decide) (fun _ _ => rfl) (fun _ _ => rfl) (by decide +kernel) iX4_init_25 ?_
  refine b_ld0 iX4_init_28 ?_
  refine b_iconst iX4_init_29 ?_
  refine b_put (ci := 3) (j := 4) (ty := tyX4 4) rfl (by decide) kWX4 rfl kFX4_25 tyX4_ok nmX4 rfl (tyX4_ok 4 (by decide)) (by decide) (fun _ _ => by show narrow .boolean (.int (Int32.ofInt 0)) = .int (Int32.ofInt 0); rfl) (fun _ _ => by show fits .boolean (.int (Int32.ofInt 0)) = true; rfl) (by decide +kernel) iX4_init_30 ?_
  exact b_ret iX4_init_33 rfl rfl (deq_eq (by decide +kernel)) (lseq_eq (by decide +kernel))
theorem kLX5_22 : Cond.classLink RX5 22 "[[I" ∈ TW := tw_t 173 (by decide +kernel) (by decide +kernel)
theorem kLX5_45 : Cond.classLink RX5 45 "[[J" ∈ TW := tw_t 174 (by decide +kernel) (by decide +kernel)
def oX5 : Cz := (0, 4, 0, [(0, 0, 0), (0, 0, 0), (2, 0, 0), (2, 0, 1), (2, 0, 9), (2, 0, 17), (2, 0, 18), (2, 0, 19), (2, 0, 26), (2, 0, 33), (2, 0, 40)])
def sX5 : List Cz := [(1, 0, 7, []), (1, 3, 7, [(2, 0, 2), (2, 0, 3), (2, 0, 4), (2, 0, 5), (2, 0, 6), (2, 0, 7), (2, 0, 8)]), (1, 0, 6, []), (1, 0, 6, []), (1, 0, 6, []), (1, 0, 6, []), (1, 0, 6, []), (1, 0, 6, []), (1, 0, 6, []), (1, 3, 7, [(2, 0, 10), (2, 0, 11), (2, 0, 12), (2, 0, 13), (2, 0, 14), (2, 0, 15), (2, 0, 16)]), (1, 0, 6, []), (1, 0, 6, []), (1, 0, 6, []), (1, 0, 6, []), (1, 0, 6, []), (1, 0, 6, []), (1, 0, 6, []), (1, 0, 6, []), (1, 0, 6, []), (1, 3, 6, [(2, 0, 20), (2, 0, 21), (2, 0, 22), (2, 0, 23), (2, 0, 24), (2, 0, 25)]), (1, 0, 6, []), (1, 0, 6, []), (1, 0, 6, []), (1, 0, 6, []), (1, 0, 6, []), (1, 0, 6, []), (1, 3, 6, [(2, 0, 27), (2, 0, 28), (2, 0, 29), (2, 0, 30), (2, 0, 31), (2, 0, 32)]), (1, 0, 6, []), (1, 0, 6, []), (1, 0, 6, []), (1, 0, 6, []), (1, 0, 6, []), (1, 0, 6, []), (1, 3, 6, [(2, 0, 34), (2, 0, 35), (2, 0, 36), (2, 0, 37), (2, 0, 38), (2, 0, 39)]), (1, 0, 6, []), (1, 0, 6, []), (1, 0, 6, []), (1, 0, 6, []), (1, 0, 6, []), (1, 0, 6, []), (1, 4, 6, [(2, 0, 41), (2, 0, 42), (2, 0, 43), (2, 0, 44), (2, 0, 45), (2, 0, 46)]), (1, 1, 6, []), (1, 1, 6, []), (1, 1, 6, []), (1, 1, 6, []), (1, 1, 6, []), (1, 1, 6, [])]
set_option maxHeartbeats 4000000 in
theorem n_X5 {K : Kx} : Cc K YX5_init 4 1 47 285 oX5 sX5 := by
  refine Cc.intro (mL := 0) (by decide) rfl rfl rfl tczX5 (fun D n => ?_)
  refine b_ld0 iX5_init_0 ?_
  refine b_obj kOX5 kOi kOc (by decide) iX5_init_1 ?_
  refine b_ld0 iX5_init_4 ?_
  refine b_iconst iX5_init_5 ?_
  refine b_put (ci := 4) (j := 0) (ty := tyX5 0) rfl (by decide) kWX5 rfl kFX5_9 tyX5_ok nmX5 rfl (tyX5_ok 0 (by decide)) (by decide) (fun _ _ => rfl) (fun _ _ => rfl) (by decide +kernel) iX5_init_6 ?_
  refine b_ld0 iX5_init_9 ?_
  refine b_iconst iX5_init_10 ?_
  refine b_put (ci := 4) (j := 1) (ty := tyX5 1) rfl (by decide) kWX5 rfl kFX5_15 tyX5_ok nmX5 rfl (tyX5_ok 1 (by decide)) (by decide) (fun _ _ => rfl) (fun _ _ => rfl) (by decide +kernel) iX5_init_11 ?_
  refine b_ld0 iX5_init_14 ?_
  refine b_bipush (by decide +kernel) iX5_init_15 ?_
  refine b_newI (N := 7) (k := 0) rfl (by decide +kernel) (by decide) (by decide) iX5_init_17 (by decide) (by decide) ?_
  refine b_put (ci := 4) (j := 2) (ty := tyX5 2) rfl (by decide) kWX5 rfl kFX5_18 tyX5_ok nmX5 rfl (tyX5_ok 2 (by decide)) (by decide) (fun _ _ => rfl) (fun _ _ => rfl) (by decide +kernel) iX5_init_19 ?_
  refine b_ld0 iX5_init_22 ?_
  refine b_bipush (by decide +kernel) iX5_init_23 ?_
  refine b_bipush (by decide +kernel) iX5_init_25 ?_
  refine b_mulI (N := 7) (M := 6) (k := 1) rfl (by decide +kernel) kLX5_22 (by decide) (by decide) (by decide) (by decide) iX5_init_27 (by decide) (by decide) ?_
  refine b_put (ci := 4) (j := 3) (ty := tyX5 3) rfl (by decide) kWX5 rfl kFX5_24 tyX5_ok nmX5 rfl (tyX5_ok 3 (by decide)) (by decide) (fun _ _ => rfl) (fun _ _ => rfl) (by decide +kernel) iX5_init_31 ?_
  refine b_ld0 iX5_init_34 ?_
  refine b_bipush (by decide +kernel) iX5_init_35 ?_
  refine b_bipush (by decide +kernel) iX5_init_37 ?_
  refine b_mulI (N := 7) (M := 6) (k := 9) rfl (by decide +kernel) kLX5_22 (by decide) (by decide) (by decide) (by decide) iX5_init_39 (by decide) (by decide) ?_
  refine b_put (ci := 4) (j := 4) (ty := tyX5 4) rfl (by decide) kWX5 rfl kFX5_27 tyX5_ok nmX5 rfl (tyX5_ok 4 (by decide)) (by decide) (fun _ _ => rfl) (fun _ _ => rfl) (by decide +kernel) iX5_init_43 ?_
  refine b_ld0 iX5_init_46 ?_
  refine b_bipush (by decide +kernel) iX5_init_47 ?_
  refine b_newI (N := 6) (k := 17) rfl (by decide +kernel) (by decide) (by decide) iX5_init_49 (by decide) (by decide) ?_
  refine b_put (ci := 4) (j := 5) (ty := tyX5 5) rfl (by decide) kWX5 rfl kFX5_30 tyX5_ok nmX5 rfl (tyX5_ok 5 (by decide)) (by decide) (fun _ _ => rfl) (fun _ _ => rfl) (by decide +kernel) iX5_init_51 ?_
  refine b_ld0 iX5_init_54 ?_
  refine b_bipush (by decide +kernel) iX5_init_55 ?_
  refine b_newI (N := 6) (k := 18) rfl (by decide +kernel) (by decide) (by decide) iX5_init_57 (by decide) (by decide) ?_
  refine b_put (ci := 4) (j := 6) (ty := tyX5 6) rfl (by decide) kWX5 rfl kFX5_33 tyX5_ok nmX5 rfl (tyX5_ok 6 (by decide)) (by decide) (fun _ _ => rfl) (fun _ _ => rfl) (by decide +kernel) iX5_init_59 ?_
  refine b_ld0 iX5_init_62 ?_
  refine b_bipush (by decide +kernel) iX5_init_63 ?_
  refine b_bipush (by decide +kernel) iX5_init_65 ?_
  refine b_mulI (N := 6) (M := 6) (k := 19) rfl (by decide +kernel) kLX5_22 (by decide) (by decide) (by decide) (by decide) iX5_init_67 (by decide) (by decide) ?_
  refine b_put (ci := 4) (j := 7) (ty := tyX5 7) rfl (by decide) kWX5 rfl kFX5_36 tyX5_ok nmX5 rfl (tyX5_ok 7 (by decide)) (by decide) (fun _ _ => rfl) (fun _ _ => rfl) (by decide +kernel) iX5_init_71 ?_
  refine b_ld0 iX5_init_74 ?_
  refine b_bipush (by decide +kernel) iX5_init_75 ?_
  refine b_bipush (by decide +kernel) iX5_init_77 ?_
  refine b_mulI (N := 6) (M := 6) (k := 26) rfl (by decide +kernel) kLX5_22 (by decide) (by decide) (by decide) (by decide) iX5_init_79 (by decide) (by decide) ?_
  refine b_put (ci := 4) (j := 8) (ty := tyX5 8) rfl (by decide) kWX5 rfl kFX5_39 tyX5_ok nmX5 rfl (tyX5_ok 8 (by decide)) (by decide) (fun _ _ => rfl) (fun _ _ => rfl) (by decide +kernel) iX5_init_83 ?_
  refine b_ld0 iX5_init_86 ?_
  refine b_bipush (by decide +kernel) iX5_init_87 ?_
  refine b_bipush (by decide +kernel) iX5_init_89 ?_
  refine b_mulI (N := 6) (M := 6) (k := 33) rfl (by decide +kernel) kLX5_22 (by decide) (by decide) (by decide) (by decide) iX5_init_91 (by decide) (by decide) ?_
  refine b_put (ci := 4) (j := 9) (ty := tyX5 9) rfl (by decide) kWX5 rfl kFX5_42 tyX5_ok nmX5 rfl (tyX5_ok 9 (by decide)) (by decide) (fun _ _ => rfl) (fun _ _ => rfl) (by decide +kernel) iX5_init_95 ?_
  refine b_ld0 iX5_init_98 ?_
  refine b_bipush (by decide +kernel) iX5_init_99 ?_
  refine b_bipush (by decide +kernel) iX5_init_101 ?_
  refine b_mulL (N := 6) (M := 6) (k := 40) rfl (by decide +kernel) kLX5_45 (by decide) (by decide) (by decide) (by decide) iX5_init_103 (by decide) (by decide) ?_
  refine b_put (ci := 4) (j := 10) (ty := tyX5 10) rfl (by decide) kWX5 rfl kFX5_47 tyX5_ok nmX5 rfl (tyX5_ok 10 (by decide)) (by decide) (fun _ _ => rfl) (fun _ _ => rfl) (by decide +kernel) iX5_init_107 ?_
  exact b_ret iX5_init_110 rfl rfl (deq_eq (by decide +kernel)) (lseq_eq (by decide +kernel))
def oX6 : Cz := (0, 5, 0, [(0, 0, 0), (0, (-1), 0), (0, (-1), 0)])
def sX6 : List Cz := []
set_option maxHeartbeats 4000000 in
theorem n_X6 {K : Kx} : Cc K YX6_init 5 1 0 0 oX6 sX6 := by
  refine Cc.intro (mL := 0) (by decide) rfl rfl rfl tczX6 (fun D n => ?_)
  refine b_ld0 iX6_init_0 ?_
  refine b_obj kOX6 kOi kOc (by decide) iX6_init_1 ?_
  refine b_ld0 iX6_init_4 ?_
  refine b_iconst iX6_init_5 ?_
  refine b_put (ci := 5) (j := 0) (ty := tyX6 0) rfl (by decide) kWX6 rfl kFX6_9 tyX6_ok nmX6 rfl (tyX6_ok 0 (by decide)) (by decide) (fun _ _ => rfl) (fun _ _ => rfl) (by decide +kernel) iX6_init_6 ?_
  refine b_ld0 iX6_init_9 ?_
  refine b_iconst iX6_init_10 ?_
  refine b_put (ci := 5) (j := 1) (ty := tyX6 1) rfl (by decide) kWX6 rfl kFX6_15 tyX6_ok nmX6 rfl (tyX6_ok 1 (by decide)) (by decide) (fun _ _ => rfl) (fun _ _ => rfl) (by decide +kernel) iX6_init_11 ?_
  refine b_ld0 iX6_init_14 ?_
  refine b_iconst iX6_init_15 ?_
  refine b_put (ci := 5) (j := 2) (ty := tyX6 2) rfl (by decide) kWX6 rfl kFX6_18 tyX6_ok nmX6 rfl (tyX6_ok 2 (by decide)) (by decide) (fun _ _ => rfl) (fun _ _ => rfl) (by decide +kernel) iX6_init_16 ?_
  exact b_ret iX6_init_19 rfl rfl (deq_eq (by decide +kernel)) (lseq_eq (by decide +kernel))
def oX8 : Cz := (0, 6, 0, [(2, 0, 0), (0, 0, 0)])
def sX8 : List Cz := [(1, 0, 12, [])]
set_option maxHeartbeats 4000000 in
theorem n_X8 {K : Kx} : Cc K YX8_init 6 1 1 12 oX8 sX8 := by
  refine Cc.intro (mL := 0) (by decide) rfl rfl rfl tczX8 (fun D n => ?_)
  refine b_ld0 iX8_init_0 ?_
  refine b_obj kOX8 kOi kOc (by decide) iX8_init_1 ?_
  refine b_ld0 iX8_init_4 ?_
  refine b_bipush (by decide +kernel) iX8_init_5 ?_
  refine b_newI (N := 12) (k := 0) rfl (by decide +kernel) (by decide) (by decide) iX8_init_7 (by decide) (by decide) ?_
  refine b_put (ci := 6) (j := 0) (ty := tyX8 0) rfl (by decide) kWX8 rfl kFX8_9 tyX8_ok nmX8 rfl (tyX8_ok 0 (by decide)) (by decide) (fun _ _ => rfl) (fun _ _ => rfl) (by decide +kernel) iX8_init_9 ?_
  refine b_ld0 iX8_init_12 ?_
  refine b_iconst iX8_init_13 ?_
  refine b_put (ci := 6) (j := 1) (ty := tyX8 1) rfl (by decide) kWX8 rfl kFX8_15 tyX8_ok nmX8 rfl (tyX8_ok 1 (by decide)) (by decide) (fun _ _ => rfl) (fun _ _ => rfl) (by decide +kernel) iX8_init_14 ?_
  exact b_ret iX8_init_17 rfl rfl (deq_eq (by decide +kernel)) (lseq_eq (by decide +kernel))
def oX10 : Cz := (0, 8, 0, [(0, 0, 0), (2, 0, 0), (0, 0, 0), (0, 0, 0), (0, 0, 0), (2, 0, 1), (2, 0, 2), (2, 0, 3), (2, 0, 4), (2, 0, 5), (2, 0, 6), (2, 0, 7), (2, 0, 8), (2, 0, 9), (2, 0, 10), (2, 0, 11), (2, 0, 12), (0, 0, 0), (0, 0, 0), (0, 0, 0), (0, 0, 0), (0, 0, 0), (0, 0, 0), (2, 0, 13), (2, 0, 14), (0, 0, 0), (2, 0, 15), (0, (-1), 0), (1, 0, 0), (2, 0, 16), (2, 0, 17), (0, 0, 0), (2, 0, 18), (0, 0, 0)])
def sX10 : List Cz := [(1, 0, 400, []), (1, 0, 7, []), (1, 0, 7, []), (1, 0, 42, []), (1, 0, 42, []), (1, 0, 42, []), (1, 0, 42, []), (1, 0, 6, []), (1, 0, 6, []), (1, 0, 108, []), (1, 0, 108, []), (1, 0, 6, []), (1, 0, 6, []), (1, 0, 4, []), (1, 0, 12, []), (1, 1, 6, []), (1, 1, 10000, []), (1, 0, 10000, []), (1, 0, 160, [])]
set_option maxHeartbeats 4000000 in
theorem n_X10 {K : Kx} : Cc K YX10_init 8 1 19 21004 oX10 sX10 := by
  refine Cc.intro (mL := 0) (by decide) rfl rfl rfl tczX10 (fun D n => ?_)
  refine b_ld0 iX10_init_0 ?_
  refine b_obj kOX10 kOi kOc (by decide) iX10_init_1 ?_
  refine b_ld0 iX10_init_4 ?_
  refine b_sipush (by decide +kernel) iX10_init_5 ?_
  refine b_newI (N := 400) (k := 0) rfl (by decide +kernel) (by decide) (by decide) iX10_init_8 (by decide) (by decide) ?_
  refine b_put (ci := 8) (j := 1) (ty := tyX10 1) rfl (by decide) kWX10 rfl kFX10_9 tyX10_ok nmX10 rfl (tyX10_ok 1 (by decide)) (by decide) (fun _ _ => rfl) (fun _ _ => rfl) (by decide +kernel) iX10_init_10 ?_
  refine b_ld0 iX10_init_13 ?_
  refine b_bipush (by decide +kernel) iX10_init_14 ?_
  refine b_newI (N := 7) (k := 1) rfl (by decide +kernel) (by decide) (by decide) iX10_init_16 (by decide) (by decide) ?_
  refine b_put (ci := 8) (j := 5) (ty := tyX10 5) rfl (by decide) kWX10 rfl kFX10_13 tyX10_ok nmX10 rfl (tyX10_ok 5 (by decide)) (by decide) (fun _ _ => rfl) (fun _ _ => rfl) (by decide +kernel) iX10_init_18 ?_
  refine b_ld0 iX10_init_21 ?_
  refine b_bipush (by decide +kernel) iX10_init_22 ?_
  refine b_newI (N := 7) (k := 2) rfl (by decide +kernel) (by decide) (by decide) iX10_init_24 (by decide) (by decide) ?_
  refine b_put (ci := 8) (j := 6) (ty := tyX10 6) rfl (by decide) kWX10 rfl kFX10_16 tyX10_ok nmX10 rfl (tyX10_ok 6 (by decide)) (by decide) (fun _ _ => rfl) (fun _ _ => rfl) (by decide +kernel) iX10_init_26 ?_
  refine b_ld0 iX10_init_29 ?_
  refine b_bipush (by decide +kernel) iX10_init_30 ?_
  refine b_newI (N := 42) (k := 3) rfl (by decide +kernel) (by decide) (by decide) iX10_init_32 (by decide) (by decide) ?_
  refine b_put (ci := 8) (j := 7) (ty := tyX10 7) rfl (by decide) kWX10 rfl kFX10_19 tyX10_ok nmX10 rfl (tyX10_ok 7 (by decide)) (by decide) (fun _ _ => rfl) (fun _ _ => rfl) (by decide +kernel) iX10_init_34 ?_
  refine b_ld0 iX10_init_37 ?_
  refine b_bipush (by decide +kernel) iX10_init_38 ?_
  refine b_newI (N := 42) (k := 4) rfl (by decide +kernel) (by decide) (by decide) iX10_init_40 (by decide) (by decide) ?_
  refine b_put (ci := 8) (j := 8) (ty := tyX10 8) rfl (by decide) kWX10 rfl kFX10_22 tyX10_ok nmX10 rfl (tyX10_ok 8 (by decide)) (by decide) (fun _ _ => rfl) (fun _ _ => rfl) (by decide +kernel) iX10_init_42 ?_
  refine b_ld0 iX10_init_45 ?_
  refine b_bipush (by decide +kernel) iX10_init_46 ?_
  refine b_newI (N := 42) (k := 5) rfl (by decide +kernel) (by decide) (by decide) iX10_init_48 (by decide) (by decide) ?_
  refine b_put (ci := 8) (j := 9) (ty := tyX10 9) rfl (by decide) kWX10 rfl kFX10_25 tyX10_ok nmX10 rfl (tyX10_ok 9 (by decide)) (by decide) (fun _ _ => rfl) (fun _ _ => rfl) (by decide +kernel) iX10_init_50 ?_
  refine b_ld0 iX10_init_53 ?_
  refine b_bipush (by decide +kernel) iX10_init_54 ?_
  refine b_newI (N := 42) (k := 6) rfl (by decide +kernel) (by decide) (by decide) iX10_init_56 (by decide) (by decide) ?_
  refine b_put (ci := 8) (j := 10) (ty := tyX10 10) rfl (by decide) kWX10 rfl kFX10_28 tyX10_ok nmX10 rfl (tyX10_ok 10 (by decide)) (by decide) (fun _ _ => rfl) (fun _ _ => rfl) (by decide +kernel) iX10_init_58 ?_
  refine b_ld0 iX10_init_61 ?_
  refine b_bipush (by decide +kernel) iX10_init_62 ?_
  refine b_newI (N := 6) (k := 7) rfl (by decide +kernel) (by decide) (by decide) iX10_init_64 (by decide) (by decide) ?_
  refine b_put (ci := 8) (j := 11) (ty := tyX10 11) rfl (by decide) kWX10 rfl kFX10_31 tyX10_ok nmX10 rfl (tyX10_ok 11 (by decide)) (by decide) (fun _ _ => rfl) (fun _ _ => rfl) (by decide +kernel) iX10_init_66 ?_
  refine b_ld0 iX10_init_69 ?_
  refine b_bipush (by decide +kernel) iX10_init_70 ?_
  refine b_newI (N := 6) (k := 8) rfl (by decide +kernel) (by decide) (by decide) iX10_init_72 (by decide) (by decide) ?_
  refine b_put (ci := 8) (j := 12) (ty := tyX10 12) rfl (by decide) kWX10 rfl kFX10_34 tyX10_ok nmX10 rfl (tyX10_ok 12 (by decide)) (by decide) (fun _ _ => rfl) (fun _ _ => rfl) (by decide +kernel) iX10_init_74 ?_
  refine b_ld0 iX10_init_77 ?_
  refine b_bipush (by decide +kernel) iX10_init_78 ?_
  refine b_newI (N := 108) (k := 9) rfl (by decide +kernel) (by decide) (by decide) iX10_init_80 (by decide) (by decide) ?_
  refine b_put (ci := 8) (j := 13) (ty := tyX10 13) rfl (by decide) kWX10 rfl kFX10_37 tyX10_ok nmX10 rfl (tyX10_ok 13 (by decide)) (by decide) (fun _ _ => rfl) (fun _ _ => rfl) (by decide +kernel) iX10_init_82 ?_
  refine b_ld0 iX10_init_85 ?_
  refine b_bipush (by decide +kernel) iX10_init_86 ?_
  refine b_newI (N := 108) (k := 10) rfl (by decide +kernel) (by decide) (by decide) iX10_init_88 (by decide) (by decide) ?_
  refine b_put (ci := 8) (j := 14) (ty := tyX10 14) rfl (by decide) kWX10 rfl kFX10_40 tyX10_ok nmX10 rfl (tyX10_ok 14 (by decide)) (by decide) (fun _ _ => rfl) (fun _ _ => rfl) (by decide +kernel) iX10_init_90 ?_
  refine b_ld0 iX10_init_93 ?_
  refine b_bipush (by decide +kernel) iX10_init_94 ?_
  refine b_newI (N := 6) (k := 11) rfl (by decide +kernel) (by decide) (by decide) iX10_init_96 (by decide) (by decide) ?_
  refine b_put (ci := 8) (j := 15) (ty := tyX10 15) rfl (by decide) kWX10 rfl kFX10_43 tyX10_ok nmX10 rfl (tyX10_ok 15 (by decide)) (by decide) (fun _ _ => rfl) (fun _ _ => rfl) (by decide +kernel) iX10_init_98 ?_
  refine b_ld0 iX10_init_101 ?_
  refine b_bipush (by decide +kernel) iX10_init_102 ?_
  refine b_newI (N := 6) (k := 12) rfl (by decide +kernel) (by decide) (by decide) iX10_init_104 (by decide) (by decide) ?_
  refine b_put (ci := 8) (j := 16) (ty := tyX10 16) rfl (by decide) kWX10 rfl kFX10_46 tyX10_ok nmX10 rfl (tyX10_ok 16 (by decide)) (by decide) (fun _ _ => rfl) (fun _ _ => rfl) (by decide +kernel) iX10_init_106 ?_
  refine b_ld0 iX10_init_109 ?_
  refine b_iconst iX10_init_110 ?_
  refine b_newI (N := 4) (k := 13) rfl (by decide +kernel) (by decide) (by decide) iX10_init_111 (by decide) (by decide) ?_
  refine b_put (ci := 8) (j := 23) (ty := tyX10 23) rfl (by decide) kWX10 rfl kFX10_49 tyX10_ok nmX10 rfl (tyX10_ok 23 (by decide)) (by decide) (fun _ _ => rfl) (fun _ _ => rfl) (by decide +kernel) iX10_init_113 ?_
  refine b_ld0 iX10_init_116 ?_
  refine b_bipush (by decide +kernel) iX10_init_117 ?_
  refine b_newI (N := 12) (k := 14) rfl (by decide +kernel) (by decide) (by decide) iX10_init_119 (by decide) (by decide) ?_
  refine b_put (ci := 8) (j := 24) (ty := tyX10 24) rfl (by decide) kWX10 rfl kFX10_52 tyX10_ok nmX10 rfl (tyX10_ok 24 (by decide)) (by decide) (fun _ _ => rfl) (fun _ _ => rfl) (by decide +kernel) iX10_init_121 ?_
  refine b_ld0 iX10_init_124 ?_
  refine b_bipush (by decide +kernel) iX10_init_125 ?_
  refine b_newL (N := 6) (k := 15) rfl (by decide +kernel) (by decide) (by decide) iX10_init_127 (by decide) (by decide) ?_
  refine b_put (ci := 8) (j := 26) (ty := tyX10 26) rfl (by decide) kWX10 rfl kFX10_55 tyX10_ok nmX10 rfl (tyX10_ok 26 (by decide)) (by decide) (fun _ _ => rfl) (fun _ _ => rfl) (by decide +kernel) iX10_init_129 ?_
  refine b_ld0 iX10_init_132 ?_
  refine b_iconst iX10_init_133 ?_
  refine b_put (ci := 8) (j := 27) (ty := tyX10 27) rfl (by decide) kWX10 rfl kFX10_59 tyX10_ok nmX10 rfl (tyX10_ok 27 (by decide)) (by decide) (fun _ _ => rfl) (fun _ _ => rfl) (by decide +kernel) iX10_init_134 ?_
  refine b_ld0 iX10_init_137 ?_
  refine b_sipush (by decide +kernel) iX10_init_138 ?_
  refine b_newL (N := 10000) (k := 16) rfl (by decide +kernel) (by decide) (by decide) iX10_init_141 (by decide) (by decide) ?_
  refine b_put (ci := 8) (j := 29) (ty := tyX10 29) rfl (by decide) kWX10 rfl kFX10_63 tyX10_ok nmX10 rfl (tyX10_ok 29 (by decide)) (by decide) (fun _ _ => rfl) (fun _ _ => rfl) (by decide +kernel) iX10_init_143 ?_
  refine b_ld0 iX10_init_146 ?_
  refine b_sipush (by decide +kernel) iX10_init_147 ?_
  refine b_newI (N := 10000) (k := 17) rfl (by decide +kernel) (by decide) (by decide) iX10_init_150 (by decide) (by decide) ?_
  refine b_put (ci := 8) (j := 30) (ty := tyX10 30) rfl (by decide) kWX10 rfl kFX10_66 tyX10_ok nmX10 rfl (tyX10_ok 30 (by decide)) (by decide) (fun _ _ => rfl) (fun _ _ => rfl) (by decide +kernel) iX10_init_152 ?_
  refine b_ld0 iX10_init_155 ?_
  refine b_sipush (by decide +kernel) iX10_init_156 ?_
  refine b_newI (N := 160) (k := 18) rfl (by decide +kernel) (by decide) (by decide) iX10_init_159 (by decide) (by decide) ?_
  refine b_put (ci := 8) (j := 32) (ty := tyX10 32) rfl (by decide) kWX10 rfl kFX10_69 tyX10_ok nmX10 rfl (tyX10_ok 32 (by decide)) (by decide) (fun _ _ => rfl) (fun _ _ => rfl) (by decide +kernel) iX10_init_161 ?_
  exact b_ret iX10_init_164 rfl rfl (deq_eq (by decide +kernel)) (lseq_eq (by decide +kernel))
theorem kLX2_9 : Cond.classLink RX2 9 RX1 ∈ TW := tw_t 84 (by decide +kernel) (by decide +kernel)
theorem kLX2_17 : Cond.classLink RX2 17 "[[I" ∈ TW := tw_t 86 (by decide +kernel) (by decide +kernel)
def oX2 : Cz := (0, 1, 0, [(2, 0, 0), (2, 0, 1), (2, 0, 8)])
def sX2 : List Cz := [(1, 2, 7, [(2, 0, 9), (2, 0, 13), (2, 0, 17), (2, 0, 21), (2, 0, 25), (2, 0, 29), (2, 0, 33)]), (1, 3, 6, [(2, 0, 2), (2, 0, 3), (2, 0, 4), (2, 0, 5), (2, 0, 6), (2, 0, 7)]), (1, 0, 6, []), (1, 0, 6, []), (1, 0, 6, []), (1, 0, 6, []), (1, 0, 6, []), (1, 0, 6, []), (1, 1, 7, []), (0, 0, 0, [(0, 0, 0), (2, 0, 10), (2, 0, 11), (2, 0, 12), (0, 0, 0), (1, 0, 0), (0, 1, 0), (0, 0, 0)]), (1, 0, 16, []), (1, 1, 16, []), (1, 1, 16, []), (0, 0, 0, [(0, 0, 0), (2, 0, 14), (2, 0, 15), (2, 0, 16), (0, 0, 0), (1, 0, 0), (0, 1, 0), (0, 0, 0)]), (1, 0, 16, []), (1, 1, 16, []), (1, 1, 16, []), (0, 0, 0, [(0, 0, 0), (2, 0, 18), (2, 0, 19), (2, 0, 20), (0, 0, 0), (1, 0, 0), (0, 1, 0), (0, 0, 0)]), (1, 0, 16, []), (1, 1, 16, []), (1, 1, 16, []), (0, 0, 0, [(0, 0, 0), (2, 0, 22), (2, 0, 23), (2, 0, 24), (0, 0, 0), (1, 0, 0), (0, 1, 0), (0, 0, 0)]), (1, 0, 16, []), (1, 1, 16, []), (1, 1, 16, []), (0, 0, 0, [(0, 0, 0), (2, 0, 26), (2, 0, 27), (2, 0, 28), (0, 0, 0), (1, 0, 0), (0, 1, 0), (0, 0, 0)]), (1, 0, 16, []), (1, 1, 16, []), (1, 1, 16, []), (0, 0, 0, [(0, 0, 0), (2, 0, 30), (2, 0, 31), (2, 0, 32), (0, 0, 0), (1, 0, 0), (0, 1, 0), (0, 0, 0)]), (1, 0, 16, []), (1, 1, 16, []), (1, 1, 16, []), (0, 0, 0, [(0, 0, 0), (2, 0, 34), (2, 0, 35), (2, 0, 36), (0, 0, 0), (1, 0, 0), (0, 1, 0), (0, 0, 0)]), (1, 0, 16, []), (1, 1, 16, []), (1, 1, 16, [])]
set_option maxHeartbeats 4000000 in
theorem n_X2 {K : Kx} : Cc K YX2_init 1 2 37 448 oX2 sX2 := by
  refine Cc.intro (mL := 1) (by decide) rfl rfl rfl tczX2 (fun D n => ?_)
  refine b_ld0 iX2_init_0 ?_
  refine b_obj kOX2 kOi kOc (by decide) iX2_init_1 ?_
  refine b_ld0 iX2_init_4 ?_
  refine b_bipush (by decide +kernel) iX2_init_5 ?_
  refine b_anew (N := 7) (k := 0) rfl (by decide +kernel) kLX2_9 (by decide) (by decide) iX2_init_7 (by decide) (by decide) ?_
  refine b_put (ci := 1) (j := 0) (ty := tyX2 0) rfl (by decide) kWX2 rfl kFX2_11 tyX2_ok nmX2 rfl (tyX2_ok 0 (by decide)) (by decide) (fun _ _ => rfl) (fun _ _ => rfl) (by decide +kernel) iX2_init_10 ?_
  refine b_ld0 iX2_init_13 ?_
  refine b_bipush (by decide +kernel) iX2_init_14 ?_
  refine b_bipush (by decide +kernel) iX2_init_16 ?_
  refine b_mulI (N := 6) (M := 6) (k := 1) rfl (by decide +kernel) kLX2_17 (by decide) (by decide) (by decide) (by decide) iX2_init_18 (by decide) (by decide) ?_
  refine b_put (ci := 1) (j := 1) (ty := tyX2 1) rfl (by decide) kWX2 rfl kFX2_19 tyX2_ok nmX2 rfl (tyX2_ok 1 (by decide)) (by decide) (fun _ _ => rfl) (fun _ _ => rfl) (by decide +kernel) iX2_init_22 ?_
  refine b_ld0 iX2_init_25 ?_
  refine b_bipush (by decide +kernel) iX2_init_26 ?_
  refine b_newL (N := 7) (k := 8) rfl (by decide +kernel) (by decide) (by decide) iX2_init_28 (by decide) (by decide) ?_
  refine b_put (ci := 1) (j := 2) (ty := tyX2 2) rfl (by decide) kWX2 rfl kFX2_22 tyX2_ok nmX2 rfl (tyX2_ok 2 (by decide)) (by decide) (fun _ _ => rfl) (fun _ _ => rfl) (by decide +kernel) iX2_init_30 ?_
  refine b_iconst iX2_init_33 ?_
  refine b_ist1 (by decide) iX2_init_34 ?_
  refine b_ild1 iX2_init_35 ?_
  refine b_bipush (by decide +kernel) iX2_init_36 ?_
  refine b_geF (by decide +kernel) iX2_init_38 ?_
  refine b_ld0 iX2_init_41 ?_
  refine b_get (ci := 1) (j := 0) (v := (2, 0, 0)) rfl (by decide) kWX2 rfl kFX2_11 (veq_eq (by decide +kernel)) (by decide) iX2_init_42 ?_
  refine b_ild1 iX2_init_45 ?_
  refine b_new (ci := 0) (k := 9) rfl (by decide +kernel) tczX1 rfl kLX2_9 kZX1 kNX1 kWX1 tyX1_ok dfzX1 iX2_init_46 (by decide) (by decide) ?_
  refine b_dup iX2_init_49 ?_
  refine b_call (j := 9) (k := 10) (n_X1 (K := K)) rfl (by decide +kernel) tczX1 (oeq_eq (by decide +kernel)) (Or.inr (List.mem_of_getElem? (i := 2) rfl)) kIX1_init kCX1_init kNX1 rfl ⟨by decide +kernel, by decide +kernel, by decide +kernel⟩ (by decide) rfl (by decide) (fun _ _ _ => Nat.le_of_ble_eq_true rfl) iX2_init_50 (by decide) (by decide) ?_
  refine b_aast (N := 7) (i := 0) (x := 0) (vs := [(3, 0, 0), (3, 0, 0), (3, 0, 0), (3, 0, 0), (3, 0, 0), (3, 0, 0), (3, 0, 0)]) (us := [(0, 0, 0), (2, 0, 10), (2, 0, 11), (2, 0, 12), (0, 0, 0), (1, 0, 0), (0, 1, 0), (0, 0, 0)]) rfl (oeq_eq (by decide +kernel)) (oeq_eq (by decide +kernel)) (by decide) (by decide) (by decide) (by decide) iX2_init_53 ?_
  refine b_inc (z' := 1) (by decide) (by decide +kernel) iX2_init_54 ?_
  refine b_goto iX2_init_57 ?_
  refine b_ild1 iX2_init_35 ?_
  refine b_bipush (by decide +kernel) iX2_init_36 ?_
  refine b_geF (by decide +kernel) iX2_init_38 ?_
  refine b_ld0 iX2_init_41 ?_
  refine b_get (ci := 1) (j := 0) (v := (2, 0, 0)) rfl (by decide) kWX2 rfl kFX2_11 (veq_eq (by decide +kernel)) (by decide) iX2_init_42 ?_
  refine b_ild1 iX2_init_45 ?_
  refine b_new (ci := 0) (k := 13) rfl (by decide +kernel) tczX1 rfl kLX2_9 kZX1 kNX1 kWX1 tyX1_ok dfzX1 iX2_init_46 (by decide) (by decide) ?_
  refine b_dup iX2_init_49 ?_
  refine b_call (j := 13) (k := 14) (n_X1 (K := K)) rfl (by decide +kernel) tczX1 (oeq_eq (by decide +kernel)) (Or.inr (List.mem_of_getElem? (i := 2) rfl)) kIX1_init kCX1_init kNX1 rfl ⟨by decide +kernel, by decide +kernel, by decide +kernel⟩ (by decide) rfl (by decide) (fun _ _ _ => Nat.le_of_ble_eq_true rfl) iX2_init_50 (by decide) (by decide) ?_
  refine b_aast (N := 7) (i := 1) (x := 0) (vs := [(2, 0, 9), (3, 0, 0), (3, 0, 0), (3, 0, 0), (3, 0, 0), (3, 0, 0), (3, 0, 0)]) (us := [(0, 0, 0), (2, 0, 14), (2, 0, 15), (2, 0, 16), (0, 0, 0), (1, 0, 0), (0, 1, 0), (0, 0, 0)]) rfl (oeq_eq (by decide +kernel)) (oeq_eq (by decide +kernel)) (by decide) (by decide) (by decide) (by decide) iX2_init_53 ?_
  refine b_inc (z' := 2) (by decide) (by decide +kernel) iX2_init_54 ?_
  refine b_goto iX2_init_57 ?_
  refine b_ild1 iX2_init_35 ?_
  refine b_bipush (by decide +kernel) iX2_init_36 ?_
  refine b_geF (by decide +kernel) iX2_init_38 ?_
  refine b_ld0 iX2_init_41 ?_
  refine b_get (ci := 1) (j := 0) (v := (2, 0, 0)) rfl (by decide) kWX2 rfl kFX2_11 (veq_eq (by decide +kernel)) (by decide) iX2_init_42 ?_
  refine b_ild1 iX2_init_45 ?_
  refine b_new (ci := 0) (k := 17) rfl (by decide +kernel) tczX1 rfl kLX2_9 kZX1 kNX1 kWX1 tyX1_ok dfzX1 iX2_init_46 (by decide) (by decide) ?_
  refine b_dup iX2_init_49 ?_
  refine b_call (j := 17) (k := 18) (n_X1 (K := K)) rfl (by decide +kernel) tczX1 (oeq_eq (by decide +kernel)) (Or.inr (List.mem_of_getElem? (i := 2) rfl)) kIX1_init kCX1_init kNX1 rfl ⟨by decide +kernel, by decide +kernel, by decide +kernel⟩ (by decide) rfl (by decide) (fun _ _ _ => Nat.le_of_ble_eq_true rfl) iX2_init_50 (by decide) (by decide) ?_
  refine b_aast (N := 7) (i := 2) (x := 0) (vs := [(2, 0, 9), (2, 0, 13), (3, 0, 0), (3, 0, 0), (3, 0, 0), (3, 0, 0), (3, 0, 0)]) (us := [(0, 0, 0), (2, 0, 18), (2, 0, 19), (2, 0, 20), (0, 0, 0), (1, 0, 0), (0, 1, 0), (0, 0, 0)]) rfl (oeq_eq (by decide +kernel)) (oeq_eq (by decide +kernel)) (by decide) (by decide) (by decide) (by decide) iX2_init_53 ?_
  refine b_inc (z' := 3) (by decide) (by decide +kernel) iX2_init_54 ?_
  refine b_goto iX2_init_57 ?_
  refine b_ild1 iX2_init_35 ?_
  refine b_bipush (by decide +kernel) iX2_init_36 ?_
  refine b_geF (by decide +kernel) iX2_init_38 ?_
  refine b_ld0 iX2_init_41 ?_
  refine b_get (ci := 1) (j := 0) (v := (2, 0, 0)) rfl (by decide) kWX2 rfl kFX2_11 (veq_eq (by decide +kernel)) (by decide) iX2_init_42 ?_
  refine b_ild1 iX2_init_45 ?_
  refine b_new (ci := 0) (k := 21) rfl (by decide +kernel) tczX1 rfl kLX2_9 kZX1 kNX1 kWX1 tyX1_ok dfzX1 iX2_init_46 (by decide) (by decide) ?_
  refine b_dup iX2_init_49 ?_
  refine b_call (j := 21) (k := 22) (n_X1 (K := K)) rfl (by decide +kernel) tczX1 (oeq_eq (by decide +kernel)) (Or.inr (List.mem_of_getElem? (i := 2) rfl)) kIX1_init kCX1_init kNX1 rfl ⟨by decide +kernel, by decide +kernel, by decide +kernel⟩ (by decide) rfl (by decide) (fun _ _ _ => Nat.le_of_ble_eq_true rfl) iX2_init_50 (by decide) (by decide) ?_
  refine b_aast (N := 7) (i := 3) (x := 0) (vs := [(2, 0, 9), (2, 0, 13), (2, 0, 17), (3, 0, 0), (3, 0, 0), (3, 0, 0), (3, 0, 0)]) (us := [(0, 0, 0), (2, 0, 22), (2, 0, 23), (2, 0, 24), (0, 0, 0), (1, 0, 0), (0, 1, 0), (0, 0, 0)]) rfl (oeq_eq (by decide +kernel)) (oeq_eq (by decide +kernel)) (by decide) (by decide) (by decide) (by decide) iX2_init_53 ?_
  refine b_inc (z' := 4) (by decide) (by decide +kernel) iX2_init_54 ?_
  refine b_goto iX2_init_57 ?_
  refine b_ild1 iX2_init_35 ?_
  refine b_bipush (by decide +kernel) iX2_init_36 ?_
  refine b_geF (by decide +kernel) iX2_init_38 ?_
  refine b_ld0 iX2_init_41 ?_
  refine b_get (ci := 1) (j := 0) (v := (2, 0, 0)) rfl (by decide) kWX2 rfl kFX2_11 (veq_eq (by decide +kernel)) (by decide) iX2_init_42 ?_
  refine b_ild1 iX2_init_45 ?_
  refine b_new (ci := 0) (k := 25) rfl (by decide +kernel) tczX1 rfl kLX2_9 kZX1 kNX1 kWX1 tyX1_ok dfzX1 iX2_init_46 (by decide) (by decide) ?_
  refine b_dup iX2_init_49 ?_
  refine b_call (j := 25) (k := 26) (n_X1 (K := K)) rfl (by decide +kernel) tczX1 (oeq_eq (by decide +kernel)) (Or.inr (List.mem_of_getElem? (i := 2) rfl)) kIX1_init kCX1_init kNX1 rfl ⟨by decide +kernel, by decide +kernel, by decide +kernel⟩ (by decide) rfl (by decide) (fun _ _ _ => Nat.le_of_ble_eq_true rfl) iX2_init_50 (by decide) (by decide) ?_
  refine b_aast (N := 7) (i := 4) (x := 0) (vs := [(2, 0, 9), (2, 0, 13), (2, 0, 17), (2, 0, 21), (3, 0, 0), (3, 0, 0), (3, 0, 0)]) (us := [(0, 0, 0), (2, 0, 26), (2, 0, 27), (2, 0, 28), (0, 0, 0), (1, 0, 0), (0, 1, 0), (0, 0, 0)]) rfl (oeq_eq (by decide +kernel)) (oeq_eq (by decide +kernel)) (by decide) (by decide) (by decide) (by decide) iX2_init_53 ?_
  refine b_inc (z' := 5) (by decide) (by decide +kernel) iX2_init_54 ?_
  refine b_goto iX2_init_57 ?_
  refine b_ild1 iX2_init_35 ?_
  refine b_bipush (by decide +kernel) iX2_init_36 ?_
  refine b_geF (by decide +kernel) iX2_init_38 ?_
  refine b_ld0 iX2_init_41 ?_
  refine b_get (ci := 1) (j := 0) (v := (2, 0, 0)) rfl (by decide) kWX2 rfl kFX2_11 (veq_eq (by decide +kernel)) (by decide) iX2_init_42 ?_
  refine b_ild1 iX2_init_45 ?_
  refine b_new (ci := 0) (k := 29) rfl (by decide +kernel) tczX1 rfl kLX2_9 kZX1 kNX1 kWX1 tyX1_ok dfzX1 iX2_init_46 (by decide) (by decide) ?_
  refine b_dup iX2_init_49 ?_
  refine b_call (j := 29) (k := 30) (n_X1 (K := K)) rfl (by decide +kernel) tczX1 (oeq_eq (by decide +kernel)) (Or.inr (List.mem_of_getElem? (i := 2) rfl)) kIX1_init kCX1_init kNX1 rfl ⟨by decide +kernel, by decide +kernel, by decide +kernel⟩ (by decide) rfl (by decide) (fun _ _ _ => Nat.le_of_ble_eq_true rfl) iX2_init_50 (by decide) (by decide) ?_
  refine b_aast (N := 7) (i := 5) (x := 0) (vs := [(2, 0, 9), (2, 0, 13), (2, 0, 17), (2, 0, 21), (2, 0, 25), (3, 0, 0), (3, 0, 0)]) (us := [(0, 0, 0), (2, 0, 30), (2, 0, 31), (2, 0, 32), (0, 0, 0), (1, 0, 0), (0, 1, 0), (0, 0, 0)]) rfl (oeq_eq (by decide +kernel)) (oeq_eq (by decide +kernel)) (by decide) (by decide) (by decide) (by decide) iX2_init_53 ?_
  refine b_inc (z' := 6) (by decide) (by decide +kernel) iX2_init_54 ?_
  refine b_goto iX2_init_57 ?_
  refine b_ild1 iX2_init_35 ?_
  refine b_bipush (by decide +kernel) iX2_init_36 ?_
  refine b_geF (by decide +kernel) iX2_init_38 ?_
  refine b_ld0 iX2_init_41 ?_
  refine b_get (ci := 1) (j := 0) (v := (2, 0, 0)) rfl (by decide) kWX2 rfl kFX2_11 (veq_eq (by decide +kernel)) (by decide) iX2_init_42 ?_
  refine b_ild1 iX2_init_45 ?_
  refine b_new (ci := 0) (k := 33) rfl (by decide +kernel) tczX1 rfl kLX2_9 kZX1 kNX1 kWX1 tyX1_ok dfzX1 iX2_init_46 (by decide) (by decide) ?_
  refine b_dup iX2_init_49 ?_
  refine b_call (j := 33) (k := 34) (n_X1 (K := K)) rfl (by decide +kernel) tczX1 (oeq_eq (by decide +kernel)) (Or.inr (List.mem_of_getElem? (i := 2) rfl)) kIX1_init kCX1_init kNX1 rfl ⟨by decide +kernel, by decide +kernel, by decide +kernel⟩ (by decide) rfl (by decide) (fun _ _ _ => Nat.le_of_ble_eq_true rfl) iX2_init_50 (by decide) (by decide) ?_
  refine b_aast (N := 7) (i := 6) (x := 0) (vs := [(2, 0, 9), (2, 0, 13), (2, 0, 17), (2, 0, 21), (2, 0, 25), (2, 0, 29), (3, 0, 0)]) (us := [(0, 0, 0), (2, 0, 34), (2, 0, 35), (2, 0, 36), (0, 0, 0), (1, 0, 0), (0, 1, 0), (0, 0, 0)]) rfl (oeq_eq (by decide +kernel)) (oeq_eq (by decide +kernel)) (by decide) (by decide) (by decide) (by decide) iX2_init_53 ?_
  refine b_inc (z' := 7) (by decide) (by decide +kernel) iX2_init_54 ?_
  refine b_goto iX2_init_57 ?_
  refine b_ild1 iX2_init_35 ?_
  refine b_bipush (by decide +kernel) iX2_init_36 ?_
  refine b_geT (by decide +kernel) iX2_init_38 ?_
  exact b_ret iX2_init_60 rfl rfl (deq_eq (by decide +kernel)) (lseq_eq (by decide +kernel))
theorem kLX9_9 : Cond.classLink RX9 9 RX4 ∈ TW := tw_t 31 (by decide +kernel) (by decide +kernel)
theorem kLX9_16 : Cond.classLink RX9 16 RX3 ∈ TW := tw_t 55 (by decide +kernel) (by decide +kernel)
theorem kLX9_23 : Cond.classLink RX9 23 RX2 ∈ TW := tw_t 78 (by decide +kernel) (by decide +kernel)
theorem kLX9_30 : Cond.classLink RX9 30 RX1 ∈ TW := tw_t 134 (by decide +kernel) (by decide +kernel)
theorem kLX9_37 : Cond.classLink RX9 37 RX8 ∈ TW := tw_t 136 (by decide +kernel) (by decide +kernel)
theorem kLX9_44 : Cond.classLink RX9 44 RX6 ∈ TW := tw_t 151 (by decide +kernel) (by decide +kernel)
theorem kLX9_55 : Cond.classLink RX9 55 RX5 ∈ TW := tw_t 167 (by decide +kernel) (by decide +kernel)
def oX9 : Cz := (0, 7, 0, [(2, 0, 0), (2, 0, 2), (2, 0, 6), (2, 0, 44), (2, 0, 48), (2, 0, 50), (2, 0, 51), (2, 0, 52), (2, 0, 100), (0, 0, 0), (0, 0, 0)])
def sX9 : List Cz := [(0, 3, 0, [(2, 0, 1), (0, 0, 0), (0, 0, 0), (0, (-1), 0), (0, 0, 0)]), (1, 0, 400, []), (0, 2, 0, [(2, 0, 3), (2, 0, 4), (2, 0, 5)]), (1, 1, 7, []), (1, 1, 7, []), (1, 0, 6, []), (0, 1, 0, [(2, 0, 7), (2, 0, 8), (2, 0, 15)]), (1, 2, 7, [(2, 0, 16), (2, 0, 20), (2, 0, 24), (2, 0, 28), (2, 0, 32), (2, 0, 36), (2, 0, 40)]), (1, 3, 6, [(2, 0, 9), (2, 0, 10), (2, 0, 11), (2, 0, 12), (2, 0, 13), (2, 0, 14)]), (1, 0, 6, []), (1, 0, 6, []), (1, 0, 6, []), (1, 0, 6, []), (1, 0, 6, []), (1, 0, 6, []), (1, 1, 7, []), (0, 0, 0, [(0, 0, 0), (2, 0, 17), (2, 0, 18), (2, 0, 19), (0, 0, 0), (1, 0, 0), (0, 1, 0), (0, 0, 0)]), (1, 0, 16, []), (1, 1, 16, []), (1, 1, 16, []), (0, 0, 0, [(0, 0, 0), (2, 0, 21), (2, 0, 22), (2, 0, 23), (0, 0, 0), (1, 0, 0), (0, 1, 0), (0, 0, 0)]), (1, 0, 16, []), (1, 1, 16, []), (1, 1, 16, []), (0, 0, 0, [(0, 0, 0), (2, 0, 25), (2, 0, 26), (2, 0, 27), (0, 0, 0), (1, 0, 0), (0, 1, 0), (0, 0, 0)]), (1, 0, 16, []), (1, 1, 16, []), (1, 1, 16, []), (0, 0, 0, [(0, 0, 0), (2, 0, 29), (2, 0, 30), (2, 0, 31), (0, 0, 0), (1, 0, 0), (0, 1, 0), (0, 0, 0)]), (1, 0, 16, []), (1, 1, 16, []), (1, 1, 16, []), (0, 0, 0, [(0, 0, 0), (2, 0, 33), (2, 0, 34), (2, 0, 35), (0, 0, 0), (1, 0, 0), (0, 1, 0), (0, 0, 0)]), (1, 0, 16, []), (1, 1, 16, []), (1, 1, 16, []), (0, 0, 0, [(0, 0, 0), (2, 0, 37), (2, 0, 38), (2, 0, 39), (0, 0, 0), (1, 0, 0), (0, 1, 0), (0, 0, 0)]), (1, 0, 16, []), (1, 1, 16, []), (1, 1, 16, []), (0, 0, 0, [(0, 0, 0), (2, 0, 41), (2, 0, 42), (2, 0, 43), (0, 0, 0), (1, 0, 0), (0, 1, 0), (0, 0, 0)]), (1, 0, 16, []), (1, 1, 16, []), (1, 1, 16, []), (0, 0, 0, [(0, 0, 0), (2, 0, 45), (2, 0, 46), (2, 0, 47), (0, 0, 0), (1, 0, 0), (0, 1, 0), (0, 0, 0)]), (1, 0, 16, []), (1, 1, 16, []), (1, 1, 16, []), (0, 6, 0, [(2, 0, 49), (0, 0, 0)]), (1, 0, 12, []), (0, 5, 0, [(0, 0, 0), (0, (-1), 0), (0, (-1), 0)]), (1, 0, 4, []), (0, 4, 0, [(0, 0, 0), (0, 0, 0), (2, 0, 53), (2, 0, 54), (2, 0, 62), (2, 0, 70), (2, 0, 71), (2, 0, 72), (2, 0, 79), (2, 0, 86), (2, 0, 93)]), (1, 0, 7, []), (1, 3, 7, [(2, 0, 55), (2, 0, 56), (2, 0, 57), (2, 0, 58), (2, 0, 59), (2, 0, 60), (2, 0, 61)]), (1, 0, 6, []), (1, 0, 6, []), (1, 0, 6, []), (1, 0, 6, []), (1, 0, 6, []), (1, 0, 6, []), (1, 0, 6, []), (1, 3, 7, [(2, 0, 63), (2, 0, 64), (2, 0, 65), (2, 0, 66), (2, 0, 67), (2, 0, 68), (2, 0, 69)]), (1, 0, 6, []), (1, 0, 6, []), (1, 0, 6, []), (1, 0, 6, []), (1, 0, 6, []), (1, 0, 6, []), (1, 0, 6, []), (1, 0, 6, []), (1, 0, 6, []), (1, 3, 6, [(2, 0, 73), (2, 0, 74), (2, 0, 75), (2, 0, 76), (2, 0, 77), (2, 0, 78)]), (1, 0, 6, []), (1, 0, 6, []), (1, 0, 6, []), (1, 0, 6, []), (1, 0, 6, []), (1, 0, 6, []), (1, 3, 6, [(2, 0, 80), (2, 0, 81), (2, 0, 82), (2, 0, 83), (2, 0, 84), (2, 0, 85)]), (1, 0, 6, []), (1, 0, 6, []), (1, 0, 6, []), (1, 0, 6, []), (1, 0, 6, []), (1, 0, 6, []), (1, 3, 6, [(2, 0, 87), (2, 0, 88), (2, 0, 89), (2, 0, 90), (2, 0, 91), (2, 0, 92)]), (1, 0, 6, []), (1, 0, 6, []), (1, 0, 6, []), (1, 0, 6, []), (1, 0, 6, []), (1, 0, 6, []), (1, 4, 6, [(2, 0, 94), (2, 0, 95), (2, 0, 96), (2, 0, 97), (2, 0, 98), (2, 0, 99)]), (1, 1, 6, []), (1, 1, 6, []), (1, 1, 6, []), (1, 1, 6, []), (1, 1, 6, []), (1, 1, 6, []), (0, 4, 0, [(0, 0, 0), (0, 0, 0), (2, 0, 101), (2, 0, 102), (2, 0, 110), (2, 0, 118), (2, 0, 119), (2, 0, 120), (2, 0, 127), (2, 0, 134), (2, 0, 141)]), (1, 0, 7, []), (1, 3, 7, [(2, 0, 103), (2, 0, 104), (2, 0, 105), (2, 0, 106), (2, 0, 107), (2, 0, 108), (2, 0, 109)]), (1, 0, 6, []), (1, 0, 6, []), (1, 0, 6, []), (1, 0, 6, []), (1, 0, 6, []), (1, 0, 6, []), (1, 0, 6, []), (1, 3, 7, [(2, 0, 111), (2, 0, 112), (2, 0, 113), (2, 0, 114), (2, 0, 115), (2, 0, 116), (2, 0, 117)]), (1, 0, 6, []), (1, 0, 6, []), (1, 0, 6, []), (1, 0, 6, []), (1, 0, 6, []), (1, 0, 6, []), (1, 0, 6, []), (1, 0, 6, []), (1, 0, 6, []), (1, 3, 6, [(2, 0, 121), (2, 0, 122), (2, 0, 123), (2, 0, 124), (2, 0, 125), (2, 0, 126)]), (1, 0, 6, []), (1, 0, 6, []), (1, 0, 6, []), (1, 0, 6, []), (1, 0, 6, []), (1, 0, 6, []), (1, 3, 6, [(2, 0, 128), (2, 0, 129), (2, 0, 130), (2, 0, 131), (2, 0, 132), (2, 0, 133)]), (1, 0, 6, []), (1, 0, 6, []), (1, 0, 6, []), (1, 0, 6, []), (1, 0, 6, []), (1, 0, 6, []), (1, 3, 6, [(2, 0, 135), (2, 0, 136), (2, 0, 137), (2, 0, 138), (2, 0, 139), (2, 0, 140)]), (1, 0, 6, []), (1, 0, 6, []), (1, 0, 6, []), (1, 0, 6, []), (1, 0, 6, []), (1, 0, 6, []), (1, 4, 6, [(2, 0, 142), (2, 0, 143), (2, 0, 144), (2, 0, 145), (2, 0, 146), (2, 0, 147)]), (1, 1, 6, []), (1, 1, 6, []), (1, 1, 6, []), (1, 1, 6, []), (1, 1, 6, []), (1, 1, 6, [])]
set_option maxHeartbeats 4000000 in
theorem n_X9 {K : Kx} : Cc K YX9_init 7 3 148 1548 oX9 sX9 := by
  refine Cc.intro (mL := 0) (by decide) rfl rfl rfl tczX9 (fun D n => ?_)
  refine b_ld0 iX9_init_0 ?_
  refine b_obj kOX9 kOi kOc (by decide) iX9_init_1 ?_
  refine b_ld0 iX9_init_4 ?_
  refine b_new (ci := 3) (k := 0) rfl (by decide +kernel) tczX4 rfl kLX9_9 kZX4 kNX4 kWX4 tyX4_ok dfzX4 iX9_init_5 (by decide) (by decide) ?_
  refine b_dup iX9_init_8 ?_
  refine b_call (j := 0) (k := 1) (n_X4 (K := K)) rfl (by decide +kernel) tczX4 (oeq_eq (by decide +kernel)) (Or.inr (List.mem_of_getElem? (i := 0) rfl)) kIX4_init kCX4_init kNX4 rfl ⟨by decide +kernel, by decide +kernel, by decide +kernel⟩ (by decide) rfl (by decide) (fun _ _ _ => Nat.le_of_ble_eq_true rfl) iX9_init_9 (by decide) (by decide) ?_
  refine b_put (ci := 7) (j := 0) (ty := tyX9 0) rfl (by decide) kWX9 rfl kFX9_12 tyX9_ok nmX9 rfl (tyX9_ok 0 (by decide)) (by decide) (fun _ _ => rfl) (fun _ _ => rfl) (by decide +kernel) iX9_init_12 ?_
  refine b_ld0 iX9_init_15 ?_
  refine b_new (ci := 2) (k := 2) rfl (by decide +kernel) tczX3 rfl kLX9_16 kZX3 kNX3 kWX3 tyX3_ok dfzX3 iX9_init_16 (by decide) (by decide) ?_
  refine b_dup iX9_init_19 ?_
  refine b_call (j := 2) (k := 3) (n_X3 (K := K)) rfl (by decide +kernel) tczX3 (oeq_eq (by decide +kernel)) (Or.inr (List.mem_of_getElem? (i := 1) rfl)) kIX3_init kCX3_init kNX3 rfl ⟨by decide +kernel, by decide +kernel, by decide +kernel⟩ (by decide) rfl (by decide) (fun _ _ _ => Nat.le_of_ble_eq_true rfl) iX9_init_20 (by decide) (by decide) ?_
  refine b_put (ci := 7) (j := 1) (ty := tyX9 1) rfl (by decide) kWX9 rfl kFX9_19 tyX9_ok nmX9 rfl (tyX9_ok 1 (by decide)) (by decide) (fun _ _ => rfl) (fun _ _ => rfl) (by decide +kernel) iX9_init_23 ?_
  refine b_ld0 iX9_init_26 ?_
  refine b_new (ci := 1) (k := 6) rfl (by decide +kernel) tczX2 rfl kLX9_23 kZX2 kNX2 kWX2 tyX2_ok dfzX2 iX9_init_27 (by decide) (by decide) ?_
  refine b_dup iX9_init_30 ?_
  refine b_call (j := 6) (k := 7) (n_X2 (K := K)) rfl (by decide +kernel) tczX2 (oeq_eq (by decide +kernel)) (Or.inl kMX9_25) kIX2_init kCX2_init kNX2 rfl ⟨by decide +kernel, by decide +kernel, by decide +kernel⟩ (by decide) rfl (by decide) (fun _ _ _ => Nat.le_of_ble_eq_true rfl) iX9_init_31 (by decide) (by decide) ?_
  refine b_put (ci := 7) (j := 2) (ty := tyX9 2) rfl (by decide) kWX9 rfl kFX9_26 tyX9_ok nmX9 rfl (tyX9_ok 2 (by decide)) (by decide) (fun _ _ => rfl) (fun _ _ => rfl) (by decide +kernel) iX9_init_34 ?_
  refine b_ld0 iX9_init_37 ?_
  refine b_new (ci := 0) (k := 44) rfl (by decide +kernel) tczX1 rfl kLX9_30 kZX1 kNX1 kWX1 tyX1_ok dfzX1 iX9_init_38 (by decide) (by decide) ?_
  refine b_dup iX9_init_41 ?_
  refine b_call (j := 44) (k := 45) (n_X1 (K := K)) rfl (by decide +kernel) tczX1 (oeq_eq (by decide +kernel)) (Or.inr (List.mem_of_getElem? (i := 3) rfl)) kIX1_init kCX1_init kNX1 rfl ⟨by decide +kernel, by decide +kernel, by decide +kernel⟩ (by decide) rfl (by decide) (fun _ _ _ => Nat.le_of_ble_eq_true rfl) iX9_init_42 (by decide) (by decide) ?_
  refine b_put (ci := 7) (j := 3) (ty := tyX9 3) rfl (by decide) kWX9 rfl kFX9_33 tyX9_ok nmX9 rfl (tyX9_ok 3 (by decide)) (by decide) (fun _ _ => rfl) (fun _ _ => rfl) (by decide +kernel) iX9_init_45 ?_
  refine b_ld0 iX9_init_48 ?_
  refine b_new (ci := 6) (k := 48) rfl (by decide +kernel) tczX8 rfl kLX9_37 kZX8 kNX8 kWX8 tyX8_ok dfzX8 iX9_init_49 (by decide) (by decide) ?_
  refine b_dup iX9_init_52 ?_
  refine b_call (j := 48) (k := 49) (n_X8 (K := K)) rfl (by decide +kernel) tczX8 (oeq_eq (by decide +kernel)) (Or.inr (List.mem_of_getElem? (i := 4) rfl)) kIX8_init kCX8_init kNX8 rfl ⟨by decide +kernel, by decide +kernel, by decide +kernel⟩ (by decide) rfl (by decide) (fun _ _ _ => Nat.le_of_ble_eq_true rfl) iX9_init_53 (by decide) (by decide) ?_
  refine b_put (ci := 7) (j := 4) (ty := tyX9 4) rfl (by decide) kWX9 rfl kFX9_40 tyX9_ok nmX9 rfl (tyX9_ok 4 (by decide)) (by decide) (fun _ _ => rfl) (fun _ _ => rfl) (by decide +kernel) iX9_init_56 ?_
  refine b_ld0 iX9_init_59 ?_
  refine b_new (ci := 5) (k := 50) rfl (by decide +kernel) tczX6 rfl kLX9_44 kZX6 kNX6 kWX6 tyX6_ok dfzX6 iX9_init_60 (by decide) (by decide) ?_
  refine b_dup iX9_init_63 ?_
  refine b_call (j := 50) (k := 51) (n_X6 (K := K)) rfl (by decide +kernel) tczX6 (oeq_eq (by decide +kernel)) (Or.inr (List.mem_of_getElem? (i := 5) rfl)) kIX6_init kCX6_init kNX6 rfl ⟨by decide +kernel, by decide +kernel, by decide +kernel⟩ (by decide) rfl (by decide) (fun _ _ _ => Nat.le_of_ble_eq_true rfl) iX9_init_64 (by decide) (by decide) ?_
  refine b_put (ci := 7) (j := 5) (ty := tyX9 5) rfl (by decide) kWX9 rfl kFX9_47 tyX9_ok nmX9 rfl (tyX9_ok 5 (by decide)) (by decide) (fun _ _ => rfl) (fun _ _ => rfl) (by decide +kernel) iX9_init_67 ?_
  refine b_ld0 iX9_init_70 ?_
  refine b_iconst iX9_init_71 ?_
  refine b_newI (N := 4) (k := 51) rfl (by decide +kernel) (by decide) (by decide) iX9_init_72 (by decide) (by decide) ?_
  refine b_put (ci := 7) (j := 6) (ty := tyX9 6) rfl (by decide) kWX9 rfl kFX9_51 tyX9_ok nmX9 rfl (tyX9_ok 6 (by decide)) (by decide) (fun _ _ => rfl) (fun _ _ => rfl) (by decide +kernel) iX9_init_74 ?_
  refine b_ld0 iX9_init_77 ?_
  refine b_new (ci := 4) (k := 52) rfl (by decide +kernel) tczX5 rfl kLX9_55 kZX5 kNX5 kWX5 tyX5_ok dfzX5 iX9_init_78 (by decide) (by decide) ?_
  refine b_dup iX9_init_81 ?_
  refine b_call (j := 52) (k := 53) (n_X5 (K := K)) rfl (by decide +kernel) tczX5 (oeq_eq (by decide +kernel)) (Or.inr (List.mem_of_getElem? (i := 6) rfl)) kIX5_init kCX5_init kNX5 rfl ⟨by decide +kernel, by decide +kernel, by decide +kernel⟩ (by decide) rfl (by decide) (fun _ _ _ => Nat.le_of_ble_eq_true rfl) iX9_init_82 (by decide) (by decide) ?_
  refine b_put (ci := 7) (j := 7) (ty := tyX9 7) rfl (by decide) kWX9 rfl kFX9_58 tyX9_ok nmX9 rfl (tyX9_ok 7 (by decide)) (by decide) (fun _ _ => rfl) (fun _ _ => rfl) (by decide +kernel) iX9_init_85 ?_
  refine b_ld0 iX9_init_88 ?_
  refine b_new (ci := 4) (k := 100) rfl (by decide +kernel) tczX5 rfl kLX9_55 kZX5 kNX5 kWX5 tyX5_ok dfzX5 iX9_init_89 (by decide) (by decide) ?_
  refine b_dup iX9_init_92 ?_
  refine b_call (j := 100) (k := 101) (n_X5 (K := K)) rfl (by decide +kernel) tczX5 (oeq_eq (by decide +kernel)) (Or.inr (List.mem_of_getElem? (i := 6) rfl)) kIX5_init kCX5_init kNX5 rfl ⟨by decide +kernel, by decide +kernel, by decide +kernel⟩ (by decide) rfl (by decide) (fun _ _ _ => Nat.le_of_ble_eq_true rfl) iX9_init_93 (by decide) (by decide) ?_
  refine b_put (ci := 7) (j := 8) (ty := tyX9 8) rfl (by decide) kWX9 rfl kFX9_62 tyX9_ok nmX9 rfl (tyX9_ok 8 (by decide)) (by decide) (fun _ _ => rfl) (fun _ _ => rfl) (by decide +kernel) iX9_init_96 ?_
  refine b_ld0 iX9_init_99 ?_
  refine b_iconst iX9_init_100 ?_
  refine b_put (ci := 7) (j := 9) (ty := tyX9 9) rfl (by decide) kWX9 rfl kFX9_65 tyX9_ok nmX9 rfl (tyX9_ok 9 (by decide)) (by decide) (fun _ _ => by show narrow .boolean (.int (Int32.ofInt 0)) = .int (Int32.ofInt 0); rfl) (fun _ _ => by show fits .boolean (.int (Int32.ofInt 0)) = true; rfl) (by decide +kernel) iX9_init_101 ?_
  refine b_ld0 iX9_init_104 ?_
  refine b_iconst iX9_init_105 ?_
  refine b_put (ci := 7) (j := 10) (ty := tyX9 10) rfl (by decide) kWX9 rfl kFX9_69 tyX9_ok nmX9 rfl (tyX9_ok 10 (by decide)) (by decide) (fun _ _ => by show narrow .boolean (.int (Int32.ofInt 0)) = .int (Int32.ofInt 0); rfl) (fun _ _ => by show fits .boolean (.int (Int32.ofInt 0)) = true; rfl) (by decide +kernel) iX9_init_106 ?_
  exact b_ret iX9_init_109 rfl rfl (deq_eq (by decide +kernel)) (lseq_eq (by decide +kernel))
