/-! the constructors, part by part -/
set_option maxHeartbeats 4000000 in
set_option maxRecDepth 100000 in
theorem n_X0 {l : Launch} {D : DD} (a : Nat) : Cn l yX0_init cX0_init 1 1 12 0 0 D (KK D) a 0 [.int 0] [] (fun ws => ws = [(a, .inr (0, [.int 0]))]) := by
  refine Cn.of [(.ref a)] (by decide) (Nat.le_of_ble_eq_true rfl) rfl rfl (fun _ h => h) ?_
  rintro X C rfl rfl hxn hmc hms hKX hin hr hQ
  have hc : ∀ i, i ≤ 0 → i ≤ xcells X := fun i h => hmc ▸ h
  have hs : ∀ i, i ≤ 0 → i ≤ xslots X := fun i h => hms ▸ h
  refine N_aload_0 (q := 1) C rfl dX0_init_0 ?_
  refine N_obj (q := 4) C wb_X0 (by decide) (by decide) rfl dX0_init_1 ?_
  refine N_aload_0 (q := 5) C rfl dX0_init_4 ?_
  refine N_iconst (q := 6) (v := 0) C rfl rfl dX0_init_5 ?_
  refine N_put (q := 9) (i := 0) (ty := .int) (ws' := [(a, .inr (0, [.int 0]))]) C 0 rfl rfl inT0 tyX0_ok nmX0 (by decide) wf_X0_7 rfl rfl rfl rfl (Nat.le_of_ble_eq_true rfl) rfl rfl dX0_init_6 ?_
  exact N_vret C hr hQ (hc _ (by decide)) (hs _ (by decide)) dX0_init_9 rfl
set_option maxHeartbeats 4000000 in
set_option maxRecDepth 100000 in
theorem n_X1 {l : Launch} {D : DD} (a : Nat) : Cn l yX1_init cX1_init 1 1 12 8 72 D (KK D) a 1 [.int 0, .int 0, .int 0, .null, .null, .null, .null, .null, .null, .null, .null] [] (fun ws => ∃ r1 r2 r3 r4 r5 r6 r7 r8 : Nat, ws = [(a, .inr (1, [.int 0, .int 0, .int 0, .ref r1, .ref r2, .ref r3, .ref r4, .ref r5, .ref r6, .ref r7, .ref r8])), (r1, cI D 6 z0), (r2, cI D 6 z0), (r3, cI D 6 z0), (r4, cI D 6 z0), (r5, cI D 6 z0), (r6, cI D 6 z0), (r7, cI D 6 z0), (r8, cI D 30 z0)]) := by
  refine Cn.of [(.ref a)] (by decide) (Nat.le_of_ble_eq_true rfl) rfl rfl (fun _ h => h) ?_
  rintro X C rfl rfl hxn hmc hms hKX hin hr hQ
  have hc : ∀ i, i ≤ 8 → i ≤ xcells X := fun i h => hmc ▸ h
  have hs : ∀ i, i ≤ 72 → i ≤ xslots X := fun i h => hms ▸ h
  refine N_aload_0 (q := 1) C rfl dX1_init_0 ?_
  refine N_obj (q := 4) C wb_X1 (by decide) (by decide) rfl dX1_init_1 ?_
  refine N_aload_0 (q := 5) C rfl dX1_init_4 ?_
  refine N_iconst (q := 6) (v := 0) C rfl rfl dX1_init_5 ?_
  refine N_put (q := 9) (i := 0) (ty := .int) (ws' := [(a, .inr (1, [.int 0, .int 0, .int 0, .null, .null, .null, .null, .null, .null, .null, .null]))]) C 0 rfl rfl inT1 tyX1_ok nmX1 (by decide) wf_X1_9 rfl rfl rfl rfl (Nat.le_of_ble_eq_true rfl) rfl rfl dX1_init_6 ?_
  refine N_aload_0 (q := 10) C rfl dX1_init_9 ?_
  refine N_iconst (q := 11) (v := 0) C rfl rfl dX1_init_10 ?_
  refine N_put (q := 14) (i := 1) (ty := .int) (ws' := [(a, .inr (1, [.int 0, .int 0, .int 0, .null, .null, .null, .null, .null, .null, .null, .null]))]) C 0 rfl rfl inT1 tyX1_ok nmX1 (by decide) wf_X1_15 rfl rfl rfl rfl (Nat.le_of_ble_eq_true rfl) rfl rfl dX1_init_11 ?_
  refine N_aload_0 (q := 15) C rfl dX1_init_14 ?_
  refine N_iconst (q := 16) (v := 0) C rfl rfl dX1_init_15 ?_
  refine N_put (q := 19) (i := 2) (ty := .int) (ws' := [(a, .inr (1, [.int 0, .int 0, .int 0, .null, .null, .null, .null, .null, .null, .null, .null]))]) C 0 rfl rfl inT1 tyX1_ok nmX1 (by decide) wf_X1_18 rfl rfl rfl rfl (Nat.le_of_ble_eq_true rfl) rfl rfl dX1_init_16 ?_
  refine N_aload_0 (q := 20) C rfl dX1_init_19 ?_
  refine N_bipush (q := 22) (v := 6) C (by decide) rfl dX1_init_20 ?_
  refine N_newi (q := 24) C 6 rfl (by decide) (hc _ (by decide)) (hs _ (by decide)) rfl dX1_init_22 (fun r1 => ?_)
  refine N_w (ws' := [(a, .inr (1, [.int 0, .int 0, .int 0, .null, .null, .null, .null, .null, .null, .null, .null])), (r1, cI (xD X) 6 z0)]) (k' := 1) (z' := 6) rfl rfl rfl ?_
  refine N_putF (q := 27) (i := 3) (ty := .array .int) (ws' := [(a, .inr (1, [.int 0, .int 0, .int 0, .ref r1, .null, .null, .null, .null, .null, .null, .null])), (r1, cI (xD X) 6 z0)]) C hin 0 rfl rfl inT1 tyX1_ok nmX1 (by decide) wf_X1_21 rfl rfl rfl rfl rfl (Nat.le_of_ble_eq_true rfl) rfl rfl dX1_init_24 ?_
  refine N_aload_0 (q := 28) C rfl dX1_init_27 ?_
  refine N_bipush (q := 30) (v := 6) C (by decide) rfl dX1_init_28 ?_
  refine N_newi (q := 32) C 6 rfl (by decide) (hc _ (by decide)) (hs _ (by decide)) rfl dX1_init_30 (fun r2 => ?_)
  refine N_w (ws' := [(a, .inr (1, [.int 0, .int 0, .int 0, .ref r1, .null, .null, .null, .null, .null, .null, .null])), (r1, cI (xD X) 6 z0), (r2, cI (xD X) 6 z0)]) (k' := 2) (z' := 12) rfl rfl rfl ?_
  refine N_putF (q := 35) (i := 4) (ty := .array .int) (ws' := [(a, .inr (1, [.int 0, .int 0, .int 0, .ref r1, .ref r2, .null, .null, .null, .null, .null, .null])), (r1, cI (xD X) 6 z0), (r2, cI (xD X) 6 z0)]) C hin 0 rfl rfl inT1 tyX1_ok nmX1 (by decide) wf_X1_25 rfl rfl rfl rfl rfl (Nat.le_of_ble_eq_true rfl) rfl rfl dX1_init_32 ?_
  refine N_aload_0 (q := 36) C rfl dX1_init_35 ?_
  refine N_bipush (q := 38) (v := 6) C (by decide) rfl dX1_init_36 ?_
  refine N_newi (q := 40) C 6 rfl (by decide) (hc _ (by decide)) (hs _ (by decide)) rfl dX1_init_38 (fun r3 => ?_)
  refine N_w (ws' := [(a, .inr (1, [.int 0, .int 0, .int 0, .ref r1, .ref r2, .null, .null, .null, .null, .null, .null])), (r1, cI (xD X) 6 z0), (r2, cI (xD X) 6 z0), (r3, cI (xD X) 6 z0)]) (k' := 3) (z' := 18) rfl rfl rfl ?_
  refine N_putF (q := 43) (i := 5) (ty := .array .int) (ws' := [(a, .inr (1, [.int 0, .int 0, .int 0, .ref r1, .ref r2, .ref r3, .null, .null, .null, .null, .null])), (r1, cI (xD X) 6 z0), (r2, cI (xD X) 6 z0), (r3, cI (xD X) 6 z0)]) C hin 0 rfl rfl inT1 tyX1_ok nmX1 (by decide) wf_X1_28 rfl rfl rfl rfl rfl (Nat.le_of_ble_eq_true rfl) rfl rfl dX1_init_40 ?_
  refine N_aload_0 (q := 44) C rfl dX1_init_43 ?_
  refine N_bipush (q := 46) (v := 6) C (by decide) rfl dX1_init_44 ?_
  refine N_newi (q := 48) C 6 rfl (by decide) (hc _ (by decide)) (hs _ (by decide)) rfl dX1_init_46 (fun r4 => ?_)
  refine N_w (ws' := [(a, .inr (1, [.int 0, .int 0, .int 0, .ref r1, .ref r2, .ref r3, .null, .null, .null, .null, .null])), (r1, cI (xD X) 6 z0), (r2, cI (xD X) 6 z0), (r3, cI (xD X) 6 z0), (r4, cI (xD X) 6 z0)]) (k' := 4) (z' := 24) rfl rfl rfl ?_
  refine N_putF (q := 51) (i := 6) (ty := .array .int) (ws' := [(a, .inr (1, [.int 0, .int 0, .int 0, .ref r1, .ref r2, .ref r3, .ref r4, .null, .null, .null, .null])), (r1, cI (xD X) 6 z0), (r2, cI (xD X) 6 z0), (r3, cI (xD X) 6 z0), (r4, cI (xD X) 6 z0)]) C hin 0 rfl rfl inT1 tyX1_ok nmX1 (by decide) wf_X1_31 rfl rfl rfl rfl rfl (Nat.le_of_ble_eq_true rfl) rfl rfl dX1_init_48 ?_
  refine N_aload_0 (q := 52) C rfl dX1_init_51 ?_
  refine N_bipush (q := 54) (v := 6) C (by decide) rfl dX1_init_52 ?_
  refine N_newi (q := 56) C 6 rfl (by decide) (hc _ (by decide)) (hs _ (by decide)) rfl dX1_init_54 (fun r5 => ?_)
  refine N_w (ws' := [(a, .inr (1, [.int 0, .int 0, .int 0, .ref r1, .ref r2, .ref r3, .ref r4, .null, .null, .null, .null])), (r1, cI (xD X) 6 z0), (r2, cI (xD X) 6 z0), (r3, cI (xD X) 6 z0), (r4, cI (xD X) 6 z0), (r5, cI (xD X) 6 z0)]) (k' := 5) (z' := 30) rfl rfl rfl ?_
  refine N_putF (q := 59) (i := 7) (ty := .array .int) (ws' := [(a, .inr (1, [.int 0, .int 0, .int 0, .ref r1, .ref r2, .ref r3, .ref r4, .ref r5, .null, .null, .null])), (r1, cI (xD X) 6 z0), (r2, cI (xD X) 6 z0), (r3, cI (xD X) 6 z0), (r4, cI (xD X) 6 z0), (r5, cI (xD X) 6 z0)]) C hin 0 rfl rfl inT1 tyX1_ok nmX1 (by decide) wf_X1_34 rfl rfl rfl rfl rfl (Nat.le_of_ble_eq_true rfl) rfl rfl dX1_init_56 ?_
  refine N_aload_0 (q := 60) C rfl dX1_init_59 ?_
  refine N_bipush (q := 62) (v := 6) C (by decide) rfl dX1_init_60 ?_
  refine N_newi (q := 64) C 6 rfl (by decide) (hc _ (by decide)) (hs _ (by decide)) rfl dX1_init_62 (fun r6 => ?_)
  refine N_w (ws' := [(a, .inr (1, [.int 0, .int 0, .int 0, .ref r1, .ref r2, .ref r3, .ref r4, .ref r5, .null, .null, .null])), (r1, cI (xD X) 6 z0), (r2, cI (xD X) 6 z0), (r3, cI (xD X) 6 z0), (r4, cI (xD X) 6 z0), (r5, cI (xD X) 6 z0), (r6, cI (xD X) 6 z0)]) (k' := 6) (z' := 36) rfl rfl rfl ?_
  refine N_putF (q := 67) (i := 8) (ty := .array .int) (ws' := [(a, .inr (1, [.int 0, .int 0, .int 0, .ref r1, .ref r2, .ref r3, .ref r4, .ref r5, .ref r6, .null, .null])), (r1, cI (xD X) 6 z0), (r2, cI (xD X) 6 z0), (r3, cI (xD X) 6 z0), (r4, cI (xD X) 6 z0), (r5, cI (xD X) 6 z0), (r6, cI (xD X) 6 z0)]) C hin 0 rfl rfl inT1 tyX1_ok nmX1 (by decide) wf_X1_37 rfl rfl rfl rfl rfl (Nat.le_of_ble_eq_true rfl) rfl rfl dX1_init_64 ?_
  refine N_aload_0 (q := 68) C rfl dX1_init_67 ?_
  refine N_bipush (q := 70) (v := 6) C (by decide) rfl dX1_init_68 ?_
  refine N_newi (q := 72) C 6 rfl (by decide) (hc _ (by decide)) (hs _ (by decide)) rfl dX1_init_70 (fun r7 => ?_)
  refine N_w (ws' := [(a, .inr (1, [.int 0, .int 0, .int 0, .ref r1, .ref r2, .ref r3, .ref r4, .ref r5, .ref r6, .null, .null])), (r1, cI (xD X) 6 z0), (r2, cI (xD X) 6 z0), (r3, cI (xD X) 6 z0), (r4, cI (xD X) 6 z0), (r5, cI (xD X) 6 z0), (r6, cI (xD X) 6 z0), (r7, cI (xD X) 6 z0)]) (k' := 7) (z' := 42) rfl rfl rfl ?_
  refine N_putF (q := 75) (i := 9) (ty := .array .int) (ws' := [(a, .inr (1, [.int 0, .int 0, .int 0, .ref r1, .ref r2, .ref r3, .ref r4, .ref r5, .ref r6, .ref r7, .null])), (r1, cI (xD X) 6 z0), (r2, cI (xD X) 6 z0), (r3, cI (xD X) 6 z0), (r4, cI (xD X) 6 z0), (r5, cI (xD X) 6 z0), (r6, cI (xD X) 6 z0), (r7, cI (xD X) 6 z0)]) C hin 0 rfl rfl inT1 tyX1_ok nmX1 (by decide) wf_X1_40 rfl rfl rfl rfl rfl (Nat.le_of_ble_eq_true rfl) rfl rfl dX1_init_72 ?_
  refine N_aload_0 (q := 76) C rfl dX1_init_75 ?_
  refine N_bipush (q := 78) (v := 30) C (by decide) rfl dX1_init_76 ?_
  refine N_newi (q := 80) C 30 rfl (by decide) (hc _ (by decide)) (hs _ (by decide)) rfl dX1_init_78 (fun r8 => ?_)
  refine N_w (ws' := [(a, .inr (1, [.int 0, .int 0, .int 0, .ref r1, .ref r2, .ref r3, .ref r4, .ref r5, .ref r6, .ref r7, .null])), (r1, cI (xD X) 6 z0), (r2, cI (xD X) 6 z0), (r3, cI (xD X) 6 z0), (r4, cI (xD X) 6 z0), (r5, cI (xD X) 6 z0), (r6, cI (xD X) 6 z0), (r7, cI (xD X) 6 z0), (r8, cI (xD X) 30 z0)]) (k' := 8) (z' := 72) rfl rfl rfl ?_
  refine N_putF (q := 83) (i := 10) (ty := .array .int) (ws' := [(a, .inr (1, [.int 0, .int 0, .int 0, .ref r1, .ref r2, .ref r3, .ref r4, .ref r5, .ref r6, .ref r7, .ref r8])), (r1, cI (xD X) 6 z0), (r2, cI (xD X) 6 z0), (r3, cI (xD X) 6 z0), (r4, cI (xD X) 6 z0), (r5, cI (xD X) 6 z0), (r6, cI (xD X) 6 z0), (r7, cI (xD X) 6 z0), (r8, cI (xD X) 30 z0)]) C hin 0 rfl rfl inT1 tyX1_ok nmX1 (by decide) wf_X1_43 rfl rfl rfl rfl rfl (Nat.le_of_ble_eq_true rfl) rfl rfl dX1_init_80 ?_
  exact N_vret C hr hQ (hc _ (by decide)) (hs _ (by decide)) dX1_init_83 ⟨r1, r2, r3, r4, r5, r6, r7, r8, rfl⟩
set_option maxHeartbeats 4000000 in
set_option maxRecDepth 100000 in
theorem n_X2 {l : Launch} {D : DD} (a : Nat) : Cn l yX2_init cX2_init 1 1 12 3 24 D (KK D) a 2 [.null, .null, .null, .int 0] [] (fun ws => ∃ r1 r2 r3 : Nat, ws = [(a, .inr (2, [.ref r1, .ref r2, .ref r3, .int 0])), (r1, cI D 8 z0), (r2, cI D 8 z0), (r3, cZ D 8 z0)]) := by
  refine Cn.of [(.ref a)] (by decide) (Nat.le_of_ble_eq_true rfl) rfl rfl (fun _ h => h) ?_
  rintro X C rfl rfl hxn hmc hms hKX hin hr hQ
  have hc : ∀ i, i ≤ 3 → i ≤ xcells X := fun i h => hmc ▸ h
  have hs : ∀ i, i ≤ 24 → i ≤ xslots X := fun i h => hms ▸ h
  refine N_aload_0 (q := 1) C rfl dX2_init_0 ?_
  refine N_obj (q := 4) C wb_X2 (by decide) (by decide) rfl dX2_init_1 ?_
  refine N_aload_0 (q := 5) C rfl dX2_init_4 ?_
  refine N_bipush (q := 7) (v := 8) C (by decide) rfl dX2_init_5 ?_
  refine N_newi (q := 9) C 8 rfl (by decide) (hc _ (by decide)) (hs _ (by decide)) rfl dX2_init_7 (fun r1 => ?_)
  refine N_w (ws' := [(a, .inr (2, [.null, .null, .null, .int 0])), (r1, cI (xD X) 8 z0)]) (k' := 1) (z' := 8) rfl rfl rfl ?_
  refine N_putF (q := 12) (i := 0) (ty := .array .int) (ws' := [(a, .inr (2, [.ref r1, .null, .null, .int 0])), (r1, cI (xD X) 8 z0)]) C hin 0 rfl rfl inT2 tyX2_ok nmX2 (by decide) wf_X2_9 rfl rfl rfl rfl rfl (Nat.le_of_ble_eq_true rfl) rfl rfl dX2_init_9 ?_
  refine N_aload_0 (q := 13) C rfl dX2_init_12 ?_
  refine N_bipush (q := 15) (v := 8) C (by decide) rfl dX2_init_13 ?_
  refine N_newi (q := 17) C 8 rfl (by decide) (hc _ (by decide)) (hs _ (by decide)) rfl dX2_init_15 (fun r2 => ?_)
  refine N_w (ws' := [(a, .inr (2, [.ref r1, .null, .null, .int 0])), (r1, cI (xD X) 8 z0), (r2, cI (xD X) 8 z0)]) (k' := 2) (z' := 16) rfl rfl rfl ?_
  refine N_putF (q := 20) (i := 1) (ty := .array .int) (ws' := [(a, .inr (2, [.ref r1, .ref r2, .null, .int 0])), (r1, cI (xD X) 8 z0), (r2, cI (xD X) 8 z0)]) C hin 0 rfl rfl inT2 tyX2_ok nmX2 (by decide) wf_X2_15 rfl rfl rfl rfl rfl (Nat.le_of_ble_eq_true rfl) rfl rfl dX2_init_17 ?_
  refine N_aload_0 (q := 21) C rfl dX2_init_20 ?_
  refine N_bipush (q := 23) (v := 8) C (by decide) rfl dX2_init_21 ?_
  refine N_newz (q := 25) C 8 rfl (by decide) (hc _ (by decide)) (hs _ (by decide)) rfl dX2_init_23 (fun r3 => ?_)
  refine N_w (ws' := [(a, .inr (2, [.ref r1, .ref r2, .null, .int 0])), (r1, cI (xD X) 8 z0), (r2, cI (xD X) 8 z0), (r3, cZ (xD X) 8 z0)]) (k' := 3) (z' := 24) rfl rfl rfl ?_
  refine N_putF (q := 28) (i := 2) (ty := .array .boolean) (ws' := [(a, .inr (2, [.ref r1, .ref r2, .ref r3, .int 0])), (r1, cI (xD X) 8 z0), (r2, cI (xD X) 8 z0), (r3, cZ (xD X) 8 z0)]) C hin 0 rfl rfl inT2 tyX2_ok nmX2 (by decide) wf_X2_18 rfl rfl rfl rfl rfl (Nat.le_of_ble_eq_true rfl) rfl rfl dX2_init_25 ?_
  refine N_aload_0 (q := 29) C rfl dX2_init_28 ?_
  refine N_iconst (q := 30) (v := 0) C rfl rfl dX2_init_29 ?_
  refine N_put (q := 33) (i := 3) (ty := .int) (ws' := [(a, .inr (2, [.ref r1, .ref r2, .ref r3, .int 0])), (r1, cI (xD X) 8 z0), (r2, cI (xD X) 8 z0), (r3, cZ (xD X) 8 z0)]) C 0 rfl rfl inT2 tyX2_ok nmX2 (by decide) wf_X2_22 rfl rfl rfl rfl (Nat.le_of_ble_eq_true rfl) rfl rfl dX2_init_30 ?_
  exact N_vret C hr hQ (hc _ (by decide)) (hs _ (by decide)) dX2_init_33 ⟨r1, r2, r3, rfl⟩
set_option maxHeartbeats 4000000 in
set_option maxRecDepth 100000 in
theorem n_X3 {l : Launch} {D : DD} (a : Nat) (g : Nat) (h : Nat) : Cn l yX3_init cX3_init 3 1 12 1 4 D (KK D) a 3 [.null, .null, .null] [.ref g, .ref h] (fun ws => ∃ r1 : Nat, ws = [(a, .inr (3, [.ref g, .ref h, .ref r1])), (r1, cI D 4 z0)]) := by
  refine Cn.of [(.ref a), (.ref g), (.ref h)] (by decide) (Nat.le_of_ble_eq_true rfl) rfl rfl (fun _ h => h) ?_
  rintro X C rfl rfl hxn hmc hms hKX hin hr hQ
  have hc : ∀ i, i ≤ 1 → i ≤ xcells X := fun i h => hmc ▸ h
  have hs : ∀ i, i ≤ 4 → i ≤ xslots X := fun i h => hms ▸ h
  refine N_aload_0 (q := 1) C rfl dX3_init_0 ?_
  refine N_obj (q := 4) C wb_X3 (by decide) (by decide) rfl dX3_init_1 ?_
  refine N_aload_0 (q := 5) C rfl dX3_init_4 ?_
  refine N_iconst (q := 6) (v := 4) C rfl rfl dX3_init_5 ?_
  refine N_newi (q := 8) C 4 rfl (by decide) (hc _ (by decide)) (hs _ (by decide)) rfl dX3_init_6 (fun r1 => ?_)
  refine N_w (ws' := [(a, .inr (3, [.null, .null, .null])), (r1, cI (xD X) 4 z0)]) (k' := 1) (z' := 4) rfl rfl rfl ?_
  refine N_putF (q := 11) (i := 2) (ty := .array .int) (ws' := [(a, .inr (3, [.null, .null, .ref r1])), (r1, cI (xD X) 4 z0)]) C hin 0 rfl rfl inT3 tyX3_ok nmX3 (by decide) wf_X3_9 rfl rfl rfl rfl rfl (Nat.le_of_ble_eq_true rfl) rfl rfl dX3_init_8 ?_
  refine N_aload_0 (q := 12) C rfl dX3_init_11 ?_
  refine N_aload_1 (q := 13) C rfl dX3_init_12 ?_
  refine N_putF (q := 16) (i := 0) (ty := .object "KeyOrchard$Grove") (ws' := [(a, .inr (3, [.ref g, .null, .ref r1])), (r1, cI (xD X) 4 z0)]) C hin 0 rfl rfl inT3 tyX3_ok nmX3 (by decide) wf_X3_15 rfl rfl rfl rfl rfl (Nat.le_of_ble_eq_true rfl) rfl rfl dX3_init_13 ?_
  refine N_aload_0 (q := 17) C rfl dX3_init_16 ?_
  refine N_aload_2 (q := 18) C rfl dX3_init_17 ?_
  refine N_putF (q := 21) (i := 1) (ty := .object "KeyOrchard$Season") (ws' := [(a, .inr (3, [.ref g, .ref h, .ref r1])), (r1, cI (xD X) 4 z0)]) C hin 0 rfl rfl inT3 tyX3_ok nmX3 (by decide) wf_X3_19 rfl rfl rfl rfl rfl (Nat.le_of_ble_eq_true rfl) rfl rfl dX3_init_18 ?_
  exact N_vret C hr hQ (hc _ (by decide)) (hs _ (by decide)) dX3_init_21 ⟨r1, rfl⟩
set_option maxHeartbeats 4000000 in
set_option maxRecDepth 100000 in
theorem n_X4 {l : Launch} {D : DD} (a : Nat) (g : Nat) : Cn l yX4_init cX4_init 2 1 12 6 108 D (KK D) a 4 [.null, .null, .null, .null, .int 0, .int 0, .null, .null, .null, .int 0] [.ref g] (fun ws => ∃ r1 r2 r3 r4 r5 r6 : Nat, ws = [(a, .inr (4, [.ref g, .ref r1, .ref r2, .ref r3, .int 0, .int 0, .ref r4, .ref r5, .ref r6, .int 0])), (r1, cI D 30 z0), (r2, cI D 30 z0), (r3, cI D 30 z0), (r4, cI D 6 z0), (r5, cI D 6 z0), (r6, cI D 6 z0)]) := by
  refine Cn.of [(.ref a), (.ref g)] (by decide) (Nat.le_of_ble_eq_true rfl) rfl rfl (fun _ h => h) ?_
  rintro X C rfl rfl hxn hmc hms hKX hin hr hQ
  have hc : ∀ i, i ≤ 6 → i ≤ xcells X := fun i h => hmc ▸ h
  have hs : ∀ i, i ≤ 108 → i ≤ xslots X := fun i h => hms ▸ h
  refine N_aload_0 (q := 1) C rfl dX4_init_0 ?_
  refine N_obj (q := 4) C wb_X4 (by decide) (by decide) rfl dX4_init_1 ?_
  refine N_aload_0 (q := 5) C rfl dX4_init_4 ?_
  refine N_bipush (q := 7) (v := 30) C (by decide) rfl dX4_init_5 ?_
  refine N_newi (q := 9) C 30 rfl (by decide) (hc _ (by decide)) (hs _ (by decide)) rfl dX4_init_7 (fun r1 => ?_)
  refine N_w (ws' := [(a, .inr (4, [.null, .null, .null, .null, .int 0, .int 0, .null, .null, .null, .int 0])), (r1, cI (xD X) 30 z0)]) (k' := 1) (z' := 30) rfl rfl rfl ?_
  refine N_putF (q := 12) (i := 1) (ty := .array .int) (ws' := [(a, .inr (4, [.null, .ref r1, .null, .null, .int 0, .int 0, .null, .null, .null, .int 0])), (r1, cI (xD X) 30 z0)]) C hin 0 rfl rfl inT4 tyX4_ok nmX4 (by decide) wf_X4_9 rfl rfl rfl rfl rfl (Nat.le_of_ble_eq_true rfl) rfl rfl dX4_init_9 ?_
  refine N_aload_0 (q := 13) C rfl dX4_init_12 ?_
  refine N_bipush (q := 15) (v := 30) C (by decide) rfl dX4_init_13 ?_
  refine N_newi (q := 17) C 30 rfl (by decide) (hc _ (by decide)) (hs _ (by decide)) rfl dX4_init_15 (fun r2 => ?_)
  refine N_w (ws' := [(a, .inr (4, [.null, .ref r1, .null, .null, .int 0, .int 0, .null, .null, .null, .int 0])), (r1, cI (xD X) 30 z0), (r2, cI (xD X) 30 z0)]) (k' := 2) (z' := 60) rfl rfl rfl ?_
  refine N_putF (q := 20) (i := 2) (ty := .array .int) (ws' := [(a, .inr (4, [.null, .ref r1, .ref r2, .null, .int 0, .int 0, .null, .null, .null, .int 0])), (r1, cI (xD X) 30 z0), (r2, cI (xD X) 30 z0)]) C hin 0 rfl rfl inT4 tyX4_ok nmX4 (by decide) wf_X4_15 rfl rfl rfl rfl rfl (Nat.le_of_ble_eq_true rfl) rfl rfl dX4_init_17 ?_
  refine N_aload_0 (q := 21) C rfl dX4_init_20 ?_
  refine N_bipush (q := 23) (v := 30) C (by decide) rfl dX4_init_21 ?_
  refine N_newi (q := 25) C 30 rfl (by decide) (hc _ (by decide)) (hs _ (by decide)) rfl dX4_init_23 (fun r3 => ?_)
  refine N_w (ws' := [(a, .inr (4, [.null, .ref r1, .ref r2, .null, .int 0, .int 0, .null, .null, .null, .int 0])), (r1, cI (xD X) 30 z0), (r2, cI (xD X) 30 z0), (r3, cI (xD X) 30 z0)]) (k' := 3) (z' := 90) rfl rfl rfl ?_
  refine N_putF (q := 28) (i := 3) (ty := .array .int) (ws' := [(a, .inr (4, [.null, .ref r1, .ref r2, .ref r3, .int 0, .int 0, .null, .null, .null, .int 0])), (r1, cI (xD X) 30 z0), (r2, cI (xD X) 30 z0), (r3, cI (xD X) 30 z0)]) C hin 0 rfl rfl inT4 tyX4_ok nmX4 (by decide) wf_X4_18 rfl rfl rfl rfl rfl (Nat.le_of_ble_eq_true rfl) rfl rfl dX4_init_25 ?_
  refine N_aload_0 (q := 29) C rfl dX4_init_28 ?_
  refine N_iconst (q := 30) (v := 0) C rfl rfl dX4_init_29 ?_
  refine N_put (q := 33) (i := 4) (ty := .int) (ws' := [(a, .inr (4, [.null, .ref r1, .ref r2, .ref r3, .int 0, .int 0, .null, .null, .null, .int 0])), (r1, cI (xD X) 30 z0), (r2, cI (xD X) 30 z0), (r3, cI (xD X) 30 z0)]) C 0 rfl rfl inT4 tyX4_ok nmX4 (by decide) wf_X4_21 rfl rfl rfl rfl (Nat.le_of_ble_eq_true rfl) rfl rfl dX4_init_30 ?_
  refine N_aload_0 (q := 34) C rfl dX4_init_33 ?_
  refine N_iconst (q := 35) (v := 0) C rfl rfl dX4_init_34 ?_
  refine N_put (q := 38) (i := 5) (ty := .int) (ws' := [(a, .inr (4, [.null, .ref r1, .ref r2, .ref r3, .int 0, .int 0, .null, .null, .null, .int 0])), (r1, cI (xD X) 30 z0), (r2, cI (xD X) 30 z0), (r3, cI (xD X) 30 z0)]) C 0 rfl rfl inT4 tyX4_ok nmX4 (by decide) wf_X4_25 rfl rfl rfl rfl (Nat.le_of_ble_eq_true rfl) rfl rfl dX4_init_35 ?_
  refine N_aload_0 (q := 39) C rfl dX4_init_38 ?_
  refine N_bipush (q := 41) (v := 6) C (by decide) rfl dX4_init_39 ?_
  refine N_newi (q := 43) C 6 rfl (by decide) (hc _ (by decide)) (hs _ (by decide)) rfl dX4_init_41 (fun r4 => ?_)
  refine N_w (ws' := [(a, .inr (4, [.null, .ref r1, .ref r2, .ref r3, .int 0, .int 0, .null, .null, .null, .int 0])), (r1, cI (xD X) 30 z0), (r2, cI (xD X) 30 z0), (r3, cI (xD X) 30 z0), (r4, cI (xD X) 6 z0)]) (k' := 4) (z' := 96) rfl rfl rfl ?_
  refine N_putF (q := 46) (i := 6) (ty := .array .int) (ws' := [(a, .inr (4, [.null, .ref r1, .ref r2, .ref r3, .int 0, .int 0, .ref r4, .null, .null, .int 0])), (r1, cI (xD X) 30 z0), (r2, cI (xD X) 30 z0), (r3, cI (xD X) 30 z0), (r4, cI (xD X) 6 z0)]) C hin 0 rfl rfl inT4 tyX4_ok nmX4 (by decide) wf_X4_28 rfl rfl rfl rfl rfl (Nat.le_of_ble_eq_true rfl) rfl rfl dX4_init_43 ?_
  refine N_aload_0 (q := 47) C rfl dX4_init_46 ?_
  refine N_bipush (q := 49) (v := 6) C (by decide) rfl dX4_init_47 ?_
  refine N_newi (q := 51) C 6 rfl (by decide) (hc _ (by decide)) (hs _ (by decide)) rfl dX4_init_49 (fun r5 => ?_)
  refine N_w (ws' := [(a, .inr (4, [.null, .ref r1, .ref r2, .ref r3, .int 0, .int 0, .ref r4, .null, .null, .int 0])), (r1, cI (xD X) 30 z0), (r2, cI (xD X) 30 z0), (r3, cI (xD X) 30 z0), (r4, cI (xD X) 6 z0), (r5, cI (xD X) 6 z0)]) (k' := 5) (z' := 102) rfl rfl rfl ?_
  refine N_putF (q := 54) (i := 7) (ty := .array .int) (ws' := [(a, .inr (4, [.null, .ref r1, .ref r2, .ref r3, .int 0, .int 0, .ref r4, .ref r5, .null, .int 0])), (r1, cI (xD X) 30 z0), (r2, cI (xD X) 30 z0), (r3, cI (xD X) 30 z0), (r4, cI (xD X) 6 z0), (r5, cI (xD X) 6 z0)]) C hin 0 rfl rfl inT4 tyX4_ok nmX4 (by decide) wf_X4_31 rfl rfl rfl rfl rfl (Nat.le_of_ble_eq_true rfl) rfl rfl dX4_init_51 ?_
  refine N_aload_0 (q := 55) C rfl dX4_init_54 ?_
  refine N_bipush (q := 57) (v := 6) C (by decide) rfl dX4_init_55 ?_
  refine N_newi (q := 59) C 6 rfl (by decide) (hc _ (by decide)) (hs _ (by decide)) rfl dX4_init_57 (fun r6 => ?_)
  refine N_w (ws' := [(a, .inr (4, [.null, .ref r1, .ref r2, .ref r3, .int 0, .int 0, .ref r4, .ref r5, .null, .int 0])), (r1, cI (xD X) 30 z0), (r2, cI (xD X) 30 z0), (r3, cI (xD X) 30 z0), (r4, cI (xD X) 6 z0), (r5, cI (xD X) 6 z0), (r6, cI (xD X) 6 z0)]) (k' := 6) (z' := 108) rfl rfl rfl ?_
  refine N_putF (q := 62) (i := 8) (ty := .array .int) (ws' := [(a, .inr (4, [.null, .ref r1, .ref r2, .ref r3, .int 0, .int 0, .ref r4, .ref r5, .ref r6, .int 0])), (r1, cI (xD X) 30 z0), (r2, cI (xD X) 30 z0), (r3, cI (xD X) 30 z0), (r4, cI (xD X) 6 z0), (r5, cI (xD X) 6 z0), (r6, cI (xD X) 6 z0)]) C hin 0 rfl rfl inT4 tyX4_ok nmX4 (by decide) wf_X4_34 rfl rfl rfl rfl rfl (Nat.le_of_ble_eq_true rfl) rfl rfl dX4_init_59 ?_
  refine N_aload_0 (q := 63) C rfl dX4_init_62 ?_
  refine N_iconst (q := 64) (v := 0) C rfl rfl dX4_init_63 ?_
  refine N_put (q := 67) (i := 9) (ty := .int) (ws' := [(a, .inr (4, [.null, .ref r1, .ref r2, .ref r3, .int 0, .int 0, .ref r4, .ref r5, .ref r6, .int 0])), (r1, cI (xD X) 30 z0), (r2, cI (xD X) 30 z0), (r3, cI (xD X) 30 z0), (r4, cI (xD X) 6 z0), (r5, cI (xD X) 6 z0), (r6, cI (xD X) 6 z0)]) C 0 rfl rfl inT4 tyX4_ok nmX4 (by decide) wf_X4_37 rfl rfl rfl rfl (Nat.le_of_ble_eq_true rfl) rfl rfl dX4_init_64 ?_
  refine N_aload_0 (q := 68) C rfl dX4_init_67 ?_
  refine N_aload_1 (q := 69) C rfl dX4_init_68 ?_
  refine N_putF (q := 72) (i := 0) (ty := .object "KeyOrchard$Grove") (ws' := [(a, .inr (4, [.ref g, .ref r1, .ref r2, .ref r3, .int 0, .int 0, .ref r4, .ref r5, .ref r6, .int 0])), (r1, cI (xD X) 30 z0), (r2, cI (xD X) 30 z0), (r3, cI (xD X) 30 z0), (r4, cI (xD X) 6 z0), (r5, cI (xD X) 6 z0), (r6, cI (xD X) 6 z0)]) C hin 0 rfl rfl inT4 tyX4_ok nmX4 (by decide) wf_X4_40 rfl rfl rfl rfl rfl (Nat.le_of_ble_eq_true rfl) rfl rfl dX4_init_69 ?_
  exact N_vret C hr hQ (hc _ (by decide)) (hs _ (by decide)) dX4_init_72 ⟨r1, r2, r3, r4, r5, r6, rfl⟩
set_option maxHeartbeats 4000000 in
set_option maxRecDepth 100000 in
theorem n_X5 {l : Launch} {D : DD} (a : Nat) : Cn l yX5_init cX5_init 1 1 12 1 50 D (KK D) a 5 [.null, .int 0, .int 0, .int 0] [] (fun ws => ∃ r1 : Nat, ws = [(a, .inr (5, [.ref r1, .int 0, .int 0, .int 0])), (r1, cI D 50 z0)]) := by
  refine Cn.of [(.ref a)] (by decide) (Nat.le_of_ble_eq_true rfl) rfl rfl (fun _ h => h) ?_
  rintro X C rfl rfl hxn hmc hms hKX hin hr hQ
  have hc : ∀ i, i ≤ 1 → i ≤ xcells X := fun i h => hmc ▸ h
  have hs : ∀ i, i ≤ 50 → i ≤ xslots X := fun i h => hms ▸ h
  refine N_aload_0 (q := 1) C rfl dX5_init_0 ?_
  refine N_obj (q := 4) C wb_X5 (by decide) (by decide) rfl dX5_init_1 ?_
  refine N_aload_0 (q := 5) C rfl dX5_init_4 ?_
  refine N_bipush (q := 7) (v := 50) C (by decide) rfl dX5_init_5 ?_
  refine N_newi (q := 9) C 50 rfl (by decide) (hc _ (by decide)) (hs _ (by decide)) rfl dX5_init_7 (fun r1 => ?_)
  refine N_w (ws' := [(a, .inr (5, [.null, .int 0, .int 0, .int 0])), (r1, cI (xD X) 50 z0)]) (k' := 1) (z' := 50) rfl rfl rfl ?_
  refine N_putF (q := 12) (i := 0) (ty := .array .int) (ws' := [(a, .inr (5, [.ref r1, .int 0, .int 0, .int 0])), (r1, cI (xD X) 50 z0)]) C hin 0 rfl rfl inT5 tyX5_ok nmX5 (by decide) wf_X5_9 rfl rfl rfl rfl rfl (Nat.le_of_ble_eq_true rfl) rfl rfl dX5_init_9 ?_
  refine N_aload_0 (q := 13) C rfl dX5_init_12 ?_
  refine N_iconst (q := 14) (v := 0) C rfl rfl dX5_init_13 ?_
  refine N_put (q := 17) (i := 1) (ty := .boolean) (ws' := [(a, .inr (5, [.ref r1, .int 0, .int 0, .int 0])), (r1, cI (xD X) 50 z0)]) C 0 rfl rfl inT5 tyX5_ok nmX5 (by decide) wf_X5_15 rfl rfl rfl rfl (Nat.le_of_ble_eq_true rfl) rfl rfl dX5_init_14 ?_
  refine N_aload_0 (q := 18) C rfl dX5_init_17 ?_
  refine N_iconst (q := 19) (v := 0) C rfl rfl dX5_init_18 ?_
  refine N_put (q := 22) (i := 2) (ty := .int) (ws' := [(a, .inr (5, [.ref r1, .int 0, .int 0, .int 0])), (r1, cI (xD X) 50 z0)]) C 0 rfl rfl inT5 tyX5_ok nmX5 (by decide) wf_X5_19 rfl rfl rfl rfl (Nat.le_of_ble_eq_true rfl) rfl rfl dX5_init_19 ?_
  refine N_aload_0 (q := 23) C rfl dX5_init_22 ?_
  refine N_iconst (q := 24) (v := 0) C rfl rfl dX5_init_23 ?_
  refine N_put (q := 27) (i := 3) (ty := .int) (ws' := [(a, .inr (5, [.ref r1, .int 0, .int 0, .int 0])), (r1, cI (xD X) 50 z0)]) C 0 rfl rfl inT5 tyX5_ok nmX5 (by decide) wf_X5_23 rfl rfl rfl rfl (Nat.le_of_ble_eq_true rfl) rfl rfl dX5_init_24 ?_
  exact N_vret C hr hQ (hc _ (by decide)) (hs _ (by decide)) dX5_init_27 ⟨r1, rfl⟩
set_option maxHeartbeats 4000000 in
set_option maxRecDepth 100000 in
theorem n_X6 {l : Launch} {D : DD} (a : Nat) : Cn l yX6_init cX6_init 1 1 12 1 50 D (KK D) a 6 [.null, .int 0, .int 0, .int 0] [] (fun ws => ∃ r1 : Nat, ws = [(a, .inr (6, [.ref r1, .int 0, .int 0, .int 0])), (r1, cI D 50 z0)]) := by
  refine Cn.of [(.ref a)] (by decide) (Nat.le_of_ble_eq_true rfl) rfl rfl (fun _ h => h) ?_
  rintro X C rfl rfl hxn hmc hms hKX hin hr hQ
  have hc : ∀ i, i ≤ 1 → i ≤ xcells X := fun i h => hmc ▸ h
  have hs : ∀ i, i ≤ 50 → i ≤ xslots X := fun i h => hms ▸ h
  refine N_aload_0 (q := 1) C rfl dX6_init_0 ?_
  refine N_obj (q := 4) C wb_X6 (by decide) (by decide) rfl dX6_init_1 ?_
  refine N_aload_0 (q := 5) C rfl dX6_init_4 ?_
  refine N_bipush (q := 7) (v := 50) C (by decide) rfl dX6_init_5 ?_
  refine N_newi (q := 9) C 50 rfl (by decide) (hc _ (by decide)) (hs _ (by decide)) rfl dX6_init_7 (fun r1 => ?_)
  refine N_w (ws' := [(a, .inr (6, [.null, .int 0, .int 0, .int 0])), (r1, cI (xD X) 50 z0)]) (k' := 1) (z' := 50) rfl rfl rfl ?_
  refine N_putF (q := 12) (i := 0) (ty := .array .int) (ws' := [(a, .inr (6, [.ref r1, .int 0, .int 0, .int 0])), (r1, cI (xD X) 50 z0)]) C hin 0 rfl rfl inT6 tyX6_ok nmX6 (by decide) wf_X6_9 rfl rfl rfl rfl rfl (Nat.le_of_ble_eq_true rfl) rfl rfl dX6_init_9 ?_
  refine N_aload_0 (q := 13) C rfl dX6_init_12 ?_
  refine N_iconst (q := 14) (v := 0) C rfl rfl dX6_init_13 ?_
  refine N_put (q := 17) (i := 1) (ty := .int) (ws' := [(a, .inr (6, [.ref r1, .int 0, .int 0, .int 0])), (r1, cI (xD X) 50 z0)]) C 0 rfl rfl inT6 tyX6_ok nmX6 (by decide) wf_X6_15 rfl rfl rfl rfl (Nat.le_of_ble_eq_true rfl) rfl rfl dX6_init_14 ?_
  refine N_aload_0 (q := 18) C rfl dX6_init_17 ?_
  refine N_iconst (q := 19) (v := 0) C rfl rfl dX6_init_18 ?_
  refine N_put (q := 22) (i := 2) (ty := .int) (ws' := [(a, .inr (6, [.ref r1, .int 0, .int 0, .int 0])), (r1, cI (xD X) 50 z0)]) C 0 rfl rfl inT6 tyX6_ok nmX6 (by decide) wf_X6_19 rfl rfl rfl rfl (Nat.le_of_ble_eq_true rfl) rfl rfl dX6_init_19 ?_
  refine N_aload_0 (q := 23) C rfl dX6_init_22 ?_
  refine N_iconst (q := 24) (v := 0) C rfl rfl dX6_init_23 ?_
  refine N_put (q := 27) (i := 3) (ty := .int) (ws' := [(a, .inr (6, [.ref r1, .int 0, .int 0, .int 0])), (r1, cI (xD X) 50 z0)]) C 0 rfl rfl inT6 tyX6_ok nmX6 (by decide) wf_X6_22 rfl rfl rfl rfl (Nat.le_of_ble_eq_true rfl) rfl rfl dX6_init_24 ?_
  exact N_vret C hr hQ (hc _ (by decide)) (hs _ (by decide)) dX6_init_27 ⟨r1, rfl⟩
set_option maxHeartbeats 4000000 in
set_option maxRecDepth 100000 in
theorem n_X7 {l : Launch} {D : DD} (a : Nat) : Cn l yX7_init cX7_init 1 1 12 4 72 D (KK D) a 7 [.null, .null, .null, .null, .int 0, .int 0] [] (fun ws => ∃ r1 r2 r3 r4 : Nat, ws = [(a, .inr (7, [.ref r1, .ref r2, .ref r3, .ref r4, .int 0, .int 0])), (r1, cI D 30 z0), (r2, cI D 30 z0), (r3, cI D 6 z0), (r4, cI D 6 z0)]) := by
  refine Cn.of [(.ref a)] (by decide) (Nat.le_of_ble_eq_true rfl) rfl rfl (fun _ h => h) ?_
  rintro X C rfl rfl hxn hmc hms hKX hin hr hQ
  have hc : ∀ i, i ≤ 4 → i ≤ xcells X := fun i h => hmc ▸ h
  have hs : ∀ i, i ≤ 72 → i ≤ xslots X := fun i h => hms ▸ h
  refine N_aload_0 (q := 1) C rfl dX7_init_0 ?_
  refine N_obj (q := 4) C wb_X7 (by decide) (by decide) rfl dX7_init_1 ?_
  refine N_aload_0 (q := 5) C rfl dX7_init_4 ?_
  refine N_bipush (q := 7) (v := 30) C (by decide) rfl dX7_init_5 ?_
  refine N_newi (q := 9) C 30 rfl (by decide) (hc _ (by decide)) (hs _ (by decide)) rfl dX7_init_7 (fun r1 => ?_)
  refine N_w (ws' := [(a, .inr (7, [.null, .null, .null, .null, .int 0, .int 0])), (r1, cI (xD X) 30 z0)]) (k' := 1) (z' := 30) rfl rfl rfl ?_
  refine N_putF (q := 12) (i := 0) (ty := .array .int) (ws' := [(a, .inr (7, [.ref r1, .null, .null, .null, .int 0, .int 0])), (r1, cI (xD X) 30 z0)]) C hin 0 rfl rfl inT7 tyX7_ok nmX7 (by decide) wf_X7_9 rfl rfl rfl rfl rfl (Nat.le_of_ble_eq_true rfl) rfl rfl dX7_init_9 ?_
  refine N_aload_0 (q := 13) C rfl dX7_init_12 ?_
  refine N_bipush (q := 15) (v := 30) C (by decide) rfl dX7_init_13 ?_
  refine N_newi (q := 17) C 30 rfl (by decide) (hc _ (by decide)) (hs _ (by decide)) rfl dX7_init_15 (fun r2 => ?_)
  refine N_w (ws' := [(a, .inr (7, [.ref r1, .null, .null, .null, .int 0, .int 0])), (r1, cI (xD X) 30 z0), (r2, cI (xD X) 30 z0)]) (k' := 2) (z' := 60) rfl rfl rfl ?_
  refine N_putF (q := 20) (i := 1) (ty := .array .int) (ws' := [(a, .inr (7, [.ref r1, .ref r2, .null, .null, .int 0, .int 0])), (r1, cI (xD X) 30 z0), (r2, cI (xD X) 30 z0)]) C hin 0 rfl rfl inT7 tyX7_ok nmX7 (by decide) wf_X7_15 rfl rfl rfl rfl rfl (Nat.le_of_ble_eq_true rfl) rfl rfl dX7_init_17 ?_
  refine N_aload_0 (q := 21) C rfl dX7_init_20 ?_
  refine N_bipush (q := 23) (v := 6) C (by decide) rfl dX7_init_21 ?_
  refine N_newi (q := 25) C 6 rfl (by decide) (hc _ (by decide)) (hs _ (by decide)) rfl dX7_init_23 (fun r3 => ?_)
  refine N_w (ws' := [(a, .inr (7, [.ref r1, .ref r2, .null, .null, .int 0, .int 0])), (r1, cI (xD X) 30 z0), (r2, cI (xD X) 30 z0), (r3, cI (xD X) 6 z0)]) (k' := 3) (z' := 66) rfl rfl rfl ?_
  refine N_putF (q := 28) (i := 2) (ty := .array .int) (ws' := [(a, .inr (7, [.ref r1, .ref r2, .ref r3, .null, .int 0, .int 0])), (r1, cI (xD X) 30 z0), (r2, cI (xD X) 30 z0), (r3, cI (xD X) 6 z0)]) C hin 0 rfl rfl inT7 tyX7_ok nmX7 (by decide) wf_X7_18 rfl rfl rfl rfl rfl (Nat.le_of_ble_eq_true rfl) rfl rfl dX7_init_25 ?_
  refine N_aload_0 (q := 29) C rfl dX7_init_28 ?_
  refine N_bipush (q := 31) (v := 6) C (by decide) rfl dX7_init_29 ?_
  refine N_newi (q := 33) C 6 rfl (by decide) (hc _ (by decide)) (hs _ (by decide)) rfl dX7_init_31 (fun r4 => ?_)
  refine N_w (ws' := [(a, .inr (7, [.ref r1, .ref r2, .ref r3, .null, .int 0, .int 0])), (r1, cI (xD X) 30 z0), (r2, cI (xD X) 30 z0), (r3, cI (xD X) 6 z0), (r4, cI (xD X) 6 z0)]) (k' := 4) (z' := 72) rfl rfl rfl ?_
  refine N_putF (q := 36) (i := 3) (ty := .array .int) (ws' := [(a, .inr (7, [.ref r1, .ref r2, .ref r3, .ref r4, .int 0, .int 0])), (r1, cI (xD X) 30 z0), (r2, cI (xD X) 30 z0), (r3, cI (xD X) 6 z0), (r4, cI (xD X) 6 z0)]) C hin 0 rfl rfl inT7 tyX7_ok nmX7 (by decide) wf_X7_21 rfl rfl rfl rfl rfl (Nat.le_of_ble_eq_true rfl) rfl rfl dX7_init_33 ?_
  refine N_aload_0 (q := 37) C rfl dX7_init_36 ?_
  refine N_iconst (q := 38) (v := 0) C rfl rfl dX7_init_37 ?_
  refine N_put (q := 41) (i := 4) (ty := .int) (ws' := [(a, .inr (7, [.ref r1, .ref r2, .ref r3, .ref r4, .int 0, .int 0])), (r1, cI (xD X) 30 z0), (r2, cI (xD X) 30 z0), (r3, cI (xD X) 6 z0), (r4, cI (xD X) 6 z0)]) C 0 rfl rfl inT7 tyX7_ok nmX7 (by decide) wf_X7_24 rfl rfl rfl rfl (Nat.le_of_ble_eq_true rfl) rfl rfl dX7_init_38 ?_
  refine N_aload_0 (q := 42) C rfl dX7_init_41 ?_
  refine N_iconst (q := 43) (v := 0) C rfl rfl dX7_init_42 ?_
  refine N_put (q := 46) (i := 5) (ty := .int) (ws' := [(a, .inr (7, [.ref r1, .ref r2, .ref r3, .ref r4, .int 0, .int 0])), (r1, cI (xD X) 30 z0), (r2, cI (xD X) 30 z0), (r3, cI (xD X) 6 z0), (r4, cI (xD X) 6 z0)]) C 0 rfl rfl inT7 tyX7_ok nmX7 (by decide) wf_X7_28 rfl rfl rfl rfl (Nat.le_of_ble_eq_true rfl) rfl rfl dX7_init_43 ?_
  exact N_vret C hr hQ (hc _ (by decide)) (hs _ (by decide)) dX7_init_46 ⟨r1, r2, r3, r4, rfl⟩
