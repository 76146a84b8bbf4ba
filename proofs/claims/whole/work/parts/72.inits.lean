/-! the constructors of the small classes -/
theorem ebp_X10_9 (q : Nat) : eb_FP RX10 9 10 7 (.ref q) := ⟨RX10, TX10, 8, tyX10, rfl, (by decide +kernel), ez_mem 126 (by decide +kernel) (by decide +kernel), uw_10, (by decide +kernel), rfl, rfl, tyX10_ok, nmX10⟩
theorem ebp_X1_9 (q : Nat) : eb_FP RX1 9 1 1 (.ref q) := ⟨RX1, TX1, 4, tyX1, rfl, (by decide +kernel), ez_mem 272 (by decide +kernel) (by decide +kernel), uw_1, (by decide +kernel), rfl, rfl, tyX1_ok, nmX1⟩
theorem ebp_X1_15 (q : Nat) : eb_FP RX1 15 1 2 (.ref q) := ⟨RX1, TX1, 4, tyX1, rfl, (by decide +kernel), ez_mem 273 (by decide +kernel) (by decide +kernel), uw_1, (by decide +kernel), rfl, rfl, tyX1_ok, nmX1⟩
theorem ebp_X1_18 (q : Nat) : eb_FP RX1 18 1 3 (.ref q) := ⟨RX1, TX1, 4, tyX1, rfl, (by decide +kernel), ez_mem 274 (by decide +kernel) (by decide +kernel), uw_1, (by decide +kernel), rfl, rfl, tyX1_ok, nmX1⟩
theorem ebp_X2_11 (q : Nat) : eb_FP RX2 11 2 0 (.ref q) := ⟨RX2, TX2, 7, tyX2, rfl, (by decide +kernel), ez_mem 223 (by decide +kernel) (by decide +kernel), uw_2, (by decide +kernel), rfl, rfl, tyX2_ok, nmX2⟩
theorem ebp_X2_15 (q : Nat) : eb_FP RX2 15 2 1 (.ref q) := ⟨RX2, TX2, 7, tyX2, rfl, (by decide +kernel), ez_mem 224 (by decide +kernel) (by decide +kernel), uw_2, (by decide +kernel), rfl, rfl, tyX2_ok, nmX2⟩
theorem ebp_X2_18 (q : Nat) : eb_FP RX2 18 2 2 (.ref q) := ⟨RX2, TX2, 7, tyX2, rfl, (by decide +kernel), ez_mem 225 (by decide +kernel) (by decide +kernel), uw_2, (by decide +kernel), rfl, rfl, tyX2_ok, nmX2⟩
theorem ebp_X2_21 (q : Nat) : eb_FP RX2 21 2 3 (.ref q) := ⟨RX2, TX2, 7, tyX2, rfl, (by decide +kernel), ez_mem 226 (by decide +kernel) (by decide +kernel), uw_2, (by decide +kernel), rfl, rfl, tyX2_ok, nmX2⟩
theorem ebp_X3_9 (q : Nat) : eb_FP RX3 9 3 0 (.ref q) := ⟨RX3, TX3, 3, tyX3, rfl, (by decide +kernel), ez_mem 41 (by decide +kernel) (by decide +kernel), uw_3, (by decide +kernel), rfl, rfl, tyX3_ok, nmX3⟩
theorem ebp_X3_15 (q : Nat) : eb_FP RX3 15 3 1 (.ref q) := ⟨RX3, TX3, 3, tyX3, rfl, (by decide +kernel), ez_mem 42 (by decide +kernel) (by decide +kernel), uw_3, (by decide +kernel), rfl, rfl, tyX3_ok, nmX3⟩
theorem ebp_X4_9 : eb_FP RX4 9 4 0 (.int (-1)) := ⟨RX4, TX4, 3, tyX4, rfl, (by decide +kernel), ez_mem 291 (by decide +kernel) (by decide +kernel), uw_4, (by decide +kernel), rfl, rfl, tyX4_ok, nmX4⟩
theorem ebp_X4_15 (q : Nat) : eb_FP RX4 15 4 2 (.ref q) := ⟨RX4, TX4, 3, tyX4, rfl, (by decide +kernel), ez_mem 295 (by decide +kernel) (by decide +kernel), uw_4, (by decide +kernel), rfl, rfl, tyX4_ok, nmX4⟩
theorem ebp_X5_9 (q : Nat) : eb_FP RX5 9 5 0 (.ref q) := ⟨RX5, TX5, 3, tyX5, rfl, (by decide +kernel), ez_mem 172 (by decide +kernel) (by decide +kernel), uw_5, (by decide +kernel), rfl, rfl, tyX5_ok, nmX5⟩
theorem ebp_X5_15 (q : Nat) : eb_FP RX5 15 5 1 (.ref q) := ⟨RX5, TX5, 3, tyX5, rfl, (by decide +kernel), ez_mem 174 (by decide +kernel) (by decide +kernel), uw_5, (by decide +kernel), rfl, rfl, tyX5_ok, nmX5⟩
theorem ebp_X6_9 (q : Nat) : eb_FP RX6 9 6 0 (.ref q) := ⟨RX6, TX6, 2, tyX6, rfl, (by decide +kernel), ez_mem 209 (by decide +kernel) (by decide +kernel), uw_6, (by decide +kernel), rfl, rfl, tyX6_ok, nmX6⟩
theorem ebp_X6_15 (q : Nat) : eb_FP RX6 15 6 1 (.ref q) := ⟨RX6, TX6, 2, tyX6, rfl, (by decide +kernel), ez_mem 211 (by decide +kernel) (by decide +kernel), uw_6, (by decide +kernel), rfl, rfl, tyX6_ok, nmX6⟩
theorem ebp_X8_11 (q : Nat) : eb_FP RX8 11 8 0 (.ref q) := ⟨RX8, TX8, 3, tyX8, rfl, (by decide +kernel), ez_mem 254 (by decide +kernel) (by decide +kernel), uw_8, (by decide +kernel), rfl, rfl, tyX8_ok, nmX8⟩
theorem ebp_X8_15 (q : Nat) : eb_FP RX8 15 8 1 (.ref q) := ⟨RX8, TX8, 3, tyX8, rfl, (by decide +kernel), ez_mem 255 (by decide +kernel) (by decide +kernel), uw_8, (by decide +kernel), rfl, rfl, tyX8_ok, nmX8⟩
theorem ebp_X9_9 (q : Nat) : eb_FP RX9 9 9 0 (.ref q) := ⟨RX9, TX9, 3, tyX9, rfl, (by decide +kernel), ez_mem 192 (by decide +kernel) (by decide +kernel), uw_9, (by decide +kernel), rfl, rfl, tyX9_ok, nmX9⟩
theorem ebp_X9_15 (q : Nat) : eb_FP RX9 15 9 1 (.ref q) := ⟨RX9, TX9, 3, tyX9, rfl, (by decide +kernel), ez_mem 193 (by decide +kernel) (by decide +kernel), uw_9, (by decide +kernel), rfl, rfl, tyX9_ok, nmX9⟩
theorem ebp_X9_18 (q : Nat) : eb_FP RX9 18 9 2 (.ref q) := ⟨RX9, TX9, 3, tyX9, rfl, (by decide +kernel), ez_mem 194 (by decide +kernel) (by decide +kernel), uw_9, (by decide +kernel), rfl, rfl, tyX9_ok, nmX9⟩
theorem ebp_X7_9 (q : Nat) : eb_FP RX7 9 7 0 (.ref q) := ⟨RX7, TX7, 8, tyX7, rfl, (by decide +kernel), ez_mem 54 (by decide +kernel) (by decide +kernel), uw_7, (by decide +kernel), rfl, rfl, tyX7_ok, nmX7⟩
theorem ebp_X7_15 (q : Nat) : eb_FP RX7 15 7 2 (.ref q) := ⟨RX7, TX7, 8, tyX7, rfl, (by decide +kernel), ez_mem 58 (by decide +kernel) (by decide +kernel), uw_7, (by decide +kernel), rfl, rfl, tyX7_ok, nmX7⟩
theorem ebp_X7_19 (q : Nat) : eb_FP RX7 19 7 3 (.ref q) := ⟨RX7, TX7, 8, tyX7, rfl, (by decide +kernel), ez_mem 59 (by decide +kernel) (by decide +kernel), uw_7, (by decide +kernel), rfl, rfl, tyX7_ok, nmX7⟩
theorem ebn_X7_22 : eb_NW RX7 22 3 3 [.null, .null, .int 0] := ⟨RX3, TX3, tyX3, rfl, ez_mem 35 (by decide +kernel) (by decide +kernel), ez_mem 36 (by decide +kernel) (by decide +kernel), ez_mem 3 (by decide +kernel) (by decide +kernel), uw_3, tyX3_ok, by decide +kernel⟩
theorem ebl_X7_24 : Cond.methodLinkNest RX7 24 (mX3_init).1 "ElevenPebbles" ∈ ez_nest := ez_memN 37 (by decide +kernel) (by decide +kernel)
theorem ebp_X7_25 (q : Nat) : eb_FP RX7 25 7 4 (.ref q) := ⟨RX7, TX7, 8, tyX7, rfl, (by decide +kernel), ez_mem 60 (by decide +kernel) (by decide +kernel), uw_7, (by decide +kernel), rfl, rfl, tyX7_ok, nmX7⟩
set_option maxRecDepth 20000 in
theorem c_X10_init (G : EbG) (d : Nat) (ws : va_W) (h0 : Nat) (hd : 2 ≤ d) : Ebc G mX10_init d 1 10 [.ref h0] (ws ++ [(h0, .inr (10, [.int 0, .int 0, .int 0, .int 0, .int 0, .int 0, .int 0, .null]))]) (fun w => ∃ q1 : Nat, w = ws ++ [(h0, .inr (10, [.int 0, .int 0, .int 0, .int 0, .int 0, .int 0, .int 0, .ref q1])), (q1, .inl (G.2.2.1 0, 10, .inl (fun _ => 0)))]) := by
  refine Ebc.of (by decide +kernel) (by decide +kernel) (Nat.le_of_ble_eq_true rfl) ?_
  show Eb G mX10_init d 1 10 0 0 0 [(0, .ref h0)] [] (ws ++ [(h0, .inr (10, [.int 0, .int 0, .int 0, .int 0, .int 0, .int 0, .int 0, .null]))]) _
  refine eb_aload_n 0 dX10_init_0 rfl ?_
  refine eb_objInit dX10_init_1 oi_X10_init eb_oi (by omega) (Nat.le_of_ble_eq_true rfl) ?_
  refine eb_aload_n 0 dX10_init_4 rfl ?_
  refine eb_bipush 10 dX10_init_5 (by decide) ?_
  refine eb_newa 0 10 10 (10, .inl (fun _ => 0)) dX10_init_7 rfl (by decide) eb_ac_int (fun _ => rfl) (by decide) (by decide) (by decide) (by decide) (by decide) (fun q1 => ?_)
  refine eb_eq (List.append_assoc _ _ _) ?_
  show Eb G mX10_init d 1 10 1 10 9 [(0, .ref h0)] [.ref q1, .ref h0] (ws ++ [(h0, .inr (10, [.int 0, .int 0, .int 0, .int 0, .int 0, .int 0, .int 0, .null])), (q1, .inl (G.2.2.1 0, 10, .inl (fun _ => 0)))]) _
  refine eb_putf (ws.length + 0) dX10_init_9 (ebp_X10_9 q1) ((eb_at 0).trans rfl) (Nat.le_of_ble_eq_true rfl) ?_
  refine eb_eq (eb_st 0 _) ?_
  show Eb G mX10_init d 1 10 1 10 12 [(0, .ref h0)] [] (ws ++ [(h0, .inr (10, [.int 0, .int 0, .int 0, .int 0, .int 0, .int 0, .int 0, .ref q1])), (q1, .inl (G.2.2.1 0, 10, .inl (fun _ => 0)))]) _
  exact eb_vret (st := []) dX10_init_12 rfl rfl rfl ⟨q1, rfl⟩
set_option maxRecDepth 20000 in
theorem c_X1_init (G : EbG) (d : Nat) (ws : va_W) (h0 : Nat) (hd : 2 ≤ d) : Ebc G mX1_init d 3 60 [.ref h0] (ws ++ [(h0, .inr (1, [.int 0, .null, .null, .null]))]) (fun w => ∃ q1 q2 q3 : Nat, w = ws ++ [(h0, .inr (1, [.int 0, .ref q1, .ref q2, .ref q3])), (q1, .inl (G.2.2.1 0, 40, .inl (fun _ => 0))), (q2, .inl (G.2.2.1 0, 10, .inl (fun _ => 0))), (q3, .inl (G.2.2.1 0, 10, .inl (fun _ => 0)))]) := by
  refine Ebc.of (by decide +kernel) (by decide +kernel) (Nat.le_of_ble_eq_true rfl) ?_
  show Eb G mX1_init d 3 60 0 0 0 [(0, .ref h0)] [] (ws ++ [(h0, .inr (1, [.int 0, .null, .null, .null]))]) _
  refine eb_aload_n 0 dX1_init_0 rfl ?_
  refine eb_objInit dX1_init_1 oi_X1_init eb_oi (by omega) (Nat.le_of_ble_eq_true rfl) ?_
  refine eb_aload_n 0 dX1_init_4 rfl ?_
  refine eb_bipush 40 dX1_init_5 (by decide) ?_
  refine eb_newa 0 40 40 (40, .inl (fun _ => 0)) dX1_init_7 rfl (by decide) eb_ac_int (fun _ => rfl) (by decide) (by decide) (by decide) (by decide) (by decide) (fun q1 => ?_)
  refine eb_eq (List.append_assoc _ _ _) ?_
  show Eb G mX1_init d 3 60 1 40 9 [(0, .ref h0)] [.ref q1, .ref h0] (ws ++ [(h0, .inr (1, [.int 0, .null, .null, .null])), (q1, .inl (G.2.2.1 0, 40, .inl (fun _ => 0)))]) _
  refine eb_putf (ws.length + 0) dX1_init_9 (ebp_X1_9 q1) ((eb_at 0).trans rfl) (Nat.le_of_ble_eq_true rfl) ?_
  refine eb_eq (eb_st 0 _) ?_
  show Eb G mX1_init d 3 60 1 40 12 [(0, .ref h0)] [] (ws ++ [(h0, .inr (1, [.int 0, .ref q1, .null, .null])), (q1, .inl (G.2.2.1 0, 40, .inl (fun _ => 0)))]) _
  refine eb_aload_n 0 dX1_init_12 rfl ?_
  refine eb_bipush 10 dX1_init_13 (by decide) ?_
  refine eb_newa 0 10 10 (10, .inl (fun _ => 0)) dX1_init_15 rfl (by decide) eb_ac_int (fun _ => rfl) (by decide) (by decide) (by decide) (by decide) (by decide) (fun q2 => ?_)
  refine eb_eq (List.append_assoc _ _ _) ?_
  show Eb G mX1_init d 3 60 2 50 17 [(0, .ref h0)] [.ref q2, .ref h0] (ws ++ [(h0, .inr (1, [.int 0, .ref q1, .null, .null])), (q1, .inl (G.2.2.1 0, 40, .inl (fun _ => 0))), (q2, .inl (G.2.2.1 0, 10, .inl (fun _ => 0)))]) _
  refine eb_putf (ws.length + 0) dX1_init_17 (ebp_X1_15 q2) ((eb_at 0).trans rfl) (Nat.le_of_ble_eq_true rfl) ?_
  refine eb_eq (eb_st 0 _) ?_
  show Eb G mX1_init d 3 60 2 50 20 [(0, .ref h0)] [] (ws ++ [(h0, .inr (1, [.int 0, .ref q1, .ref q2, .null])), (q1, .inl (G.2.2.1 0, 40, .inl (fun _ => 0))), (q2, .inl (G.2.2.1 0, 10, .inl (fun _ => 0)))]) _
  refine eb_aload_n 0 dX1_init_20 rfl ?_
  refine eb_bipush 10 dX1_init_21 (by decide) ?_
  refine eb_newa 0 10 10 (10, .inl (fun _ => 0)) dX1_init_23 rfl (by decide) eb_ac_int (fun _ => rfl) (by decide) (by decide) (by decide) (by decide) (by decide) (fun q3 => ?_)
  refine eb_eq (List.append_assoc _ _ _) ?_
  show Eb G mX1_init d 3 60 3 60 25 [(0, .ref h0)] [.ref q3, .ref h0] (ws ++ [(h0, .inr (1, [.int 0, .ref q1, .ref q2, .null])), (q1, .inl (G.2.2.1 0, 40, .inl (fun _ => 0))), (q2, .inl (G.2.2.1 0, 10, .inl (fun _ => 0))), (q3, .inl (G.2.2.1 0, 10, .inl (fun _ => 0)))]) _
  refine eb_putf (ws.length + 0) dX1_init_25 (ebp_X1_18 q3) ((eb_at 0).trans rfl) (Nat.le_of_ble_eq_true rfl) ?_
  refine eb_eq (eb_st 0 _) ?_
  show Eb G mX1_init d 3 60 3 60 28 [(0, .ref h0)] [] (ws ++ [(h0, .inr (1, [.int 0, .ref q1, .ref q2, .ref q3])), (q1, .inl (G.2.2.1 0, 40, .inl (fun _ => 0))), (q2, .inl (G.2.2.1 0, 10, .inl (fun _ => 0))), (q3, .inl (G.2.2.1 0, 10, .inl (fun _ => 0)))]) _
  exact eb_vret (st := []) dX1_init_28 rfl rfl rfl ⟨q1, q2, q3, rfl⟩
set_option maxRecDepth 20000 in
theorem c_X2_init (G : EbG) (d : Nat) (ws : va_W) (h0 : Nat) (hd : 2 ≤ d) : Ebc G mX2_init d 4 400 [.ref h0] (ws ++ [(h0, .inr (2, [.null, .null, .null, .null, .int 0, .int 0, .int 0]))]) (fun w => ∃ q1 q2 q3 q4 : Nat, w = ws ++ [(h0, .inr (2, [.ref q1, .ref q2, .ref q3, .ref q4, .int 0, .int 0, .int 0])), (q1, .inl (G.2.2.1 0, 100, .inl (fun _ => 0))), (q2, .inl (G.2.2.1 0, 100, .inl (fun _ => 0))), (q3, .inl (G.2.2.1 0, 100, .inl (fun _ => 0))), (q4, .inl (G.2.2.1 2, 100, .inl (fun _ => 0)))]) := by
  refine Ebc.of (by decide +kernel) (by decide +kernel) (Nat.le_of_ble_eq_true rfl) ?_
  show Eb G mX2_init d 4 400 0 0 0 [(0, .ref h0)] [] (ws ++ [(h0, .inr (2, [.null, .null, .null, .null, .int 0, .int 0, .int 0]))]) _
  refine eb_aload_n 0 dX2_init_0 rfl ?_
  refine eb_objInit dX2_init_1 oi_X2_init eb_oi (by omega) (Nat.le_of_ble_eq_true rfl) ?_
  refine eb_aload_n 0 dX2_init_4 rfl ?_
  refine eb_bipush 100 dX2_init_5 (by decide) ?_
  refine eb_newa 0 100 100 (100, .inl (fun _ => 0)) dX2_init_7 rfl (by decide) eb_ac_int (fun _ => rfl) (by decide) (by decide) (by decide) (by decide) (by decide) (fun q1 => ?_)
  refine eb_eq (List.append_assoc _ _ _) ?_
  show Eb G mX2_init d 4 400 1 100 9 [(0, .ref h0)] [.ref q1, .ref h0] (ws ++ [(h0, .inr (2, [.null, .null, .null, .null, .int 0, .int 0, .int 0])), (q1, .inl (G.2.2.1 0, 100, .inl (fun _ => 0)))]) _
  refine eb_putf (ws.length + 0) dX2_init_9 (ebp_X2_11 q1) ((eb_at 0).trans rfl) (Nat.le_of_ble_eq_true rfl) ?_
  refine eb_eq (eb_st 0 _) ?_
  show Eb G mX2_init d 4 400 1 100 12 [(0, .ref h0)] [] (ws ++ [(h0, .inr (2, [.ref q1, .null, .null, .null, .int 0, .int 0, .int 0])), (q1, .inl (G.2.2.1 0, 100, .inl (fun _ => 0)))]) _
  refine eb_aload_n 0 dX2_init_12 rfl ?_
  refine eb_bipush 100 dX2_init_13 (by decide) ?_
  refine eb_newa 0 100 100 (100, .inl (fun _ => 0)) dX2_init_15 rfl (by decide) eb_ac_int (fun _ => rfl) (by decide) (by decide) (by decide) (by decide) (by decide) (fun q2 => ?_)
  refine eb_eq (List.append_assoc _ _ _) ?_
  show Eb G mX2_init d 4 400 2 200 17 [(0, .ref h0)] [.ref q2, .ref h0] (ws ++ [(h0, .inr (2, [.ref q1, .null, .null, .null, .int 0, .int 0, .int 0])), (q1, .inl (G.2.2.1 0, 100, .inl (fun _ => 0))), (q2, .inl (G.2.2.1 0, 100, .inl (fun _ => 0)))]) _
  refine eb_putf (ws.length + 0) dX2_init_17 (ebp_X2_15 q2) ((eb_at 0).trans rfl) (Nat.le_of_ble_eq_true rfl) ?_
  refine eb_eq (eb_st 0 _) ?_
  show Eb G mX2_init d 4 400 2 200 20 [(0, .ref h0)] [] (ws ++ [(h0, .inr (2, [.ref q1, .ref q2, .null, .null, .int 0, .int 0, .int 0])), (q1, .inl (G.2.2.1 0, 100, .inl (fun _ => 0))), (q2, .inl (G.2.2.1 0, 100, .inl (fun _ => 0)))]) _
  refine eb_aload_n 0 dX2_init_20 rfl ?_
  refine eb_bipush 100 dX2_init_21 (by decide) ?_
  refine eb_newa 0 100 100 (100, .inl (fun _ => 0)) dX2_init_23 rfl (by decide) eb_ac_int (fun _ => rfl) (by decide) (by decide) (by decide) (by decide) (by decide) (fun q3 => ?_)
  refine eb_eq (List.append_assoc _ _ _) ?_
  show Eb G mX2_init d 4 400 3 300 25 [(0, .ref h0)] [.ref q3, .ref h0] (ws ++ [(h0, .inr (2, [.ref q1, .ref q2, .null, .null, .int 0, .int 0, .int 0])), (q1, .inl (G.2.2.1 0, 100, .inl (fun _ => 0))), (q2, .inl (G.2.2.1 0, 100, .inl (fun _ => 0))), (q3, .inl (G.2.2.1 0, 100, .inl (fun _ => 0)))]) _
  refine eb_putf (ws.length + 0) dX2_init_25 (ebp_X2_18 q3) ((eb_at 0).trans rfl) (Nat.le_of_ble_eq_true rfl) ?_
  refine eb_eq (eb_st 0 _) ?_
  show Eb G mX2_init d 4 400 3 300 28 [(0, .ref h0)] [] (ws ++ [(h0, .inr (2, [.ref q1, .ref q2, .ref q3, .null, .int 0, .int 0, .int 0])), (q1, .inl (G.2.2.1 0, 100, .inl (fun _ => 0))), (q2, .inl (G.2.2.1 0, 100, .inl (fun _ => 0))), (q3, .inl (G.2.2.1 0, 100, .inl (fun _ => 0)))]) _
  refine eb_aload_n 0 dX2_init_28 rfl ?_
  refine eb_bipush 100 dX2_init_29 (by decide) ?_
  refine eb_newa 2 100 100 (100, .inl (fun _ => 0)) dX2_init_31 rfl (by decide) eb_ac_boolean (fun _ => rfl) (by decide) (by decide) (by decide) (by decide) (by decide) (fun q4 => ?_)
  refine eb_eq (List.append_assoc _ _ _) ?_
  show Eb G mX2_init d 4 400 4 400 33 [(0, .ref h0)] [.ref q4, .ref h0] (ws ++ [(h0, .inr (2, [.ref q1, .ref q2, .ref q3, .null, .int 0, .int 0, .int 0])), (q1, .inl (G.2.2.1 0, 100, .inl (fun _ => 0))), (q2, .inl (G.2.2.1 0, 100, .inl (fun _ => 0))), (q3, .inl (G.2.2.1 0, 100, .inl (fun _ => 0))), (q4, .inl (G.2.2.1 2, 100, .inl (fun _ => 0)))]) _
  refine eb_putf (ws.length + 0) dX2_init_33 (ebp_X2_21 q4) ((eb_at 0).trans rfl) (Nat.le_of_ble_eq_true rfl) ?_
  refine eb_eq (eb_st 0 _) ?_
  show Eb G mX2_init d 4 400 4 400 36 [(0, .ref h0)] [] (ws ++ [(h0, .inr (2, [.ref q1, .ref q2, .ref q3, .ref q4, .int 0, .int 0, .int 0])), (q1, .inl (G.2.2.1 0, 100, .inl (fun _ => 0))), (q2, .inl (G.2.2.1 0, 100, .inl (fun _ => 0))), (q3, .inl (G.2.2.1 0, 100, .inl (fun _ => 0))), (q4, .inl (G.2.2.1 2, 100, .inl (fun _ => 0)))]) _
  exact eb_vret (st := []) dX2_init_36 rfl rfl rfl ⟨q1, q2, q3, q4, rfl⟩
set_option maxRecDepth 20000 in
theorem c_X3_init (G : EbG) (d : Nat) (ws : va_W) (h0 : Nat) (hd : 2 ≤ d) : Ebc G mX3_init d 2 163 [.ref h0] (ws ++ [(h0, .inr (3, [.null, .null, .int 0]))]) (fun w => ∃ q1 q2 : Nat, w = ws ++ [(h0, .inr (3, [.ref q1, .ref q2, .int 0])), (q1, .inl (G.2.2.1 0, 160, .inl (fun _ => 0))), (q2, .inl (G.2.2.1 0, 3, .inl (fun _ => 0)))]) := by
  refine Ebc.of (by decide +kernel) (by decide +kernel) (Nat.le_of_ble_eq_true rfl) ?_
  show Eb G mX3_init d 2 163 0 0 0 [(0, .ref h0)] [] (ws ++ [(h0, .inr (3, [.null, .null, .int 0]))]) _
  refine eb_aload_n 0 dX3_init_0 rfl ?_
  refine eb_objInit dX3_init_1 oi_X3_init eb_oi (by omega) (Nat.le_of_ble_eq_true rfl) ?_
  refine eb_aload_n 0 dX3_init_4 rfl ?_
  refine eb_sipush 160 dX3_init_5 (by decide) ?_
  refine eb_newa 0 160 160 (160, .inl (fun _ => 0)) dX3_init_8 rfl (by decide) eb_ac_int (fun _ => rfl) (by decide) (by decide) (by decide) (by decide) (by decide) (fun q1 => ?_)
  refine eb_eq (List.append_assoc _ _ _) ?_
  show Eb G mX3_init d 2 163 1 160 10 [(0, .ref h0)] [.ref q1, .ref h0] (ws ++ [(h0, .inr (3, [.null, .null, .int 0])), (q1, .inl (G.2.2.1 0, 160, .inl (fun _ => 0)))]) _
  refine eb_putf (ws.length + 0) dX3_init_10 (ebp_X3_9 q1) ((eb_at 0).trans rfl) (Nat.le_of_ble_eq_true rfl) ?_
  refine eb_eq (eb_st 0 _) ?_
  show Eb G mX3_init d 2 163 1 160 13 [(0, .ref h0)] [] (ws ++ [(h0, .inr (3, [.ref q1, .null, .int 0])), (q1, .inl (G.2.2.1 0, 160, .inl (fun _ => 0)))]) _
  refine eb_aload_n 0 dX3_init_13 rfl ?_
  refine eb_iconst 3 dX3_init_14 (by decide) ?_
  refine eb_newa 0 3 3 (3, .inl (fun _ => 0)) dX3_init_15 rfl (by decide) eb_ac_int (fun _ => rfl) (by decide) (by decide) (by decide) (by decide) (by decide) (fun q2 => ?_)
  refine eb_eq (List.append_assoc _ _ _) ?_
  show Eb G mX3_init d 2 163 2 163 17 [(0, .ref h0)] [.ref q2, .ref h0] (ws ++ [(h0, .inr (3, [.ref q1, .null, .int 0])), (q1, .inl (G.2.2.1 0, 160, .inl (fun _ => 0))), (q2, .inl (G.2.2.1 0, 3, .inl (fun _ => 0)))]) _
  refine eb_putf (ws.length + 0) dX3_init_17 (ebp_X3_15 q2) ((eb_at 0).trans rfl) (Nat.le_of_ble_eq_true rfl) ?_
  refine eb_eq (eb_st 0 _) ?_
  show Eb G mX3_init d 2 163 2 163 20 [(0, .ref h0)] [] (ws ++ [(h0, .inr (3, [.ref q1, .ref q2, .int 0])), (q1, .inl (G.2.2.1 0, 160, .inl (fun _ => 0))), (q2, .inl (G.2.2.1 0, 3, .inl (fun _ => 0)))]) _
  exact eb_vret (st := []) dX3_init_20 rfl rfl rfl ⟨q1, q2, rfl⟩
set_option maxRecDepth 20000 in
theorem c_X4_init (G : EbG) (d : Nat) (ws : va_W) (h0 : Nat) (hd : 2 ≤ d) : Ebc G mX4_init d 1 40 [.ref h0] (ws ++ [(h0, .inr (4, [.int 0, .int 0, .null]))]) (fun w => ∃ q1 : Nat, w = ws ++ [(h0, .inr (4, [.int (-1), .int 0, .ref q1])), (q1, .inl (G.2.2.1 0, 40, .inl (fun _ => 0)))]) := by
  refine Ebc.of (by decide +kernel) (by decide +kernel) (Nat.le_of_ble_eq_true rfl) ?_
  show Eb G mX4_init d 1 40 0 0 0 [(0, .ref h0)] [] (ws ++ [(h0, .inr (4, [.int 0, .int 0, .null]))]) _
  refine eb_aload_n 0 dX4_init_0 rfl ?_
  refine eb_objInit dX4_init_1 oi_X4_init eb_oi (by omega) (Nat.le_of_ble_eq_true rfl) ?_
  refine eb_aload_n 0 dX4_init_4 rfl ?_
  refine eb_iconst (-1) dX4_init_5 (by decide) ?_
  refine eb_putf (ws.length + 0) dX4_init_6 ebp_X4_9 ((eb_at 0).trans rfl) (Nat.le_of_ble_eq_true rfl) ?_
  refine eb_eq (eb_st 0 _) ?_
  show Eb G mX4_init d 1 40 0 0 9 [(0, .ref h0)] [] (ws ++ [(h0, .inr (4, [.int (-1), .int 0, .null]))]) _
  refine eb_aload_n 0 dX4_init_9 rfl ?_
  refine eb_bipush 40 dX4_init_10 (by decide) ?_
  refine eb_newa 0 40 40 (40, .inl (fun _ => 0)) dX4_init_12 rfl (by decide) eb_ac_int (fun _ => rfl) (by decide) (by decide) (by decide) (by decide) (by decide) (fun q1 => ?_)
  refine eb_eq (List.append_assoc _ _ _) ?_
  show Eb G mX4_init d 1 40 1 40 14 [(0, .ref h0)] [.ref q1, .ref h0] (ws ++ [(h0, .inr (4, [.int (-1), .int 0, .null])), (q1, .inl (G.2.2.1 0, 40, .inl (fun _ => 0)))]) _
  refine eb_putf (ws.length + 0) dX4_init_14 (ebp_X4_15 q1) ((eb_at 0).trans rfl) (Nat.le_of_ble_eq_true rfl) ?_
  refine eb_eq (eb_st 0 _) ?_
  show Eb G mX4_init d 1 40 1 40 17 [(0, .ref h0)] [] (ws ++ [(h0, .inr (4, [.int (-1), .int 0, .ref q1])), (q1, .inl (G.2.2.1 0, 40, .inl (fun _ => 0)))]) _
  exact eb_vret (st := []) dX4_init_17 rfl rfl rfl ⟨q1, rfl⟩
set_option maxRecDepth 20000 in
theorem c_X5_init (G : EbG) (d : Nat) (ws : va_W) (h0 : Nat) (hd : 2 ≤ d) : Ebc G mX5_init d 2 70 [.ref h0] (ws ++ [(h0, .inr (5, [.null, .null, .int 0]))]) (fun w => ∃ q1 q2 : Nat, w = ws ++ [(h0, .inr (5, [.ref q1, .ref q2, .int 0])), (q1, .inl (G.2.2.1 0, 6, .inl (fun _ => 0))), (q2, .inl (G.2.2.1 0, 64, .inl (fun _ => 0)))]) := by
  refine Ebc.of (by decide +kernel) (by decide +kernel) (Nat.le_of_ble_eq_true rfl) ?_
  show Eb G mX5_init d 2 70 0 0 0 [(0, .ref h0)] [] (ws ++ [(h0, .inr (5, [.null, .null, .int 0]))]) _
  refine eb_aload_n 0 dX5_init_0 rfl ?_
  refine eb_objInit dX5_init_1 oi_X5_init eb_oi (by omega) (Nat.le_of_ble_eq_true rfl) ?_
  refine eb_aload_n 0 dX5_init_4 rfl ?_
  refine eb_bipush 6 dX5_init_5 (by decide) ?_
  refine eb_newa 0 6 6 (6, .inl (fun _ => 0)) dX5_init_7 rfl (by decide) eb_ac_int (fun _ => rfl) (by decide) (by decide) (by decide) (by decide) (by decide) (fun q1 => ?_)
  refine eb_eq (List.append_assoc _ _ _) ?_
  show Eb G mX5_init d 2 70 1 6 9 [(0, .ref h0)] [.ref q1, .ref h0] (ws ++ [(h0, .inr (5, [.null, .null, .int 0])), (q1, .inl (G.2.2.1 0, 6, .inl (fun _ => 0)))]) _
  refine eb_putf (ws.length + 0) dX5_init_9 (ebp_X5_9 q1) ((eb_at 0).trans rfl) (Nat.le_of_ble_eq_true rfl) ?_
  refine eb_eq (eb_st 0 _) ?_
  show Eb G mX5_init d 2 70 1 6 12 [(0, .ref h0)] [] (ws ++ [(h0, .inr (5, [.ref q1, .null, .int 0])), (q1, .inl (G.2.2.1 0, 6, .inl (fun _ => 0)))]) _
  refine eb_aload_n 0 dX5_init_12 rfl ?_
  refine eb_bipush 64 dX5_init_13 (by decide) ?_
  refine eb_newa 0 64 64 (64, .inl (fun _ => 0)) dX5_init_15 rfl (by decide) eb_ac_int (fun _ => rfl) (by decide) (by decide) (by decide) (by decide) (by decide) (fun q2 => ?_)
  refine eb_eq (List.append_assoc _ _ _) ?_
  show Eb G mX5_init d 2 70 2 70 17 [(0, .ref h0)] [.ref q2, .ref h0] (ws ++ [(h0, .inr (5, [.ref q1, .null, .int 0])), (q1, .inl (G.2.2.1 0, 6, .inl (fun _ => 0))), (q2, .inl (G.2.2.1 0, 64, .inl (fun _ => 0)))]) _
  refine eb_putf (ws.length + 0) dX5_init_17 (ebp_X5_15 q2) ((eb_at 0).trans rfl) (Nat.le_of_ble_eq_true rfl) ?_
  refine eb_eq (eb_st 0 _) ?_
  show Eb G mX5_init d 2 70 2 70 20 [(0, .ref h0)] [] (ws ++ [(h0, .inr (5, [.ref q1, .ref q2, .int 0])), (q1, .inl (G.2.2.1 0, 6, .inl (fun _ => 0))), (q2, .inl (G.2.2.1 0, 64, .inl (fun _ => 0)))]) _
  exact eb_vret (st := []) dX5_init_20 rfl rfl rfl ⟨q1, q2, rfl⟩
set_option maxRecDepth 20000 in
theorem c_X6_init (G : EbG) (d : Nat) (ws : va_W) (h0 : Nat) (hd : 2 ≤ d) : Ebc G mX6_init d 2 20 [.ref h0] (ws ++ [(h0, .inr (6, [.null, .null]))]) (fun w => ∃ q1 q2 : Nat, w = ws ++ [(h0, .inr (6, [.ref q1, .ref q2])), (q1, .inl (G.2.2.1 0, 10, .inl (fun _ => 0))), (q2, .inl (G.2.2.1 0, 10, .inl (fun _ => 0)))]) := by
  refine Ebc.of (by decide +kernel) (by decide +kernel) (Nat.le_of_ble_eq_true rfl) ?_
  show Eb G mX6_init d 2 20 0 0 0 [(0, .ref h0)] [] (ws ++ [(h0, .inr (6, [.null, .null]))]) _
  refine eb_aload_n 0 dX6_init_0 rfl ?_
  refine eb_objInit dX6_init_1 oi_X6_init eb_oi (by omega) (Nat.le_of_ble_eq_true rfl) ?_
  refine eb_aload_n 0 dX6_init_4 rfl ?_
  refine eb_bipush 10 dX6_init_5 (by decide) ?_
  refine eb_newa 0 10 10 (10, .inl (fun _ => 0)) dX6_init_7 rfl (by decide) eb_ac_int (fun _ => rfl) (by decide) (by decide) (by decide) (by decide) (by decide) (fun q1 => ?_)
  refine eb_eq (List.append_assoc _ _ _) ?_
  show Eb G mX6_init d 2 20 1 10 9 [(0, .ref h0)] [.ref q1, .ref h0] (ws ++ [(h0, .inr (6, [.null, .null])), (q1, .inl (G.2.2.1 0, 10, .inl (fun _ => 0)))]) _
  refine eb_putf (ws.length + 0) dX6_init_9 (ebp_X6_9 q1) ((eb_at 0).trans rfl) (Nat.le_of_ble_eq_true rfl) ?_
  refine eb_eq (eb_st 0 _) ?_
  show Eb G mX6_init d 2 20 1 10 12 [(0, .ref h0)] [] (ws ++ [(h0, .inr (6, [.ref q1, .null])), (q1, .inl (G.2.2.1 0, 10, .inl (fun _ => 0)))]) _
  refine eb_aload_n 0 dX6_init_12 rfl ?_
  refine eb_bipush 10 dX6_init_13 (by decide) ?_
  refine eb_newa 0 10 10 (10, .inl (fun _ => 0)) dX6_init_15 rfl (by decide) eb_ac_int (fun _ => rfl) (by decide) (by decide) (by decide) (by decide) (by decide) (fun q2 => ?_)
  refine eb_eq (List.append_assoc _ _ _) ?_
  show Eb G mX6_init d 2 20 2 20 17 [(0, .ref h0)] [.ref q2, .ref h0] (ws ++ [(h0, .inr (6, [.ref q1, .null])), (q1, .inl (G.2.2.1 0, 10, .inl (fun _ => 0))), (q2, .inl (G.2.2.1 0, 10, .inl (fun _ => 0)))]) _
  refine eb_putf (ws.length + 0) dX6_init_17 (ebp_X6_15 q2) ((eb_at 0).trans rfl) (Nat.le_of_ble_eq_true rfl) ?_
  refine eb_eq (eb_st 0 _) ?_
  show Eb G mX6_init d 2 20 2 20 20 [(0, .ref h0)] [] (ws ++ [(h0, .inr (6, [.ref q1, .ref q2])), (q1, .inl (G.2.2.1 0, 10, .inl (fun _ => 0))), (q2, .inl (G.2.2.1 0, 10, .inl (fun _ => 0)))]) _
  exact eb_vret (st := []) dX6_init_20 rfl rfl rfl ⟨q1, q2, rfl⟩
set_option maxRecDepth 20000 in
theorem c_X8_init (G : EbG) (d : Nat) (ws : va_W) (h0 : Nat) (hd : 2 ≤ d) : Ebc G mX8_init d 2 3840 [.ref h0] (ws ++ [(h0, .inr (8, [.null, .null, .int 0]))]) (fun w => ∃ q1 q2 : Nat, w = ws ++ [(h0, .inr (8, [.ref q1, .ref q2, .int 0])), (q1, .inl (G.2.2.1 0, 2816, .inl (fun _ => 0))), (q2, .inl (G.2.2.1 0, 1024, .inl (fun _ => 0)))]) := by
  refine Ebc.of (by decide +kernel) (by decide +kernel) (Nat.le_of_ble_eq_true rfl) ?_
  show Eb G mX8_init d 2 3840 0 0 0 [(0, .ref h0)] [] (ws ++ [(h0, .inr (8, [.null, .null, .int 0]))]) _
  refine eb_aload_n 0 dX8_init_0 rfl ?_
  refine eb_objInit dX8_init_1 oi_X8_init eb_oi (by omega) (Nat.le_of_ble_eq_true rfl) ?_
  refine eb_aload_n 0 dX8_init_4 rfl ?_
  refine eb_sipush 2816 dX8_init_5 (by decide) ?_
  refine eb_newa 0 2816 2816 (2816, .inl (fun _ => 0)) dX8_init_8 rfl (by decide) eb_ac_int (fun _ => rfl) (by decide) (by decide) (by decide) (by decide) (by decide) (fun q1 => ?_)
  refine eb_eq (List.append_assoc _ _ _) ?_
  show Eb G mX8_init d 2 3840 1 2816 10 [(0, .ref h0)] [.ref q1, .ref h0] (ws ++ [(h0, .inr (8, [.null, .null, .int 0])), (q1, .inl (G.2.2.1 0, 2816, .inl (fun _ => 0)))]) _
  refine eb_putf (ws.length + 0) dX8_init_10 (ebp_X8_11 q1) ((eb_at 0).trans rfl) (Nat.le_of_ble_eq_true rfl) ?_
  refine eb_eq (eb_st 0 _) ?_
  show Eb G mX8_init d 2 3840 1 2816 13 [(0, .ref h0)] [] (ws ++ [(h0, .inr (8, [.ref q1, .null, .int 0])), (q1, .inl (G.2.2.1 0, 2816, .inl (fun _ => 0)))]) _
  refine eb_aload_n 0 dX8_init_13 rfl ?_
  refine eb_sipush 1024 dX8_init_14 (by decide) ?_
  refine eb_newa 0 1024 1024 (1024, .inl (fun _ => 0)) dX8_init_17 rfl (by decide) eb_ac_int (fun _ => rfl) (by decide) (by decide) (by decide) (by decide) (by decide) (fun q2 => ?_)
  refine eb_eq (List.append_assoc _ _ _) ?_
  show Eb G mX8_init d 2 3840 2 3840 19 [(0, .ref h0)] [.ref q2, .ref h0] (ws ++ [(h0, .inr (8, [.ref q1, .null, .int 0])), (q1, .inl (G.2.2.1 0, 2816, .inl (fun _ => 0))), (q2, .inl (G.2.2.1 0, 1024, .inl (fun _ => 0)))]) _
  refine eb_putf (ws.length + 0) dX8_init_19 (ebp_X8_15 q2) ((eb_at 0).trans rfl) (Nat.le_of_ble_eq_true rfl) ?_
  refine eb_eq (eb_st 0 _) ?_
  show Eb G mX8_init d 2 3840 2 3840 22 [(0, .ref h0)] [] (ws ++ [(h0, .inr (8, [.ref q1, .ref q2, .int 0])), (q1, .inl (G.2.2.1 0, 2816, .inl (fun _ => 0))), (q2, .inl (G.2.2.1 0, 1024, .inl (fun _ => 0)))]) _
  exact eb_vret (st := []) dX8_init_22 rfl rfl rfl ⟨q1, q2, rfl⟩
set_option maxRecDepth 20000 in
theorem c_X9_init (G : EbG) (d : Nat) (ws : va_W) (h0 : Nat) (hd : 2 ≤ d) : Ebc G mX9_init d 3 603 [.ref h0] (ws ++ [(h0, .inr (9, [.null, .null, .null]))]) (fun w => ∃ q1 q2 q3 : Nat, w = ws ++ [(h0, .inr (9, [.ref q1, .ref q2, .ref q3])), (q1, .inl (G.2.2.1 3, 201, .inr (.inl (fun _ => 0)))), (q2, .inl (G.2.2.1 3, 201, .inr (.inl (fun _ => 0)))), (q3, .inl (G.2.2.1 0, 201, .inl (fun _ => 0)))]) := by
  refine Ebc.of (by decide +kernel) (by decide +kernel) (Nat.le_of_ble_eq_true rfl) ?_
  show Eb G mX9_init d 3 603 0 0 0 [(0, .ref h0)] [] (ws ++ [(h0, .inr (9, [.null, .null, .null]))]) _
  refine eb_aload_n 0 dX9_init_0 rfl ?_
  refine eb_objInit dX9_init_1 oi_X9_init eb_oi (by omega) (Nat.le_of_ble_eq_true rfl) ?_
  refine eb_aload_n 0 dX9_init_4 rfl ?_
  refine eb_sipush 201 dX9_init_5 (by decide) ?_
  refine eb_newa 3 201 201 (201, .inr (.inl (fun _ => 0))) dX9_init_8 rfl (by decide) eb_ac_long (fun _ => rfl) (by decide) (by decide) (by decide) (by decide) (by decide) (fun q1 => ?_)
  refine eb_eq (List.append_assoc _ _ _) ?_
  show Eb G mX9_init d 3 603 1 201 10 [(0, .ref h0)] [.ref q1, .ref h0] (ws ++ [(h0, .inr (9, [.null, .null, .null])), (q1, .inl (G.2.2.1 3, 201, .inr (.inl (fun _ => 0))))]) _
  refine eb_putf (ws.length + 0) dX9_init_10 (ebp_X9_9 q1) ((eb_at 0).trans rfl) (Nat.le_of_ble_eq_true rfl) ?_
  refine eb_eq (eb_st 0 _) ?_
  show Eb G mX9_init d 3 603 1 201 13 [(0, .ref h0)] [] (ws ++ [(h0, .inr (9, [.ref q1, .null, .null])), (q1, .inl (G.2.2.1 3, 201, .inr (.inl (fun _ => 0))))]) _
  refine eb_aload_n 0 dX9_init_13 rfl ?_
  refine eb_sipush 201 dX9_init_14 (by decide) ?_
  refine eb_newa 3 201 201 (201, .inr (.inl (fun _ => 0))) dX9_init_17 rfl (by decide) eb_ac_long (fun _ => rfl) (by decide) (by decide) (by decide) (by decide) (by decide) (fun q2 => ?_)
  refine eb_eq (List.append_assoc _ _ _) ?_
  show Eb G mX9_init d 3 603 2 402 19 [(0, .ref h0)] [.ref q2, .ref h0] (ws ++ [(h0, .inr (9, [.ref q1, .null, .null])), (q1, .inl (G.2.2.1 3, 201, .inr (.inl (fun _ => 0)))), (q2, .inl (G.2.2.1 3, 201, .inr (.inl (fun _ => 0))))]) _
  refine eb_putf (ws.length + 0) dX9_init_19 (ebp_X9_15 q2) ((eb_at 0).trans rfl) (Nat.le_of_ble_eq_true rfl) ?_
  refine eb_eq (eb_st 0 _) ?_
  show Eb G mX9_init d 3 603 2 402 22 [(0, .ref h0)] [] (ws ++ [(h0, .inr (9, [.ref q1, .ref q2, .null])), (q1, .inl (G.2.2.1 3, 201, .inr (.inl (fun _ => 0)))), (q2, .inl (G.2.2.1 3, 201, .inr (.inl (fun _ => 0))))]) _
  refine eb_aload_n 0 dX9_init_22 rfl ?_
  refine eb_sipush 201 dX9_init_23 (by decide) ?_
  refine eb_newa 0 201 201 (201, .inl (fun _ => 0)) dX9_init_26 rfl (by decide) eb_ac_int (fun _ => rfl) (by decide) (by decide) (by decide) (by decide) (by decide) (fun q3 => ?_)
  refine eb_eq (List.append_assoc _ _ _) ?_
  show Eb G mX9_init d 3 603 3 603 28 [(0, .ref h0)] [.ref q3, .ref h0] (ws ++ [(h0, .inr (9, [.ref q1, .ref q2, .null])), (q1, .inl (G.2.2.1 3, 201, .inr (.inl (fun _ => 0)))), (q2, .inl (G.2.2.1 3, 201, .inr (.inl (fun _ => 0)))), (q3, .inl (G.2.2.1 0, 201, .inl (fun _ => 0)))]) _
  refine eb_putf (ws.length + 0) dX9_init_28 (ebp_X9_18 q3) ((eb_at 0).trans rfl) (Nat.le_of_ble_eq_true rfl) ?_
  refine eb_eq (eb_st 0 _) ?_
  show Eb G mX9_init d 3 603 3 603 31 [(0, .ref h0)] [] (ws ++ [(h0, .inr (9, [.ref q1, .ref q2, .ref q3])), (q1, .inl (G.2.2.1 3, 201, .inr (.inl (fun _ => 0)))), (q2, .inl (G.2.2.1 3, 201, .inr (.inl (fun _ => 0)))), (q3, .inl (G.2.2.1 0, 201, .inl (fun _ => 0)))]) _
  exact eb_vret (st := []) dX9_init_31 rfl rfl rfl ⟨q1, q2, q3, rfl⟩
set_option maxRecDepth 20000 in
theorem c_X7_init (G : EbG) (d : Nat) (ws : va_W) (h0 : Nat) (hd : 3 ≤ d) : Ebc G mX7_init d 6 648 [.ref h0] (ws ++ [(h0, .inr (7, [.null, .int 0, .null, .null, .null, .int 0, .int 0, .int 0]))]) (fun w => ∃ q1 q2 q3 q4 q5 q6 : Nat, w = ws ++ [(h0, .inr (7, [.ref q1, .int 0, .ref q2, .ref q3, .ref q4, .int 0, .int 0, .int 0])), (q1, .inl (G.2.2.1 1, 160, .inl (fun _ => 0))), (q2, .inl (G.2.2.1 0, 161, .inl (fun _ => 0))), (q3, .inl (G.2.2.1 0, 161, .inl (fun _ => 0))), (q4, .inr (3, [.ref q5, .ref q6, .int 0])), (q5, .inl (G.2.2.1 0, 160, .inl (fun _ => 0))), (q6, .inl (G.2.2.1 0, 3, .inl (fun _ => 0)))]) := by
  refine Ebc.of (by decide +kernel) (by decide +kernel) (Nat.le_of_ble_eq_true rfl) ?_
  show Eb G mX7_init d 6 648 0 0 0 [(0, .ref h0)] [] (ws ++ [(h0, .inr (7, [.null, .int 0, .null, .null, .null, .int 0, .int 0, .int 0]))]) _
  refine eb_aload_n 0 dX7_init_0 rfl ?_
  refine eb_objInit dX7_init_1 oi_X7_init eb_oi (by omega) (Nat.le_of_ble_eq_true rfl) ?_
  refine eb_aload_n 0 dX7_init_4 rfl ?_
  refine eb_sipush 160 dX7_init_5 (by decide) ?_
  refine eb_newa 1 160 160 (160, .inl (fun _ => 0)) dX7_init_8 rfl (by decide) eb_ac_byte (fun _ => rfl) (by decide) (by decide) (by decide) (by decide) (by decide) (fun q1 => ?_)
  refine eb_eq (List.append_assoc _ _ _) ?_
  show Eb G mX7_init d 6 648 1 160 10 [(0, .ref h0)] [.ref q1, .ref h0] (ws ++ [(h0, .inr (7, [.null, .int 0, .null, .null, .null, .int 0, .int 0, .int 0])), (q1, .inl (G.2.2.1 1, 160, .inl (fun _ => 0)))]) _
  refine eb_putf (ws.length + 0) dX7_init_10 (ebp_X7_9 q1) ((eb_at 0).trans rfl) (Nat.le_of_ble_eq_true rfl) ?_
  refine eb_eq (eb_st 0 _) ?_
  show Eb G mX7_init d 6 648 1 160 13 [(0, .ref h0)] [] (ws ++ [(h0, .inr (7, [.ref q1, .int 0, .null, .null, .null, .int 0, .int 0, .int 0])), (q1, .inl (G.2.2.1 1, 160, .inl (fun _ => 0)))]) _
  refine eb_aload_n 0 dX7_init_13 rfl ?_
  refine eb_sipush 161 dX7_init_14 (by decide) ?_
  refine eb_newa 0 161 161 (161, .inl (fun _ => 0)) dX7_init_17 rfl (by decide) eb_ac_int (fun _ => rfl) (by decide) (by decide) (by decide) (by decide) (by decide) (fun q2 => ?_)
  refine eb_eq (List.append_assoc _ _ _) ?_
  show Eb G mX7_init d 6 648 2 321 19 [(0, .ref h0)] [.ref q2, .ref h0] (ws ++ [(h0, .inr (7, [.ref q1, .int 0, .null, .null, .null, .int 0, .int 0, .int 0])), (q1, .inl (G.2.2.1 1, 160, .inl (fun _ => 0))), (q2, .inl (G.2.2.1 0, 161, .inl (fun _ => 0)))]) _
  refine eb_putf (ws.length + 0) dX7_init_19 (ebp_X7_15 q2) ((eb_at 0).trans rfl) (Nat.le_of_ble_eq_true rfl) ?_
  refine eb_eq (eb_st 0 _) ?_
  show Eb G mX7_init d 6 648 2 321 22 [(0, .ref h0)] [] (ws ++ [(h0, .inr (7, [.ref q1, .int 0, .ref q2, .null, .null, .int 0, .int 0, .int 0])), (q1, .inl (G.2.2.1 1, 160, .inl (fun _ => 0))), (q2, .inl (G.2.2.1 0, 161, .inl (fun _ => 0)))]) _
  refine eb_aload_n 0 dX7_init_22 rfl ?_
  refine eb_sipush 161 dX7_init_23 (by decide) ?_
  refine eb_newa 0 161 161 (161, .inl (fun _ => 0)) dX7_init_26 rfl (by decide) eb_ac_int (fun _ => rfl) (by decide) (by decide) (by decide) (by decide) (by decide) (fun q3 => ?_)
  refine eb_eq (List.append_assoc _ _ _) ?_
  show Eb G mX7_init d 6 648 3 482 28 [(0, .ref h0)] [.ref q3, .ref h0] (ws ++ [(h0, .inr (7, [.ref q1, .int 0, .ref q2, .null, .null, .int 0, .int 0, .int 0])), (q1, .inl (G.2.2.1 1, 160, .inl (fun _ => 0))), (q2, .inl (G.2.2.1 0, 161, .inl (fun _ => 0))), (q3, .inl (G.2.2.1 0, 161, .inl (fun _ => 0)))]) _
  refine eb_putf (ws.length + 0) dX7_init_28 (ebp_X7_19 q3) ((eb_at 0).trans rfl) (Nat.le_of_ble_eq_true rfl) ?_
  refine eb_eq (eb_st 0 _) ?_
  show Eb G mX7_init d 6 648 3 482 31 [(0, .ref h0)] [] (ws ++ [(h0, .inr (7, [.ref q1, .int 0, .ref q2, .ref q3, .null, .int 0, .int 0, .int 0])), (q1, .inl (G.2.2.1 1, 160, .inl (fun _ => 0))), (q2, .inl (G.2.2.1 0, 161, .inl (fun _ => 0))), (q3, .inl (G.2.2.1 0, 161, .inl (fun _ => 0)))]) _
  refine eb_aload_n 0 dX7_init_31 rfl ?_
  refine eb_new 3 [.null, .null, .int 0] dX7_init_32 ebn_X7_22 (by decide) (by decide) (fun q4 => ?_)
  refine eb_dup dX7_init_35 ?_
  refine eb_callIN dX7_init_36 ok_X3_init iz_X3_init "ElevenPebbles" ebl_X7_24 (show (d - 1) + 1 ≤ d by omega) (Nat.le_of_ble_eq_true rfl) (by decide) (by decide) (c_X3_init G (d - 1) (ws ++ [(h0, .inr (7, [.ref q1, .int 0, .ref q2, .ref q3, .null, .int 0, .int 0, .int 0])), (q1, .inl (G.2.2.1 1, 160, .inl (fun _ => 0))), (q2, .inl (G.2.2.1 0, 161, .inl (fun _ => 0))), (q3, .inl (G.2.2.1 0, 161, .inl (fun _ => 0)))]) q4 (by omega)) (fun w9 h9 => ?_)
  obtain ⟨q5, q6, rfl⟩ := h9
  refine eb_eq (List.append_assoc _ _ _) ?_
  show Eb G mX7_init d 6 648 6 648 39 [(0, .ref h0)] [.ref q4, .ref h0] (ws ++ [(h0, .inr (7, [.ref q1, .int 0, .ref q2, .ref q3, .null, .int 0, .int 0, .int 0])), (q1, .inl (G.2.2.1 1, 160, .inl (fun _ => 0))), (q2, .inl (G.2.2.1 0, 161, .inl (fun _ => 0))), (q3, .inl (G.2.2.1 0, 161, .inl (fun _ => 0))), (q4, .inr (3, [.ref q5, .ref q6, .int 0])), (q5, .inl (G.2.2.1 0, 160, .inl (fun _ => 0))), (q6, .inl (G.2.2.1 0, 3, .inl (fun _ => 0)))]) _
  refine eb_putf (ws.length + 0) dX7_init_39 (ebp_X7_25 q4) ((eb_at 0).trans rfl) (Nat.le_of_ble_eq_true rfl) ?_
  refine eb_eq (eb_st 0 _) ?_
  show Eb G mX7_init d 6 648 6 648 42 [(0, .ref h0)] [] (ws ++ [(h0, .inr (7, [.ref q1, .int 0, .ref q2, .ref q3, .ref q4, .int 0, .int 0, .int 0])), (q1, .inl (G.2.2.1 1, 160, .inl (fun _ => 0))), (q2, .inl (G.2.2.1 0, 161, .inl (fun _ => 0))), (q3, .inl (G.2.2.1 0, 161, .inl (fun _ => 0))), (q4, .inr (3, [.ref q5, .ref q6, .int 0])), (q5, .inl (G.2.2.1 0, 160, .inl (fun _ => 0))), (q6, .inl (G.2.2.1 0, 3, .inl (fun _ => 0)))]) _
  exact eb_vret (st := []) dX7_init_42 rfl rfl rfl ⟨q1, q2, q3, q4, q5, q6, rfl⟩
