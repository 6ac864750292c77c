/-! ===== the class: an act is carried out, a text is carried out ===== -/
set_option maxRecDepth 100000 in
set_option maxHeartbeats 4000000 in
theorem c_cA_f {z : Nat} (D : xD) (r : xR) (hF : rF r) {N : Nat → Int} {np : Nat} (hC : CR D 5 N np) (hnp : np ≤ 10) (p w : Nat) (u : Int) (hp : p < np) (hw : w < 12) (hu_ : 0 ≤ u ∧ u ≤ 1000) (k3 : D 73 3 = 102) (k4 : D 73 4 = (p : Int)) (k5 : D 73 5 = (w : Int)) (k6 : D 73 6 = (u : Int)) (hz : D 75 2 = 1) : MX 5 mX4_carryAct [.ref 4] (356, z) D r (356, z) (xEs (vi (pF N p (12 + w))) (fun D' => CR D' 5 (fu N (18 + 36 * p + (12 + w)) u) np ∧ frW 5 D D') r) := by
  refine MX.of (by decide +kernel) [some (.ref 4)] rfl (Nat.le_of_ble_eq_true rfl) ?_
  intro γ hX hRX
  refine v_aload_n (q := 1) hX dX4_carryAct_0 rfl rfl rfl ?_
  refine w_getR (q := 4) hX fl_X4_22 rfl oLF hF.f2 dX4_carryAct_1 rfl ?_
  refine w_getI (q := 7) hX fl_X4_263 rfl oPad dX4_carryAct_4 rfl ?_
  rw [k3]
  refine v_bipush (q := 9) hX (by decide) dX4_carryAct_7 rfl ?_
  refine v_icmp_ne (q := 12) (tgt := 38) hX (by decide) (by decide) dX4_carryAct_9 (by decide) rfl (fun hx_9 => ?_) (fun hx_9 => ?_)
  · exact absurd rfl hx_9
  · refine v_aload_n (q := 13) hX dX4_carryAct_12 rfl rfl rfl ?_
    refine v_aload_n (q := 14) hX dX4_carryAct_13 rfl rfl rfl ?_
    refine w_getR (q := 17) hX fl_X4_22 rfl oLF hF.f2 dX4_carryAct_14 rfl ?_
    refine w_getI (q := 20) hX fl_X4_267 rfl oPad dX4_carryAct_17 rfl ?_
    rw [k4]
    refine v_aload_n (q := 21) hX dX4_carryAct_20 rfl rfl rfl ?_
    refine w_getR (q := 24) hX fl_X4_22 rfl oLF hF.f2 dX4_carryAct_21 rfl ?_
    refine w_getI (q := 27) hX fl_X4_270 rfl oPad dX4_carryAct_24 rfl ?_
    rw [k5]
    refine v_aload_n (q := 28) hX dX4_carryAct_27 rfl rfl rfl ?_
    refine w_getR (q := 31) hX fl_X4_22 rfl oLF hF.f2 dX4_carryAct_28 rfl ?_
    refine w_getI (q := 34) hX fl_X4_273 rfl oPad dX4_carryAct_31 rfl ?_
    rw [k6]
    refine w_callVe (q := 37) hX (c_X4_forecast_p D r hF hC hnp p w u hp hw hu_ hz) rfl kV_X4_forecast rfl (by decide) lk_X4_276 (by decide) rfl oLF (Nat.le_of_ble_eq_true rfl) dX4_carryAct_34 rfl (fun D1 hD1 => ?_)
    refine v_ireturn hX hRX rfl (by first | rfl | exact bi_nar _) dX4_carryAct_37 rfl ?_
    exact ⟨rfl, rfl, hD1⟩

set_option maxRecDepth 100000 in
set_option maxHeartbeats 4000000 in
theorem c_cA_a {z : Nat} (D : xD) (r : xR) (hF : rF r) {N : Nat → Int} {np : Nat} (hC : CR D 5 N np) (hnp : np ≤ 10) (p : Nat) (u : Int) (hp : p < np) (hu9 : xI u) (hu_ : u = -6 ∨ (0 ≤ u ∧ u ≤ 2000)) (k3 : D 73 3 = 97) (k4 : D 73 4 = (p : Int)) (k6 : D 73 6 = (u : Int)) (hz : D 75 2 = 1) : MX 5 mX4_carryAct [.ref 4] (356, z) D r (356, z) (xEs (vi (pF N p 7)) (fun D' => CR D' 5 (fu N (18 + 36 * p + 7) u) np ∧ frW 5 D D') r) := by
  refine MX.of (by decide +kernel) [some (.ref 4)] rfl (Nat.le_of_ble_eq_true rfl) ?_
  intro γ hX hRX
  refine v_aload_n (q := 1) hX dX4_carryAct_0 rfl rfl rfl ?_
  refine w_getR (q := 4) hX fl_X4_22 rfl oLF hF.f2 dX4_carryAct_1 rfl ?_
  refine w_getI (q := 7) hX fl_X4_263 rfl oPad dX4_carryAct_4 rfl ?_
  rw [k3]
  refine v_bipush (q := 9) hX (by decide) dX4_carryAct_7 rfl ?_
  refine v_icmp_ne (q := 12) (tgt := 38) hX (by decide) (by decide) dX4_carryAct_9 (by decide) rfl (fun hx_9 => ?_) (fun hx_9 => ?_)
  · refine v_aload_n (q := 39) hX dX4_carryAct_38 rfl rfl rfl ?_
    refine w_getR (q := 42) hX fl_X4_22 rfl oLF hF.f2 dX4_carryAct_39 rfl ?_
    refine w_getI (q := 45) hX fl_X4_263 rfl oPad dX4_carryAct_42 rfl ?_
    rw [k3]
    refine v_bipush (q := 47) hX (by decide) dX4_carryAct_45 rfl ?_
    refine v_icmp_ne (q := 50) (tgt := 69) hX (by decide) (by decide) dX4_carryAct_47 (by decide) rfl (fun hx_47 => ?_) (fun hx_47 => ?_)
    · exact absurd rfl hx_47
    · refine v_aload_n (q := 51) hX dX4_carryAct_50 rfl rfl rfl ?_
      refine v_aload_n (q := 52) hX dX4_carryAct_51 rfl rfl rfl ?_
      refine w_getR (q := 55) hX fl_X4_22 rfl oLF hF.f2 dX4_carryAct_52 rfl ?_
      refine w_getI (q := 58) hX fl_X4_267 rfl oPad dX4_carryAct_55 rfl ?_
      rw [k4]
      refine v_aload_n (q := 59) hX dX4_carryAct_58 rfl rfl rfl ?_
      refine w_getR (q := 62) hX fl_X4_22 rfl oLF hF.f2 dX4_carryAct_59 rfl ?_
      refine w_getI (q := 65) hX fl_X4_273 rfl oPad dX4_carryAct_62 rfl ?_
      rw [k6]
      refine w_callVe (q := 68) hX (c_X4_actual_p D r hF hC hnp p u hp hu9 hu_ hz) rfl kV_X4_actual rfl (by decide) lk_X4_280 (by decide) rfl oLF (Nat.le_of_ble_eq_true rfl) dX4_carryAct_65 rfl (fun D1 hD1 => ?_)
      refine v_ireturn hX hRX rfl (by first | rfl | exact bi_nar _) dX4_carryAct_68 rfl ?_
      exact ⟨rfl, rfl, hD1⟩
  · exact absurd hx_9 (by decide)

set_option maxRecDepth 100000 in
set_option maxHeartbeats 4000000 in
theorem c_cA_l {z : Nat} (D : xD) (r : xR) (hF : rF r) {N : Nat → Int} {np : Nat} (hC : CR D 5 N np) {B : Int} (hV : nV B np N) (p w : Nat) (u : Int) (hp : p < np) (hw : w < 12) (hu_ : 0 ≤ u ∧ u ≤ 1000) (he : ¬ ((w : Int) < N 7 ∨ (N 5 + N 6 < nHours (fu N (18 + 36 * p + (24 + w)) u) np w ∧ nHours N np w < nHours (fu N (18 + 36 * p + (24 + w)) u) np w))) (k3 : D 73 3 = 108) (k4 : D 73 4 = (p : Int)) (k5 : D 73 5 = (w : Int)) (k6 : D 73 6 = (u : Int)) (hz : D 75 2 = 1) : MX 5 mX4_carryAct [.ref 4] (356, z) D r (356, z) (xEs (vi (pF N p (24 + w))) (fun D' => CR D' 5 (fu N (18 + 36 * p + (24 + w)) u) np ∧ frW 5 D D') r) := by
  refine MX.of (by decide +kernel) [some (.ref 4)] rfl (Nat.le_of_ble_eq_true rfl) ?_
  intro γ hX hRX
  refine v_aload_n (q := 1) hX dX4_carryAct_0 rfl rfl rfl ?_
  refine w_getR (q := 4) hX fl_X4_22 rfl oLF hF.f2 dX4_carryAct_1 rfl ?_
  refine w_getI (q := 7) hX fl_X4_263 rfl oPad dX4_carryAct_4 rfl ?_
  rw [k3]
  refine v_bipush (q := 9) hX (by decide) dX4_carryAct_7 rfl ?_
  refine v_icmp_ne (q := 12) (tgt := 38) hX (by decide) (by decide) dX4_carryAct_9 (by decide) rfl (fun hx_9 => ?_) (fun hx_9 => ?_)
  · refine v_aload_n (q := 39) hX dX4_carryAct_38 rfl rfl rfl ?_
    refine w_getR (q := 42) hX fl_X4_22 rfl oLF hF.f2 dX4_carryAct_39 rfl ?_
    refine w_getI (q := 45) hX fl_X4_263 rfl oPad dX4_carryAct_42 rfl ?_
    rw [k3]
    refine v_bipush (q := 47) hX (by decide) dX4_carryAct_45 rfl ?_
    refine v_icmp_ne (q := 50) (tgt := 69) hX (by decide) (by decide) dX4_carryAct_47 (by decide) rfl (fun hx_47 => ?_) (fun hx_47 => ?_)
    · refine v_aload_n (q := 70) hX dX4_carryAct_69 rfl rfl rfl ?_
      refine w_getR (q := 73) hX fl_X4_22 rfl oLF hF.f2 dX4_carryAct_70 rfl ?_
      refine w_getI (q := 76) hX fl_X4_263 rfl oPad dX4_carryAct_73 rfl ?_
      rw [k3]
      refine v_bipush (q := 78) hX (by decide) dX4_carryAct_76 rfl ?_
      refine v_icmp_ne (q := 81) (tgt := 107) hX (by decide) (by decide) dX4_carryAct_78 (by decide) rfl (fun hx_78 => ?_) (fun hx_78 => ?_)
      · exact absurd rfl hx_78
      · refine v_aload_n (q := 82) hX dX4_carryAct_81 rfl rfl rfl ?_
        refine v_aload_n (q := 83) hX dX4_carryAct_82 rfl rfl rfl ?_
        refine w_getR (q := 86) hX fl_X4_22 rfl oLF hF.f2 dX4_carryAct_83 rfl ?_
        refine w_getI (q := 89) hX fl_X4_267 rfl oPad dX4_carryAct_86 rfl ?_
        rw [k4]
        refine v_aload_n (q := 90) hX dX4_carryAct_89 rfl rfl rfl ?_
        refine w_getR (q := 93) hX fl_X4_22 rfl oLF hF.f2 dX4_carryAct_90 rfl ?_
        refine w_getI (q := 96) hX fl_X4_270 rfl oPad dX4_carryAct_93 rfl ?_
        rw [k5]
        refine v_aload_n (q := 97) hX dX4_carryAct_96 rfl rfl rfl ?_
        refine w_getR (q := 100) hX fl_X4_22 rfl oLF hF.f2 dX4_carryAct_97 rfl ?_
        refine w_getI (q := 103) hX fl_X4_273 rfl oPad dX4_carryAct_100 rfl ?_
        rw [k6]
        refine w_callVe (q := 106) hX (c_X4_lots_p D r hF hC hV p w u hp hw hu_ he hz) rfl kV_X4_lots rfl (by decide) lk_X4_283 (by decide) rfl oLF (Nat.le_of_ble_eq_true rfl) dX4_carryAct_103 rfl (fun D1 hD1 => ?_)
        refine v_ireturn hX hRX rfl (by first | rfl | exact bi_nar _) dX4_carryAct_106 rfl ?_
        exact ⟨rfl, rfl, hD1⟩
    · exact absurd hx_47 (by decide)
  · exact absurd hx_9 (by decide)

set_option maxRecDepth 100000 in
set_option maxHeartbeats 4000000 in
theorem c_cA_p {z : Nat} (D : xD) (r : xR) (hF : rF r) {N : Nat → Int} {np : Nat} (hC : CR D 5 N np) {B : Int} (hV : nV B np N) (f : Nat) (h7 : N 7 = (f : Int)) (hf8 : f ≤ 8) (k3 : D 73 3 = 112) (hz : D 75 2 = 1) : MX 5 mX4_carryAct [.ref 4] (356, z) D r (356, z) (xEs (vi (nLots (nPlan np f N) np)) (fun D' => CR D' 5 (nPlan np f N) np ∧ frW 5 D D') r) := by
  refine MX.of (by decide +kernel) [some (.ref 4)] rfl (Nat.le_of_ble_eq_true rfl) ?_
  intro γ hX hRX
  refine v_aload_n (q := 1) hX dX4_carryAct_0 rfl rfl rfl ?_
  refine w_getR (q := 4) hX fl_X4_22 rfl oLF hF.f2 dX4_carryAct_1 rfl ?_
  refine w_getI (q := 7) hX fl_X4_263 rfl oPad dX4_carryAct_4 rfl ?_
  rw [k3]
  refine v_bipush (q := 9) hX (by decide) dX4_carryAct_7 rfl ?_
  refine v_icmp_ne (q := 12) (tgt := 38) hX (by decide) (by decide) dX4_carryAct_9 (by decide) rfl (fun hx_9 => ?_) (fun hx_9 => ?_)
  · refine v_aload_n (q := 39) hX dX4_carryAct_38 rfl rfl rfl ?_
    refine w_getR (q := 42) hX fl_X4_22 rfl oLF hF.f2 dX4_carryAct_39 rfl ?_
    refine w_getI (q := 45) hX fl_X4_263 rfl oPad dX4_carryAct_42 rfl ?_
    rw [k3]
    refine v_bipush (q := 47) hX (by decide) dX4_carryAct_45 rfl ?_
    refine v_icmp_ne (q := 50) (tgt := 69) hX (by decide) (by decide) dX4_carryAct_47 (by decide) rfl (fun hx_47 => ?_) (fun hx_47 => ?_)
    · refine v_aload_n (q := 70) hX dX4_carryAct_69 rfl rfl rfl ?_
      refine w_getR (q := 73) hX fl_X4_22 rfl oLF hF.f2 dX4_carryAct_70 rfl ?_
      refine w_getI (q := 76) hX fl_X4_263 rfl oPad dX4_carryAct_73 rfl ?_
      rw [k3]
      refine v_bipush (q := 78) hX (by decide) dX4_carryAct_76 rfl ?_
      refine v_icmp_ne (q := 81) (tgt := 107) hX (by decide) (by decide) dX4_carryAct_78 (by decide) rfl (fun hx_78 => ?_) (fun hx_78 => ?_)
      · refine v_aload_n (q := 108) hX dX4_carryAct_107 rfl rfl rfl ?_
        refine w_getR (q := 111) hX fl_X4_22 rfl oLF hF.f2 dX4_carryAct_108 rfl ?_
        refine w_getI (q := 114) hX fl_X4_263 rfl oPad dX4_carryAct_111 rfl ?_
        rw [k3]
        refine v_bipush (q := 116) hX (by decide) dX4_carryAct_114 rfl ?_
        refine v_icmp_ne (q := 119) (tgt := 126) hX (by decide) (by decide) dX4_carryAct_116 (by decide) rfl (fun hx_116 => ?_) (fun hx_116 => ?_)
        · exact absurd rfl hx_116
        · refine v_aload_n (q := 120) hX dX4_carryAct_119 rfl rfl rfl ?_
          refine w_callVe (q := 123) hX (c_X4_plan_p D r hF hC hV f h7 hf8 hz) rfl kV_X4_plan rfl (by decide) lk_X4_285 (by decide) rfl oLF (Nat.le_of_ble_eq_true rfl) dX4_carryAct_120 rfl (fun D1 hD1 => ?_)
          refine v_goto (tgt := 137) hX dX4_carryAct_123 (by decide) ?_
          refine v_ireturn hX hRX rfl (by first | rfl | exact bi_nar _) dX4_carryAct_137 rfl ?_
          exact ⟨rfl, rfl, hD1⟩
      · exact absurd hx_78 (by decide)
    · exact absurd hx_47 (by decide)
  · exact absurd hx_9 (by decide)

set_option maxRecDepth 100000 in
set_option maxHeartbeats 4000000 in
theorem c_cA_n {z : Nat} (D : xD) (r : xR) (hF : rF r) {N : Nat → Int} {np : Nat} (hC : CR D 5 N np) {B : Int} (hV : nV B np N) (f : Nat) (h7 : N 7 = (f : Int)) (hf8 : f ≤ 8) (m : Nat) (hm : 1 ≤ m ∧ m ≤ 30) (hB : B + 2000 * (m : Int) ≤ 2100000000) (k3 : D 73 3 = 110) (k6 : D 73 6 = (m : Int)) (hz : D 75 2 = 1) : MX 5 mX4_carryAct [.ref 4] (356, z) D r (356, z) (xEs (vi (nPs np f m N 0)) (fun D' => CR D' 5 (nPs np f m N) np ∧ frW 5 D D') r) := by
  refine MX.of (by decide +kernel) [some (.ref 4)] rfl (Nat.le_of_ble_eq_true rfl) ?_
  intro γ hX hRX
  refine v_aload_n (q := 1) hX dX4_carryAct_0 rfl rfl rfl ?_
  refine w_getR (q := 4) hX fl_X4_22 rfl oLF hF.f2 dX4_carryAct_1 rfl ?_
  refine w_getI (q := 7) hX fl_X4_263 rfl oPad dX4_carryAct_4 rfl ?_
  rw [k3]
  refine v_bipush (q := 9) hX (by decide) dX4_carryAct_7 rfl ?_
  refine v_icmp_ne (q := 12) (tgt := 38) hX (by decide) (by decide) dX4_carryAct_9 (by decide) rfl (fun hx_9 => ?_) (fun hx_9 => ?_)
  · refine v_aload_n (q := 39) hX dX4_carryAct_38 rfl rfl rfl ?_
    refine w_getR (q := 42) hX fl_X4_22 rfl oLF hF.f2 dX4_carryAct_39 rfl ?_
    refine w_getI (q := 45) hX fl_X4_263 rfl oPad dX4_carryAct_42 rfl ?_
    rw [k3]
    refine v_bipush (q := 47) hX (by decide) dX4_carryAct_45 rfl ?_
    refine v_icmp_ne (q := 50) (tgt := 69) hX (by decide) (by decide) dX4_carryAct_47 (by decide) rfl (fun hx_47 => ?_) (fun hx_47 => ?_)
    · refine v_aload_n (q := 70) hX dX4_carryAct_69 rfl rfl rfl ?_
      refine w_getR (q := 73) hX fl_X4_22 rfl oLF hF.f2 dX4_carryAct_70 rfl ?_
      refine w_getI (q := 76) hX fl_X4_263 rfl oPad dX4_carryAct_73 rfl ?_
      rw [k3]
      refine v_bipush (q := 78) hX (by decide) dX4_carryAct_76 rfl ?_
      refine v_icmp_ne (q := 81) (tgt := 107) hX (by decide) (by decide) dX4_carryAct_78 (by decide) rfl (fun hx_78 => ?_) (fun hx_78 => ?_)
      · refine v_aload_n (q := 108) hX dX4_carryAct_107 rfl rfl rfl ?_
        refine w_getR (q := 111) hX fl_X4_22 rfl oLF hF.f2 dX4_carryAct_108 rfl ?_
        refine w_getI (q := 114) hX fl_X4_263 rfl oPad dX4_carryAct_111 rfl ?_
        rw [k3]
        refine v_bipush (q := 116) hX (by decide) dX4_carryAct_114 rfl ?_
        refine v_icmp_ne (q := 119) (tgt := 126) hX (by decide) (by decide) dX4_carryAct_116 (by decide) rfl (fun hx_116 => ?_) (fun hx_116 => ?_)
        · refine v_aload_n (q := 127) hX dX4_carryAct_126 rfl rfl rfl ?_
          refine v_aload_n (q := 128) hX dX4_carryAct_127 rfl rfl rfl ?_
          refine w_getR (q := 131) hX fl_X4_22 rfl oLF hF.f2 dX4_carryAct_128 rfl ?_
          refine w_getI (q := 134) hX fl_X4_273 rfl oPad dX4_carryAct_131 rfl ?_
          rw [k6]
          refine w_callVe (q := 137) hX (c_X4_weeks_p D r hF hC hV f h7 hf8 m hm hB hz) rfl kV_X4_weeks rfl (by decide) lk_X4_288 (by decide) rfl oLF (Nat.le_of_ble_eq_true rfl) dX4_carryAct_134 rfl (fun D1 hD1 => ?_)
          refine v_ireturn hX hRX rfl (by first | rfl | exact bi_nar _) dX4_carryAct_137 rfl ?_
          exact ⟨rfl, rfl, hD1⟩
        · exact absurd hx_116 (by decide)
      · exact absurd hx_78 (by decide)
    · exact absurd hx_47 (by decide)
  · exact absurd hx_9 (by decide)

set_option maxRecDepth 100000 in
set_option maxHeartbeats 4000000 in
theorem c_cA_fe {z : Nat} (D : xD) (r : xR) (hF : rF r) {N : Nat → Int} {np : Nat} (hC : CR D 5 N np) (hnp : np ≤ 10) (p w u : Int) (ip_ : xI p) (iw_ : xI w) (iu_ : xI u) (he : eF np p w u ≠ 0) (k3 : D 73 3 = 102) (k4 : D 73 4 = (p : Int)) (k5 : D 73 5 = (w : Int)) (k6 : D 73 6 = (u : Int)) : MX 5 mX4_carryAct [.ref 4] (356, z) D r (356, z) (xP (vi (eF np p w u)) D r) := by
  refine MX.of (by decide +kernel) [some (.ref 4)] rfl (Nat.le_of_ble_eq_true rfl) ?_
  intro γ hX hRX
  refine v_aload_n (q := 1) hX dX4_carryAct_0 rfl rfl rfl ?_
  refine w_getR (q := 4) hX fl_X4_22 rfl oLF hF.f2 dX4_carryAct_1 rfl ?_
  refine w_getI (q := 7) hX fl_X4_263 rfl oPad dX4_carryAct_4 rfl ?_
  rw [k3]
  refine v_bipush (q := 9) hX (by decide) dX4_carryAct_7 rfl ?_
  refine v_icmp_ne (q := 12) (tgt := 38) hX (by decide) (by decide) dX4_carryAct_9 (by decide) rfl (fun hx_9 => ?_) (fun hx_9 => ?_)
  · exact absurd rfl hx_9
  · refine v_aload_n (q := 13) hX dX4_carryAct_12 rfl rfl rfl ?_
    refine v_aload_n (q := 14) hX dX4_carryAct_13 rfl rfl rfl ?_
    refine w_getR (q := 17) hX fl_X4_22 rfl oLF hF.f2 dX4_carryAct_14 rfl ?_
    refine w_getI (q := 20) hX fl_X4_267 rfl oPad dX4_carryAct_17 rfl ?_
    rw [k4]
    refine v_aload_n (q := 21) hX dX4_carryAct_20 rfl rfl rfl ?_
    refine w_getR (q := 24) hX fl_X4_22 rfl oLF hF.f2 dX4_carryAct_21 rfl ?_
    refine w_getI (q := 27) hX fl_X4_270 rfl oPad dX4_carryAct_24 rfl ?_
    rw [k5]
    refine v_aload_n (q := 28) hX dX4_carryAct_27 rfl rfl rfl ?_
    refine w_getR (q := 31) hX fl_X4_22 rfl oLF hF.f2 dX4_carryAct_28 rfl ?_
    refine w_getI (q := 34) hX fl_X4_273 rfl oPad dX4_carryAct_31 rfl ?_
    rw [k6]
    refine w_callV (q := 37) hX (c_X4_forecast_err D r hF hC hnp p w u ip_ iw_ iu_ he) rfl kV_X4_forecast rfl (by decide) lk_X4_276 (by decide) rfl oLF (Nat.le_of_ble_eq_true rfl) dX4_carryAct_34 rfl ?_
    refine v_ireturn hX hRX rfl (by first | rfl | exact bi_nar _) dX4_carryAct_37 rfl ?_
    exact ⟨rfl, rfl, rfl⟩

set_option maxRecDepth 100000 in
set_option maxHeartbeats 4000000 in
theorem c_cA_ae {z : Nat} (D : xD) (r : xR) (hF : rF r) {N : Nat → Int} {np : Nat} (hC : CR D 5 N np) (hnp : np ≤ 10) (p u : Int) (ip_ : xI p) (iu_ : xI u) (he : eA np p u ≠ 0) (k3 : D 73 3 = 97) (k4 : D 73 4 = (p : Int)) (k6 : D 73 6 = (u : Int)) : MX 5 mX4_carryAct [.ref 4] (356, z) D r (356, z) (xP (vi (eA np p u)) D r) := by
  refine MX.of (by decide +kernel) [some (.ref 4)] rfl (Nat.le_of_ble_eq_true rfl) ?_
  intro γ hX hRX
  refine v_aload_n (q := 1) hX dX4_carryAct_0 rfl rfl rfl ?_
  refine w_getR (q := 4) hX fl_X4_22 rfl oLF hF.f2 dX4_carryAct_1 rfl ?_
  refine w_getI (q := 7) hX fl_X4_263 rfl oPad dX4_carryAct_4 rfl ?_
  rw [k3]
  refine v_bipush (q := 9) hX (by decide) dX4_carryAct_7 rfl ?_
  refine v_icmp_ne (q := 12) (tgt := 38) hX (by decide) (by decide) dX4_carryAct_9 (by decide) rfl (fun hx_9 => ?_) (fun hx_9 => ?_)
  · refine v_aload_n (q := 39) hX dX4_carryAct_38 rfl rfl rfl ?_
    refine w_getR (q := 42) hX fl_X4_22 rfl oLF hF.f2 dX4_carryAct_39 rfl ?_
    refine w_getI (q := 45) hX fl_X4_263 rfl oPad dX4_carryAct_42 rfl ?_
    rw [k3]
    refine v_bipush (q := 47) hX (by decide) dX4_carryAct_45 rfl ?_
    refine v_icmp_ne (q := 50) (tgt := 69) hX (by decide) (by decide) dX4_carryAct_47 (by decide) rfl (fun hx_47 => ?_) (fun hx_47 => ?_)
    · exact absurd rfl hx_47
    · refine v_aload_n (q := 51) hX dX4_carryAct_50 rfl rfl rfl ?_
      refine v_aload_n (q := 52) hX dX4_carryAct_51 rfl rfl rfl ?_
      refine w_getR (q := 55) hX fl_X4_22 rfl oLF hF.f2 dX4_carryAct_52 rfl ?_
      refine w_getI (q := 58) hX fl_X4_267 rfl oPad dX4_carryAct_55 rfl ?_
      rw [k4]
      refine v_aload_n (q := 59) hX dX4_carryAct_58 rfl rfl rfl ?_
      refine w_getR (q := 62) hX fl_X4_22 rfl oLF hF.f2 dX4_carryAct_59 rfl ?_
      refine w_getI (q := 65) hX fl_X4_273 rfl oPad dX4_carryAct_62 rfl ?_
      rw [k6]
      refine w_callV (q := 68) hX (c_X4_actual_err D r hF hC hnp p u ip_ iu_ he) rfl kV_X4_actual rfl (by decide) lk_X4_280 (by decide) rfl oLF (Nat.le_of_ble_eq_true rfl) dX4_carryAct_65 rfl ?_
      refine v_ireturn hX hRX rfl (by first | rfl | exact bi_nar _) dX4_carryAct_68 rfl ?_
      exact ⟨rfl, rfl, rfl⟩
  · exact absurd hx_9 (by decide)

set_option maxRecDepth 100000 in
set_option maxHeartbeats 4000000 in
theorem c_cA_le {z : Nat} (D : xD) (r : xR) (hF : rF r) {N : Nat → Int} {np : Nat} (hC : CR D 5 N np) {B : Int} (hV : nV B np N) (p w u : Int) (ip_ : xI p) (iw_ : xI w) (iu_ : xI u) (he : eL N np p w u ≠ 0) (k3 : D 73 3 = 108) (k4 : D 73 4 = (p : Int)) (k5 : D 73 5 = (w : Int)) (k6 : D 73 6 = (u : Int)) : MX 5 mX4_carryAct [.ref 4] (356, z) D r (356, z) (xP (vi (eL N np p w u)) D r) := by
  refine MX.of (by decide +kernel) [some (.ref 4)] rfl (Nat.le_of_ble_eq_true rfl) ?_
  intro γ hX hRX
  refine v_aload_n (q := 1) hX dX4_carryAct_0 rfl rfl rfl ?_
  refine w_getR (q := 4) hX fl_X4_22 rfl oLF hF.f2 dX4_carryAct_1 rfl ?_
  refine w_getI (q := 7) hX fl_X4_263 rfl oPad dX4_carryAct_4 rfl ?_
  rw [k3]
  refine v_bipush (q := 9) hX (by decide) dX4_carryAct_7 rfl ?_
  refine v_icmp_ne (q := 12) (tgt := 38) hX (by decide) (by decide) dX4_carryAct_9 (by decide) rfl (fun hx_9 => ?_) (fun hx_9 => ?_)
  · refine v_aload_n (q := 39) hX dX4_carryAct_38 rfl rfl rfl ?_
    refine w_getR (q := 42) hX fl_X4_22 rfl oLF hF.f2 dX4_carryAct_39 rfl ?_
    refine w_getI (q := 45) hX fl_X4_263 rfl oPad dX4_carryAct_42 rfl ?_
    rw [k3]
    refine v_bipush (q := 47) hX (by decide) dX4_carryAct_45 rfl ?_
    refine v_icmp_ne (q := 50) (tgt := 69) hX (by decide) (by decide) dX4_carryAct_47 (by decide) rfl (fun hx_47 => ?_) (fun hx_47 => ?_)
    · refine v_aload_n (q := 70) hX dX4_carryAct_69 rfl rfl rfl ?_
      refine w_getR (q := 73) hX fl_X4_22 rfl oLF hF.f2 dX4_carryAct_70 rfl ?_
      refine w_getI (q := 76) hX fl_X4_263 rfl oPad dX4_carryAct_73 rfl ?_
      rw [k3]
      refine v_bipush (q := 78) hX (by decide) dX4_carryAct_76 rfl ?_
      refine v_icmp_ne (q := 81) (tgt := 107) hX (by decide) (by decide) dX4_carryAct_78 (by decide) rfl (fun hx_78 => ?_) (fun hx_78 => ?_)
      · exact absurd rfl hx_78
      · refine v_aload_n (q := 82) hX dX4_carryAct_81 rfl rfl rfl ?_
        refine v_aload_n (q := 83) hX dX4_carryAct_82 rfl rfl rfl ?_
        refine w_getR (q := 86) hX fl_X4_22 rfl oLF hF.f2 dX4_carryAct_83 rfl ?_
        refine w_getI (q := 89) hX fl_X4_267 rfl oPad dX4_carryAct_86 rfl ?_
        rw [k4]
        refine v_aload_n (q := 90) hX dX4_carryAct_89 rfl rfl rfl ?_
        refine w_getR (q := 93) hX fl_X4_22 rfl oLF hF.f2 dX4_carryAct_90 rfl ?_
        refine w_getI (q := 96) hX fl_X4_270 rfl oPad dX4_carryAct_93 rfl ?_
        rw [k5]
        refine v_aload_n (q := 97) hX dX4_carryAct_96 rfl rfl rfl ?_
        refine w_getR (q := 100) hX fl_X4_22 rfl oLF hF.f2 dX4_carryAct_97 rfl ?_
        refine w_getI (q := 103) hX fl_X4_273 rfl oPad dX4_carryAct_100 rfl ?_
        rw [k6]
        refine w_callV (q := 106) hX (c_X4_lots_err D r hF hC hV p w u ip_ iw_ iu_ he) rfl kV_X4_lots rfl (by decide) lk_X4_283 (by decide) rfl oLF (Nat.le_of_ble_eq_true rfl) dX4_carryAct_103 rfl ?_
        refine v_ireturn hX hRX rfl (by first | rfl | exact bi_nar _) dX4_carryAct_106 rfl ?_
        exact ⟨rfl, rfl, rfl⟩
    · exact absurd hx_47 (by decide)
  · exact absurd hx_9 (by decide)

set_option maxRecDepth 100000 in
set_option maxHeartbeats 4000000 in
theorem c_cA_ne {z : Nat} (D : xD) (r : xR) (hF : rF r) (w : Int) (iw_ : xI w) (he : ¬ (1 ≤ w ∧ w ≤ 30)) (k3 : D 73 3 = 110) (k6 : D 73 6 = (w : Int)) : MX 5 mX4_carryAct [.ref 4] (356, z) D r (356, z) (xP (vi (-2)) D r) := by
  refine MX.of (by decide +kernel) [some (.ref 4)] rfl (Nat.le_of_ble_eq_true rfl) ?_
  intro γ hX hRX
  refine v_aload_n (q := 1) hX dX4_carryAct_0 rfl rfl rfl ?_
  refine w_getR (q := 4) hX fl_X4_22 rfl oLF hF.f2 dX4_carryAct_1 rfl ?_
  refine w_getI (q := 7) hX fl_X4_263 rfl oPad dX4_carryAct_4 rfl ?_
  rw [k3]
  refine v_bipush (q := 9) hX (by decide) dX4_carryAct_7 rfl ?_
  refine v_icmp_ne (q := 12) (tgt := 38) hX (by decide) (by decide) dX4_carryAct_9 (by decide) rfl (fun hx_9 => ?_) (fun hx_9 => ?_)
  · refine v_aload_n (q := 39) hX dX4_carryAct_38 rfl rfl rfl ?_
    refine w_getR (q := 42) hX fl_X4_22 rfl oLF hF.f2 dX4_carryAct_39 rfl ?_
    refine w_getI (q := 45) hX fl_X4_263 rfl oPad dX4_carryAct_42 rfl ?_
    rw [k3]
    refine v_bipush (q := 47) hX (by decide) dX4_carryAct_45 rfl ?_
    refine v_icmp_ne (q := 50) (tgt := 69) hX (by decide) (by decide) dX4_carryAct_47 (by decide) rfl (fun hx_47 => ?_) (fun hx_47 => ?_)
    · refine v_aload_n (q := 70) hX dX4_carryAct_69 rfl rfl rfl ?_
      refine w_getR (q := 73) hX fl_X4_22 rfl oLF hF.f2 dX4_carryAct_70 rfl ?_
      refine w_getI (q := 76) hX fl_X4_263 rfl oPad dX4_carryAct_73 rfl ?_
      rw [k3]
      refine v_bipush (q := 78) hX (by decide) dX4_carryAct_76 rfl ?_
      refine v_icmp_ne (q := 81) (tgt := 107) hX (by decide) (by decide) dX4_carryAct_78 (by decide) rfl (fun hx_78 => ?_) (fun hx_78 => ?_)
      · refine v_aload_n (q := 108) hX dX4_carryAct_107 rfl rfl rfl ?_
        refine w_getR (q := 111) hX fl_X4_22 rfl oLF hF.f2 dX4_carryAct_108 rfl ?_
        refine w_getI (q := 114) hX fl_X4_263 rfl oPad dX4_carryAct_111 rfl ?_
        rw [k3]
        refine v_bipush (q := 116) hX (by decide) dX4_carryAct_114 rfl ?_
        refine v_icmp_ne (q := 119) (tgt := 126) hX (by decide) (by decide) dX4_carryAct_116 (by decide) rfl (fun hx_116 => ?_) (fun hx_116 => ?_)
        · refine v_aload_n (q := 127) hX dX4_carryAct_126 rfl rfl rfl ?_
          refine v_aload_n (q := 128) hX dX4_carryAct_127 rfl rfl rfl ?_
          refine w_getR (q := 131) hX fl_X4_22 rfl oLF hF.f2 dX4_carryAct_128 rfl ?_
          refine w_getI (q := 134) hX fl_X4_273 rfl oPad dX4_carryAct_131 rfl ?_
          rw [k6]
          refine w_callV (q := 137) hX (c_X4_weeks_bad D r w iw_ he) rfl kV_X4_weeks rfl (by decide) lk_X4_288 (by decide) rfl oLF (Nat.le_of_ble_eq_true rfl) dX4_carryAct_134 rfl ?_
          refine v_ireturn hX hRX rfl (by first | rfl | exact bi_nar _) dX4_carryAct_137 rfl ?_
          exact ⟨rfl, rfl, rfl⟩
        · exact absurd hx_116 (by decide)
      · exact absurd hx_78 (by decide)
    · exact absurd hx_47 (by decide)
  · exact absurd hx_9 (by decide)

theorem c_X4_carryAct_err {z : Nat} (D : xD) (r : xR) (hF : rF r) {N : Nat → Int} {np : Nat} (hC : CR D 5 N np) {B : Int} (hV : nV B np N) (a : tA) (hk : a.1 = 102 ∨ a.1 = 97 ∨ a.1 = 108 ∨ a.1 = 110 ∨ a.1 = 112) (hi : actI a) (hrd : rdC (D 73) a) (he : actE N np a ≠ 0) : MX 5 mX4_carryAct [.ref 4] (356, z) D r (356, z) (xP (vi (actE N np a)) D r) := by
  obtain ⟨c, x, y, u⟩ := a
  obtain ⟨r3, r110, r3n, r2⟩ := hrd
  obtain ⟨⟨i1, i2⟩, ⟨i3, i4⟩, i5, i6⟩ := hi
  dsimp only at hk r3 r110 r3n r2 i1 i2 i3 i4 i5 i6
  have hnp := hV.1.np.2
  have j1 : xI x := ⟨by omega, by omega⟩
  have j2 : xI y := ⟨by omega, by omega⟩
  have j3 : xI u := ⟨by omega, by omega⟩
  rcases hk with rfl | rfl | rfl | rfl | rfl
  · have e : actE N np (102, x, y, u) = eF np x y u := rfl
    rw [e] at he ⊢
    exact c_cA_fe D r hF hC hnp x y u j1 j2 j3 he r3 (r3n (Or.inl rfl)).1 (r2 (Or.inl rfl)) (r3n (Or.inl rfl)).2
  · have e : actE N np (97, x, y, u) = eA np x u := rfl
    rw [e] at he ⊢
    exact c_cA_ae D r hF hC hnp x u j1 j3 he r3 (r3n (Or.inr (Or.inl rfl))).1 (r3n (Or.inr (Or.inl rfl))).2
  · have e : actE N np (108, x, y, u) = eL N np x y u := rfl
    rw [e] at he ⊢
    exact c_cA_le D r hF hC hV x y u j1 j2 j3 he r3 (r3n (Or.inr (Or.inr rfl))).1 (r2 (Or.inr rfl)) (r3n (Or.inr (Or.inr rfl))).2
  · have e : actE N np (110, x, y, u) = if 1 ≤ x ∧ x ≤ 30 then 0 else -2 := rfl
    rw [e] at he ⊢
    have hn : ¬ (1 ≤ x ∧ x ≤ 30) := fun h => he (if_pos h)
    rw [if_neg hn]
    exact c_cA_ne D r hF x j1 hn r3 (r110 rfl)
  · exact absurd rfl he
theorem c_X4_carryAct {z : Nat} (D : xD) (r : xR) (hF : rF r) {N : Nat → Int} {np : Nat} (hC : CR D 5 N np) {B : Int} (hV : nV B np N) (hB : B + 100000 ≤ 2100000000) (hW : 0 ≤ N 0 ∧ N 0 ≤ B) (f : Nat) (h7 : N 7 = (f : Int)) (hf8 : f ≤ 8) (hz : D 75 2 = 1) (a : tA) (hk : a.1 = 102 ∨ a.1 = 97 ∨ a.1 = 108 ∨ a.1 = 110 ∨ a.1 = 112) (hi : actI a) (hrd : rdC (D 73) a) (he : actE N np a = 0) : ∃ v : Int, xI v ∧ ¬ (v < 0 ∧ v ≠ -6) ∧ MX 5 mX4_carryAct [.ref 4] (356, z) D r (356, z) (xEs (vi v) (fun D' => CR D' 5 (actN N np f a) np ∧ frW 5 D D') r) := by
  obtain ⟨c, x, y, u⟩ := a
  obtain ⟨r3, r110, r3n, r2⟩ := hrd
  obtain ⟨⟨i1, i2⟩, ⟨i3, i4⟩, i5, i6⟩ := hi
  dsimp only at hk r3 r110 r3n r2 i1 i2 i3 i4 i5 i6
  have hnp := hV.1.np.2
  have hO := hV.1
  have j3 : xI u := ⟨by omega, by omega⟩
  rcases hk with rfl | rfl | rfl | rfl | rfl
  · have e : actE N np (102, x, y, u) = eF np x y u := rfl
    rw [e] at he
    obtain ⟨a1, a2, a3⟩ := eF_0 he
    obtain ⟨p, rfl⟩ := Int.eq_ofNat_of_zero_le a1.1
    obtain ⟨w, rfl⟩ := Int.eq_ofNat_of_zero_le a2.1
    have hl := hO.fc (p := p) (k := w) (by omega) (by omega)
    exact ⟨pF N p (12 + w), ⟨by omega, by omega⟩, by omega, c_cA_f D r hF hC hnp p w u (by omega) (by omega) a3 r3 (r3n (Or.inl rfl)).1 (r2 (Or.inl rfl)) (r3n (Or.inl rfl)).2 hz⟩
  · have e : actE N np (97, x, y, u) = eA np x u := rfl
    rw [e] at he
    obtain ⟨a1, a2⟩ := eA_0 he
    obtain ⟨p, rfl⟩ := Int.eq_ofNat_of_zero_le a1.1
    have hpk := (hO.2.2.2.2.2 p (by omega)).2.2.2.2.2.2.2.1
    exact ⟨pF N p 7, ⟨by omega, by omega⟩, by omega, c_cA_a D r hF hC hnp p u (by omega) j3 a2 r3 (r3n (Or.inr (Or.inl rfl))).1 (r3n (Or.inr (Or.inl rfl))).2 hz⟩
  · have e : actE N np (108, x, y, u) = eL N np x y u := rfl
    rw [e] at he
    obtain ⟨a1, a2, a3⟩ := eL_0 he
    obtain ⟨p, rfl⟩ := Int.eq_ofNat_of_zero_le a1.1
    obtain ⟨w, rfl⟩ := Int.eq_ofNat_of_zero_le a2.1
    have hl := hO.lots (p := p) (k := w) (by omega) (by omega)
    have hq : ¬ ((w : Int) < N 7 ∨ (N 5 + N 6 < nHours (fu N (18 + 36 * p + (24 + w)) u) np w ∧ nHours N np w < nHours (fu N (18 + 36 * p + (24 + w)) u) np w)) := by
      intro h9
      unfold eL at he
      rw [if_pos ⟨a1, a2⟩, if_pos a3] at he
      have : (-5 : Int) = 0 := (if_pos h9).symm.trans he
      exact absurd this (by decide)
    exact ⟨pF N p (24 + w), ⟨by omega, by omega⟩, by omega, c_cA_l D r hF hC hV p w u (by omega) (by omega) a3 hq r3 (r3n (Or.inr (Or.inr rfl))).1 (r2 (Or.inr rfl)) (r3n (Or.inr (Or.inr rfl))).2 hz⟩
  · have e : actE N np (110, x, y, u) = if 1 ≤ x ∧ x ≤ 30 then 0 else -2 := rfl
    rw [e] at he
    have hn : 1 ≤ x ∧ x ≤ 30 := Classical.byContradiction fun h => by rw [if_neg h] at he; exact absurd he (by decide)
    obtain ⟨m, rfl⟩ := Int.eq_ofNat_of_zero_le i1
    have h0 := nPs_0 np f m N
    exact ⟨nPs np f m N 0, ⟨by omega, by omega⟩, by omega, c_cA_n D r hF hC hV f h7 hf8 m (by omega) (by omega) r3 (r110 rfl) hz⟩
  · have hl := nLots_le (nPlan_ok (f := f) hO hf8) np (Nat.le_refl _)
    exact ⟨nLots (nPlan np f N) np, ⟨by omega, by omega⟩, by omega, c_cA_p D r hF hC hV f h7 hf8 r3 hz⟩
theorem actN_0 {B : Int} {np f : Nat} {N : Nat → Int} {a : tA} (hW : 0 ≤ N 0 ∧ N 0 ≤ B) (he : actE N np a = 0) : 0 ≤ actN N np f a 0 ∧ actN N np f a 0 ≤ B + 100000 := by
  unfold actN
  split
  · rw [fu_ne _ _ _ (by omega)]; omega
  split
  · rw [fu_ne _ _ _ (by omega)]; omega
  split
  · unfold nSet; rw [fu_ne _ _ _ (by omega)]; omega
  split
  · rename_i h1 h2 h3 h4
    unfold actE at he
    rw [if_neg h1, if_neg h2, if_neg h3, if_pos h4] at he
    have hn : 1 ≤ a.2.1 ∧ a.2.1 ≤ 30 := Classical.byContradiction fun h => by rw [if_neg h] at he; exact absurd he (by decide)
    rw [nPs_0]; omega
  · rw [nPlan_hd _ _ _ (by decide)]; omega
/-- what a text leaves is in its ranges -/
theorem tRun_V (T : Nat → Int) (n np f : Nat) (hf8 : f ≤ 8) : ∀ m p (N : Nat → Int) d (B : Int), p ≤ n → nV B np N → 0 ≤ N 0 ∧ N 0 ≤ B → N 7 = (f : Int) → B + 50000 * ((n - p : Nat) : Int) + 100000 ≤ 2100000000 →
    nV (B + 50000 * ((n - p : Nat) : Int) + 100000) np (tRun T n np f m p N d).2 ∧ (0 ≤ (tRun T n np f m p N d).2 0 ∧ (tRun T n np f m p N d).2 0 ≤ B + 50000 * ((n - p : Nat) : Int) + 100000) ∧ (tRun T n np f m p N d).2 7 = (f : Int) := by
  intro m
  induction m with
  | zero => intro p N d B hp hV hW h7 hB; exact ⟨hV.mono (by omega) hB, ⟨hW.1, by show N 0 ≤ _; omega⟩, h7⟩
  | succ m ih =>
    intro p N d B hp hV hW h7 hB
    unfold tRun
    split
    · rename_i h
      have hw := tAct_le T n p hp
      have hV2 := actN_V (f := f) hV hf8 (by omega) h.2
      have hW2 := actN_0 (f := f) hW h.2
      have h72 : actN N np f (tAct T n p).2.1 7 = (f : Int) := (actN_hd _ (by omega)).trans h7
      split
      · rename_i hlt
        have hlt2 := hw.2.2 h.1
        have g := ih ((tAct T n p).2.2 + 1) _ (d + 1) (B + 100000) (by omega) hV2 hW2 h72 (by omega)
        exact ⟨g.1.mono (by omega) hB, ⟨g.2.1.1, Int.le_trans g.2.1.2 (by omega)⟩, g.2.2⟩
      · exact ⟨hV2.mono (by omega) hB, ⟨hW2.1, Int.le_trans hW2.2 (by omega)⟩, h72⟩
    · exact ⟨hV.mono (by omega) hB, ⟨hW.1, by show N 0 ≤ _; omega⟩, h7⟩
theorem tRF_t {T : Nat → Int} {n q j : Nat} (h : tRF T n q j = -6) : (tAct T n q).1 = true := by
  cases hb : (tAct T n q).1 with
  | true => rfl
  | false => rw [tRF_f hb] at h; omega
theorem tRF_s {T : Nat → Int} {n q j : Nat} (h : tRF T n q j = -6) (hj : n - (tAct T n q).2.2 ≤ j) (hp : (tAct T n q).2.2 < n) : tCh T n (tAct T n q).2.2 = 59 := by
  by_cases hc : tCh T n (tAct T n q).2.2 = 59
  · exact hc
  · rw [tRF_n (tRF_t h) hp hj hc] at h; omega
/-- while a text is carried out: the works, the pad's place and the pause alone are others -/
def frC (D E : xD) : Prop := (∀ a, a ≠ 73 → a ≠ 75 → (a < 5 ∨ 39 ≤ a) → E a = D a) ∧ E 75 1 = D 75 1 ∧ E 75 2 = 1
theorem frC.w {D E F : xD} (h : frC D E) (hf : frW 5 E F) : frC D F := by
  have e75 : F 75 = E 75 := hf 75 (by omega)
  exact ⟨fun a h1 h2 h3 => (hf a (by omega)).trans (h.1 a h1 h2 h3), by rw [e75]; exact h.2.1, by rw [e75]; exact h.2.2⟩
theorem frC.p {D E F : xD} {n q : Nat} (h : frC D E) (hf : pS E F n q) : frC D F := by
  have e75 : F 75 = E 75 := hf.1 75 (by decide)
  exact ⟨fun a h1 h2 h3 => (hf.1 a h1).trans (h.1 a h1 h2 h3), by rw [e75]; exact h.2.1, by rw [e75]; exact h.2.2⟩
theorem CR.pd {D E : xD} {n q np : Nat} {N : Nat → Int} (h : CR D 5 N np) (hnp : np ≤ 10) (hf : pS D E n q) : CR E 5 N np := h.eq hnp (fun a ha hb => hf.1 a (by omega))
theorem pd_wk {D E : xD} {n q : Nat} (h1 : D 73 1 = (n : Int)) (h2 : D 73 2 = (q : Int)) (hf : frW 5 D E) : E 74 = D 74 ∧ E 73 1 = (n : Int) ∧ E 73 2 = (q : Int) := by
  have e73 : E 73 = D 73 := hf 73 (by omega)
  exact ⟨hf 74 (by omega), by rw [e73]; exact h1, by rw [e73]; exact h2⟩
theorem tFault_I {T : Nat → Int} {n : Nat} (hT : tOk T n) : xI (tFault T n) := by
  have h80 := hT.1
  have g : ∀ m p, p ≤ n → -6 ≤ tFl T n m p ∧ tFl T n m p ≤ 80 := by
    intro m
    induction m with
    | zero => intro p hp; exact ⟨by show (-6 : Int) ≤ -6; omega, by show (-6 : Int) ≤ 80; omega⟩
    | succ m ih =>
      intro p hp
      unfold tFl
      split
      · split
        · have hw := tAct_le T n (p + 1) (by omega)
          split
          · exact ih _ (by omega)
          · omega
        · omega
      · omega
  have hw := tAct_le T n 0 (by omega)
  have g1 := g n (tAct T n 0).2.2 (by omega)
  unfold tFault
  split
  · exact ⟨by omega, by omega⟩
  · exact ⟨by omega, by omega⟩
set_option maxRecDepth 100000 in
set_option maxHeartbeats 4000000 in
theorem c_X4_carryOut_no {z : Nat} (D : xD) (r : xR) (hF : rF r) (n : Nat) (hT : tOk (D 74) n) (h1 : D 73 1 = (n : Int)) (hno : tFault (D 74) n ≠ -6) : MX 6 mX4_carryOut [.ref 4] (356, z) D r (356, z) (xEs (vi (-3)) (fun D' => ∃ q, pS D D' n q) r) := by
  refine MX.of (by decide +kernel) [some (.ref 4), none] rfl (Nat.le_of_ble_eq_true rfl) ?_
  intro γ hX hRX
  refine v_aload_n (q := 1) hX dX4_carryOut_0 rfl rfl rfl ?_
  refine w_callVe (q := 4) hX (c_X4_fault D r hF n hT h1) rfl kV_X4_fault rfl (by decide) lk_X4_247 (by decide) rfl oLF (Nat.le_of_ble_eq_true rfl) dX4_carryOut_1 rfl (fun D0 hD0 => ?_)
  obtain ⟨q0, p0⟩ := hD0
  refine v_bipush (q := 6) hX (by decide) dX4_carryOut_4 rfl ?_
  refine v_icmp_eq (q := 9) (tgt := 12) hX (tFault_I hT) (by decide) dX4_carryOut_6 (by decide) rfl (fun hx_6 => ?_) (fun hx_6 => ?_)
  · exact absurd hx_6 hno
  · refine v_bipush (q := 11) hX (by decide) dX4_carryOut_9 rfl ?_
    refine v_ireturn hX hRX rfl (by first | rfl | exact bi_nar _) dX4_carryOut_11 rfl ?_
    exact ⟨rfl, rfl, q0, p0⟩

theorem coFin {D D0 D1 E : xD} {r r1 : xR} {n q0 s np : Nat} {π1 : Nat → Nat} {K : Nat → Nat → Int} {q : Nat → Nat} {N M : Nat → Int} (hnp : np ≤ 10) (p0 : pS D D0 n q0) (x1 : frX D0 D1) (x2 : frR r r1) (hI : HI D1 r1 (hS s + 1) π1 (hPu s K N) (hPu s q np)) (fC : frC D1 E) (hC : CR E 5 M np) :
    (∀ a, a ≠ 73 → a ≠ 75 → (a < 5 ∨ 39 ≤ a) → (a < 77 ∨ 281 ≤ a) → xu (xu E 75 2 0) 73 1 0 a = D a) ∧ frR r r1 ∧ xu (xu E 75 2 0) 73 1 0 75 2 = 0 ∧ xu (xu E 75 2 0) 73 1 0 73 1 = 0 ∧ CR (xu (xu E 75 2 0) 73 1 0) 5 M np ∧ ∃ π', HI (xu (xu E 75 2 0) 73 1 0) r1 (hS s + 1) π' (hPu s K N) (hPu s q np) := by
  have e : ∀ a, a ≠ 73 → a ≠ 75 → xu (xu E 75 2 0) 73 1 0 a = E a := fun a h1 h2 => (xu_row _ _ _ _ h1).trans (xu_row _ _ _ _ h2)
  have e75 : xu (xu E 75 2 0) 73 1 0 75 = xu E 75 2 0 75 := xu_row _ _ _ _ (by decide)
  exact ⟨fun a h1 h2 h3 h4 => (e a h1 h2).trans ((fC.1 a h1 h2 h3).trans ((x1 a h2 h4).trans (p0.1 a h1))), x2, by rw [e75, xu_at], xu_at _ _ _ _, hC.eq hnp (fun a ha hb => e a (by omega) (by omega)), π1, hI.cong (by rw [e75, xu_ne _ _ _ _ (Or.inr (by decide))]; exact fC.2.1) (fun a ha hb => (e a (by omega) (by omega)).trans (fC.1 a (by omega) (by omega) (by omega)))⟩
set_option maxRecDepth 100000 in
set_option maxHeartbeats 4000000 in
theorem c_X4_carryOut {z : Nat} (D : xD) (r : xR) (hF : rF r) (n : Nat) (hT : tOk (D 74) n) (h1 : D 73 1 = (n : Int)) {N : Nat → Int} {np : Nat} (hC : CR D 5 N np) {B : Int} (hV : nV B np N) (hB : B + 4100000 ≤ 2100000000) (hW : 0 ≤ N 0 ∧ N 0 ≤ B) (f : Nat) (h7 : N 7 = (f : Int)) (hf8 : f ≤ 8) {s : Nat} {π : Nat → Nat} {K : Nat → Nat → Int} {q : Nat → Nat} (hI : HI D r s π K q) (hz : D 75 2 = 0) (hno : tFault (D 74) n = -6) : MX 6 mX4_carryOut [.ref 4] (356, z) D r (356, z) (xRs (vi ((tRun (D 74) n np f n 0 N 0).1 : Nat)) (fun D' r' => (∀ a, a ≠ 73 → a ≠ 75 → (a < 5 ∨ 39 ≤ a) → (a < 77 ∨ 281 ≤ a) → D' a = D a) ∧ frR r r' ∧ D' 75 2 = 0 ∧ D' 73 1 = 0 ∧ CR D' 5 (tRun (D 74) n np f n 0 N 0).2 np ∧ ∃ π', HI D' r' (hS s + 1) π' (hPu s K N) (hPu s q np))) := by
  refine MX.of (by decide +kernel) [some (.ref 4), none] rfl (Nat.le_of_ble_eq_true rfl) ?_
  intro γ hX hRX
  have hnp := hV.1.np.2
  have hn80 := hT.1
  refine v_aload_n (q := 1) hX dX4_carryOut_0 rfl rfl rfl ?_
  refine w_callVe (q := 4) hX (c_X4_fault D r hF n hT h1) rfl kV_X4_fault rfl (by decide) lk_X4_247 (by decide) rfl oLF (Nat.le_of_ble_eq_true rfl) dX4_carryOut_1 rfl (fun D0 hD0 => ?_)
  obtain ⟨q0, p0⟩ := hD0
  have hI0 : HI D0 r s π K q := hI.cong (by rw [p0.1 75 (by decide)]) (fun a ha hb => p0.1 a (by omega))
  have hz0 : D0 75 2 = 0 := by rw [p0.1 75 (by decide)]; exact hz
  refine v_bipush (q := 6) hX (by decide) dX4_carryOut_4 rfl ?_
  refine v_icmp_eq (q := 9) (tgt := 12) hX (tFault_I hT) (by decide) dX4_carryOut_6 (by decide) rfl (fun hx_6 => ?_) (fun hx_6 => ?_)
  · refine v_aload_n (q := 13) hX dX4_carryOut_12 rfl rfl rfl ?_
    refine w_getR (q := 16) hX fl_X4_29 rfl oLF hF.f3 dX4_carryOut_13 rfl ?_
    refine v_aload_n (q := 17) hX dX4_carryOut_16 rfl rfl rfl ?_
    refine w_getR (q := 20) hX fl_X4_10 rfl oLF hF.f0 dX4_carryOut_17 rfl ?_
    refine w_callVq (q := 23) hX (c_X0_remember D0 r hF (hC.pd hnp p0) hnp hI0 hz0) rfl kV_X0_remember rfl (by decide) lk_X4_52 (by decide) rfl oHis (Nat.le_of_ble_eq_true rfl) dX4_carryOut_20 rfl (fun D1 r1 hD1 => ?_)
    obtain ⟨x1, x2, x3, π1, hI1⟩ := hD1
    have hF := hF.mv x2
    have hC1 := (hC.pd hnp p0).eq hnp (fun a ha hb => x1 a (by omega) (by omega))
    refine v_aload_n (q := 24) hX dX4_carryOut_23 rfl rfl rfl ?_
    refine w_getR (q := 27) hX fl_X4_29 rfl oLF hF.f3 dX4_carryOut_24 rfl ?_
    refine v_iconst (q := 28) hX dX4_carryOut_27 rfl ?_
    refine w_putZ (q := 31) hX fl_X4_250 rfl (Or.inr rfl) oHis dX4_carryOut_28 rfl ?_
    refine v_aload_n (q := 32) hX dX4_carryOut_31 rfl rfl rfl ?_
    refine w_getR (q := 35) hX fl_X4_22 rfl oLF hF.f2 dX4_carryOut_32 rfl ?_
    refine w_callVn (q := 38) hX (c_X1_startReading _ r1) rfl kV_X1_startReading rfl (by decide) lk_X4_231 (by decide) rfl oPad (Nat.le_of_ble_eq_true rfl) dX4_carryOut_35 rfl (fun D3 hD3 => ?_)
    have eD : ∀ a, a ≠ 73 → D3 a = xu D1 75 2 1 a := fun a ha => by rw [hD3]; exact xw_ne _ _ _ ha
    have e73 : D1 73 = D0 73 := x1 73 (by decide) (by omega)
    have fC0 : frC D1 D3 := ⟨fun a g1 g2 g3 => (eD a g1).trans (xu_row _ _ _ _ g2), by rw [eD 75 (by decide), xu_ne _ _ _ _ (Or.inr (by decide))], by rw [eD 75 (by decide), xu_at]⟩
    refine v_iconst (q := 39) hX dX4_carryOut_38 rfl ?_
    refine v_istore_n (q := 40) hX dX4_carryOut_39 rfl (Nat.le_of_ble_eq_true rfl) (Nat.le_of_ble_eq_true rfl) rfl ?_
    dsimp only [xs1, xs2, xclr]
    have K84 : ∀ (k : Nat) (M : Nat → Int) (E : xD), CR E 5 M np → frC D1 E → (k, M) = tRun (D 74) n np f n 0 N 0 → xV γ 84 [some (.ref 4), some (vi k)] [] (356, z) E r1 := by
      intro k M E hCE fC hR
      refine v_aload_n (q := 85) hX dX4_carryOut_84 rfl rfl rfl ?_
      refine w_getR (q := 88) hX fl_X4_29 rfl oLF hF.f3 dX4_carryOut_85 rfl ?_
      refine v_iconst (q := 89) hX dX4_carryOut_88 rfl ?_
      refine w_putZ (q := 92) hX fl_X4_250 rfl (by decide) oHis dX4_carryOut_89 rfl ?_
      refine v_aload_n (q := 93) hX dX4_carryOut_92 rfl rfl rfl ?_
      refine w_getR (q := 96) hX fl_X4_22 rfl oLF hF.f2 dX4_carryOut_93 rfl ?_
      refine v_iconst (q := 97) hX dX4_carryOut_96 rfl ?_
      refine w_putI (q := 100) hX fl_X4_195 rfl oPad dX4_carryOut_97 rfl ?_
      refine v_iload_n (q := 101) hX dX4_carryOut_100 rfl rfl rfl ?_
      refine v_ireturn hX hRX rfl (by first | rfl | exact bi_nar _) dX4_carryOut_101 rfl ?_
      have hk1 : k = (tRun (D 74) n np f n 0 N 0).1 := congrArg Prod.fst hR
      have hk2 : M = (tRun (D 74) n np f n 0 N 0).2 := congrArg Prod.snd hR
      subst hk2
      rw [hk1]
      exact ⟨rfl, coFin hnp p0 x1 x2 hI1 fC hCE⟩
    have L : ∀ m k p (E : xD) (M : Nat → Int) (j i : Nat), n + 1 - p ≤ m → 2 * k ≤ p → p ≤ n → n - p ≤ i → tRF (D 74) n p j = -6 → n - (tAct (D 74) n p).2.2 ≤ j → E 74 = D 74 → E 73 1 = (n : Int) → E 73 2 = (p : Int) → nV (B + 50000 * (p : Int)) np M → 0 ≤ M 0 ∧ M 0 ≤ B + 50000 * (p : Int) → M 7 = (f : Int) → CR E 5 M np → frC D1 E → tRun (D 74) n np f i p M k = tRun (D 74) n np f n 0 N 0 → xV γ 40 [some (.ref 4), some (vi (k : Nat))] [] (356, z) E r1 := by
      intro m
      induction m with
      | zero => intro k p E M j i hm hk hp; omega
      | succ m ih =>
        intro k p E M j i0 hm hk hp hi0 hG2 hj eT g1 g2 hVp hWp h7p hCE fC hG
        have ht_ := tRF_t hG2
        have hw1 := tAct_le (D 74) n p hp
        have hpl := hw1.2.2 ht_
        obtain ⟨i, hi1⟩ : ∃ i, i0 = i + 1 := ⟨i0 - 1, by omega⟩
        obtain ⟨ee, a1_, -, hM⟩ := c_X1_readAct (z := z) E r1 hF.sg n p (by rw [eT]; exact hT) g1 g2 (by omega)
        rw [eT] at a1_
        have e1 := a1_ ht_
        subst e1
        by_cases he0 : actE M np (tAct (D 74) n p).2.1 = 0
        · have hV2 := actN_V (f := f) hVp hf8 (by omega) he0
          have hW2 := actN_0 (f := f) hWp he0
          have h72 : actN M np f (tAct (D 74) n p).2.1 7 = (f : Int) := (actN_hd _ (by omega)).trans h7p
          by_cases hlt : (tAct (D 74) n p).2.2 < n
          · have hs_ := tRF_s hG2 hj hlt
            refine v_iload_n (q := 41) hX dX4_carryOut_40 rfl rfl rfl ?_
            refine v_bipush (q := 43) hX (by decide) dX4_carryOut_41 rfl ?_
            refine v_icmp_ge (q := 46) (tgt := 84) hX ⟨by omega, by omega⟩ (by decide) dX4_carryOut_43 (by decide) rfl (fun hx_43 => ?_) (fun hx_43 => ?_)
            · exact absurd hx_43 (by omega)
            · refine v_aload_n (q := 47) hX dX4_carryOut_46 rfl rfl rfl ?_
              refine w_getR (q := 50) hX fl_X4_22 rfl oLF hF.f2 dX4_carryOut_47 rfl ?_
              refine w_callVe (q := 53) hX (hM) rfl kV_X1_readAct rfl (by decide) lk_X4_234 (by decide) rfl oPad (Nat.le_of_ble_eq_true rfl) dX4_carryOut_50 rfl (fun E1 hE1 => ?_)
              obtain ⟨e1_, c1_⟩ := hE1
              rw [eT] at e1_ c1_
              have hCE1 := hCE.pd hnp e1_
              have fC1 := fC.p e1_
              have hrd := c1_ ht_
              obtain ⟨v_, hIv, hv_, hA⟩ := c_X4_carryAct (z := z) E1 r1 hF hCE1 hVp (by omega) hWp f h7p hf8 fC1.2.2 _ (tAct_k _ _ _ ht_) (tAct_v _ _ _) hrd he0
              refine v_if_eq (q := 56) (tgt := 84) hX ⟨by omega, by omega⟩ dX4_carryOut_53 (by decide) rfl (fun hx_53 => ?_) (fun hx_53 => ?_)
              · exact absurd hx_53 (by decide)
              · refine v_aload_n (q := 57) hX dX4_carryOut_56 rfl rfl rfl ?_
                refine w_callVe (q := 60) hX (hA) rfl kV_X4_carryAct rfl (by decide) lk_X4_254 (by decide) rfl oLF (Nat.le_of_ble_eq_true rfl) dX4_carryOut_57 rfl (fun E2 hE2 => ?_)
                have hCE2 := hE2.1
                have fC2 := fC1.w hE2.2
                obtain ⟨b1, b2, b3⟩ := pd_wk e1_.2.1 e1_.2.2 hE2.2
                have b1 := b1.trans e1_.T
                refine w_callS (q := 63) hX (c_X4_isError _ _ _ hIv) rfl kS_X4_isError rfl (by decide) lk_X4_257 (Nat.le_of_ble_eq_true rfl) dX4_carryOut_60 rfl ?_
                refine w_ifne (q := 66) (tgt := 84) hX dX4_carryOut_63 (by decide) rfl (fun hx_63 => ?_) (fun hx_63 => ?_)
                · exact absurd hx_63 hv_
                · refine v_iinc (q := 69) hX dX4_carryOut_66 rfl (Nat.le_of_ble_eq_true rfl) (Nat.le_of_ble_eq_true rfl) rfl ?_
                  dsimp only [xs1, xs2, xclr]
                  refine v_aload_n (q := 70) hX dX4_carryOut_69 rfl rfl rfl ?_
                  refine w_getR (q := 73) hX fl_X4_22 rfl oLF hF.f2 dX4_carryOut_70 rfl ?_
                  refine v_bipush (q := 75) hX (by decide) dX4_carryOut_73 rfl ?_
                  refine w_callVe (q := 78) hX (c_X1_readSign E2 r1 hF.sg n (tAct (D 74) n p).2.2 (by rw [b1, eT]; exact hT) b2 b3 (by omega) 59 (by decide) (by rw [b1, eT]; exact hs_)) rfl kV_X1_readSign rfl (by decide) lk_X4_243 (by decide) rfl oPad (Nat.le_of_ble_eq_true rfl) dX4_carryOut_75 rfl (fun E3 hE3 => ?_)
                  have s3 := (show pS E2 E2 n (tAct (D 74) n p).2.2 from ⟨fun _ _ => rfl, b2, b3⟩).sg hE3
                  refine v_if_ne (q := 81) (tgt := 40) hX ⟨by omega, by omega⟩ dX4_carryOut_78 (by decide) rfl (fun hx_78 => ?_) (fun hx_78 => ?_)
                  · refine ih (k + 1) ((tAct (D 74) n p).2.2 + 1) E3 _ (j - 1) i (by omega) (by omega) (by omega) (by omega) ?_ (by have hw2 := tAct_le (D 74) n ((tAct (D 74) n p).2.2 + 1) (by omega); omega) (by rw [s3.1.T, b1, eT]) s3.1.2.1 s3.1.2.2 (hV2.mono (by omega) (by omega)) ⟨hW2.1, Int.le_trans hW2.2 (by omega)⟩ h72 (hCE2.pd hnp s3.1) (fC2.p s3.1) ?_
                    · rw [← hG2, tRF_g ht_ hlt hj hs_]
                    · rw [← hG, hi1, tRun, if_pos ⟨ht_, he0⟩, if_pos hlt]
                  · exact absurd hx_78 (by decide)
          · have hs_ : tCh (D 74) n (tAct (D 74) n p).2.2 ≠ 59 := by unfold tCh; rw [if_neg hlt]; decide
            refine v_iload_n (q := 41) hX dX4_carryOut_40 rfl rfl rfl ?_
            refine v_bipush (q := 43) hX (by decide) dX4_carryOut_41 rfl ?_
            refine v_icmp_ge (q := 46) (tgt := 84) hX ⟨by omega, by omega⟩ (by decide) dX4_carryOut_43 (by decide) rfl (fun hx_43 => ?_) (fun hx_43 => ?_)
            · exact absurd hx_43 (by omega)
            · refine v_aload_n (q := 47) hX dX4_carryOut_46 rfl rfl rfl ?_
              refine w_getR (q := 50) hX fl_X4_22 rfl oLF hF.f2 dX4_carryOut_47 rfl ?_
              refine w_callVe (q := 53) hX (hM) rfl kV_X1_readAct rfl (by decide) lk_X4_234 (by decide) rfl oPad (Nat.le_of_ble_eq_true rfl) dX4_carryOut_50 rfl (fun E1 hE1 => ?_)
              obtain ⟨e1_, c1_⟩ := hE1
              rw [eT] at e1_ c1_
              have hCE1 := hCE.pd hnp e1_
              have fC1 := fC.p e1_
              have hrd := c1_ ht_
              obtain ⟨v_, hIv, hv_, hA⟩ := c_X4_carryAct (z := z) E1 r1 hF hCE1 hVp (by omega) hWp f h7p hf8 fC1.2.2 _ (tAct_k _ _ _ ht_) (tAct_v _ _ _) hrd he0
              refine v_if_eq (q := 56) (tgt := 84) hX ⟨by omega, by omega⟩ dX4_carryOut_53 (by decide) rfl (fun hx_53 => ?_) (fun hx_53 => ?_)
              · exact absurd hx_53 (by decide)
              · refine v_aload_n (q := 57) hX dX4_carryOut_56 rfl rfl rfl ?_
                refine w_callVe (q := 60) hX (hA) rfl kV_X4_carryAct rfl (by decide) lk_X4_254 (by decide) rfl oLF (Nat.le_of_ble_eq_true rfl) dX4_carryOut_57 rfl (fun E2 hE2 => ?_)
                have hCE2 := hE2.1
                have fC2 := fC1.w hE2.2
                obtain ⟨b1, b2, b3⟩ := pd_wk e1_.2.1 e1_.2.2 hE2.2
                have b1 := b1.trans e1_.T
                refine w_callS (q := 63) hX (c_X4_isError _ _ _ hIv) rfl kS_X4_isError rfl (by decide) lk_X4_257 (Nat.le_of_ble_eq_true rfl) dX4_carryOut_60 rfl ?_
                refine w_ifne (q := 66) (tgt := 84) hX dX4_carryOut_63 (by decide) rfl (fun hx_63 => ?_) (fun hx_63 => ?_)
                · exact absurd hx_63 hv_
                · refine v_iinc (q := 69) hX dX4_carryOut_66 rfl (Nat.le_of_ble_eq_true rfl) (Nat.le_of_ble_eq_true rfl) rfl ?_
                  dsimp only [xs1, xs2, xclr]
                  refine v_aload_n (q := 70) hX dX4_carryOut_69 rfl rfl rfl ?_
                  refine w_getR (q := 73) hX fl_X4_22 rfl oLF hF.f2 dX4_carryOut_70 rfl ?_
                  refine v_bipush (q := 75) hX (by decide) dX4_carryOut_73 rfl ?_
                  refine w_callV (q := 78) hX (c_X1_readSign0 E2 r1 hF.sg n (tAct (D 74) n p).2.2 (by rw [b1, eT]; exact hT) b2 b3 (by omega) 59 (by decide) (by rw [b1, eT]; exact hs_)) rfl kV_X1_readSign rfl (by decide) lk_X4_243 (by decide) rfl oPad (Nat.le_of_ble_eq_true rfl) dX4_carryOut_75 rfl ?_
                  refine v_if_ne (q := 81) (tgt := 40) hX ⟨by omega, by omega⟩ dX4_carryOut_78 (by decide) rfl (fun hx_78 => ?_) (fun hx_78 => ?_)
                  · exact absurd hx_78 (by decide)
                  · refine v_goto (tgt := 84) hX dX4_carryOut_81 (by decide) ?_
                    exact K84 (k + 1) _ E2 hCE2 fC2 (by rw [← hG, hi1, tRun, if_pos ⟨ht_, he0⟩, if_neg hlt])
        · have hne : actE M np (tAct (D 74) n p).2.1 ≠ 0 := he0
          have hle := actE_le M np (tAct (D 74) n p).2.1
          have hIe : xI (actE M np (tAct (D 74) n p).2.1) := ⟨by omega, by omega⟩
          refine v_iload_n (q := 41) hX dX4_carryOut_40 rfl rfl rfl ?_
          refine v_bipush (q := 43) hX (by decide) dX4_carryOut_41 rfl ?_
          refine v_icmp_ge (q := 46) (tgt := 84) hX ⟨by omega, by omega⟩ (by decide) dX4_carryOut_43 (by decide) rfl (fun hx_43 => ?_) (fun hx_43 => ?_)
          · exact absurd hx_43 (by omega)
          · refine v_aload_n (q := 47) hX dX4_carryOut_46 rfl rfl rfl ?_
            refine w_getR (q := 50) hX fl_X4_22 rfl oLF hF.f2 dX4_carryOut_47 rfl ?_
            refine w_callVe (q := 53) hX (hM) rfl kV_X1_readAct rfl (by decide) lk_X4_234 (by decide) rfl oPad (Nat.le_of_ble_eq_true rfl) dX4_carryOut_50 rfl (fun E1 hE1 => ?_)
            obtain ⟨e1_, c1_⟩ := hE1
            rw [eT] at e1_ c1_
            have hCE1 := hCE.pd hnp e1_
            have fC1 := fC.p e1_
            have hrd := c1_ ht_
            refine v_if_eq (q := 56) (tgt := 84) hX ⟨by omega, by omega⟩ dX4_carryOut_53 (by decide) rfl (fun hx_53 => ?_) (fun hx_53 => ?_)
            · exact absurd hx_53 (by decide)
            · refine v_aload_n (q := 57) hX dX4_carryOut_56 rfl rfl rfl ?_
              refine w_callV (q := 60) hX (c_X4_carryAct_err E1 r1 hF hCE1 hVp _ (tAct_k _ _ _ ht_) (tAct_v _ _ _) hrd hne) rfl kV_X4_carryAct rfl (by decide) lk_X4_254 (by decide) rfl oLF (Nat.le_of_ble_eq_true rfl) dX4_carryOut_57 rfl ?_
              refine w_callS (q := 63) hX (c_X4_isError _ _ _ hIe) rfl kS_X4_isError rfl (by decide) lk_X4_257 (Nat.le_of_ble_eq_true rfl) dX4_carryOut_60 rfl ?_
              refine w_ifne (q := 66) (tgt := 84) hX dX4_carryOut_63 (by decide) rfl (fun hx_63 => ?_) (fun hx_63 => ?_)
              · exact K84 k M E1 hCE1 fC1 (by rw [← hG, hi1, tRun, if_neg (fun h9 => hne h9.2)])
              · exact absurd ⟨by omega, by omega⟩ hx_63
    have w3 : D3 73 = fu (D1 73) 2 0 := by rw [hD3, xw_at]; rfl
    refine L (n + 1) 0 0 D3 N n n (by omega) (by omega) (by omega) (by omega) hno (by omega) ?_ ?_ ?_ (by rw [show B + 50000 * ((0 : Nat) : Int) = B by omega]; exact hV) (by omega) h7 (hC1.eq hnp (fun a ha hb => (eD a (by omega)).trans (xu_row _ _ _ _ (by omega)))) fC0 rfl
    · rw [eD 74 (by decide), xu_row _ _ _ _ (by decide), x1 74 (by decide) (by omega), p0.1 74 (by decide)]
    · rw [w3, fu_ne _ _ _ (by decide), e73]; exact p0.2.1
    · rw [w3, fu_at]; rfl
  · exact absurd hno hx_6

