theorem dh_mq {d mn : Nat} {as : List dh_V} {h : dh_AH} {Q : Option dh_V → dh_AH → Prop} {ls : dh_LS} (h1 : (dh_sl as).length ≤ dh_nL mn) (h2 : dh_en (dh_nL mn) as = ls) : dh_wpM (d + 1) mn as h Q = dh_wp dh_sh (dh_wpM d) (dh_bl mn) Q 0 ls [] h := by
  subst h2
  exact propext ⟨fun q => q.2, fun q => ⟨h1, q⟩⟩
section BLK
variable {d : Nat} {Q : Option dh_V → dh_AH → Prop} {ls : dh_LS} {st : List dh_V} {h : dh_AH}
theorem u0_0 : dh_wp dh_sh (dh_wpM d) (dh_bl 0) Q 0 ls st h = dh_wpB dh_sh (dh_wpM d) (dh_wp dh_sh (dh_wpM d) (dh_bl 0) Q) Q bk0_0 ls st h := dh_wp_eq (dh_wpM_mono d) rfl
theorem u0_1 : dh_wp dh_sh (dh_wpM d) (dh_bl 0) Q 1 ls st h = dh_wpB dh_sh (dh_wpM d) (dh_wp dh_sh (dh_wpM d) (dh_bl 0) Q) Q bk0_1 ls st h := dh_wp_eq (dh_wpM_mono d) rfl
theorem u0_2 : dh_wp dh_sh (dh_wpM d) (dh_bl 0) Q 2 ls st h = dh_wpB dh_sh (dh_wpM d) (dh_wp dh_sh (dh_wpM d) (dh_bl 0) Q) Q bk0_2 ls st h := dh_wp_eq (dh_wpM_mono d) rfl
theorem u0_3 : dh_wp dh_sh (dh_wpM d) (dh_bl 0) Q 3 ls st h = dh_wpB dh_sh (dh_wpM d) (dh_wp dh_sh (dh_wpM d) (dh_bl 0) Q) Q bk0_3 ls st h := dh_wp_eq (dh_wpM_mono d) rfl
theorem u0_4 : dh_wp dh_sh (dh_wpM d) (dh_bl 0) Q 4 ls st h = dh_wpB dh_sh (dh_wpM d) (dh_wp dh_sh (dh_wpM d) (dh_bl 0) Q) Q bk0_4 ls st h := dh_wp_eq (dh_wpM_mono d) rfl
theorem u0_5 : dh_wp dh_sh (dh_wpM d) (dh_bl 0) Q 5 ls st h = dh_wpB dh_sh (dh_wpM d) (dh_wp dh_sh (dh_wpM d) (dh_bl 0) Q) Q bk0_5 ls st h := dh_wp_eq (dh_wpM_mono d) rfl
theorem u0_6 : dh_wp dh_sh (dh_wpM d) (dh_bl 0) Q 6 ls st h = dh_wpB dh_sh (dh_wpM d) (dh_wp dh_sh (dh_wpM d) (dh_bl 0) Q) Q bk0_6 ls st h := dh_wp_eq (dh_wpM_mono d) rfl
theorem u0_7 : dh_wp dh_sh (dh_wpM d) (dh_bl 0) Q 7 ls st h = dh_wpB dh_sh (dh_wpM d) (dh_wp dh_sh (dh_wpM d) (dh_bl 0) Q) Q bk0_7 ls st h := dh_wp_eq (dh_wpM_mono d) rfl
theorem u0_8 : dh_wp dh_sh (dh_wpM d) (dh_bl 0) Q 8 ls st h = dh_wpB dh_sh (dh_wpM d) (dh_wp dh_sh (dh_wpM d) (dh_bl 0) Q) Q bk0_8 ls st h := dh_wp_eq (dh_wpM_mono d) rfl
theorem u0_9 : dh_wp dh_sh (dh_wpM d) (dh_bl 0) Q 9 ls st h = dh_wpB dh_sh (dh_wpM d) (dh_wp dh_sh (dh_wpM d) (dh_bl 0) Q) Q bk0_9 ls st h := dh_wp_eq (dh_wpM_mono d) rfl
/-- DoubleHeap$Evening.wonByHer(LDoubleHeap$Law;IZ)Z -/
theorem m0 {p0 : Nat} {x1 : Option Nat} {x2 : Int} {x3 : Int} : dh_wpM (d + 1) 0 [.inr (.inr (some p0)), .inr (.inr x1), .inl x2, .inl x3] h Q = dh_wp dh_sh (dh_wpM d) (dh_bl 0) Q 0 [some (.inr (.inr (some p0))), some (.inr (.inr x1)), some (.inl x2), some (.inl x3), none, none, none, none, none, none, none] [] h := dh_mq (Nat.le_of_ble_eq_true rfl) rfl
theorem u1_0 : dh_wp dh_sh (dh_wpM d) (dh_bl 1) Q 0 ls st h = dh_wpB dh_sh (dh_wpM d) (dh_wp dh_sh (dh_wpM d) (dh_bl 1) Q) Q bk1_0 ls st h := dh_wp_eq (dh_wpM_mono d) rfl
/-- DoubleHeap$Law.adopt(LDoubleHeap$Rules;)V -/
theorem m1 {p0 : Nat} {x1 : Option Nat} : dh_wpM (d + 1) 1 [.inr (.inr (some p0)), .inr (.inr x1)] h Q = dh_wp dh_sh (dh_wpM d) (dh_bl 1) Q 0 [some (.inr (.inr (some p0))), some (.inr (.inr x1))] [] h := dh_mq (Nat.le_of_ble_eq_true rfl) rfl
theorem u2_0 : dh_wp dh_sh (dh_wpM d) (dh_bl 2) Q 0 ls st h = dh_wpB dh_sh (dh_wpM d) (dh_wp dh_sh (dh_wpM d) (dh_bl 2) Q) Q bk2_0 ls st h := dh_wp_eq (dh_wpM_mono d) rfl
theorem u2_1 : dh_wp dh_sh (dh_wpM d) (dh_bl 2) Q 1 ls st h = dh_wpB dh_sh (dh_wpM d) (dh_wp dh_sh (dh_wpM d) (dh_bl 2) Q) Q bk2_1 ls st h := dh_wp_eq (dh_wpM_mono d) rfl
theorem u2_2 : dh_wp dh_sh (dh_wpM d) (dh_bl 2) Q 2 ls st h = dh_wpB dh_sh (dh_wpM d) (dh_wp dh_sh (dh_wpM d) (dh_bl 2) Q) Q bk2_2 ls st h := dh_wp_eq (dh_wpM_mono d) rfl
theorem u2_3 : dh_wp dh_sh (dh_wpM d) (dh_bl 2) Q 3 ls st h = dh_wpB dh_sh (dh_wpM d) (dh_wp dh_sh (dh_wpM d) (dh_bl 2) Q) Q bk2_3 ls st h := dh_wp_eq (dh_wpM_mono d) rfl
theorem u2_4 : dh_wp dh_sh (dh_wpM d) (dh_bl 2) Q 4 ls st h = dh_wpB dh_sh (dh_wpM d) (dh_wp dh_sh (dh_wpM d) (dh_bl 2) Q) Q bk2_4 ls st h := dh_wp_eq (dh_wpM_mono d) rfl
theorem u2_5 : dh_wp dh_sh (dh_wpM d) (dh_bl 2) Q 5 ls st h = dh_wpB dh_sh (dh_wpM d) (dh_wp dh_sh (dh_wpM d) (dh_bl 2) Q) Q bk2_5 ls st h := dh_wp_eq (dh_wpM_mono d) rfl
/-- DoubleHeap$Law.ready(I)V -/
theorem m2 {p0 : Nat} {x1 : Int} : dh_wpM (d + 1) 2 [.inr (.inr (some p0)), .inl x1] h Q = dh_wp dh_sh (dh_wpM d) (dh_bl 2) Q 0 [some (.inr (.inr (some p0))), some (.inl x1), none, none, none, none] [] h := dh_mq (Nat.le_of_ble_eq_true rfl) rfl
theorem u3_0 : dh_wp dh_sh (dh_wpM d) (dh_bl 3) Q 0 ls st h = dh_wpB dh_sh (dh_wpM d) (dh_wp dh_sh (dh_wpM d) (dh_bl 3) Q) Q bk3_0 ls st h := dh_wp_eq (dh_wpM_mono d) rfl
theorem u3_1 : dh_wp dh_sh (dh_wpM d) (dh_bl 3) Q 1 ls st h = dh_wpB dh_sh (dh_wpM d) (dh_wp dh_sh (dh_wpM d) (dh_bl 3) Q) Q bk3_1 ls st h := dh_wp_eq (dh_wpM_mono d) rfl
theorem u3_2 : dh_wp dh_sh (dh_wpM d) (dh_bl 3) Q 2 ls st h = dh_wpB dh_sh (dh_wpM d) (dh_wp dh_sh (dh_wpM d) (dh_bl 3) Q) Q bk3_2 ls st h := dh_wp_eq (dh_wpM_mono d) rfl
theorem u3_3 : dh_wp dh_sh (dh_wpM d) (dh_bl 3) Q 3 ls st h = dh_wpB dh_sh (dh_wpM d) (dh_wp dh_sh (dh_wpM d) (dh_bl 3) Q) Q bk3_3 ls st h := dh_wp_eq (dh_wpM_mono d) rfl
theorem u3_4 : dh_wp dh_sh (dh_wpM d) (dh_bl 3) Q 4 ls st h = dh_wpB dh_sh (dh_wpM d) (dh_wp dh_sh (dh_wpM d) (dh_bl 3) Q) Q bk3_4 ls st h := dh_wp_eq (dh_wpM_mono d) rfl
theorem u3_5 : dh_wp dh_sh (dh_wpM d) (dh_bl 3) Q 5 ls st h = dh_wpB dh_sh (dh_wpM d) (dh_wp dh_sh (dh_wpM d) (dh_bl 3) Q) Q bk3_5 ls st h := dh_wp_eq (dh_wpM_mono d) rfl
/-- DoubleHeap$Law.takesAt(II)J -/
theorem m3 {p0 : Nat} {x1 : Int} {x2 : Int} : dh_wpM (d + 1) 3 [.inr (.inr (some p0)), .inl x1, .inl x2] h Q = dh_wp dh_sh (dh_wpM d) (dh_bl 3) Q 0 [some (.inr (.inr (some p0))), some (.inl x1), some (.inl x2), none, none, none, none, none] [] h := dh_mq (Nat.le_of_ble_eq_true rfl) rfl
theorem u4_0 : dh_wp dh_sh (dh_wpM d) (dh_bl 4) Q 0 ls st h = dh_wpB dh_sh (dh_wpM d) (dh_wp dh_sh (dh_wpM d) (dh_bl 4) Q) Q bk4_0 ls st h := dh_wp_eq (dh_wpM_mono d) rfl
theorem u4_1 : dh_wp dh_sh (dh_wpM d) (dh_bl 4) Q 1 ls st h = dh_wpB dh_sh (dh_wpM d) (dh_wp dh_sh (dh_wpM d) (dh_bl 4) Q) Q bk4_1 ls st h := dh_wp_eq (dh_wpM_mono d) rfl
theorem u4_2 : dh_wp dh_sh (dh_wpM d) (dh_bl 4) Q 2 ls st h = dh_wpB dh_sh (dh_wpM d) (dh_wp dh_sh (dh_wpM d) (dh_bl 4) Q) Q bk4_2 ls st h := dh_wp_eq (dh_wpM_mono d) rfl
/-- DoubleHeap$Law.losingFrom(I)J -/
theorem m4 {p0 : Nat} {x1 : Int} : dh_wpM (d + 1) 4 [.inr (.inr (some p0)), .inl x1] h Q = dh_wp dh_sh (dh_wpM d) (dh_bl 4) Q 0 [some (.inr (.inr (some p0))), some (.inl x1)] [] h := dh_mq (Nat.le_of_ble_eq_true rfl) rfl
theorem u5_0 : dh_wp dh_sh (dh_wpM d) (dh_bl 5) Q 0 ls st h = dh_wpB dh_sh (dh_wpM d) (dh_wp dh_sh (dh_wpM d) (dh_bl 5) Q) Q bk5_0 ls st h := dh_wp_eq (dh_wpM_mono d) rfl
/-- DoubleHeap$Law.goodAt(II)J -/
theorem m5 {p0 : Nat} {x1 : Int} {x2 : Int} : dh_wpM (d + 1) 5 [.inr (.inr (some p0)), .inl x1, .inl x2] h Q = dh_wp dh_sh (dh_wpM d) (dh_bl 5) Q 0 [some (.inr (.inr (some p0))), some (.inl x1), some (.inl x2)] [] h := dh_mq (Nat.le_of_ble_eq_true rfl) rfl
theorem u6_0 : dh_wp dh_sh (dh_wpM d) (dh_bl 6) Q 0 ls st h = dh_wpB dh_sh (dh_wpM d) (dh_wp dh_sh (dh_wpM d) (dh_bl 6) Q) Q bk6_0 ls st h := dh_wp_eq (dh_wpM_mono d) rfl
theorem u6_1 : dh_wp dh_sh (dh_wpM d) (dh_bl 6) Q 1 ls st h = dh_wpB dh_sh (dh_wpM d) (dh_wp dh_sh (dh_wpM d) (dh_bl 6) Q) Q bk6_1 ls st h := dh_wp_eq (dh_wpM_mono d) rfl
theorem u6_2 : dh_wp dh_sh (dh_wpM d) (dh_bl 6) Q 2 ls st h = dh_wpB dh_sh (dh_wpM d) (dh_wp dh_sh (dh_wpM d) (dh_bl 6) Q) Q bk6_2 ls st h := dh_wp_eq (dh_wpM_mono d) rfl
theorem u6_3 : dh_wp dh_sh (dh_wpM d) (dh_bl 6) Q 3 ls st h = dh_wpB dh_sh (dh_wpM d) (dh_wp dh_sh (dh_wpM d) (dh_bl 6) Q) Q bk6_3 ls st h := dh_wp_eq (dh_wpM_mono d) rfl
/-- DoubleHeap$Law.lostNumbers()J -/
theorem m6 {p0 : Nat} : dh_wpM (d + 1) 6 [.inr (.inr (some p0))] h Q = dh_wp dh_sh (dh_wpM d) (dh_bl 6) Q 0 [some (.inr (.inr (some p0))), none, none, none] [] h := dh_mq (Nat.le_of_ble_eq_true rfl) rfl
theorem u7_0 : dh_wp dh_sh (dh_wpM d) (dh_bl 7) Q 0 ls st h = dh_wpB dh_sh (dh_wpM d) (dh_wp dh_sh (dh_wpM d) (dh_bl 7) Q) Q bk7_0 ls st h := dh_wp_eq (dh_wpM_mono d) rfl
theorem u7_1 : dh_wp dh_sh (dh_wpM d) (dh_bl 7) Q 1 ls st h = dh_wpB dh_sh (dh_wpM d) (dh_wp dh_sh (dh_wpM d) (dh_bl 7) Q) Q bk7_1 ls st h := dh_wp_eq (dh_wpM_mono d) rfl
theorem u7_2 : dh_wp dh_sh (dh_wpM d) (dh_bl 7) Q 2 ls st h = dh_wpB dh_sh (dh_wpM d) (dh_wp dh_sh (dh_wpM d) (dh_bl 7) Q) Q bk7_2 ls st h := dh_wp_eq (dh_wpM_mono d) rfl
/-- DoubleHeap$Law.herTake(II)I -/
theorem m7 {p0 : Nat} {x1 : Int} {x2 : Int} : dh_wpM (d + 1) 7 [.inr (.inr (some p0)), .inl x1, .inl x2] h Q = dh_wp dh_sh (dh_wpM d) (dh_bl 7) Q 0 [some (.inr (.inr (some p0))), some (.inl x1), some (.inl x2), none, none] [] h := dh_mq (Nat.le_of_ble_eq_true rfl) rfl
theorem u8_0 : dh_wp dh_sh (dh_wpM d) (dh_bl 8) Q 0 ls st h = dh_wpB dh_sh (dh_wpM d) (dh_wp dh_sh (dh_wpM d) (dh_bl 8) Q) Q bk8_0 ls st h := dh_wp_eq (dh_wpM_mono d) rfl
theorem u8_1 : dh_wp dh_sh (dh_wpM d) (dh_bl 8) Q 1 ls st h = dh_wpB dh_sh (dh_wpM d) (dh_wp dh_sh (dh_wpM d) (dh_bl 8) Q) Q bk8_1 ls st h := dh_wp_eq (dh_wpM_mono d) rfl
theorem u8_2 : dh_wp dh_sh (dh_wpM d) (dh_bl 8) Q 2 ls st h = dh_wpB dh_sh (dh_wpM d) (dh_wp dh_sh (dh_wpM d) (dh_bl 8) Q) Q bk8_2 ls st h := dh_wp_eq (dh_wpM_mono d) rfl
theorem u8_3 : dh_wp dh_sh (dh_wpM d) (dh_bl 8) Q 3 ls st h = dh_wpB dh_sh (dh_wpM d) (dh_wp dh_sh (dh_wpM d) (dh_bl 8) Q) Q bk8_3 ls st h := dh_wp_eq (dh_wpM_mono d) rfl
theorem u8_4 : dh_wp dh_sh (dh_wpM d) (dh_bl 8) Q 4 ls st h = dh_wpB dh_sh (dh_wpM d) (dh_wp dh_sh (dh_wpM d) (dh_bl 8) Q) Q bk8_4 ls st h := dh_wp_eq (dh_wpM_mono d) rfl
theorem u8_5 : dh_wp dh_sh (dh_wpM d) (dh_bl 8) Q 5 ls st h = dh_wpB dh_sh (dh_wpM d) (dh_wp dh_sh (dh_wpM d) (dh_bl 8) Q) Q bk8_5 ls st h := dh_wp_eq (dh_wpM_mono d) rfl
theorem u8_6 : dh_wp dh_sh (dh_wpM d) (dh_bl 8) Q 6 ls st h = dh_wpB dh_sh (dh_wpM d) (dh_wp dh_sh (dh_wpM d) (dh_bl 8) Q) Q bk8_6 ls st h := dh_wp_eq (dh_wpM_mono d) rfl
/-- DoubleHeap$LawReader.read(LDoubleHeap$Tape;I)I -/
theorem m8 {p0 : Nat} {x1 : Option Nat} {x2 : Int} : dh_wpM (d + 1) 8 [.inr (.inr (some p0)), .inr (.inr x1), .inl x2] h Q = dh_wp dh_sh (dh_wpM d) (dh_bl 8) Q 0 [some (.inr (.inr (some p0))), some (.inr (.inr x1)), some (.inl x2), none, none, none, none] [] h := dh_mq (Nat.le_of_ble_eq_true rfl) rfl
theorem u9_0 : dh_wp dh_sh (dh_wpM d) (dh_bl 9) Q 0 ls st h = dh_wpB dh_sh (dh_wpM d) (dh_wp dh_sh (dh_wpM d) (dh_bl 9) Q) Q bk9_0 ls st h := dh_wp_eq (dh_wpM_mono d) rfl
theorem u9_1 : dh_wp dh_sh (dh_wpM d) (dh_bl 9) Q 1 ls st h = dh_wpB dh_sh (dh_wpM d) (dh_wp dh_sh (dh_wpM d) (dh_bl 9) Q) Q bk9_1 ls st h := dh_wp_eq (dh_wpM_mono d) rfl
theorem u9_2 : dh_wp dh_sh (dh_wpM d) (dh_bl 9) Q 2 ls st h = dh_wpB dh_sh (dh_wpM d) (dh_wp dh_sh (dh_wpM d) (dh_bl 9) Q) Q bk9_2 ls st h := dh_wp_eq (dh_wpM_mono d) rfl
/-- DoubleHeap$LawReader.load(LDoubleHeap$Tape;I)V -/
theorem m9 {p0 : Nat} {x1 : Option Nat} {x2 : Int} : dh_wpM (d + 1) 9 [.inr (.inr (some p0)), .inr (.inr x1), .inl x2] h Q = dh_wp dh_sh (dh_wpM d) (dh_bl 9) Q 0 [some (.inr (.inr (some p0))), some (.inr (.inr x1)), some (.inl x2), none] [] h := dh_mq (Nat.le_of_ble_eq_true rfl) rfl
theorem u10_0 : dh_wp dh_sh (dh_wpM d) (dh_bl 10) Q 0 ls st h = dh_wpB dh_sh (dh_wpM d) (dh_wp dh_sh (dh_wpM d) (dh_bl 10) Q) Q bk10_0 ls st h := dh_wp_eq (dh_wpM_mono d) rfl
theorem u10_1 : dh_wp dh_sh (dh_wpM d) (dh_bl 10) Q 1 ls st h = dh_wpB dh_sh (dh_wpM d) (dh_wp dh_sh (dh_wpM d) (dh_bl 10) Q) Q bk10_1 ls st h := dh_wp_eq (dh_wpM_mono d) rfl
theorem u10_2 : dh_wp dh_sh (dh_wpM d) (dh_bl 10) Q 2 ls st h = dh_wpB dh_sh (dh_wpM d) (dh_wp dh_sh (dh_wpM d) (dh_bl 10) Q) Q bk10_2 ls st h := dh_wp_eq (dh_wpM_mono d) rfl
/-- DoubleHeap$LawReader.letter()I -/
theorem m10 {p0 : Nat} : dh_wpM (d + 1) 10 [.inr (.inr (some p0))] h Q = dh_wp dh_sh (dh_wpM d) (dh_bl 10) Q 0 [some (.inr (.inr (some p0))), none] [] h := dh_mq (Nat.le_of_ble_eq_true rfl) rfl
theorem u11_0 : dh_wp dh_sh (dh_wpM d) (dh_bl 11) Q 0 ls st h = dh_wpB dh_sh (dh_wpM d) (dh_wp dh_sh (dh_wpM d) (dh_bl 11) Q) Q bk11_0 ls st h := dh_wp_eq (dh_wpM_mono d) rfl
theorem u11_1 : dh_wp dh_sh (dh_wpM d) (dh_bl 11) Q 1 ls st h = dh_wpB dh_sh (dh_wpM d) (dh_wp dh_sh (dh_wpM d) (dh_bl 11) Q) Q bk11_1 ls st h := dh_wp_eq (dh_wpM_mono d) rfl
theorem u11_2 : dh_wp dh_sh (dh_wpM d) (dh_bl 11) Q 2 ls st h = dh_wpB dh_sh (dh_wpM d) (dh_wp dh_sh (dh_wpM d) (dh_bl 11) Q) Q bk11_2 ls st h := dh_wp_eq (dh_wpM_mono d) rfl
theorem u11_3 : dh_wp dh_sh (dh_wpM d) (dh_bl 11) Q 3 ls st h = dh_wpB dh_sh (dh_wpM d) (dh_wp dh_sh (dh_wpM d) (dh_bl 11) Q) Q bk11_3 ls st h := dh_wp_eq (dh_wpM_mono d) rfl
theorem u11_4 : dh_wp dh_sh (dh_wpM d) (dh_bl 11) Q 4 ls st h = dh_wpB dh_sh (dh_wpM d) (dh_wp dh_sh (dh_wpM d) (dh_bl 11) Q) Q bk11_4 ls st h := dh_wp_eq (dh_wpM_mono d) rfl
theorem u11_5 : dh_wp dh_sh (dh_wpM d) (dh_bl 11) Q 5 ls st h = dh_wpB dh_sh (dh_wpM d) (dh_wp dh_sh (dh_wpM d) (dh_bl 11) Q) Q bk11_5 ls st h := dh_wp_eq (dh_wpM_mono d) rfl
theorem u11_6 : dh_wp dh_sh (dh_wpM d) (dh_bl 11) Q 6 ls st h = dh_wpB dh_sh (dh_wpM d) (dh_wp dh_sh (dh_wpM d) (dh_bl 11) Q) Q bk11_6 ls st h := dh_wp_eq (dh_wpM_mono d) rfl
theorem u11_7 : dh_wp dh_sh (dh_wpM d) (dh_bl 11) Q 7 ls st h = dh_wpB dh_sh (dh_wpM d) (dh_wp dh_sh (dh_wpM d) (dh_bl 11) Q) Q bk11_7 ls st h := dh_wp_eq (dh_wpM_mono d) rfl
/-- DoubleHeap$LawReader.condition(II)V -/
theorem m11 {p0 : Nat} {x1 : Int} {x2 : Int} : dh_wpM (d + 1) 11 [.inr (.inr (some p0)), .inl x1, .inl x2] h Q = dh_wp dh_sh (dh_wpM d) (dh_bl 11) Q 0 [some (.inr (.inr (some p0))), some (.inl x1), some (.inl x2), none, none, none] [] h := dh_mq (Nat.le_of_ble_eq_true rfl) rfl
theorem u12_0 : dh_wp dh_sh (dh_wpM d) (dh_bl 12) Q 0 ls st h = dh_wpB dh_sh (dh_wpM d) (dh_wp dh_sh (dh_wpM d) (dh_bl 12) Q) Q bk12_0 ls st h := dh_wp_eq (dh_wpM_mono d) rfl
theorem u12_1 : dh_wp dh_sh (dh_wpM d) (dh_bl 12) Q 1 ls st h = dh_wpB dh_sh (dh_wpM d) (dh_wp dh_sh (dh_wpM d) (dh_bl 12) Q) Q bk12_1 ls st h := dh_wp_eq (dh_wpM_mono d) rfl
theorem u12_2 : dh_wp dh_sh (dh_wpM d) (dh_bl 12) Q 2 ls st h = dh_wpB dh_sh (dh_wpM d) (dh_wp dh_sh (dh_wpM d) (dh_bl 12) Q) Q bk12_2 ls st h := dh_wp_eq (dh_wpM_mono d) rfl
theorem u12_3 : dh_wp dh_sh (dh_wpM d) (dh_bl 12) Q 3 ls st h = dh_wpB dh_sh (dh_wpM d) (dh_wp dh_sh (dh_wpM d) (dh_bl 12) Q) Q bk12_3 ls st h := dh_wp_eq (dh_wpM_mono d) rfl
theorem u12_4 : dh_wp dh_sh (dh_wpM d) (dh_bl 12) Q 4 ls st h = dh_wpB dh_sh (dh_wpM d) (dh_wp dh_sh (dh_wpM d) (dh_bl 12) Q) Q bk12_4 ls st h := dh_wp_eq (dh_wpM_mono d) rfl
/-- DoubleHeap$LawReader.test(I)V -/
theorem m12 {p0 : Nat} {x1 : Int} : dh_wpM (d + 1) 12 [.inr (.inr (some p0)), .inl x1] h Q = dh_wp dh_sh (dh_wpM d) (dh_bl 12) Q 0 [some (.inr (.inr (some p0))), some (.inl x1), none, none] [] h := dh_mq (Nat.le_of_ble_eq_true rfl) rfl
theorem u13_0 : dh_wp dh_sh (dh_wpM d) (dh_bl 13) Q 0 ls st h = dh_wpB dh_sh (dh_wpM d) (dh_wp dh_sh (dh_wpM d) (dh_bl 13) Q) Q bk13_0 ls st h := dh_wp_eq (dh_wpM_mono d) rfl
theorem u13_1 : dh_wp dh_sh (dh_wpM d) (dh_bl 13) Q 1 ls st h = dh_wpB dh_sh (dh_wpM d) (dh_wp dh_sh (dh_wpM d) (dh_bl 13) Q) Q bk13_1 ls st h := dh_wp_eq (dh_wpM_mono d) rfl
theorem u13_2 : dh_wp dh_sh (dh_wpM d) (dh_bl 13) Q 2 ls st h = dh_wpB dh_sh (dh_wpM d) (dh_wp dh_sh (dh_wpM d) (dh_bl 13) Q) Q bk13_2 ls st h := dh_wp_eq (dh_wpM_mono d) rfl
theorem u13_3 : dh_wp dh_sh (dh_wpM d) (dh_bl 13) Q 3 ls st h = dh_wpB dh_sh (dh_wpM d) (dh_wp dh_sh (dh_wpM d) (dh_bl 13) Q) Q bk13_3 ls st h := dh_wp_eq (dh_wpM_mono d) rfl
theorem u13_4 : dh_wp dh_sh (dh_wpM d) (dh_bl 13) Q 4 ls st h = dh_wpB dh_sh (dh_wpM d) (dh_wp dh_sh (dh_wpM d) (dh_bl 13) Q) Q bk13_4 ls st h := dh_wp_eq (dh_wpM_mono d) rfl
theorem u13_5 : dh_wp dh_sh (dh_wpM d) (dh_bl 13) Q 5 ls st h = dh_wpB dh_sh (dh_wpM d) (dh_wp dh_sh (dh_wpM d) (dh_bl 13) Q) Q bk13_5 ls st h := dh_wp_eq (dh_wpM_mono d) rfl
theorem u13_6 : dh_wp dh_sh (dh_wpM d) (dh_bl 13) Q 6 ls st h = dh_wpB dh_sh (dh_wpM d) (dh_wp dh_sh (dh_wpM d) (dh_bl 13) Q) Q bk13_6 ls st h := dh_wp_eq (dh_wpM_mono d) rfl
theorem u13_7 : dh_wp dh_sh (dh_wpM d) (dh_bl 13) Q 7 ls st h = dh_wpB dh_sh (dh_wpM d) (dh_wp dh_sh (dh_wpM d) (dh_bl 13) Q) Q bk13_7 ls st h := dh_wp_eq (dh_wpM_mono d) rfl
theorem u13_8 : dh_wp dh_sh (dh_wpM d) (dh_bl 13) Q 8 ls st h = dh_wpB dh_sh (dh_wpM d) (dh_wp dh_sh (dh_wpM d) (dh_bl 13) Q) Q bk13_8 ls st h := dh_wp_eq (dh_wpM_mono d) rfl
theorem u13_9 : dh_wp dh_sh (dh_wpM d) (dh_bl 13) Q 9 ls st h = dh_wpB dh_sh (dh_wpM d) (dh_wp dh_sh (dh_wpM d) (dh_bl 13) Q) Q bk13_9 ls st h := dh_wp_eq (dh_wpM_mono d) rfl
theorem u13_10 : dh_wp dh_sh (dh_wpM d) (dh_bl 13) Q 10 ls st h = dh_wpB dh_sh (dh_wpM d) (dh_wp dh_sh (dh_wpM d) (dh_bl 13) Q) Q bk13_10 ls st h := dh_wp_eq (dh_wpM_mono d) rfl
theorem u13_11 : dh_wp dh_sh (dh_wpM d) (dh_bl 13) Q 11 ls st h = dh_wpB dh_sh (dh_wpM d) (dh_wp dh_sh (dh_wpM d) (dh_bl 13) Q) Q bk13_11 ls st h := dh_wp_eq (dh_wpM_mono d) rfl
theorem u13_12 : dh_wp dh_sh (dh_wpM d) (dh_bl 13) Q 12 ls st h = dh_wpB dh_sh (dh_wpM d) (dh_wp dh_sh (dh_wpM d) (dh_bl 13) Q) Q bk13_12 ls st h := dh_wp_eq (dh_wpM_mono d) rfl
/-- DoubleHeap$LawReader.expression(II)V -/
theorem m13 {p0 : Nat} {x1 : Int} {x2 : Int} : dh_wpM (d + 1) 13 [.inr (.inr (some p0)), .inl x1, .inl x2] h Q = dh_wp dh_sh (dh_wpM d) (dh_bl 13) Q 0 [some (.inr (.inr (some p0))), some (.inl x1), some (.inl x2), none, none, none] [] h := dh_mq (Nat.le_of_ble_eq_true rfl) rfl
theorem u14_0 : dh_wp dh_sh (dh_wpM d) (dh_bl 14) Q 0 ls st h = dh_wpB dh_sh (dh_wpM d) (dh_wp dh_sh (dh_wpM d) (dh_bl 14) Q) Q bk14_0 ls st h := dh_wp_eq (dh_wpM_mono d) rfl
theorem u14_1 : dh_wp dh_sh (dh_wpM d) (dh_bl 14) Q 1 ls st h = dh_wpB dh_sh (dh_wpM d) (dh_wp dh_sh (dh_wpM d) (dh_bl 14) Q) Q bk14_1 ls st h := dh_wp_eq (dh_wpM_mono d) rfl
theorem u14_2 : dh_wp dh_sh (dh_wpM d) (dh_bl 14) Q 2 ls st h = dh_wpB dh_sh (dh_wpM d) (dh_wp dh_sh (dh_wpM d) (dh_bl 14) Q) Q bk14_2 ls st h := dh_wp_eq (dh_wpM_mono d) rfl
theorem u14_3 : dh_wp dh_sh (dh_wpM d) (dh_bl 14) Q 3 ls st h = dh_wpB dh_sh (dh_wpM d) (dh_wp dh_sh (dh_wpM d) (dh_bl 14) Q) Q bk14_3 ls st h := dh_wp_eq (dh_wpM_mono d) rfl
theorem u14_4 : dh_wp dh_sh (dh_wpM d) (dh_bl 14) Q 4 ls st h = dh_wpB dh_sh (dh_wpM d) (dh_wp dh_sh (dh_wpM d) (dh_bl 14) Q) Q bk14_4 ls st h := dh_wp_eq (dh_wpM_mono d) rfl
theorem u14_5 : dh_wp dh_sh (dh_wpM d) (dh_bl 14) Q 5 ls st h = dh_wpB dh_sh (dh_wpM d) (dh_wp dh_sh (dh_wpM d) (dh_bl 14) Q) Q bk14_5 ls st h := dh_wp_eq (dh_wpM_mono d) rfl
theorem u14_6 : dh_wp dh_sh (dh_wpM d) (dh_bl 14) Q 6 ls st h = dh_wpB dh_sh (dh_wpM d) (dh_wp dh_sh (dh_wpM d) (dh_bl 14) Q) Q bk14_6 ls st h := dh_wp_eq (dh_wpM_mono d) rfl
theorem u14_7 : dh_wp dh_sh (dh_wpM d) (dh_bl 14) Q 7 ls st h = dh_wpB dh_sh (dh_wpM d) (dh_wp dh_sh (dh_wpM d) (dh_bl 14) Q) Q bk14_7 ls st h := dh_wp_eq (dh_wpM_mono d) rfl
theorem u14_8 : dh_wp dh_sh (dh_wpM d) (dh_bl 14) Q 8 ls st h = dh_wpB dh_sh (dh_wpM d) (dh_wp dh_sh (dh_wpM d) (dh_bl 14) Q) Q bk14_8 ls st h := dh_wp_eq (dh_wpM_mono d) rfl
/-- DoubleHeap$LawReader.factor(I)V -/
theorem m14 {p0 : Nat} {x1 : Int} : dh_wpM (d + 1) 14 [.inr (.inr (some p0)), .inl x1] h Q = dh_wp dh_sh (dh_wpM d) (dh_bl 14) Q 0 [some (.inr (.inr (some p0))), some (.inl x1), none, none, none] [] h := dh_mq (Nat.le_of_ble_eq_true rfl) rfl
theorem u15_0 : dh_wp dh_sh (dh_wpM d) (dh_bl 15) Q 0 ls st h = dh_wpB dh_sh (dh_wpM d) (dh_wp dh_sh (dh_wpM d) (dh_bl 15) Q) Q bk15_0 ls st h := dh_wp_eq (dh_wpM_mono d) rfl
theorem u15_1 : dh_wp dh_sh (dh_wpM d) (dh_bl 15) Q 1 ls st h = dh_wpB dh_sh (dh_wpM d) (dh_wp dh_sh (dh_wpM d) (dh_bl 15) Q) Q bk15_1 ls st h := dh_wp_eq (dh_wpM_mono d) rfl
theorem u15_2 : dh_wp dh_sh (dh_wpM d) (dh_bl 15) Q 2 ls st h = dh_wpB dh_sh (dh_wpM d) (dh_wp dh_sh (dh_wpM d) (dh_bl 15) Q) Q bk15_2 ls st h := dh_wp_eq (dh_wpM_mono d) rfl
theorem u15_3 : dh_wp dh_sh (dh_wpM d) (dh_bl 15) Q 3 ls st h = dh_wpB dh_sh (dh_wpM d) (dh_wp dh_sh (dh_wpM d) (dh_bl 15) Q) Q bk15_3 ls st h := dh_wp_eq (dh_wpM_mono d) rfl
/-- DoubleHeap$LawReader.mayOpen(I)Z -/
theorem m15 {p0 : Nat} {x1 : Int} : dh_wpM (d + 1) 15 [.inr (.inr (some p0)), .inl x1] h Q = dh_wp dh_sh (dh_wpM d) (dh_bl 15) Q 0 [some (.inr (.inr (some p0))), some (.inl x1)] [] h := dh_mq (Nat.le_of_ble_eq_true rfl) rfl
theorem u16_0 : dh_wp dh_sh (dh_wpM d) (dh_bl 16) Q 0 ls st h = dh_wpB dh_sh (dh_wpM d) (dh_wp dh_sh (dh_wpM d) (dh_bl 16) Q) Q bk16_0 ls st h := dh_wp_eq (dh_wpM_mono d) rfl
theorem u16_1 : dh_wp dh_sh (dh_wpM d) (dh_bl 16) Q 1 ls st h = dh_wpB dh_sh (dh_wpM d) (dh_wp dh_sh (dh_wpM d) (dh_bl 16) Q) Q bk16_1 ls st h := dh_wp_eq (dh_wpM_mono d) rfl
theorem u16_2 : dh_wp dh_sh (dh_wpM d) (dh_bl 16) Q 2 ls st h = dh_wpB dh_sh (dh_wpM d) (dh_wp dh_sh (dh_wpM d) (dh_bl 16) Q) Q bk16_2 ls st h := dh_wp_eq (dh_wpM_mono d) rfl
/-- DoubleHeap$LawReader.sign()I -/
theorem m16 {p0 : Nat} : dh_wpM (d + 1) 16 [.inr (.inr (some p0))] h Q = dh_wp dh_sh (dh_wpM d) (dh_bl 16) Q 0 [some (.inr (.inr (some p0)))] [] h := dh_mq (Nat.le_of_ble_eq_true rfl) rfl
theorem u17_0 : dh_wp dh_sh (dh_wpM d) (dh_bl 17) Q 0 ls st h = dh_wpB dh_sh (dh_wpM d) (dh_wp dh_sh (dh_wpM d) (dh_bl 17) Q) Q bk17_0 ls st h := dh_wp_eq (dh_wpM_mono d) rfl
theorem u17_1 : dh_wp dh_sh (dh_wpM d) (dh_bl 17) Q 1 ls st h = dh_wpB dh_sh (dh_wpM d) (dh_wp dh_sh (dh_wpM d) (dh_bl 17) Q) Q bk17_1 ls st h := dh_wp_eq (dh_wpM_mono d) rfl
/-- DoubleHeap$LawReader.expect(I)V -/
theorem m17 {p0 : Nat} {x1 : Int} : dh_wpM (d + 1) 17 [.inr (.inr (some p0)), .inl x1] h Q = dh_wp dh_sh (dh_wpM d) (dh_bl 17) Q 0 [some (.inr (.inr (some p0))), some (.inl x1)] [] h := dh_mq (Nat.le_of_ble_eq_true rfl) rfl
theorem u18_0 : dh_wp dh_sh (dh_wpM d) (dh_bl 18) Q 0 ls st h = dh_wpB dh_sh (dh_wpM d) (dh_wp dh_sh (dh_wpM d) (dh_bl 18) Q) Q bk18_0 ls st h := dh_wp_eq (dh_wpM_mono d) rfl
theorem u18_1 : dh_wp dh_sh (dh_wpM d) (dh_bl 18) Q 1 ls st h = dh_wpB dh_sh (dh_wpM d) (dh_wp dh_sh (dh_wpM d) (dh_bl 18) Q) Q bk18_1 ls st h := dh_wp_eq (dh_wpM_mono d) rfl
/-- DoubleHeap$LawReader.fail(I)V -/
theorem m18 {p0 : Nat} {x1 : Int} : dh_wpM (d + 1) 18 [.inr (.inr (some p0)), .inl x1] h Q = dh_wp dh_sh (dh_wpM d) (dh_bl 18) Q 0 [some (.inr (.inr (some p0))), some (.inl x1)] [] h := dh_mq (Nat.le_of_ble_eq_true rfl) rfl
theorem u19_0 : dh_wp dh_sh (dh_wpM d) (dh_bl 19) Q 0 ls st h = dh_wpB dh_sh (dh_wpM d) (dh_wp dh_sh (dh_wpM d) (dh_bl 19) Q) Q bk19_0 ls st h := dh_wp_eq (dh_wpM_mono d) rfl
theorem u19_1 : dh_wp dh_sh (dh_wpM d) (dh_bl 19) Q 1 ls st h = dh_wpB dh_sh (dh_wpM d) (dh_wp dh_sh (dh_wpM d) (dh_bl 19) Q) Q bk19_1 ls st h := dh_wp_eq (dh_wpM_mono d) rfl
theorem u19_2 : dh_wp dh_sh (dh_wpM d) (dh_bl 19) Q 2 ls st h = dh_wpB dh_sh (dh_wpM d) (dh_wp dh_sh (dh_wpM d) (dh_bl 19) Q) Q bk19_2 ls st h := dh_wp_eq (dh_wpM_mono d) rfl
theorem u19_3 : dh_wp dh_sh (dh_wpM d) (dh_bl 19) Q 3 ls st h = dh_wpB dh_sh (dh_wpM d) (dh_wp dh_sh (dh_wpM d) (dh_bl 19) Q) Q bk19_3 ls st h := dh_wp_eq (dh_wpM_mono d) rfl
/-- DoubleHeap$Numbers.load(J)V -/
theorem m19 {p0 : Nat} {x1 : BitVec 64} : dh_wpM (d + 1) 19 [.inr (.inr (some p0)), .inr (.inl x1)] h Q = dh_wp dh_sh (dh_wpM d) (dh_bl 19) Q 0 [some (.inr (.inr (some p0))), some (.inr (.inl x1)), none, none] [] h := dh_mq (Nat.le_of_ble_eq_true rfl) rfl
theorem u20_0 : dh_wp dh_sh (dh_wpM d) (dh_bl 20) Q 0 ls st h = dh_wpB dh_sh (dh_wpM d) (dh_wp dh_sh (dh_wpM d) (dh_bl 20) Q) Q bk20_0 ls st h := dh_wp_eq (dh_wpM_mono d) rfl
theorem u20_1 : dh_wp dh_sh (dh_wpM d) (dh_bl 20) Q 1 ls st h = dh_wpB dh_sh (dh_wpM d) (dh_wp dh_sh (dh_wpM d) (dh_bl 20) Q) Q bk20_1 ls st h := dh_wp_eq (dh_wpM_mono d) rfl
theorem u20_2 : dh_wp dh_sh (dh_wpM d) (dh_bl 20) Q 2 ls st h = dh_wpB dh_sh (dh_wpM d) (dh_wp dh_sh (dh_wpM d) (dh_bl 20) Q) Q bk20_2 ls st h := dh_wp_eq (dh_wpM_mono d) rfl
/-- DoubleHeap$Numbers.at(I)I -/
theorem m20 {p0 : Nat} {x1 : Int} : dh_wpM (d + 1) 20 [.inr (.inr (some p0)), .inl x1] h Q = dh_wp dh_sh (dh_wpM d) (dh_bl 20) Q 0 [some (.inr (.inr (some p0))), some (.inl x1)] [] h := dh_mq (Nat.le_of_ble_eq_true rfl) rfl
theorem u21_0 : dh_wp dh_sh (dh_wpM d) (dh_bl 21) Q 0 ls st h = dh_wpB dh_sh (dh_wpM d) (dh_wp dh_sh (dh_wpM d) (dh_bl 21) Q) Q bk21_0 ls st h := dh_wp_eq (dh_wpM_mono d) rfl
theorem u21_1 : dh_wp dh_sh (dh_wpM d) (dh_bl 21) Q 1 ls st h = dh_wpB dh_sh (dh_wpM d) (dh_wp dh_sh (dh_wpM d) (dh_bl 21) Q) Q bk21_1 ls st h := dh_wp_eq (dh_wpM_mono d) rfl
theorem u21_2 : dh_wp dh_sh (dh_wpM d) (dh_bl 21) Q 2 ls st h = dh_wpB dh_sh (dh_wpM d) (dh_wp dh_sh (dh_wpM d) (dh_bl 21) Q) Q bk21_2 ls st h := dh_wp_eq (dh_wpM_mono d) rfl
theorem u21_3 : dh_wp dh_sh (dh_wpM d) (dh_bl 21) Q 3 ls st h = dh_wpB dh_sh (dh_wpM d) (dh_wp dh_sh (dh_wpM d) (dh_bl 21) Q) Q bk21_3 ls st h := dh_wp_eq (dh_wpM_mono d) rfl
theorem u21_4 : dh_wp dh_sh (dh_wpM d) (dh_bl 21) Q 4 ls st h = dh_wpB dh_sh (dh_wpM d) (dh_wp dh_sh (dh_wpM d) (dh_bl 21) Q) Q bk21_4 ls st h := dh_wp_eq (dh_wpM_mono d) rfl
theorem u21_5 : dh_wp dh_sh (dh_wpM d) (dh_bl 21) Q 5 ls st h = dh_wpB dh_sh (dh_wpM d) (dh_wp dh_sh (dh_wpM d) (dh_bl 21) Q) Q bk21_5 ls st h := dh_wp_eq (dh_wpM_mono d) rfl
theorem u21_6 : dh_wp dh_sh (dh_wpM d) (dh_bl 21) Q 6 ls st h = dh_wpB dh_sh (dh_wpM d) (dh_wp dh_sh (dh_wpM d) (dh_bl 21) Q) Q bk21_6 ls st h := dh_wp_eq (dh_wpM_mono d) rfl
theorem u21_7 : dh_wp dh_sh (dh_wpM d) (dh_bl 21) Q 7 ls st h = dh_wpB dh_sh (dh_wpM d) (dh_wp dh_sh (dh_wpM d) (dh_bl 21) Q) Q bk21_7 ls st h := dh_wp_eq (dh_wpM_mono d) rfl
theorem u21_8 : dh_wp dh_sh (dh_wpM d) (dh_bl 21) Q 8 ls st h = dh_wpB dh_sh (dh_wpM d) (dh_wp dh_sh (dh_wpM d) (dh_bl 21) Q) Q bk21_8 ls st h := dh_wp_eq (dh_wpM_mono d) rfl
/-- DoubleHeap$Numbers.countWays(I)V -/
theorem m21 {p0 : Nat} {x1 : Int} : dh_wpM (d + 1) 21 [.inr (.inr (some p0)), .inl x1] h Q = dh_wp dh_sh (dh_wpM d) (dh_bl 21) Q 0 [some (.inr (.inr (some p0))), some (.inl x1), none, none] [] h := dh_mq (Nat.le_of_ble_eq_true rfl) rfl
theorem u22_0 : dh_wp dh_sh (dh_wpM d) (dh_bl 22) Q 0 ls st h = dh_wpB dh_sh (dh_wpM d) (dh_wp dh_sh (dh_wpM d) (dh_bl 22) Q) Q bk22_0 ls st h := dh_wp_eq (dh_wpM_mono d) rfl
theorem u22_1 : dh_wp dh_sh (dh_wpM d) (dh_bl 22) Q 1 ls st h = dh_wpB dh_sh (dh_wpM d) (dh_wp dh_sh (dh_wpM d) (dh_bl 22) Q) Q bk22_1 ls st h := dh_wp_eq (dh_wpM_mono d) rfl
theorem u22_2 : dh_wp dh_sh (dh_wpM d) (dh_bl 22) Q 2 ls st h = dh_wpB dh_sh (dh_wpM d) (dh_wp dh_sh (dh_wpM d) (dh_bl 22) Q) Q bk22_2 ls st h := dh_wp_eq (dh_wpM_mono d) rfl
/-- DoubleHeap$Numbers.waysWith(II)I -/
theorem m22 {p0 : Nat} {x1 : Int} {x2 : Int} : dh_wpM (d + 1) 22 [.inr (.inr (some p0)), .inl x1, .inl x2] h Q = dh_wp dh_sh (dh_wpM d) (dh_bl 22) Q 0 [some (.inr (.inr (some p0))), some (.inl x1), some (.inl x2), none] [] h := dh_mq (Nat.le_of_ble_eq_true rfl) rfl
theorem u23_0 : dh_wp dh_sh (dh_wpM d) (dh_bl 23) Q 0 ls st h = dh_wpB dh_sh (dh_wpM d) (dh_wp dh_sh (dh_wpM d) (dh_bl 23) Q) Q bk23_0 ls st h := dh_wp_eq (dh_wpM_mono d) rfl
/-- DoubleHeap$Numbers.ways(I)I -/
theorem m23 {p0 : Nat} {x1 : Int} : dh_wpM (d + 1) 23 [.inr (.inr (some p0)), .inl x1] h Q = dh_wp dh_sh (dh_wpM d) (dh_bl 23) Q 0 [some (.inr (.inr (some p0))), some (.inl x1)] [] h := dh_mq (Nat.le_of_ble_eq_true rfl) rfl
theorem u24_0 : dh_wp dh_sh (dh_wpM d) (dh_bl 24) Q 0 ls st h = dh_wpB dh_sh (dh_wpM d) (dh_wp dh_sh (dh_wpM d) (dh_bl 24) Q) Q bk24_0 ls st h := dh_wp_eq (dh_wpM_mono d) rfl
theorem u24_1 : dh_wp dh_sh (dh_wpM d) (dh_bl 24) Q 1 ls st h = dh_wpB dh_sh (dh_wpM d) (dh_wp dh_sh (dh_wpM d) (dh_bl 24) Q) Q bk24_1 ls st h := dh_wp_eq (dh_wpM_mono d) rfl
theorem u24_2 : dh_wp dh_sh (dh_wpM d) (dh_bl 24) Q 2 ls st h = dh_wpB dh_sh (dh_wpM d) (dh_wp dh_sh (dh_wpM d) (dh_bl 24) Q) Q bk24_2 ls st h := dh_wp_eq (dh_wpM_mono d) rfl
theorem u24_3 : dh_wp dh_sh (dh_wpM d) (dh_bl 24) Q 3 ls st h = dh_wpB dh_sh (dh_wpM d) (dh_wp dh_sh (dh_wpM d) (dh_bl 24) Q) Q bk24_3 ls st h := dh_wp_eq (dh_wpM_mono d) rfl
/-- DoubleHeap$Numbers.greatestFirst(I)J -/
theorem m24 {p0 : Nat} {x1 : Int} : dh_wpM (d + 1) 24 [.inr (.inr (some p0)), .inl x1] h Q = dh_wp dh_sh (dh_wpM d) (dh_bl 24) Q 0 [some (.inr (.inr (some p0))), some (.inl x1), none, none, none, none] [] h := dh_mq (Nat.le_of_ble_eq_true rfl) rfl
theorem u25_0 : dh_wp dh_sh (dh_wpM d) (dh_bl 25) Q 0 ls st h = dh_wpB dh_sh (dh_wpM d) (dh_wp dh_sh (dh_wpM d) (dh_bl 25) Q) Q bk25_0 ls st h := dh_wp_eq (dh_wpM_mono d) rfl
theorem u25_1 : dh_wp dh_sh (dh_wpM d) (dh_bl 25) Q 1 ls st h = dh_wpB dh_sh (dh_wpM d) (dh_wp dh_sh (dh_wpM d) (dh_bl 25) Q) Q bk25_1 ls st h := dh_wp_eq (dh_wpM_mono d) rfl
theorem u25_2 : dh_wp dh_sh (dh_wpM d) (dh_bl 25) Q 2 ls st h = dh_wpB dh_sh (dh_wpM d) (dh_wp dh_sh (dh_wpM d) (dh_bl 25) Q) Q bk25_2 ls st h := dh_wp_eq (dh_wpM_mono d) rfl
theorem u25_3 : dh_wp dh_sh (dh_wpM d) (dh_bl 25) Q 3 ls st h = dh_wpB dh_sh (dh_wpM d) (dh_wp dh_sh (dh_wpM d) (dh_bl 25) Q) Q bk25_3 ls st h := dh_wp_eq (dh_wpM_mono d) rfl
/-- DoubleHeap$Numbers.leastLag()I -/
theorem m25 {p0 : Nat} : dh_wpM (d + 1) 25 [.inr (.inr (some p0))] h Q = dh_wp dh_sh (dh_wpM d) (dh_bl 25) Q 0 [some (.inr (.inr (some p0))), none] [] h := dh_mq (Nat.le_of_ble_eq_true rfl) rfl
theorem u26_0 : dh_wp dh_sh (dh_wpM d) (dh_bl 26) Q 0 ls st h = dh_wpB dh_sh (dh_wpM d) (dh_wp dh_sh (dh_wpM d) (dh_bl 26) Q) Q bk26_0 ls st h := dh_wp_eq (dh_wpM_mono d) rfl
theorem u26_1 : dh_wp dh_sh (dh_wpM d) (dh_bl 26) Q 1 ls st h = dh_wpB dh_sh (dh_wpM d) (dh_wp dh_sh (dh_wpM d) (dh_bl 26) Q) Q bk26_1 ls st h := dh_wp_eq (dh_wpM_mono d) rfl
theorem u26_2 : dh_wp dh_sh (dh_wpM d) (dh_bl 26) Q 2 ls st h = dh_wpB dh_sh (dh_wpM d) (dh_wp dh_sh (dh_wpM d) (dh_bl 26) Q) Q bk26_2 ls st h := dh_wp_eq (dh_wpM_mono d) rfl
theorem u26_3 : dh_wp dh_sh (dh_wpM d) (dh_bl 26) Q 3 ls st h = dh_wpB dh_sh (dh_wpM d) (dh_wp dh_sh (dh_wpM d) (dh_bl 26) Q) Q bk26_3 ls st h := dh_wp_eq (dh_wpM_mono d) rfl
theorem u26_4 : dh_wp dh_sh (dh_wpM d) (dh_bl 26) Q 4 ls st h = dh_wpB dh_sh (dh_wpM d) (dh_wp dh_sh (dh_wpM d) (dh_bl 26) Q) Q bk26_4 ls st h := dh_wp_eq (dh_wpM_mono d) rfl
theorem u26_5 : dh_wp dh_sh (dh_wpM d) (dh_bl 26) Q 5 ls st h = dh_wpB dh_sh (dh_wpM d) (dh_wp dh_sh (dh_wpM d) (dh_bl 26) Q) Q bk26_5 ls st h := dh_wp_eq (dh_wpM_mono d) rfl
/-- DoubleHeap$Numbers.lagsFrom(I)I -/
theorem m26 {p0 : Nat} {x1 : Int} : dh_wpM (d + 1) 26 [.inr (.inr (some p0)), .inl x1] h Q = dh_wp dh_sh (dh_wpM d) (dh_bl 26) Q 0 [some (.inr (.inr (some p0))), some (.inl x1), none, none] [] h := dh_mq (Nat.le_of_ble_eq_true rfl) rfl
theorem u27_0 : dh_wp dh_sh (dh_wpM d) (dh_bl 27) Q 0 ls st h = dh_wpB dh_sh (dh_wpM d) (dh_wp dh_sh (dh_wpM d) (dh_bl 27) Q) Q bk27_0 ls st h := dh_wp_eq (dh_wpM_mono d) rfl
theorem u27_1 : dh_wp dh_sh (dh_wpM d) (dh_bl 27) Q 1 ls st h = dh_wpB dh_sh (dh_wpM d) (dh_wp dh_sh (dh_wpM d) (dh_bl 27) Q) Q bk27_1 ls st h := dh_wp_eq (dh_wpM_mono d) rfl
theorem u27_2 : dh_wp dh_sh (dh_wpM d) (dh_bl 27) Q 2 ls st h = dh_wpB dh_sh (dh_wpM d) (dh_wp dh_sh (dh_wpM d) (dh_bl 27) Q) Q bk27_2 ls st h := dh_wp_eq (dh_wpM_mono d) rfl
theorem u27_3 : dh_wp dh_sh (dh_wpM d) (dh_bl 27) Q 3 ls st h = dh_wpB dh_sh (dh_wpM d) (dh_wp dh_sh (dh_wpM d) (dh_bl 27) Q) Q bk27_3 ls st h := dh_wp_eq (dh_wpM_mono d) rfl
theorem u27_4 : dh_wp dh_sh (dh_wpM d) (dh_bl 27) Q 4 ls st h = dh_wpB dh_sh (dh_wpM d) (dh_wp dh_sh (dh_wpM d) (dh_bl 27) Q) Q bk27_4 ls st h := dh_wp_eq (dh_wpM_mono d) rfl
/-- DoubleHeap$Numbers.simpleOnes(J)I -/
theorem m27 {p0 : Nat} {x1 : BitVec 64} : dh_wpM (d + 1) 27 [.inr (.inr (some p0)), .inr (.inl x1)] h Q = dh_wp dh_sh (dh_wpM d) (dh_bl 27) Q 0 [some (.inr (.inr (some p0))), some (.inr (.inl x1)), none, none, none] [] h := dh_mq (Nat.le_of_ble_eq_true rfl) rfl
theorem u28_0 : dh_wp dh_sh (dh_wpM d) (dh_bl 28) Q 0 ls st h = dh_wpB dh_sh (dh_wpM d) (dh_wp dh_sh (dh_wpM d) (dh_bl 28) Q) Q bk28_0 ls st h := dh_wp_eq (dh_wpM_mono d) rfl
theorem u28_1 : dh_wp dh_sh (dh_wpM d) (dh_bl 28) Q 1 ls st h = dh_wpB dh_sh (dh_wpM d) (dh_wp dh_sh (dh_wpM d) (dh_bl 28) Q) Q bk28_1 ls st h := dh_wp_eq (dh_wpM_mono d) rfl
theorem u28_2 : dh_wp dh_sh (dh_wpM d) (dh_bl 28) Q 2 ls st h = dh_wpB dh_sh (dh_wpM d) (dh_wp dh_sh (dh_wpM d) (dh_bl 28) Q) Q bk28_2 ls st h := dh_wp_eq (dh_wpM_mono d) rfl
theorem u28_3 : dh_wp dh_sh (dh_wpM d) (dh_bl 28) Q 3 ls st h = dh_wpB dh_sh (dh_wpM d) (dh_wp dh_sh (dh_wpM d) (dh_bl 28) Q) Q bk28_3 ls st h := dh_wp_eq (dh_wpM_mono d) rfl
/-- DoubleHeap$Numbers.firstSimple(J)I -/
theorem m28 {p0 : Nat} {x1 : BitVec 64} : dh_wpM (d + 1) 28 [.inr (.inr (some p0)), .inr (.inl x1)] h Q = dh_wp dh_sh (dh_wpM d) (dh_bl 28) Q 0 [some (.inr (.inr (some p0))), some (.inr (.inl x1)), none, none] [] h := dh_mq (Nat.le_of_ble_eq_true rfl) rfl
theorem u29_0 : dh_wp dh_sh (dh_wpM d) (dh_bl 29) Q 0 ls st h = dh_wpB dh_sh (dh_wpM d) (dh_wp dh_sh (dh_wpM d) (dh_bl 29) Q) Q bk29_0 ls st h := dh_wp_eq (dh_wpM_mono d) rfl
theorem u29_1 : dh_wp dh_sh (dh_wpM d) (dh_bl 29) Q 1 ls st h = dh_wpB dh_sh (dh_wpM d) (dh_wp dh_sh (dh_wpM d) (dh_bl 29) Q) Q bk29_1 ls st h := dh_wp_eq (dh_wpM_mono d) rfl
theorem u29_2 : dh_wp dh_sh (dh_wpM d) (dh_bl 29) Q 2 ls st h = dh_wpB dh_sh (dh_wpM d) (dh_wp dh_sh (dh_wpM d) (dh_bl 29) Q) Q bk29_2 ls st h := dh_wp_eq (dh_wpM_mono d) rfl
theorem u29_3 : dh_wp dh_sh (dh_wpM d) (dh_bl 29) Q 3 ls st h = dh_wpB dh_sh (dh_wpM d) (dh_wp dh_sh (dh_wpM d) (dh_bl 29) Q) Q bk29_3 ls st h := dh_wp_eq (dh_wpM_mono d) rfl
/-- DoubleHeap$Numbers.simpleAt(I)J -/
theorem m29 {p0 : Nat} {x1 : Int} : dh_wpM (d + 1) 29 [.inr (.inr (some p0)), .inl x1] h Q = dh_wp dh_sh (dh_wpM d) (dh_bl 29) Q 0 [some (.inr (.inr (some p0))), some (.inl x1)] [] h := dh_mq (Nat.le_of_ble_eq_true rfl) rfl
theorem u30_0 : dh_wp dh_sh (dh_wpM d) (dh_bl 30) Q 0 ls st h = dh_wpB dh_sh (dh_wpM d) (dh_wp dh_sh (dh_wpM d) (dh_bl 30) Q) Q bk30_0 ls st h := dh_wp_eq (dh_wpM_mono d) rfl
theorem u30_1 : dh_wp dh_sh (dh_wpM d) (dh_bl 30) Q 1 ls st h = dh_wpB dh_sh (dh_wpM d) (dh_wp dh_sh (dh_wpM d) (dh_bl 30) Q) Q bk30_1 ls st h := dh_wp_eq (dh_wpM_mono d) rfl
theorem u30_2 : dh_wp dh_sh (dh_wpM d) (dh_bl 30) Q 2 ls st h = dh_wpB dh_sh (dh_wpM d) (dh_wp dh_sh (dh_wpM d) (dh_bl 30) Q) Q bk30_2 ls st h := dh_wp_eq (dh_wpM_mono d) rfl
theorem u30_3 : dh_wp dh_sh (dh_wpM d) (dh_bl 30) Q 3 ls st h = dh_wpB dh_sh (dh_wpM d) (dh_wp dh_sh (dh_wpM d) (dh_bl 30) Q) Q bk30_3 ls st h := dh_wp_eq (dh_wpM_mono d) rfl
theorem u30_4 : dh_wp dh_sh (dh_wpM d) (dh_bl 30) Q 4 ls st h = dh_wpB dh_sh (dh_wpM d) (dh_wp dh_sh (dh_wpM d) (dh_bl 30) Q) Q bk30_4 ls st h := dh_wp_eq (dh_wpM_mono d) rfl
theorem u30_5 : dh_wp dh_sh (dh_wpM d) (dh_bl 30) Q 5 ls st h = dh_wpB dh_sh (dh_wpM d) (dh_wp dh_sh (dh_wpM d) (dh_bl 30) Q) Q bk30_5 ls st h := dh_wp_eq (dh_wpM_mono d) rfl
theorem u30_6 : dh_wp dh_sh (dh_wpM d) (dh_bl 30) Q 6 ls st h = dh_wpB dh_sh (dh_wpM d) (dh_wp dh_sh (dh_wpM d) (dh_bl 30) Q) Q bk30_6 ls st h := dh_wp_eq (dh_wpM_mono d) rfl
/-- DoubleHeap$Numbers.lostOfSimple(II)J -/
theorem m30 {p0 : Nat} {x1 : Int} {x2 : Int} : dh_wpM (d + 1) 30 [.inr (.inr (some p0)), .inl x1, .inl x2] h Q = dh_wp dh_sh (dh_wpM d) (dh_bl 30) Q 0 [some (.inr (.inr (some p0))), some (.inl x1), some (.inl x2), none, none, none, none, none, none, none] [] h := dh_mq (Nat.le_of_ble_eq_true rfl) rfl
theorem u31_0 : dh_wp dh_sh (dh_wpM d) (dh_bl 31) Q 0 ls st h = dh_wpB dh_sh (dh_wpM d) (dh_wp dh_sh (dh_wpM d) (dh_bl 31) Q) Q bk31_0 ls st h := dh_wp_eq (dh_wpM_mono d) rfl
/-- DoubleHeap$Numbers.upTo(I)J -/
theorem m31 {x1 : Int} : dh_wpM (d + 1) 31 [.inl x1] h Q = dh_wp dh_sh (dh_wpM d) (dh_bl 31) Q 0 [some (.inl x1)] [] h := dh_mq (Nat.le_of_ble_eq_true rfl) rfl
theorem u32_0 : dh_wp dh_sh (dh_wpM d) (dh_bl 32) Q 0 ls st h = dh_wpB dh_sh (dh_wpM d) (dh_wp dh_sh (dh_wpM d) (dh_bl 32) Q) Q bk32_0 ls st h := dh_wp_eq (dh_wpM_mono d) rfl
theorem u32_1 : dh_wp dh_sh (dh_wpM d) (dh_bl 32) Q 1 ls st h = dh_wpB dh_sh (dh_wpM d) (dh_wp dh_sh (dh_wpM d) (dh_bl 32) Q) Q bk32_1 ls st h := dh_wp_eq (dh_wpM_mono d) rfl
theorem u32_2 : dh_wp dh_sh (dh_wpM d) (dh_bl 32) Q 2 ls st h = dh_wpB dh_sh (dh_wpM d) (dh_wp dh_sh (dh_wpM d) (dh_bl 32) Q) Q bk32_2 ls st h := dh_wp_eq (dh_wpM_mono d) rfl
theorem u32_3 : dh_wp dh_sh (dh_wpM d) (dh_bl 32) Q 3 ls st h = dh_wpB dh_sh (dh_wpM d) (dh_wp dh_sh (dh_wpM d) (dh_bl 32) Q) Q bk32_3 ls st h := dh_wp_eq (dh_wpM_mono d) rfl
theorem u32_4 : dh_wp dh_sh (dh_wpM d) (dh_bl 32) Q 4 ls st h = dh_wpB dh_sh (dh_wpM d) (dh_wp dh_sh (dh_wpM d) (dh_bl 32) Q) Q bk32_4 ls st h := dh_wp_eq (dh_wpM_mono d) rfl
theorem u32_5 : dh_wp dh_sh (dh_wpM d) (dh_bl 32) Q 5 ls st h = dh_wpB dh_sh (dh_wpM d) (dh_wp dh_sh (dh_wpM d) (dh_bl 32) Q) Q bk32_5 ls st h := dh_wp_eq (dh_wpM_mono d) rfl
theorem u32_6 : dh_wp dh_sh (dh_wpM d) (dh_bl 32) Q 6 ls st h = dh_wpB dh_sh (dh_wpM d) (dh_wp dh_sh (dh_wpM d) (dh_bl 32) Q) Q bk32_6 ls st h := dh_wp_eq (dh_wpM_mono d) rfl
theorem u32_7 : dh_wp dh_sh (dh_wpM d) (dh_bl 32) Q 7 ls st h = dh_wpB dh_sh (dh_wpM d) (dh_wp dh_sh (dh_wpM d) (dh_bl 32) Q) Q bk32_7 ls st h := dh_wp_eq (dh_wpM_mono d) rfl
/-- DoubleHeap$Rivals.goodOfTwo(LDoubleHeap$Law;III)I -/
theorem m32 {p0 : Nat} {x1 : Option Nat} {x2 : Int} {x3 : Int} {x4 : Int} : dh_wpM (d + 1) 32 [.inr (.inr (some p0)), .inr (.inr x1), .inl x2, .inl x3, .inl x4] h Q = dh_wp dh_sh (dh_wpM d) (dh_bl 32) Q 0 [some (.inr (.inr (some p0))), some (.inr (.inr x1)), some (.inl x2), some (.inl x3), some (.inl x4), none, none] [] h := dh_mq (Nat.le_of_ble_eq_true rfl) rfl
theorem u33_0 : dh_wp dh_sh (dh_wpM d) (dh_bl 33) Q 0 ls st h = dh_wpB dh_sh (dh_wpM d) (dh_wp dh_sh (dh_wpM d) (dh_bl 33) Q) Q bk33_0 ls st h := dh_wp_eq (dh_wpM_mono d) rfl
theorem u33_1 : dh_wp dh_sh (dh_wpM d) (dh_bl 33) Q 1 ls st h = dh_wpB dh_sh (dh_wpM d) (dh_wp dh_sh (dh_wpM d) (dh_bl 33) Q) Q bk33_1 ls st h := dh_wp_eq (dh_wpM_mono d) rfl
theorem u33_2 : dh_wp dh_sh (dh_wpM d) (dh_bl 33) Q 2 ls st h = dh_wpB dh_sh (dh_wpM d) (dh_wp dh_sh (dh_wpM d) (dh_bl 33) Q) Q bk33_2 ls st h := dh_wp_eq (dh_wpM_mono d) rfl
theorem u33_3 : dh_wp dh_sh (dh_wpM d) (dh_bl 33) Q 3 ls st h = dh_wpB dh_sh (dh_wpM d) (dh_wp dh_sh (dh_wpM d) (dh_bl 33) Q) Q bk33_3 ls st h := dh_wp_eq (dh_wpM_mono d) rfl
/-- DoubleHeap$Rivals.lostOfTwo(LDoubleHeap$Law;III)J -/
theorem m33 {p0 : Nat} {x1 : Option Nat} {x2 : Int} {x3 : Int} {x4 : Int} : dh_wpM (d + 1) 33 [.inr (.inr (some p0)), .inr (.inr x1), .inl x2, .inl x3, .inl x4] h Q = dh_wp dh_sh (dh_wpM d) (dh_bl 33) Q 0 [some (.inr (.inr (some p0))), some (.inr (.inr x1)), some (.inl x2), some (.inl x3), some (.inl x4), none, none, none, none, none, none, none] [] h := dh_mq (Nat.le_of_ble_eq_true rfl) rfl
theorem u34_0 : dh_wp dh_sh (dh_wpM d) (dh_bl 34) Q 0 ls st h = dh_wpB dh_sh (dh_wpM d) (dh_wp dh_sh (dh_wpM d) (dh_bl 34) Q) Q bk34_0 ls st h := dh_wp_eq (dh_wpM_mono d) rfl
theorem u34_1 : dh_wp dh_sh (dh_wpM d) (dh_bl 34) Q 1 ls st h = dh_wpB dh_sh (dh_wpM d) (dh_wp dh_sh (dh_wpM d) (dh_bl 34) Q) Q bk34_1 ls st h := dh_wp_eq (dh_wpM_mono d) rfl
theorem u34_2 : dh_wp dh_sh (dh_wpM d) (dh_bl 34) Q 2 ls st h = dh_wpB dh_sh (dh_wpM d) (dh_wp dh_sh (dh_wpM d) (dh_bl 34) Q) Q bk34_2 ls st h := dh_wp_eq (dh_wpM_mono d) rfl
theorem u34_3 : dh_wp dh_sh (dh_wpM d) (dh_bl 34) Q 3 ls st h = dh_wpB dh_sh (dh_wpM d) (dh_wp dh_sh (dh_wpM d) (dh_bl 34) Q) Q bk34_3 ls st h := dh_wp_eq (dh_wpM_mono d) rfl
theorem u34_4 : dh_wp dh_sh (dh_wpM d) (dh_bl 34) Q 4 ls st h = dh_wpB dh_sh (dh_wpM d) (dh_wp dh_sh (dh_wpM d) (dh_bl 34) Q) Q bk34_4 ls st h := dh_wp_eq (dh_wpM_mono d) rfl
theorem u34_5 : dh_wp dh_sh (dh_wpM d) (dh_bl 34) Q 5 ls st h = dh_wpB dh_sh (dh_wpM d) (dh_wp dh_sh (dh_wpM d) (dh_bl 34) Q) Q bk34_5 ls st h := dh_wp_eq (dh_wpM_mono d) rfl
theorem u34_6 : dh_wp dh_sh (dh_wpM d) (dh_bl 34) Q 6 ls st h = dh_wpB dh_sh (dh_wpM d) (dh_wp dh_sh (dh_wpM d) (dh_bl 34) Q) Q bk34_6 ls st h := dh_wp_eq (dh_wpM_mono d) rfl
/-- DoubleHeap$Rivals.losingOfTwo(IIZ)J -/
theorem m34 {p0 : Nat} {x1 : Int} {x2 : Int} {x3 : Int} : dh_wpM (d + 1) 34 [.inr (.inr (some p0)), .inl x1, .inl x2, .inl x3] h Q = dh_wp dh_sh (dh_wpM d) (dh_bl 34) Q 0 [some (.inr (.inr (some p0))), some (.inl x1), some (.inl x2), some (.inl x3), none, none, none, none] [] h := dh_mq (Nat.le_of_ble_eq_true rfl) rfl
theorem u35_0 : dh_wp dh_sh (dh_wpM d) (dh_bl 35) Q 0 ls st h = dh_wpB dh_sh (dh_wpM d) (dh_wp dh_sh (dh_wpM d) (dh_bl 35) Q) Q bk35_0 ls st h := dh_wp_eq (dh_wpM_mono d) rfl
theorem u35_1 : dh_wp dh_sh (dh_wpM d) (dh_bl 35) Q 1 ls st h = dh_wpB dh_sh (dh_wpM d) (dh_wp dh_sh (dh_wpM d) (dh_bl 35) Q) Q bk35_1 ls st h := dh_wp_eq (dh_wpM_mono d) rfl
theorem u35_2 : dh_wp dh_sh (dh_wpM d) (dh_bl 35) Q 2 ls st h = dh_wpB dh_sh (dh_wpM d) (dh_wp dh_sh (dh_wpM d) (dh_bl 35) Q) Q bk35_2 ls st h := dh_wp_eq (dh_wpM_mono d) rfl
theorem u35_3 : dh_wp dh_sh (dh_wpM d) (dh_bl 35) Q 3 ls st h = dh_wpB dh_sh (dh_wpM d) (dh_wp dh_sh (dh_wpM d) (dh_bl 35) Q) Q bk35_3 ls st h := dh_wp_eq (dh_wpM_mono d) rfl
theorem u35_4 : dh_wp dh_sh (dh_wpM d) (dh_bl 35) Q 4 ls st h = dh_wpB dh_sh (dh_wpM d) (dh_wp dh_sh (dh_wpM d) (dh_bl 35) Q) Q bk35_4 ls st h := dh_wp_eq (dh_wpM_mono d) rfl
theorem u35_5 : dh_wp dh_sh (dh_wpM d) (dh_bl 35) Q 5 ls st h = dh_wpB dh_sh (dh_wpM d) (dh_wp dh_sh (dh_wpM d) (dh_bl 35) Q) Q bk35_5 ls st h := dh_wp_eq (dh_wpM_mono d) rfl
theorem u35_6 : dh_wp dh_sh (dh_wpM d) (dh_bl 35) Q 6 ls st h = dh_wpB dh_sh (dh_wpM d) (dh_wp dh_sh (dh_wpM d) (dh_bl 35) Q) Q bk35_6 ls st h := dh_wp_eq (dh_wpM_mono d) rfl
/-- DoubleHeap$Rivals.goodGrowing(LDoubleHeap$Law;III)J -/
theorem m35 {p0 : Nat} {x1 : Option Nat} {x2 : Int} {x3 : Int} {x4 : Int} : dh_wpM (d + 1) 35 [.inr (.inr (some p0)), .inr (.inr x1), .inl x2, .inl x3, .inl x4] h Q = dh_wp dh_sh (dh_wpM d) (dh_bl 35) Q 0 [some (.inr (.inr (some p0))), some (.inr (.inr x1)), some (.inl x2), some (.inl x3), some (.inl x4), none, none] [] h := dh_mq (Nat.le_of_ble_eq_true rfl) rfl
theorem u36_0 : dh_wp dh_sh (dh_wpM d) (dh_bl 36) Q 0 ls st h = dh_wpB dh_sh (dh_wpM d) (dh_wp dh_sh (dh_wpM d) (dh_bl 36) Q) Q bk36_0 ls st h := dh_wp_eq (dh_wpM_mono d) rfl
theorem u36_1 : dh_wp dh_sh (dh_wpM d) (dh_bl 36) Q 1 ls st h = dh_wpB dh_sh (dh_wpM d) (dh_wp dh_sh (dh_wpM d) (dh_bl 36) Q) Q bk36_1 ls st h := dh_wp_eq (dh_wpM_mono d) rfl
theorem u36_2 : dh_wp dh_sh (dh_wpM d) (dh_bl 36) Q 2 ls st h = dh_wpB dh_sh (dh_wpM d) (dh_wp dh_sh (dh_wpM d) (dh_bl 36) Q) Q bk36_2 ls st h := dh_wp_eq (dh_wpM_mono d) rfl
theorem u36_3 : dh_wp dh_sh (dh_wpM d) (dh_bl 36) Q 3 ls st h = dh_wpB dh_sh (dh_wpM d) (dh_wp dh_sh (dh_wpM d) (dh_bl 36) Q) Q bk36_3 ls st h := dh_wp_eq (dh_wpM_mono d) rfl
theorem u36_4 : dh_wp dh_sh (dh_wpM d) (dh_bl 36) Q 4 ls st h = dh_wpB dh_sh (dh_wpM d) (dh_wp dh_sh (dh_wpM d) (dh_bl 36) Q) Q bk36_4 ls st h := dh_wp_eq (dh_wpM_mono d) rfl
/-- DoubleHeap$Rivals.losingGrowing(II)J -/
theorem m36 {p0 : Nat} {x1 : Int} {x2 : Int} : dh_wpM (d + 1) 36 [.inr (.inr (some p0)), .inl x1, .inl x2] h Q = dh_wp dh_sh (dh_wpM d) (dh_bl 36) Q 0 [some (.inr (.inr (some p0))), some (.inl x1), some (.inl x2), none, none, none, none] [] h := dh_mq (Nat.le_of_ble_eq_true rfl) rfl
theorem u37_0 : dh_wp dh_sh (dh_wpM d) (dh_bl 37) Q 0 ls st h = dh_wpB dh_sh (dh_wpM d) (dh_wp dh_sh (dh_wpM d) (dh_bl 37) Q) Q bk37_0 ls st h := dh_wp_eq (dh_wpM_mono d) rfl
theorem u37_1 : dh_wp dh_sh (dh_wpM d) (dh_bl 37) Q 1 ls st h = dh_wpB dh_sh (dh_wpM d) (dh_wp dh_sh (dh_wpM d) (dh_bl 37) Q) Q bk37_1 ls st h := dh_wp_eq (dh_wpM_mono d) rfl
theorem u37_2 : dh_wp dh_sh (dh_wpM d) (dh_bl 37) Q 2 ls st h = dh_wpB dh_sh (dh_wpM d) (dh_wp dh_sh (dh_wpM d) (dh_bl 37) Q) Q bk37_2 ls st h := dh_wp_eq (dh_wpM_mono d) rfl
theorem u37_3 : dh_wp dh_sh (dh_wpM d) (dh_bl 37) Q 3 ls st h = dh_wpB dh_sh (dh_wpM d) (dh_wp dh_sh (dh_wpM d) (dh_bl 37) Q) Q bk37_3 ls st h := dh_wp_eq (dh_wpM_mono d) rfl
/-- DoubleHeap$Rivals.lostGrowing(LDoubleHeap$Law;II)J -/
theorem m37 {p0 : Nat} {x1 : Option Nat} {x2 : Int} {x3 : Int} : dh_wpM (d + 1) 37 [.inr (.inr (some p0)), .inr (.inr x1), .inl x2, .inl x3] h Q = dh_wp dh_sh (dh_wpM d) (dh_bl 37) Q 0 [some (.inr (.inr (some p0))), some (.inr (.inr x1)), some (.inl x2), some (.inl x3), none, none, none, none] [] h := dh_mq (Nat.le_of_ble_eq_true rfl) rfl
theorem u38_0 : dh_wp dh_sh (dh_wpM d) (dh_bl 38) Q 0 ls st h = dh_wpB dh_sh (dh_wpM d) (dh_wp dh_sh (dh_wpM d) (dh_bl 38) Q) Q bk38_0 ls st h := dh_wp_eq (dh_wpM_mono d) rfl
theorem u38_1 : dh_wp dh_sh (dh_wpM d) (dh_bl 38) Q 1 ls st h = dh_wpB dh_sh (dh_wpM d) (dh_wp dh_sh (dh_wpM d) (dh_bl 38) Q) Q bk38_1 ls st h := dh_wp_eq (dh_wpM_mono d) rfl
theorem u38_2 : dh_wp dh_sh (dh_wpM d) (dh_bl 38) Q 2 ls st h = dh_wpB dh_sh (dh_wpM d) (dh_wp dh_sh (dh_wpM d) (dh_bl 38) Q) Q bk38_2 ls st h := dh_wp_eq (dh_wpM_mono d) rfl
theorem u38_3 : dh_wp dh_sh (dh_wpM d) (dh_bl 38) Q 3 ls st h = dh_wpB dh_sh (dh_wpM d) (dh_wp dh_sh (dh_wpM d) (dh_bl 38) Q) Q bk38_3 ls st h := dh_wp_eq (dh_wpM_mono d) rfl
theorem u38_4 : dh_wp dh_sh (dh_wpM d) (dh_bl 38) Q 4 ls st h = dh_wpB dh_sh (dh_wpM d) (dh_wp dh_sh (dh_wpM d) (dh_bl 38) Q) Q bk38_4 ls st h := dh_wp_eq (dh_wpM_mono d) rfl
theorem u38_5 : dh_wp dh_sh (dh_wpM d) (dh_bl 38) Q 5 ls st h = dh_wpB dh_sh (dh_wpM d) (dh_wp dh_sh (dh_wpM d) (dh_bl 38) Q) Q bk38_5 ls st h := dh_wp_eq (dh_wpM_mono d) rfl
theorem u38_6 : dh_wp dh_sh (dh_wpM d) (dh_bl 38) Q 6 ls st h = dh_wpB dh_sh (dh_wpM d) (dh_wp dh_sh (dh_wpM d) (dh_bl 38) Q) Q bk38_6 ls st h := dh_wp_eq (dh_wpM_mono d) rfl
/-- DoubleHeap$Rivals.goodAgainst(LDoubleHeap$Law;LDoubleHeap$Law;II)J -/
theorem m38 {p0 : Nat} {x1 : Option Nat} {x2 : Option Nat} {x3 : Int} {x4 : Int} : dh_wpM (d + 1) 38 [.inr (.inr (some p0)), .inr (.inr x1), .inr (.inr x2), .inl x3, .inl x4] h Q = dh_wp dh_sh (dh_wpM d) (dh_bl 38) Q 0 [some (.inr (.inr (some p0))), some (.inr (.inr x1)), some (.inr (.inr x2)), some (.inl x3), some (.inl x4), none, none, none, none, none, none] [] h := dh_mq (Nat.le_of_ble_eq_true rfl) rfl
theorem u39_0 : dh_wp dh_sh (dh_wpM d) (dh_bl 39) Q 0 ls st h = dh_wpB dh_sh (dh_wpM d) (dh_wp dh_sh (dh_wpM d) (dh_bl 39) Q) Q bk39_0 ls st h := dh_wp_eq (dh_wpM_mono d) rfl
theorem u39_1 : dh_wp dh_sh (dh_wpM d) (dh_bl 39) Q 1 ls st h = dh_wpB dh_sh (dh_wpM d) (dh_wp dh_sh (dh_wpM d) (dh_bl 39) Q) Q bk39_1 ls st h := dh_wp_eq (dh_wpM_mono d) rfl
theorem u39_2 : dh_wp dh_sh (dh_wpM d) (dh_bl 39) Q 2 ls st h = dh_wpB dh_sh (dh_wpM d) (dh_wp dh_sh (dh_wpM d) (dh_bl 39) Q) Q bk39_2 ls st h := dh_wp_eq (dh_wpM_mono d) rfl
theorem u39_3 : dh_wp dh_sh (dh_wpM d) (dh_bl 39) Q 3 ls st h = dh_wpB dh_sh (dh_wpM d) (dh_wp dh_sh (dh_wpM d) (dh_bl 39) Q) Q bk39_3 ls st h := dh_wp_eq (dh_wpM_mono d) rfl
theorem u39_4 : dh_wp dh_sh (dh_wpM d) (dh_bl 39) Q 4 ls st h = dh_wpB dh_sh (dh_wpM d) (dh_wp dh_sh (dh_wpM d) (dh_bl 39) Q) Q bk39_4 ls st h := dh_wp_eq (dh_wpM_mono d) rfl
theorem u39_5 : dh_wp dh_sh (dh_wpM d) (dh_bl 39) Q 5 ls st h = dh_wpB dh_sh (dh_wpM d) (dh_wp dh_sh (dh_wpM d) (dh_bl 39) Q) Q bk39_5 ls st h := dh_wp_eq (dh_wpM_mono d) rfl
/-- DoubleHeap$Rivals.onesWin(LDoubleHeap$Law;II)Z -/
theorem m39 {p0 : Nat} {x1 : Option Nat} {x2 : Int} {x3 : Int} : dh_wpM (d + 1) 39 [.inr (.inr (some p0)), .inr (.inr x1), .inl x2, .inl x3] h Q = dh_wp dh_sh (dh_wpM d) (dh_bl 39) Q 0 [some (.inr (.inr (some p0))), some (.inr (.inr x1)), some (.inl x2), some (.inl x3), none, none, none, none] [] h := dh_mq (Nat.le_of_ble_eq_true rfl) rfl
theorem u40_0 : dh_wp dh_sh (dh_wpM d) (dh_bl 40) Q 0 ls st h = dh_wpB dh_sh (dh_wpM d) (dh_wp dh_sh (dh_wpM d) (dh_bl 40) Q) Q bk40_0 ls st h := dh_wp_eq (dh_wpM_mono d) rfl
theorem u40_1 : dh_wp dh_sh (dh_wpM d) (dh_bl 40) Q 1 ls st h = dh_wpB dh_sh (dh_wpM d) (dh_wp dh_sh (dh_wpM d) (dh_bl 40) Q) Q bk40_1 ls st h := dh_wp_eq (dh_wpM_mono d) rfl
theorem u40_2 : dh_wp dh_sh (dh_wpM d) (dh_bl 40) Q 2 ls st h = dh_wpB dh_sh (dh_wpM d) (dh_wp dh_sh (dh_wpM d) (dh_bl 40) Q) Q bk40_2 ls st h := dh_wp_eq (dh_wpM_mono d) rfl
theorem u40_3 : dh_wp dh_sh (dh_wpM d) (dh_bl 40) Q 3 ls st h = dh_wpB dh_sh (dh_wpM d) (dh_wp dh_sh (dh_wpM d) (dh_bl 40) Q) Q bk40_3 ls st h := dh_wp_eq (dh_wpM_mono d) rfl
theorem u40_4 : dh_wp dh_sh (dh_wpM d) (dh_bl 40) Q 4 ls st h = dh_wpB dh_sh (dh_wpM d) (dh_wp dh_sh (dh_wpM d) (dh_bl 40) Q) Q bk40_4 ls st h := dh_wp_eq (dh_wpM_mono d) rfl
/-- DoubleHeap$Rivals.oneWins(LDoubleHeap$Law;II)Z -/
theorem m40 {p0 : Nat} {x1 : Option Nat} {x2 : Int} {x3 : Int} : dh_wpM (d + 1) 40 [.inr (.inr (some p0)), .inr (.inr x1), .inl x2, .inl x3] h Q = dh_wp dh_sh (dh_wpM d) (dh_bl 40) Q 0 [some (.inr (.inr (some p0))), some (.inr (.inr x1)), some (.inl x2), some (.inl x3)] [] h := dh_mq (Nat.le_of_ble_eq_true rfl) rfl
theorem u41_0 : dh_wp dh_sh (dh_wpM d) (dh_bl 41) Q 0 ls st h = dh_wpB dh_sh (dh_wpM d) (dh_wp dh_sh (dh_wpM d) (dh_bl 41) Q) Q bk41_0 ls st h := dh_wp_eq (dh_wpM_mono d) rfl
theorem u41_1 : dh_wp dh_sh (dh_wpM d) (dh_bl 41) Q 1 ls st h = dh_wpB dh_sh (dh_wpM d) (dh_wp dh_sh (dh_wpM d) (dh_bl 41) Q) Q bk41_1 ls st h := dh_wp_eq (dh_wpM_mono d) rfl
theorem u41_2 : dh_wp dh_sh (dh_wpM d) (dh_bl 41) Q 2 ls st h = dh_wpB dh_sh (dh_wpM d) (dh_wp dh_sh (dh_wpM d) (dh_bl 41) Q) Q bk41_2 ls st h := dh_wp_eq (dh_wpM_mono d) rfl
theorem u41_3 : dh_wp dh_sh (dh_wpM d) (dh_bl 41) Q 3 ls st h = dh_wpB dh_sh (dh_wpM d) (dh_wp dh_sh (dh_wpM d) (dh_bl 41) Q) Q bk41_3 ls st h := dh_wp_eq (dh_wpM_mono d) rfl
theorem u41_4 : dh_wp dh_sh (dh_wpM d) (dh_bl 41) Q 4 ls st h = dh_wpB dh_sh (dh_wpM d) (dh_wp dh_sh (dh_wpM d) (dh_bl 41) Q) Q bk41_4 ls st h := dh_wp_eq (dh_wpM_mono d) rfl
theorem u41_5 : dh_wp dh_sh (dh_wpM d) (dh_bl 41) Q 5 ls st h = dh_wpB dh_sh (dh_wpM d) (dh_wp dh_sh (dh_wpM d) (dh_bl 41) Q) Q bk41_5 ls st h := dh_wp_eq (dh_wpM_mono d) rfl
theorem u41_6 : dh_wp dh_sh (dh_wpM d) (dh_bl 41) Q 6 ls st h = dh_wpB dh_sh (dh_wpM d) (dh_wp dh_sh (dh_wpM d) (dh_bl 41) Q) Q bk41_6 ls st h := dh_wp_eq (dh_wpM_mono d) rfl
theorem u41_7 : dh_wp dh_sh (dh_wpM d) (dh_bl 41) Q 7 ls st h = dh_wpB dh_sh (dh_wpM d) (dh_wp dh_sh (dh_wpM d) (dh_bl 41) Q) Q bk41_7 ls st h := dh_wp_eq (dh_wpM_mono d) rfl
/-- DoubleHeap$Rivals.fillPasses(LDoubleHeap$Law;I)V -/
theorem m41 {p0 : Nat} {x1 : Option Nat} {x2 : Int} : dh_wpM (d + 1) 41 [.inr (.inr (some p0)), .inr (.inr x1), .inl x2] h Q = dh_wp dh_sh (dh_wpM d) (dh_bl 41) Q 0 [some (.inr (.inr (some p0))), some (.inr (.inr x1)), some (.inl x2), none, none, none, none, none, none, none] [] h := dh_mq (Nat.le_of_ble_eq_true rfl) rfl
theorem u42_0 : dh_wp dh_sh (dh_wpM d) (dh_bl 42) Q 0 ls st h = dh_wpB dh_sh (dh_wpM d) (dh_wp dh_sh (dh_wpM d) (dh_bl 42) Q) Q bk42_0 ls st h := dh_wp_eq (dh_wpM_mono d) rfl
/-- DoubleHeap$Rivals.goodWithPasses(LDoubleHeap$Law;IIII)J -/
theorem m42 {p0 : Nat} {x1 : Option Nat} {x2 : Int} {x3 : Int} {x4 : Int} {x5 : Int} : dh_wpM (d + 1) 42 [.inr (.inr (some p0)), .inr (.inr x1), .inl x2, .inl x3, .inl x4, .inl x5] h Q = dh_wp dh_sh (dh_wpM d) (dh_bl 42) Q 0 [some (.inr (.inr (some p0))), some (.inr (.inr x1)), some (.inl x2), some (.inl x3), some (.inl x4), some (.inl x5)] [] h := dh_mq (Nat.le_of_ble_eq_true rfl) rfl
theorem u43_0 : dh_wp dh_sh (dh_wpM d) (dh_bl 43) Q 0 ls st h = dh_wpB dh_sh (dh_wpM d) (dh_wp dh_sh (dh_wpM d) (dh_bl 43) Q) Q bk43_0 ls st h := dh_wp_eq (dh_wpM_mono d) rfl
theorem u43_1 : dh_wp dh_sh (dh_wpM d) (dh_bl 43) Q 1 ls st h = dh_wpB dh_sh (dh_wpM d) (dh_wp dh_sh (dh_wpM d) (dh_bl 43) Q) Q bk43_1 ls st h := dh_wp_eq (dh_wpM_mono d) rfl
theorem u43_2 : dh_wp dh_sh (dh_wpM d) (dh_bl 43) Q 2 ls st h = dh_wpB dh_sh (dh_wpM d) (dh_wp dh_sh (dh_wpM d) (dh_bl 43) Q) Q bk43_2 ls st h := dh_wp_eq (dh_wpM_mono d) rfl
theorem u43_3 : dh_wp dh_sh (dh_wpM d) (dh_bl 43) Q 3 ls st h = dh_wpB dh_sh (dh_wpM d) (dh_wp dh_sh (dh_wpM d) (dh_bl 43) Q) Q bk43_3 ls st h := dh_wp_eq (dh_wpM_mono d) rfl
/-- DoubleHeap$Rivals.wonWithPasses(LDoubleHeap$Law;IIII)Z -/
theorem m43 {p0 : Nat} {x1 : Option Nat} {x2 : Int} {x3 : Int} {x4 : Int} {x5 : Int} : dh_wpM (d + 1) 43 [.inr (.inr (some p0)), .inr (.inr x1), .inl x2, .inl x3, .inl x4, .inl x5] h Q = dh_wp dh_sh (dh_wpM d) (dh_bl 43) Q 0 [some (.inr (.inr (some p0))), some (.inr (.inr x1)), some (.inl x2), some (.inl x3), some (.inl x4), some (.inl x5)] [] h := dh_mq (Nat.le_of_ble_eq_true rfl) rfl
theorem u44_0 : dh_wp dh_sh (dh_wpM d) (dh_bl 44) Q 0 ls st h = dh_wpB dh_sh (dh_wpM d) (dh_wp dh_sh (dh_wpM d) (dh_bl 44) Q) Q bk44_0 ls st h := dh_wp_eq (dh_wpM_mono d) rfl
/-- DoubleHeap$Rivals.passCell(III)I -/
theorem m44 {x1 : Int} {x2 : Int} {x3 : Int} : dh_wpM (d + 1) 44 [.inl x1, .inl x2, .inl x3] h Q = dh_wp dh_sh (dh_wpM d) (dh_bl 44) Q 0 [some (.inl x1), some (.inl x2), some (.inl x3)] [] h := dh_mq (Nat.le_of_ble_eq_true rfl) rfl
theorem u45_0 : dh_wp dh_sh (dh_wpM d) (dh_bl 45) Q 0 ls st h = dh_wpB dh_sh (dh_wpM d) (dh_wp dh_sh (dh_wpM d) (dh_bl 45) Q) Q bk45_0 ls st h := dh_wp_eq (dh_wpM_mono d) rfl
/-- DoubleHeap$Rules.clear()V -/
theorem m45 {p0 : Nat} : dh_wpM (d + 1) 45 [.inr (.inr (some p0))] h Q = dh_wp dh_sh (dh_wpM d) (dh_bl 45) Q 0 [some (.inr (.inr (some p0)))] [] h := dh_mq (Nat.le_of_ble_eq_true rfl) rfl
theorem u46_0 : dh_wp dh_sh (dh_wpM d) (dh_bl 46) Q 0 ls st h = dh_wpB dh_sh (dh_wpM d) (dh_wp dh_sh (dh_wpM d) (dh_bl 46) Q) Q bk46_0 ls st h := dh_wp_eq (dh_wpM_mono d) rfl
/-- DoubleHeap$Rules.adopt(LDoubleHeap$Rules;)V -/
theorem m46 {p0 : Nat} {x1 : Option Nat} : dh_wpM (d + 1) 46 [.inr (.inr (some p0)), .inr (.inr x1)] h Q = dh_wp dh_sh (dh_wpM d) (dh_bl 46) Q 0 [some (.inr (.inr (some p0))), some (.inr (.inr x1))] [] h := dh_mq (Nat.le_of_ble_eq_true rfl) rfl
theorem u47_0 : dh_wp dh_sh (dh_wpM d) (dh_bl 47) Q 0 ls st h = dh_wpB dh_sh (dh_wpM d) (dh_wp dh_sh (dh_wpM d) (dh_bl 47) Q) Q bk47_0 ls st h := dh_wp_eq (dh_wpM_mono d) rfl
theorem u47_1 : dh_wp dh_sh (dh_wpM d) (dh_bl 47) Q 1 ls st h = dh_wpB dh_sh (dh_wpM d) (dh_wp dh_sh (dh_wpM d) (dh_bl 47) Q) Q bk47_1 ls st h := dh_wp_eq (dh_wpM_mono d) rfl
/-- DoubleHeap$Rules.step(II)V -/
theorem m47 {p0 : Nat} {x1 : Int} {x2 : Int} : dh_wpM (d + 1) 47 [.inr (.inr (some p0)), .inl x1, .inl x2] h Q = dh_wp dh_sh (dh_wpM d) (dh_bl 47) Q 0 [some (.inr (.inr (some p0))), some (.inl x1), some (.inl x2)] [] h := dh_mq (Nat.le_of_ble_eq_true rfl) rfl
theorem u48_0 : dh_wp dh_sh (dh_wpM d) (dh_bl 48) Q 0 ls st h = dh_wpB dh_sh (dh_wpM d) (dh_wp dh_sh (dh_wpM d) (dh_bl 48) Q) Q bk48_0 ls st h := dh_wp_eq (dh_wpM_mono d) rfl
theorem u48_1 : dh_wp dh_sh (dh_wpM d) (dh_bl 48) Q 1 ls st h = dh_wpB dh_sh (dh_wpM d) (dh_wp dh_sh (dh_wpM d) (dh_bl 48) Q) Q bk48_1 ls st h := dh_wp_eq (dh_wpM_mono d) rfl
theorem u48_2 : dh_wp dh_sh (dh_wpM d) (dh_bl 48) Q 2 ls st h = dh_wpB dh_sh (dh_wpM d) (dh_wp dh_sh (dh_wpM d) (dh_bl 48) Q) Q bk48_2 ls st h := dh_wp_eq (dh_wpM_mono d) rfl
/-- DoubleHeap$Rules.settle(I)V -/
theorem m48 {p0 : Nat} {x1 : Int} : dh_wpM (d + 1) 48 [.inr (.inr (some p0)), .inl x1] h Q = dh_wp dh_sh (dh_wpM d) (dh_bl 48) Q 0 [some (.inr (.inr (some p0))), some (.inl x1), none, none, none] [] h := dh_mq (Nat.le_of_ble_eq_true rfl) rfl
theorem u49_0 : dh_wp dh_sh (dh_wpM d) (dh_bl 49) Q 0 ls st h = dh_wpB dh_sh (dh_wpM d) (dh_wp dh_sh (dh_wpM d) (dh_bl 49) Q) Q bk49_0 ls st h := dh_wp_eq (dh_wpM_mono d) rfl
theorem u49_1 : dh_wp dh_sh (dh_wpM d) (dh_bl 49) Q 1 ls st h = dh_wpB dh_sh (dh_wpM d) (dh_wp dh_sh (dh_wpM d) (dh_bl 49) Q) Q bk49_1 ls st h := dh_wp_eq (dh_wpM_mono d) rfl
/-- DoubleHeap$Rules.addRule(III)V -/
theorem m49 {p0 : Nat} {x1 : Int} {x2 : Int} {x3 : Int} : dh_wpM (d + 1) 49 [.inr (.inr (some p0)), .inl x1, .inl x2, .inl x3] h Q = dh_wp dh_sh (dh_wpM d) (dh_bl 49) Q 0 [some (.inr (.inr (some p0))), some (.inl x1), some (.inl x2), some (.inl x3)] [] h := dh_mq (Nat.le_of_ble_eq_true rfl) rfl
theorem u50_0 : dh_wp dh_sh (dh_wpM d) (dh_bl 50) Q 0 ls st h = dh_wpB dh_sh (dh_wpM d) (dh_wp dh_sh (dh_wpM d) (dh_bl 50) Q) Q bk50_0 ls st h := dh_wp_eq (dh_wpM_mono d) rfl
theorem u50_1 : dh_wp dh_sh (dh_wpM d) (dh_bl 50) Q 1 ls st h = dh_wpB dh_sh (dh_wpM d) (dh_wp dh_sh (dh_wpM d) (dh_bl 50) Q) Q bk50_1 ls st h := dh_wp_eq (dh_wpM_mono d) rfl
theorem u50_2 : dh_wp dh_sh (dh_wpM d) (dh_bl 50) Q 2 ls st h = dh_wpB dh_sh (dh_wpM d) (dh_wp dh_sh (dh_wpM d) (dh_bl 50) Q) Q bk50_2 ls st h := dh_wp_eq (dh_wpM_mono d) rfl
theorem u50_3 : dh_wp dh_sh (dh_wpM d) (dh_bl 50) Q 3 ls st h = dh_wpB dh_sh (dh_wpM d) (dh_wp dh_sh (dh_wpM d) (dh_bl 50) Q) Q bk50_3 ls st h := dh_wp_eq (dh_wpM_mono d) rfl
/-- DoubleHeap$Rules.most(II)I -/
theorem m50 {p0 : Nat} {x1 : Int} {x2 : Int} : dh_wpM (d + 1) 50 [.inr (.inr (some p0)), .inl x1, .inl x2] h Q = dh_wp dh_sh (dh_wpM d) (dh_bl 50) Q 0 [some (.inr (.inr (some p0))), some (.inl x1), some (.inl x2), none] [] h := dh_mq (Nat.le_of_ble_eq_true rfl) rfl
theorem u51_0 : dh_wp dh_sh (dh_wpM d) (dh_bl 51) Q 0 ls st h = dh_wpB dh_sh (dh_wpM d) (dh_wp dh_sh (dh_wpM d) (dh_bl 51) Q) Q bk51_0 ls st h := dh_wp_eq (dh_wpM_mono d) rfl
theorem u51_1 : dh_wp dh_sh (dh_wpM d) (dh_bl 51) Q 1 ls st h = dh_wpB dh_sh (dh_wpM d) (dh_wp dh_sh (dh_wpM d) (dh_bl 51) Q) Q bk51_1 ls st h := dh_wp_eq (dh_wpM_mono d) rfl
theorem u51_2 : dh_wp dh_sh (dh_wpM d) (dh_bl 51) Q 2 ls st h = dh_wpB dh_sh (dh_wpM d) (dh_wp dh_sh (dh_wpM d) (dh_bl 51) Q) Q bk51_2 ls st h := dh_wp_eq (dh_wpM_mono d) rfl
theorem u51_3 : dh_wp dh_sh (dh_wpM d) (dh_bl 51) Q 3 ls st h = dh_wpB dh_sh (dh_wpM d) (dh_wp dh_sh (dh_wpM d) (dh_bl 51) Q) Q bk51_3 ls st h := dh_wp_eq (dh_wpM_mono d) rfl
/-- DoubleHeap$Rules.forbids(III)Z -/
theorem m51 {p0 : Nat} {x1 : Int} {x2 : Int} {x3 : Int} : dh_wpM (d + 1) 51 [.inr (.inr (some p0)), .inl x1, .inl x2, .inl x3] h Q = dh_wp dh_sh (dh_wpM d) (dh_bl 51) Q 0 [some (.inr (.inr (some p0))), some (.inl x1), some (.inl x2), some (.inl x3), none] [] h := dh_mq (Nat.le_of_ble_eq_true rfl) rfl
theorem u52_0 : dh_wp dh_sh (dh_wpM d) (dh_bl 52) Q 0 ls st h = dh_wpB dh_sh (dh_wpM d) (dh_wp dh_sh (dh_wpM d) (dh_bl 52) Q) Q bk52_0 ls st h := dh_wp_eq (dh_wpM_mono d) rfl
theorem u52_1 : dh_wp dh_sh (dh_wpM d) (dh_bl 52) Q 1 ls st h = dh_wpB dh_sh (dh_wpM d) (dh_wp dh_sh (dh_wpM d) (dh_bl 52) Q) Q bk52_1 ls st h := dh_wp_eq (dh_wpM_mono d) rfl
theorem u52_2 : dh_wp dh_sh (dh_wpM d) (dh_bl 52) Q 2 ls st h = dh_wpB dh_sh (dh_wpM d) (dh_wp dh_sh (dh_wpM d) (dh_bl 52) Q) Q bk52_2 ls st h := dh_wp_eq (dh_wpM_mono d) rfl
theorem u52_3 : dh_wp dh_sh (dh_wpM d) (dh_bl 52) Q 3 ls st h = dh_wpB dh_sh (dh_wpM d) (dh_wp dh_sh (dh_wpM d) (dh_bl 52) Q) Q bk52_3 ls st h := dh_wp_eq (dh_wpM_mono d) rfl
theorem u52_4 : dh_wp dh_sh (dh_wpM d) (dh_bl 52) Q 4 ls st h = dh_wpB dh_sh (dh_wpM d) (dh_wp dh_sh (dh_wpM d) (dh_bl 52) Q) Q bk52_4 ls st h := dh_wp_eq (dh_wpM_mono d) rfl
theorem u52_5 : dh_wp dh_sh (dh_wpM d) (dh_bl 52) Q 5 ls st h = dh_wpB dh_sh (dh_wpM d) (dh_wp dh_sh (dh_wpM d) (dh_bl 52) Q) Q bk52_5 ls st h := dh_wp_eq (dh_wpM_mono d) rfl
theorem u52_6 : dh_wp dh_sh (dh_wpM d) (dh_bl 52) Q 6 ls st h = dh_wpB dh_sh (dh_wpM d) (dh_wp dh_sh (dh_wpM d) (dh_bl 52) Q) Q bk52_6 ls st h := dh_wp_eq (dh_wpM_mono d) rfl
theorem u52_7 : dh_wp dh_sh (dh_wpM d) (dh_bl 52) Q 7 ls st h = dh_wpB dh_sh (dh_wpM d) (dh_wp dh_sh (dh_wpM d) (dh_bl 52) Q) Q bk52_7 ls st h := dh_wp_eq (dh_wpM_mono d) rfl
theorem u52_8 : dh_wp dh_sh (dh_wpM d) (dh_bl 52) Q 8 ls st h = dh_wpB dh_sh (dh_wpM d) (dh_wp dh_sh (dh_wpM d) (dh_bl 52) Q) Q bk52_8 ls st h := dh_wp_eq (dh_wpM_mono d) rfl
theorem u52_9 : dh_wp dh_sh (dh_wpM d) (dh_bl 52) Q 9 ls st h = dh_wpB dh_sh (dh_wpM d) (dh_wp dh_sh (dh_wpM d) (dh_bl 52) Q) Q bk52_9 ls st h := dh_wp_eq (dh_wpM_mono d) rfl
theorem u52_10 : dh_wp dh_sh (dh_wpM d) (dh_bl 52) Q 10 ls st h = dh_wpB dh_sh (dh_wpM d) (dh_wp dh_sh (dh_wpM d) (dh_bl 52) Q) Q bk52_10 ls st h := dh_wp_eq (dh_wpM_mono d) rfl
theorem u52_11 : dh_wp dh_sh (dh_wpM d) (dh_bl 52) Q 11 ls st h = dh_wpB dh_sh (dh_wpM d) (dh_wp dh_sh (dh_wpM d) (dh_bl 52) Q) Q bk52_11 ls st h := dh_wp_eq (dh_wpM_mono d) rfl
theorem u52_12 : dh_wp dh_sh (dh_wpM d) (dh_bl 52) Q 12 ls st h = dh_wpB dh_sh (dh_wpM d) (dh_wp dh_sh (dh_wpM d) (dh_bl 52) Q) Q bk52_12 ls st h := dh_wp_eq (dh_wpM_mono d) rfl
theorem u52_13 : dh_wp dh_sh (dh_wpM d) (dh_bl 52) Q 13 ls st h = dh_wpB dh_sh (dh_wpM d) (dh_wp dh_sh (dh_wpM d) (dh_bl 52) Q) Q bk52_13 ls st h := dh_wp_eq (dh_wpM_mono d) rfl
theorem u52_14 : dh_wp dh_sh (dh_wpM d) (dh_bl 52) Q 14 ls st h = dh_wpB dh_sh (dh_wpM d) (dh_wp dh_sh (dh_wpM d) (dh_bl 52) Q) Q bk52_14 ls st h := dh_wp_eq (dh_wpM_mono d) rfl
/-- DoubleHeap$Rules.run(IIII)I -/
theorem m52 {p0 : Nat} {x1 : Int} {x2 : Int} {x3 : Int} {x4 : Int} : dh_wpM (d + 1) 52 [.inr (.inr (some p0)), .inl x1, .inl x2, .inl x3, .inl x4] h Q = dh_wp dh_sh (dh_wpM d) (dh_bl 52) Q 0 [some (.inr (.inr (some p0))), some (.inl x1), some (.inl x2), some (.inl x3), some (.inl x4), none, none, none, none] [] h := dh_mq (Nat.le_of_ble_eq_true rfl) rfl
theorem u53_0 : dh_wp dh_sh (dh_wpM d) (dh_bl 53) Q 0 ls st h = dh_wpB dh_sh (dh_wpM d) (dh_wp dh_sh (dh_wpM d) (dh_bl 53) Q) Q bk53_0 ls st h := dh_wp_eq (dh_wpM_mono d) rfl
theorem u53_1 : dh_wp dh_sh (dh_wpM d) (dh_bl 53) Q 1 ls st h = dh_wpB dh_sh (dh_wpM d) (dh_wp dh_sh (dh_wpM d) (dh_bl 53) Q) Q bk53_1 ls st h := dh_wp_eq (dh_wpM_mono d) rfl
/-- DoubleHeap$Rules.push(I)V -/
theorem m53 {p0 : Nat} {x1 : Int} : dh_wpM (d + 1) 53 [.inr (.inr (some p0)), .inl x1] h Q = dh_wp dh_sh (dh_wpM d) (dh_bl 53) Q 0 [some (.inr (.inr (some p0))), some (.inl x1)] [] h := dh_mq (Nat.le_of_ble_eq_true rfl) rfl
theorem u54_0 : dh_wp dh_sh (dh_wpM d) (dh_bl 54) Q 0 ls st h = dh_wpB dh_sh (dh_wpM d) (dh_wp dh_sh (dh_wpM d) (dh_bl 54) Q) Q bk54_0 ls st h := dh_wp_eq (dh_wpM_mono d) rfl
theorem u54_1 : dh_wp dh_sh (dh_wpM d) (dh_bl 54) Q 1 ls st h = dh_wpB dh_sh (dh_wpM d) (dh_wp dh_sh (dh_wpM d) (dh_bl 54) Q) Q bk54_1 ls st h := dh_wp_eq (dh_wpM_mono d) rfl
theorem u54_2 : dh_wp dh_sh (dh_wpM d) (dh_bl 54) Q 2 ls st h = dh_wpB dh_sh (dh_wpM d) (dh_wp dh_sh (dh_wpM d) (dh_bl 54) Q) Q bk54_2 ls st h := dh_wp_eq (dh_wpM_mono d) rfl
/-- DoubleHeap$Rules.pop()I -/
theorem m54 {p0 : Nat} : dh_wpM (d + 1) 54 [.inr (.inr (some p0))] h Q = dh_wp dh_sh (dh_wpM d) (dh_bl 54) Q 0 [some (.inr (.inr (some p0)))] [] h := dh_mq (Nat.le_of_ble_eq_true rfl) rfl
theorem u55_0 : dh_wp dh_sh (dh_wpM d) (dh_bl 55) Q 0 ls st h = dh_wpB dh_sh (dh_wpM d) (dh_wp dh_sh (dh_wpM d) (dh_bl 55) Q) Q bk55_0 ls st h := dh_wp_eq (dh_wpM_mono d) rfl
theorem u55_1 : dh_wp dh_sh (dh_wpM d) (dh_bl 55) Q 1 ls st h = dh_wpB dh_sh (dh_wpM d) (dh_wp dh_sh (dh_wpM d) (dh_bl 55) Q) Q bk55_1 ls st h := dh_wp_eq (dh_wpM_mono d) rfl
theorem u55_2 : dh_wp dh_sh (dh_wpM d) (dh_bl 55) Q 2 ls st h = dh_wpB dh_sh (dh_wpM d) (dh_wp dh_sh (dh_wpM d) (dh_bl 55) Q) Q bk55_2 ls st h := dh_wp_eq (dh_wpM_mono d) rfl
theorem u55_3 : dh_wp dh_sh (dh_wpM d) (dh_bl 55) Q 3 ls st h = dh_wpB dh_sh (dh_wpM d) (dh_wp dh_sh (dh_wpM d) (dh_bl 55) Q) Q bk55_3 ls st h := dh_wp_eq (dh_wpM_mono d) rfl
theorem u55_4 : dh_wp dh_sh (dh_wpM d) (dh_bl 55) Q 4 ls st h = dh_wpB dh_sh (dh_wpM d) (dh_wp dh_sh (dh_wpM d) (dh_bl 55) Q) Q bk55_4 ls st h := dh_wp_eq (dh_wpM_mono d) rfl
theorem u55_5 : dh_wp dh_sh (dh_wpM d) (dh_bl 55) Q 5 ls st h = dh_wpB dh_sh (dh_wpM d) (dh_wp dh_sh (dh_wpM d) (dh_bl 55) Q) Q bk55_5 ls st h := dh_wp_eq (dh_wpM_mono d) rfl
theorem u55_6 : dh_wp dh_sh (dh_wpM d) (dh_bl 55) Q 6 ls st h = dh_wpB dh_sh (dh_wpM d) (dh_wp dh_sh (dh_wpM d) (dh_bl 55) Q) Q bk55_6 ls st h := dh_wp_eq (dh_wpM_mono d) rfl
theorem u55_7 : dh_wp dh_sh (dh_wpM d) (dh_bl 55) Q 7 ls st h = dh_wpB dh_sh (dh_wpM d) (dh_wp dh_sh (dh_wpM d) (dh_bl 55) Q) Q bk55_7 ls st h := dh_wp_eq (dh_wpM_mono d) rfl
theorem u55_8 : dh_wp dh_sh (dh_wpM d) (dh_bl 55) Q 8 ls st h = dh_wpB dh_sh (dh_wpM d) (dh_wp dh_sh (dh_wpM d) (dh_bl 55) Q) Q bk55_8 ls st h := dh_wp_eq (dh_wpM_mono d) rfl
theorem u55_9 : dh_wp dh_sh (dh_wpM d) (dh_bl 55) Q 9 ls st h = dh_wpB dh_sh (dh_wpM d) (dh_wp dh_sh (dh_wpM d) (dh_bl 55) Q) Q bk55_9 ls st h := dh_wp_eq (dh_wpM_mono d) rfl
theorem u55_10 : dh_wp dh_sh (dh_wpM d) (dh_bl 55) Q 10 ls st h = dh_wpB dh_sh (dh_wpM d) (dh_wp dh_sh (dh_wpM d) (dh_bl 55) Q) Q bk55_10 ls st h := dh_wp_eq (dh_wpM_mono d) rfl
theorem u55_11 : dh_wp dh_sh (dh_wpM d) (dh_bl 55) Q 11 ls st h = dh_wpB dh_sh (dh_wpM d) (dh_wp dh_sh (dh_wpM d) (dh_bl 55) Q) Q bk55_11 ls st h := dh_wp_eq (dh_wpM_mono d) rfl
theorem u55_12 : dh_wp dh_sh (dh_wpM d) (dh_bl 55) Q 12 ls st h = dh_wpB dh_sh (dh_wpM d) (dh_wp dh_sh (dh_wpM d) (dh_bl 55) Q) Q bk55_12 ls st h := dh_wp_eq (dh_wpM_mono d) rfl
theorem u55_13 : dh_wp dh_sh (dh_wpM d) (dh_bl 55) Q 13 ls st h = dh_wpB dh_sh (dh_wpM d) (dh_wp dh_sh (dh_wpM d) (dh_bl 55) Q) Q bk55_13 ls st h := dh_wp_eq (dh_wpM_mono d) rfl
theorem u55_14 : dh_wp dh_sh (dh_wpM d) (dh_bl 55) Q 14 ls st h = dh_wpB dh_sh (dh_wpM d) (dh_wp dh_sh (dh_wpM d) (dh_bl 55) Q) Q bk55_14 ls st h := dh_wp_eq (dh_wpM_mono d) rfl
theorem u55_15 : dh_wp dh_sh (dh_wpM d) (dh_bl 55) Q 15 ls st h = dh_wpB dh_sh (dh_wpM d) (dh_wp dh_sh (dh_wpM d) (dh_bl 55) Q) Q bk55_15 ls st h := dh_wp_eq (dh_wpM_mono d) rfl
theorem u55_16 : dh_wp dh_sh (dh_wpM d) (dh_bl 55) Q 16 ls st h = dh_wpB dh_sh (dh_wpM d) (dh_wp dh_sh (dh_wpM d) (dh_bl 55) Q) Q bk55_16 ls st h := dh_wp_eq (dh_wpM_mono d) rfl
/-- DoubleHeap$Rules.joined(III)I -/
theorem m55 {p0 : Nat} {x1 : Int} {x2 : Int} {x3 : Int} : dh_wpM (d + 1) 55 [.inr (.inr (some p0)), .inl x1, .inl x2, .inl x3] h Q = dh_wp dh_sh (dh_wpM d) (dh_bl 55) Q 0 [some (.inr (.inr (some p0))), some (.inl x1), some (.inl x2), some (.inl x3)] [] h := dh_mq (Nat.le_of_ble_eq_true rfl) rfl
theorem u56_0 : dh_wp dh_sh (dh_wpM d) (dh_bl 56) Q 0 ls st h = dh_wpB dh_sh (dh_wpM d) (dh_wp dh_sh (dh_wpM d) (dh_bl 56) Q) Q bk56_0 ls st h := dh_wp_eq (dh_wpM_mono d) rfl
/-- DoubleHeap$Stove.begin(II)V -/
theorem m56 {p0 : Nat} {x1 : Int} {x2 : Int} : dh_wpM (d + 1) 56 [.inr (.inr (some p0)), .inl x1, .inl x2] h Q = dh_wp dh_sh (dh_wpM d) (dh_bl 56) Q 0 [some (.inr (.inr (some p0))), some (.inl x1), some (.inl x2)] [] h := dh_mq (Nat.le_of_ble_eq_true rfl) rfl
theorem u57_0 : dh_wp dh_sh (dh_wpM d) (dh_bl 57) Q 0 ls st h = dh_wpB dh_sh (dh_wpM d) (dh_wp dh_sh (dh_wpM d) (dh_bl 57) Q) Q bk57_0 ls st h := dh_wp_eq (dh_wpM_mono d) rfl
theorem u57_1 : dh_wp dh_sh (dh_wpM d) (dh_bl 57) Q 1 ls st h = dh_wpB dh_sh (dh_wpM d) (dh_wp dh_sh (dh_wpM d) (dh_bl 57) Q) Q bk57_1 ls st h := dh_wp_eq (dh_wpM_mono d) rfl
/-- DoubleHeap$Stove.move(I)V -/
theorem m57 {p0 : Nat} {x1 : Int} : dh_wpM (d + 1) 57 [.inr (.inr (some p0)), .inl x1] h Q = dh_wp dh_sh (dh_wpM d) (dh_bl 57) Q 0 [some (.inr (.inr (some p0))), some (.inl x1)] [] h := dh_mq (Nat.le_of_ble_eq_true rfl) rfl
theorem u58_0 : dh_wp dh_sh (dh_wpM d) (dh_bl 58) Q 0 ls st h = dh_wpB dh_sh (dh_wpM d) (dh_wp dh_sh (dh_wpM d) (dh_bl 58) Q) Q bk58_0 ls st h := dh_wp_eq (dh_wpM_mono d) rfl
theorem u58_1 : dh_wp dh_sh (dh_wpM d) (dh_bl 58) Q 1 ls st h = dh_wpB dh_sh (dh_wpM d) (dh_wp dh_sh (dh_wpM d) (dh_bl 58) Q) Q bk58_1 ls st h := dh_wp_eq (dh_wpM_mono d) rfl
theorem u58_2 : dh_wp dh_sh (dh_wpM d) (dh_bl 58) Q 2 ls st h = dh_wpB dh_sh (dh_wpM d) (dh_wp dh_sh (dh_wpM d) (dh_bl 58) Q) Q bk58_2 ls st h := dh_wp_eq (dh_wpM_mono d) rfl
theorem u58_3 : dh_wp dh_sh (dh_wpM d) (dh_bl 58) Q 3 ls st h = dh_wpB dh_sh (dh_wpM d) (dh_wp dh_sh (dh_wpM d) (dh_bl 58) Q) Q bk58_3 ls st h := dh_wp_eq (dh_wpM_mono d) rfl
theorem u58_4 : dh_wp dh_sh (dh_wpM d) (dh_bl 58) Q 4 ls st h = dh_wpB dh_sh (dh_wpM d) (dh_wp dh_sh (dh_wpM d) (dh_bl 58) Q) Q bk58_4 ls st h := dh_wp_eq (dh_wpM_mono d) rfl
/-- DoubleHeap$Stove.giveBack()I -/
theorem m58 {p0 : Nat} : dh_wpM (d + 1) 58 [.inr (.inr (some p0))] h Q = dh_wp dh_sh (dh_wpM d) (dh_bl 58) Q 0 [some (.inr (.inr (some p0))), none] [] h := dh_mq (Nat.le_of_ble_eq_true rfl) rfl
theorem u59_0 : dh_wp dh_sh (dh_wpM d) (dh_bl 59) Q 0 ls st h = dh_wpB dh_sh (dh_wpM d) (dh_wp dh_sh (dh_wpM d) (dh_bl 59) Q) Q bk59_0 ls st h := dh_wp_eq (dh_wpM_mono d) rfl
/-- DoubleHeap$Stove.copy(LDoubleHeap$Stove;)V -/
theorem m59 {p0 : Nat} {x1 : Option Nat} : dh_wpM (d + 1) 59 [.inr (.inr (some p0)), .inr (.inr x1)] h Q = dh_wp dh_sh (dh_wpM d) (dh_bl 59) Q 0 [some (.inr (.inr (some p0))), some (.inr (.inr x1))] [] h := dh_mq (Nat.le_of_ble_eq_true rfl) rfl
theorem u60_0 : dh_wp dh_sh (dh_wpM d) (dh_bl 60) Q 0 ls st h = dh_wpB dh_sh (dh_wpM d) (dh_wp dh_sh (dh_wpM d) (dh_bl 60) Q) Q bk60_0 ls st h := dh_wp_eq (dh_wpM_mono d) rfl
/-- DoubleHeap$Tale.adopt(LDoubleHeap$Tale;)V -/
theorem m60 {p0 : Nat} {x1 : Option Nat} : dh_wpM (d + 1) 60 [.inr (.inr (some p0)), .inr (.inr x1)] h Q = dh_wp dh_sh (dh_wpM d) (dh_bl 60) Q 0 [some (.inr (.inr (some p0))), some (.inr (.inr x1))] [] h := dh_mq (Nat.le_of_ble_eq_true rfl) rfl
theorem u61_0 : dh_wp dh_sh (dh_wpM d) (dh_bl 61) Q 0 ls st h = dh_wpB dh_sh (dh_wpM d) (dh_wp dh_sh (dh_wpM d) (dh_bl 61) Q) Q bk61_0 ls st h := dh_wp_eq (dh_wpM_mono d) rfl
theorem u61_1 : dh_wp dh_sh (dh_wpM d) (dh_bl 61) Q 1 ls st h = dh_wpB dh_sh (dh_wpM d) (dh_wp dh_sh (dh_wpM d) (dh_bl 61) Q) Q bk61_1 ls st h := dh_wp_eq (dh_wpM_mono d) rfl
theorem u61_2 : dh_wp dh_sh (dh_wpM d) (dh_bl 61) Q 2 ls st h = dh_wpB dh_sh (dh_wpM d) (dh_wp dh_sh (dh_wpM d) (dh_bl 61) Q) Q bk61_2 ls st h := dh_wp_eq (dh_wpM_mono d) rfl
theorem u61_3 : dh_wp dh_sh (dh_wpM d) (dh_bl 61) Q 3 ls st h = dh_wpB dh_sh (dh_wpM d) (dh_wp dh_sh (dh_wpM d) (dh_bl 61) Q) Q bk61_3 ls st h := dh_wp_eq (dh_wpM_mono d) rfl
theorem u61_4 : dh_wp dh_sh (dh_wpM d) (dh_bl 61) Q 4 ls st h = dh_wpB dh_sh (dh_wpM d) (dh_wp dh_sh (dh_wpM d) (dh_bl 61) Q) Q bk61_4 ls st h := dh_wp_eq (dh_wpM_mono d) rfl
theorem u61_5 : dh_wp dh_sh (dh_wpM d) (dh_bl 61) Q 5 ls st h = dh_wpB dh_sh (dh_wpM d) (dh_wp dh_sh (dh_wpM d) (dh_bl 61) Q) Q bk61_5 ls st h := dh_wp_eq (dh_wpM_mono d) rfl
theorem u61_6 : dh_wp dh_sh (dh_wpM d) (dh_bl 61) Q 6 ls st h = dh_wpB dh_sh (dh_wpM d) (dh_wp dh_sh (dh_wpM d) (dh_bl 61) Q) Q bk61_6 ls st h := dh_wp_eq (dh_wpM_mono d) rfl
/-- DoubleHeap$Tale.read(LDoubleHeap$Tape;I)I -/
theorem m61 {p0 : Nat} {x1 : Option Nat} {x2 : Int} : dh_wpM (d + 1) 61 [.inr (.inr (some p0)), .inr (.inr x1), .inl x2] h Q = dh_wp dh_sh (dh_wpM d) (dh_bl 61) Q 0 [some (.inr (.inr (some p0))), some (.inr (.inr x1)), some (.inl x2), none] [] h := dh_mq (Nat.le_of_ble_eq_true rfl) rfl
theorem u62_0 : dh_wp dh_sh (dh_wpM d) (dh_bl 62) Q 0 ls st h = dh_wpB dh_sh (dh_wpM d) (dh_wp dh_sh (dh_wpM d) (dh_bl 62) Q) Q bk62_0 ls st h := dh_wp_eq (dh_wpM_mono d) rfl
theorem u62_1 : dh_wp dh_sh (dh_wpM d) (dh_bl 62) Q 1 ls st h = dh_wpB dh_sh (dh_wpM d) (dh_wp dh_sh (dh_wpM d) (dh_bl 62) Q) Q bk62_1 ls st h := dh_wp_eq (dh_wpM_mono d) rfl
theorem u62_2 : dh_wp dh_sh (dh_wpM d) (dh_bl 62) Q 2 ls st h = dh_wpB dh_sh (dh_wpM d) (dh_wp dh_sh (dh_wpM d) (dh_bl 62) Q) Q bk62_2 ls st h := dh_wp_eq (dh_wpM_mono d) rfl
theorem u62_3 : dh_wp dh_sh (dh_wpM d) (dh_bl 62) Q 3 ls st h = dh_wpB dh_sh (dh_wpM d) (dh_wp dh_sh (dh_wpM d) (dh_bl 62) Q) Q bk62_3 ls st h := dh_wp_eq (dh_wpM_mono d) rfl
theorem u62_4 : dh_wp dh_sh (dh_wpM d) (dh_bl 62) Q 4 ls st h = dh_wpB dh_sh (dh_wpM d) (dh_wp dh_sh (dh_wpM d) (dh_bl 62) Q) Q bk62_4 ls st h := dh_wp_eq (dh_wpM_mono d) rfl
theorem u62_5 : dh_wp dh_sh (dh_wpM d) (dh_bl 62) Q 5 ls st h = dh_wpB dh_sh (dh_wpM d) (dh_wp dh_sh (dh_wpM d) (dh_bl 62) Q) Q bk62_5 ls st h := dh_wp_eq (dh_wpM_mono d) rfl
theorem u62_6 : dh_wp dh_sh (dh_wpM d) (dh_bl 62) Q 6 ls st h = dh_wpB dh_sh (dh_wpM d) (dh_wp dh_sh (dh_wpM d) (dh_bl 62) Q) Q bk62_6 ls st h := dh_wp_eq (dh_wpM_mono d) rfl
theorem u62_7 : dh_wp dh_sh (dh_wpM d) (dh_bl 62) Q 7 ls st h = dh_wpB dh_sh (dh_wpM d) (dh_wp dh_sh (dh_wpM d) (dh_bl 62) Q) Q bk62_7 ls st h := dh_wp_eq (dh_wpM_mono d) rfl
theorem u62_8 : dh_wp dh_sh (dh_wpM d) (dh_bl 62) Q 8 ls st h = dh_wpB dh_sh (dh_wpM d) (dh_wp dh_sh (dh_wpM d) (dh_bl 62) Q) Q bk62_8 ls st h := dh_wp_eq (dh_wpM_mono d) rfl
/-- DoubleHeap$Tale.readTakes(LDoubleHeap$Tape;II)I -/
theorem m62 {p0 : Nat} {x1 : Option Nat} {x2 : Int} {x3 : Int} : dh_wpM (d + 1) 62 [.inr (.inr (some p0)), .inr (.inr x1), .inl x2, .inl x3] h Q = dh_wp dh_sh (dh_wpM d) (dh_bl 62) Q 0 [some (.inr (.inr (some p0))), some (.inr (.inr x1)), some (.inl x2), some (.inl x3), none, none, none, none, none] [] h := dh_mq (Nat.le_of_ble_eq_true rfl) rfl
theorem u63_0 : dh_wp dh_sh (dh_wpM d) (dh_bl 63) Q 0 ls st h = dh_wpB dh_sh (dh_wpM d) (dh_wp dh_sh (dh_wpM d) (dh_bl 63) Q) Q bk63_0 ls st h := dh_wp_eq (dh_wpM_mono d) rfl
theorem u63_1 : dh_wp dh_sh (dh_wpM d) (dh_bl 63) Q 1 ls st h = dh_wpB dh_sh (dh_wpM d) (dh_wp dh_sh (dh_wpM d) (dh_bl 63) Q) Q bk63_1 ls st h := dh_wp_eq (dh_wpM_mono d) rfl
theorem u63_2 : dh_wp dh_sh (dh_wpM d) (dh_bl 63) Q 2 ls st h = dh_wpB dh_sh (dh_wpM d) (dh_wp dh_sh (dh_wpM d) (dh_bl 63) Q) Q bk63_2 ls st h := dh_wp_eq (dh_wpM_mono d) rfl
/-- DoubleHeap$Tale.digitsEnd(LDoubleHeap$Tape;II)I -/
theorem m63 {x1 : Option Nat} {x2 : Int} {x3 : Int} : dh_wpM (d + 1) 63 [.inr (.inr x1), .inl x2, .inl x3] h Q = dh_wp dh_sh (dh_wpM d) (dh_bl 63) Q 0 [some (.inr (.inr x1)), some (.inl x2), some (.inl x3), none, none] [] h := dh_mq (Nat.le_of_ble_eq_true rfl) rfl
theorem u64_0 : dh_wp dh_sh (dh_wpM d) (dh_bl 64) Q 0 ls st h = dh_wpB dh_sh (dh_wpM d) (dh_wp dh_sh (dh_wpM d) (dh_bl 64) Q) Q bk64_0 ls st h := dh_wp_eq (dh_wpM_mono d) rfl
theorem u64_1 : dh_wp dh_sh (dh_wpM d) (dh_bl 64) Q 1 ls st h = dh_wpB dh_sh (dh_wpM d) (dh_wp dh_sh (dh_wpM d) (dh_bl 64) Q) Q bk64_1 ls st h := dh_wp_eq (dh_wpM_mono d) rfl
theorem u64_2 : dh_wp dh_sh (dh_wpM d) (dh_bl 64) Q 2 ls st h = dh_wpB dh_sh (dh_wpM d) (dh_wp dh_sh (dh_wpM d) (dh_bl 64) Q) Q bk64_2 ls st h := dh_wp_eq (dh_wpM_mono d) rfl
/-- DoubleHeap$Tale.number(LDoubleHeap$Tape;II)I -/
theorem m64 {x1 : Option Nat} {x2 : Int} {x3 : Int} : dh_wpM (d + 1) 64 [.inr (.inr x1), .inl x2, .inl x3] h Q = dh_wp dh_sh (dh_wpM d) (dh_bl 64) Q 0 [some (.inr (.inr x1)), some (.inl x2), some (.inl x3), none, none] [] h := dh_mq (Nat.le_of_ble_eq_true rfl) rfl
theorem u65_0 : dh_wp dh_sh (dh_wpM d) (dh_bl 65) Q 0 ls st h = dh_wpB dh_sh (dh_wpM d) (dh_wp dh_sh (dh_wpM d) (dh_bl 65) Q) Q bk65_0 ls st h := dh_wp_eq (dh_wpM_mono d) rfl
theorem u65_1 : dh_wp dh_sh (dh_wpM d) (dh_bl 65) Q 1 ls st h = dh_wpB dh_sh (dh_wpM d) (dh_wp dh_sh (dh_wpM d) (dh_bl 65) Q) Q bk65_1 ls st h := dh_wp_eq (dh_wpM_mono d) rfl
theorem u65_2 : dh_wp dh_sh (dh_wpM d) (dh_bl 65) Q 2 ls st h = dh_wpB dh_sh (dh_wpM d) (dh_wp dh_sh (dh_wpM d) (dh_bl 65) Q) Q bk65_2 ls st h := dh_wp_eq (dh_wpM_mono d) rfl
/-- DoubleHeap$Tale.takeAt(I)I -/
theorem m65 {p0 : Nat} {x1 : Int} : dh_wpM (d + 1) 65 [.inr (.inr (some p0)), .inl x1] h Q = dh_wp dh_sh (dh_wpM d) (dh_bl 65) Q 0 [some (.inr (.inr (some p0))), some (.inl x1)] [] h := dh_mq (Nat.le_of_ble_eq_true rfl) rfl
theorem u66_0 : dh_wp dh_sh (dh_wpM d) (dh_bl 66) Q 0 ls st h = dh_wpB dh_sh (dh_wpM d) (dh_wp dh_sh (dh_wpM d) (dh_bl 66) Q) Q bk66_0 ls st h := dh_wp_eq (dh_wpM_mono d) rfl
theorem u66_1 : dh_wp dh_sh (dh_wpM d) (dh_bl 66) Q 1 ls st h = dh_wpB dh_sh (dh_wpM d) (dh_wp dh_sh (dh_wpM d) (dh_bl 66) Q) Q bk66_1 ls st h := dh_wp_eq (dh_wpM_mono d) rfl
theorem u66_2 : dh_wp dh_sh (dh_wpM d) (dh_bl 66) Q 2 ls st h = dh_wpB dh_sh (dh_wpM d) (dh_wp dh_sh (dh_wpM d) (dh_bl 66) Q) Q bk66_2 ls st h := dh_wp_eq (dh_wpM_mono d) rfl
/-- DoubleHeap$Tale.heapAt(I)I -/
theorem m66 {p0 : Nat} {x1 : Int} : dh_wpM (d + 1) 66 [.inr (.inr (some p0)), .inl x1] h Q = dh_wp dh_sh (dh_wpM d) (dh_bl 66) Q 0 [some (.inr (.inr (some p0))), some (.inl x1)] [] h := dh_mq (Nat.le_of_ble_eq_true rfl) rfl
theorem u67_0 : dh_wp dh_sh (dh_wpM d) (dh_bl 67) Q 0 ls st h = dh_wpB dh_sh (dh_wpM d) (dh_wp dh_sh (dh_wpM d) (dh_bl 67) Q) Q bk67_0 ls st h := dh_wp_eq (dh_wpM_mono d) rfl
/-- DoubleHeap$Tale.lastAt(I)I -/
theorem m67 {p0 : Nat} {x1 : Int} : dh_wpM (d + 1) 67 [.inr (.inr (some p0)), .inl x1] h Q = dh_wp dh_sh (dh_wpM d) (dh_bl 67) Q 0 [some (.inr (.inr (some p0))), some (.inl x1)] [] h := dh_mq (Nat.le_of_ble_eq_true rfl) rfl
theorem u68_0 : dh_wp dh_sh (dh_wpM d) (dh_bl 68) Q 0 ls st h = dh_wpB dh_sh (dh_wpM d) (dh_wp dh_sh (dh_wpM d) (dh_bl 68) Q) Q bk68_0 ls st h := dh_wp_eq (dh_wpM_mono d) rfl
theorem u68_1 : dh_wp dh_sh (dh_wpM d) (dh_bl 68) Q 1 ls st h = dh_wpB dh_sh (dh_wpM d) (dh_wp dh_sh (dh_wpM d) (dh_bl 68) Q) Q bk68_1 ls st h := dh_wp_eq (dh_wpM_mono d) rfl
theorem u68_2 : dh_wp dh_sh (dh_wpM d) (dh_bl 68) Q 2 ls st h = dh_wpB dh_sh (dh_wpM d) (dh_wp dh_sh (dh_wpM d) (dh_bl 68) Q) Q bk68_2 ls st h := dh_wp_eq (dh_wpM_mono d) rfl
theorem u68_3 : dh_wp dh_sh (dh_wpM d) (dh_bl 68) Q 3 ls st h = dh_wpB dh_sh (dh_wpM d) (dh_wp dh_sh (dh_wpM d) (dh_bl 68) Q) Q bk68_3 ls st h := dh_wp_eq (dh_wpM_mono d) rfl
theorem u68_4 : dh_wp dh_sh (dh_wpM d) (dh_bl 68) Q 4 ls st h = dh_wpB dh_sh (dh_wpM d) (dh_wp dh_sh (dh_wpM d) (dh_bl 68) Q) Q bk68_4 ls st h := dh_wp_eq (dh_wpM_mono d) rfl
theorem u68_5 : dh_wp dh_sh (dh_wpM d) (dh_bl 68) Q 5 ls st h = dh_wpB dh_sh (dh_wpM d) (dh_wp dh_sh (dh_wpM d) (dh_bl 68) Q) Q bk68_5 ls st h := dh_wp_eq (dh_wpM_mono d) rfl
theorem u68_6 : dh_wp dh_sh (dh_wpM d) (dh_bl 68) Q 6 ls st h = dh_wpB dh_sh (dh_wpM d) (dh_wp dh_sh (dh_wpM d) (dh_bl 68) Q) Q bk68_6 ls st h := dh_wp_eq (dh_wpM_mono d) rfl
theorem u68_7 : dh_wp dh_sh (dh_wpM d) (dh_bl 68) Q 7 ls st h = dh_wpB dh_sh (dh_wpM d) (dh_wp dh_sh (dh_wpM d) (dh_bl 68) Q) Q bk68_7 ls st h := dh_wp_eq (dh_wpM_mono d) rfl
theorem u68_8 : dh_wp dh_sh (dh_wpM d) (dh_bl 68) Q 8 ls st h = dh_wpB dh_sh (dh_wpM d) (dh_wp dh_sh (dh_wpM d) (dh_bl 68) Q) Q bk68_8 ls st h := dh_wp_eq (dh_wpM_mono d) rfl
theorem u68_9 : dh_wp dh_sh (dh_wpM d) (dh_bl 68) Q 9 ls st h = dh_wpB dh_sh (dh_wpM d) (dh_wp dh_sh (dh_wpM d) (dh_bl 68) Q) Q bk68_9 ls st h := dh_wp_eq (dh_wpM_mono d) rfl
theorem u68_10 : dh_wp dh_sh (dh_wpM d) (dh_bl 68) Q 10 ls st h = dh_wpB dh_sh (dh_wpM d) (dh_wp dh_sh (dh_wpM d) (dh_bl 68) Q) Q bk68_10 ls st h := dh_wp_eq (dh_wpM_mono d) rfl
theorem u68_11 : dh_wp dh_sh (dh_wpM d) (dh_bl 68) Q 11 ls st h = dh_wpB dh_sh (dh_wpM d) (dh_wp dh_sh (dh_wpM d) (dh_bl 68) Q) Q bk68_11 ls st h := dh_wp_eq (dh_wpM_mono d) rfl
theorem u68_12 : dh_wp dh_sh (dh_wpM d) (dh_bl 68) Q 12 ls st h = dh_wpB dh_sh (dh_wpM d) (dh_wp dh_sh (dh_wpM d) (dh_bl 68) Q) Q bk68_12 ls st h := dh_wp_eq (dh_wpM_mono d) rfl
theorem u68_13 : dh_wp dh_sh (dh_wpM d) (dh_bl 68) Q 13 ls st h = dh_wpB dh_sh (dh_wpM d) (dh_wp dh_sh (dh_wpM d) (dh_bl 68) Q) Q bk68_13 ls st h := dh_wp_eq (dh_wpM_mono d) rfl
theorem u68_14 : dh_wp dh_sh (dh_wpM d) (dh_bl 68) Q 14 ls st h = dh_wpB dh_sh (dh_wpM d) (dh_wp dh_sh (dh_wpM d) (dh_bl 68) Q) Q bk68_14 ls st h := dh_wp_eq (dh_wpM_mono d) rfl
/-- DoubleHeap$Tale.tally(LDoubleHeap$Law;II)I -/
theorem m68 {p0 : Nat} {x1 : Option Nat} {x2 : Int} {x3 : Int} : dh_wpM (d + 1) 68 [.inr (.inr (some p0)), .inr (.inr x1), .inl x2, .inl x3] h Q = dh_wp dh_sh (dh_wpM d) (dh_bl 68) Q 0 [some (.inr (.inr (some p0))), some (.inr (.inr x1)), some (.inl x2), some (.inl x3), none, none, none, none, none] [] h := dh_mq (Nat.le_of_ble_eq_true rfl) rfl
theorem u69_0 : dh_wp dh_sh (dh_wpM d) (dh_bl 69) Q 0 ls st h = dh_wpB dh_sh (dh_wpM d) (dh_wp dh_sh (dh_wpM d) (dh_bl 69) Q) Q bk69_0 ls st h := dh_wp_eq (dh_wpM_mono d) rfl
theorem u69_1 : dh_wp dh_sh (dh_wpM d) (dh_bl 69) Q 1 ls st h = dh_wpB dh_sh (dh_wpM d) (dh_wp dh_sh (dh_wpM d) (dh_bl 69) Q) Q bk69_1 ls st h := dh_wp_eq (dh_wpM_mono d) rfl
theorem u69_2 : dh_wp dh_sh (dh_wpM d) (dh_bl 69) Q 2 ls st h = dh_wpB dh_sh (dh_wpM d) (dh_wp dh_sh (dh_wpM d) (dh_bl 69) Q) Q bk69_2 ls st h := dh_wp_eq (dh_wpM_mono d) rfl
theorem u69_3 : dh_wp dh_sh (dh_wpM d) (dh_bl 69) Q 3 ls st h = dh_wpB dh_sh (dh_wpM d) (dh_wp dh_sh (dh_wpM d) (dh_bl 69) Q) Q bk69_3 ls st h := dh_wp_eq (dh_wpM_mono d) rfl
theorem u69_4 : dh_wp dh_sh (dh_wpM d) (dh_bl 69) Q 4 ls st h = dh_wpB dh_sh (dh_wpM d) (dh_wp dh_sh (dh_wpM d) (dh_bl 69) Q) Q bk69_4 ls st h := dh_wp_eq (dh_wpM_mono d) rfl
theorem u69_5 : dh_wp dh_sh (dh_wpM d) (dh_bl 69) Q 5 ls st h = dh_wpB dh_sh (dh_wpM d) (dh_wp dh_sh (dh_wpM d) (dh_bl 69) Q) Q bk69_5 ls st h := dh_wp_eq (dh_wpM_mono d) rfl
/-- DoubleHeap$Tale.goodAtTheEnd(LDoubleHeap$Law;II)I -/
theorem m69 {p0 : Nat} {x1 : Option Nat} {x2 : Int} {x3 : Int} : dh_wpM (d + 1) 69 [.inr (.inr (some p0)), .inr (.inr x1), .inl x2, .inl x3] h Q = dh_wp dh_sh (dh_wpM d) (dh_bl 69) Q 0 [some (.inr (.inr (some p0))), some (.inr (.inr x1)), some (.inl x2), some (.inl x3), none, none, none, none] [] h := dh_mq (Nat.le_of_ble_eq_true rfl) rfl
theorem u70_0 : dh_wp dh_sh (dh_wpM d) (dh_bl 70) Q 0 ls st h = dh_wpB dh_sh (dh_wpM d) (dh_wp dh_sh (dh_wpM d) (dh_bl 70) Q) Q bk70_0 ls st h := dh_wp_eq (dh_wpM_mono d) rfl
theorem u70_1 : dh_wp dh_sh (dh_wpM d) (dh_bl 70) Q 1 ls st h = dh_wpB dh_sh (dh_wpM d) (dh_wp dh_sh (dh_wpM d) (dh_bl 70) Q) Q bk70_1 ls st h := dh_wp_eq (dh_wpM_mono d) rfl
theorem u70_2 : dh_wp dh_sh (dh_wpM d) (dh_bl 70) Q 2 ls st h = dh_wpB dh_sh (dh_wpM d) (dh_wp dh_sh (dh_wpM d) (dh_bl 70) Q) Q bk70_2 ls st h := dh_wp_eq (dh_wpM_mono d) rfl
/-- DoubleHeap$Tape.hasRoom()Z -/
theorem m70 {p0 : Nat} : dh_wpM (d + 1) 70 [.inr (.inr (some p0))] h Q = dh_wp dh_sh (dh_wpM d) (dh_bl 70) Q 0 [some (.inr (.inr (some p0)))] [] h := dh_mq (Nat.le_of_ble_eq_true rfl) rfl
theorem u71_0 : dh_wp dh_sh (dh_wpM d) (dh_bl 71) Q 0 ls st h = dh_wpB dh_sh (dh_wpM d) (dh_wp dh_sh (dh_wpM d) (dh_bl 71) Q) Q bk71_0 ls st h := dh_wp_eq (dh_wpM_mono d) rfl
theorem u71_1 : dh_wp dh_sh (dh_wpM d) (dh_bl 71) Q 1 ls st h = dh_wpB dh_sh (dh_wpM d) (dh_wp dh_sh (dh_wpM d) (dh_bl 71) Q) Q bk71_1 ls st h := dh_wp_eq (dh_wpM_mono d) rfl
theorem u71_2 : dh_wp dh_sh (dh_wpM d) (dh_bl 71) Q 2 ls st h = dh_wpB dh_sh (dh_wpM d) (dh_wp dh_sh (dh_wpM d) (dh_bl 71) Q) Q bk71_2 ls st h := dh_wp_eq (dh_wpM_mono d) rfl
/-- DoubleHeap$Tape.append(I)V -/
theorem m71 {p0 : Nat} {x1 : Int} : dh_wpM (d + 1) 71 [.inr (.inr (some p0)), .inl x1] h Q = dh_wp dh_sh (dh_wpM d) (dh_bl 71) Q 0 [some (.inr (.inr (some p0))), some (.inl x1), none] [] h := dh_mq (Nat.le_of_ble_eq_true rfl) rfl
theorem u72_0 : dh_wp dh_sh (dh_wpM d) (dh_bl 72) Q 0 ls st h = dh_wpB dh_sh (dh_wpM d) (dh_wp dh_sh (dh_wpM d) (dh_bl 72) Q) Q bk72_0 ls st h := dh_wp_eq (dh_wpM_mono d) rfl
theorem u72_1 : dh_wp dh_sh (dh_wpM d) (dh_bl 72) Q 1 ls st h = dh_wpB dh_sh (dh_wpM d) (dh_wp dh_sh (dh_wpM d) (dh_bl 72) Q) Q bk72_1 ls st h := dh_wp_eq (dh_wpM_mono d) rfl
theorem u72_2 : dh_wp dh_sh (dh_wpM d) (dh_bl 72) Q 2 ls st h = dh_wpB dh_sh (dh_wpM d) (dh_wp dh_sh (dh_wpM d) (dh_bl 72) Q) Q bk72_2 ls st h := dh_wp_eq (dh_wpM_mono d) rfl
/-- DoubleHeap$Tape.at(I)I -/
theorem m72 {p0 : Nat} {x1 : Int} : dh_wpM (d + 1) 72 [.inr (.inr (some p0)), .inl x1] h Q = dh_wp dh_sh (dh_wpM d) (dh_bl 72) Q 0 [some (.inr (.inr (some p0))), some (.inl x1)] [] h := dh_mq (Nat.le_of_ble_eq_true rfl) rfl
theorem u73_0 : dh_wp dh_sh (dh_wpM d) (dh_bl 73) Q 0 ls st h = dh_wpB dh_sh (dh_wpM d) (dh_wp dh_sh (dh_wpM d) (dh_bl 73) Q) Q bk73_0 ls st h := dh_wp_eq (dh_wpM_mono d) rfl
/-- DoubleHeap$Tape.clear()V -/
theorem m73 {p0 : Nat} : dh_wpM (d + 1) 73 [.inr (.inr (some p0))] h Q = dh_wp dh_sh (dh_wpM d) (dh_bl 73) Q 0 [some (.inr (.inr (some p0)))] [] h := dh_mq (Nat.le_of_ble_eq_true rfl) rfl
theorem u74_0 : dh_wp dh_sh (dh_wpM d) (dh_bl 74) Q 0 ls st h = dh_wpB dh_sh (dh_wpM d) (dh_wp dh_sh (dh_wpM d) (dh_bl 74) Q) Q bk74_0 ls st h := dh_wp_eq (dh_wpM_mono d) rfl
theorem u74_1 : dh_wp dh_sh (dh_wpM d) (dh_bl 74) Q 1 ls st h = dh_wpB dh_sh (dh_wpM d) (dh_wp dh_sh (dh_wpM d) (dh_bl 74) Q) Q bk74_1 ls st h := dh_wp_eq (dh_wpM_mono d) rfl
theorem u74_2 : dh_wp dh_sh (dh_wpM d) (dh_bl 74) Q 2 ls st h = dh_wpB dh_sh (dh_wpM d) (dh_wp dh_sh (dh_wpM d) (dh_bl 74) Q) Q bk74_2 ls st h := dh_wp_eq (dh_wpM_mono d) rfl
theorem u74_3 : dh_wp dh_sh (dh_wpM d) (dh_bl 74) Q 3 ls st h = dh_wpB dh_sh (dh_wpM d) (dh_wp dh_sh (dh_wpM d) (dh_bl 74) Q) Q bk74_3 ls st h := dh_wp_eq (dh_wpM_mono d) rfl
theorem u74_4 : dh_wp dh_sh (dh_wpM d) (dh_bl 74) Q 4 ls st h = dh_wpB dh_sh (dh_wpM d) (dh_wp dh_sh (dh_wpM d) (dh_bl 74) Q) Q bk74_4 ls st h := dh_wp_eq (dh_wpM_mono d) rfl
theorem u74_5 : dh_wp dh_sh (dh_wpM d) (dh_bl 74) Q 5 ls st h = dh_wpB dh_sh (dh_wpM d) (dh_wp dh_sh (dh_wpM d) (dh_bl 74) Q) Q bk74_5 ls st h := dh_wp_eq (dh_wpM_mono d) rfl
/-- DoubleHeap$Walks.measure(LDoubleHeap$Law;III)I -/
theorem m74 {p0 : Nat} {x1 : Option Nat} {x2 : Int} {x3 : Int} {x4 : Int} : dh_wpM (d + 1) 74 [.inr (.inr (some p0)), .inr (.inr x1), .inl x2, .inl x3, .inl x4] h Q = dh_wp dh_sh (dh_wpM d) (dh_bl 74) Q 0 [some (.inr (.inr (some p0))), some (.inr (.inr x1)), some (.inl x2), some (.inl x3), some (.inl x4), none, none] [] h := dh_mq (Nat.le_of_ble_eq_true rfl) rfl
theorem u75_0 : dh_wp dh_sh (dh_wpM d) (dh_bl 75) Q 0 ls st h = dh_wpB dh_sh (dh_wpM d) (dh_wp dh_sh (dh_wpM d) (dh_bl 75) Q) Q bk75_0 ls st h := dh_wp_eq (dh_wpM_mono d) rfl
theorem u75_1 : dh_wp dh_sh (dh_wpM d) (dh_bl 75) Q 1 ls st h = dh_wpB dh_sh (dh_wpM d) (dh_wp dh_sh (dh_wpM d) (dh_bl 75) Q) Q bk75_1 ls st h := dh_wp_eq (dh_wpM_mono d) rfl
theorem u75_2 : dh_wp dh_sh (dh_wpM d) (dh_bl 75) Q 2 ls st h = dh_wpB dh_sh (dh_wpM d) (dh_wp dh_sh (dh_wpM d) (dh_bl 75) Q) Q bk75_2 ls st h := dh_wp_eq (dh_wpM_mono d) rfl
theorem u75_3 : dh_wp dh_sh (dh_wpM d) (dh_bl 75) Q 3 ls st h = dh_wpB dh_sh (dh_wpM d) (dh_wp dh_sh (dh_wpM d) (dh_bl 75) Q) Q bk75_3 ls st h := dh_wp_eq (dh_wpM_mono d) rfl
theorem u75_4 : dh_wp dh_sh (dh_wpM d) (dh_bl 75) Q 4 ls st h = dh_wpB dh_sh (dh_wpM d) (dh_wp dh_sh (dh_wpM d) (dh_bl 75) Q) Q bk75_4 ls st h := dh_wp_eq (dh_wpM_mono d) rfl
theorem u75_5 : dh_wp dh_sh (dh_wpM d) (dh_bl 75) Q 5 ls st h = dh_wpB dh_sh (dh_wpM d) (dh_wp dh_sh (dh_wpM d) (dh_bl 75) Q) Q bk75_5 ls st h := dh_wp_eq (dh_wpM_mono d) rfl
theorem u75_6 : dh_wp dh_sh (dh_wpM d) (dh_bl 75) Q 6 ls st h = dh_wpB dh_sh (dh_wpM d) (dh_wp dh_sh (dh_wpM d) (dh_bl 75) Q) Q bk75_6 ls st h := dh_wp_eq (dh_wpM_mono d) rfl
theorem u75_7 : dh_wp dh_sh (dh_wpM d) (dh_bl 75) Q 7 ls st h = dh_wpB dh_sh (dh_wpM d) (dh_wp dh_sh (dh_wpM d) (dh_bl 75) Q) Q bk75_7 ls st h := dh_wp_eq (dh_wpM_mono d) rfl
theorem u75_8 : dh_wp dh_sh (dh_wpM d) (dh_bl 75) Q 8 ls st h = dh_wpB dh_sh (dh_wpM d) (dh_wp dh_sh (dh_wpM d) (dh_bl 75) Q) Q bk75_8 ls st h := dh_wp_eq (dh_wpM_mono d) rfl
theorem u75_9 : dh_wp dh_sh (dh_wpM d) (dh_bl 75) Q 9 ls st h = dh_wpB dh_sh (dh_wpM d) (dh_wp dh_sh (dh_wpM d) (dh_bl 75) Q) Q bk75_9 ls st h := dh_wp_eq (dh_wpM_mono d) rfl
theorem u75_10 : dh_wp dh_sh (dh_wpM d) (dh_bl 75) Q 10 ls st h = dh_wpB dh_sh (dh_wpM d) (dh_wp dh_sh (dh_wpM d) (dh_bl 75) Q) Q bk75_10 ls st h := dh_wp_eq (dh_wpM_mono d) rfl
theorem u75_11 : dh_wp dh_sh (dh_wpM d) (dh_bl 75) Q 11 ls st h = dh_wpB dh_sh (dh_wpM d) (dh_wp dh_sh (dh_wpM d) (dh_bl 75) Q) Q bk75_11 ls st h := dh_wp_eq (dh_wpM_mono d) rfl
theorem u75_12 : dh_wp dh_sh (dh_wpM d) (dh_bl 75) Q 12 ls st h = dh_wpB dh_sh (dh_wpM d) (dh_wp dh_sh (dh_wpM d) (dh_bl 75) Q) Q bk75_12 ls st h := dh_wp_eq (dh_wpM_mono d) rfl
/-- DoubleHeap$Walks.measured(LDoubleHeap$Law;III)I -/
theorem m75 {p0 : Nat} {x1 : Option Nat} {x2 : Int} {x3 : Int} {x4 : Int} : dh_wpM (d + 1) 75 [.inr (.inr (some p0)), .inr (.inr x1), .inl x2, .inl x3, .inl x4] h Q = dh_wp dh_sh (dh_wpM d) (dh_bl 75) Q 0 [some (.inr (.inr (some p0))), some (.inr (.inr x1)), some (.inl x2), some (.inl x3), some (.inl x4), none, none, none, none, none, none, none, none] [] h := dh_mq (Nat.le_of_ble_eq_true rfl) rfl
theorem u76_0 : dh_wp dh_sh (dh_wpM d) (dh_bl 76) Q 0 ls st h = dh_wpB dh_sh (dh_wpM d) (dh_wp dh_sh (dh_wpM d) (dh_bl 76) Q) Q bk76_0 ls st h := dh_wp_eq (dh_wpM_mono d) rfl
theorem u76_1 : dh_wp dh_sh (dh_wpM d) (dh_bl 76) Q 1 ls st h = dh_wpB dh_sh (dh_wpM d) (dh_wp dh_sh (dh_wpM d) (dh_bl 76) Q) Q bk76_1 ls st h := dh_wp_eq (dh_wpM_mono d) rfl
theorem u76_2 : dh_wp dh_sh (dh_wpM d) (dh_bl 76) Q 2 ls st h = dh_wpB dh_sh (dh_wpM d) (dh_wp dh_sh (dh_wpM d) (dh_bl 76) Q) Q bk76_2 ls st h := dh_wp_eq (dh_wpM_mono d) rfl
/-- DoubleHeap$Walks.takeOfRow(LDoubleHeap$Law;IIII)I -/
theorem m76 {p0 : Nat} {x1 : Option Nat} {x2 : Int} {x3 : Int} {x4 : Int} {x5 : Int} : dh_wpM (d + 1) 76 [.inr (.inr (some p0)), .inr (.inr x1), .inl x2, .inl x3, .inl x4, .inl x5] h Q = dh_wp dh_sh (dh_wpM d) (dh_bl 76) Q 0 [some (.inr (.inr (some p0))), some (.inr (.inr x1)), some (.inl x2), some (.inl x3), some (.inl x4), some (.inl x5), none, none, none, none] [] h := dh_mq (Nat.le_of_ble_eq_true rfl) rfl
theorem u77_0 : dh_wp dh_sh (dh_wpM d) (dh_bl 77) Q 0 ls st h = dh_wpB dh_sh (dh_wpM d) (dh_wp dh_sh (dh_wpM d) (dh_bl 77) Q) Q bk77_0 ls st h := dh_wp_eq (dh_wpM_mono d) rfl
theorem u77_1 : dh_wp dh_sh (dh_wpM d) (dh_bl 77) Q 1 ls st h = dh_wpB dh_sh (dh_wpM d) (dh_wp dh_sh (dh_wpM d) (dh_bl 77) Q) Q bk77_1 ls st h := dh_wp_eq (dh_wpM_mono d) rfl
theorem u77_2 : dh_wp dh_sh (dh_wpM d) (dh_bl 77) Q 2 ls st h = dh_wpB dh_sh (dh_wpM d) (dh_wp dh_sh (dh_wpM d) (dh_bl 77) Q) Q bk77_2 ls st h := dh_wp_eq (dh_wpM_mono d) rfl
theorem u77_3 : dh_wp dh_sh (dh_wpM d) (dh_bl 77) Q 3 ls st h = dh_wpB dh_sh (dh_wpM d) (dh_wp dh_sh (dh_wpM d) (dh_bl 77) Q) Q bk77_3 ls st h := dh_wp_eq (dh_wpM_mono d) rfl
theorem u77_4 : dh_wp dh_sh (dh_wpM d) (dh_bl 77) Q 4 ls st h = dh_wpB dh_sh (dh_wpM d) (dh_wp dh_sh (dh_wpM d) (dh_bl 77) Q) Q bk77_4 ls st h := dh_wp_eq (dh_wpM_mono d) rfl
theorem u77_5 : dh_wp dh_sh (dh_wpM d) (dh_bl 77) Q 5 ls st h = dh_wpB dh_sh (dh_wpM d) (dh_wp dh_sh (dh_wpM d) (dh_bl 77) Q) Q bk77_5 ls st h := dh_wp_eq (dh_wpM_mono d) rfl
theorem u77_6 : dh_wp dh_sh (dh_wpM d) (dh_bl 77) Q 6 ls st h = dh_wpB dh_sh (dh_wpM d) (dh_wp dh_sh (dh_wpM d) (dh_bl 77) Q) Q bk77_6 ls st h := dh_wp_eq (dh_wpM_mono d) rfl
/-- DoubleHeap$Walks.nextOfRow(JIII)I -/
theorem m77 {p0 : Nat} {x1 : BitVec 64} {x2 : Int} {x3 : Int} {x4 : Int} : dh_wpM (d + 1) 77 [.inr (.inr (some p0)), .inr (.inl x1), .inl x2, .inl x3, .inl x4] h Q = dh_wp dh_sh (dh_wpM d) (dh_bl 77) Q 0 [some (.inr (.inr (some p0))), some (.inr (.inl x1)), none, some (.inl x2), some (.inl x3), some (.inl x4), none, none, none] [] h := dh_mq (Nat.le_of_ble_eq_true rfl) rfl
theorem u78_0 : dh_wp dh_sh (dh_wpM d) (dh_bl 78) Q 0 ls st h = dh_wpB dh_sh (dh_wpM d) (dh_wp dh_sh (dh_wpM d) (dh_bl 78) Q) Q bk78_0 ls st h := dh_wp_eq (dh_wpM_mono d) rfl
/-- DoubleHeap$Walks.rows(LDoubleHeap$Law;II)J -/
theorem m78 {p0 : Nat} {x1 : Option Nat} {x2 : Int} {x3 : Int} : dh_wpM (d + 1) 78 [.inr (.inr (some p0)), .inr (.inr x1), .inl x2, .inl x3] h Q = dh_wp dh_sh (dh_wpM d) (dh_bl 78) Q 0 [some (.inr (.inr (some p0))), some (.inr (.inr x1)), some (.inl x2), some (.inl x3), none] [] h := dh_mq (Nat.le_of_ble_eq_true rfl) rfl
theorem u79_0 : dh_wp dh_sh (dh_wpM d) (dh_bl 79) Q 0 ls st h = dh_wpB dh_sh (dh_wpM d) (dh_wp dh_sh (dh_wpM d) (dh_bl 79) Q) Q bk79_0 ls st h := dh_wp_eq (dh_wpM_mono d) rfl
/-- DoubleHeap$Walks.wonRows(LDoubleHeap$Law;II)J -/
theorem m79 {p0 : Nat} {x1 : Option Nat} {x2 : Int} {x3 : Int} : dh_wpM (d + 1) 79 [.inr (.inr (some p0)), .inr (.inr x1), .inl x2, .inl x3] h Q = dh_wp dh_sh (dh_wpM d) (dh_bl 79) Q 0 [some (.inr (.inr (some p0))), some (.inr (.inr x1)), some (.inl x2), some (.inl x3)] [] h := dh_mq (Nat.le_of_ble_eq_true rfl) rfl
theorem u80_0 : dh_wp dh_sh (dh_wpM d) (dh_bl 80) Q 0 ls st h = dh_wpB dh_sh (dh_wpM d) (dh_wp dh_sh (dh_wpM d) (dh_bl 80) Q) Q bk80_0 ls st h := dh_wp_eq (dh_wpM_mono d) rfl
theorem u80_1 : dh_wp dh_sh (dh_wpM d) (dh_bl 80) Q 1 ls st h = dh_wpB dh_sh (dh_wpM d) (dh_wp dh_sh (dh_wpM d) (dh_bl 80) Q) Q bk80_1 ls st h := dh_wp_eq (dh_wpM_mono d) rfl
theorem u80_2 : dh_wp dh_sh (dh_wpM d) (dh_bl 80) Q 2 ls st h = dh_wpB dh_sh (dh_wpM d) (dh_wp dh_sh (dh_wpM d) (dh_bl 80) Q) Q bk80_2 ls st h := dh_wp_eq (dh_wpM_mono d) rfl
theorem u80_3 : dh_wp dh_sh (dh_wpM d) (dh_bl 80) Q 3 ls st h = dh_wpB dh_sh (dh_wpM d) (dh_wp dh_sh (dh_wpM d) (dh_bl 80) Q) Q bk80_3 ls st h := dh_wp_eq (dh_wpM_mono d) rfl
theorem u80_4 : dh_wp dh_sh (dh_wpM d) (dh_bl 80) Q 4 ls st h = dh_wpB dh_sh (dh_wpM d) (dh_wp dh_sh (dh_wpM d) (dh_bl 80) Q) Q bk80_4 ls st h := dh_wp_eq (dh_wpM_mono d) rfl
/-- DoubleHeap$Walks.fillRows(LDoubleHeap$Law;II)V -/
theorem m80 {p0 : Nat} {x1 : Option Nat} {x2 : Int} {x3 : Int} : dh_wpM (d + 1) 80 [.inr (.inr (some p0)), .inr (.inr x1), .inl x2, .inl x3] h Q = dh_wp dh_sh (dh_wpM d) (dh_bl 80) Q 0 [some (.inr (.inr (some p0))), some (.inr (.inr x1)), some (.inl x2), some (.inl x3), none, none] [] h := dh_mq (Nat.le_of_ble_eq_true rfl) rfl
theorem u81_0 : dh_wp dh_sh (dh_wpM d) (dh_bl 81) Q 0 ls st h = dh_wpB dh_sh (dh_wpM d) (dh_wp dh_sh (dh_wpM d) (dh_bl 81) Q) Q bk81_0 ls st h := dh_wp_eq (dh_wpM_mono d) rfl
theorem u81_1 : dh_wp dh_sh (dh_wpM d) (dh_bl 81) Q 1 ls st h = dh_wpB dh_sh (dh_wpM d) (dh_wp dh_sh (dh_wpM d) (dh_bl 81) Q) Q bk81_1 ls st h := dh_wp_eq (dh_wpM_mono d) rfl
theorem u81_2 : dh_wp dh_sh (dh_wpM d) (dh_bl 81) Q 2 ls st h = dh_wpB dh_sh (dh_wpM d) (dh_wp dh_sh (dh_wpM d) (dh_bl 81) Q) Q bk81_2 ls st h := dh_wp_eq (dh_wpM_mono d) rfl
theorem u81_3 : dh_wp dh_sh (dh_wpM d) (dh_bl 81) Q 3 ls st h = dh_wpB dh_sh (dh_wpM d) (dh_wp dh_sh (dh_wpM d) (dh_bl 81) Q) Q bk81_3 ls st h := dh_wp_eq (dh_wpM_mono d) rfl
theorem u81_4 : dh_wp dh_sh (dh_wpM d) (dh_bl 81) Q 4 ls st h = dh_wpB dh_sh (dh_wpM d) (dh_wp dh_sh (dh_wpM d) (dh_bl 81) Q) Q bk81_4 ls st h := dh_wp_eq (dh_wpM_mono d) rfl
theorem u81_5 : dh_wp dh_sh (dh_wpM d) (dh_bl 81) Q 5 ls st h = dh_wpB dh_sh (dh_wpM d) (dh_wp dh_sh (dh_wpM d) (dh_bl 81) Q) Q bk81_5 ls st h := dh_wp_eq (dh_wpM_mono d) rfl
/-- DoubleHeap$Walks.fillRowsAt(LDoubleHeap$Law;II)V -/
theorem m81 {p0 : Nat} {x1 : Option Nat} {x2 : Int} {x3 : Int} : dh_wpM (d + 1) 81 [.inr (.inr (some p0)), .inr (.inr x1), .inl x2, .inl x3] h Q = dh_wp dh_sh (dh_wpM d) (dh_bl 81) Q 0 [some (.inr (.inr (some p0))), some (.inr (.inr x1)), some (.inl x2), some (.inl x3), none, none, none, none, none, none, none, none] [] h := dh_mq (Nat.le_of_ble_eq_true rfl) rfl
theorem u82_0 : dh_wp dh_sh (dh_wpM d) (dh_bl 82) Q 0 ls st h = dh_wpB dh_sh (dh_wpM d) (dh_wp dh_sh (dh_wpM d) (dh_bl 82) Q) Q bk82_0 ls st h := dh_wp_eq (dh_wpM_mono d) rfl
theorem u82_1 : dh_wp dh_sh (dh_wpM d) (dh_bl 82) Q 1 ls st h = dh_wpB dh_sh (dh_wpM d) (dh_wp dh_sh (dh_wpM d) (dh_bl 82) Q) Q bk82_1 ls st h := dh_wp_eq (dh_wpM_mono d) rfl
theorem u82_2 : dh_wp dh_sh (dh_wpM d) (dh_bl 82) Q 2 ls st h = dh_wpB dh_sh (dh_wpM d) (dh_wp dh_sh (dh_wpM d) (dh_bl 82) Q) Q bk82_2 ls st h := dh_wp_eq (dh_wpM_mono d) rfl
theorem u82_3 : dh_wp dh_sh (dh_wpM d) (dh_bl 82) Q 3 ls st h = dh_wpB dh_sh (dh_wpM d) (dh_wp dh_sh (dh_wpM d) (dh_bl 82) Q) Q bk82_3 ls st h := dh_wp_eq (dh_wpM_mono d) rfl
theorem u82_4 : dh_wp dh_sh (dh_wpM d) (dh_bl 82) Q 4 ls st h = dh_wpB dh_sh (dh_wpM d) (dh_wp dh_sh (dh_wpM d) (dh_bl 82) Q) Q bk82_4 ls st h := dh_wp_eq (dh_wpM_mono d) rfl
/-- DoubleHeap$Walks.fillHopes(LDoubleHeap$Law;II)V -/
theorem m82 {p0 : Nat} {x1 : Option Nat} {x2 : Int} {x3 : Int} : dh_wpM (d + 1) 82 [.inr (.inr (some p0)), .inr (.inr x1), .inl x2, .inl x3] h Q = dh_wp dh_sh (dh_wpM d) (dh_bl 82) Q 0 [some (.inr (.inr (some p0))), some (.inr (.inr x1)), some (.inl x2), some (.inl x3), none, none] [] h := dh_mq (Nat.le_of_ble_eq_true rfl) rfl
theorem u83_0 : dh_wp dh_sh (dh_wpM d) (dh_bl 83) Q 0 ls st h = dh_wpB dh_sh (dh_wpM d) (dh_wp dh_sh (dh_wpM d) (dh_bl 83) Q) Q bk83_0 ls st h := dh_wp_eq (dh_wpM_mono d) rfl
theorem u83_1 : dh_wp dh_sh (dh_wpM d) (dh_bl 83) Q 1 ls st h = dh_wpB dh_sh (dh_wpM d) (dh_wp dh_sh (dh_wpM d) (dh_bl 83) Q) Q bk83_1 ls st h := dh_wp_eq (dh_wpM_mono d) rfl
theorem u83_2 : dh_wp dh_sh (dh_wpM d) (dh_bl 83) Q 2 ls st h = dh_wpB dh_sh (dh_wpM d) (dh_wp dh_sh (dh_wpM d) (dh_bl 83) Q) Q bk83_2 ls st h := dh_wp_eq (dh_wpM_mono d) rfl
theorem u83_3 : dh_wp dh_sh (dh_wpM d) (dh_bl 83) Q 3 ls st h = dh_wpB dh_sh (dh_wpM d) (dh_wp dh_sh (dh_wpM d) (dh_bl 83) Q) Q bk83_3 ls st h := dh_wp_eq (dh_wpM_mono d) rfl
theorem u83_4 : dh_wp dh_sh (dh_wpM d) (dh_bl 83) Q 4 ls st h = dh_wpB dh_sh (dh_wpM d) (dh_wp dh_sh (dh_wpM d) (dh_bl 83) Q) Q bk83_4 ls st h := dh_wp_eq (dh_wpM_mono d) rfl
theorem u83_5 : dh_wp dh_sh (dh_wpM d) (dh_bl 83) Q 5 ls st h = dh_wpB dh_sh (dh_wpM d) (dh_wp dh_sh (dh_wpM d) (dh_bl 83) Q) Q bk83_5 ls st h := dh_wp_eq (dh_wpM_mono d) rfl
/-- DoubleHeap$Walks.fillHopesAt(LDoubleHeap$Law;II)V -/
theorem m83 {p0 : Nat} {x1 : Option Nat} {x2 : Int} {x3 : Int} : dh_wpM (d + 1) 83 [.inr (.inr (some p0)), .inr (.inr x1), .inl x2, .inl x3] h Q = dh_wp dh_sh (dh_wpM d) (dh_bl 83) Q 0 [some (.inr (.inr (some p0))), some (.inr (.inr x1)), some (.inl x2), some (.inl x3), none, none, none, none, none] [] h := dh_mq (Nat.le_of_ble_eq_true rfl) rfl
theorem u84_0 : dh_wp dh_sh (dh_wpM d) (dh_bl 84) Q 0 ls st h = dh_wpB dh_sh (dh_wpM d) (dh_wp dh_sh (dh_wpM d) (dh_bl 84) Q) Q bk84_0 ls st h := dh_wp_eq (dh_wpM_mono d) rfl
/-- DoubleHeap$Walks.hopeOfHers(II)I -/
theorem m84 {p0 : Nat} {x1 : Int} {x2 : Int} : dh_wpM (d + 1) 84 [.inr (.inr (some p0)), .inl x1, .inl x2] h Q = dh_wp dh_sh (dh_wpM d) (dh_bl 84) Q 0 [some (.inr (.inr (some p0))), some (.inl x1), some (.inl x2)] [] h := dh_mq (Nat.le_of_ble_eq_true rfl) rfl
theorem u85_0 : dh_wp dh_sh (dh_wpM d) (dh_bl 85) Q 0 ls st h = dh_wpB dh_sh (dh_wpM d) (dh_wp dh_sh (dh_wpM d) (dh_bl 85) Q) Q bk85_0 ls st h := dh_wp_eq (dh_wpM_mono d) rfl
/-- DoubleHeap$Walks.hopeOfChilds(II)I -/
theorem m85 {p0 : Nat} {x1 : Int} {x2 : Int} : dh_wpM (d + 1) 85 [.inr (.inr (some p0)), .inl x1, .inl x2] h Q = dh_wp dh_sh (dh_wpM d) (dh_bl 85) Q 0 [some (.inr (.inr (some p0))), some (.inl x1), some (.inl x2)] [] h := dh_mq (Nat.le_of_ble_eq_true rfl) rfl
theorem u86_0 : dh_wp dh_sh (dh_wpM d) (dh_bl 86) Q 0 ls st h = dh_wpB dh_sh (dh_wpM d) (dh_wp dh_sh (dh_wpM d) (dh_bl 86) Q) Q bk86_0 ls st h := dh_wp_eq (dh_wpM_mono d) rfl
theorem u86_1 : dh_wp dh_sh (dh_wpM d) (dh_bl 86) Q 1 ls st h = dh_wpB dh_sh (dh_wpM d) (dh_wp dh_sh (dh_wpM d) (dh_bl 86) Q) Q bk86_1 ls st h := dh_wp_eq (dh_wpM_mono d) rfl
theorem u86_2 : dh_wp dh_sh (dh_wpM d) (dh_bl 86) Q 2 ls st h = dh_wpB dh_sh (dh_wpM d) (dh_wp dh_sh (dh_wpM d) (dh_bl 86) Q) Q bk86_2 ls st h := dh_wp_eq (dh_wpM_mono d) rfl
theorem u86_3 : dh_wp dh_sh (dh_wpM d) (dh_bl 86) Q 3 ls st h = dh_wpB dh_sh (dh_wpM d) (dh_wp dh_sh (dh_wpM d) (dh_bl 86) Q) Q bk86_3 ls st h := dh_wp_eq (dh_wpM_mono d) rfl
/-- DoubleHeap$Walks.hopefulTake(LDoubleHeap$Law;II)I -/
theorem m86 {p0 : Nat} {x1 : Option Nat} {x2 : Int} {x3 : Int} : dh_wpM (d + 1) 86 [.inr (.inr (some p0)), .inr (.inr x1), .inl x2, .inl x3] h Q = dh_wp dh_sh (dh_wpM d) (dh_bl 86) Q 0 [some (.inr (.inr (some p0))), some (.inr (.inr x1)), some (.inl x2), some (.inl x3), none, none, none] [] h := dh_mq (Nat.le_of_ble_eq_true rfl) rfl
theorem u87_0 : dh_wp dh_sh (dh_wpM d) (dh_bl 87) Q 0 ls st h = dh_wpB dh_sh (dh_wpM d) (dh_wp dh_sh (dh_wpM d) (dh_bl 87) Q) Q bk87_0 ls st h := dh_wp_eq (dh_wpM_mono d) rfl
theorem u87_1 : dh_wp dh_sh (dh_wpM d) (dh_bl 87) Q 1 ls st h = dh_wpB dh_sh (dh_wpM d) (dh_wp dh_sh (dh_wpM d) (dh_bl 87) Q) Q bk87_1 ls st h := dh_wp_eq (dh_wpM_mono d) rfl
/-- DoubleHeap.feed(IIIII)I -/
theorem m87 {p0 : Nat} {x1 : Int} {x2 : Int} {x3 : Int} {x4 : Int} {x5 : Int} : dh_wpM (d + 1) 87 [.inr (.inr (some p0)), .inl x1, .inl x2, .inl x3, .inl x4, .inl x5] h Q = dh_wp dh_sh (dh_wpM d) (dh_bl 87) Q 0 [some (.inr (.inr (some p0))), some (.inl x1), some (.inl x2), some (.inl x3), some (.inl x4), some (.inl x5)] [] h := dh_mq (Nat.le_of_ble_eq_true rfl) rfl
theorem u88_0 : dh_wp dh_sh (dh_wpM d) (dh_bl 88) Q 0 ls st h = dh_wpB dh_sh (dh_wpM d) (dh_wp dh_sh (dh_wpM d) (dh_bl 88) Q) Q bk88_0 ls st h := dh_wp_eq (dh_wpM_mono d) rfl
theorem u88_1 : dh_wp dh_sh (dh_wpM d) (dh_bl 88) Q 1 ls st h = dh_wpB dh_sh (dh_wpM d) (dh_wp dh_sh (dh_wpM d) (dh_bl 88) Q) Q bk88_1 ls st h := dh_wp_eq (dh_wpM_mono d) rfl
theorem u88_2 : dh_wp dh_sh (dh_wpM d) (dh_bl 88) Q 2 ls st h = dh_wpB dh_sh (dh_wpM d) (dh_wp dh_sh (dh_wpM d) (dh_bl 88) Q) Q bk88_2 ls st h := dh_wp_eq (dh_wpM_mono d) rfl
theorem u88_3 : dh_wp dh_sh (dh_wpM d) (dh_bl 88) Q 3 ls st h = dh_wpB dh_sh (dh_wpM d) (dh_wp dh_sh (dh_wpM d) (dh_bl 88) Q) Q bk88_3 ls st h := dh_wp_eq (dh_wpM_mono d) rfl
/-- DoubleHeap.law(II)I -/
theorem m88 {p0 : Nat} {x1 : Int} {x2 : Int} : dh_wpM (d + 1) 88 [.inr (.inr (some p0)), .inl x1, .inl x2] h Q = dh_wp dh_sh (dh_wpM d) (dh_bl 88) Q 0 [some (.inr (.inr (some p0))), some (.inl x1), some (.inl x2), none, none] [] h := dh_mq (Nat.le_of_ble_eq_true rfl) rfl
theorem u89_0 : dh_wp dh_sh (dh_wpM d) (dh_bl 89) Q 0 ls st h = dh_wpB dh_sh (dh_wpM d) (dh_wp dh_sh (dh_wpM d) (dh_bl 89) Q) Q bk89_0 ls st h := dh_wp_eq (dh_wpM_mono d) rfl
theorem u89_1 : dh_wp dh_sh (dh_wpM d) (dh_bl 89) Q 1 ls st h = dh_wpB dh_sh (dh_wpM d) (dh_wp dh_sh (dh_wpM d) (dh_bl 89) Q) Q bk89_1 ls st h := dh_wp_eq (dh_wpM_mono d) rfl
theorem u89_2 : dh_wp dh_sh (dh_wpM d) (dh_bl 89) Q 2 ls st h = dh_wpB dh_sh (dh_wpM d) (dh_wp dh_sh (dh_wpM d) (dh_bl 89) Q) Q bk89_2 ls st h := dh_wp_eq (dh_wpM_mono d) rfl
theorem u89_3 : dh_wp dh_sh (dh_wpM d) (dh_bl 89) Q 3 ls st h = dh_wpB dh_sh (dh_wpM d) (dh_wp dh_sh (dh_wpM d) (dh_bl 89) Q) Q bk89_3 ls st h := dh_wp_eq (dh_wpM_mono d) rfl
/-- DoubleHeap.game(II)I -/
theorem m89 {p0 : Nat} {x1 : Int} {x2 : Int} : dh_wpM (d + 1) 89 [.inr (.inr (some p0)), .inl x1, .inl x2] h Q = dh_wp dh_sh (dh_wpM d) (dh_bl 89) Q 0 [some (.inr (.inr (some p0))), some (.inl x1), some (.inl x2), none, none] [] h := dh_mq (Nat.le_of_ble_eq_true rfl) rfl
theorem u90_0 : dh_wp dh_sh (dh_wpM d) (dh_bl 90) Q 0 ls st h = dh_wpB dh_sh (dh_wpM d) (dh_wp dh_sh (dh_wpM d) (dh_bl 90) Q) Q bk90_0 ls st h := dh_wp_eq (dh_wpM_mono d) rfl
theorem u90_1 : dh_wp dh_sh (dh_wpM d) (dh_bl 90) Q 1 ls st h = dh_wpB dh_sh (dh_wpM d) (dh_wp dh_sh (dh_wpM d) (dh_bl 90) Q) Q bk90_1 ls st h := dh_wp_eq (dh_wpM_mono d) rfl
theorem u90_2 : dh_wp dh_sh (dh_wpM d) (dh_bl 90) Q 2 ls st h = dh_wpB dh_sh (dh_wpM d) (dh_wp dh_sh (dh_wpM d) (dh_bl 90) Q) Q bk90_2 ls st h := dh_wp_eq (dh_wpM_mono d) rfl
theorem u90_3 : dh_wp dh_sh (dh_wpM d) (dh_bl 90) Q 3 ls st h = dh_wpB dh_sh (dh_wpM d) (dh_wp dh_sh (dh_wpM d) (dh_bl 90) Q) Q bk90_3 ls st h := dh_wp_eq (dh_wpM_mono d) rfl
theorem u90_4 : dh_wp dh_sh (dh_wpM d) (dh_bl 90) Q 4 ls st h = dh_wpB dh_sh (dh_wpM d) (dh_wp dh_sh (dh_wpM d) (dh_bl 90) Q) Q bk90_4 ls st h := dh_wp_eq (dh_wpM_mono d) rfl
theorem u90_5 : dh_wp dh_sh (dh_wpM d) (dh_bl 90) Q 5 ls st h = dh_wpB dh_sh (dh_wpM d) (dh_wp dh_sh (dh_wpM d) (dh_bl 90) Q) Q bk90_5 ls st h := dh_wp_eq (dh_wpM_mono d) rfl
theorem u90_6 : dh_wp dh_sh (dh_wpM d) (dh_bl 90) Q 6 ls st h = dh_wpB dh_sh (dh_wpM d) (dh_wp dh_sh (dh_wpM d) (dh_bl 90) Q) Q bk90_6 ls st h := dh_wp_eq (dh_wpM_mono d) rfl
theorem u90_7 : dh_wp dh_sh (dh_wpM d) (dh_bl 90) Q 7 ls st h = dh_wpB dh_sh (dh_wpM d) (dh_wp dh_sh (dh_wpM d) (dh_bl 90) Q) Q bk90_7 ls st h := dh_wp_eq (dh_wpM_mono d) rfl
theorem u90_8 : dh_wp dh_sh (dh_wpM d) (dh_bl 90) Q 8 ls st h = dh_wpB dh_sh (dh_wpM d) (dh_wp dh_sh (dh_wpM d) (dh_bl 90) Q) Q bk90_8 ls st h := dh_wp_eq (dh_wpM_mono d) rfl
theorem u90_9 : dh_wp dh_sh (dh_wpM d) (dh_bl 90) Q 9 ls st h = dh_wpB dh_sh (dh_wpM d) (dh_wp dh_sh (dh_wpM d) (dh_bl 90) Q) Q bk90_9 ls st h := dh_wp_eq (dh_wpM_mono d) rfl
theorem u90_10 : dh_wp dh_sh (dh_wpM d) (dh_bl 90) Q 10 ls st h = dh_wpB dh_sh (dh_wpM d) (dh_wp dh_sh (dh_wpM d) (dh_bl 90) Q) Q bk90_10 ls st h := dh_wp_eq (dh_wpM_mono d) rfl
theorem u90_11 : dh_wp dh_sh (dh_wpM d) (dh_bl 90) Q 11 ls st h = dh_wpB dh_sh (dh_wpM d) (dh_wp dh_sh (dh_wpM d) (dh_bl 90) Q) Q bk90_11 ls st h := dh_wp_eq (dh_wpM_mono d) rfl
/-- DoubleHeap.state(IIII)I -/
theorem m90 {p0 : Nat} {x1 : Int} {x2 : Int} {x3 : Int} {x4 : Int} : dh_wpM (d + 1) 90 [.inr (.inr (some p0)), .inl x1, .inl x2, .inl x3, .inl x4] h Q = dh_wp dh_sh (dh_wpM d) (dh_bl 90) Q 0 [some (.inr (.inr (some p0))), some (.inl x1), some (.inl x2), some (.inl x3), some (.inl x4), none, none, none] [] h := dh_mq (Nat.le_of_ble_eq_true rfl) rfl
theorem u91_0 : dh_wp dh_sh (dh_wpM d) (dh_bl 91) Q 0 ls st h = dh_wpB dh_sh (dh_wpM d) (dh_wp dh_sh (dh_wpM d) (dh_bl 91) Q) Q bk91_0 ls st h := dh_wp_eq (dh_wpM_mono d) rfl
theorem u91_1 : dh_wp dh_sh (dh_wpM d) (dh_bl 91) Q 1 ls st h = dh_wpB dh_sh (dh_wpM d) (dh_wp dh_sh (dh_wpM d) (dh_bl 91) Q) Q bk91_1 ls st h := dh_wp_eq (dh_wpM_mono d) rfl
theorem u91_2 : dh_wp dh_sh (dh_wpM d) (dh_bl 91) Q 2 ls st h = dh_wpB dh_sh (dh_wpM d) (dh_wp dh_sh (dh_wpM d) (dh_bl 91) Q) Q bk91_2 ls st h := dh_wp_eq (dh_wpM_mono d) rfl
theorem u91_3 : dh_wp dh_sh (dh_wpM d) (dh_bl 91) Q 3 ls st h = dh_wpB dh_sh (dh_wpM d) (dh_wp dh_sh (dh_wpM d) (dh_bl 91) Q) Q bk91_3 ls st h := dh_wp_eq (dh_wpM_mono d) rfl
theorem u91_4 : dh_wp dh_sh (dh_wpM d) (dh_bl 91) Q 4 ls st h = dh_wpB dh_sh (dh_wpM d) (dh_wp dh_sh (dh_wpM d) (dh_bl 91) Q) Q bk91_4 ls st h := dh_wp_eq (dh_wpM_mono d) rfl
theorem u91_5 : dh_wp dh_sh (dh_wpM d) (dh_bl 91) Q 5 ls st h = dh_wpB dh_sh (dh_wpM d) (dh_wp dh_sh (dh_wpM d) (dh_bl 91) Q) Q bk91_5 ls st h := dh_wp_eq (dh_wpM_mono d) rfl
theorem u91_6 : dh_wp dh_sh (dh_wpM d) (dh_bl 91) Q 6 ls st h = dh_wpB dh_sh (dh_wpM d) (dh_wp dh_sh (dh_wpM d) (dh_bl 91) Q) Q bk91_6 ls st h := dh_wp_eq (dh_wpM_mono d) rfl
/-- DoubleHeap.takes(IIII)J -/
theorem m91 {p0 : Nat} {x1 : Int} {x2 : Int} {x3 : Int} {x4 : Int} : dh_wpM (d + 1) 91 [.inr (.inr (some p0)), .inl x1, .inl x2, .inl x3, .inl x4] h Q = dh_wp dh_sh (dh_wpM d) (dh_bl 91) Q 0 [some (.inr (.inr (some p0))), some (.inl x1), some (.inl x2), some (.inl x3), some (.inl x4), none] [] h := dh_mq (Nat.le_of_ble_eq_true rfl) rfl
theorem u92_0 : dh_wp dh_sh (dh_wpM d) (dh_bl 92) Q 0 ls st h = dh_wpB dh_sh (dh_wpM d) (dh_wp dh_sh (dh_wpM d) (dh_bl 92) Q) Q bk92_0 ls st h := dh_wp_eq (dh_wpM_mono d) rfl
theorem u92_1 : dh_wp dh_sh (dh_wpM d) (dh_bl 92) Q 1 ls st h = dh_wpB dh_sh (dh_wpM d) (dh_wp dh_sh (dh_wpM d) (dh_bl 92) Q) Q bk92_1 ls st h := dh_wp_eq (dh_wpM_mono d) rfl
theorem u92_2 : dh_wp dh_sh (dh_wpM d) (dh_bl 92) Q 2 ls st h = dh_wpB dh_sh (dh_wpM d) (dh_wp dh_sh (dh_wpM d) (dh_bl 92) Q) Q bk92_2 ls st h := dh_wp_eq (dh_wpM_mono d) rfl
/-- DoubleHeap.lost(I)J -/
theorem m92 {p0 : Nat} {x1 : Int} : dh_wpM (d + 1) 92 [.inr (.inr (some p0)), .inl x1] h Q = dh_wp dh_sh (dh_wpM d) (dh_bl 92) Q 0 [some (.inr (.inr (some p0))), some (.inl x1), none] [] h := dh_mq (Nat.le_of_ble_eq_true rfl) rfl
theorem u93_0 : dh_wp dh_sh (dh_wpM d) (dh_bl 93) Q 0 ls st h = dh_wpB dh_sh (dh_wpM d) (dh_wp dh_sh (dh_wpM d) (dh_bl 93) Q) Q bk93_0 ls st h := dh_wp_eq (dh_wpM_mono d) rfl
theorem u93_1 : dh_wp dh_sh (dh_wpM d) (dh_bl 93) Q 1 ls st h = dh_wpB dh_sh (dh_wpM d) (dh_wp dh_sh (dh_wpM d) (dh_bl 93) Q) Q bk93_1 ls st h := dh_wp_eq (dh_wpM_mono d) rfl
theorem u93_2 : dh_wp dh_sh (dh_wpM d) (dh_bl 93) Q 2 ls st h = dh_wpB dh_sh (dh_wpM d) (dh_wp dh_sh (dh_wpM d) (dh_bl 93) Q) Q bk93_2 ls st h := dh_wp_eq (dh_wpM_mono d) rfl
theorem u93_3 : dh_wp dh_sh (dh_wpM d) (dh_bl 93) Q 3 ls st h = dh_wpB dh_sh (dh_wpM d) (dh_wp dh_sh (dh_wpM d) (dh_bl 93) Q) Q bk93_3 ls st h := dh_wp_eq (dh_wpM_mono d) rfl
theorem u93_4 : dh_wp dh_sh (dh_wpM d) (dh_bl 93) Q 4 ls st h = dh_wpB dh_sh (dh_wpM d) (dh_wp dh_sh (dh_wpM d) (dh_bl 93) Q) Q bk93_4 ls st h := dh_wp_eq (dh_wpM_mono d) rfl
/-- DoubleHeap.lostAt(II)I -/
theorem m93 {p0 : Nat} {x1 : Int} {x2 : Int} : dh_wpM (d + 1) 93 [.inr (.inr (some p0)), .inl x1, .inl x2] h Q = dh_wp dh_sh (dh_wpM d) (dh_bl 93) Q 0 [some (.inr (.inr (some p0))), some (.inl x1), some (.inl x2), none] [] h := dh_mq (Nat.le_of_ble_eq_true rfl) rfl
theorem u94_0 : dh_wp dh_sh (dh_wpM d) (dh_bl 94) Q 0 ls st h = dh_wpB dh_sh (dh_wpM d) (dh_wp dh_sh (dh_wpM d) (dh_bl 94) Q) Q bk94_0 ls st h := dh_wp_eq (dh_wpM_mono d) rfl
/-- DoubleHeap.ends(IIII)I -/
theorem m94 {p0 : Nat} {x1 : Int} {x2 : Int} {x3 : Int} {x4 : Int} : dh_wpM (d + 1) 94 [.inr (.inr (some p0)), .inl x1, .inl x2, .inl x3, .inl x4] h Q = dh_wp dh_sh (dh_wpM d) (dh_bl 94) Q 0 [some (.inr (.inr (some p0))), some (.inl x1), some (.inl x2), some (.inl x3), some (.inl x4)] [] h := dh_mq (Nat.le_of_ble_eq_true rfl) rfl
theorem u95_0 : dh_wp dh_sh (dh_wpM d) (dh_bl 95) Q 0 ls st h = dh_wpB dh_sh (dh_wpM d) (dh_wp dh_sh (dh_wpM d) (dh_bl 95) Q) Q bk95_0 ls st h := dh_wp_eq (dh_wpM_mono d) rfl
theorem u95_1 : dh_wp dh_sh (dh_wpM d) (dh_bl 95) Q 1 ls st h = dh_wpB dh_sh (dh_wpM d) (dh_wp dh_sh (dh_wpM d) (dh_bl 95) Q) Q bk95_1 ls st h := dh_wp_eq (dh_wpM_mono d) rfl
theorem u95_2 : dh_wp dh_sh (dh_wpM d) (dh_bl 95) Q 2 ls st h = dh_wpB dh_sh (dh_wpM d) (dh_wp dh_sh (dh_wpM d) (dh_bl 95) Q) Q bk95_2 ls st h := dh_wp_eq (dh_wpM_mono d) rfl
theorem u95_3 : dh_wp dh_sh (dh_wpM d) (dh_bl 95) Q 3 ls st h = dh_wpB dh_sh (dh_wpM d) (dh_wp dh_sh (dh_wpM d) (dh_bl 95) Q) Q bk95_3 ls st h := dh_wp_eq (dh_wpM_mono d) rfl
theorem u95_4 : dh_wp dh_sh (dh_wpM d) (dh_bl 95) Q 4 ls st h = dh_wpB dh_sh (dh_wpM d) (dh_wp dh_sh (dh_wpM d) (dh_bl 95) Q) Q bk95_4 ls st h := dh_wp_eq (dh_wpM_mono d) rfl
theorem u95_5 : dh_wp dh_sh (dh_wpM d) (dh_bl 95) Q 5 ls st h = dh_wpB dh_sh (dh_wpM d) (dh_wp dh_sh (dh_wpM d) (dh_bl 95) Q) Q bk95_5 ls st h := dh_wp_eq (dh_wpM_mono d) rfl
/-- DoubleHeap.sums(III)I -/
theorem m95 {p0 : Nat} {x1 : Int} {x2 : Int} {x3 : Int} : dh_wpM (d + 1) 95 [.inr (.inr (some p0)), .inl x1, .inl x2, .inl x3] h Q = dh_wp dh_sh (dh_wpM d) (dh_bl 95) Q 0 [some (.inr (.inr (some p0))), some (.inl x1), some (.inl x2), some (.inl x3), none] [] h := dh_mq (Nat.le_of_ble_eq_true rfl) rfl
theorem u96_0 : dh_wp dh_sh (dh_wpM d) (dh_bl 96) Q 0 ls st h = dh_wpB dh_sh (dh_wpM d) (dh_wp dh_sh (dh_wpM d) (dh_bl 96) Q) Q bk96_0 ls st h := dh_wp_eq (dh_wpM_mono d) rfl
theorem u96_1 : dh_wp dh_sh (dh_wpM d) (dh_bl 96) Q 1 ls st h = dh_wpB dh_sh (dh_wpM d) (dh_wp dh_sh (dh_wpM d) (dh_bl 96) Q) Q bk96_1 ls st h := dh_wp_eq (dh_wpM_mono d) rfl
theorem u96_2 : dh_wp dh_sh (dh_wpM d) (dh_bl 96) Q 2 ls st h = dh_wpB dh_sh (dh_wpM d) (dh_wp dh_sh (dh_wpM d) (dh_bl 96) Q) Q bk96_2 ls st h := dh_wp_eq (dh_wpM_mono d) rfl
theorem u96_3 : dh_wp dh_sh (dh_wpM d) (dh_bl 96) Q 3 ls st h = dh_wpB dh_sh (dh_wpM d) (dh_wp dh_sh (dh_wpM d) (dh_bl 96) Q) Q bk96_3 ls st h := dh_wp_eq (dh_wpM_mono d) rfl
theorem u96_4 : dh_wp dh_sh (dh_wpM d) (dh_bl 96) Q 4 ls st h = dh_wpB dh_sh (dh_wpM d) (dh_wp dh_sh (dh_wpM d) (dh_bl 96) Q) Q bk96_4 ls st h := dh_wp_eq (dh_wpM_mono d) rfl
/-- DoubleHeap.sum(II)J -/
theorem m96 {p0 : Nat} {x1 : Int} {x2 : Int} : dh_wpM (d + 1) 96 [.inr (.inr (some p0)), .inl x1, .inl x2] h Q = dh_wp dh_sh (dh_wpM d) (dh_bl 96) Q 0 [some (.inr (.inr (some p0))), some (.inl x1), some (.inl x2), none] [] h := dh_mq (Nat.le_of_ble_eq_true rfl) rfl
theorem u97_0 : dh_wp dh_sh (dh_wpM d) (dh_bl 97) Q 0 ls st h = dh_wpB dh_sh (dh_wpM d) (dh_wp dh_sh (dh_wpM d) (dh_bl 97) Q) Q bk97_0 ls st h := dh_wp_eq (dh_wpM_mono d) rfl
theorem u97_1 : dh_wp dh_sh (dh_wpM d) (dh_bl 97) Q 1 ls st h = dh_wpB dh_sh (dh_wpM d) (dh_wp dh_sh (dh_wpM d) (dh_bl 97) Q) Q bk97_1 ls st h := dh_wp_eq (dh_wpM_mono d) rfl
theorem u97_2 : dh_wp dh_sh (dh_wpM d) (dh_bl 97) Q 2 ls st h = dh_wpB dh_sh (dh_wpM d) (dh_wp dh_sh (dh_wpM d) (dh_bl 97) Q) Q bk97_2 ls st h := dh_wp_eq (dh_wpM_mono d) rfl
theorem u97_3 : dh_wp dh_sh (dh_wpM d) (dh_bl 97) Q 3 ls st h = dh_wpB dh_sh (dh_wpM d) (dh_wp dh_sh (dh_wpM d) (dh_bl 97) Q) Q bk97_3 ls st h := dh_wp_eq (dh_wpM_mono d) rfl
theorem u97_4 : dh_wp dh_sh (dh_wpM d) (dh_bl 97) Q 4 ls st h = dh_wpB dh_sh (dh_wpM d) (dh_wp dh_sh (dh_wpM d) (dh_bl 97) Q) Q bk97_4 ls st h := dh_wp_eq (dh_wpM_mono d) rfl
theorem u97_5 : dh_wp dh_sh (dh_wpM d) (dh_bl 97) Q 5 ls st h = dh_wpB dh_sh (dh_wpM d) (dh_wp dh_sh (dh_wpM d) (dh_bl 97) Q) Q bk97_5 ls st h := dh_wp_eq (dh_wpM_mono d) rfl
/-- DoubleHeap.two(IIIII)I -/
theorem m97 {p0 : Nat} {x1 : Int} {x2 : Int} {x3 : Int} {x4 : Int} {x5 : Int} : dh_wpM (d + 1) 97 [.inr (.inr (some p0)), .inl x1, .inl x2, .inl x3, .inl x4, .inl x5] h Q = dh_wp dh_sh (dh_wpM d) (dh_bl 97) Q 0 [some (.inr (.inr (some p0))), some (.inl x1), some (.inl x2), some (.inl x3), some (.inl x4), some (.inl x5), none, none] [] h := dh_mq (Nat.le_of_ble_eq_true rfl) rfl
theorem u98_0 : dh_wp dh_sh (dh_wpM d) (dh_bl 98) Q 0 ls st h = dh_wpB dh_sh (dh_wpM d) (dh_wp dh_sh (dh_wpM d) (dh_bl 98) Q) Q bk98_0 ls st h := dh_wp_eq (dh_wpM_mono d) rfl
theorem u98_1 : dh_wp dh_sh (dh_wpM d) (dh_bl 98) Q 1 ls st h = dh_wpB dh_sh (dh_wpM d) (dh_wp dh_sh (dh_wpM d) (dh_bl 98) Q) Q bk98_1 ls st h := dh_wp_eq (dh_wpM_mono d) rfl
theorem u98_2 : dh_wp dh_sh (dh_wpM d) (dh_bl 98) Q 2 ls st h = dh_wpB dh_sh (dh_wpM d) (dh_wp dh_sh (dh_wpM d) (dh_bl 98) Q) Q bk98_2 ls st h := dh_wp_eq (dh_wpM_mono d) rfl
/-- DoubleHeap.growing(IIIII)I -/
theorem m98 {p0 : Nat} {x1 : Int} {x2 : Int} {x3 : Int} {x4 : Int} {x5 : Int} : dh_wpM (d + 1) 98 [.inr (.inr (some p0)), .inl x1, .inl x2, .inl x3, .inl x4, .inl x5] h Q = dh_wp dh_sh (dh_wpM d) (dh_bl 98) Q 0 [some (.inr (.inr (some p0))), some (.inl x1), some (.inl x2), some (.inl x3), some (.inl x4), some (.inl x5), none] [] h := dh_mq (Nat.le_of_ble_eq_true rfl) rfl
theorem u99_0 : dh_wp dh_sh (dh_wpM d) (dh_bl 99) Q 0 ls st h = dh_wpB dh_sh (dh_wpM d) (dh_wp dh_sh (dh_wpM d) (dh_bl 99) Q) Q bk99_0 ls st h := dh_wp_eq (dh_wpM_mono d) rfl
theorem u99_1 : dh_wp dh_sh (dh_wpM d) (dh_bl 99) Q 1 ls st h = dh_wpB dh_sh (dh_wpM d) (dh_wp dh_sh (dh_wpM d) (dh_bl 99) Q) Q bk99_1 ls st h := dh_wp_eq (dh_wpM_mono d) rfl
theorem u99_2 : dh_wp dh_sh (dh_wpM d) (dh_bl 99) Q 2 ls st h = dh_wpB dh_sh (dh_wpM d) (dh_wp dh_sh (dh_wpM d) (dh_bl 99) Q) Q bk99_2 ls st h := dh_wp_eq (dh_wpM_mono d) rfl
/-- DoubleHeap.each(IIIII)I -/
theorem m99 {p0 : Nat} {x1 : Int} {x2 : Int} {x3 : Int} {x4 : Int} {x5 : Int} : dh_wpM (d + 1) 99 [.inr (.inr (some p0)), .inl x1, .inl x2, .inl x3, .inl x4, .inl x5] h Q = dh_wp dh_sh (dh_wpM d) (dh_bl 99) Q 0 [some (.inr (.inr (some p0))), some (.inl x1), some (.inl x2), some (.inl x3), some (.inl x4), some (.inl x5), none, none] [] h := dh_mq (Nat.le_of_ble_eq_true rfl) rfl
theorem u100_0 : dh_wp dh_sh (dh_wpM d) (dh_bl 100) Q 0 ls st h = dh_wpB dh_sh (dh_wpM d) (dh_wp dh_sh (dh_wpM d) (dh_bl 100) Q) Q bk100_0 ls st h := dh_wp_eq (dh_wpM_mono d) rfl
theorem u100_1 : dh_wp dh_sh (dh_wpM d) (dh_bl 100) Q 1 ls st h = dh_wpB dh_sh (dh_wpM d) (dh_wp dh_sh (dh_wpM d) (dh_bl 100) Q) Q bk100_1 ls st h := dh_wp_eq (dh_wpM_mono d) rfl
theorem u100_2 : dh_wp dh_sh (dh_wpM d) (dh_bl 100) Q 2 ls st h = dh_wpB dh_sh (dh_wpM d) (dh_wp dh_sh (dh_wpM d) (dh_bl 100) Q) Q bk100_2 ls st h := dh_wp_eq (dh_wpM_mono d) rfl
theorem u100_3 : dh_wp dh_sh (dh_wpM d) (dh_bl 100) Q 3 ls st h = dh_wpB dh_sh (dh_wpM d) (dh_wp dh_sh (dh_wpM d) (dh_bl 100) Q) Q bk100_3 ls st h := dh_wp_eq (dh_wpM_mono d) rfl
theorem u100_4 : dh_wp dh_sh (dh_wpM d) (dh_bl 100) Q 4 ls st h = dh_wpB dh_sh (dh_wpM d) (dh_wp dh_sh (dh_wpM d) (dh_bl 100) Q) Q bk100_4 ls st h := dh_wp_eq (dh_wpM_mono d) rfl
/-- DoubleHeap.ones(III)I -/
theorem m100 {p0 : Nat} {x1 : Int} {x2 : Int} {x3 : Int} : dh_wpM (d + 1) 100 [.inr (.inr (some p0)), .inl x1, .inl x2, .inl x3] h Q = dh_wp dh_sh (dh_wpM d) (dh_bl 100) Q 0 [some (.inr (.inr (some p0))), some (.inl x1), some (.inl x2), some (.inl x3), none] [] h := dh_mq (Nat.le_of_ble_eq_true rfl) rfl
theorem u101_0 : dh_wp dh_sh (dh_wpM d) (dh_bl 101) Q 0 ls st h = dh_wpB dh_sh (dh_wpM d) (dh_wp dh_sh (dh_wpM d) (dh_bl 101) Q) Q bk101_0 ls st h := dh_wp_eq (dh_wpM_mono d) rfl
theorem u101_1 : dh_wp dh_sh (dh_wpM d) (dh_bl 101) Q 1 ls st h = dh_wpB dh_sh (dh_wpM d) (dh_wp dh_sh (dh_wpM d) (dh_bl 101) Q) Q bk101_1 ls st h := dh_wp_eq (dh_wpM_mono d) rfl
theorem u101_2 : dh_wp dh_sh (dh_wpM d) (dh_bl 101) Q 2 ls st h = dh_wpB dh_sh (dh_wpM d) (dh_wp dh_sh (dh_wpM d) (dh_bl 101) Q) Q bk101_2 ls st h := dh_wp_eq (dh_wpM_mono d) rfl
theorem u101_3 : dh_wp dh_sh (dh_wpM d) (dh_bl 101) Q 3 ls st h = dh_wpB dh_sh (dh_wpM d) (dh_wp dh_sh (dh_wpM d) (dh_bl 101) Q) Q bk101_3 ls st h := dh_wp_eq (dh_wpM_mono d) rfl
theorem u101_4 : dh_wp dh_sh (dh_wpM d) (dh_bl 101) Q 4 ls st h = dh_wpB dh_sh (dh_wpM d) (dh_wp dh_sh (dh_wpM d) (dh_bl 101) Q) Q bk101_4 ls st h := dh_wp_eq (dh_wpM_mono d) rfl
theorem u101_5 : dh_wp dh_sh (dh_wpM d) (dh_bl 101) Q 5 ls st h = dh_wpB dh_sh (dh_wpM d) (dh_wp dh_sh (dh_wpM d) (dh_bl 101) Q) Q bk101_5 ls st h := dh_wp_eq (dh_wpM_mono d) rfl
theorem u101_6 : dh_wp dh_sh (dh_wpM d) (dh_bl 101) Q 6 ls st h = dh_wpB dh_sh (dh_wpM d) (dh_wp dh_sh (dh_wpM d) (dh_bl 101) Q) Q bk101_6 ls st h := dh_wp_eq (dh_wpM_mono d) rfl
theorem u101_7 : dh_wp dh_sh (dh_wpM d) (dh_bl 101) Q 7 ls st h = dh_wpB dh_sh (dh_wpM d) (dh_wp dh_sh (dh_wpM d) (dh_bl 101) Q) Q bk101_7 ls st h := dh_wp_eq (dh_wpM_mono d) rfl
/-- DoubleHeap.passes(IIIIII)I -/
theorem m101 {p0 : Nat} {x1 : Int} {x2 : Int} {x3 : Int} {x4 : Int} {x5 : Int} {x6 : Int} : dh_wpM (d + 1) 101 [.inr (.inr (some p0)), .inl x1, .inl x2, .inl x3, .inl x4, .inl x5, .inl x6] h Q = dh_wp dh_sh (dh_wpM d) (dh_bl 101) Q 0 [some (.inr (.inr (some p0))), some (.inl x1), some (.inl x2), some (.inl x3), some (.inl x4), some (.inl x5), some (.inl x6), none, none, none] [] h := dh_mq (Nat.le_of_ble_eq_true rfl) rfl
theorem u102_0 : dh_wp dh_sh (dh_wpM d) (dh_bl 102) Q 0 ls st h = dh_wpB dh_sh (dh_wpM d) (dh_wp dh_sh (dh_wpM d) (dh_bl 102) Q) Q bk102_0 ls st h := dh_wp_eq (dh_wpM_mono d) rfl
theorem u102_1 : dh_wp dh_sh (dh_wpM d) (dh_bl 102) Q 1 ls st h = dh_wpB dh_sh (dh_wpM d) (dh_wp dh_sh (dh_wpM d) (dh_bl 102) Q) Q bk102_1 ls st h := dh_wp_eq (dh_wpM_mono d) rfl
theorem u102_2 : dh_wp dh_sh (dh_wpM d) (dh_bl 102) Q 2 ls st h = dh_wpB dh_sh (dh_wpM d) (dh_wp dh_sh (dh_wpM d) (dh_bl 102) Q) Q bk102_2 ls st h := dh_wp_eq (dh_wpM_mono d) rfl
theorem u102_3 : dh_wp dh_sh (dh_wpM d) (dh_bl 102) Q 3 ls st h = dh_wpB dh_sh (dh_wpM d) (dh_wp dh_sh (dh_wpM d) (dh_bl 102) Q) Q bk102_3 ls st h := dh_wp_eq (dh_wpM_mono d) rfl
theorem u102_4 : dh_wp dh_sh (dh_wpM d) (dh_bl 102) Q 4 ls st h = dh_wpB dh_sh (dh_wpM d) (dh_wp dh_sh (dh_wpM d) (dh_bl 102) Q) Q bk102_4 ls st h := dh_wp_eq (dh_wpM_mono d) rfl
theorem u102_5 : dh_wp dh_sh (dh_wpM d) (dh_bl 102) Q 5 ls st h = dh_wpB dh_sh (dh_wpM d) (dh_wp dh_sh (dh_wpM d) (dh_bl 102) Q) Q bk102_5 ls st h := dh_wp_eq (dh_wpM_mono d) rfl
theorem u102_6 : dh_wp dh_sh (dh_wpM d) (dh_bl 102) Q 6 ls st h = dh_wpB dh_sh (dh_wpM d) (dh_wp dh_sh (dh_wpM d) (dh_bl 102) Q) Q bk102_6 ls st h := dh_wp_eq (dh_wpM_mono d) rfl
theorem u102_7 : dh_wp dh_sh (dh_wpM d) (dh_bl 102) Q 7 ls st h = dh_wpB dh_sh (dh_wpM d) (dh_wp dh_sh (dh_wpM d) (dh_bl 102) Q) Q bk102_7 ls st h := dh_wp_eq (dh_wpM_mono d) rfl
/-- DoubleHeap.hope(IIIII)I -/
theorem m102 {p0 : Nat} {x1 : Int} {x2 : Int} {x3 : Int} {x4 : Int} {x5 : Int} : dh_wpM (d + 1) 102 [.inr (.inr (some p0)), .inl x1, .inl x2, .inl x3, .inl x4, .inl x5] h Q = dh_wp dh_sh (dh_wpM d) (dh_bl 102) Q 0 [some (.inr (.inr (some p0))), some (.inl x1), some (.inl x2), some (.inl x3), some (.inl x4), some (.inl x5), none] [] h := dh_mq (Nat.le_of_ble_eq_true rfl) rfl
theorem u103_0 : dh_wp dh_sh (dh_wpM d) (dh_bl 103) Q 0 ls st h = dh_wpB dh_sh (dh_wpM d) (dh_wp dh_sh (dh_wpM d) (dh_bl 103) Q) Q bk103_0 ls st h := dh_wp_eq (dh_wpM_mono d) rfl
theorem u103_1 : dh_wp dh_sh (dh_wpM d) (dh_bl 103) Q 1 ls st h = dh_wpB dh_sh (dh_wpM d) (dh_wp dh_sh (dh_wpM d) (dh_bl 103) Q) Q bk103_1 ls st h := dh_wp_eq (dh_wpM_mono d) rfl
theorem u103_2 : dh_wp dh_sh (dh_wpM d) (dh_bl 103) Q 2 ls st h = dh_wpB dh_sh (dh_wpM d) (dh_wp dh_sh (dh_wpM d) (dh_bl 103) Q) Q bk103_2 ls st h := dh_wp_eq (dh_wpM_mono d) rfl
theorem u103_3 : dh_wp dh_sh (dh_wpM d) (dh_bl 103) Q 3 ls st h = dh_wpB dh_sh (dh_wpM d) (dh_wp dh_sh (dh_wpM d) (dh_bl 103) Q) Q bk103_3 ls st h := dh_wp_eq (dh_wpM_mono d) rfl
theorem u103_4 : dh_wp dh_sh (dh_wpM d) (dh_bl 103) Q 4 ls st h = dh_wpB dh_sh (dh_wpM d) (dh_wp dh_sh (dh_wpM d) (dh_bl 103) Q) Q bk103_4 ls st h := dh_wp_eq (dh_wpM_mono d) rfl
theorem u103_5 : dh_wp dh_sh (dh_wpM d) (dh_bl 103) Q 5 ls st h = dh_wpB dh_sh (dh_wpM d) (dh_wp dh_sh (dh_wpM d) (dh_bl 103) Q) Q bk103_5 ls st h := dh_wp_eq (dh_wpM_mono d) rfl
theorem u103_6 : dh_wp dh_sh (dh_wpM d) (dh_bl 103) Q 6 ls st h = dh_wpB dh_sh (dh_wpM d) (dh_wp dh_sh (dh_wpM d) (dh_bl 103) Q) Q bk103_6 ls st h := dh_wp_eq (dh_wpM_mono d) rfl
/-- DoubleHeap.pattern(II)I -/
theorem m103 {p0 : Nat} {x1 : Int} {x2 : Int} : dh_wpM (d + 1) 103 [.inr (.inr (some p0)), .inl x1, .inl x2] h Q = dh_wp dh_sh (dh_wpM d) (dh_bl 103) Q 0 [some (.inr (.inr (some p0))), some (.inl x1), some (.inl x2), none, none] [] h := dh_mq (Nat.le_of_ble_eq_true rfl) rfl
theorem u104_0 : dh_wp dh_sh (dh_wpM d) (dh_bl 104) Q 0 ls st h = dh_wpB dh_sh (dh_wpM d) (dh_wp dh_sh (dh_wpM d) (dh_bl 104) Q) Q bk104_0 ls st h := dh_wp_eq (dh_wpM_mono d) rfl
theorem u104_1 : dh_wp dh_sh (dh_wpM d) (dh_bl 104) Q 1 ls st h = dh_wpB dh_sh (dh_wpM d) (dh_wp dh_sh (dh_wpM d) (dh_bl 104) Q) Q bk104_1 ls st h := dh_wp_eq (dh_wpM_mono d) rfl
theorem u104_2 : dh_wp dh_sh (dh_wpM d) (dh_bl 104) Q 2 ls st h = dh_wpB dh_sh (dh_wpM d) (dh_wp dh_sh (dh_wpM d) (dh_bl 104) Q) Q bk104_2 ls st h := dh_wp_eq (dh_wpM_mono d) rfl
theorem u104_3 : dh_wp dh_sh (dh_wpM d) (dh_bl 104) Q 3 ls st h = dh_wpB dh_sh (dh_wpM d) (dh_wp dh_sh (dh_wpM d) (dh_bl 104) Q) Q bk104_3 ls st h := dh_wp_eq (dh_wpM_mono d) rfl
theorem u104_4 : dh_wp dh_sh (dh_wpM d) (dh_bl 104) Q 4 ls st h = dh_wpB dh_sh (dh_wpM d) (dh_wp dh_sh (dh_wpM d) (dh_bl 104) Q) Q bk104_4 ls st h := dh_wp_eq (dh_wpM_mono d) rfl
/-- DoubleHeap.simple(II)I -/
theorem m104 {p0 : Nat} {x1 : Int} {x2 : Int} : dh_wpM (d + 1) 104 [.inr (.inr (some p0)), .inl x1, .inl x2] h Q = dh_wp dh_sh (dh_wpM d) (dh_bl 104) Q 0 [some (.inr (.inr (some p0))), some (.inl x1), some (.inl x2), none, none, none] [] h := dh_mq (Nat.le_of_ble_eq_true rfl) rfl
theorem u105_0 : dh_wp dh_sh (dh_wpM d) (dh_bl 105) Q 0 ls st h = dh_wpB dh_sh (dh_wpM d) (dh_wp dh_sh (dh_wpM d) (dh_bl 105) Q) Q bk105_0 ls st h := dh_wp_eq (dh_wpM_mono d) rfl
/-- DoubleHeap.longest(IIII)I -/
theorem m105 {p0 : Nat} {x1 : Int} {x2 : Int} {x3 : Int} {x4 : Int} : dh_wpM (d + 1) 105 [.inr (.inr (some p0)), .inl x1, .inl x2, .inl x3, .inl x4] h Q = dh_wp dh_sh (dh_wpM d) (dh_bl 105) Q 0 [some (.inr (.inr (some p0))), some (.inl x1), some (.inl x2), some (.inl x3), some (.inl x4)] [] h := dh_mq (Nat.le_of_ble_eq_true rfl) rfl
theorem u106_0 : dh_wp dh_sh (dh_wpM d) (dh_bl 106) Q 0 ls st h = dh_wpB dh_sh (dh_wpM d) (dh_wp dh_sh (dh_wpM d) (dh_bl 106) Q) Q bk106_0 ls st h := dh_wp_eq (dh_wpM_mono d) rfl
theorem u106_1 : dh_wp dh_sh (dh_wpM d) (dh_bl 106) Q 1 ls st h = dh_wpB dh_sh (dh_wpM d) (dh_wp dh_sh (dh_wpM d) (dh_bl 106) Q) Q bk106_1 ls st h := dh_wp_eq (dh_wpM_mono d) rfl
theorem u106_2 : dh_wp dh_sh (dh_wpM d) (dh_bl 106) Q 2 ls st h = dh_wpB dh_sh (dh_wpM d) (dh_wp dh_sh (dh_wpM d) (dh_bl 106) Q) Q bk106_2 ls st h := dh_wp_eq (dh_wpM_mono d) rfl
theorem u106_3 : dh_wp dh_sh (dh_wpM d) (dh_bl 106) Q 3 ls st h = dh_wpB dh_sh (dh_wpM d) (dh_wp dh_sh (dh_wpM d) (dh_bl 106) Q) Q bk106_3 ls st h := dh_wp_eq (dh_wpM_mono d) rfl
theorem u106_4 : dh_wp dh_sh (dh_wpM d) (dh_bl 106) Q 4 ls st h = dh_wpB dh_sh (dh_wpM d) (dh_wp dh_sh (dh_wpM d) (dh_bl 106) Q) Q bk106_4 ls st h := dh_wp_eq (dh_wpM_mono d) rfl
theorem u106_5 : dh_wp dh_sh (dh_wpM d) (dh_bl 106) Q 5 ls st h = dh_wpB dh_sh (dh_wpM d) (dh_wp dh_sh (dh_wpM d) (dh_bl 106) Q) Q bk106_5 ls st h := dh_wp_eq (dh_wpM_mono d) rfl
theorem u106_6 : dh_wp dh_sh (dh_wpM d) (dh_bl 106) Q 6 ls st h = dh_wpB dh_sh (dh_wpM d) (dh_wp dh_sh (dh_wpM d) (dh_bl 106) Q) Q bk106_6 ls st h := dh_wp_eq (dh_wpM_mono d) rfl
theorem u106_7 : dh_wp dh_sh (dh_wpM d) (dh_bl 106) Q 7 ls st h = dh_wpB dh_sh (dh_wpM d) (dh_wp dh_sh (dh_wpM d) (dh_bl 106) Q) Q bk106_7 ls st h := dh_wp_eq (dh_wpM_mono d) rfl
theorem u106_8 : dh_wp dh_sh (dh_wpM d) (dh_bl 106) Q 8 ls st h = dh_wpB dh_sh (dh_wpM d) (dh_wp dh_sh (dh_wpM d) (dh_bl 106) Q) Q bk106_8 ls st h := dh_wp_eq (dh_wpM_mono d) rfl
theorem u106_9 : dh_wp dh_sh (dh_wpM d) (dh_bl 106) Q 9 ls st h = dh_wpB dh_sh (dh_wpM d) (dh_wp dh_sh (dh_wpM d) (dh_bl 106) Q) Q bk106_9 ls st h := dh_wp_eq (dh_wpM_mono d) rfl
theorem u106_10 : dh_wp dh_sh (dh_wpM d) (dh_bl 106) Q 10 ls st h = dh_wpB dh_sh (dh_wpM d) (dh_wp dh_sh (dh_wpM d) (dh_bl 106) Q) Q bk106_10 ls st h := dh_wp_eq (dh_wpM_mono d) rfl
theorem u106_11 : dh_wp dh_sh (dh_wpM d) (dh_bl 106) Q 11 ls st h = dh_wpB dh_sh (dh_wpM d) (dh_wp dh_sh (dh_wpM d) (dh_bl 106) Q) Q bk106_11 ls st h := dh_wp_eq (dh_wpM_mono d) rfl
theorem u106_12 : dh_wp dh_sh (dh_wpM d) (dh_bl 106) Q 12 ls st h = dh_wpB dh_sh (dh_wpM d) (dh_wp dh_sh (dh_wpM d) (dh_bl 106) Q) Q bk106_12 ls st h := dh_wp_eq (dh_wpM_mono d) rfl
theorem u106_13 : dh_wp dh_sh (dh_wpM d) (dh_bl 106) Q 13 ls st h = dh_wpB dh_sh (dh_wpM d) (dh_wp dh_sh (dh_wpM d) (dh_bl 106) Q) Q bk106_13 ls st h := dh_wp_eq (dh_wpM_mono d) rfl
theorem u106_14 : dh_wp dh_sh (dh_wpM d) (dh_bl 106) Q 14 ls st h = dh_wpB dh_sh (dh_wpM d) (dh_wp dh_sh (dh_wpM d) (dh_bl 106) Q) Q bk106_14 ls st h := dh_wp_eq (dh_wpM_mono d) rfl
theorem u106_15 : dh_wp dh_sh (dh_wpM d) (dh_bl 106) Q 15 ls st h = dh_wpB dh_sh (dh_wpM d) (dh_wp dh_sh (dh_wpM d) (dh_bl 106) Q) Q bk106_15 ls st h := dh_wp_eq (dh_wpM_mono d) rfl
theorem u106_16 : dh_wp dh_sh (dh_wpM d) (dh_bl 106) Q 16 ls st h = dh_wpB dh_sh (dh_wpM d) (dh_wp dh_sh (dh_wpM d) (dh_bl 106) Q) Q bk106_16 ls st h := dh_wp_eq (dh_wpM_mono d) rfl
theorem u106_17 : dh_wp dh_sh (dh_wpM d) (dh_bl 106) Q 17 ls st h = dh_wpB dh_sh (dh_wpM d) (dh_wp dh_sh (dh_wpM d) (dh_bl 106) Q) Q bk106_17 ls st h := dh_wp_eq (dh_wpM_mono d) rfl
theorem u106_18 : dh_wp dh_sh (dh_wpM d) (dh_bl 106) Q 18 ls st h = dh_wpB dh_sh (dh_wpM d) (dh_wp dh_sh (dh_wpM d) (dh_bl 106) Q) Q bk106_18 ls st h := dh_wp_eq (dh_wpM_mono d) rfl
theorem u106_19 : dh_wp dh_sh (dh_wpM d) (dh_bl 106) Q 19 ls st h = dh_wpB dh_sh (dh_wpM d) (dh_wp dh_sh (dh_wpM d) (dh_bl 106) Q) Q bk106_19 ls st h := dh_wp_eq (dh_wpM_mono d) rfl
/-- DoubleHeap.unlike(III)I -/
theorem m106 {p0 : Nat} {x1 : Int} {x2 : Int} {x3 : Int} : dh_wpM (d + 1) 106 [.inr (.inr (some p0)), .inl x1, .inl x2, .inl x3] h Q = dh_wp dh_sh (dh_wpM d) (dh_bl 106) Q 0 [some (.inr (.inr (some p0))), some (.inl x1), some (.inl x2), some (.inl x3), none, none, none, none, none, none, none] [] h := dh_mq (Nat.le_of_ble_eq_true rfl) rfl
theorem u107_0 : dh_wp dh_sh (dh_wpM d) (dh_bl 107) Q 0 ls st h = dh_wpB dh_sh (dh_wpM d) (dh_wp dh_sh (dh_wpM d) (dh_bl 107) Q) Q bk107_0 ls st h := dh_wp_eq (dh_wpM_mono d) rfl
theorem u107_1 : dh_wp dh_sh (dh_wpM d) (dh_bl 107) Q 1 ls st h = dh_wpB dh_sh (dh_wpM d) (dh_wp dh_sh (dh_wpM d) (dh_bl 107) Q) Q bk107_1 ls st h := dh_wp_eq (dh_wpM_mono d) rfl
theorem u107_2 : dh_wp dh_sh (dh_wpM d) (dh_bl 107) Q 2 ls st h = dh_wpB dh_sh (dh_wpM d) (dh_wp dh_sh (dh_wpM d) (dh_bl 107) Q) Q bk107_2 ls st h := dh_wp_eq (dh_wpM_mono d) rfl
theorem u107_3 : dh_wp dh_sh (dh_wpM d) (dh_bl 107) Q 3 ls st h = dh_wpB dh_sh (dh_wpM d) (dh_wp dh_sh (dh_wpM d) (dh_bl 107) Q) Q bk107_3 ls st h := dh_wp_eq (dh_wpM_mono d) rfl
theorem u107_4 : dh_wp dh_sh (dh_wpM d) (dh_bl 107) Q 4 ls st h = dh_wpB dh_sh (dh_wpM d) (dh_wp dh_sh (dh_wpM d) (dh_bl 107) Q) Q bk107_4 ls st h := dh_wp_eq (dh_wpM_mono d) rfl
/-- DoubleHeap.judged(IIII)I -/
theorem m107 {p0 : Nat} {x1 : Int} {x2 : Int} {x3 : Int} {x4 : Int} : dh_wpM (d + 1) 107 [.inr (.inr (some p0)), .inl x1, .inl x2, .inl x3, .inl x4] h Q = dh_wp dh_sh (dh_wpM d) (dh_bl 107) Q 0 [some (.inr (.inr (some p0))), some (.inl x1), some (.inl x2), some (.inl x3), some (.inl x4), none, none] [] h := dh_mq (Nat.le_of_ble_eq_true rfl) rfl
theorem u108_0 : dh_wp dh_sh (dh_wpM d) (dh_bl 108) Q 0 ls st h = dh_wpB dh_sh (dh_wpM d) (dh_wp dh_sh (dh_wpM d) (dh_bl 108) Q) Q bk108_0 ls st h := dh_wp_eq (dh_wpM_mono d) rfl
theorem u108_1 : dh_wp dh_sh (dh_wpM d) (dh_bl 108) Q 1 ls st h = dh_wpB dh_sh (dh_wpM d) (dh_wp dh_sh (dh_wpM d) (dh_bl 108) Q) Q bk108_1 ls st h := dh_wp_eq (dh_wpM_mono d) rfl
theorem u108_2 : dh_wp dh_sh (dh_wpM d) (dh_bl 108) Q 2 ls st h = dh_wpB dh_sh (dh_wpM d) (dh_wp dh_sh (dh_wpM d) (dh_bl 108) Q) Q bk108_2 ls st h := dh_wp_eq (dh_wpM_mono d) rfl
theorem u108_3 : dh_wp dh_sh (dh_wpM d) (dh_bl 108) Q 3 ls st h = dh_wpB dh_sh (dh_wpM d) (dh_wp dh_sh (dh_wpM d) (dh_bl 108) Q) Q bk108_3 ls st h := dh_wp_eq (dh_wpM_mono d) rfl
theorem u108_4 : dh_wp dh_sh (dh_wpM d) (dh_bl 108) Q 4 ls st h = dh_wpB dh_sh (dh_wpM d) (dh_wp dh_sh (dh_wpM d) (dh_bl 108) Q) Q bk108_4 ls st h := dh_wp_eq (dh_wpM_mono d) rfl
theorem u108_5 : dh_wp dh_sh (dh_wpM d) (dh_bl 108) Q 5 ls st h = dh_wpB dh_sh (dh_wpM d) (dh_wp dh_sh (dh_wpM d) (dh_bl 108) Q) Q bk108_5 ls st h := dh_wp_eq (dh_wpM_mono d) rfl
/-- DoubleHeap.fromWhen(II)I -/
theorem m108 {p0 : Nat} {x1 : Int} {x2 : Int} : dh_wpM (d + 1) 108 [.inr (.inr (some p0)), .inl x1, .inl x2] h Q = dh_wp dh_sh (dh_wpM d) (dh_bl 108) Q 0 [some (.inr (.inr (some p0))), some (.inl x1), some (.inl x2), none, none, none, none] [] h := dh_mq (Nat.le_of_ble_eq_true rfl) rfl
theorem u109_0 : dh_wp dh_sh (dh_wpM d) (dh_bl 109) Q 0 ls st h = dh_wpB dh_sh (dh_wpM d) (dh_wp dh_sh (dh_wpM d) (dh_bl 109) Q) Q bk109_0 ls st h := dh_wp_eq (dh_wpM_mono d) rfl
theorem u109_1 : dh_wp dh_sh (dh_wpM d) (dh_bl 109) Q 1 ls st h = dh_wpB dh_sh (dh_wpM d) (dh_wp dh_sh (dh_wpM d) (dh_bl 109) Q) Q bk109_1 ls st h := dh_wp_eq (dh_wpM_mono d) rfl
theorem u109_2 : dh_wp dh_sh (dh_wpM d) (dh_bl 109) Q 2 ls st h = dh_wpB dh_sh (dh_wpM d) (dh_wp dh_sh (dh_wpM d) (dh_bl 109) Q) Q bk109_2 ls st h := dh_wp_eq (dh_wpM_mono d) rfl
theorem u109_3 : dh_wp dh_sh (dh_wpM d) (dh_bl 109) Q 3 ls st h = dh_wpB dh_sh (dh_wpM d) (dh_wp dh_sh (dh_wpM d) (dh_bl 109) Q) Q bk109_3 ls st h := dh_wp_eq (dh_wpM_mono d) rfl
theorem u109_4 : dh_wp dh_sh (dh_wpM d) (dh_bl 109) Q 4 ls st h = dh_wpB dh_sh (dh_wpM d) (dh_wp dh_sh (dh_wpM d) (dh_bl 109) Q) Q bk109_4 ls st h := dh_wp_eq (dh_wpM_mono d) rfl
theorem u109_5 : dh_wp dh_sh (dh_wpM d) (dh_bl 109) Q 5 ls st h = dh_wpB dh_sh (dh_wpM d) (dh_wp dh_sh (dh_wpM d) (dh_bl 109) Q) Q bk109_5 ls st h := dh_wp_eq (dh_wpM_mono d) rfl
/-- DoubleHeap.thought(I)I -/
theorem m109 {p0 : Nat} {x1 : Int} : dh_wpM (d + 1) 109 [.inr (.inr (some p0)), .inl x1] h Q = dh_wp dh_sh (dh_wpM d) (dh_bl 109) Q 0 [some (.inr (.inr (some p0))), some (.inl x1), none, none, none] [] h := dh_mq (Nat.le_of_ble_eq_true rfl) rfl
theorem u110_0 : dh_wp dh_sh (dh_wpM d) (dh_bl 110) Q 0 ls st h = dh_wpB dh_sh (dh_wpM d) (dh_wp dh_sh (dh_wpM d) (dh_bl 110) Q) Q bk110_0 ls st h := dh_wp_eq (dh_wpM_mono d) rfl
theorem u110_1 : dh_wp dh_sh (dh_wpM d) (dh_bl 110) Q 1 ls st h = dh_wpB dh_sh (dh_wpM d) (dh_wp dh_sh (dh_wpM d) (dh_bl 110) Q) Q bk110_1 ls st h := dh_wp_eq (dh_wpM_mono d) rfl
theorem u110_2 : dh_wp dh_sh (dh_wpM d) (dh_bl 110) Q 2 ls st h = dh_wpB dh_sh (dh_wpM d) (dh_wp dh_sh (dh_wpM d) (dh_bl 110) Q) Q bk110_2 ls st h := dh_wp_eq (dh_wpM_mono d) rfl
theorem u110_3 : dh_wp dh_sh (dh_wpM d) (dh_bl 110) Q 3 ls st h = dh_wpB dh_sh (dh_wpM d) (dh_wp dh_sh (dh_wpM d) (dh_bl 110) Q) Q bk110_3 ls st h := dh_wp_eq (dh_wpM_mono d) rfl
theorem u110_4 : dh_wp dh_sh (dh_wpM d) (dh_bl 110) Q 4 ls st h = dh_wpB dh_sh (dh_wpM d) (dh_wp dh_sh (dh_wpM d) (dh_bl 110) Q) Q bk110_4 ls st h := dh_wp_eq (dh_wpM_mono d) rfl
theorem u110_5 : dh_wp dh_sh (dh_wpM d) (dh_bl 110) Q 5 ls st h = dh_wpB dh_sh (dh_wpM d) (dh_wp dh_sh (dh_wpM d) (dh_bl 110) Q) Q bk110_5 ls st h := dh_wp_eq (dh_wpM_mono d) rfl
theorem u110_6 : dh_wp dh_sh (dh_wpM d) (dh_bl 110) Q 6 ls st h = dh_wpB dh_sh (dh_wpM d) (dh_wp dh_sh (dh_wpM d) (dh_bl 110) Q) Q bk110_6 ls st h := dh_wp_eq (dh_wpM_mono d) rfl
theorem u110_7 : dh_wp dh_sh (dh_wpM d) (dh_bl 110) Q 7 ls st h = dh_wpB dh_sh (dh_wpM d) (dh_wp dh_sh (dh_wpM d) (dh_bl 110) Q) Q bk110_7 ls st h := dh_wp_eq (dh_wpM_mono d) rfl
theorem u110_8 : dh_wp dh_sh (dh_wpM d) (dh_bl 110) Q 8 ls st h = dh_wpB dh_sh (dh_wpM d) (dh_wp dh_sh (dh_wpM d) (dh_bl 110) Q) Q bk110_8 ls st h := dh_wp_eq (dh_wpM_mono d) rfl
theorem u110_9 : dh_wp dh_sh (dh_wpM d) (dh_bl 110) Q 9 ls st h = dh_wpB dh_sh (dh_wpM d) (dh_wp dh_sh (dh_wpM d) (dh_bl 110) Q) Q bk110_9 ls st h := dh_wp_eq (dh_wpM_mono d) rfl
/-- DoubleHeap.chance(IIII)J -/
theorem m110 {p0 : Nat} {x1 : Int} {x2 : Int} {x3 : Int} {x4 : Int} : dh_wpM (d + 1) 110 [.inr (.inr (some p0)), .inl x1, .inl x2, .inl x3, .inl x4] h Q = dh_wp dh_sh (dh_wpM d) (dh_bl 110) Q 0 [some (.inr (.inr (some p0))), some (.inl x1), some (.inl x2), some (.inl x3), some (.inl x4), none, none, none, none, none, none, none, none, none, none, none] [] h := dh_mq (Nat.le_of_ble_eq_true rfl) rfl
theorem u111_0 : dh_wp dh_sh (dh_wpM d) (dh_bl 111) Q 0 ls st h = dh_wpB dh_sh (dh_wpM d) (dh_wp dh_sh (dh_wpM d) (dh_bl 111) Q) Q bk111_0 ls st h := dh_wp_eq (dh_wpM_mono d) rfl
theorem u111_1 : dh_wp dh_sh (dh_wpM d) (dh_bl 111) Q 1 ls st h = dh_wpB dh_sh (dh_wpM d) (dh_wp dh_sh (dh_wpM d) (dh_bl 111) Q) Q bk111_1 ls st h := dh_wp_eq (dh_wpM_mono d) rfl
theorem u111_2 : dh_wp dh_sh (dh_wpM d) (dh_bl 111) Q 2 ls st h = dh_wpB dh_sh (dh_wpM d) (dh_wp dh_sh (dh_wpM d) (dh_bl 111) Q) Q bk111_2 ls st h := dh_wp_eq (dh_wpM_mono d) rfl
/-- DoubleHeap.stove(II)Z -/
theorem m111 {p0 : Nat} {x1 : Int} {x2 : Int} : dh_wpM (d + 1) 111 [.inr (.inr (some p0)), .inl x1, .inl x2] h Q = dh_wp dh_sh (dh_wpM d) (dh_bl 111) Q 0 [some (.inr (.inr (some p0))), some (.inl x1), some (.inl x2)] [] h := dh_mq (Nat.le_of_ble_eq_true rfl) rfl
theorem u112_0 : dh_wp dh_sh (dh_wpM d) (dh_bl 112) Q 0 ls st h = dh_wpB dh_sh (dh_wpM d) (dh_wp dh_sh (dh_wpM d) (dh_bl 112) Q) Q bk112_0 ls st h := dh_wp_eq (dh_wpM_mono d) rfl
theorem u112_1 : dh_wp dh_sh (dh_wpM d) (dh_bl 112) Q 1 ls st h = dh_wpB dh_sh (dh_wpM d) (dh_wp dh_sh (dh_wpM d) (dh_bl 112) Q) Q bk112_1 ls st h := dh_wp_eq (dh_wpM_mono d) rfl
theorem u112_2 : dh_wp dh_sh (dh_wpM d) (dh_bl 112) Q 2 ls st h = dh_wpB dh_sh (dh_wpM d) (dh_wp dh_sh (dh_wpM d) (dh_bl 112) Q) Q bk112_2 ls st h := dh_wp_eq (dh_wpM_mono d) rfl
/-- DoubleHeap.take(I)I -/
theorem m112 {p0 : Nat} {x1 : Int} : dh_wpM (d + 1) 112 [.inr (.inr (some p0)), .inl x1] h Q = dh_wp dh_sh (dh_wpM d) (dh_bl 112) Q 0 [some (.inr (.inr (some p0))), some (.inl x1), none] [] h := dh_mq (Nat.le_of_ble_eq_true rfl) rfl
theorem u113_0 : dh_wp dh_sh (dh_wpM d) (dh_bl 113) Q 0 ls st h = dh_wpB dh_sh (dh_wpM d) (dh_wp dh_sh (dh_wpM d) (dh_bl 113) Q) Q bk113_0 ls st h := dh_wp_eq (dh_wpM_mono d) rfl
theorem u113_1 : dh_wp dh_sh (dh_wpM d) (dh_bl 113) Q 1 ls st h = dh_wpB dh_sh (dh_wpM d) (dh_wp dh_sh (dh_wpM d) (dh_bl 113) Q) Q bk113_1 ls st h := dh_wp_eq (dh_wpM_mono d) rfl
/-- DoubleHeap.she()I -/
theorem m113 {p0 : Nat} : dh_wpM (d + 1) 113 [.inr (.inr (some p0))] h Q = dh_wp dh_sh (dh_wpM d) (dh_bl 113) Q 0 [some (.inr (.inr (some p0))), none, none] [] h := dh_mq (Nat.le_of_ble_eq_true rfl) rfl
theorem u114_0 : dh_wp dh_sh (dh_wpM d) (dh_bl 114) Q 0 ls st h = dh_wpB dh_sh (dh_wpM d) (dh_wp dh_sh (dh_wpM d) (dh_bl 114) Q) Q bk114_0 ls st h := dh_wp_eq (dh_wpM_mono d) rfl
theorem u114_1 : dh_wp dh_sh (dh_wpM d) (dh_bl 114) Q 1 ls st h = dh_wpB dh_sh (dh_wpM d) (dh_wp dh_sh (dh_wpM d) (dh_bl 114) Q) Q bk114_1 ls st h := dh_wp_eq (dh_wpM_mono d) rfl
theorem u114_2 : dh_wp dh_sh (dh_wpM d) (dh_bl 114) Q 2 ls st h = dh_wpB dh_sh (dh_wpM d) (dh_wp dh_sh (dh_wpM d) (dh_bl 114) Q) Q bk114_2 ls st h := dh_wp_eq (dh_wpM_mono d) rfl
/-- DoubleHeap.child()I -/
theorem m114 {p0 : Nat} : dh_wpM (d + 1) 114 [.inr (.inr (some p0))] h Q = dh_wp dh_sh (dh_wpM d) (dh_bl 114) Q 0 [some (.inr (.inr (some p0))), none, none, none, none] [] h := dh_mq (Nat.le_of_ble_eq_true rfl) rfl
theorem u115_0 : dh_wp dh_sh (dh_wpM d) (dh_bl 115) Q 0 ls st h = dh_wpB dh_sh (dh_wpM d) (dh_wp dh_sh (dh_wpM d) (dh_bl 115) Q) Q bk115_0 ls st h := dh_wp_eq (dh_wpM_mono d) rfl
/-- DoubleHeap.back()I -/
theorem m115 {p0 : Nat} : dh_wpM (d + 1) 115 [.inr (.inr (some p0))] h Q = dh_wp dh_sh (dh_wpM d) (dh_bl 115) Q 0 [some (.inr (.inr (some p0)))] [] h := dh_mq (Nat.le_of_ble_eq_true rfl) rfl
theorem u116_0 : dh_wp dh_sh (dh_wpM d) (dh_bl 116) Q 0 ls st h = dh_wpB dh_sh (dh_wpM d) (dh_wp dh_sh (dh_wpM d) (dh_bl 116) Q) Q bk116_0 ls st h := dh_wp_eq (dh_wpM_mono d) rfl
theorem u116_1 : dh_wp dh_sh (dh_wpM d) (dh_bl 116) Q 1 ls st h = dh_wpB dh_sh (dh_wpM d) (dh_wp dh_sh (dh_wpM d) (dh_bl 116) Q) Q bk116_1 ls st h := dh_wp_eq (dh_wpM_mono d) rfl
theorem u116_2 : dh_wp dh_sh (dh_wpM d) (dh_bl 116) Q 2 ls st h = dh_wpB dh_sh (dh_wpM d) (dh_wp dh_sh (dh_wpM d) (dh_bl 116) Q) Q bk116_2 ls st h := dh_wp_eq (dh_wpM_mono d) rfl
theorem u116_3 : dh_wp dh_sh (dh_wpM d) (dh_bl 116) Q 3 ls st h = dh_wpB dh_sh (dh_wpM d) (dh_wp dh_sh (dh_wpM d) (dh_bl 116) Q) Q bk116_3 ls st h := dh_wp_eq (dh_wpM_mono d) rfl
theorem u116_4 : dh_wp dh_sh (dh_wpM d) (dh_bl 116) Q 4 ls st h = dh_wpB dh_sh (dh_wpM d) (dh_wp dh_sh (dh_wpM d) (dh_bl 116) Q) Q bk116_4 ls st h := dh_wp_eq (dh_wpM_mono d) rfl
theorem u116_5 : dh_wp dh_sh (dh_wpM d) (dh_bl 116) Q 5 ls st h = dh_wpB dh_sh (dh_wpM d) (dh_wp dh_sh (dh_wpM d) (dh_bl 116) Q) Q bk116_5 ls st h := dh_wp_eq (dh_wpM_mono d) rfl
theorem u116_6 : dh_wp dh_sh (dh_wpM d) (dh_bl 116) Q 6 ls st h = dh_wpB dh_sh (dh_wpM d) (dh_wp dh_sh (dh_wpM d) (dh_bl 116) Q) Q bk116_6 ls st h := dh_wp_eq (dh_wpM_mono d) rfl
theorem u116_7 : dh_wp dh_sh (dh_wpM d) (dh_bl 116) Q 7 ls st h = dh_wpB dh_sh (dh_wpM d) (dh_wp dh_sh (dh_wpM d) (dh_bl 116) Q) Q bk116_7 ls st h := dh_wp_eq (dh_wpM_mono d) rfl
/-- DoubleHeap.against(IIII)I -/
theorem m116 {p0 : Nat} {x1 : Int} {x2 : Int} {x3 : Int} {x4 : Int} : dh_wpM (d + 1) 116 [.inr (.inr (some p0)), .inl x1, .inl x2, .inl x3, .inl x4] h Q = dh_wp dh_sh (dh_wpM d) (dh_bl 116) Q 0 [some (.inr (.inr (some p0))), some (.inl x1), some (.inl x2), some (.inl x3), some (.inl x4), none, none] [] h := dh_mq (Nat.le_of_ble_eq_true rfl) rfl
theorem u117_0 : dh_wp dh_sh (dh_wpM d) (dh_bl 117) Q 0 ls st h = dh_wpB dh_sh (dh_wpM d) (dh_wp dh_sh (dh_wpM d) (dh_bl 117) Q) Q bk117_0 ls st h := dh_wp_eq (dh_wpM_mono d) rfl
theorem u117_1 : dh_wp dh_sh (dh_wpM d) (dh_bl 117) Q 1 ls st h = dh_wpB dh_sh (dh_wpM d) (dh_wp dh_sh (dh_wpM d) (dh_bl 117) Q) Q bk117_1 ls st h := dh_wp_eq (dh_wpM_mono d) rfl
theorem u117_2 : dh_wp dh_sh (dh_wpM d) (dh_bl 117) Q 2 ls st h = dh_wpB dh_sh (dh_wpM d) (dh_wp dh_sh (dh_wpM d) (dh_bl 117) Q) Q bk117_2 ls st h := dh_wp_eq (dh_wpM_mono d) rfl
theorem u117_3 : dh_wp dh_sh (dh_wpM d) (dh_bl 117) Q 3 ls st h = dh_wpB dh_sh (dh_wpM d) (dh_wp dh_sh (dh_wpM d) (dh_bl 117) Q) Q bk117_3 ls st h := dh_wp_eq (dh_wpM_mono d) rfl
theorem u117_4 : dh_wp dh_sh (dh_wpM d) (dh_bl 117) Q 4 ls st h = dh_wpB dh_sh (dh_wpM d) (dh_wp dh_sh (dh_wpM d) (dh_bl 117) Q) Q bk117_4 ls st h := dh_wp_eq (dh_wpM_mono d) rfl
theorem u117_5 : dh_wp dh_sh (dh_wpM d) (dh_bl 117) Q 5 ls st h = dh_wpB dh_sh (dh_wpM d) (dh_wp dh_sh (dh_wpM d) (dh_bl 117) Q) Q bk117_5 ls st h := dh_wp_eq (dh_wpM_mono d) rfl
theorem u117_6 : dh_wp dh_sh (dh_wpM d) (dh_bl 117) Q 6 ls st h = dh_wpB dh_sh (dh_wpM d) (dh_wp dh_sh (dh_wpM d) (dh_bl 117) Q) Q bk117_6 ls st h := dh_wp_eq (dh_wpM_mono d) rfl
theorem u117_7 : dh_wp dh_sh (dh_wpM d) (dh_bl 117) Q 7 ls st h = dh_wpB dh_sh (dh_wpM d) (dh_wp dh_sh (dh_wpM d) (dh_bl 117) Q) Q bk117_7 ls st h := dh_wp_eq (dh_wpM_mono d) rfl
theorem u117_8 : dh_wp dh_sh (dh_wpM d) (dh_bl 117) Q 8 ls st h = dh_wpB dh_sh (dh_wpM d) (dh_wp dh_sh (dh_wpM d) (dh_bl 117) Q) Q bk117_8 ls st h := dh_wp_eq (dh_wpM_mono d) rfl
/-- DoubleHeap.evenings(IIII)I -/
theorem m117 {p0 : Nat} {x1 : Int} {x2 : Int} {x3 : Int} {x4 : Int} : dh_wpM (d + 1) 117 [.inr (.inr (some p0)), .inl x1, .inl x2, .inl x3, .inl x4] h Q = dh_wp dh_sh (dh_wpM d) (dh_bl 117) Q 0 [some (.inr (.inr (some p0))), some (.inl x1), some (.inl x2), some (.inl x3), some (.inl x4), none, none, none] [] h := dh_mq (Nat.le_of_ble_eq_true rfl) rfl
theorem u118_0 : dh_wp dh_sh (dh_wpM d) (dh_bl 118) Q 0 ls st h = dh_wpB dh_sh (dh_wpM d) (dh_wp dh_sh (dh_wpM d) (dh_bl 118) Q) Q bk118_0 ls st h := dh_wp_eq (dh_wpM_mono d) rfl
theorem u118_1 : dh_wp dh_sh (dh_wpM d) (dh_bl 118) Q 1 ls st h = dh_wpB dh_sh (dh_wpM d) (dh_wp dh_sh (dh_wpM d) (dh_bl 118) Q) Q bk118_1 ls st h := dh_wp_eq (dh_wpM_mono d) rfl
theorem u118_2 : dh_wp dh_sh (dh_wpM d) (dh_bl 118) Q 2 ls st h = dh_wpB dh_sh (dh_wpM d) (dh_wp dh_sh (dh_wpM d) (dh_bl 118) Q) Q bk118_2 ls st h := dh_wp_eq (dh_wpM_mono d) rfl
/-- DoubleHeap.seed(I)Z -/
theorem m118 {p0 : Nat} {x1 : Int} : dh_wpM (d + 1) 118 [.inr (.inr (some p0)), .inl x1] h Q = dh_wp dh_sh (dh_wpM d) (dh_bl 118) Q 0 [some (.inr (.inr (some p0))), some (.inl x1)] [] h := dh_mq (Nat.le_of_ble_eq_true rfl) rfl
theorem u119_0 : dh_wp dh_sh (dh_wpM d) (dh_bl 119) Q 0 ls st h = dh_wpB dh_sh (dh_wpM d) (dh_wp dh_sh (dh_wpM d) (dh_bl 119) Q) Q bk119_0 ls st h := dh_wp_eq (dh_wpM_mono d) rfl
/-- DoubleHeap.keep()I -/
theorem m119 {p0 : Nat} : dh_wpM (d + 1) 119 [.inr (.inr (some p0))] h Q = dh_wp dh_sh (dh_wpM d) (dh_bl 119) Q 0 [some (.inr (.inr (some p0)))] [] h := dh_mq (Nat.le_of_ble_eq_true rfl) rfl
theorem u120_0 : dh_wp dh_sh (dh_wpM d) (dh_bl 120) Q 0 ls st h = dh_wpB dh_sh (dh_wpM d) (dh_wp dh_sh (dh_wpM d) (dh_bl 120) Q) Q bk120_0 ls st h := dh_wp_eq (dh_wpM_mono d) rfl
theorem u120_1 : dh_wp dh_sh (dh_wpM d) (dh_bl 120) Q 1 ls st h = dh_wpB dh_sh (dh_wpM d) (dh_wp dh_sh (dh_wpM d) (dh_bl 120) Q) Q bk120_1 ls st h := dh_wp_eq (dh_wpM_mono d) rfl
/-- DoubleHeap.undo()Z -/
theorem m120 {p0 : Nat} : dh_wpM (d + 1) 120 [.inr (.inr (some p0))] h Q = dh_wp dh_sh (dh_wpM d) (dh_bl 120) Q 0 [some (.inr (.inr (some p0)))] [] h := dh_mq (Nat.le_of_ble_eq_true rfl) rfl
theorem u121_0 : dh_wp dh_sh (dh_wpM d) (dh_bl 121) Q 0 ls st h = dh_wpB dh_sh (dh_wpM d) (dh_wp dh_sh (dh_wpM d) (dh_bl 121) Q) Q bk121_0 ls st h := dh_wp_eq (dh_wpM_mono d) rfl
theorem u121_1 : dh_wp dh_sh (dh_wpM d) (dh_bl 121) Q 1 ls st h = dh_wpB dh_sh (dh_wpM d) (dh_wp dh_sh (dh_wpM d) (dh_bl 121) Q) Q bk121_1 ls st h := dh_wp_eq (dh_wpM_mono d) rfl
theorem u121_2 : dh_wp dh_sh (dh_wpM d) (dh_bl 121) Q 2 ls st h = dh_wpB dh_sh (dh_wpM d) (dh_wp dh_sh (dh_wpM d) (dh_bl 121) Q) Q bk121_2 ls st h := dh_wp_eq (dh_wpM_mono d) rfl
theorem u121_3 : dh_wp dh_sh (dh_wpM d) (dh_bl 121) Q 3 ls st h = dh_wpB dh_sh (dh_wpM d) (dh_wp dh_sh (dh_wpM d) (dh_bl 121) Q) Q bk121_3 ls st h := dh_wp_eq (dh_wpM_mono d) rfl
theorem u121_4 : dh_wp dh_sh (dh_wpM d) (dh_bl 121) Q 4 ls st h = dh_wpB dh_sh (dh_wpM d) (dh_wp dh_sh (dh_wpM d) (dh_bl 121) Q) Q bk121_4 ls st h := dh_wp_eq (dh_wpM_mono d) rfl
theorem u121_5 : dh_wp dh_sh (dh_wpM d) (dh_bl 121) Q 5 ls st h = dh_wpB dh_sh (dh_wpM d) (dh_wp dh_sh (dh_wpM d) (dh_bl 121) Q) Q bk121_5 ls st h := dh_wp_eq (dh_wpM_mono d) rfl
/-- DoubleHeap.check(II)I -/
theorem m121 {p0 : Nat} {x1 : Int} {x2 : Int} : dh_wpM (d + 1) 121 [.inr (.inr (some p0)), .inl x1, .inl x2] h Q = dh_wp dh_sh (dh_wpM d) (dh_bl 121) Q 0 [some (.inr (.inr (some p0))), some (.inl x1), some (.inl x2), none, none, none] [] h := dh_mq (Nat.le_of_ble_eq_true rfl) rfl
theorem u122_0 : dh_wp dh_sh (dh_wpM d) (dh_bl 122) Q 0 ls st h = dh_wpB dh_sh (dh_wpM d) (dh_wp dh_sh (dh_wpM d) (dh_bl 122) Q) Q bk122_0 ls st h := dh_wp_eq (dh_wpM_mono d) rfl
theorem u122_1 : dh_wp dh_sh (dh_wpM d) (dh_bl 122) Q 1 ls st h = dh_wpB dh_sh (dh_wpM d) (dh_wp dh_sh (dh_wpM d) (dh_bl 122) Q) Q bk122_1 ls st h := dh_wp_eq (dh_wpM_mono d) rfl
theorem u122_2 : dh_wp dh_sh (dh_wpM d) (dh_bl 122) Q 2 ls st h = dh_wpB dh_sh (dh_wpM d) (dh_wp dh_sh (dh_wpM d) (dh_bl 122) Q) Q bk122_2 ls st h := dh_wp_eq (dh_wpM_mono d) rfl
theorem u122_3 : dh_wp dh_sh (dh_wpM d) (dh_bl 122) Q 3 ls st h = dh_wpB dh_sh (dh_wpM d) (dh_wp dh_sh (dh_wpM d) (dh_bl 122) Q) Q bk122_3 ls st h := dh_wp_eq (dh_wpM_mono d) rfl
theorem u122_4 : dh_wp dh_sh (dh_wpM d) (dh_bl 122) Q 4 ls st h = dh_wpB dh_sh (dh_wpM d) (dh_wp dh_sh (dh_wpM d) (dh_bl 122) Q) Q bk122_4 ls st h := dh_wp_eq (dh_wpM_mono d) rfl
theorem u122_5 : dh_wp dh_sh (dh_wpM d) (dh_bl 122) Q 5 ls st h = dh_wpB dh_sh (dh_wpM d) (dh_wp dh_sh (dh_wpM d) (dh_bl 122) Q) Q bk122_5 ls st h := dh_wp_eq (dh_wpM_mono d) rfl
theorem u122_6 : dh_wp dh_sh (dh_wpM d) (dh_bl 122) Q 6 ls st h = dh_wpB dh_sh (dh_wpM d) (dh_wp dh_sh (dh_wpM d) (dh_bl 122) Q) Q bk122_6 ls st h := dh_wp_eq (dh_wpM_mono d) rfl
theorem u122_7 : dh_wp dh_sh (dh_wpM d) (dh_bl 122) Q 7 ls st h = dh_wpB dh_sh (dh_wpM d) (dh_wp dh_sh (dh_wpM d) (dh_bl 122) Q) Q bk122_7 ls st h := dh_wp_eq (dh_wpM_mono d) rfl
theorem u122_8 : dh_wp dh_sh (dh_wpM d) (dh_bl 122) Q 8 ls st h = dh_wpB dh_sh (dh_wpM d) (dh_wp dh_sh (dh_wpM d) (dh_bl 122) Q) Q bk122_8 ls st h := dh_wp_eq (dh_wpM_mono d) rfl
theorem u122_9 : dh_wp dh_sh (dh_wpM d) (dh_bl 122) Q 9 ls st h = dh_wpB dh_sh (dh_wpM d) (dh_wp dh_sh (dh_wpM d) (dh_bl 122) Q) Q bk122_9 ls st h := dh_wp_eq (dh_wpM_mono d) rfl
/-- DoubleHeap.count(I)I -/
theorem m122 {p0 : Nat} {x1 : Int} : dh_wpM (d + 1) 122 [.inr (.inr (some p0)), .inl x1] h Q = dh_wp dh_sh (dh_wpM d) (dh_bl 122) Q 0 [some (.inr (.inr (some p0))), some (.inl x1)] [] h := dh_mq (Nat.le_of_ble_eq_true rfl) rfl
theorem u123_0 : dh_wp dh_sh (dh_wpM d) (dh_bl 123) Q 0 ls st h = dh_wpB dh_sh (dh_wpM d) (dh_wp dh_sh (dh_wpM d) (dh_bl 123) Q) Q bk123_0 ls st h := dh_wp_eq (dh_wpM_mono d) rfl
theorem u123_1 : dh_wp dh_sh (dh_wpM d) (dh_bl 123) Q 1 ls st h = dh_wpB dh_sh (dh_wpM d) (dh_wp dh_sh (dh_wpM d) (dh_bl 123) Q) Q bk123_1 ls st h := dh_wp_eq (dh_wpM_mono d) rfl
theorem u123_2 : dh_wp dh_sh (dh_wpM d) (dh_bl 123) Q 2 ls st h = dh_wpB dh_sh (dh_wpM d) (dh_wp dh_sh (dh_wpM d) (dh_bl 123) Q) Q bk123_2 ls st h := dh_wp_eq (dh_wpM_mono d) rfl
theorem u123_3 : dh_wp dh_sh (dh_wpM d) (dh_bl 123) Q 3 ls st h = dh_wpB dh_sh (dh_wpM d) (dh_wp dh_sh (dh_wpM d) (dh_bl 123) Q) Q bk123_3 ls st h := dh_wp_eq (dh_wpM_mono d) rfl
theorem u123_4 : dh_wp dh_sh (dh_wpM d) (dh_bl 123) Q 4 ls st h = dh_wpB dh_sh (dh_wpM d) (dh_wp dh_sh (dh_wpM d) (dh_bl 123) Q) Q bk123_4 ls st h := dh_wp_eq (dh_wpM_mono d) rfl
/-- DoubleHeap.toldLaws()I -/
theorem m123 {p0 : Nat} : dh_wpM (d + 1) 123 [.inr (.inr (some p0))] h Q = dh_wp dh_sh (dh_wpM d) (dh_bl 123) Q 0 [some (.inr (.inr (some p0))), none, none] [] h := dh_mq (Nat.le_of_ble_eq_true rfl) rfl
theorem u124_0 : dh_wp dh_sh (dh_wpM d) (dh_bl 124) Q 0 ls st h = dh_wpB dh_sh (dh_wpM d) (dh_wp dh_sh (dh_wpM d) (dh_bl 124) Q) Q bk124_0 ls st h := dh_wp_eq (dh_wpM_mono d) rfl
theorem u124_1 : dh_wp dh_sh (dh_wpM d) (dh_bl 124) Q 1 ls st h = dh_wpB dh_sh (dh_wpM d) (dh_wp dh_sh (dh_wpM d) (dh_bl 124) Q) Q bk124_1 ls st h := dh_wp_eq (dh_wpM_mono d) rfl
theorem u124_2 : dh_wp dh_sh (dh_wpM d) (dh_bl 124) Q 2 ls st h = dh_wpB dh_sh (dh_wpM d) (dh_wp dh_sh (dh_wpM d) (dh_bl 124) Q) Q bk124_2 ls st h := dh_wp_eq (dh_wpM_mono d) rfl
theorem u124_3 : dh_wp dh_sh (dh_wpM d) (dh_bl 124) Q 3 ls st h = dh_wpB dh_sh (dh_wpM d) (dh_wp dh_sh (dh_wpM d) (dh_bl 124) Q) Q bk124_3 ls st h := dh_wp_eq (dh_wpM_mono d) rfl
theorem u124_4 : dh_wp dh_sh (dh_wpM d) (dh_bl 124) Q 4 ls st h = dh_wpB dh_sh (dh_wpM d) (dh_wp dh_sh (dh_wpM d) (dh_bl 124) Q) Q bk124_4 ls st h := dh_wp_eq (dh_wpM_mono d) rfl
/-- DoubleHeap.toldTales()I -/
theorem m124 {p0 : Nat} : dh_wpM (d + 1) 124 [.inr (.inr (some p0))] h Q = dh_wp dh_sh (dh_wpM d) (dh_bl 124) Q 0 [some (.inr (.inr (some p0))), none, none] [] h := dh_mq (Nat.le_of_ble_eq_true rfl) rfl
theorem u125_0 : dh_wp dh_sh (dh_wpM d) (dh_bl 125) Q 0 ls st h = dh_wpB dh_sh (dh_wpM d) (dh_wp dh_sh (dh_wpM d) (dh_bl 125) Q) Q bk125_0 ls st h := dh_wp_eq (dh_wpM_mono d) rfl
theorem u125_1 : dh_wp dh_sh (dh_wpM d) (dh_bl 125) Q 1 ls st h = dh_wpB dh_sh (dh_wpM d) (dh_wp dh_sh (dh_wpM d) (dh_bl 125) Q) Q bk125_1 ls st h := dh_wp_eq (dh_wpM_mono d) rfl
theorem u125_2 : dh_wp dh_sh (dh_wpM d) (dh_bl 125) Q 2 ls st h = dh_wpB dh_sh (dh_wpM d) (dh_wp dh_sh (dh_wpM d) (dh_bl 125) Q) Q bk125_2 ls st h := dh_wp_eq (dh_wpM_mono d) rfl
theorem u125_3 : dh_wp dh_sh (dh_wpM d) (dh_bl 125) Q 3 ls st h = dh_wpB dh_sh (dh_wpM d) (dh_wp dh_sh (dh_wpM d) (dh_bl 125) Q) Q bk125_3 ls st h := dh_wp_eq (dh_wpM_mono d) rfl
theorem u125_4 : dh_wp dh_sh (dh_wpM d) (dh_bl 125) Q 4 ls st h = dh_wpB dh_sh (dh_wpM d) (dh_wp dh_sh (dh_wpM d) (dh_bl 125) Q) Q bk125_4 ls st h := dh_wp_eq (dh_wpM_mono d) rfl
theorem u125_5 : dh_wp dh_sh (dh_wpM d) (dh_bl 125) Q 5 ls st h = dh_wpB dh_sh (dh_wpM d) (dh_wp dh_sh (dh_wpM d) (dh_bl 125) Q) Q bk125_5 ls st h := dh_wp_eq (dh_wpM_mono d) rfl
theorem u125_6 : dh_wp dh_sh (dh_wpM d) (dh_bl 125) Q 6 ls st h = dh_wpB dh_sh (dh_wpM d) (dh_wp dh_sh (dh_wpM d) (dh_bl 125) Q) Q bk125_6 ls st h := dh_wp_eq (dh_wpM_mono d) rfl
/-- DoubleHeap.sizeOfText(I)I -/
theorem m125 {p0 : Nat} {x1 : Int} : dh_wpM (d + 1) 125 [.inr (.inr (some p0)), .inl x1] h Q = dh_wp dh_sh (dh_wpM d) (dh_bl 125) Q 0 [some (.inr (.inr (some p0))), some (.inl x1), none] [] h := dh_mq (Nat.le_of_ble_eq_true rfl) rfl
theorem u126_0 : dh_wp dh_sh (dh_wpM d) (dh_bl 126) Q 0 ls st h = dh_wpB dh_sh (dh_wpM d) (dh_wp dh_sh (dh_wpM d) (dh_bl 126) Q) Q bk126_0 ls st h := dh_wp_eq (dh_wpM_mono d) rfl
theorem u126_1 : dh_wp dh_sh (dh_wpM d) (dh_bl 126) Q 1 ls st h = dh_wpB dh_sh (dh_wpM d) (dh_wp dh_sh (dh_wpM d) (dh_bl 126) Q) Q bk126_1 ls st h := dh_wp_eq (dh_wpM_mono d) rfl
theorem u126_2 : dh_wp dh_sh (dh_wpM d) (dh_bl 126) Q 2 ls st h = dh_wpB dh_sh (dh_wpM d) (dh_wp dh_sh (dh_wpM d) (dh_bl 126) Q) Q bk126_2 ls st h := dh_wp_eq (dh_wpM_mono d) rfl
/-- DoubleHeap.lawAt(I)LDoubleHeap$Law; -/
theorem m126 {p0 : Nat} {x1 : Int} : dh_wpM (d + 1) 126 [.inr (.inr (some p0)), .inl x1] h Q = dh_wp dh_sh (dh_wpM d) (dh_bl 126) Q 0 [some (.inr (.inr (some p0))), some (.inl x1)] [] h := dh_mq (Nat.le_of_ble_eq_true rfl) rfl
theorem u127_0 : dh_wp dh_sh (dh_wpM d) (dh_bl 127) Q 0 ls st h = dh_wpB dh_sh (dh_wpM d) (dh_wp dh_sh (dh_wpM d) (dh_bl 127) Q) Q bk127_0 ls st h := dh_wp_eq (dh_wpM_mono d) rfl
theorem u127_1 : dh_wp dh_sh (dh_wpM d) (dh_bl 127) Q 1 ls st h = dh_wpB dh_sh (dh_wpM d) (dh_wp dh_sh (dh_wpM d) (dh_bl 127) Q) Q bk127_1 ls st h := dh_wp_eq (dh_wpM_mono d) rfl
theorem u127_2 : dh_wp dh_sh (dh_wpM d) (dh_bl 127) Q 2 ls st h = dh_wpB dh_sh (dh_wpM d) (dh_wp dh_sh (dh_wpM d) (dh_bl 127) Q) Q bk127_2 ls st h := dh_wp_eq (dh_wpM_mono d) rfl
/-- DoubleHeap.toldLaw(I)LDoubleHeap$Law; -/
theorem m127 {p0 : Nat} {x1 : Int} : dh_wpM (d + 1) 127 [.inr (.inr (some p0)), .inl x1] h Q = dh_wp dh_sh (dh_wpM d) (dh_bl 127) Q 0 [some (.inr (.inr (some p0))), some (.inl x1), none] [] h := dh_mq (Nat.le_of_ble_eq_true rfl) rfl
theorem u128_0 : dh_wp dh_sh (dh_wpM d) (dh_bl 128) Q 0 ls st h = dh_wpB dh_sh (dh_wpM d) (dh_wp dh_sh (dh_wpM d) (dh_bl 128) Q) Q bk128_0 ls st h := dh_wp_eq (dh_wpM_mono d) rfl
theorem u128_1 : dh_wp dh_sh (dh_wpM d) (dh_bl 128) Q 1 ls st h = dh_wpB dh_sh (dh_wpM d) (dh_wp dh_sh (dh_wpM d) (dh_bl 128) Q) Q bk128_1 ls st h := dh_wp_eq (dh_wpM_mono d) rfl
theorem u128_2 : dh_wp dh_sh (dh_wpM d) (dh_bl 128) Q 2 ls st h = dh_wpB dh_sh (dh_wpM d) (dh_wp dh_sh (dh_wpM d) (dh_bl 128) Q) Q bk128_2 ls st h := dh_wp_eq (dh_wpM_mono d) rfl
/-- DoubleHeap.readyLaw(III)LDoubleHeap$Law; -/
theorem m128 {p0 : Nat} {x1 : Int} {x2 : Int} {x3 : Int} : dh_wpM (d + 1) 128 [.inr (.inr (some p0)), .inl x1, .inl x2, .inl x3] h Q = dh_wp dh_sh (dh_wpM d) (dh_bl 128) Q 0 [some (.inr (.inr (some p0))), some (.inl x1), some (.inl x2), some (.inl x3), none] [] h := dh_mq (Nat.le_of_ble_eq_true rfl) rfl
theorem u129_0 : dh_wp dh_sh (dh_wpM d) (dh_bl 129) Q 0 ls st h = dh_wpB dh_sh (dh_wpM d) (dh_wp dh_sh (dh_wpM d) (dh_bl 129) Q) Q bk129_0 ls st h := dh_wp_eq (dh_wpM_mono d) rfl
theorem u129_1 : dh_wp dh_sh (dh_wpM d) (dh_bl 129) Q 1 ls st h = dh_wpB dh_sh (dh_wpM d) (dh_wp dh_sh (dh_wpM d) (dh_bl 129) Q) Q bk129_1 ls st h := dh_wp_eq (dh_wpM_mono d) rfl
theorem u129_2 : dh_wp dh_sh (dh_wpM d) (dh_bl 129) Q 2 ls st h = dh_wpB dh_sh (dh_wpM d) (dh_wp dh_sh (dh_wpM d) (dh_bl 129) Q) Q bk129_2 ls st h := dh_wp_eq (dh_wpM_mono d) rfl
/-- DoubleHeap.taleAt(I)LDoubleHeap$Tale; -/
theorem m129 {p0 : Nat} {x1 : Int} : dh_wpM (d + 1) 129 [.inr (.inr (some p0)), .inl x1] h Q = dh_wp dh_sh (dh_wpM d) (dh_bl 129) Q 0 [some (.inr (.inr (some p0))), some (.inl x1)] [] h := dh_mq (Nat.le_of_ble_eq_true rfl) rfl
theorem u130_0 : dh_wp dh_sh (dh_wpM d) (dh_bl 130) Q 0 ls st h = dh_wpB dh_sh (dh_wpM d) (dh_wp dh_sh (dh_wpM d) (dh_bl 130) Q) Q bk130_0 ls st h := dh_wp_eq (dh_wpM_mono d) rfl
theorem u130_1 : dh_wp dh_sh (dh_wpM d) (dh_bl 130) Q 1 ls st h = dh_wpB dh_sh (dh_wpM d) (dh_wp dh_sh (dh_wpM d) (dh_bl 130) Q) Q bk130_1 ls st h := dh_wp_eq (dh_wpM_mono d) rfl
theorem u130_2 : dh_wp dh_sh (dh_wpM d) (dh_bl 130) Q 2 ls st h = dh_wpB dh_sh (dh_wpM d) (dh_wp dh_sh (dh_wpM d) (dh_bl 130) Q) Q bk130_2 ls st h := dh_wp_eq (dh_wpM_mono d) rfl
/-- DoubleHeap.toldTale(I)LDoubleHeap$Tale; -/
theorem m130 {p0 : Nat} {x1 : Int} : dh_wpM (d + 1) 130 [.inr (.inr (some p0)), .inl x1] h Q = dh_wp dh_sh (dh_wpM d) (dh_bl 130) Q 0 [some (.inr (.inr (some p0))), some (.inl x1), none] [] h := dh_mq (Nat.le_of_ble_eq_true rfl) rfl
theorem u131_0 : dh_wp dh_sh (dh_wpM d) (dh_bl 131) Q 0 ls st h = dh_wpB dh_sh (dh_wpM d) (dh_wp dh_sh (dh_wpM d) (dh_bl 131) Q) Q bk131_0 ls st h := dh_wp_eq (dh_wpM_mono d) rfl
theorem u131_1 : dh_wp dh_sh (dh_wpM d) (dh_bl 131) Q 1 ls st h = dh_wpB dh_sh (dh_wpM d) (dh_wp dh_sh (dh_wpM d) (dh_bl 131) Q) Q bk131_1 ls st h := dh_wp_eq (dh_wpM_mono d) rfl
theorem u131_2 : dh_wp dh_sh (dh_wpM d) (dh_bl 131) Q 2 ls st h = dh_wpB dh_sh (dh_wpM d) (dh_wp dh_sh (dh_wpM d) (dh_bl 131) Q) Q bk131_2 ls st h := dh_wp_eq (dh_wpM_mono d) rfl
theorem u131_3 : dh_wp dh_sh (dh_wpM d) (dh_bl 131) Q 3 ls st h = dh_wpB dh_sh (dh_wpM d) (dh_wp dh_sh (dh_wpM d) (dh_bl 131) Q) Q bk131_3 ls st h := dh_wp_eq (dh_wpM_mono d) rfl
theorem u131_4 : dh_wp dh_sh (dh_wpM d) (dh_bl 131) Q 4 ls st h = dh_wpB dh_sh (dh_wpM d) (dh_wp dh_sh (dh_wpM d) (dh_bl 131) Q) Q bk131_4 ls st h := dh_wp_eq (dh_wpM_mono d) rfl
/-- DoubleHeap.fits(LDoubleHeap$Law;I)Z -/
theorem m131 {p0 : Nat} {x1 : Option Nat} {x2 : Int} : dh_wpM (d + 1) 131 [.inr (.inr (some p0)), .inr (.inr x1), .inl x2] h Q = dh_wp dh_sh (dh_wpM d) (dh_bl 131) Q 0 [some (.inr (.inr (some p0))), some (.inr (.inr x1)), some (.inl x2), none, none] [] h := dh_mq (Nat.le_of_ble_eq_true rfl) rfl
theorem u132_0 : dh_wp dh_sh (dh_wpM d) (dh_bl 132) Q 0 ls st h = dh_wpB dh_sh (dh_wpM d) (dh_wp dh_sh (dh_wpM d) (dh_bl 132) Q) Q bk132_0 ls st h := dh_wp_eq (dh_wpM_mono d) rfl
theorem u132_1 : dh_wp dh_sh (dh_wpM d) (dh_bl 132) Q 1 ls st h = dh_wpB dh_sh (dh_wpM d) (dh_wp dh_sh (dh_wpM d) (dh_bl 132) Q) Q bk132_1 ls st h := dh_wp_eq (dh_wpM_mono d) rfl
theorem u132_2 : dh_wp dh_sh (dh_wpM d) (dh_bl 132) Q 2 ls st h = dh_wpB dh_sh (dh_wpM d) (dh_wp dh_sh (dh_wpM d) (dh_bl 132) Q) Q bk132_2 ls st h := dh_wp_eq (dh_wpM_mono d) rfl
theorem u132_3 : dh_wp dh_sh (dh_wpM d) (dh_bl 132) Q 3 ls st h = dh_wpB dh_sh (dh_wpM d) (dh_wp dh_sh (dh_wpM d) (dh_bl 132) Q) Q bk132_3 ls st h := dh_wp_eq (dh_wpM_mono d) rfl
theorem u132_4 : dh_wp dh_sh (dh_wpM d) (dh_bl 132) Q 4 ls st h = dh_wpB dh_sh (dh_wpM d) (dh_wp dh_sh (dh_wpM d) (dh_bl 132) Q) Q bk132_4 ls st h := dh_wp_eq (dh_wpM_mono d) rfl
theorem u132_5 : dh_wp dh_sh (dh_wpM d) (dh_bl 132) Q 5 ls st h = dh_wpB dh_sh (dh_wpM d) (dh_wp dh_sh (dh_wpM d) (dh_bl 132) Q) Q bk132_5 ls st h := dh_wp_eq (dh_wpM_mono d) rfl
theorem u132_6 : dh_wp dh_sh (dh_wpM d) (dh_bl 132) Q 6 ls st h = dh_wpB dh_sh (dh_wpM d) (dh_wp dh_sh (dh_wpM d) (dh_bl 132) Q) Q bk132_6 ls st h := dh_wp_eq (dh_wpM_mono d) rfl
theorem u132_7 : dh_wp dh_sh (dh_wpM d) (dh_bl 132) Q 7 ls st h = dh_wpB dh_sh (dh_wpM d) (dh_wp dh_sh (dh_wpM d) (dh_bl 132) Q) Q bk132_7 ls st h := dh_wp_eq (dh_wpM_mono d) rfl
theorem u132_8 : dh_wp dh_sh (dh_wpM d) (dh_bl 132) Q 8 ls st h = dh_wpB dh_sh (dh_wpM d) (dh_wp dh_sh (dh_wpM d) (dh_bl 132) Q) Q bk132_8 ls st h := dh_wp_eq (dh_wpM_mono d) rfl
theorem u132_9 : dh_wp dh_sh (dh_wpM d) (dh_bl 132) Q 9 ls st h = dh_wpB dh_sh (dh_wpM d) (dh_wp dh_sh (dh_wpM d) (dh_bl 132) Q) Q bk132_9 ls st h := dh_wp_eq (dh_wpM_mono d) rfl
theorem u132_10 : dh_wp dh_sh (dh_wpM d) (dh_bl 132) Q 10 ls st h = dh_wpB dh_sh (dh_wpM d) (dh_wp dh_sh (dh_wpM d) (dh_bl 132) Q) Q bk132_10 ls st h := dh_wp_eq (dh_wpM_mono d) rfl
/-- DoubleHeap.shyest(IJII)I -/
theorem m132 {p0 : Nat} {x1 : Int} {x2 : BitVec 64} {x3 : Int} {x4 : Int} : dh_wpM (d + 1) 132 [.inr (.inr (some p0)), .inl x1, .inr (.inl x2), .inl x3, .inl x4] h Q = dh_wp dh_sh (dh_wpM d) (dh_bl 132) Q 0 [some (.inr (.inr (some p0))), some (.inl x1), some (.inr (.inl x2)), none, some (.inl x3), some (.inl x4), none, none, none, none, none, none] [] h := dh_mq (Nat.le_of_ble_eq_true rfl) rfl
theorem u133_0 : dh_wp dh_sh (dh_wpM d) (dh_bl 133) Q 0 ls st h = dh_wpB dh_sh (dh_wpM d) (dh_wp dh_sh (dh_wpM d) (dh_bl 133) Q) Q bk133_0 ls st h := dh_wp_eq (dh_wpM_mono d) rfl
theorem u133_1 : dh_wp dh_sh (dh_wpM d) (dh_bl 133) Q 1 ls st h = dh_wpB dh_sh (dh_wpM d) (dh_wp dh_sh (dh_wpM d) (dh_bl 133) Q) Q bk133_1 ls st h := dh_wp_eq (dh_wpM_mono d) rfl
theorem u133_2 : dh_wp dh_sh (dh_wpM d) (dh_bl 133) Q 2 ls st h = dh_wpB dh_sh (dh_wpM d) (dh_wp dh_sh (dh_wpM d) (dh_bl 133) Q) Q bk133_2 ls st h := dh_wp_eq (dh_wpM_mono d) rfl
theorem u133_3 : dh_wp dh_sh (dh_wpM d) (dh_bl 133) Q 3 ls st h = dh_wpB dh_sh (dh_wpM d) (dh_wp dh_sh (dh_wpM d) (dh_bl 133) Q) Q bk133_3 ls st h := dh_wp_eq (dh_wpM_mono d) rfl
theorem u133_4 : dh_wp dh_sh (dh_wpM d) (dh_bl 133) Q 4 ls st h = dh_wpB dh_sh (dh_wpM d) (dh_wp dh_sh (dh_wpM d) (dh_bl 133) Q) Q bk133_4 ls st h := dh_wp_eq (dh_wpM_mono d) rfl
theorem u133_5 : dh_wp dh_sh (dh_wpM d) (dh_bl 133) Q 5 ls st h = dh_wpB dh_sh (dh_wpM d) (dh_wp dh_sh (dh_wpM d) (dh_bl 133) Q) Q bk133_5 ls st h := dh_wp_eq (dh_wpM_mono d) rfl
theorem u133_6 : dh_wp dh_sh (dh_wpM d) (dh_bl 133) Q 6 ls st h = dh_wpB dh_sh (dh_wpM d) (dh_wp dh_sh (dh_wpM d) (dh_bl 133) Q) Q bk133_6 ls st h := dh_wp_eq (dh_wpM_mono d) rfl
theorem u133_7 : dh_wp dh_sh (dh_wpM d) (dh_bl 133) Q 7 ls st h = dh_wpB dh_sh (dh_wpM d) (dh_wp dh_sh (dh_wpM d) (dh_bl 133) Q) Q bk133_7 ls st h := dh_wp_eq (dh_wpM_mono d) rfl
theorem u133_8 : dh_wp dh_sh (dh_wpM d) (dh_bl 133) Q 8 ls st h = dh_wpB dh_sh (dh_wpM d) (dh_wp dh_sh (dh_wpM d) (dh_bl 133) Q) Q bk133_8 ls st h := dh_wp_eq (dh_wpM_mono d) rfl
/-- DoubleHeap.rowAnswer(IIIII)I -/
theorem m133 {p0 : Nat} {x1 : Int} {x2 : Int} {x3 : Int} {x4 : Int} {x5 : Int} : dh_wpM (d + 1) 133 [.inr (.inr (some p0)), .inl x1, .inl x2, .inl x3, .inl x4, .inl x5] h Q = dh_wp dh_sh (dh_wpM d) (dh_bl 133) Q 0 [some (.inr (.inr (some p0))), some (.inl x1), some (.inl x2), some (.inl x3), some (.inl x4), some (.inl x5), none, none, none] [] h := dh_mq (Nat.le_of_ble_eq_true rfl) rfl
theorem u134_0 : dh_wp dh_sh (dh_wpM d) (dh_bl 134) Q 0 ls st h = dh_wpB dh_sh (dh_wpM d) (dh_wp dh_sh (dh_wpM d) (dh_bl 134) Q) Q bk134_0 ls st h := dh_wp_eq (dh_wpM_mono d) rfl
theorem u134_1 : dh_wp dh_sh (dh_wpM d) (dh_bl 134) Q 1 ls st h = dh_wpB dh_sh (dh_wpM d) (dh_wp dh_sh (dh_wpM d) (dh_bl 134) Q) Q bk134_1 ls st h := dh_wp_eq (dh_wpM_mono d) rfl
theorem u134_2 : dh_wp dh_sh (dh_wpM d) (dh_bl 134) Q 2 ls st h = dh_wpB dh_sh (dh_wpM d) (dh_wp dh_sh (dh_wpM d) (dh_bl 134) Q) Q bk134_2 ls st h := dh_wp_eq (dh_wpM_mono d) rfl
theorem u134_3 : dh_wp dh_sh (dh_wpM d) (dh_bl 134) Q 3 ls st h = dh_wpB dh_sh (dh_wpM d) (dh_wp dh_sh (dh_wpM d) (dh_bl 134) Q) Q bk134_3 ls st h := dh_wp_eq (dh_wpM_mono d) rfl
/-- DoubleHeap.wonOrLeast(JI)I -/
theorem m134 {x1 : BitVec 64} {x2 : Int} : dh_wpM (d + 1) 134 [.inr (.inl x1), .inl x2] h Q = dh_wp dh_sh (dh_wpM d) (dh_bl 134) Q 0 [some (.inr (.inl x1)), none, some (.inl x2)] [] h := dh_mq (Nat.le_of_ble_eq_true rfl) rfl
theorem u135_0 : dh_wp dh_sh (dh_wpM d) (dh_bl 135) Q 0 ls st h = dh_wpB dh_sh (dh_wpM d) (dh_wp dh_sh (dh_wpM d) (dh_bl 135) Q) Q bk135_0 ls st h := dh_wp_eq (dh_wpM_mono d) rfl
theorem u135_1 : dh_wp dh_sh (dh_wpM d) (dh_bl 135) Q 1 ls st h = dh_wpB dh_sh (dh_wpM d) (dh_wp dh_sh (dh_wpM d) (dh_bl 135) Q) Q bk135_1 ls st h := dh_wp_eq (dh_wpM_mono d) rfl
theorem u135_2 : dh_wp dh_sh (dh_wpM d) (dh_bl 135) Q 2 ls st h = dh_wpB dh_sh (dh_wpM d) (dh_wp dh_sh (dh_wpM d) (dh_bl 135) Q) Q bk135_2 ls st h := dh_wp_eq (dh_wpM_mono d) rfl
/-- DoubleHeap.isState(II)Z -/
theorem m135 {x1 : Int} {x2 : Int} : dh_wpM (d + 1) 135 [.inl x1, .inl x2] h Q = dh_wp dh_sh (dh_wpM d) (dh_bl 135) Q 0 [some (.inl x1), some (.inl x2)] [] h := dh_mq (Nat.le_of_ble_eq_true rfl) rfl
theorem u136_0 : dh_wp dh_sh (dh_wpM d) (dh_bl 136) Q 0 ls st h = dh_wpB dh_sh (dh_wpM d) (dh_wp dh_sh (dh_wpM d) (dh_bl 136) Q) Q bk136_0 ls st h := dh_wp_eq (dh_wpM_mono d) rfl
theorem u136_1 : dh_wp dh_sh (dh_wpM d) (dh_bl 136) Q 1 ls st h = dh_wpB dh_sh (dh_wpM d) (dh_wp dh_sh (dh_wpM d) (dh_bl 136) Q) Q bk136_1 ls st h := dh_wp_eq (dh_wpM_mono d) rfl
theorem u136_2 : dh_wp dh_sh (dh_wpM d) (dh_bl 136) Q 2 ls st h = dh_wpB dh_sh (dh_wpM d) (dh_wp dh_sh (dh_wpM d) (dh_bl 136) Q) Q bk136_2 ls st h := dh_wp_eq (dh_wpM_mono d) rfl
theorem u136_3 : dh_wp dh_sh (dh_wpM d) (dh_bl 136) Q 3 ls st h = dh_wpB dh_sh (dh_wpM d) (dh_wp dh_sh (dh_wpM d) (dh_bl 136) Q) Q bk136_3 ls st h := dh_wp_eq (dh_wpM_mono d) rfl
/-- DoubleHeap.isPlayer(I)Z -/
theorem m136 {x1 : Int} : dh_wpM (d + 1) 136 [.inl x1] h Q = dh_wp dh_sh (dh_wpM d) (dh_bl 136) Q 0 [some (.inl x1)] [] h := dh_mq (Nat.le_of_ble_eq_true rfl) rfl
theorem u137_0 : dh_wp dh_sh (dh_wpM d) (dh_bl 137) Q 0 ls st h = dh_wpB dh_sh (dh_wpM d) (dh_wp dh_sh (dh_wpM d) (dh_bl 137) Q) Q bk137_0 ls st h := dh_wp_eq (dh_wpM_mono d) rfl
theorem u137_1 : dh_wp dh_sh (dh_wpM d) (dh_bl 137) Q 1 ls st h = dh_wpB dh_sh (dh_wpM d) (dh_wp dh_sh (dh_wpM d) (dh_bl 137) Q) Q bk137_1 ls st h := dh_wp_eq (dh_wpM_mono d) rfl
theorem u137_2 : dh_wp dh_sh (dh_wpM d) (dh_bl 137) Q 2 ls st h = dh_wpB dh_sh (dh_wpM d) (dh_wp dh_sh (dh_wpM d) (dh_bl 137) Q) Q bk137_2 ls st h := dh_wp_eq (dh_wpM_mono d) rfl
/-- DoubleHeap.isDigit(I)Z -/
theorem m137 {x1 : Int} : dh_wpM (d + 1) 137 [.inl x1] h Q = dh_wp dh_sh (dh_wpM d) (dh_bl 137) Q 0 [some (.inl x1)] [] h := dh_mq (Nat.le_of_ble_eq_true rfl) rfl
theorem u138_0 : dh_wp dh_sh (dh_wpM d) (dh_bl 138) Q 0 ls st h = dh_wpB dh_sh (dh_wpM d) (dh_wp dh_sh (dh_wpM d) (dh_bl 138) Q) Q bk138_0 ls st h := dh_wp_eq (dh_wpM_mono d) rfl
/-- DoubleHeap.fault(II)I -/
theorem m138 {x1 : Int} {x2 : Int} : dh_wpM (d + 1) 138 [.inl x1, .inl x2] h Q = dh_wp dh_sh (dh_wpM d) (dh_bl 138) Q 0 [some (.inl x1), some (.inl x2)] [] h := dh_mq (Nat.le_of_ble_eq_true rfl) rfl
theorem u139_0 : dh_wp dh_sh (dh_wpM d) (dh_bl 139) Q 0 ls st h = dh_wpB dh_sh (dh_wpM d) (dh_wp dh_sh (dh_wpM d) (dh_bl 139) Q) Q bk139_0 ls st h := dh_wp_eq (dh_wpM_mono d) rfl
/-- DoubleHeap.cell(II)I -/
theorem m139 {x1 : Int} {x2 : Int} : dh_wpM (d + 1) 139 [.inl x1, .inl x2] h Q = dh_wp dh_sh (dh_wpM d) (dh_bl 139) Q 0 [some (.inl x1), some (.inl x2)] [] h := dh_mq (Nat.le_of_ble_eq_true rfl) rfl
theorem u140_0 : dh_wp dh_sh (dh_wpM d) (dh_bl 140) Q 0 ls st h = dh_wpB dh_sh (dh_wpM d) (dh_wp dh_sh (dh_wpM d) (dh_bl 140) Q) Q bk140_0 ls st h := dh_wp_eq (dh_wpM_mono d) rfl
theorem u140_1 : dh_wp dh_sh (dh_wpM d) (dh_bl 140) Q 1 ls st h = dh_wpB dh_sh (dh_wpM d) (dh_wp dh_sh (dh_wpM d) (dh_bl 140) Q) Q bk140_1 ls st h := dh_wp_eq (dh_wpM_mono d) rfl
theorem u140_2 : dh_wp dh_sh (dh_wpM d) (dh_bl 140) Q 2 ls st h = dh_wpB dh_sh (dh_wpM d) (dh_wp dh_sh (dh_wpM d) (dh_bl 140) Q) Q bk140_2 ls st h := dh_wp_eq (dh_wpM_mono d) rfl
/-- DoubleHeap.has(JI)Z -/
theorem m140 {x1 : BitVec 64} {x2 : Int} : dh_wpM (d + 1) 140 [.inr (.inl x1), .inl x2] h Q = dh_wp dh_sh (dh_wpM d) (dh_bl 140) Q 0 [some (.inr (.inl x1)), none, some (.inl x2)] [] h := dh_mq (Nat.le_of_ble_eq_true rfl) rfl
theorem u141_0 : dh_wp dh_sh (dh_wpM d) (dh_bl 141) Q 0 ls st h = dh_wpB dh_sh (dh_wpM d) (dh_wp dh_sh (dh_wpM d) (dh_bl 141) Q) Q bk141_0 ls st h := dh_wp_eq (dh_wpM_mono d) rfl
theorem u141_1 : dh_wp dh_sh (dh_wpM d) (dh_bl 141) Q 1 ls st h = dh_wpB dh_sh (dh_wpM d) (dh_wp dh_sh (dh_wpM d) (dh_bl 141) Q) Q bk141_1 ls st h := dh_wp_eq (dh_wpM_mono d) rfl
theorem u141_2 : dh_wp dh_sh (dh_wpM d) (dh_bl 141) Q 2 ls st h = dh_wpB dh_sh (dh_wpM d) (dh_wp dh_sh (dh_wpM d) (dh_bl 141) Q) Q bk141_2 ls st h := dh_wp_eq (dh_wpM_mono d) rfl
theorem u141_3 : dh_wp dh_sh (dh_wpM d) (dh_bl 141) Q 3 ls st h = dh_wpB dh_sh (dh_wpM d) (dh_wp dh_sh (dh_wpM d) (dh_bl 141) Q) Q bk141_3 ls st h := dh_wp_eq (dh_wpM_mono d) rfl
/-- DoubleHeap.least(J)I -/
theorem m141 {x1 : BitVec 64} : dh_wpM (d + 1) 141 [.inr (.inl x1)] h Q = dh_wp dh_sh (dh_wpM d) (dh_bl 141) Q 0 [some (.inr (.inl x1)), none, none] [] h := dh_mq (Nat.le_of_ble_eq_true rfl) rfl
theorem u142_0 : dh_wp dh_sh (dh_wpM d) (dh_bl 142) Q 0 ls st h = dh_wpB dh_sh (dh_wpM d) (dh_wp dh_sh (dh_wpM d) (dh_bl 142) Q) Q bk142_0 ls st h := dh_wp_eq (dh_wpM_mono d) rfl
theorem u142_1 : dh_wp dh_sh (dh_wpM d) (dh_bl 142) Q 1 ls st h = dh_wpB dh_sh (dh_wpM d) (dh_wp dh_sh (dh_wpM d) (dh_bl 142) Q) Q bk142_1 ls st h := dh_wp_eq (dh_wpM_mono d) rfl
theorem u142_2 : dh_wp dh_sh (dh_wpM d) (dh_bl 142) Q 2 ls st h = dh_wpB dh_sh (dh_wpM d) (dh_wp dh_sh (dh_wpM d) (dh_bl 142) Q) Q bk142_2 ls st h := dh_wp_eq (dh_wpM_mono d) rfl
theorem u142_3 : dh_wp dh_sh (dh_wpM d) (dh_bl 142) Q 3 ls st h = dh_wpB dh_sh (dh_wpM d) (dh_wp dh_sh (dh_wpM d) (dh_bl 142) Q) Q bk142_3 ls st h := dh_wp_eq (dh_wpM_mono d) rfl
/-- DoubleHeap.greatest(J)I -/
theorem m142 {x1 : BitVec 64} : dh_wpM (d + 1) 142 [.inr (.inl x1)] h Q = dh_wp dh_sh (dh_wpM d) (dh_bl 142) Q 0 [some (.inr (.inl x1)), none, none] [] h := dh_mq (Nat.le_of_ble_eq_true rfl) rfl
theorem u143_0 : dh_wp dh_sh (dh_wpM d) (dh_bl 143) Q 0 ls st h = dh_wpB dh_sh (dh_wpM d) (dh_wp dh_sh (dh_wpM d) (dh_bl 143) Q) Q bk143_0 ls st h := dh_wp_eq (dh_wpM_mono d) rfl
/-- DoubleHeap.nextDraw(I)I -/
theorem m143 {x1 : Int} : dh_wpM (d + 1) 143 [.inl x1] h Q = dh_wp dh_sh (dh_wpM d) (dh_bl 143) Q 0 [some (.inl x1)] [] h := dh_mq (Nat.le_of_ble_eq_true rfl) rfl
theorem u144_0 : dh_wp dh_sh (dh_wpM d) (dh_bl 144) Q 0 ls st h = dh_wpB dh_sh (dh_wpM d) (dh_wp dh_sh (dh_wpM d) (dh_bl 144) Q) Q bk144_0 ls st h := dh_wp_eq (dh_wpM_mono d) rfl
theorem u144_1 : dh_wp dh_sh (dh_wpM d) (dh_bl 144) Q 1 ls st h = dh_wpB dh_sh (dh_wpM d) (dh_wp dh_sh (dh_wpM d) (dh_bl 144) Q) Q bk144_1 ls st h := dh_wp_eq (dh_wpM_mono d) rfl
theorem u144_2 : dh_wp dh_sh (dh_wpM d) (dh_bl 144) Q 2 ls st h = dh_wpB dh_sh (dh_wpM d) (dh_wp dh_sh (dh_wpM d) (dh_bl 144) Q) Q bk144_2 ls st h := dh_wp_eq (dh_wpM_mono d) rfl
theorem u144_3 : dh_wp dh_sh (dh_wpM d) (dh_bl 144) Q 3 ls st h = dh_wpB dh_sh (dh_wpM d) (dh_wp dh_sh (dh_wpM d) (dh_bl 144) Q) Q bk144_3 ls st h := dh_wp_eq (dh_wpM_mono d) rfl
theorem u144_4 : dh_wp dh_sh (dh_wpM d) (dh_bl 144) Q 4 ls st h = dh_wpB dh_sh (dh_wpM d) (dh_wp dh_sh (dh_wpM d) (dh_bl 144) Q) Q bk144_4 ls st h := dh_wp_eq (dh_wpM_mono d) rfl
theorem u144_5 : dh_wp dh_sh (dh_wpM d) (dh_bl 144) Q 5 ls st h = dh_wpB dh_sh (dh_wpM d) (dh_wp dh_sh (dh_wpM d) (dh_bl 144) Q) Q bk144_5 ls st h := dh_wp_eq (dh_wpM_mono d) rfl
theorem u144_6 : dh_wp dh_sh (dh_wpM d) (dh_bl 144) Q 6 ls st h = dh_wpB dh_sh (dh_wpM d) (dh_wp dh_sh (dh_wpM d) (dh_bl 144) Q) Q bk144_6 ls st h := dh_wp_eq (dh_wpM_mono d) rfl
/-- DoubleHeap.drawn(JI)I -/
theorem m144 {x1 : BitVec 64} {x2 : Int} : dh_wpM (d + 1) 144 [.inr (.inl x1), .inl x2] h Q = dh_wp dh_sh (dh_wpM d) (dh_bl 144) Q 0 [some (.inr (.inl x1)), none, some (.inl x2), none, none, none] [] h := dh_mq (Nat.le_of_ble_eq_true rfl) rfl
theorem u145_0 : dh_wp dh_sh (dh_wpM d) (dh_bl 145) Q 0 ls st h = dh_wpB dh_sh (dh_wpM d) (dh_wp dh_sh (dh_wpM d) (dh_bl 145) Q) Q bk145_0 ls st h := dh_wp_eq (dh_wpM_mono d) rfl
theorem u145_1 : dh_wp dh_sh (dh_wpM d) (dh_bl 145) Q 1 ls st h = dh_wpB dh_sh (dh_wpM d) (dh_wp dh_sh (dh_wpM d) (dh_bl 145) Q) Q bk145_1 ls st h := dh_wp_eq (dh_wpM_mono d) rfl
theorem u145_2 : dh_wp dh_sh (dh_wpM d) (dh_bl 145) Q 2 ls st h = dh_wpB dh_sh (dh_wpM d) (dh_wp dh_sh (dh_wpM d) (dh_bl 145) Q) Q bk145_2 ls st h := dh_wp_eq (dh_wpM_mono d) rfl
/-- DoubleHeap.commonDivisor(JJ)J -/
theorem m145 {x1 : BitVec 64} {x2 : BitVec 64} : dh_wpM (d + 1) 145 [.inr (.inl x1), .inr (.inl x2)] h Q = dh_wp dh_sh (dh_wpM d) (dh_bl 145) Q 0 [some (.inr (.inl x1)), none, some (.inr (.inl x2)), none, none, none, none, none, none, none, none] [] h := dh_mq (Nat.le_of_ble_eq_true rfl) rfl
theorem u146_0 : dh_wp dh_sh (dh_wpM d) (dh_bl 146) Q 0 ls st h = dh_wpB dh_sh (dh_wpM d) (dh_wp dh_sh (dh_wpM d) (dh_bl 146) Q) Q bk146_0 ls st h := dh_wp_eq (dh_wpM_mono d) rfl
theorem u146_1 : dh_wp dh_sh (dh_wpM d) (dh_bl 146) Q 1 ls st h = dh_wpB dh_sh (dh_wpM d) (dh_wp dh_sh (dh_wpM d) (dh_bl 146) Q) Q bk146_1 ls st h := dh_wp_eq (dh_wpM_mono d) rfl
theorem u146_2 : dh_wp dh_sh (dh_wpM d) (dh_bl 146) Q 2 ls st h = dh_wpB dh_sh (dh_wpM d) (dh_wp dh_sh (dh_wpM d) (dh_bl 146) Q) Q bk146_2 ls st h := dh_wp_eq (dh_wpM_mono d) rfl
/-- DoubleHeapModel.in(III)Z -/
theorem m146 {x1 : Int} {x2 : Int} {x3 : Int} : dh_wpM (d + 1) 146 [.inl x1, .inl x2, .inl x3] h Q = dh_wp dh_sh (dh_wpM d) (dh_bl 146) Q 0 [some (.inl x1), some (.inl x2), some (.inl x3)] [] h := dh_mq (Nat.le_of_ble_eq_true rfl) rfl
theorem u147_0 : dh_wp dh_sh (dh_wpM d) (dh_bl 147) Q 0 ls st h = dh_wpB dh_sh (dh_wpM d) (dh_wp dh_sh (dh_wpM d) (dh_bl 147) Q) Q bk147_0 ls st h := dh_wp_eq (dh_wpM_mono d) rfl
theorem u147_1 : dh_wp dh_sh (dh_wpM d) (dh_bl 147) Q 1 ls st h = dh_wpB dh_sh (dh_wpM d) (dh_wp dh_sh (dh_wpM d) (dh_bl 147) Q) Q bk147_1 ls st h := dh_wp_eq (dh_wpM_mono d) rfl
theorem u147_2 : dh_wp dh_sh (dh_wpM d) (dh_bl 147) Q 2 ls st h = dh_wpB dh_sh (dh_wpM d) (dh_wp dh_sh (dh_wpM d) (dh_bl 147) Q) Q bk147_2 ls st h := dh_wp_eq (dh_wpM_mono d) rfl
/-- DoubleHeapModel.min(II)I -/
theorem m147 {x1 : Int} {x2 : Int} : dh_wpM (d + 1) 147 [.inl x1, .inl x2] h Q = dh_wp dh_sh (dh_wpM d) (dh_bl 147) Q 0 [some (.inl x1), some (.inl x2)] [] h := dh_mq (Nat.le_of_ble_eq_true rfl) rfl
theorem u148_0 : dh_wp dh_sh (dh_wpM d) (dh_bl 148) Q 0 ls st h = dh_wpB dh_sh (dh_wpM d) (dh_wp dh_sh (dh_wpM d) (dh_bl 148) Q) Q bk148_0 ls st h := dh_wp_eq (dh_wpM_mono d) rfl
theorem u148_1 : dh_wp dh_sh (dh_wpM d) (dh_bl 148) Q 1 ls st h = dh_wpB dh_sh (dh_wpM d) (dh_wp dh_sh (dh_wpM d) (dh_bl 148) Q) Q bk148_1 ls st h := dh_wp_eq (dh_wpM_mono d) rfl
theorem u148_2 : dh_wp dh_sh (dh_wpM d) (dh_bl 148) Q 2 ls st h = dh_wpB dh_sh (dh_wpM d) (dh_wp dh_sh (dh_wpM d) (dh_bl 148) Q) Q bk148_2 ls st h := dh_wp_eq (dh_wpM_mono d) rfl
/-- DoubleHeapModel.max(II)I -/
theorem m148 {x1 : Int} {x2 : Int} : dh_wpM (d + 1) 148 [.inl x1, .inl x2] h Q = dh_wp dh_sh (dh_wpM d) (dh_bl 148) Q 0 [some (.inl x1), some (.inl x2)] [] h := dh_mq (Nat.le_of_ble_eq_true rfl) rfl
theorem u149_0 : dh_wp dh_sh (dh_wpM d) (dh_bl 149) Q 0 ls st h = dh_wpB dh_sh (dh_wpM d) (dh_wp dh_sh (dh_wpM d) (dh_bl 149) Q) Q bk149_0 ls st h := dh_wp_eq (dh_wpM_mono d) rfl
theorem u149_1 : dh_wp dh_sh (dh_wpM d) (dh_bl 149) Q 1 ls st h = dh_wpB dh_sh (dh_wpM d) (dh_wp dh_sh (dh_wpM d) (dh_bl 149) Q) Q bk149_1 ls st h := dh_wp_eq (dh_wpM_mono d) rfl
theorem u149_2 : dh_wp dh_sh (dh_wpM d) (dh_bl 149) Q 2 ls st h = dh_wpB dh_sh (dh_wpM d) (dh_wp dh_sh (dh_wpM d) (dh_bl 149) Q) Q bk149_2 ls st h := dh_wp_eq (dh_wpM_mono d) rfl
/-- DoubleHeapModel.has(JI)Z -/
theorem m149 {x1 : BitVec 64} {x2 : Int} : dh_wpM (d + 1) 149 [.inr (.inl x1), .inl x2] h Q = dh_wp dh_sh (dh_wpM d) (dh_bl 149) Q 0 [some (.inr (.inl x1)), none, some (.inl x2)] [] h := dh_mq (Nat.le_of_ble_eq_true rfl) rfl
theorem u150_0 : dh_wp dh_sh (dh_wpM d) (dh_bl 150) Q 0 ls st h = dh_wpB dh_sh (dh_wpM d) (dh_wp dh_sh (dh_wpM d) (dh_bl 150) Q) Q bk150_0 ls st h := dh_wp_eq (dh_wpM_mono d) rfl
theorem u150_1 : dh_wp dh_sh (dh_wpM d) (dh_bl 150) Q 1 ls st h = dh_wpB dh_sh (dh_wpM d) (dh_wp dh_sh (dh_wpM d) (dh_bl 150) Q) Q bk150_1 ls st h := dh_wp_eq (dh_wpM_mono d) rfl
theorem u150_2 : dh_wp dh_sh (dh_wpM d) (dh_bl 150) Q 2 ls st h = dh_wpB dh_sh (dh_wpM d) (dh_wp dh_sh (dh_wpM d) (dh_bl 150) Q) Q bk150_2 ls st h := dh_wp_eq (dh_wpM_mono d) rfl
theorem u150_3 : dh_wp dh_sh (dh_wpM d) (dh_bl 150) Q 3 ls st h = dh_wpB dh_sh (dh_wpM d) (dh_wp dh_sh (dh_wpM d) (dh_bl 150) Q) Q bk150_3 ls st h := dh_wp_eq (dh_wpM_mono d) rfl
theorem u150_4 : dh_wp dh_sh (dh_wpM d) (dh_bl 150) Q 4 ls st h = dh_wpB dh_sh (dh_wpM d) (dh_wp dh_sh (dh_wpM d) (dh_bl 150) Q) Q bk150_4 ls st h := dh_wp_eq (dh_wpM_mono d) rfl
/-- DoubleHeapModel.bits(J)I -/
theorem m150 {x1 : BitVec 64} : dh_wpM (d + 1) 150 [.inr (.inl x1)] h Q = dh_wp dh_sh (dh_wpM d) (dh_bl 150) Q 0 [some (.inr (.inl x1)), none, none, none] [] h := dh_mq (Nat.le_of_ble_eq_true rfl) rfl
theorem u151_0 : dh_wp dh_sh (dh_wpM d) (dh_bl 151) Q 0 ls st h = dh_wpB dh_sh (dh_wpM d) (dh_wp dh_sh (dh_wpM d) (dh_bl 151) Q) Q bk151_0 ls st h := dh_wp_eq (dh_wpM_mono d) rfl
theorem u151_1 : dh_wp dh_sh (dh_wpM d) (dh_bl 151) Q 1 ls st h = dh_wpB dh_sh (dh_wpM d) (dh_wp dh_sh (dh_wpM d) (dh_bl 151) Q) Q bk151_1 ls st h := dh_wp_eq (dh_wpM_mono d) rfl
theorem u151_2 : dh_wp dh_sh (dh_wpM d) (dh_bl 151) Q 2 ls st h = dh_wpB dh_sh (dh_wpM d) (dh_wp dh_sh (dh_wpM d) (dh_bl 151) Q) Q bk151_2 ls st h := dh_wp_eq (dh_wpM_mono d) rfl
theorem u151_3 : dh_wp dh_sh (dh_wpM d) (dh_bl 151) Q 3 ls st h = dh_wpB dh_sh (dh_wpM d) (dh_wp dh_sh (dh_wpM d) (dh_bl 151) Q) Q bk151_3 ls st h := dh_wp_eq (dh_wpM_mono d) rfl
/-- DoubleHeapModel.lowestOf(J)I -/
theorem m151 {x1 : BitVec 64} : dh_wpM (d + 1) 151 [.inr (.inl x1)] h Q = dh_wp dh_sh (dh_wpM d) (dh_bl 151) Q 0 [some (.inr (.inl x1)), none, none] [] h := dh_mq (Nat.le_of_ble_eq_true rfl) rfl
theorem u152_0 : dh_wp dh_sh (dh_wpM d) (dh_bl 152) Q 0 ls st h = dh_wpB dh_sh (dh_wpM d) (dh_wp dh_sh (dh_wpM d) (dh_bl 152) Q) Q bk152_0 ls st h := dh_wp_eq (dh_wpM_mono d) rfl
theorem u152_1 : dh_wp dh_sh (dh_wpM d) (dh_bl 152) Q 1 ls st h = dh_wpB dh_sh (dh_wpM d) (dh_wp dh_sh (dh_wpM d) (dh_bl 152) Q) Q bk152_1 ls st h := dh_wp_eq (dh_wpM_mono d) rfl
theorem u152_2 : dh_wp dh_sh (dh_wpM d) (dh_bl 152) Q 2 ls st h = dh_wpB dh_sh (dh_wpM d) (dh_wp dh_sh (dh_wpM d) (dh_bl 152) Q) Q bk152_2 ls st h := dh_wp_eq (dh_wpM_mono d) rfl
theorem u152_3 : dh_wp dh_sh (dh_wpM d) (dh_bl 152) Q 3 ls st h = dh_wpB dh_sh (dh_wpM d) (dh_wp dh_sh (dh_wpM d) (dh_bl 152) Q) Q bk152_3 ls st h := dh_wp_eq (dh_wpM_mono d) rfl
/-- DoubleHeapModel.highestOf(J)I -/
theorem m152 {x1 : BitVec 64} : dh_wpM (d + 1) 152 [.inr (.inl x1)] h Q = dh_wp dh_sh (dh_wpM d) (dh_bl 152) Q 0 [some (.inr (.inl x1)), none, none] [] h := dh_mq (Nat.le_of_ble_eq_true rfl) rfl
theorem u153_0 : dh_wp dh_sh (dh_wpM d) (dh_bl 153) Q 0 ls st h = dh_wpB dh_sh (dh_wpM d) (dh_wp dh_sh (dh_wpM d) (dh_bl 153) Q) Q bk153_0 ls st h := dh_wp_eq (dh_wpM_mono d) rfl
theorem u153_1 : dh_wp dh_sh (dh_wpM d) (dh_bl 153) Q 1 ls st h = dh_wpB dh_sh (dh_wpM d) (dh_wp dh_sh (dh_wpM d) (dh_bl 153) Q) Q bk153_1 ls st h := dh_wp_eq (dh_wpM_mono d) rfl
theorem u153_2 : dh_wp dh_sh (dh_wpM d) (dh_bl 153) Q 2 ls st h = dh_wpB dh_sh (dh_wpM d) (dh_wp dh_sh (dh_wpM d) (dh_bl 153) Q) Q bk153_2 ls st h := dh_wp_eq (dh_wpM_mono d) rfl
/-- DoubleHeapModel.isLaw(I)Z -/
theorem m153 {p0 : Nat} {x1 : Int} : dh_wpM (d + 1) 153 [.inr (.inr (some p0)), .inl x1] h Q = dh_wp dh_sh (dh_wpM d) (dh_bl 153) Q 0 [some (.inr (.inr (some p0))), some (.inl x1)] [] h := dh_mq (Nat.le_of_ble_eq_true rfl) rfl
theorem u154_0 : dh_wp dh_sh (dh_wpM d) (dh_bl 154) Q 0 ls st h = dh_wpB dh_sh (dh_wpM d) (dh_wp dh_sh (dh_wpM d) (dh_bl 154) Q) Q bk154_0 ls st h := dh_wp_eq (dh_wpM_mono d) rfl
theorem u154_1 : dh_wp dh_sh (dh_wpM d) (dh_bl 154) Q 1 ls st h = dh_wpB dh_sh (dh_wpM d) (dh_wp dh_sh (dh_wpM d) (dh_bl 154) Q) Q bk154_1 ls st h := dh_wp_eq (dh_wpM_mono d) rfl
theorem u154_2 : dh_wp dh_sh (dh_wpM d) (dh_bl 154) Q 2 ls st h = dh_wpB dh_sh (dh_wpM d) (dh_wp dh_sh (dh_wpM d) (dh_bl 154) Q) Q bk154_2 ls st h := dh_wp_eq (dh_wpM_mono d) rfl
/-- DoubleHeapModel.isGame(I)Z -/
theorem m154 {p0 : Nat} {x1 : Int} : dh_wpM (d + 1) 154 [.inr (.inr (some p0)), .inl x1] h Q = dh_wp dh_sh (dh_wpM d) (dh_bl 154) Q 0 [some (.inr (.inr (some p0))), some (.inl x1)] [] h := dh_mq (Nat.le_of_ble_eq_true rfl) rfl
theorem u155_0 : dh_wp dh_sh (dh_wpM d) (dh_bl 155) Q 0 ls st h = dh_wpB dh_sh (dh_wpM d) (dh_wp dh_sh (dh_wpM d) (dh_bl 155) Q) Q bk155_0 ls st h := dh_wp_eq (dh_wpM_mono d) rfl
theorem u155_1 : dh_wp dh_sh (dh_wpM d) (dh_bl 155) Q 1 ls st h = dh_wpB dh_sh (dh_wpM d) (dh_wp dh_sh (dh_wpM d) (dh_bl 155) Q) Q bk155_1 ls st h := dh_wp_eq (dh_wpM_mono d) rfl
theorem u155_2 : dh_wp dh_sh (dh_wpM d) (dh_bl 155) Q 2 ls st h = dh_wpB dh_sh (dh_wpM d) (dh_wp dh_sh (dh_wpM d) (dh_bl 155) Q) Q bk155_2 ls st h := dh_wp_eq (dh_wpM_mono d) rfl
/-- DoubleHeapModel.isState(II)Z -/
theorem m155 {x1 : Int} {x2 : Int} : dh_wpM (d + 1) 155 [.inl x1, .inl x2] h Q = dh_wp dh_sh (dh_wpM d) (dh_bl 155) Q 0 [some (.inl x1), some (.inl x2)] [] h := dh_mq (Nat.le_of_ble_eq_true rfl) rfl
theorem u156_0 : dh_wp dh_sh (dh_wpM d) (dh_bl 156) Q 0 ls st h = dh_wpB dh_sh (dh_wpM d) (dh_wp dh_sh (dh_wpM d) (dh_bl 156) Q) Q bk156_0 ls st h := dh_wp_eq (dh_wpM_mono d) rfl
/-- DoubleHeapModel.at(III)I -/
theorem m156 {x1 : Int} {x2 : Int} {x3 : Int} : dh_wpM (d + 1) 156 [.inl x1, .inl x2, .inl x3] h Q = dh_wp dh_sh (dh_wpM d) (dh_bl 156) Q 0 [some (.inl x1), some (.inl x2), some (.inl x3)] [] h := dh_mq (Nat.le_of_ble_eq_true rfl) rfl
theorem u157_0 : dh_wp dh_sh (dh_wpM d) (dh_bl 157) Q 0 ls st h = dh_wpB dh_sh (dh_wpM d) (dh_wp dh_sh (dh_wpM d) (dh_bl 157) Q) Q bk157_0 ls st h := dh_wp_eq (dh_wpM_mono d) rfl
/-- DoubleHeapModel.takesOf(III)J -/
theorem m157 {p0 : Nat} {x1 : Int} {x2 : Int} {x3 : Int} : dh_wpM (d + 1) 157 [.inr (.inr (some p0)), .inl x1, .inl x2, .inl x3] h Q = dh_wp dh_sh (dh_wpM d) (dh_bl 157) Q 0 [some (.inr (.inr (some p0))), some (.inl x1), some (.inl x2), some (.inl x3)] [] h := dh_mq (Nat.le_of_ble_eq_true rfl) rfl
theorem u158_0 : dh_wp dh_sh (dh_wpM d) (dh_bl 158) Q 0 ls st h = dh_wpB dh_sh (dh_wpM d) (dh_wp dh_sh (dh_wpM d) (dh_bl 158) Q) Q bk158_0 ls st h := dh_wp_eq (dh_wpM_mono d) rfl
/-- DoubleHeapModel.goodOf(III)J -/
theorem m158 {p0 : Nat} {x1 : Int} {x2 : Int} {x3 : Int} : dh_wpM (d + 1) 158 [.inr (.inr (some p0)), .inl x1, .inl x2, .inl x3] h Q = dh_wp dh_sh (dh_wpM d) (dh_bl 158) Q 0 [some (.inr (.inr (some p0))), some (.inl x1), some (.inl x2), some (.inl x3)] [] h := dh_mq (Nat.le_of_ble_eq_true rfl) rfl
theorem u159_0 : dh_wp dh_sh (dh_wpM d) (dh_bl 159) Q 0 ls st h = dh_wpB dh_sh (dh_wpM d) (dh_wp dh_sh (dh_wpM d) (dh_bl 159) Q) Q bk159_0 ls st h := dh_wp_eq (dh_wpM_mono d) rfl
theorem u159_1 : dh_wp dh_sh (dh_wpM d) (dh_bl 159) Q 1 ls st h = dh_wpB dh_sh (dh_wpM d) (dh_wp dh_sh (dh_wpM d) (dh_bl 159) Q) Q bk159_1 ls st h := dh_wp_eq (dh_wpM_mono d) rfl
theorem u159_2 : dh_wp dh_sh (dh_wpM d) (dh_bl 159) Q 2 ls st h = dh_wpB dh_sh (dh_wpM d) (dh_wp dh_sh (dh_wpM d) (dh_bl 159) Q) Q bk159_2 ls st h := dh_wp_eq (dh_wpM_mono d) rfl
/-- DoubleHeapModel.types(I)V -/
theorem m159 {p0 : Nat} {x1 : Int} : dh_wpM (d + 1) 159 [.inr (.inr (some p0)), .inl x1] h Q = dh_wp dh_sh (dh_wpM d) (dh_bl 159) Q 0 [some (.inr (.inr (some p0))), some (.inl x1), none] [] h := dh_mq (Nat.le_of_ble_eq_true rfl) rfl
theorem u160_0 : dh_wp dh_sh (dh_wpM d) (dh_bl 160) Q 0 ls st h = dh_wpB dh_sh (dh_wpM d) (dh_wp dh_sh (dh_wpM d) (dh_bl 160) Q) Q bk160_0 ls st h := dh_wp_eq (dh_wpM_mono d) rfl
theorem u160_1 : dh_wp dh_sh (dh_wpM d) (dh_bl 160) Q 1 ls st h = dh_wpB dh_sh (dh_wpM d) (dh_wp dh_sh (dh_wpM d) (dh_bl 160) Q) Q bk160_1 ls st h := dh_wp_eq (dh_wpM_mono d) rfl
/-- DoubleHeapModel.feed(IIIII)I -/
theorem m160 {p0 : Nat} {x1 : Int} {x2 : Int} {x3 : Int} {x4 : Int} {x5 : Int} : dh_wpM (d + 1) 160 [.inr (.inr (some p0)), .inl x1, .inl x2, .inl x3, .inl x4, .inl x5] h Q = dh_wp dh_sh (dh_wpM d) (dh_bl 160) Q 0 [some (.inr (.inr (some p0))), some (.inl x1), some (.inl x2), some (.inl x3), some (.inl x4), some (.inl x5)] [] h := dh_mq (Nat.le_of_ble_eq_true rfl) rfl
theorem u161_0 : dh_wp dh_sh (dh_wpM d) (dh_bl 161) Q 0 ls st h = dh_wpB dh_sh (dh_wpM d) (dh_wp dh_sh (dh_wpM d) (dh_bl 161) Q) Q bk161_0 ls st h := dh_wp_eq (dh_wpM_mono d) rfl
theorem u161_1 : dh_wp dh_sh (dh_wpM d) (dh_bl 161) Q 1 ls st h = dh_wpB dh_sh (dh_wpM d) (dh_wp dh_sh (dh_wpM d) (dh_bl 161) Q) Q bk161_1 ls st h := dh_wp_eq (dh_wpM_mono d) rfl
theorem u161_2 : dh_wp dh_sh (dh_wpM d) (dh_bl 161) Q 2 ls st h = dh_wpB dh_sh (dh_wpM d) (dh_wp dh_sh (dh_wpM d) (dh_bl 161) Q) Q bk161_2 ls st h := dh_wp_eq (dh_wpM_mono d) rfl
/-- DoubleHeapModel.here()I -/
theorem m161 {p0 : Nat} : dh_wpM (d + 1) 161 [.inr (.inr (some p0))] h Q = dh_wp dh_sh (dh_wpM d) (dh_bl 161) Q 0 [some (.inr (.inr (some p0)))] [] h := dh_mq (Nat.le_of_ble_eq_true rfl) rfl
theorem u162_0 : dh_wp dh_sh (dh_wpM d) (dh_bl 162) Q 0 ls st h = dh_wpB dh_sh (dh_wpM d) (dh_wp dh_sh (dh_wpM d) (dh_bl 162) Q) Q bk162_0 ls st h := dh_wp_eq (dh_wpM_mono d) rfl
theorem u162_1 : dh_wp dh_sh (dh_wpM d) (dh_bl 162) Q 1 ls st h = dh_wpB dh_sh (dh_wpM d) (dh_wp dh_sh (dh_wpM d) (dh_bl 162) Q) Q bk162_1 ls st h := dh_wp_eq (dh_wpM_mono d) rfl
theorem u162_2 : dh_wp dh_sh (dh_wpM d) (dh_bl 162) Q 2 ls st h = dh_wpB dh_sh (dh_wpM d) (dh_wp dh_sh (dh_wpM d) (dh_bl 162) Q) Q bk162_2 ls st h := dh_wp_eq (dh_wpM_mono d) rfl
/-- DoubleHeapModel.isDigit()Z -/
theorem m162 {p0 : Nat} : dh_wpM (d + 1) 162 [.inr (.inr (some p0))] h Q = dh_wp dh_sh (dh_wpM d) (dh_bl 162) Q 0 [some (.inr (.inr (some p0)))] [] h := dh_mq (Nat.le_of_ble_eq_true rfl) rfl
theorem u163_0 : dh_wp dh_sh (dh_wpM d) (dh_bl 163) Q 0 ls st h = dh_wpB dh_sh (dh_wpM d) (dh_wp dh_sh (dh_wpM d) (dh_bl 163) Q) Q bk163_0 ls st h := dh_wp_eq (dh_wpM_mono d) rfl
/-- DoubleHeapModel.wrongAt(II)Z -/
theorem m163 {p0 : Nat} {x1 : Int} {x2 : Int} : dh_wpM (d + 1) 163 [.inr (.inr (some p0)), .inl x1, .inl x2] h Q = dh_wp dh_sh (dh_wpM d) (dh_bl 163) Q 0 [some (.inr (.inr (some p0))), some (.inl x1), some (.inl x2)] [] h := dh_mq (Nat.le_of_ble_eq_true rfl) rfl
theorem u164_0 : dh_wp dh_sh (dh_wpM d) (dh_bl 164) Q 0 ls st h = dh_wpB dh_sh (dh_wpM d) (dh_wp dh_sh (dh_wpM d) (dh_bl 164) Q) Q bk164_0 ls st h := dh_wp_eq (dh_wpM_mono d) rfl
theorem u164_1 : dh_wp dh_sh (dh_wpM d) (dh_bl 164) Q 1 ls st h = dh_wpB dh_sh (dh_wpM d) (dh_wp dh_sh (dh_wpM d) (dh_bl 164) Q) Q bk164_1 ls st h := dh_wp_eq (dh_wpM_mono d) rfl
/-- DoubleHeapModel.takesSign(I)Z -/
theorem m164 {p0 : Nat} {x1 : Int} : dh_wpM (d + 1) 164 [.inr (.inr (some p0)), .inl x1] h Q = dh_wp dh_sh (dh_wpM d) (dh_bl 164) Q 0 [some (.inr (.inr (some p0))), some (.inl x1)] [] h := dh_mq (Nat.le_of_ble_eq_true rfl) rfl
theorem u165_0 : dh_wp dh_sh (dh_wpM d) (dh_bl 165) Q 0 ls st h = dh_wpB dh_sh (dh_wpM d) (dh_wp dh_sh (dh_wpM d) (dh_bl 165) Q) Q bk165_0 ls st h := dh_wp_eq (dh_wpM_mono d) rfl
theorem u165_1 : dh_wp dh_sh (dh_wpM d) (dh_bl 165) Q 1 ls st h = dh_wpB dh_sh (dh_wpM d) (dh_wp dh_sh (dh_wpM d) (dh_bl 165) Q) Q bk165_1 ls st h := dh_wp_eq (dh_wpM_mono d) rfl
theorem u165_2 : dh_wp dh_sh (dh_wpM d) (dh_bl 165) Q 2 ls st h = dh_wpB dh_sh (dh_wpM d) (dh_wp dh_sh (dh_wpM d) (dh_bl 165) Q) Q bk165_2 ls st h := dh_wp_eq (dh_wpM_mono d) rfl
theorem u165_3 : dh_wp dh_sh (dh_wpM d) (dh_bl 165) Q 3 ls st h = dh_wpB dh_sh (dh_wpM d) (dh_wp dh_sh (dh_wpM d) (dh_bl 165) Q) Q bk165_3 ls st h := dh_wp_eq (dh_wpM_mono d) rfl
/-- DoubleHeapModel.readsNumber()Z -/
theorem m165 {p0 : Nat} : dh_wpM (d + 1) 165 [.inr (.inr (some p0))] h Q = dh_wp dh_sh (dh_wpM d) (dh_bl 165) Q 0 [some (.inr (.inr (some p0))), none] [] h := dh_mq (Nat.le_of_ble_eq_true rfl) rfl
theorem u166_0 : dh_wp dh_sh (dh_wpM d) (dh_bl 166) Q 0 ls st h = dh_wpB dh_sh (dh_wpM d) (dh_wp dh_sh (dh_wpM d) (dh_bl 166) Q) Q bk166_0 ls st h := dh_wp_eq (dh_wpM_mono d) rfl
/-- DoubleHeapModel.notes(II)V -/
theorem m166 {p0 : Nat} {x1 : Int} {x2 : Int} : dh_wpM (d + 1) 166 [.inr (.inr (some p0)), .inl x1, .inl x2] h Q = dh_wp dh_sh (dh_wpM d) (dh_bl 166) Q 0 [some (.inr (.inr (some p0))), some (.inl x1), some (.inl x2)] [] h := dh_mq (Nat.le_of_ble_eq_true rfl) rfl
theorem u167_0 : dh_wp dh_sh (dh_wpM d) (dh_bl 167) Q 0 ls st h = dh_wpB dh_sh (dh_wpM d) (dh_wp dh_sh (dh_wpM d) (dh_bl 167) Q) Q bk167_0 ls st h := dh_wp_eq (dh_wpM_mono d) rfl
theorem u167_1 : dh_wp dh_sh (dh_wpM d) (dh_bl 167) Q 1 ls st h = dh_wpB dh_sh (dh_wpM d) (dh_wp dh_sh (dh_wpM d) (dh_bl 167) Q) Q bk167_1 ls st h := dh_wp_eq (dh_wpM_mono d) rfl
/-- DoubleHeapModel.opens(I)Z -/
theorem m167 {p0 : Nat} {x1 : Int} : dh_wpM (d + 1) 167 [.inr (.inr (some p0)), .inl x1] h Q = dh_wp dh_sh (dh_wpM d) (dh_bl 167) Q 0 [some (.inr (.inr (some p0))), some (.inl x1)] [] h := dh_mq (Nat.le_of_ble_eq_true rfl) rfl
theorem u168_0 : dh_wp dh_sh (dh_wpM d) (dh_bl 168) Q 0 ls st h = dh_wpB dh_sh (dh_wpM d) (dh_wp dh_sh (dh_wpM d) (dh_bl 168) Q) Q bk168_0 ls st h := dh_wp_eq (dh_wpM_mono d) rfl
theorem u168_1 : dh_wp dh_sh (dh_wpM d) (dh_bl 168) Q 1 ls st h = dh_wpB dh_sh (dh_wpM d) (dh_wp dh_sh (dh_wpM d) (dh_bl 168) Q) Q bk168_1 ls st h := dh_wp_eq (dh_wpM_mono d) rfl
theorem u168_2 : dh_wp dh_sh (dh_wpM d) (dh_bl 168) Q 2 ls st h = dh_wpB dh_sh (dh_wpM d) (dh_wp dh_sh (dh_wpM d) (dh_bl 168) Q) Q bk168_2 ls st h := dh_wp_eq (dh_wpM_mono d) rfl
/-- DoubleHeapModel.waitTop()I -/
theorem m168 {p0 : Nat} : dh_wpM (d + 1) 168 [.inr (.inr (some p0))] h Q = dh_wp dh_sh (dh_wpM d) (dh_bl 168) Q 0 [some (.inr (.inr (some p0)))] [] h := dh_mq (Nat.le_of_ble_eq_true rfl) rfl
theorem u169_0 : dh_wp dh_sh (dh_wpM d) (dh_bl 169) Q 0 ls st h = dh_wpB dh_sh (dh_wpM d) (dh_wp dh_sh (dh_wpM d) (dh_bl 169) Q) Q bk169_0 ls st h := dh_wp_eq (dh_wpM_mono d) rfl
theorem u169_1 : dh_wp dh_sh (dh_wpM d) (dh_bl 169) Q 1 ls st h = dh_wpB dh_sh (dh_wpM d) (dh_wp dh_sh (dh_wpM d) (dh_bl 169) Q) Q bk169_1 ls st h := dh_wp_eq (dh_wpM_mono d) rfl
theorem u169_2 : dh_wp dh_sh (dh_wpM d) (dh_bl 169) Q 2 ls st h = dh_wpB dh_sh (dh_wpM d) (dh_wp dh_sh (dh_wpM d) (dh_bl 169) Q) Q bk169_2 ls st h := dh_wp_eq (dh_wpM_mono d) rfl
theorem u169_3 : dh_wp dh_sh (dh_wpM d) (dh_bl 169) Q 3 ls st h = dh_wpB dh_sh (dh_wpM d) (dh_wp dh_sh (dh_wpM d) (dh_bl 169) Q) Q bk169_3 ls st h := dh_wp_eq (dh_wpM_mono d) rfl
theorem u169_4 : dh_wp dh_sh (dh_wpM d) (dh_bl 169) Q 4 ls st h = dh_wpB dh_sh (dh_wpM d) (dh_wp dh_sh (dh_wpM d) (dh_bl 169) Q) Q bk169_4 ls st h := dh_wp_eq (dh_wpM_mono d) rfl
/-- DoubleHeapModel.factOf(I)I -/
theorem m169 {x1 : Int} : dh_wpM (d + 1) 169 [.inl x1] h Q = dh_wp dh_sh (dh_wpM d) (dh_bl 169) Q 0 [some (.inl x1)] [] h := dh_mq (Nat.le_of_ble_eq_true rfl) rfl
theorem u170_0 : dh_wp dh_sh (dh_wpM d) (dh_bl 170) Q 0 ls st h = dh_wpB dh_sh (dh_wpM d) (dh_wp dh_sh (dh_wpM d) (dh_bl 170) Q) Q bk170_0 ls st h := dh_wp_eq (dh_wpM_mono d) rfl
theorem u170_1 : dh_wp dh_sh (dh_wpM d) (dh_bl 170) Q 1 ls st h = dh_wpB dh_sh (dh_wpM d) (dh_wp dh_sh (dh_wpM d) (dh_bl 170) Q) Q bk170_1 ls st h := dh_wp_eq (dh_wpM_mono d) rfl
theorem u170_2 : dh_wp dh_sh (dh_wpM d) (dh_bl 170) Q 2 ls st h = dh_wpB dh_sh (dh_wpM d) (dh_wp dh_sh (dh_wpM d) (dh_bl 170) Q) Q bk170_2 ls st h := dh_wp_eq (dh_wpM_mono d) rfl
theorem u170_3 : dh_wp dh_sh (dh_wpM d) (dh_bl 170) Q 3 ls st h = dh_wpB dh_sh (dh_wpM d) (dh_wp dh_sh (dh_wpM d) (dh_bl 170) Q) Q bk170_3 ls st h := dh_wp_eq (dh_wpM_mono d) rfl
theorem u170_4 : dh_wp dh_sh (dh_wpM d) (dh_bl 170) Q 4 ls st h = dh_wpB dh_sh (dh_wpM d) (dh_wp dh_sh (dh_wpM d) (dh_bl 170) Q) Q bk170_4 ls st h := dh_wp_eq (dh_wpM_mono d) rfl
theorem u170_5 : dh_wp dh_sh (dh_wpM d) (dh_bl 170) Q 5 ls st h = dh_wpB dh_sh (dh_wpM d) (dh_wp dh_sh (dh_wpM d) (dh_bl 170) Q) Q bk170_5 ls st h := dh_wp_eq (dh_wpM_mono d) rfl
theorem u170_6 : dh_wp dh_sh (dh_wpM d) (dh_bl 170) Q 6 ls st h = dh_wpB dh_sh (dh_wpM d) (dh_wp dh_sh (dh_wpM d) (dh_bl 170) Q) Q bk170_6 ls st h := dh_wp_eq (dh_wpM_mono d) rfl
/-- DoubleHeapModel.sumSign(I)I -/
theorem m170 {x1 : Int} : dh_wpM (d + 1) 170 [.inl x1] h Q = dh_wp dh_sh (dh_wpM d) (dh_bl 170) Q 0 [some (.inl x1)] [] h := dh_mq (Nat.le_of_ble_eq_true rfl) rfl
theorem u171_0 : dh_wp dh_sh (dh_wpM d) (dh_bl 171) Q 0 ls st h = dh_wpB dh_sh (dh_wpM d) (dh_wp dh_sh (dh_wpM d) (dh_bl 171) Q) Q bk171_0 ls st h := dh_wp_eq (dh_wpM_mono d) rfl
theorem u171_1 : dh_wp dh_sh (dh_wpM d) (dh_bl 171) Q 1 ls st h = dh_wpB dh_sh (dh_wpM d) (dh_wp dh_sh (dh_wpM d) (dh_bl 171) Q) Q bk171_1 ls st h := dh_wp_eq (dh_wpM_mono d) rfl
theorem u171_2 : dh_wp dh_sh (dh_wpM d) (dh_bl 171) Q 2 ls st h = dh_wpB dh_sh (dh_wpM d) (dh_wp dh_sh (dh_wpM d) (dh_bl 171) Q) Q bk171_2 ls st h := dh_wp_eq (dh_wpM_mono d) rfl
theorem u171_3 : dh_wp dh_sh (dh_wpM d) (dh_bl 171) Q 3 ls st h = dh_wpB dh_sh (dh_wpM d) (dh_wp dh_sh (dh_wpM d) (dh_bl 171) Q) Q bk171_3 ls st h := dh_wp_eq (dh_wpM_mono d) rfl
/-- DoubleHeapModel.closesSums(Z)V -/
theorem m171 {p0 : Nat} {x1 : Int} : dh_wpM (d + 1) 171 [.inr (.inr (some p0)), .inl x1] h Q = dh_wp dh_sh (dh_wpM d) (dh_bl 171) Q 0 [some (.inr (.inr (some p0))), some (.inl x1)] [] h := dh_mq (Nat.le_of_ble_eq_true rfl) rfl
theorem u172_0 : dh_wp dh_sh (dh_wpM d) (dh_bl 172) Q 0 ls st h = dh_wpB dh_sh (dh_wpM d) (dh_wp dh_sh (dh_wpM d) (dh_bl 172) Q) Q bk172_0 ls st h := dh_wp_eq (dh_wpM_mono d) rfl
theorem u172_1 : dh_wp dh_sh (dh_wpM d) (dh_bl 172) Q 1 ls st h = dh_wpB dh_sh (dh_wpM d) (dh_wp dh_sh (dh_wpM d) (dh_bl 172) Q) Q bk172_1 ls st h := dh_wp_eq (dh_wpM_mono d) rfl
theorem u172_2 : dh_wp dh_sh (dh_wpM d) (dh_bl 172) Q 2 ls st h = dh_wpB dh_sh (dh_wpM d) (dh_wp dh_sh (dh_wpM d) (dh_bl 172) Q) Q bk172_2 ls st h := dh_wp_eq (dh_wpM_mono d) rfl
theorem u172_3 : dh_wp dh_sh (dh_wpM d) (dh_bl 172) Q 3 ls st h = dh_wpB dh_sh (dh_wpM d) (dh_wp dh_sh (dh_wpM d) (dh_bl 172) Q) Q bk172_3 ls st h := dh_wp_eq (dh_wpM_mono d) rfl
theorem u172_4 : dh_wp dh_sh (dh_wpM d) (dh_bl 172) Q 4 ls st h = dh_wpB dh_sh (dh_wpM d) (dh_wp dh_sh (dh_wpM d) (dh_bl 172) Q) Q bk172_4 ls st h := dh_wp_eq (dh_wpM_mono d) rfl
/-- DoubleHeapModel.readsFactor()Z -/
theorem m172 {p0 : Nat} : dh_wpM (d + 1) 172 [.inr (.inr (some p0))] h Q = dh_wp dh_sh (dh_wpM d) (dh_bl 172) Q 0 [some (.inr (.inr (some p0))), none] [] h := dh_mq (Nat.le_of_ble_eq_true rfl) rfl
theorem u173_0 : dh_wp dh_sh (dh_wpM d) (dh_bl 173) Q 0 ls st h = dh_wpB dh_sh (dh_wpM d) (dh_wp dh_sh (dh_wpM d) (dh_bl 173) Q) Q bk173_0 ls st h := dh_wp_eq (dh_wpM_mono d) rfl
theorem u173_1 : dh_wp dh_sh (dh_wpM d) (dh_bl 173) Q 1 ls st h = dh_wpB dh_sh (dh_wpM d) (dh_wp dh_sh (dh_wpM d) (dh_bl 173) Q) Q bk173_1 ls st h := dh_wp_eq (dh_wpM_mono d) rfl
theorem u173_2 : dh_wp dh_sh (dh_wpM d) (dh_bl 173) Q 2 ls st h = dh_wpB dh_sh (dh_wpM d) (dh_wp dh_sh (dh_wpM d) (dh_bl 173) Q) Q bk173_2 ls st h := dh_wp_eq (dh_wpM_mono d) rfl
theorem u173_3 : dh_wp dh_sh (dh_wpM d) (dh_bl 173) Q 3 ls st h = dh_wpB dh_sh (dh_wpM d) (dh_wp dh_sh (dh_wpM d) (dh_bl 173) Q) Q bk173_3 ls st h := dh_wp_eq (dh_wpM_mono d) rfl
/-- DoubleHeapModel.hasOpenSum(I)Z -/
theorem m173 {p0 : Nat} {x1 : Int} : dh_wpM (d + 1) 173 [.inr (.inr (some p0)), .inl x1] h Q = dh_wp dh_sh (dh_wpM d) (dh_bl 173) Q 0 [some (.inr (.inr (some p0))), some (.inl x1), none] [] h := dh_mq (Nat.le_of_ble_eq_true rfl) rfl
theorem u174_0 : dh_wp dh_sh (dh_wpM d) (dh_bl 174) Q 0 ls st h = dh_wpB dh_sh (dh_wpM d) (dh_wp dh_sh (dh_wpM d) (dh_bl 174) Q) Q bk174_0 ls st h := dh_wp_eq (dh_wpM_mono d) rfl
theorem u174_1 : dh_wp dh_sh (dh_wpM d) (dh_bl 174) Q 1 ls st h = dh_wpB dh_sh (dh_wpM d) (dh_wp dh_sh (dh_wpM d) (dh_bl 174) Q) Q bk174_1 ls st h := dh_wp_eq (dh_wpM_mono d) rfl
theorem u174_2 : dh_wp dh_sh (dh_wpM d) (dh_bl 174) Q 2 ls st h = dh_wpB dh_sh (dh_wpM d) (dh_wp dh_sh (dh_wpM d) (dh_bl 174) Q) Q bk174_2 ls st h := dh_wp_eq (dh_wpM_mono d) rfl
theorem u174_3 : dh_wp dh_sh (dh_wpM d) (dh_bl 174) Q 3 ls st h = dh_wpB dh_sh (dh_wpM d) (dh_wp dh_sh (dh_wpM d) (dh_bl 174) Q) Q bk174_3 ls st h := dh_wp_eq (dh_wpM_mono d) rfl
theorem u174_4 : dh_wp dh_sh (dh_wpM d) (dh_bl 174) Q 4 ls st h = dh_wpB dh_sh (dh_wpM d) (dh_wp dh_sh (dh_wpM d) (dh_bl 174) Q) Q bk174_4 ls st h := dh_wp_eq (dh_wpM_mono d) rfl
theorem u174_5 : dh_wp dh_sh (dh_wpM d) (dh_bl 174) Q 5 ls st h = dh_wpB dh_sh (dh_wpM d) (dh_wp dh_sh (dh_wpM d) (dh_bl 174) Q) Q bk174_5 ls st h := dh_wp_eq (dh_wpM_mono d) rfl
theorem u174_6 : dh_wp dh_sh (dh_wpM d) (dh_bl 174) Q 6 ls st h = dh_wpB dh_sh (dh_wpM d) (dh_wp dh_sh (dh_wpM d) (dh_bl 174) Q) Q bk174_6 ls st h := dh_wp_eq (dh_wpM_mono d) rfl
theorem u174_7 : dh_wp dh_sh (dh_wpM d) (dh_bl 174) Q 7 ls st h = dh_wpB dh_sh (dh_wpM d) (dh_wp dh_sh (dh_wpM d) (dh_bl 174) Q) Q bk174_7 ls st h := dh_wp_eq (dh_wpM_mono d) rfl
/-- DoubleHeapModel.readsSum()Z -/
theorem m174 {p0 : Nat} : dh_wpM (d + 1) 174 [.inr (.inr (some p0))] h Q = dh_wp dh_sh (dh_wpM d) (dh_bl 174) Q 0 [some (.inr (.inr (some p0))), none, none] [] h := dh_mq (Nat.le_of_ble_eq_true rfl) rfl
theorem u175_0 : dh_wp dh_sh (dh_wpM d) (dh_bl 175) Q 0 ls st h = dh_wpB dh_sh (dh_wpM d) (dh_wp dh_sh (dh_wpM d) (dh_bl 175) Q) Q bk175_0 ls st h := dh_wp_eq (dh_wpM_mono d) rfl
theorem u175_1 : dh_wp dh_sh (dh_wpM d) (dh_bl 175) Q 1 ls st h = dh_wpB dh_sh (dh_wpM d) (dh_wp dh_sh (dh_wpM d) (dh_bl 175) Q) Q bk175_1 ls st h := dh_wp_eq (dh_wpM_mono d) rfl
/-- DoubleHeapModel.endsPiece()V -/
theorem m175 {p0 : Nat} : dh_wpM (d + 1) 175 [.inr (.inr (some p0))] h Q = dh_wp dh_sh (dh_wpM d) (dh_bl 175) Q 0 [some (.inr (.inr (some p0)))] [] h := dh_mq (Nat.le_of_ble_eq_true rfl) rfl
theorem u176_0 : dh_wp dh_sh (dh_wpM d) (dh_bl 176) Q 0 ls st h = dh_wpB dh_sh (dh_wpM d) (dh_wp dh_sh (dh_wpM d) (dh_bl 176) Q) Q bk176_0 ls st h := dh_wp_eq (dh_wpM_mono d) rfl
theorem u176_1 : dh_wp dh_sh (dh_wpM d) (dh_bl 176) Q 1 ls st h = dh_wpB dh_sh (dh_wpM d) (dh_wp dh_sh (dh_wpM d) (dh_bl 176) Q) Q bk176_1 ls st h := dh_wp_eq (dh_wpM_mono d) rfl
theorem u176_2 : dh_wp dh_sh (dh_wpM d) (dh_bl 176) Q 2 ls st h = dh_wpB dh_sh (dh_wpM d) (dh_wp dh_sh (dh_wpM d) (dh_bl 176) Q) Q bk176_2 ls st h := dh_wp_eq (dh_wpM_mono d) rfl
/-- DoubleHeapModel.lands(Z)V -/
theorem m176 {p0 : Nat} {x1 : Int} : dh_wpM (d + 1) 176 [.inr (.inr (some p0)), .inl x1] h Q = dh_wp dh_sh (dh_wpM d) (dh_bl 176) Q 0 [some (.inr (.inr (some p0))), some (.inl x1), none] [] h := dh_mq (Nat.le_of_ble_eq_true rfl) rfl
theorem u177_0 : dh_wp dh_sh (dh_wpM d) (dh_bl 177) Q 0 ls st h = dh_wpB dh_sh (dh_wpM d) (dh_wp dh_sh (dh_wpM d) (dh_bl 177) Q) Q bk177_0 ls st h := dh_wp_eq (dh_wpM_mono d) rfl
/-- DoubleHeapModel.jumps(I)V -/
theorem m177 {p0 : Nat} {x1 : Int} : dh_wpM (d + 1) 177 [.inr (.inr (some p0)), .inl x1] h Q = dh_wp dh_sh (dh_wpM d) (dh_bl 177) Q 0 [some (.inr (.inr (some p0))), some (.inl x1)] [] h := dh_mq (Nat.le_of_ble_eq_true rfl) rfl
theorem u178_0 : dh_wp dh_sh (dh_wpM d) (dh_bl 178) Q 0 ls st h = dh_wpB dh_sh (dh_wpM d) (dh_wp dh_sh (dh_wpM d) (dh_bl 178) Q) Q bk178_0 ls st h := dh_wp_eq (dh_wpM_mono d) rfl
theorem u178_1 : dh_wp dh_sh (dh_wpM d) (dh_bl 178) Q 1 ls st h = dh_wpB dh_sh (dh_wpM d) (dh_wp dh_sh (dh_wpM d) (dh_bl 178) Q) Q bk178_1 ls st h := dh_wp_eq (dh_wpM_mono d) rfl
theorem u178_2 : dh_wp dh_sh (dh_wpM d) (dh_bl 178) Q 2 ls st h = dh_wpB dh_sh (dh_wpM d) (dh_wp dh_sh (dh_wpM d) (dh_bl 178) Q) Q bk178_2 ls st h := dh_wp_eq (dh_wpM_mono d) rfl
theorem u178_3 : dh_wp dh_sh (dh_wpM d) (dh_bl 178) Q 3 ls st h = dh_wpB dh_sh (dh_wpM d) (dh_wp dh_sh (dh_wpM d) (dh_bl 178) Q) Q bk178_3 ls st h := dh_wp_eq (dh_wpM_mono d) rfl
theorem u178_4 : dh_wp dh_sh (dh_wpM d) (dh_bl 178) Q 4 ls st h = dh_wpB dh_sh (dh_wpM d) (dh_wp dh_sh (dh_wpM d) (dh_bl 178) Q) Q bk178_4 ls st h := dh_wp_eq (dh_wpM_mono d) rfl
theorem u178_5 : dh_wp dh_sh (dh_wpM d) (dh_bl 178) Q 5 ls st h = dh_wpB dh_sh (dh_wpM d) (dh_wp dh_sh (dh_wpM d) (dh_bl 178) Q) Q bk178_5 ls st h := dh_wp_eq (dh_wpM_mono d) rfl
theorem u178_6 : dh_wp dh_sh (dh_wpM d) (dh_bl 178) Q 6 ls st h = dh_wpB dh_sh (dh_wpM d) (dh_wp dh_sh (dh_wpM d) (dh_bl 178) Q) Q bk178_6 ls st h := dh_wp_eq (dh_wpM_mono d) rfl
theorem u178_7 : dh_wp dh_sh (dh_wpM d) (dh_bl 178) Q 7 ls st h = dh_wpB dh_sh (dh_wpM d) (dh_wp dh_sh (dh_wpM d) (dh_bl 178) Q) Q bk178_7 ls st h := dh_wp_eq (dh_wpM_mono d) rfl
/-- DoubleHeapModel.readsCompared()Z -/
theorem m178 {p0 : Nat} : dh_wpM (d + 1) 178 [.inr (.inr (some p0))] h Q = dh_wp dh_sh (dh_wpM d) (dh_bl 178) Q 0 [some (.inr (.inr (some p0))), none] [] h := dh_mq (Nat.le_of_ble_eq_true rfl) rfl
theorem u179_0 : dh_wp dh_sh (dh_wpM d) (dh_bl 179) Q 0 ls st h = dh_wpB dh_sh (dh_wpM d) (dh_wp dh_sh (dh_wpM d) (dh_bl 179) Q) Q bk179_0 ls st h := dh_wp_eq (dh_wpM_mono d) rfl
theorem u179_1 : dh_wp dh_sh (dh_wpM d) (dh_bl 179) Q 1 ls st h = dh_wpB dh_sh (dh_wpM d) (dh_wp dh_sh (dh_wpM d) (dh_bl 179) Q) Q bk179_1 ls st h := dh_wp_eq (dh_wpM_mono d) rfl
theorem u179_2 : dh_wp dh_sh (dh_wpM d) (dh_bl 179) Q 2 ls st h = dh_wpB dh_sh (dh_wpM d) (dh_wp dh_sh (dh_wpM d) (dh_bl 179) Q) Q bk179_2 ls st h := dh_wp_eq (dh_wpM_mono d) rfl
theorem u179_3 : dh_wp dh_sh (dh_wpM d) (dh_bl 179) Q 3 ls st h = dh_wpB dh_sh (dh_wpM d) (dh_wp dh_sh (dh_wpM d) (dh_bl 179) Q) Q bk179_3 ls st h := dh_wp_eq (dh_wpM_mono d) rfl
theorem u179_4 : dh_wp dh_sh (dh_wpM d) (dh_bl 179) Q 4 ls st h = dh_wpB dh_sh (dh_wpM d) (dh_wp dh_sh (dh_wpM d) (dh_bl 179) Q) Q bk179_4 ls st h := dh_wp_eq (dh_wpM_mono d) rfl
theorem u179_5 : dh_wp dh_sh (dh_wpM d) (dh_bl 179) Q 5 ls st h = dh_wpB dh_sh (dh_wpM d) (dh_wp dh_sh (dh_wpM d) (dh_bl 179) Q) Q bk179_5 ls st h := dh_wp_eq (dh_wpM_mono d) rfl
theorem u179_6 : dh_wp dh_sh (dh_wpM d) (dh_bl 179) Q 6 ls st h = dh_wpB dh_sh (dh_wpM d) (dh_wp dh_sh (dh_wpM d) (dh_bl 179) Q) Q bk179_6 ls st h := dh_wp_eq (dh_wpM_mono d) rfl
theorem u179_7 : dh_wp dh_sh (dh_wpM d) (dh_bl 179) Q 7 ls st h = dh_wpB dh_sh (dh_wpM d) (dh_wp dh_sh (dh_wpM d) (dh_bl 179) Q) Q bk179_7 ls st h := dh_wp_eq (dh_wpM_mono d) rfl
theorem u179_8 : dh_wp dh_sh (dh_wpM d) (dh_bl 179) Q 8 ls st h = dh_wpB dh_sh (dh_wpM d) (dh_wp dh_sh (dh_wpM d) (dh_bl 179) Q) Q bk179_8 ls st h := dh_wp_eq (dh_wpM_mono d) rfl
theorem u179_9 : dh_wp dh_sh (dh_wpM d) (dh_bl 179) Q 9 ls st h = dh_wpB dh_sh (dh_wpM d) (dh_wp dh_sh (dh_wpM d) (dh_bl 179) Q) Q bk179_9 ls st h := dh_wp_eq (dh_wpM_mono d) rfl
theorem u179_10 : dh_wp dh_sh (dh_wpM d) (dh_bl 179) Q 10 ls st h = dh_wpB dh_sh (dh_wpM d) (dh_wp dh_sh (dh_wpM d) (dh_bl 179) Q) Q bk179_10 ls st h := dh_wp_eq (dh_wpM_mono d) rfl
theorem u179_11 : dh_wp dh_sh (dh_wpM d) (dh_bl 179) Q 11 ls st h = dh_wpB dh_sh (dh_wpM d) (dh_wp dh_sh (dh_wpM d) (dh_bl 179) Q) Q bk179_11 ls st h := dh_wp_eq (dh_wpM_mono d) rfl
theorem u179_12 : dh_wp dh_sh (dh_wpM d) (dh_bl 179) Q 12 ls st h = dh_wpB dh_sh (dh_wpM d) (dh_wp dh_sh (dh_wpM d) (dh_bl 179) Q) Q bk179_12 ls st h := dh_wp_eq (dh_wpM_mono d) rfl
theorem u179_13 : dh_wp dh_sh (dh_wpM d) (dh_bl 179) Q 13 ls st h = dh_wpB dh_sh (dh_wpM d) (dh_wp dh_sh (dh_wpM d) (dh_bl 179) Q) Q bk179_13 ls st h := dh_wp_eq (dh_wpM_mono d) rfl
theorem u179_14 : dh_wp dh_sh (dh_wpM d) (dh_bl 179) Q 14 ls st h = dh_wpB dh_sh (dh_wpM d) (dh_wp dh_sh (dh_wpM d) (dh_bl 179) Q) Q bk179_14 ls st h := dh_wp_eq (dh_wpM_mono d) rfl
/-- DoubleHeapModel.readsCondition()Z -/
theorem m179 {p0 : Nat} : dh_wpM (d + 1) 179 [.inr (.inr (some p0))] h Q = dh_wp dh_sh (dh_wpM d) (dh_bl 179) Q 0 [some (.inr (.inr (some p0)))] [] h := dh_mq (Nat.le_of_ble_eq_true rfl) rfl
theorem u180_0 : dh_wp dh_sh (dh_wpM d) (dh_bl 180) Q 0 ls st h = dh_wpB dh_sh (dh_wpM d) (dh_wp dh_sh (dh_wpM d) (dh_bl 180) Q) Q bk180_0 ls st h := dh_wp_eq (dh_wpM_mono d) rfl
theorem u180_1 : dh_wp dh_sh (dh_wpM d) (dh_bl 180) Q 1 ls st h = dh_wpB dh_sh (dh_wpM d) (dh_wp dh_sh (dh_wpM d) (dh_bl 180) Q) Q bk180_1 ls st h := dh_wp_eq (dh_wpM_mono d) rfl
theorem u180_2 : dh_wp dh_sh (dh_wpM d) (dh_bl 180) Q 2 ls st h = dh_wpB dh_sh (dh_wpM d) (dh_wp dh_sh (dh_wpM d) (dh_bl 180) Q) Q bk180_2 ls st h := dh_wp_eq (dh_wpM_mono d) rfl
theorem u180_3 : dh_wp dh_sh (dh_wpM d) (dh_bl 180) Q 3 ls st h = dh_wpB dh_sh (dh_wpM d) (dh_wp dh_sh (dh_wpM d) (dh_bl 180) Q) Q bk180_3 ls st h := dh_wp_eq (dh_wpM_mono d) rfl
theorem u180_4 : dh_wp dh_sh (dh_wpM d) (dh_bl 180) Q 4 ls st h = dh_wpB dh_sh (dh_wpM d) (dh_wp dh_sh (dh_wpM d) (dh_bl 180) Q) Q bk180_4 ls st h := dh_wp_eq (dh_wpM_mono d) rfl
/-- DoubleHeapModel.readsRule()Z -/
theorem m180 {p0 : Nat} : dh_wpM (d + 1) 180 [.inr (.inr (some p0))] h Q = dh_wp dh_sh (dh_wpM d) (dh_bl 180) Q 0 [some (.inr (.inr (some p0))), none] [] h := dh_mq (Nat.le_of_ble_eq_true rfl) rfl
theorem u181_0 : dh_wp dh_sh (dh_wpM d) (dh_bl 181) Q 0 ls st h = dh_wpB dh_sh (dh_wpM d) (dh_wp dh_sh (dh_wpM d) (dh_bl 181) Q) Q bk181_0 ls st h := dh_wp_eq (dh_wpM_mono d) rfl
theorem u181_1 : dh_wp dh_sh (dh_wpM d) (dh_bl 181) Q 1 ls st h = dh_wpB dh_sh (dh_wpM d) (dh_wp dh_sh (dh_wpM d) (dh_bl 181) Q) Q bk181_1 ls st h := dh_wp_eq (dh_wpM_mono d) rfl
theorem u181_2 : dh_wp dh_sh (dh_wpM d) (dh_bl 181) Q 2 ls st h = dh_wpB dh_sh (dh_wpM d) (dh_wp dh_sh (dh_wpM d) (dh_bl 181) Q) Q bk181_2 ls st h := dh_wp_eq (dh_wpM_mono d) rfl
theorem u181_3 : dh_wp dh_sh (dh_wpM d) (dh_bl 181) Q 3 ls st h = dh_wpB dh_sh (dh_wpM d) (dh_wp dh_sh (dh_wpM d) (dh_bl 181) Q) Q bk181_3 ls st h := dh_wp_eq (dh_wpM_mono d) rfl
theorem u181_4 : dh_wp dh_sh (dh_wpM d) (dh_bl 181) Q 4 ls st h = dh_wpB dh_sh (dh_wpM d) (dh_wp dh_sh (dh_wpM d) (dh_bl 181) Q) Q bk181_4 ls st h := dh_wp_eq (dh_wpM_mono d) rfl
theorem u181_5 : dh_wp dh_sh (dh_wpM d) (dh_bl 181) Q 5 ls st h = dh_wpB dh_sh (dh_wpM d) (dh_wp dh_sh (dh_wpM d) (dh_bl 181) Q) Q bk181_5 ls st h := dh_wp_eq (dh_wpM_mono d) rfl
theorem u181_6 : dh_wp dh_sh (dh_wpM d) (dh_bl 181) Q 6 ls st h = dh_wpB dh_sh (dh_wpM d) (dh_wp dh_sh (dh_wpM d) (dh_bl 181) Q) Q bk181_6 ls st h := dh_wp_eq (dh_wpM_mono d) rfl
theorem u181_7 : dh_wp dh_sh (dh_wpM d) (dh_bl 181) Q 7 ls st h = dh_wpB dh_sh (dh_wpM d) (dh_wp dh_sh (dh_wpM d) (dh_bl 181) Q) Q bk181_7 ls st h := dh_wp_eq (dh_wpM_mono d) rfl
/-- DoubleHeapModel.law(II)I -/
theorem m181 {p0 : Nat} {x1 : Int} {x2 : Int} : dh_wpM (d + 1) 181 [.inr (.inr (some p0)), .inl x1, .inl x2] h Q = dh_wp dh_sh (dh_wpM d) (dh_bl 181) Q 0 [some (.inr (.inr (some p0))), some (.inl x1), some (.inl x2), none] [] h := dh_mq (Nat.le_of_ble_eq_true rfl) rfl
theorem u182_0 : dh_wp dh_sh (dh_wpM d) (dh_bl 182) Q 0 ls st h = dh_wpB dh_sh (dh_wpM d) (dh_wp dh_sh (dh_wpM d) (dh_bl 182) Q) Q bk182_0 ls st h := dh_wp_eq (dh_wpM_mono d) rfl
theorem u182_1 : dh_wp dh_sh (dh_wpM d) (dh_bl 182) Q 1 ls st h = dh_wpB dh_sh (dh_wpM d) (dh_wp dh_sh (dh_wpM d) (dh_bl 182) Q) Q bk182_1 ls st h := dh_wp_eq (dh_wpM_mono d) rfl
theorem u182_2 : dh_wp dh_sh (dh_wpM d) (dh_bl 182) Q 2 ls st h = dh_wpB dh_sh (dh_wpM d) (dh_wp dh_sh (dh_wpM d) (dh_bl 182) Q) Q bk182_2 ls st h := dh_wp_eq (dh_wpM_mono d) rfl
theorem u182_3 : dh_wp dh_sh (dh_wpM d) (dh_bl 182) Q 3 ls st h = dh_wpB dh_sh (dh_wpM d) (dh_wp dh_sh (dh_wpM d) (dh_bl 182) Q) Q bk182_3 ls st h := dh_wp_eq (dh_wpM_mono d) rfl
theorem u182_4 : dh_wp dh_sh (dh_wpM d) (dh_bl 182) Q 4 ls st h = dh_wpB dh_sh (dh_wpM d) (dh_wp dh_sh (dh_wpM d) (dh_bl 182) Q) Q bk182_4 ls st h := dh_wp_eq (dh_wpM_mono d) rfl
theorem u182_5 : dh_wp dh_sh (dh_wpM d) (dh_bl 182) Q 5 ls st h = dh_wpB dh_sh (dh_wpM d) (dh_wp dh_sh (dh_wpM d) (dh_bl 182) Q) Q bk182_5 ls st h := dh_wp_eq (dh_wpM_mono d) rfl
theorem u182_6 : dh_wp dh_sh (dh_wpM d) (dh_bl 182) Q 6 ls st h = dh_wpB dh_sh (dh_wpM d) (dh_wp dh_sh (dh_wpM d) (dh_bl 182) Q) Q bk182_6 ls st h := dh_wp_eq (dh_wpM_mono d) rfl
theorem u182_7 : dh_wp dh_sh (dh_wpM d) (dh_bl 182) Q 7 ls st h = dh_wpB dh_sh (dh_wpM d) (dh_wp dh_sh (dh_wpM d) (dh_bl 182) Q) Q bk182_7 ls st h := dh_wp_eq (dh_wpM_mono d) rfl
theorem u182_8 : dh_wp dh_sh (dh_wpM d) (dh_bl 182) Q 8 ls st h = dh_wpB dh_sh (dh_wpM d) (dh_wp dh_sh (dh_wpM d) (dh_bl 182) Q) Q bk182_8 ls st h := dh_wp_eq (dh_wpM_mono d) rfl
theorem u182_9 : dh_wp dh_sh (dh_wpM d) (dh_bl 182) Q 9 ls st h = dh_wpB dh_sh (dh_wpM d) (dh_wp dh_sh (dh_wpM d) (dh_bl 182) Q) Q bk182_9 ls st h := dh_wp_eq (dh_wpM_mono d) rfl
theorem u182_10 : dh_wp dh_sh (dh_wpM d) (dh_bl 182) Q 10 ls st h = dh_wpB dh_sh (dh_wpM d) (dh_wp dh_sh (dh_wpM d) (dh_bl 182) Q) Q bk182_10 ls st h := dh_wp_eq (dh_wpM_mono d) rfl
theorem u182_11 : dh_wp dh_sh (dh_wpM d) (dh_bl 182) Q 11 ls st h = dh_wpB dh_sh (dh_wpM d) (dh_wp dh_sh (dh_wpM d) (dh_bl 182) Q) Q bk182_11 ls st h := dh_wp_eq (dh_wpM_mono d) rfl
theorem u182_12 : dh_wp dh_sh (dh_wpM d) (dh_bl 182) Q 12 ls st h = dh_wpB dh_sh (dh_wpM d) (dh_wp dh_sh (dh_wpM d) (dh_bl 182) Q) Q bk182_12 ls st h := dh_wp_eq (dh_wpM_mono d) rfl
theorem u182_13 : dh_wp dh_sh (dh_wpM d) (dh_bl 182) Q 13 ls st h = dh_wpB dh_sh (dh_wpM d) (dh_wp dh_sh (dh_wpM d) (dh_bl 182) Q) Q bk182_13 ls st h := dh_wp_eq (dh_wpM_mono d) rfl
theorem u182_14 : dh_wp dh_sh (dh_wpM d) (dh_bl 182) Q 14 ls st h = dh_wpB dh_sh (dh_wpM d) (dh_wp dh_sh (dh_wpM d) (dh_bl 182) Q) Q bk182_14 ls st h := dh_wp_eq (dh_wpM_mono d) rfl
/-- DoubleHeapModel.reckon(III)I -/
theorem m182 {x1 : Int} {x2 : Int} {x3 : Int} : dh_wpM (d + 1) 182 [.inl x1, .inl x2, .inl x3] h Q = dh_wp dh_sh (dh_wpM d) (dh_bl 182) Q 0 [some (.inl x1), some (.inl x2), some (.inl x3)] [] h := dh_mq (Nat.le_of_ble_eq_true rfl) rfl
theorem u183_0 : dh_wp dh_sh (dh_wpM d) (dh_bl 183) Q 0 ls st h = dh_wpB dh_sh (dh_wpM d) (dh_wp dh_sh (dh_wpM d) (dh_bl 183) Q) Q bk183_0 ls st h := dh_wp_eq (dh_wpM_mono d) rfl
theorem u183_1 : dh_wp dh_sh (dh_wpM d) (dh_bl 183) Q 1 ls st h = dh_wpB dh_sh (dh_wpM d) (dh_wp dh_sh (dh_wpM d) (dh_bl 183) Q) Q bk183_1 ls st h := dh_wp_eq (dh_wpM_mono d) rfl
theorem u183_2 : dh_wp dh_sh (dh_wpM d) (dh_bl 183) Q 2 ls st h = dh_wpB dh_sh (dh_wpM d) (dh_wp dh_sh (dh_wpM d) (dh_bl 183) Q) Q bk183_2 ls st h := dh_wp_eq (dh_wpM_mono d) rfl
theorem u183_3 : dh_wp dh_sh (dh_wpM d) (dh_bl 183) Q 3 ls st h = dh_wpB dh_sh (dh_wpM d) (dh_wp dh_sh (dh_wpM d) (dh_bl 183) Q) Q bk183_3 ls st h := dh_wp_eq (dh_wpM_mono d) rfl
theorem u183_4 : dh_wp dh_sh (dh_wpM d) (dh_bl 183) Q 4 ls st h = dh_wpB dh_sh (dh_wpM d) (dh_wp dh_sh (dh_wpM d) (dh_bl 183) Q) Q bk183_4 ls st h := dh_wp_eq (dh_wpM_mono d) rfl
theorem u183_5 : dh_wp dh_sh (dh_wpM d) (dh_bl 183) Q 5 ls st h = dh_wpB dh_sh (dh_wpM d) (dh_wp dh_sh (dh_wpM d) (dh_bl 183) Q) Q bk183_5 ls st h := dh_wp_eq (dh_wpM_mono d) rfl
theorem u183_6 : dh_wp dh_sh (dh_wpM d) (dh_bl 183) Q 6 ls st h = dh_wpB dh_sh (dh_wpM d) (dh_wp dh_sh (dh_wpM d) (dh_bl 183) Q) Q bk183_6 ls st h := dh_wp_eq (dh_wpM_mono d) rfl
theorem u183_7 : dh_wp dh_sh (dh_wpM d) (dh_bl 183) Q 7 ls st h = dh_wpB dh_sh (dh_wpM d) (dh_wp dh_sh (dh_wpM d) (dh_bl 183) Q) Q bk183_7 ls st h := dh_wp_eq (dh_wpM_mono d) rfl
theorem u183_8 : dh_wp dh_sh (dh_wpM d) (dh_bl 183) Q 8 ls st h = dh_wpB dh_sh (dh_wpM d) (dh_wp dh_sh (dh_wpM d) (dh_bl 183) Q) Q bk183_8 ls st h := dh_wp_eq (dh_wpM_mono d) rfl
theorem u183_9 : dh_wp dh_sh (dh_wpM d) (dh_bl 183) Q 9 ls st h = dh_wpB dh_sh (dh_wpM d) (dh_wp dh_sh (dh_wpM d) (dh_bl 183) Q) Q bk183_9 ls st h := dh_wp_eq (dh_wpM_mono d) rfl
theorem u183_10 : dh_wp dh_sh (dh_wpM d) (dh_bl 183) Q 10 ls st h = dh_wpB dh_sh (dh_wpM d) (dh_wp dh_sh (dh_wpM d) (dh_bl 183) Q) Q bk183_10 ls st h := dh_wp_eq (dh_wpM_mono d) rfl
theorem u183_11 : dh_wp dh_sh (dh_wpM d) (dh_bl 183) Q 11 ls st h = dh_wpB dh_sh (dh_wpM d) (dh_wp dh_sh (dh_wpM d) (dh_bl 183) Q) Q bk183_11 ls st h := dh_wp_eq (dh_wpM_mono d) rfl
theorem u183_12 : dh_wp dh_sh (dh_wpM d) (dh_bl 183) Q 12 ls st h = dh_wpB dh_sh (dh_wpM d) (dh_wp dh_sh (dh_wpM d) (dh_bl 183) Q) Q bk183_12 ls st h := dh_wp_eq (dh_wpM_mono d) rfl
theorem u183_13 : dh_wp dh_sh (dh_wpM d) (dh_bl 183) Q 13 ls st h = dh_wpB dh_sh (dh_wpM d) (dh_wp dh_sh (dh_wpM d) (dh_bl 183) Q) Q bk183_13 ls st h := dh_wp_eq (dh_wpM_mono d) rfl
theorem u183_14 : dh_wp dh_sh (dh_wpM d) (dh_bl 183) Q 14 ls st h = dh_wpB dh_sh (dh_wpM d) (dh_wp dh_sh (dh_wpM d) (dh_bl 183) Q) Q bk183_14 ls st h := dh_wp_eq (dh_wpM_mono d) rfl
theorem u183_15 : dh_wp dh_sh (dh_wpM d) (dh_bl 183) Q 15 ls st h = dh_wpB dh_sh (dh_wpM d) (dh_wp dh_sh (dh_wpM d) (dh_bl 183) Q) Q bk183_15 ls st h := dh_wp_eq (dh_wpM_mono d) rfl
/-- DoubleHeapModel.comesTo(II)I -/
theorem m183 {p0 : Nat} {x1 : Int} {x2 : Int} : dh_wpM (d + 1) 183 [.inr (.inr (some p0)), .inl x1, .inl x2] h Q = dh_wp dh_sh (dh_wpM d) (dh_bl 183) Q 0 [some (.inr (.inr (some p0))), some (.inl x1), some (.inl x2), none, none, none, none, none] [] h := dh_mq (Nat.le_of_ble_eq_true rfl) rfl
theorem u184_0 : dh_wp dh_sh (dh_wpM d) (dh_bl 184) Q 0 ls st h = dh_wpB dh_sh (dh_wpM d) (dh_wp dh_sh (dh_wpM d) (dh_bl 184) Q) Q bk184_0 ls st h := dh_wp_eq (dh_wpM_mono d) rfl
/-- DoubleHeapModel.feels(III)V -/
theorem m184 {p0 : Nat} {x1 : Int} {x2 : Int} {x3 : Int} : dh_wpM (d + 1) 184 [.inr (.inr (some p0)), .inl x1, .inl x2, .inl x3] h Q = dh_wp dh_sh (dh_wpM d) (dh_bl 184) Q 0 [some (.inr (.inr (some p0))), some (.inl x1), some (.inl x2), some (.inl x3)] [] h := dh_mq (Nat.le_of_ble_eq_true rfl) rfl
theorem u185_0 : dh_wp dh_sh (dh_wpM d) (dh_bl 185) Q 0 ls st h = dh_wpB dh_sh (dh_wpM d) (dh_wp dh_sh (dh_wpM d) (dh_bl 185) Q) Q bk185_0 ls st h := dh_wp_eq (dh_wpM_mono d) rfl
theorem u185_1 : dh_wp dh_sh (dh_wpM d) (dh_bl 185) Q 1 ls st h = dh_wpB dh_sh (dh_wpM d) (dh_wp dh_sh (dh_wpM d) (dh_bl 185) Q) Q bk185_1 ls st h := dh_wp_eq (dh_wpM_mono d) rfl
theorem u185_2 : dh_wp dh_sh (dh_wpM d) (dh_bl 185) Q 2 ls st h = dh_wpB dh_sh (dh_wpM d) (dh_wp dh_sh (dh_wpM d) (dh_bl 185) Q) Q bk185_2 ls st h := dh_wp_eq (dh_wpM_mono d) rfl
theorem u185_3 : dh_wp dh_sh (dh_wpM d) (dh_bl 185) Q 3 ls st h = dh_wpB dh_sh (dh_wpM d) (dh_wp dh_sh (dh_wpM d) (dh_bl 185) Q) Q bk185_3 ls st h := dh_wp_eq (dh_wpM_mono d) rfl
theorem u185_4 : dh_wp dh_sh (dh_wpM d) (dh_bl 185) Q 4 ls st h = dh_wpB dh_sh (dh_wpM d) (dh_wp dh_sh (dh_wpM d) (dh_bl 185) Q) Q bk185_4 ls st h := dh_wp_eq (dh_wpM_mono d) rfl
theorem u185_5 : dh_wp dh_sh (dh_wpM d) (dh_bl 185) Q 5 ls st h = dh_wpB dh_sh (dh_wpM d) (dh_wp dh_sh (dh_wpM d) (dh_bl 185) Q) Q bk185_5 ls st h := dh_wp_eq (dh_wpM_mono d) rfl
theorem u185_6 : dh_wp dh_sh (dh_wpM d) (dh_bl 185) Q 6 ls st h = dh_wpB dh_sh (dh_wpM d) (dh_wp dh_sh (dh_wpM d) (dh_bl 185) Q) Q bk185_6 ls st h := dh_wp_eq (dh_wpM_mono d) rfl
/-- DoubleHeapModel.mostOf(II)I -/
theorem m185 {p0 : Nat} {x1 : Int} {x2 : Int} : dh_wpM (d + 1) 185 [.inr (.inr (some p0)), .inl x1, .inl x2] h Q = dh_wp dh_sh (dh_wpM d) (dh_bl 185) Q 0 [some (.inr (.inr (some p0))), some (.inl x1), some (.inl x2), none, none] [] h := dh_mq (Nat.le_of_ble_eq_true rfl) rfl
theorem u186_0 : dh_wp dh_sh (dh_wpM d) (dh_bl 186) Q 0 ls st h = dh_wpB dh_sh (dh_wpM d) (dh_wp dh_sh (dh_wpM d) (dh_bl 186) Q) Q bk186_0 ls st h := dh_wp_eq (dh_wpM_mono d) rfl
theorem u186_1 : dh_wp dh_sh (dh_wpM d) (dh_bl 186) Q 1 ls st h = dh_wpB dh_sh (dh_wpM d) (dh_wp dh_sh (dh_wpM d) (dh_bl 186) Q) Q bk186_1 ls st h := dh_wp_eq (dh_wpM_mono d) rfl
theorem u186_2 : dh_wp dh_sh (dh_wpM d) (dh_bl 186) Q 2 ls st h = dh_wpB dh_sh (dh_wpM d) (dh_wp dh_sh (dh_wpM d) (dh_bl 186) Q) Q bk186_2 ls st h := dh_wp_eq (dh_wpM_mono d) rfl
theorem u186_3 : dh_wp dh_sh (dh_wpM d) (dh_bl 186) Q 3 ls st h = dh_wpB dh_sh (dh_wpM d) (dh_wp dh_sh (dh_wpM d) (dh_bl 186) Q) Q bk186_3 ls st h := dh_wp_eq (dh_wpM_mono d) rfl
/-- DoubleHeapModel.forbids(III)Z -/
theorem m186 {p0 : Nat} {x1 : Int} {x2 : Int} {x3 : Int} : dh_wpM (d + 1) 186 [.inr (.inr (some p0)), .inl x1, .inl x2, .inl x3] h Q = dh_wp dh_sh (dh_wpM d) (dh_bl 186) Q 0 [some (.inr (.inr (some p0))), some (.inl x1), some (.inl x2), some (.inl x3), none] [] h := dh_mq (Nat.le_of_ble_eq_true rfl) rfl
theorem u187_0 : dh_wp dh_sh (dh_wpM d) (dh_bl 187) Q 0 ls st h = dh_wpB dh_sh (dh_wpM d) (dh_wp dh_sh (dh_wpM d) (dh_bl 187) Q) Q bk187_0 ls st h := dh_wp_eq (dh_wpM_mono d) rfl
theorem u187_1 : dh_wp dh_sh (dh_wpM d) (dh_bl 187) Q 1 ls st h = dh_wpB dh_sh (dh_wpM d) (dh_wp dh_sh (dh_wpM d) (dh_bl 187) Q) Q bk187_1 ls st h := dh_wp_eq (dh_wpM_mono d) rfl
theorem u187_2 : dh_wp dh_sh (dh_wpM d) (dh_bl 187) Q 2 ls st h = dh_wpB dh_sh (dh_wpM d) (dh_wp dh_sh (dh_wpM d) (dh_bl 187) Q) Q bk187_2 ls st h := dh_wp_eq (dh_wpM_mono d) rfl
theorem u187_3 : dh_wp dh_sh (dh_wpM d) (dh_bl 187) Q 3 ls st h = dh_wpB dh_sh (dh_wpM d) (dh_wp dh_sh (dh_wpM d) (dh_bl 187) Q) Q bk187_3 ls st h := dh_wp_eq (dh_wpM_mono d) rfl
theorem u187_4 : dh_wp dh_sh (dh_wpM d) (dh_bl 187) Q 4 ls st h = dh_wpB dh_sh (dh_wpM d) (dh_wp dh_sh (dh_wpM d) (dh_bl 187) Q) Q bk187_4 ls st h := dh_wp_eq (dh_wpM_mono d) rfl
theorem u187_5 : dh_wp dh_sh (dh_wpM d) (dh_bl 187) Q 5 ls st h = dh_wpB dh_sh (dh_wpM d) (dh_wp dh_sh (dh_wpM d) (dh_bl 187) Q) Q bk187_5 ls st h := dh_wp_eq (dh_wpM_mono d) rfl
theorem u187_6 : dh_wp dh_sh (dh_wpM d) (dh_bl 187) Q 6 ls st h = dh_wpB dh_sh (dh_wpM d) (dh_wp dh_sh (dh_wpM d) (dh_bl 187) Q) Q bk187_6 ls st h := dh_wp_eq (dh_wpM_mono d) rfl
theorem u187_7 : dh_wp dh_sh (dh_wpM d) (dh_bl 187) Q 7 ls st h = dh_wpB dh_sh (dh_wpM d) (dh_wp dh_sh (dh_wpM d) (dh_bl 187) Q) Q bk187_7 ls st h := dh_wp_eq (dh_wpM_mono d) rfl
theorem u187_8 : dh_wp dh_sh (dh_wpM d) (dh_bl 187) Q 8 ls st h = dh_wpB dh_sh (dh_wpM d) (dh_wp dh_sh (dh_wpM d) (dh_bl 187) Q) Q bk187_8 ls st h := dh_wp_eq (dh_wpM_mono d) rfl
theorem u187_9 : dh_wp dh_sh (dh_wpM d) (dh_bl 187) Q 9 ls st h = dh_wpB dh_sh (dh_wpM d) (dh_wp dh_sh (dh_wpM d) (dh_bl 187) Q) Q bk187_9 ls st h := dh_wp_eq (dh_wpM_mono d) rfl
theorem u187_10 : dh_wp dh_sh (dh_wpM d) (dh_bl 187) Q 10 ls st h = dh_wpB dh_sh (dh_wpM d) (dh_wp dh_sh (dh_wpM d) (dh_bl 187) Q) Q bk187_10 ls st h := dh_wp_eq (dh_wpM_mono d) rfl
/-- DoubleHeapModel.laysLaw(I)V -/
theorem m187 {p0 : Nat} {x1 : Int} : dh_wpM (d + 1) 187 [.inr (.inr (some p0)), .inl x1] h Q = dh_wp dh_sh (dh_wpM d) (dh_bl 187) Q 0 [some (.inr (.inr (some p0))), some (.inl x1), none, none, none, none, none, none] [] h := dh_mq (Nat.le_of_ble_eq_true rfl) rfl
theorem u188_0 : dh_wp dh_sh (dh_wpM d) (dh_bl 188) Q 0 ls st h = dh_wpB dh_sh (dh_wpM d) (dh_wp dh_sh (dh_wpM d) (dh_bl 188) Q) Q bk188_0 ls st h := dh_wp_eq (dh_wpM_mono d) rfl
theorem u188_1 : dh_wp dh_sh (dh_wpM d) (dh_bl 188) Q 1 ls st h = dh_wpB dh_sh (dh_wpM d) (dh_wp dh_sh (dh_wpM d) (dh_bl 188) Q) Q bk188_1 ls st h := dh_wp_eq (dh_wpM_mono d) rfl
theorem u188_2 : dh_wp dh_sh (dh_wpM d) (dh_bl 188) Q 2 ls st h = dh_wpB dh_sh (dh_wpM d) (dh_wp dh_sh (dh_wpM d) (dh_bl 188) Q) Q bk188_2 ls st h := dh_wp_eq (dh_wpM_mono d) rfl
theorem u188_3 : dh_wp dh_sh (dh_wpM d) (dh_bl 188) Q 3 ls st h = dh_wpB dh_sh (dh_wpM d) (dh_wp dh_sh (dh_wpM d) (dh_bl 188) Q) Q bk188_3 ls st h := dh_wp_eq (dh_wpM_mono d) rfl
/-- DoubleHeapModel.goodBy(IIJ)J -/
theorem m188 {p0 : Nat} {x1 : Int} {x2 : Int} {x3 : BitVec 64} : dh_wpM (d + 1) 188 [.inr (.inr (some p0)), .inl x1, .inl x2, .inr (.inl x3)] h Q = dh_wp dh_sh (dh_wpM d) (dh_bl 188) Q 0 [some (.inr (.inr (some p0))), some (.inl x1), some (.inl x2), some (.inr (.inl x3)), none, none, none, none] [] h := dh_mq (Nat.le_of_ble_eq_true rfl) rfl
theorem u189_0 : dh_wp dh_sh (dh_wpM d) (dh_bl 189) Q 0 ls st h = dh_wpB dh_sh (dh_wpM d) (dh_wp dh_sh (dh_wpM d) (dh_bl 189) Q) Q bk189_0 ls st h := dh_wp_eq (dh_wpM_mono d) rfl
theorem u189_1 : dh_wp dh_sh (dh_wpM d) (dh_bl 189) Q 1 ls st h = dh_wpB dh_sh (dh_wpM d) (dh_wp dh_sh (dh_wpM d) (dh_bl 189) Q) Q bk189_1 ls st h := dh_wp_eq (dh_wpM_mono d) rfl
theorem u189_2 : dh_wp dh_sh (dh_wpM d) (dh_bl 189) Q 2 ls st h = dh_wpB dh_sh (dh_wpM d) (dh_wp dh_sh (dh_wpM d) (dh_bl 189) Q) Q bk189_2 ls st h := dh_wp_eq (dh_wpM_mono d) rfl
theorem u189_3 : dh_wp dh_sh (dh_wpM d) (dh_bl 189) Q 3 ls st h = dh_wpB dh_sh (dh_wpM d) (dh_wp dh_sh (dh_wpM d) (dh_bl 189) Q) Q bk189_3 ls st h := dh_wp_eq (dh_wpM_mono d) rfl
/-- DoubleHeapModel.readsTwo()Z -/
theorem m189 {p0 : Nat} : dh_wpM (d + 1) 189 [.inr (.inr (some p0))] h Q = dh_wp dh_sh (dh_wpM d) (dh_bl 189) Q 0 [some (.inr (.inr (some p0))), none] [] h := dh_mq (Nat.le_of_ble_eq_true rfl) rfl
theorem u190_0 : dh_wp dh_sh (dh_wpM d) (dh_bl 190) Q 0 ls st h = dh_wpB dh_sh (dh_wpM d) (dh_wp dh_sh (dh_wpM d) (dh_bl 190) Q) Q bk190_0 ls st h := dh_wp_eq (dh_wpM_mono d) rfl
theorem u190_1 : dh_wp dh_sh (dh_wpM d) (dh_bl 190) Q 1 ls st h = dh_wpB dh_sh (dh_wpM d) (dh_wp dh_sh (dh_wpM d) (dh_bl 190) Q) Q bk190_1 ls st h := dh_wp_eq (dh_wpM_mono d) rfl
theorem u190_2 : dh_wp dh_sh (dh_wpM d) (dh_bl 190) Q 2 ls st h = dh_wpB dh_sh (dh_wpM d) (dh_wp dh_sh (dh_wpM d) (dh_bl 190) Q) Q bk190_2 ls st h := dh_wp_eq (dh_wpM_mono d) rfl
theorem u190_3 : dh_wp dh_sh (dh_wpM d) (dh_bl 190) Q 3 ls st h = dh_wpB dh_sh (dh_wpM d) (dh_wp dh_sh (dh_wpM d) (dh_bl 190) Q) Q bk190_3 ls st h := dh_wp_eq (dh_wpM_mono d) rfl
theorem u190_4 : dh_wp dh_sh (dh_wpM d) (dh_bl 190) Q 4 ls st h = dh_wpB dh_sh (dh_wpM d) (dh_wp dh_sh (dh_wpM d) (dh_bl 190) Q) Q bk190_4 ls st h := dh_wp_eq (dh_wpM_mono d) rfl
theorem u190_5 : dh_wp dh_sh (dh_wpM d) (dh_bl 190) Q 5 ls st h = dh_wpB dh_sh (dh_wpM d) (dh_wp dh_sh (dh_wpM d) (dh_bl 190) Q) Q bk190_5 ls st h := dh_wp_eq (dh_wpM_mono d) rfl
theorem u190_6 : dh_wp dh_sh (dh_wpM d) (dh_bl 190) Q 6 ls st h = dh_wpB dh_sh (dh_wpM d) (dh_wp dh_sh (dh_wpM d) (dh_bl 190) Q) Q bk190_6 ls st h := dh_wp_eq (dh_wpM_mono d) rfl
theorem u190_7 : dh_wp dh_sh (dh_wpM d) (dh_bl 190) Q 7 ls st h = dh_wpB dh_sh (dh_wpM d) (dh_wp dh_sh (dh_wpM d) (dh_bl 190) Q) Q bk190_7 ls st h := dh_wp_eq (dh_wpM_mono d) rfl
theorem u190_8 : dh_wp dh_sh (dh_wpM d) (dh_bl 190) Q 8 ls st h = dh_wpB dh_sh (dh_wpM d) (dh_wp dh_sh (dh_wpM d) (dh_bl 190) Q) Q bk190_8 ls st h := dh_wp_eq (dh_wpM_mono d) rfl
/-- DoubleHeapModel.game(II)I -/
theorem m190 {p0 : Nat} {x1 : Int} {x2 : Int} : dh_wpM (d + 1) 190 [.inr (.inr (some p0)), .inl x1, .inl x2] h Q = dh_wp dh_sh (dh_wpM d) (dh_bl 190) Q 0 [some (.inr (.inr (some p0))), some (.inl x1), some (.inl x2), none, none, none] [] h := dh_mq (Nat.le_of_ble_eq_true rfl) rfl
theorem u191_0 : dh_wp dh_sh (dh_wpM d) (dh_bl 191) Q 0 ls st h = dh_wpB dh_sh (dh_wpM d) (dh_wp dh_sh (dh_wpM d) (dh_bl 191) Q) Q bk191_0 ls st h := dh_wp_eq (dh_wpM_mono d) rfl
theorem u191_1 : dh_wp dh_sh (dh_wpM d) (dh_bl 191) Q 1 ls st h = dh_wpB dh_sh (dh_wpM d) (dh_wp dh_sh (dh_wpM d) (dh_bl 191) Q) Q bk191_1 ls st h := dh_wp_eq (dh_wpM_mono d) rfl
theorem u191_2 : dh_wp dh_sh (dh_wpM d) (dh_bl 191) Q 2 ls st h = dh_wpB dh_sh (dh_wpM d) (dh_wp dh_sh (dh_wpM d) (dh_bl 191) Q) Q bk191_2 ls st h := dh_wp_eq (dh_wpM_mono d) rfl
theorem u191_3 : dh_wp dh_sh (dh_wpM d) (dh_bl 191) Q 3 ls st h = dh_wpB dh_sh (dh_wpM d) (dh_wp dh_sh (dh_wpM d) (dh_bl 191) Q) Q bk191_3 ls st h := dh_wp_eq (dh_wpM_mono d) rfl
theorem u191_4 : dh_wp dh_sh (dh_wpM d) (dh_bl 191) Q 4 ls st h = dh_wpB dh_sh (dh_wpM d) (dh_wp dh_sh (dh_wpM d) (dh_bl 191) Q) Q bk191_4 ls st h := dh_wp_eq (dh_wpM_mono d) rfl
theorem u191_5 : dh_wp dh_sh (dh_wpM d) (dh_bl 191) Q 5 ls st h = dh_wpB dh_sh (dh_wpM d) (dh_wp dh_sh (dh_wpM d) (dh_bl 191) Q) Q bk191_5 ls st h := dh_wp_eq (dh_wpM_mono d) rfl
theorem u191_6 : dh_wp dh_sh (dh_wpM d) (dh_bl 191) Q 6 ls st h = dh_wpB dh_sh (dh_wpM d) (dh_wp dh_sh (dh_wpM d) (dh_bl 191) Q) Q bk191_6 ls st h := dh_wp_eq (dh_wpM_mono d) rfl
theorem u191_7 : dh_wp dh_sh (dh_wpM d) (dh_bl 191) Q 7 ls st h = dh_wpB dh_sh (dh_wpM d) (dh_wp dh_sh (dh_wpM d) (dh_bl 191) Q) Q bk191_7 ls st h := dh_wp_eq (dh_wpM_mono d) rfl
/-- DoubleHeapModel.readsTakes(I)I -/
theorem m191 {p0 : Nat} {x1 : Int} : dh_wpM (d + 1) 191 [.inr (.inr (some p0)), .inl x1] h Q = dh_wp dh_sh (dh_wpM d) (dh_bl 191) Q 0 [some (.inr (.inr (some p0))), some (.inl x1), none, none, none] [] h := dh_mq (Nat.le_of_ble_eq_true rfl) rfl
theorem u192_0 : dh_wp dh_sh (dh_wpM d) (dh_bl 192) Q 0 ls st h = dh_wpB dh_sh (dh_wpM d) (dh_wp dh_sh (dh_wpM d) (dh_bl 192) Q) Q bk192_0 ls st h := dh_wp_eq (dh_wpM_mono d) rfl
theorem u192_1 : dh_wp dh_sh (dh_wpM d) (dh_bl 192) Q 1 ls st h = dh_wpB dh_sh (dh_wpM d) (dh_wp dh_sh (dh_wpM d) (dh_bl 192) Q) Q bk192_1 ls st h := dh_wp_eq (dh_wpM_mono d) rfl
theorem u192_2 : dh_wp dh_sh (dh_wpM d) (dh_bl 192) Q 2 ls st h = dh_wpB dh_sh (dh_wpM d) (dh_wp dh_sh (dh_wpM d) (dh_bl 192) Q) Q bk192_2 ls st h := dh_wp_eq (dh_wpM_mono d) rfl
theorem u192_3 : dh_wp dh_sh (dh_wpM d) (dh_bl 192) Q 3 ls st h = dh_wpB dh_sh (dh_wpM d) (dh_wp dh_sh (dh_wpM d) (dh_bl 192) Q) Q bk192_3 ls st h := dh_wp_eq (dh_wpM_mono d) rfl
theorem u192_4 : dh_wp dh_sh (dh_wpM d) (dh_bl 192) Q 4 ls st h = dh_wpB dh_sh (dh_wpM d) (dh_wp dh_sh (dh_wpM d) (dh_bl 192) Q) Q bk192_4 ls st h := dh_wp_eq (dh_wpM_mono d) rfl
/-- DoubleHeapModel.laysRows(II)V -/
theorem m192 {p0 : Nat} {x1 : Int} {x2 : Int} : dh_wpM (d + 1) 192 [.inr (.inr (some p0)), .inl x1, .inl x2] h Q = dh_wp dh_sh (dh_wpM d) (dh_bl 192) Q 0 [some (.inr (.inr (some p0))), some (.inl x1), some (.inl x2), none, none] [] h := dh_mq (Nat.le_of_ble_eq_true rfl) rfl
theorem u193_0 : dh_wp dh_sh (dh_wpM d) (dh_bl 193) Q 0 ls st h = dh_wpB dh_sh (dh_wpM d) (dh_wp dh_sh (dh_wpM d) (dh_bl 193) Q) Q bk193_0 ls st h := dh_wp_eq (dh_wpM_mono d) rfl
theorem u193_1 : dh_wp dh_sh (dh_wpM d) (dh_bl 193) Q 1 ls st h = dh_wpB dh_sh (dh_wpM d) (dh_wp dh_sh (dh_wpM d) (dh_bl 193) Q) Q bk193_1 ls st h := dh_wp_eq (dh_wpM_mono d) rfl
theorem u193_2 : dh_wp dh_sh (dh_wpM d) (dh_bl 193) Q 2 ls st h = dh_wpB dh_sh (dh_wpM d) (dh_wp dh_sh (dh_wpM d) (dh_bl 193) Q) Q bk193_2 ls st h := dh_wp_eq (dh_wpM_mono d) rfl
theorem u193_3 : dh_wp dh_sh (dh_wpM d) (dh_bl 193) Q 3 ls st h = dh_wpB dh_sh (dh_wpM d) (dh_wp dh_sh (dh_wpM d) (dh_bl 193) Q) Q bk193_3 ls st h := dh_wp_eq (dh_wpM_mono d) rfl
theorem u193_4 : dh_wp dh_sh (dh_wpM d) (dh_bl 193) Q 4 ls st h = dh_wpB dh_sh (dh_wpM d) (dh_wp dh_sh (dh_wpM d) (dh_bl 193) Q) Q bk193_4 ls st h := dh_wp_eq (dh_wpM_mono d) rfl
theorem u193_5 : dh_wp dh_sh (dh_wpM d) (dh_bl 193) Q 5 ls st h = dh_wpB dh_sh (dh_wpM d) (dh_wp dh_sh (dh_wpM d) (dh_bl 193) Q) Q bk193_5 ls st h := dh_wp_eq (dh_wpM_mono d) rfl
theorem u193_6 : dh_wp dh_sh (dh_wpM d) (dh_bl 193) Q 6 ls st h = dh_wpB dh_sh (dh_wpM d) (dh_wp dh_sh (dh_wpM d) (dh_bl 193) Q) Q bk193_6 ls st h := dh_wp_eq (dh_wpM_mono d) rfl
theorem u193_7 : dh_wp dh_sh (dh_wpM d) (dh_bl 193) Q 7 ls st h = dh_wpB dh_sh (dh_wpM d) (dh_wp dh_sh (dh_wpM d) (dh_bl 193) Q) Q bk193_7 ls st h := dh_wp_eq (dh_wpM_mono d) rfl
theorem u193_8 : dh_wp dh_sh (dh_wpM d) (dh_bl 193) Q 8 ls st h = dh_wpB dh_sh (dh_wpM d) (dh_wp dh_sh (dh_wpM d) (dh_bl 193) Q) Q bk193_8 ls st h := dh_wp_eq (dh_wpM_mono d) rfl
theorem u193_9 : dh_wp dh_sh (dh_wpM d) (dh_bl 193) Q 9 ls st h = dh_wpB dh_sh (dh_wpM d) (dh_wp dh_sh (dh_wpM d) (dh_bl 193) Q) Q bk193_9 ls st h := dh_wp_eq (dh_wpM_mono d) rfl
theorem u193_10 : dh_wp dh_sh (dh_wpM d) (dh_bl 193) Q 10 ls st h = dh_wpB dh_sh (dh_wpM d) (dh_wp dh_sh (dh_wpM d) (dh_bl 193) Q) Q bk193_10 ls st h := dh_wp_eq (dh_wpM_mono d) rfl
theorem u193_11 : dh_wp dh_sh (dh_wpM d) (dh_bl 193) Q 11 ls st h = dh_wpB dh_sh (dh_wpM d) (dh_wp dh_sh (dh_wpM d) (dh_bl 193) Q) Q bk193_11 ls st h := dh_wp_eq (dh_wpM_mono d) rfl
theorem u193_12 : dh_wp dh_sh (dh_wpM d) (dh_bl 193) Q 12 ls st h = dh_wpB dh_sh (dh_wpM d) (dh_wp dh_sh (dh_wpM d) (dh_bl 193) Q) Q bk193_12 ls st h := dh_wp_eq (dh_wpM_mono d) rfl
theorem u193_13 : dh_wp dh_sh (dh_wpM d) (dh_bl 193) Q 13 ls st h = dh_wpB dh_sh (dh_wpM d) (dh_wp dh_sh (dh_wpM d) (dh_bl 193) Q) Q bk193_13 ls st h := dh_wp_eq (dh_wpM_mono d) rfl
/-- DoubleHeapModel.laysState(III)V -/
theorem m193 {p0 : Nat} {x1 : Int} {x2 : Int} {x3 : Int} : dh_wpM (d + 1) 193 [.inr (.inr (some p0)), .inl x1, .inl x2, .inl x3] h Q = dh_wp dh_sh (dh_wpM d) (dh_bl 193) Q 0 [some (.inr (.inr (some p0))), some (.inl x1), some (.inl x2), some (.inl x3), none, none, none, none, none, none, none, none, none, none, none, none, none, none] [] h := dh_mq (Nat.le_of_ble_eq_true rfl) rfl
theorem u194_0 : dh_wp dh_sh (dh_wpM d) (dh_bl 194) Q 0 ls st h = dh_wpB dh_sh (dh_wpM d) (dh_wp dh_sh (dh_wpM d) (dh_bl 194) Q) Q bk194_0 ls st h := dh_wp_eq (dh_wpM_mono d) rfl
theorem u194_1 : dh_wp dh_sh (dh_wpM d) (dh_bl 194) Q 1 ls st h = dh_wpB dh_sh (dh_wpM d) (dh_wp dh_sh (dh_wpM d) (dh_bl 194) Q) Q bk194_1 ls st h := dh_wp_eq (dh_wpM_mono d) rfl
theorem u194_2 : dh_wp dh_sh (dh_wpM d) (dh_bl 194) Q 2 ls st h = dh_wpB dh_sh (dh_wpM d) (dh_wp dh_sh (dh_wpM d) (dh_bl 194) Q) Q bk194_2 ls st h := dh_wp_eq (dh_wpM_mono d) rfl
/-- DoubleHeapModel.less(J)J -/
theorem m194 {x1 : BitVec 64} : dh_wpM (d + 1) 194 [.inr (.inl x1)] h Q = dh_wp dh_sh (dh_wpM d) (dh_bl 194) Q 0 [some (.inr (.inl x1)), none] [] h := dh_mq (Nat.le_of_ble_eq_true rfl) rfl
theorem u195_0 : dh_wp dh_sh (dh_wpM d) (dh_bl 195) Q 0 ls st h = dh_wpB dh_sh (dh_wpM d) (dh_wp dh_sh (dh_wpM d) (dh_bl 195) Q) Q bk195_0 ls st h := dh_wp_eq (dh_wpM_mono d) rfl
theorem u195_1 : dh_wp dh_sh (dh_wpM d) (dh_bl 195) Q 1 ls st h = dh_wpB dh_sh (dh_wpM d) (dh_wp dh_sh (dh_wpM d) (dh_bl 195) Q) Q bk195_1 ls st h := dh_wp_eq (dh_wpM_mono d) rfl
theorem u195_2 : dh_wp dh_sh (dh_wpM d) (dh_bl 195) Q 2 ls st h = dh_wpB dh_sh (dh_wpM d) (dh_wp dh_sh (dh_wpM d) (dh_bl 195) Q) Q bk195_2 ls st h := dh_wp_eq (dh_wpM_mono d) rfl
theorem u195_3 : dh_wp dh_sh (dh_wpM d) (dh_bl 195) Q 3 ls st h = dh_wpB dh_sh (dh_wpM d) (dh_wp dh_sh (dh_wpM d) (dh_bl 195) Q) Q bk195_3 ls st h := dh_wp_eq (dh_wpM_mono d) rfl
theorem u195_4 : dh_wp dh_sh (dh_wpM d) (dh_bl 195) Q 4 ls st h = dh_wpB dh_sh (dh_wpM d) (dh_wp dh_sh (dh_wpM d) (dh_bl 195) Q) Q bk195_4 ls st h := dh_wp_eq (dh_wpM_mono d) rfl
theorem u195_5 : dh_wp dh_sh (dh_wpM d) (dh_bl 195) Q 5 ls st h = dh_wpB dh_sh (dh_wpM d) (dh_wp dh_sh (dh_wpM d) (dh_bl 195) Q) Q bk195_5 ls st h := dh_wp_eq (dh_wpM_mono d) rfl
theorem u195_6 : dh_wp dh_sh (dh_wpM d) (dh_bl 195) Q 6 ls st h = dh_wpB dh_sh (dh_wpM d) (dh_wp dh_sh (dh_wpM d) (dh_bl 195) Q) Q bk195_6 ls st h := dh_wp_eq (dh_wpM_mono d) rfl
theorem u195_7 : dh_wp dh_sh (dh_wpM d) (dh_bl 195) Q 7 ls st h = dh_wpB dh_sh (dh_wpM d) (dh_wp dh_sh (dh_wpM d) (dh_bl 195) Q) Q bk195_7 ls st h := dh_wp_eq (dh_wpM_mono d) rfl
theorem u195_8 : dh_wp dh_sh (dh_wpM d) (dh_bl 195) Q 8 ls st h = dh_wpB dh_sh (dh_wpM d) (dh_wp dh_sh (dh_wpM d) (dh_bl 195) Q) Q bk195_8 ls st h := dh_wp_eq (dh_wpM_mono d) rfl
theorem u195_9 : dh_wp dh_sh (dh_wpM d) (dh_bl 195) Q 9 ls st h = dh_wpB dh_sh (dh_wpM d) (dh_wp dh_sh (dh_wpM d) (dh_bl 195) Q) Q bk195_9 ls st h := dh_wp_eq (dh_wpM_mono d) rfl
/-- DoubleHeapModel.shyOf(III)I -/
theorem m195 {p0 : Nat} {x1 : Int} {x2 : Int} {x3 : Int} : dh_wpM (d + 1) 195 [.inr (.inr (some p0)), .inl x1, .inl x2, .inl x3] h Q = dh_wp dh_sh (dh_wpM d) (dh_bl 195) Q 0 [some (.inr (.inr (some p0))), some (.inl x1), some (.inl x2), some (.inl x3), none, none, none, none, none] [] h := dh_mq (Nat.le_of_ble_eq_true rfl) rfl
theorem u196_0 : dh_wp dh_sh (dh_wpM d) (dh_bl 196) Q 0 ls st h = dh_wpB dh_sh (dh_wpM d) (dh_wp dh_sh (dh_wpM d) (dh_bl 196) Q) Q bk196_0 ls st h := dh_wp_eq (dh_wpM_mono d) rfl
theorem u196_1 : dh_wp dh_sh (dh_wpM d) (dh_bl 196) Q 1 ls st h = dh_wpB dh_sh (dh_wpM d) (dh_wp dh_sh (dh_wpM d) (dh_bl 196) Q) Q bk196_1 ls st h := dh_wp_eq (dh_wpM_mono d) rfl
theorem u196_2 : dh_wp dh_sh (dh_wpM d) (dh_bl 196) Q 2 ls st h = dh_wpB dh_sh (dh_wpM d) (dh_wp dh_sh (dh_wpM d) (dh_bl 196) Q) Q bk196_2 ls st h := dh_wp_eq (dh_wpM_mono d) rfl
theorem u196_3 : dh_wp dh_sh (dh_wpM d) (dh_bl 196) Q 3 ls st h = dh_wpB dh_sh (dh_wpM d) (dh_wp dh_sh (dh_wpM d) (dh_bl 196) Q) Q bk196_3 ls st h := dh_wp_eq (dh_wpM_mono d) rfl
theorem u196_4 : dh_wp dh_sh (dh_wpM d) (dh_bl 196) Q 4 ls st h = dh_wpB dh_sh (dh_wpM d) (dh_wp dh_sh (dh_wpM d) (dh_bl 196) Q) Q bk196_4 ls st h := dh_wp_eq (dh_wpM_mono d) rfl
theorem u196_5 : dh_wp dh_sh (dh_wpM d) (dh_bl 196) Q 5 ls st h = dh_wpB dh_sh (dh_wpM d) (dh_wp dh_sh (dh_wpM d) (dh_bl 196) Q) Q bk196_5 ls st h := dh_wp_eq (dh_wpM_mono d) rfl
theorem u196_6 : dh_wp dh_sh (dh_wpM d) (dh_bl 196) Q 6 ls st h = dh_wpB dh_sh (dh_wpM d) (dh_wp dh_sh (dh_wpM d) (dh_bl 196) Q) Q bk196_6 ls st h := dh_wp_eq (dh_wpM_mono d) rfl
theorem u196_7 : dh_wp dh_sh (dh_wpM d) (dh_bl 196) Q 7 ls st h = dh_wpB dh_sh (dh_wpM d) (dh_wp dh_sh (dh_wpM d) (dh_bl 196) Q) Q bk196_7 ls st h := dh_wp_eq (dh_wpM_mono d) rfl
theorem u196_8 : dh_wp dh_sh (dh_wpM d) (dh_bl 196) Q 8 ls st h = dh_wpB dh_sh (dh_wpM d) (dh_wp dh_sh (dh_wpM d) (dh_bl 196) Q) Q bk196_8 ls st h := dh_wp_eq (dh_wpM_mono d) rfl
theorem u196_9 : dh_wp dh_sh (dh_wpM d) (dh_bl 196) Q 9 ls st h = dh_wpB dh_sh (dh_wpM d) (dh_wp dh_sh (dh_wpM d) (dh_bl 196) Q) Q bk196_9 ls st h := dh_wp_eq (dh_wpM_mono d) rfl
theorem u196_10 : dh_wp dh_sh (dh_wpM d) (dh_bl 196) Q 10 ls st h = dh_wpB dh_sh (dh_wpM d) (dh_wp dh_sh (dh_wpM d) (dh_bl 196) Q) Q bk196_10 ls st h := dh_wp_eq (dh_wpM_mono d) rfl
theorem u196_11 : dh_wp dh_sh (dh_wpM d) (dh_bl 196) Q 11 ls st h = dh_wpB dh_sh (dh_wpM d) (dh_wp dh_sh (dh_wpM d) (dh_bl 196) Q) Q bk196_11 ls st h := dh_wp_eq (dh_wpM_mono d) rfl
theorem u196_12 : dh_wp dh_sh (dh_wpM d) (dh_bl 196) Q 12 ls st h = dh_wpB dh_sh (dh_wpM d) (dh_wp dh_sh (dh_wpM d) (dh_bl 196) Q) Q bk196_12 ls st h := dh_wp_eq (dh_wpM_mono d) rfl
/-- DoubleHeapModel.state(IIII)I -/
theorem m196 {p0 : Nat} {x1 : Int} {x2 : Int} {x3 : Int} {x4 : Int} : dh_wpM (d + 1) 196 [.inr (.inr (some p0)), .inl x1, .inl x2, .inl x3, .inl x4] h Q = dh_wp dh_sh (dh_wpM d) (dh_bl 196) Q 0 [some (.inr (.inr (some p0))), some (.inl x1), some (.inl x2), some (.inl x3), some (.inl x4), none, none] [] h := dh_mq (Nat.le_of_ble_eq_true rfl) rfl
theorem u197_0 : dh_wp dh_sh (dh_wpM d) (dh_bl 197) Q 0 ls st h = dh_wpB dh_sh (dh_wpM d) (dh_wp dh_sh (dh_wpM d) (dh_bl 197) Q) Q bk197_0 ls st h := dh_wp_eq (dh_wpM_mono d) rfl
theorem u197_1 : dh_wp dh_sh (dh_wpM d) (dh_bl 197) Q 1 ls st h = dh_wpB dh_sh (dh_wpM d) (dh_wp dh_sh (dh_wpM d) (dh_bl 197) Q) Q bk197_1 ls st h := dh_wp_eq (dh_wpM_mono d) rfl
theorem u197_2 : dh_wp dh_sh (dh_wpM d) (dh_bl 197) Q 2 ls st h = dh_wpB dh_sh (dh_wpM d) (dh_wp dh_sh (dh_wpM d) (dh_bl 197) Q) Q bk197_2 ls st h := dh_wp_eq (dh_wpM_mono d) rfl
theorem u197_3 : dh_wp dh_sh (dh_wpM d) (dh_bl 197) Q 3 ls st h = dh_wpB dh_sh (dh_wpM d) (dh_wp dh_sh (dh_wpM d) (dh_bl 197) Q) Q bk197_3 ls st h := dh_wp_eq (dh_wpM_mono d) rfl
theorem u197_4 : dh_wp dh_sh (dh_wpM d) (dh_bl 197) Q 4 ls st h = dh_wpB dh_sh (dh_wpM d) (dh_wp dh_sh (dh_wpM d) (dh_bl 197) Q) Q bk197_4 ls st h := dh_wp_eq (dh_wpM_mono d) rfl
theorem u197_5 : dh_wp dh_sh (dh_wpM d) (dh_bl 197) Q 5 ls st h = dh_wpB dh_sh (dh_wpM d) (dh_wp dh_sh (dh_wpM d) (dh_bl 197) Q) Q bk197_5 ls st h := dh_wp_eq (dh_wpM_mono d) rfl
theorem u197_6 : dh_wp dh_sh (dh_wpM d) (dh_bl 197) Q 6 ls st h = dh_wpB dh_sh (dh_wpM d) (dh_wp dh_sh (dh_wpM d) (dh_bl 197) Q) Q bk197_6 ls st h := dh_wp_eq (dh_wpM_mono d) rfl
/-- DoubleHeapModel.takes(IIII)J -/
theorem m197 {p0 : Nat} {x1 : Int} {x2 : Int} {x3 : Int} {x4 : Int} : dh_wpM (d + 1) 197 [.inr (.inr (some p0)), .inl x1, .inl x2, .inl x3, .inl x4] h Q = dh_wp dh_sh (dh_wpM d) (dh_bl 197) Q 0 [some (.inr (.inr (some p0))), some (.inl x1), some (.inl x2), some (.inl x3), some (.inl x4)] [] h := dh_mq (Nat.le_of_ble_eq_true rfl) rfl
theorem u198_0 : dh_wp dh_sh (dh_wpM d) (dh_bl 198) Q 0 ls st h = dh_wpB dh_sh (dh_wpM d) (dh_wp dh_sh (dh_wpM d) (dh_bl 198) Q) Q bk198_0 ls st h := dh_wp_eq (dh_wpM_mono d) rfl
theorem u198_1 : dh_wp dh_sh (dh_wpM d) (dh_bl 198) Q 1 ls st h = dh_wpB dh_sh (dh_wpM d) (dh_wp dh_sh (dh_wpM d) (dh_bl 198) Q) Q bk198_1 ls st h := dh_wp_eq (dh_wpM_mono d) rfl
theorem u198_2 : dh_wp dh_sh (dh_wpM d) (dh_bl 198) Q 2 ls st h = dh_wpB dh_sh (dh_wpM d) (dh_wp dh_sh (dh_wpM d) (dh_bl 198) Q) Q bk198_2 ls st h := dh_wp_eq (dh_wpM_mono d) rfl
/-- DoubleHeapModel.lost(I)J -/
theorem m198 {p0 : Nat} {x1 : Int} : dh_wpM (d + 1) 198 [.inr (.inr (some p0)), .inl x1] h Q = dh_wp dh_sh (dh_wpM d) (dh_bl 198) Q 0 [some (.inr (.inr (some p0))), some (.inl x1)] [] h := dh_mq (Nat.le_of_ble_eq_true rfl) rfl
theorem u199_0 : dh_wp dh_sh (dh_wpM d) (dh_bl 199) Q 0 ls st h = dh_wpB dh_sh (dh_wpM d) (dh_wp dh_sh (dh_wpM d) (dh_bl 199) Q) Q bk199_0 ls st h := dh_wp_eq (dh_wpM_mono d) rfl
theorem u199_1 : dh_wp dh_sh (dh_wpM d) (dh_bl 199) Q 1 ls st h = dh_wpB dh_sh (dh_wpM d) (dh_wp dh_sh (dh_wpM d) (dh_bl 199) Q) Q bk199_1 ls st h := dh_wp_eq (dh_wpM_mono d) rfl
theorem u199_2 : dh_wp dh_sh (dh_wpM d) (dh_bl 199) Q 2 ls st h = dh_wpB dh_sh (dh_wpM d) (dh_wp dh_sh (dh_wpM d) (dh_bl 199) Q) Q bk199_2 ls st h := dh_wp_eq (dh_wpM_mono d) rfl
theorem u199_3 : dh_wp dh_sh (dh_wpM d) (dh_bl 199) Q 3 ls st h = dh_wpB dh_sh (dh_wpM d) (dh_wp dh_sh (dh_wpM d) (dh_bl 199) Q) Q bk199_3 ls st h := dh_wp_eq (dh_wpM_mono d) rfl
theorem u199_4 : dh_wp dh_sh (dh_wpM d) (dh_bl 199) Q 4 ls st h = dh_wpB dh_sh (dh_wpM d) (dh_wp dh_sh (dh_wpM d) (dh_bl 199) Q) Q bk199_4 ls st h := dh_wp_eq (dh_wpM_mono d) rfl
theorem u199_5 : dh_wp dh_sh (dh_wpM d) (dh_bl 199) Q 5 ls st h = dh_wpB dh_sh (dh_wpM d) (dh_wp dh_sh (dh_wpM d) (dh_bl 199) Q) Q bk199_5 ls st h := dh_wp_eq (dh_wpM_mono d) rfl
/-- DoubleHeapModel.numberAt(JI)I -/
theorem m199 {x1 : BitVec 64} {x2 : Int} : dh_wpM (d + 1) 199 [.inr (.inl x1), .inl x2] h Q = dh_wp dh_sh (dh_wpM d) (dh_bl 199) Q 0 [some (.inr (.inl x1)), none, some (.inl x2), none, none] [] h := dh_mq (Nat.le_of_ble_eq_true rfl) rfl
theorem u200_0 : dh_wp dh_sh (dh_wpM d) (dh_bl 200) Q 0 ls st h = dh_wpB dh_sh (dh_wpM d) (dh_wp dh_sh (dh_wpM d) (dh_bl 200) Q) Q bk200_0 ls st h := dh_wp_eq (dh_wpM_mono d) rfl
theorem u200_1 : dh_wp dh_sh (dh_wpM d) (dh_bl 200) Q 1 ls st h = dh_wpB dh_sh (dh_wpM d) (dh_wp dh_sh (dh_wpM d) (dh_bl 200) Q) Q bk200_1 ls st h := dh_wp_eq (dh_wpM_mono d) rfl
theorem u200_2 : dh_wp dh_sh (dh_wpM d) (dh_bl 200) Q 2 ls st h = dh_wpB dh_sh (dh_wpM d) (dh_wp dh_sh (dh_wpM d) (dh_bl 200) Q) Q bk200_2 ls st h := dh_wp_eq (dh_wpM_mono d) rfl
/-- DoubleHeapModel.lostAt(II)I -/
theorem m200 {p0 : Nat} {x1 : Int} {x2 : Int} : dh_wpM (d + 1) 200 [.inr (.inr (some p0)), .inl x1, .inl x2] h Q = dh_wp dh_sh (dh_wpM d) (dh_bl 200) Q 0 [some (.inr (.inr (some p0))), some (.inl x1), some (.inl x2)] [] h := dh_mq (Nat.le_of_ble_eq_true rfl) rfl
theorem u201_0 : dh_wp dh_sh (dh_wpM d) (dh_bl 201) Q 0 ls st h = dh_wpB dh_sh (dh_wpM d) (dh_wp dh_sh (dh_wpM d) (dh_bl 201) Q) Q bk201_0 ls st h := dh_wp_eq (dh_wpM_mono d) rfl
theorem u201_1 : dh_wp dh_sh (dh_wpM d) (dh_bl 201) Q 1 ls st h = dh_wpB dh_sh (dh_wpM d) (dh_wp dh_sh (dh_wpM d) (dh_bl 201) Q) Q bk201_1 ls st h := dh_wp_eq (dh_wpM_mono d) rfl
theorem u201_2 : dh_wp dh_sh (dh_wpM d) (dh_bl 201) Q 2 ls st h = dh_wpB dh_sh (dh_wpM d) (dh_wp dh_sh (dh_wpM d) (dh_bl 201) Q) Q bk201_2 ls st h := dh_wp_eq (dh_wpM_mono d) rfl
theorem u201_3 : dh_wp dh_sh (dh_wpM d) (dh_bl 201) Q 3 ls st h = dh_wpB dh_sh (dh_wpM d) (dh_wp dh_sh (dh_wpM d) (dh_bl 201) Q) Q bk201_3 ls st h := dh_wp_eq (dh_wpM_mono d) rfl
theorem u201_4 : dh_wp dh_sh (dh_wpM d) (dh_bl 201) Q 4 ls st h = dh_wpB dh_sh (dh_wpM d) (dh_wp dh_sh (dh_wpM d) (dh_bl 201) Q) Q bk201_4 ls st h := dh_wp_eq (dh_wpM_mono d) rfl
theorem u201_5 : dh_wp dh_sh (dh_wpM d) (dh_bl 201) Q 5 ls st h = dh_wpB dh_sh (dh_wpM d) (dh_wp dh_sh (dh_wpM d) (dh_bl 201) Q) Q bk201_5 ls st h := dh_wp_eq (dh_wpM_mono d) rfl
theorem u201_6 : dh_wp dh_sh (dh_wpM d) (dh_bl 201) Q 6 ls st h = dh_wpB dh_sh (dh_wpM d) (dh_wp dh_sh (dh_wpM d) (dh_bl 201) Q) Q bk201_6 ls st h := dh_wp_eq (dh_wpM_mono d) rfl
theorem u201_7 : dh_wp dh_sh (dh_wpM d) (dh_bl 201) Q 7 ls st h = dh_wpB dh_sh (dh_wpM d) (dh_wp dh_sh (dh_wpM d) (dh_bl 201) Q) Q bk201_7 ls st h := dh_wp_eq (dh_wpM_mono d) rfl
theorem u201_8 : dh_wp dh_sh (dh_wpM d) (dh_bl 201) Q 8 ls st h = dh_wpB dh_sh (dh_wpM d) (dh_wp dh_sh (dh_wpM d) (dh_bl 201) Q) Q bk201_8 ls st h := dh_wp_eq (dh_wpM_mono d) rfl
theorem u201_9 : dh_wp dh_sh (dh_wpM d) (dh_bl 201) Q 9 ls st h = dh_wpB dh_sh (dh_wpM d) (dh_wp dh_sh (dh_wpM d) (dh_bl 201) Q) Q bk201_9 ls st h := dh_wp_eq (dh_wpM_mono d) rfl
/-- DoubleHeapModel.ends(IIII)I -/
theorem m201 {p0 : Nat} {x1 : Int} {x2 : Int} {x3 : Int} {x4 : Int} : dh_wpM (d + 1) 201 [.inr (.inr (some p0)), .inl x1, .inl x2, .inl x3, .inl x4] h Q = dh_wp dh_sh (dh_wpM d) (dh_bl 201) Q 0 [some (.inr (.inr (some p0))), some (.inl x1), some (.inl x2), some (.inl x3), some (.inl x4), none, none, none, none] [] h := dh_mq (Nat.le_of_ble_eq_true rfl) rfl
theorem u202_0 : dh_wp dh_sh (dh_wpM d) (dh_bl 202) Q 0 ls st h = dh_wpB dh_sh (dh_wpM d) (dh_wp dh_sh (dh_wpM d) (dh_bl 202) Q) Q bk202_0 ls st h := dh_wp_eq (dh_wpM_mono d) rfl
theorem u202_1 : dh_wp dh_sh (dh_wpM d) (dh_bl 202) Q 1 ls st h = dh_wpB dh_sh (dh_wpM d) (dh_wp dh_sh (dh_wpM d) (dh_bl 202) Q) Q bk202_1 ls st h := dh_wp_eq (dh_wpM_mono d) rfl
theorem u202_2 : dh_wp dh_sh (dh_wpM d) (dh_bl 202) Q 2 ls st h = dh_wpB dh_sh (dh_wpM d) (dh_wp dh_sh (dh_wpM d) (dh_bl 202) Q) Q bk202_2 ls st h := dh_wp_eq (dh_wpM_mono d) rfl
theorem u202_3 : dh_wp dh_sh (dh_wpM d) (dh_bl 202) Q 3 ls st h = dh_wpB dh_sh (dh_wpM d) (dh_wp dh_sh (dh_wpM d) (dh_bl 202) Q) Q bk202_3 ls st h := dh_wp_eq (dh_wpM_mono d) rfl
theorem u202_4 : dh_wp dh_sh (dh_wpM d) (dh_bl 202) Q 4 ls st h = dh_wpB dh_sh (dh_wpM d) (dh_wp dh_sh (dh_wpM d) (dh_bl 202) Q) Q bk202_4 ls st h := dh_wp_eq (dh_wpM_mono d) rfl
theorem u202_5 : dh_wp dh_sh (dh_wpM d) (dh_bl 202) Q 5 ls st h = dh_wpB dh_sh (dh_wpM d) (dh_wp dh_sh (dh_wpM d) (dh_bl 202) Q) Q bk202_5 ls st h := dh_wp_eq (dh_wpM_mono d) rfl
theorem u202_6 : dh_wp dh_sh (dh_wpM d) (dh_bl 202) Q 6 ls st h = dh_wpB dh_sh (dh_wpM d) (dh_wp dh_sh (dh_wpM d) (dh_bl 202) Q) Q bk202_6 ls st h := dh_wp_eq (dh_wpM_mono d) rfl
theorem u202_7 : dh_wp dh_sh (dh_wpM d) (dh_bl 202) Q 7 ls st h = dh_wpB dh_sh (dh_wpM d) (dh_wp dh_sh (dh_wpM d) (dh_bl 202) Q) Q bk202_7 ls st h := dh_wp_eq (dh_wpM_mono d) rfl
theorem u202_8 : dh_wp dh_sh (dh_wpM d) (dh_bl 202) Q 8 ls st h = dh_wpB dh_sh (dh_wpM d) (dh_wp dh_sh (dh_wpM d) (dh_bl 202) Q) Q bk202_8 ls st h := dh_wp_eq (dh_wpM_mono d) rfl
theorem u202_9 : dh_wp dh_sh (dh_wpM d) (dh_bl 202) Q 9 ls st h = dh_wpB dh_sh (dh_wpM d) (dh_wp dh_sh (dh_wpM d) (dh_bl 202) Q) Q bk202_9 ls st h := dh_wp_eq (dh_wpM_mono d) rfl
/-- DoubleHeapModel.longest(IIII)I -/
theorem m202 {p0 : Nat} {x1 : Int} {x2 : Int} {x3 : Int} {x4 : Int} : dh_wpM (d + 1) 202 [.inr (.inr (some p0)), .inl x1, .inl x2, .inl x3, .inl x4] h Q = dh_wp dh_sh (dh_wpM d) (dh_bl 202) Q 0 [some (.inr (.inr (some p0))), some (.inl x1), some (.inl x2), some (.inl x3), some (.inl x4), none, none, none, none] [] h := dh_mq (Nat.le_of_ble_eq_true rfl) rfl
theorem u203_0 : dh_wp dh_sh (dh_wpM d) (dh_bl 203) Q 0 ls st h = dh_wpB dh_sh (dh_wpM d) (dh_wp dh_sh (dh_wpM d) (dh_bl 203) Q) Q bk203_0 ls st h := dh_wp_eq (dh_wpM_mono d) rfl
theorem u203_1 : dh_wp dh_sh (dh_wpM d) (dh_bl 203) Q 1 ls st h = dh_wpB dh_sh (dh_wpM d) (dh_wp dh_sh (dh_wpM d) (dh_bl 203) Q) Q bk203_1 ls st h := dh_wp_eq (dh_wpM_mono d) rfl
theorem u203_2 : dh_wp dh_sh (dh_wpM d) (dh_bl 203) Q 2 ls st h = dh_wpB dh_sh (dh_wpM d) (dh_wp dh_sh (dh_wpM d) (dh_bl 203) Q) Q bk203_2 ls st h := dh_wp_eq (dh_wpM_mono d) rfl
/-- DoubleHeapModel.laysLost(J)V -/
theorem m203 {p0 : Nat} {x1 : BitVec 64} : dh_wpM (d + 1) 203 [.inr (.inr (some p0)), .inr (.inl x1)] h Q = dh_wp dh_sh (dh_wpM d) (dh_bl 203) Q 0 [some (.inr (.inr (some p0))), some (.inr (.inl x1)), none, none] [] h := dh_mq (Nat.le_of_ble_eq_true rfl) rfl
theorem u204_0 : dh_wp dh_sh (dh_wpM d) (dh_bl 204) Q 0 ls st h = dh_wpB dh_sh (dh_wpM d) (dh_wp dh_sh (dh_wpM d) (dh_bl 204) Q) Q bk204_0 ls st h := dh_wp_eq (dh_wpM_mono d) rfl
theorem u204_1 : dh_wp dh_sh (dh_wpM d) (dh_bl 204) Q 1 ls st h = dh_wpB dh_sh (dh_wpM d) (dh_wp dh_sh (dh_wpM d) (dh_bl 204) Q) Q bk204_1 ls st h := dh_wp_eq (dh_wpM_mono d) rfl
/-- DoubleHeapModel.waysBy(II)I -/
theorem m204 {p0 : Nat} {x1 : Int} {x2 : Int} : dh_wpM (d + 1) 204 [.inr (.inr (some p0)), .inl x1, .inl x2] h Q = dh_wp dh_sh (dh_wpM d) (dh_bl 204) Q 0 [some (.inr (.inr (some p0))), some (.inl x1), some (.inl x2)] [] h := dh_mq (Nat.le_of_ble_eq_true rfl) rfl
theorem u205_0 : dh_wp dh_sh (dh_wpM d) (dh_bl 205) Q 0 ls st h = dh_wpB dh_sh (dh_wpM d) (dh_wp dh_sh (dh_wpM d) (dh_bl 205) Q) Q bk205_0 ls st h := dh_wp_eq (dh_wpM_mono d) rfl
theorem u205_1 : dh_wp dh_sh (dh_wpM d) (dh_bl 205) Q 1 ls st h = dh_wpB dh_sh (dh_wpM d) (dh_wp dh_sh (dh_wpM d) (dh_bl 205) Q) Q bk205_1 ls st h := dh_wp_eq (dh_wpM_mono d) rfl
theorem u205_2 : dh_wp dh_sh (dh_wpM d) (dh_bl 205) Q 2 ls st h = dh_wpB dh_sh (dh_wpM d) (dh_wp dh_sh (dh_wpM d) (dh_bl 205) Q) Q bk205_2 ls st h := dh_wp_eq (dh_wpM_mono d) rfl
theorem u205_3 : dh_wp dh_sh (dh_wpM d) (dh_bl 205) Q 3 ls st h = dh_wpB dh_sh (dh_wpM d) (dh_wp dh_sh (dh_wpM d) (dh_bl 205) Q) Q bk205_3 ls st h := dh_wp_eq (dh_wpM_mono d) rfl
theorem u205_4 : dh_wp dh_sh (dh_wpM d) (dh_bl 205) Q 4 ls st h = dh_wpB dh_sh (dh_wpM d) (dh_wp dh_sh (dh_wpM d) (dh_bl 205) Q) Q bk205_4 ls st h := dh_wp_eq (dh_wpM_mono d) rfl
theorem u205_5 : dh_wp dh_sh (dh_wpM d) (dh_bl 205) Q 5 ls st h = dh_wpB dh_sh (dh_wpM d) (dh_wp dh_sh (dh_wpM d) (dh_bl 205) Q) Q bk205_5 ls st h := dh_wp_eq (dh_wpM_mono d) rfl
theorem u205_6 : dh_wp dh_sh (dh_wpM d) (dh_bl 205) Q 6 ls st h = dh_wpB dh_sh (dh_wpM d) (dh_wp dh_sh (dh_wpM d) (dh_bl 205) Q) Q bk205_6 ls st h := dh_wp_eq (dh_wpM_mono d) rfl
theorem u205_7 : dh_wp dh_sh (dh_wpM d) (dh_bl 205) Q 7 ls st h = dh_wpB dh_sh (dh_wpM d) (dh_wp dh_sh (dh_wpM d) (dh_bl 205) Q) Q bk205_7 ls st h := dh_wp_eq (dh_wpM_mono d) rfl
theorem u205_8 : dh_wp dh_sh (dh_wpM d) (dh_bl 205) Q 8 ls st h = dh_wpB dh_sh (dh_wpM d) (dh_wp dh_sh (dh_wpM d) (dh_bl 205) Q) Q bk205_8 ls st h := dh_wp_eq (dh_wpM_mono d) rfl
/-- DoubleHeapModel.laysWays(I)V -/
theorem m205 {p0 : Nat} {x1 : Int} : dh_wpM (d + 1) 205 [.inr (.inr (some p0)), .inl x1] h Q = dh_wp dh_sh (dh_wpM d) (dh_bl 205) Q 0 [some (.inr (.inr (some p0))), some (.inl x1), none, none] [] h := dh_mq (Nat.le_of_ble_eq_true rfl) rfl
theorem u206_0 : dh_wp dh_sh (dh_wpM d) (dh_bl 206) Q 0 ls st h = dh_wpB dh_sh (dh_wpM d) (dh_wp dh_sh (dh_wpM d) (dh_bl 206) Q) Q bk206_0 ls st h := dh_wp_eq (dh_wpM_mono d) rfl
theorem u206_1 : dh_wp dh_sh (dh_wpM d) (dh_bl 206) Q 1 ls st h = dh_wpB dh_sh (dh_wpM d) (dh_wp dh_sh (dh_wpM d) (dh_bl 206) Q) Q bk206_1 ls st h := dh_wp_eq (dh_wpM_mono d) rfl
theorem u206_2 : dh_wp dh_sh (dh_wpM d) (dh_bl 206) Q 2 ls st h = dh_wpB dh_sh (dh_wpM d) (dh_wp dh_sh (dh_wpM d) (dh_bl 206) Q) Q bk206_2 ls st h := dh_wp_eq (dh_wpM_mono d) rfl
theorem u206_3 : dh_wp dh_sh (dh_wpM d) (dh_bl 206) Q 3 ls st h = dh_wpB dh_sh (dh_wpM d) (dh_wp dh_sh (dh_wpM d) (dh_bl 206) Q) Q bk206_3 ls st h := dh_wp_eq (dh_wpM_mono d) rfl
theorem u206_4 : dh_wp dh_sh (dh_wpM d) (dh_bl 206) Q 4 ls st h = dh_wpB dh_sh (dh_wpM d) (dh_wp dh_sh (dh_wpM d) (dh_bl 206) Q) Q bk206_4 ls st h := dh_wp_eq (dh_wpM_mono d) rfl
/-- DoubleHeapModel.greatestFirst(I)J -/
theorem m206 {p0 : Nat} {x1 : Int} : dh_wpM (d + 1) 206 [.inr (.inr (some p0)), .inl x1] h Q = dh_wp dh_sh (dh_wpM d) (dh_bl 206) Q 0 [some (.inr (.inr (some p0))), some (.inl x1), none, none, none, none] [] h := dh_mq (Nat.le_of_ble_eq_true rfl) rfl
theorem u207_0 : dh_wp dh_sh (dh_wpM d) (dh_bl 207) Q 0 ls st h = dh_wpB dh_sh (dh_wpM d) (dh_wp dh_sh (dh_wpM d) (dh_bl 207) Q) Q bk207_0 ls st h := dh_wp_eq (dh_wpM_mono d) rfl
theorem u207_1 : dh_wp dh_sh (dh_wpM d) (dh_bl 207) Q 1 ls st h = dh_wpB dh_sh (dh_wpM d) (dh_wp dh_sh (dh_wpM d) (dh_bl 207) Q) Q bk207_1 ls st h := dh_wp_eq (dh_wpM_mono d) rfl
theorem u207_2 : dh_wp dh_sh (dh_wpM d) (dh_bl 207) Q 2 ls st h = dh_wpB dh_sh (dh_wpM d) (dh_wp dh_sh (dh_wpM d) (dh_bl 207) Q) Q bk207_2 ls st h := dh_wp_eq (dh_wpM_mono d) rfl
theorem u207_3 : dh_wp dh_sh (dh_wpM d) (dh_bl 207) Q 3 ls st h = dh_wpB dh_sh (dh_wpM d) (dh_wp dh_sh (dh_wpM d) (dh_bl 207) Q) Q bk207_3 ls st h := dh_wp_eq (dh_wpM_mono d) rfl
theorem u207_4 : dh_wp dh_sh (dh_wpM d) (dh_bl 207) Q 4 ls st h = dh_wpB dh_sh (dh_wpM d) (dh_wp dh_sh (dh_wpM d) (dh_bl 207) Q) Q bk207_4 ls st h := dh_wp_eq (dh_wpM_mono d) rfl
theorem u207_5 : dh_wp dh_sh (dh_wpM d) (dh_bl 207) Q 5 ls st h = dh_wpB dh_sh (dh_wpM d) (dh_wp dh_sh (dh_wpM d) (dh_bl 207) Q) Q bk207_5 ls st h := dh_wp_eq (dh_wpM_mono d) rfl
/-- DoubleHeapModel.sums(III)I -/
theorem m207 {p0 : Nat} {x1 : Int} {x2 : Int} {x3 : Int} : dh_wpM (d + 1) 207 [.inr (.inr (some p0)), .inl x1, .inl x2, .inl x3] h Q = dh_wp dh_sh (dh_wpM d) (dh_bl 207) Q 0 [some (.inr (.inr (some p0))), some (.inl x1), some (.inl x2), some (.inl x3), none, none] [] h := dh_mq (Nat.le_of_ble_eq_true rfl) rfl
theorem u208_0 : dh_wp dh_sh (dh_wpM d) (dh_bl 208) Q 0 ls st h = dh_wpB dh_sh (dh_wpM d) (dh_wp dh_sh (dh_wpM d) (dh_bl 208) Q) Q bk208_0 ls st h := dh_wp_eq (dh_wpM_mono d) rfl
theorem u208_1 : dh_wp dh_sh (dh_wpM d) (dh_bl 208) Q 1 ls st h = dh_wpB dh_sh (dh_wpM d) (dh_wp dh_sh (dh_wpM d) (dh_bl 208) Q) Q bk208_1 ls st h := dh_wp_eq (dh_wpM_mono d) rfl
theorem u208_2 : dh_wp dh_sh (dh_wpM d) (dh_bl 208) Q 2 ls st h = dh_wpB dh_sh (dh_wpM d) (dh_wp dh_sh (dh_wpM d) (dh_bl 208) Q) Q bk208_2 ls st h := dh_wp_eq (dh_wpM_mono d) rfl
/-- DoubleHeapModel.sum(II)J -/
theorem m208 {p0 : Nat} {x1 : Int} {x2 : Int} : dh_wpM (d + 1) 208 [.inr (.inr (some p0)), .inl x1, .inl x2] h Q = dh_wp dh_sh (dh_wpM d) (dh_bl 208) Q 0 [some (.inr (.inr (some p0))), some (.inl x1), some (.inl x2)] [] h := dh_mq (Nat.le_of_ble_eq_true rfl) rfl
theorem u209_0 : dh_wp dh_sh (dh_wpM d) (dh_bl 209) Q 0 ls st h = dh_wpB dh_sh (dh_wpM d) (dh_wp dh_sh (dh_wpM d) (dh_bl 209) Q) Q bk209_0 ls st h := dh_wp_eq (dh_wpM_mono d) rfl
/-- DoubleHeapModel.atTwo(III)I -/
theorem m209 {x1 : Int} {x2 : Int} {x3 : Int} : dh_wpM (d + 1) 209 [.inl x1, .inl x2, .inl x3] h Q = dh_wp dh_sh (dh_wpM d) (dh_bl 209) Q 0 [some (.inl x1), some (.inl x2), some (.inl x3)] [] h := dh_mq (Nat.le_of_ble_eq_true rfl) rfl
theorem u210_0 : dh_wp dh_sh (dh_wpM d) (dh_bl 210) Q 0 ls st h = dh_wpB dh_sh (dh_wpM d) (dh_wp dh_sh (dh_wpM d) (dh_bl 210) Q) Q bk210_0 ls st h := dh_wp_eq (dh_wpM_mono d) rfl
theorem u210_1 : dh_wp dh_sh (dh_wpM d) (dh_bl 210) Q 1 ls st h = dh_wpB dh_sh (dh_wpM d) (dh_wp dh_sh (dh_wpM d) (dh_bl 210) Q) Q bk210_1 ls st h := dh_wp_eq (dh_wpM_mono d) rfl
theorem u210_2 : dh_wp dh_sh (dh_wpM d) (dh_bl 210) Q 2 ls st h = dh_wpB dh_sh (dh_wpM d) (dh_wp dh_sh (dh_wpM d) (dh_bl 210) Q) Q bk210_2 ls st h := dh_wp_eq (dh_wpM_mono d) rfl
theorem u210_3 : dh_wp dh_sh (dh_wpM d) (dh_bl 210) Q 3 ls st h = dh_wpB dh_sh (dh_wpM d) (dh_wp dh_sh (dh_wpM d) (dh_bl 210) Q) Q bk210_3 ls st h := dh_wp_eq (dh_wpM_mono d) rfl
theorem u210_4 : dh_wp dh_sh (dh_wpM d) (dh_bl 210) Q 4 ls st h = dh_wpB dh_sh (dh_wpM d) (dh_wp dh_sh (dh_wpM d) (dh_bl 210) Q) Q bk210_4 ls st h := dh_wp_eq (dh_wpM_mono d) rfl
theorem u210_5 : dh_wp dh_sh (dh_wpM d) (dh_bl 210) Q 5 ls st h = dh_wpB dh_sh (dh_wpM d) (dh_wp dh_sh (dh_wpM d) (dh_bl 210) Q) Q bk210_5 ls st h := dh_wp_eq (dh_wpM_mono d) rfl
theorem u210_6 : dh_wp dh_sh (dh_wpM d) (dh_bl 210) Q 6 ls st h = dh_wpB dh_sh (dh_wpM d) (dh_wp dh_sh (dh_wpM d) (dh_bl 210) Q) Q bk210_6 ls st h := dh_wp_eq (dh_wpM_mono d) rfl
theorem u210_7 : dh_wp dh_sh (dh_wpM d) (dh_bl 210) Q 7 ls st h = dh_wpB dh_sh (dh_wpM d) (dh_wp dh_sh (dh_wpM d) (dh_bl 210) Q) Q bk210_7 ls st h := dh_wp_eq (dh_wpM_mono d) rfl
theorem u210_8 : dh_wp dh_sh (dh_wpM d) (dh_bl 210) Q 8 ls st h = dh_wpB dh_sh (dh_wpM d) (dh_wp dh_sh (dh_wpM d) (dh_bl 210) Q) Q bk210_8 ls st h := dh_wp_eq (dh_wpM_mono d) rfl
/-- DoubleHeapModel.goodTwo(IIIIZ)I -/
theorem m210 {p0 : Nat} {x1 : Int} {x2 : Int} {x3 : Int} {x4 : Int} {x5 : Int} : dh_wpM (d + 1) 210 [.inr (.inr (some p0)), .inl x1, .inl x2, .inl x3, .inl x4, .inl x5] h Q = dh_wp dh_sh (dh_wpM d) (dh_bl 210) Q 0 [some (.inr (.inr (some p0))), some (.inl x1), some (.inl x2), some (.inl x3), some (.inl x4), some (.inl x5), none, none, none] [] h := dh_mq (Nat.le_of_ble_eq_true rfl) rfl
theorem u211_0 : dh_wp dh_sh (dh_wpM d) (dh_bl 211) Q 0 ls st h = dh_wpB dh_sh (dh_wpM d) (dh_wp dh_sh (dh_wpM d) (dh_bl 211) Q) Q bk211_0 ls st h := dh_wp_eq (dh_wpM_mono d) rfl
theorem u211_1 : dh_wp dh_sh (dh_wpM d) (dh_bl 211) Q 1 ls st h = dh_wpB dh_sh (dh_wpM d) (dh_wp dh_sh (dh_wpM d) (dh_bl 211) Q) Q bk211_1 ls st h := dh_wp_eq (dh_wpM_mono d) rfl
theorem u211_2 : dh_wp dh_sh (dh_wpM d) (dh_bl 211) Q 2 ls st h = dh_wpB dh_sh (dh_wpM d) (dh_wp dh_sh (dh_wpM d) (dh_bl 211) Q) Q bk211_2 ls st h := dh_wp_eq (dh_wpM_mono d) rfl
theorem u211_3 : dh_wp dh_sh (dh_wpM d) (dh_bl 211) Q 3 ls st h = dh_wpB dh_sh (dh_wpM d) (dh_wp dh_sh (dh_wpM d) (dh_bl 211) Q) Q bk211_3 ls st h := dh_wp_eq (dh_wpM_mono d) rfl
theorem u211_4 : dh_wp dh_sh (dh_wpM d) (dh_bl 211) Q 4 ls st h = dh_wpB dh_sh (dh_wpM d) (dh_wp dh_sh (dh_wpM d) (dh_bl 211) Q) Q bk211_4 ls st h := dh_wp_eq (dh_wpM_mono d) rfl
theorem u211_5 : dh_wp dh_sh (dh_wpM d) (dh_bl 211) Q 5 ls st h = dh_wpB dh_sh (dh_wpM d) (dh_wp dh_sh (dh_wpM d) (dh_bl 211) Q) Q bk211_5 ls st h := dh_wp_eq (dh_wpM_mono d) rfl
theorem u211_6 : dh_wp dh_sh (dh_wpM d) (dh_bl 211) Q 6 ls st h = dh_wpB dh_sh (dh_wpM d) (dh_wp dh_sh (dh_wpM d) (dh_bl 211) Q) Q bk211_6 ls st h := dh_wp_eq (dh_wpM_mono d) rfl
theorem u211_7 : dh_wp dh_sh (dh_wpM d) (dh_bl 211) Q 7 ls st h = dh_wpB dh_sh (dh_wpM d) (dh_wp dh_sh (dh_wpM d) (dh_bl 211) Q) Q bk211_7 ls st h := dh_wp_eq (dh_wpM_mono d) rfl
theorem u211_8 : dh_wp dh_sh (dh_wpM d) (dh_bl 211) Q 8 ls st h = dh_wpB dh_sh (dh_wpM d) (dh_wp dh_sh (dh_wpM d) (dh_bl 211) Q) Q bk211_8 ls st h := dh_wp_eq (dh_wpM_mono d) rfl
theorem u211_9 : dh_wp dh_sh (dh_wpM d) (dh_bl 211) Q 9 ls st h = dh_wpB dh_sh (dh_wpM d) (dh_wp dh_sh (dh_wpM d) (dh_bl 211) Q) Q bk211_9 ls st h := dh_wp_eq (dh_wpM_mono d) rfl
theorem u211_10 : dh_wp dh_sh (dh_wpM d) (dh_bl 211) Q 10 ls st h = dh_wpB dh_sh (dh_wpM d) (dh_wp dh_sh (dh_wpM d) (dh_bl 211) Q) Q bk211_10 ls st h := dh_wp_eq (dh_wpM_mono d) rfl
theorem u211_11 : dh_wp dh_sh (dh_wpM d) (dh_bl 211) Q 11 ls st h = dh_wpB dh_sh (dh_wpM d) (dh_wp dh_sh (dh_wpM d) (dh_bl 211) Q) Q bk211_11 ls st h := dh_wp_eq (dh_wpM_mono d) rfl
theorem u211_12 : dh_wp dh_sh (dh_wpM d) (dh_bl 211) Q 12 ls st h = dh_wpB dh_sh (dh_wpM d) (dh_wp dh_sh (dh_wpM d) (dh_bl 211) Q) Q bk211_12 ls st h := dh_wp_eq (dh_wpM_mono d) rfl
theorem u211_13 : dh_wp dh_sh (dh_wpM d) (dh_bl 211) Q 13 ls st h = dh_wpB dh_sh (dh_wpM d) (dh_wp dh_sh (dh_wpM d) (dh_bl 211) Q) Q bk211_13 ls st h := dh_wp_eq (dh_wpM_mono d) rfl
theorem u211_14 : dh_wp dh_sh (dh_wpM d) (dh_bl 211) Q 14 ls st h = dh_wpB dh_sh (dh_wpM d) (dh_wp dh_sh (dh_wpM d) (dh_bl 211) Q) Q bk211_14 ls st h := dh_wp_eq (dh_wpM_mono d) rfl
theorem u211_15 : dh_wp dh_sh (dh_wpM d) (dh_bl 211) Q 15 ls st h = dh_wpB dh_sh (dh_wpM d) (dh_wp dh_sh (dh_wpM d) (dh_bl 211) Q) Q bk211_15 ls st h := dh_wp_eq (dh_wpM_mono d) rfl
theorem u211_16 : dh_wp dh_sh (dh_wpM d) (dh_bl 211) Q 16 ls st h = dh_wpB dh_sh (dh_wpM d) (dh_wp dh_sh (dh_wpM d) (dh_bl 211) Q) Q bk211_16 ls st h := dh_wp_eq (dh_wpM_mono d) rfl
theorem u211_17 : dh_wp dh_sh (dh_wpM d) (dh_bl 211) Q 17 ls st h = dh_wpB dh_sh (dh_wpM d) (dh_wp dh_sh (dh_wpM d) (dh_bl 211) Q) Q bk211_17 ls st h := dh_wp_eq (dh_wpM_mono d) rfl
/-- DoubleHeapModel.two(IIIII)I -/
theorem m211 {p0 : Nat} {x1 : Int} {x2 : Int} {x3 : Int} {x4 : Int} {x5 : Int} : dh_wpM (d + 1) 211 [.inr (.inr (some p0)), .inl x1, .inl x2, .inl x3, .inl x4, .inl x5] h Q = dh_wp dh_sh (dh_wpM d) (dh_bl 211) Q 0 [some (.inr (.inr (some p0))), some (.inl x1), some (.inl x2), some (.inl x3), some (.inl x4), some (.inl x5), none, none, none] [] h := dh_mq (Nat.le_of_ble_eq_true rfl) rfl
theorem u212_0 : dh_wp dh_sh (dh_wpM d) (dh_bl 212) Q 0 ls st h = dh_wpB dh_sh (dh_wpM d) (dh_wp dh_sh (dh_wpM d) (dh_bl 212) Q) Q bk212_0 ls st h := dh_wp_eq (dh_wpM_mono d) rfl
theorem u212_1 : dh_wp dh_sh (dh_wpM d) (dh_bl 212) Q 1 ls st h = dh_wpB dh_sh (dh_wpM d) (dh_wp dh_sh (dh_wpM d) (dh_bl 212) Q) Q bk212_1 ls st h := dh_wp_eq (dh_wpM_mono d) rfl
theorem u212_2 : dh_wp dh_sh (dh_wpM d) (dh_bl 212) Q 2 ls st h = dh_wpB dh_sh (dh_wpM d) (dh_wp dh_sh (dh_wpM d) (dh_bl 212) Q) Q bk212_2 ls st h := dh_wp_eq (dh_wpM_mono d) rfl
theorem u212_3 : dh_wp dh_sh (dh_wpM d) (dh_bl 212) Q 3 ls st h = dh_wpB dh_sh (dh_wpM d) (dh_wp dh_sh (dh_wpM d) (dh_bl 212) Q) Q bk212_3 ls st h := dh_wp_eq (dh_wpM_mono d) rfl
theorem u212_4 : dh_wp dh_sh (dh_wpM d) (dh_bl 212) Q 4 ls st h = dh_wpB dh_sh (dh_wpM d) (dh_wp dh_sh (dh_wpM d) (dh_bl 212) Q) Q bk212_4 ls st h := dh_wp_eq (dh_wpM_mono d) rfl
theorem u212_5 : dh_wp dh_sh (dh_wpM d) (dh_bl 212) Q 5 ls st h = dh_wpB dh_sh (dh_wpM d) (dh_wp dh_sh (dh_wpM d) (dh_bl 212) Q) Q bk212_5 ls st h := dh_wp_eq (dh_wpM_mono d) rfl
theorem u212_6 : dh_wp dh_sh (dh_wpM d) (dh_bl 212) Q 6 ls st h = dh_wpB dh_sh (dh_wpM d) (dh_wp dh_sh (dh_wpM d) (dh_bl 212) Q) Q bk212_6 ls st h := dh_wp_eq (dh_wpM_mono d) rfl
/-- DoubleHeapModel.goodGrowing(IIIII)I -/
theorem m212 {p0 : Nat} {x1 : Int} {x2 : Int} {x3 : Int} {x4 : Int} {x5 : Int} : dh_wpM (d + 1) 212 [.inr (.inr (some p0)), .inl x1, .inl x2, .inl x3, .inl x4, .inl x5] h Q = dh_wp dh_sh (dh_wpM d) (dh_bl 212) Q 0 [some (.inr (.inr (some p0))), some (.inl x1), some (.inl x2), some (.inl x3), some (.inl x4), some (.inl x5), none, none, none, none] [] h := dh_mq (Nat.le_of_ble_eq_true rfl) rfl
theorem u213_0 : dh_wp dh_sh (dh_wpM d) (dh_bl 213) Q 0 ls st h = dh_wpB dh_sh (dh_wpM d) (dh_wp dh_sh (dh_wpM d) (dh_bl 213) Q) Q bk213_0 ls st h := dh_wp_eq (dh_wpM_mono d) rfl
theorem u213_1 : dh_wp dh_sh (dh_wpM d) (dh_bl 213) Q 1 ls st h = dh_wpB dh_sh (dh_wpM d) (dh_wp dh_sh (dh_wpM d) (dh_bl 213) Q) Q bk213_1 ls st h := dh_wp_eq (dh_wpM_mono d) rfl
theorem u213_2 : dh_wp dh_sh (dh_wpM d) (dh_bl 213) Q 2 ls st h = dh_wpB dh_sh (dh_wpM d) (dh_wp dh_sh (dh_wpM d) (dh_bl 213) Q) Q bk213_2 ls st h := dh_wp_eq (dh_wpM_mono d) rfl
theorem u213_3 : dh_wp dh_sh (dh_wpM d) (dh_bl 213) Q 3 ls st h = dh_wpB dh_sh (dh_wpM d) (dh_wp dh_sh (dh_wpM d) (dh_bl 213) Q) Q bk213_3 ls st h := dh_wp_eq (dh_wpM_mono d) rfl
theorem u213_4 : dh_wp dh_sh (dh_wpM d) (dh_bl 213) Q 4 ls st h = dh_wpB dh_sh (dh_wpM d) (dh_wp dh_sh (dh_wpM d) (dh_bl 213) Q) Q bk213_4 ls st h := dh_wp_eq (dh_wpM_mono d) rfl
theorem u213_5 : dh_wp dh_sh (dh_wpM d) (dh_bl 213) Q 5 ls st h = dh_wpB dh_sh (dh_wpM d) (dh_wp dh_sh (dh_wpM d) (dh_bl 213) Q) Q bk213_5 ls st h := dh_wp_eq (dh_wpM_mono d) rfl
theorem u213_6 : dh_wp dh_sh (dh_wpM d) (dh_bl 213) Q 6 ls st h = dh_wpB dh_sh (dh_wpM d) (dh_wp dh_sh (dh_wpM d) (dh_bl 213) Q) Q bk213_6 ls st h := dh_wp_eq (dh_wpM_mono d) rfl
theorem u213_7 : dh_wp dh_sh (dh_wpM d) (dh_bl 213) Q 7 ls st h = dh_wpB dh_sh (dh_wpM d) (dh_wp dh_sh (dh_wpM d) (dh_bl 213) Q) Q bk213_7 ls st h := dh_wp_eq (dh_wpM_mono d) rfl
theorem u213_8 : dh_wp dh_sh (dh_wpM d) (dh_bl 213) Q 8 ls st h = dh_wpB dh_sh (dh_wpM d) (dh_wp dh_sh (dh_wpM d) (dh_bl 213) Q) Q bk213_8 ls st h := dh_wp_eq (dh_wpM_mono d) rfl
theorem u213_9 : dh_wp dh_sh (dh_wpM d) (dh_bl 213) Q 9 ls st h = dh_wpB dh_sh (dh_wpM d) (dh_wp dh_sh (dh_wpM d) (dh_bl 213) Q) Q bk213_9 ls st h := dh_wp_eq (dh_wpM_mono d) rfl
theorem u213_10 : dh_wp dh_sh (dh_wpM d) (dh_bl 213) Q 10 ls st h = dh_wpB dh_sh (dh_wpM d) (dh_wp dh_sh (dh_wpM d) (dh_bl 213) Q) Q bk213_10 ls st h := dh_wp_eq (dh_wpM_mono d) rfl
theorem u213_11 : dh_wp dh_sh (dh_wpM d) (dh_bl 213) Q 11 ls st h = dh_wpB dh_sh (dh_wpM d) (dh_wp dh_sh (dh_wpM d) (dh_bl 213) Q) Q bk213_11 ls st h := dh_wp_eq (dh_wpM_mono d) rfl
theorem u213_12 : dh_wp dh_sh (dh_wpM d) (dh_bl 213) Q 12 ls st h = dh_wpB dh_sh (dh_wpM d) (dh_wp dh_sh (dh_wpM d) (dh_bl 213) Q) Q bk213_12 ls st h := dh_wp_eq (dh_wpM_mono d) rfl
theorem u213_13 : dh_wp dh_sh (dh_wpM d) (dh_bl 213) Q 13 ls st h = dh_wpB dh_sh (dh_wpM d) (dh_wp dh_sh (dh_wpM d) (dh_bl 213) Q) Q bk213_13 ls st h := dh_wp_eq (dh_wpM_mono d) rfl
/-- DoubleHeapModel.growing(IIIII)I -/
theorem m213 {p0 : Nat} {x1 : Int} {x2 : Int} {x3 : Int} {x4 : Int} {x5 : Int} : dh_wpM (d + 1) 213 [.inr (.inr (some p0)), .inl x1, .inl x2, .inl x3, .inl x4, .inl x5] h Q = dh_wp dh_sh (dh_wpM d) (dh_bl 213) Q 0 [some (.inr (.inr (some p0))), some (.inl x1), some (.inl x2), some (.inl x3), some (.inl x4), some (.inl x5), none, none, none] [] h := dh_mq (Nat.le_of_ble_eq_true rfl) rfl
theorem u214_0 : dh_wp dh_sh (dh_wpM d) (dh_bl 214) Q 0 ls st h = dh_wpB dh_sh (dh_wpM d) (dh_wp dh_sh (dh_wpM d) (dh_bl 214) Q) Q bk214_0 ls st h := dh_wp_eq (dh_wpM_mono d) rfl
theorem u214_1 : dh_wp dh_sh (dh_wpM d) (dh_bl 214) Q 1 ls st h = dh_wpB dh_sh (dh_wpM d) (dh_wp dh_sh (dh_wpM d) (dh_bl 214) Q) Q bk214_1 ls st h := dh_wp_eq (dh_wpM_mono d) rfl
theorem u214_2 : dh_wp dh_sh (dh_wpM d) (dh_bl 214) Q 2 ls st h = dh_wpB dh_sh (dh_wpM d) (dh_wp dh_sh (dh_wpM d) (dh_bl 214) Q) Q bk214_2 ls st h := dh_wp_eq (dh_wpM_mono d) rfl
theorem u214_3 : dh_wp dh_sh (dh_wpM d) (dh_bl 214) Q 3 ls st h = dh_wpB dh_sh (dh_wpM d) (dh_wp dh_sh (dh_wpM d) (dh_bl 214) Q) Q bk214_3 ls st h := dh_wp_eq (dh_wpM_mono d) rfl
/-- DoubleHeapModel.goodEach(I[ZII)I -/
theorem m214 {p0 : Nat} {x1 : Int} {x2 : Option Nat} {x3 : Int} {x4 : Int} : dh_wpM (d + 1) 214 [.inr (.inr (some p0)), .inl x1, .inr (.inr x2), .inl x3, .inl x4] h Q = dh_wp dh_sh (dh_wpM d) (dh_bl 214) Q 0 [some (.inr (.inr (some p0))), some (.inl x1), some (.inr (.inr x2)), some (.inl x3), some (.inl x4), none] [] h := dh_mq (Nat.le_of_ble_eq_true rfl) rfl
theorem u215_0 : dh_wp dh_sh (dh_wpM d) (dh_bl 215) Q 0 ls st h = dh_wpB dh_sh (dh_wpM d) (dh_wp dh_sh (dh_wpM d) (dh_bl 215) Q) Q bk215_0 ls st h := dh_wp_eq (dh_wpM_mono d) rfl
theorem u215_1 : dh_wp dh_sh (dh_wpM d) (dh_bl 215) Q 1 ls st h = dh_wpB dh_sh (dh_wpM d) (dh_wp dh_sh (dh_wpM d) (dh_bl 215) Q) Q bk215_1 ls st h := dh_wp_eq (dh_wpM_mono d) rfl
theorem u215_2 : dh_wp dh_sh (dh_wpM d) (dh_bl 215) Q 2 ls st h = dh_wpB dh_sh (dh_wpM d) (dh_wp dh_sh (dh_wpM d) (dh_bl 215) Q) Q bk215_2 ls st h := dh_wp_eq (dh_wpM_mono d) rfl
theorem u215_3 : dh_wp dh_sh (dh_wpM d) (dh_bl 215) Q 3 ls st h = dh_wpB dh_sh (dh_wpM d) (dh_wp dh_sh (dh_wpM d) (dh_bl 215) Q) Q bk215_3 ls st h := dh_wp_eq (dh_wpM_mono d) rfl
theorem u215_4 : dh_wp dh_sh (dh_wpM d) (dh_bl 215) Q 4 ls st h = dh_wpB dh_sh (dh_wpM d) (dh_wp dh_sh (dh_wpM d) (dh_bl 215) Q) Q bk215_4 ls st h := dh_wp_eq (dh_wpM_mono d) rfl
theorem u215_5 : dh_wp dh_sh (dh_wpM d) (dh_bl 215) Q 5 ls st h = dh_wpB dh_sh (dh_wpM d) (dh_wp dh_sh (dh_wpM d) (dh_bl 215) Q) Q bk215_5 ls st h := dh_wp_eq (dh_wpM_mono d) rfl
theorem u215_6 : dh_wp dh_sh (dh_wpM d) (dh_bl 215) Q 6 ls st h = dh_wpB dh_sh (dh_wpM d) (dh_wp dh_sh (dh_wpM d) (dh_bl 215) Q) Q bk215_6 ls st h := dh_wp_eq (dh_wpM_mono d) rfl
theorem u215_7 : dh_wp dh_sh (dh_wpM d) (dh_bl 215) Q 7 ls st h = dh_wpB dh_sh (dh_wpM d) (dh_wp dh_sh (dh_wpM d) (dh_bl 215) Q) Q bk215_7 ls st h := dh_wp_eq (dh_wpM_mono d) rfl
theorem u215_8 : dh_wp dh_sh (dh_wpM d) (dh_bl 215) Q 8 ls st h = dh_wpB dh_sh (dh_wpM d) (dh_wp dh_sh (dh_wpM d) (dh_bl 215) Q) Q bk215_8 ls st h := dh_wp_eq (dh_wpM_mono d) rfl
theorem u215_9 : dh_wp dh_sh (dh_wpM d) (dh_bl 215) Q 9 ls st h = dh_wpB dh_sh (dh_wpM d) (dh_wp dh_sh (dh_wpM d) (dh_bl 215) Q) Q bk215_9 ls st h := dh_wp_eq (dh_wpM_mono d) rfl
theorem u215_10 : dh_wp dh_sh (dh_wpM d) (dh_bl 215) Q 10 ls st h = dh_wpB dh_sh (dh_wpM d) (dh_wp dh_sh (dh_wpM d) (dh_bl 215) Q) Q bk215_10 ls st h := dh_wp_eq (dh_wpM_mono d) rfl
theorem u215_11 : dh_wp dh_sh (dh_wpM d) (dh_bl 215) Q 11 ls st h = dh_wpB dh_sh (dh_wpM d) (dh_wp dh_sh (dh_wpM d) (dh_bl 215) Q) Q bk215_11 ls st h := dh_wp_eq (dh_wpM_mono d) rfl
theorem u215_12 : dh_wp dh_sh (dh_wpM d) (dh_bl 215) Q 12 ls st h = dh_wpB dh_sh (dh_wpM d) (dh_wp dh_sh (dh_wpM d) (dh_bl 215) Q) Q bk215_12 ls st h := dh_wp_eq (dh_wpM_mono d) rfl
theorem u215_13 : dh_wp dh_sh (dh_wpM d) (dh_bl 215) Q 13 ls st h = dh_wpB dh_sh (dh_wpM d) (dh_wp dh_sh (dh_wpM d) (dh_bl 215) Q) Q bk215_13 ls st h := dh_wp_eq (dh_wpM_mono d) rfl
/-- DoubleHeapModel.each(IIIII)I -/
theorem m215 {p0 : Nat} {x1 : Int} {x2 : Int} {x3 : Int} {x4 : Int} {x5 : Int} : dh_wpM (d + 1) 215 [.inr (.inr (some p0)), .inl x1, .inl x2, .inl x3, .inl x4, .inl x5] h Q = dh_wp dh_sh (dh_wpM d) (dh_bl 215) Q 0 [some (.inr (.inr (some p0))), some (.inl x1), some (.inl x2), some (.inl x3), some (.inl x4), some (.inl x5), none, none] [] h := dh_mq (Nat.le_of_ble_eq_true rfl) rfl
theorem u216_0 : dh_wp dh_sh (dh_wpM d) (dh_bl 216) Q 0 ls st h = dh_wpB dh_sh (dh_wpM d) (dh_wp dh_sh (dh_wpM d) (dh_bl 216) Q) Q bk216_0 ls st h := dh_wp_eq (dh_wpM_mono d) rfl
theorem u216_1 : dh_wp dh_sh (dh_wpM d) (dh_bl 216) Q 1 ls st h = dh_wpB dh_sh (dh_wpM d) (dh_wp dh_sh (dh_wpM d) (dh_bl 216) Q) Q bk216_1 ls st h := dh_wp_eq (dh_wpM_mono d) rfl
theorem u216_2 : dh_wp dh_sh (dh_wpM d) (dh_bl 216) Q 2 ls st h = dh_wpB dh_sh (dh_wpM d) (dh_wp dh_sh (dh_wpM d) (dh_bl 216) Q) Q bk216_2 ls st h := dh_wp_eq (dh_wpM_mono d) rfl
theorem u216_3 : dh_wp dh_sh (dh_wpM d) (dh_bl 216) Q 3 ls st h = dh_wpB dh_sh (dh_wpM d) (dh_wp dh_sh (dh_wpM d) (dh_bl 216) Q) Q bk216_3 ls st h := dh_wp_eq (dh_wpM_mono d) rfl
theorem u216_4 : dh_wp dh_sh (dh_wpM d) (dh_bl 216) Q 4 ls st h = dh_wpB dh_sh (dh_wpM d) (dh_wp dh_sh (dh_wpM d) (dh_bl 216) Q) Q bk216_4 ls st h := dh_wp_eq (dh_wpM_mono d) rfl
/-- DoubleHeapModel.winsByOnes(III)Z -/
theorem m216 {p0 : Nat} {x1 : Int} {x2 : Int} {x3 : Int} : dh_wpM (d + 1) 216 [.inr (.inr (some p0)), .inl x1, .inl x2, .inl x3] h Q = dh_wp dh_sh (dh_wpM d) (dh_bl 216) Q 0 [some (.inr (.inr (some p0))), some (.inl x1), some (.inl x2), some (.inl x3), none, none, none] [] h := dh_mq (Nat.le_of_ble_eq_true rfl) rfl
theorem u217_0 : dh_wp dh_sh (dh_wpM d) (dh_bl 217) Q 0 ls st h = dh_wpB dh_sh (dh_wpM d) (dh_wp dh_sh (dh_wpM d) (dh_bl 217) Q) Q bk217_0 ls st h := dh_wp_eq (dh_wpM_mono d) rfl
theorem u217_1 : dh_wp dh_sh (dh_wpM d) (dh_bl 217) Q 1 ls st h = dh_wpB dh_sh (dh_wpM d) (dh_wp dh_sh (dh_wpM d) (dh_bl 217) Q) Q bk217_1 ls st h := dh_wp_eq (dh_wpM_mono d) rfl
theorem u217_2 : dh_wp dh_sh (dh_wpM d) (dh_bl 217) Q 2 ls st h = dh_wpB dh_sh (dh_wpM d) (dh_wp dh_sh (dh_wpM d) (dh_bl 217) Q) Q bk217_2 ls st h := dh_wp_eq (dh_wpM_mono d) rfl
theorem u217_3 : dh_wp dh_sh (dh_wpM d) (dh_bl 217) Q 3 ls st h = dh_wpB dh_sh (dh_wpM d) (dh_wp dh_sh (dh_wpM d) (dh_bl 217) Q) Q bk217_3 ls st h := dh_wp_eq (dh_wpM_mono d) rfl
theorem u217_4 : dh_wp dh_sh (dh_wpM d) (dh_bl 217) Q 4 ls st h = dh_wpB dh_sh (dh_wpM d) (dh_wp dh_sh (dh_wpM d) (dh_bl 217) Q) Q bk217_4 ls st h := dh_wp_eq (dh_wpM_mono d) rfl
theorem u217_5 : dh_wp dh_sh (dh_wpM d) (dh_bl 217) Q 5 ls st h = dh_wpB dh_sh (dh_wpM d) (dh_wp dh_sh (dh_wpM d) (dh_bl 217) Q) Q bk217_5 ls st h := dh_wp_eq (dh_wpM_mono d) rfl
theorem u217_6 : dh_wp dh_sh (dh_wpM d) (dh_bl 217) Q 6 ls st h = dh_wpB dh_sh (dh_wpM d) (dh_wp dh_sh (dh_wpM d) (dh_bl 217) Q) Q bk217_6 ls st h := dh_wp_eq (dh_wpM_mono d) rfl
theorem u217_7 : dh_wp dh_sh (dh_wpM d) (dh_bl 217) Q 7 ls st h = dh_wpB dh_sh (dh_wpM d) (dh_wp dh_sh (dh_wpM d) (dh_bl 217) Q) Q bk217_7 ls st h := dh_wp_eq (dh_wpM_mono d) rfl
theorem u217_8 : dh_wp dh_sh (dh_wpM d) (dh_bl 217) Q 8 ls st h = dh_wpB dh_sh (dh_wpM d) (dh_wp dh_sh (dh_wpM d) (dh_bl 217) Q) Q bk217_8 ls st h := dh_wp_eq (dh_wpM_mono d) rfl
/-- DoubleHeapModel.ones(III)I -/
theorem m217 {p0 : Nat} {x1 : Int} {x2 : Int} {x3 : Int} : dh_wpM (d + 1) 217 [.inr (.inr (some p0)), .inl x1, .inl x2, .inl x3] h Q = dh_wp dh_sh (dh_wpM d) (dh_bl 217) Q 0 [some (.inr (.inr (some p0))), some (.inl x1), some (.inl x2), some (.inl x3), none, none] [] h := dh_mq (Nat.le_of_ble_eq_true rfl) rfl
theorem u218_0 : dh_wp dh_sh (dh_wpM d) (dh_bl 218) Q 0 ls st h = dh_wpB dh_sh (dh_wpM d) (dh_wp dh_sh (dh_wpM d) (dh_bl 218) Q) Q bk218_0 ls st h := dh_wp_eq (dh_wpM_mono d) rfl
theorem u218_1 : dh_wp dh_sh (dh_wpM d) (dh_bl 218) Q 1 ls st h = dh_wpB dh_sh (dh_wpM d) (dh_wp dh_sh (dh_wpM d) (dh_bl 218) Q) Q bk218_1 ls st h := dh_wp_eq (dh_wpM_mono d) rfl
theorem u218_2 : dh_wp dh_sh (dh_wpM d) (dh_bl 218) Q 2 ls st h = dh_wpB dh_sh (dh_wpM d) (dh_wp dh_sh (dh_wpM d) (dh_bl 218) Q) Q bk218_2 ls st h := dh_wp_eq (dh_wpM_mono d) rfl
theorem u218_3 : dh_wp dh_sh (dh_wpM d) (dh_bl 218) Q 3 ls st h = dh_wpB dh_sh (dh_wpM d) (dh_wp dh_sh (dh_wpM d) (dh_bl 218) Q) Q bk218_3 ls st h := dh_wp_eq (dh_wpM_mono d) rfl
/-- DoubleHeapModel.takesPassing(IIIII)Z -/
theorem m218 {p0 : Nat} {x1 : Int} {x2 : Int} {x3 : Int} {x4 : Int} {x5 : Int} : dh_wpM (d + 1) 218 [.inr (.inr (some p0)), .inl x1, .inl x2, .inl x3, .inl x4, .inl x5] h Q = dh_wp dh_sh (dh_wpM d) (dh_bl 218) Q 0 [some (.inr (.inr (some p0))), some (.inl x1), some (.inl x2), some (.inl x3), some (.inl x4), some (.inl x5), none] [] h := dh_mq (Nat.le_of_ble_eq_true rfl) rfl
theorem u219_0 : dh_wp dh_sh (dh_wpM d) (dh_bl 219) Q 0 ls st h = dh_wpB dh_sh (dh_wpM d) (dh_wp dh_sh (dh_wpM d) (dh_bl 219) Q) Q bk219_0 ls st h := dh_wp_eq (dh_wpM_mono d) rfl
theorem u219_1 : dh_wp dh_sh (dh_wpM d) (dh_bl 219) Q 1 ls st h = dh_wpB dh_sh (dh_wpM d) (dh_wp dh_sh (dh_wpM d) (dh_bl 219) Q) Q bk219_1 ls st h := dh_wp_eq (dh_wpM_mono d) rfl
theorem u219_2 : dh_wp dh_sh (dh_wpM d) (dh_bl 219) Q 2 ls st h = dh_wpB dh_sh (dh_wpM d) (dh_wp dh_sh (dh_wpM d) (dh_bl 219) Q) Q bk219_2 ls st h := dh_wp_eq (dh_wpM_mono d) rfl
/-- DoubleHeapModel.passesWell(IIII)Z -/
theorem m219 {p0 : Nat} {x1 : Int} {x2 : Int} {x3 : Int} {x4 : Int} : dh_wpM (d + 1) 219 [.inr (.inr (some p0)), .inl x1, .inl x2, .inl x3, .inl x4] h Q = dh_wp dh_sh (dh_wpM d) (dh_bl 219) Q 0 [some (.inr (.inr (some p0))), some (.inl x1), some (.inl x2), some (.inl x3), some (.inl x4)] [] h := dh_mq (Nat.le_of_ble_eq_true rfl) rfl
theorem u220_0 : dh_wp dh_sh (dh_wpM d) (dh_bl 220) Q 0 ls st h = dh_wpB dh_sh (dh_wpM d) (dh_wp dh_sh (dh_wpM d) (dh_bl 220) Q) Q bk220_0 ls st h := dh_wp_eq (dh_wpM_mono d) rfl
theorem u220_1 : dh_wp dh_sh (dh_wpM d) (dh_bl 220) Q 1 ls st h = dh_wpB dh_sh (dh_wpM d) (dh_wp dh_sh (dh_wpM d) (dh_bl 220) Q) Q bk220_1 ls st h := dh_wp_eq (dh_wpM_mono d) rfl
theorem u220_2 : dh_wp dh_sh (dh_wpM d) (dh_bl 220) Q 2 ls st h = dh_wpB dh_sh (dh_wpM d) (dh_wp dh_sh (dh_wpM d) (dh_bl 220) Q) Q bk220_2 ls st h := dh_wp_eq (dh_wpM_mono d) rfl
theorem u220_3 : dh_wp dh_sh (dh_wpM d) (dh_bl 220) Q 3 ls st h = dh_wpB dh_sh (dh_wpM d) (dh_wp dh_sh (dh_wpM d) (dh_bl 220) Q) Q bk220_3 ls st h := dh_wp_eq (dh_wpM_mono d) rfl
theorem u220_4 : dh_wp dh_sh (dh_wpM d) (dh_bl 220) Q 4 ls st h = dh_wpB dh_sh (dh_wpM d) (dh_wp dh_sh (dh_wpM d) (dh_bl 220) Q) Q bk220_4 ls st h := dh_wp_eq (dh_wpM_mono d) rfl
theorem u220_5 : dh_wp dh_sh (dh_wpM d) (dh_bl 220) Q 5 ls st h = dh_wpB dh_sh (dh_wpM d) (dh_wp dh_sh (dh_wpM d) (dh_bl 220) Q) Q bk220_5 ls st h := dh_wp_eq (dh_wpM_mono d) rfl
theorem u220_6 : dh_wp dh_sh (dh_wpM d) (dh_bl 220) Q 6 ls st h = dh_wpB dh_sh (dh_wpM d) (dh_wp dh_sh (dh_wpM d) (dh_bl 220) Q) Q bk220_6 ls st h := dh_wp_eq (dh_wpM_mono d) rfl
theorem u220_7 : dh_wp dh_sh (dh_wpM d) (dh_bl 220) Q 7 ls st h = dh_wpB dh_sh (dh_wpM d) (dh_wp dh_sh (dh_wpM d) (dh_bl 220) Q) Q bk220_7 ls st h := dh_wp_eq (dh_wpM_mono d) rfl
theorem u220_8 : dh_wp dh_sh (dh_wpM d) (dh_bl 220) Q 8 ls st h = dh_wpB dh_sh (dh_wpM d) (dh_wp dh_sh (dh_wpM d) (dh_bl 220) Q) Q bk220_8 ls st h := dh_wp_eq (dh_wpM_mono d) rfl
theorem u220_9 : dh_wp dh_sh (dh_wpM d) (dh_bl 220) Q 9 ls st h = dh_wpB dh_sh (dh_wpM d) (dh_wp dh_sh (dh_wpM d) (dh_bl 220) Q) Q bk220_9 ls st h := dh_wp_eq (dh_wpM_mono d) rfl
theorem u220_10 : dh_wp dh_sh (dh_wpM d) (dh_bl 220) Q 10 ls st h = dh_wpB dh_sh (dh_wpM d) (dh_wp dh_sh (dh_wpM d) (dh_bl 220) Q) Q bk220_10 ls st h := dh_wp_eq (dh_wpM_mono d) rfl
theorem u220_11 : dh_wp dh_sh (dh_wpM d) (dh_bl 220) Q 11 ls st h = dh_wpB dh_sh (dh_wpM d) (dh_wp dh_sh (dh_wpM d) (dh_bl 220) Q) Q bk220_11 ls st h := dh_wp_eq (dh_wpM_mono d) rfl
theorem u220_12 : dh_wp dh_sh (dh_wpM d) (dh_bl 220) Q 12 ls st h = dh_wpB dh_sh (dh_wpM d) (dh_wp dh_sh (dh_wpM d) (dh_bl 220) Q) Q bk220_12 ls st h := dh_wp_eq (dh_wpM_mono d) rfl
theorem u220_13 : dh_wp dh_sh (dh_wpM d) (dh_bl 220) Q 13 ls st h = dh_wpB dh_sh (dh_wpM d) (dh_wp dh_sh (dh_wpM d) (dh_bl 220) Q) Q bk220_13 ls st h := dh_wp_eq (dh_wpM_mono d) rfl
theorem u220_14 : dh_wp dh_sh (dh_wpM d) (dh_bl 220) Q 14 ls st h = dh_wpB dh_sh (dh_wpM d) (dh_wp dh_sh (dh_wpM d) (dh_bl 220) Q) Q bk220_14 ls st h := dh_wp_eq (dh_wpM_mono d) rfl
theorem u220_15 : dh_wp dh_sh (dh_wpM d) (dh_bl 220) Q 15 ls st h = dh_wpB dh_sh (dh_wpM d) (dh_wp dh_sh (dh_wpM d) (dh_bl 220) Q) Q bk220_15 ls st h := dh_wp_eq (dh_wpM_mono d) rfl
theorem u220_16 : dh_wp dh_sh (dh_wpM d) (dh_bl 220) Q 16 ls st h = dh_wpB dh_sh (dh_wpM d) (dh_wp dh_sh (dh_wpM d) (dh_bl 220) Q) Q bk220_16 ls st h := dh_wp_eq (dh_wpM_mono d) rfl
theorem u220_17 : dh_wp dh_sh (dh_wpM d) (dh_bl 220) Q 17 ls st h = dh_wpB dh_sh (dh_wpM d) (dh_wp dh_sh (dh_wpM d) (dh_bl 220) Q) Q bk220_17 ls st h := dh_wp_eq (dh_wpM_mono d) rfl
/-- DoubleHeapModel.passes(IIIIII)I -/
theorem m220 {p0 : Nat} {x1 : Int} {x2 : Int} {x3 : Int} {x4 : Int} {x5 : Int} {x6 : Int} : dh_wpM (d + 1) 220 [.inr (.inr (some p0)), .inl x1, .inl x2, .inl x3, .inl x4, .inl x5, .inl x6] h Q = dh_wp dh_sh (dh_wpM d) (dh_bl 220) Q 0 [some (.inr (.inr (some p0))), some (.inl x1), some (.inl x2), some (.inl x3), some (.inl x4), some (.inl x5), some (.inl x6), none, none] [] h := dh_mq (Nat.le_of_ble_eq_true rfl) rfl
theorem u221_0 : dh_wp dh_sh (dh_wpM d) (dh_bl 221) Q 0 ls st h = dh_wpB dh_sh (dh_wpM d) (dh_wp dh_sh (dh_wpM d) (dh_bl 221) Q) Q bk221_0 ls st h := dh_wp_eq (dh_wpM_mono d) rfl
theorem u221_1 : dh_wp dh_sh (dh_wpM d) (dh_bl 221) Q 1 ls st h = dh_wpB dh_sh (dh_wpM d) (dh_wp dh_sh (dh_wpM d) (dh_bl 221) Q) Q bk221_1 ls st h := dh_wp_eq (dh_wpM_mono d) rfl
theorem u221_2 : dh_wp dh_sh (dh_wpM d) (dh_bl 221) Q 2 ls st h = dh_wpB dh_sh (dh_wpM d) (dh_wp dh_sh (dh_wpM d) (dh_bl 221) Q) Q bk221_2 ls st h := dh_wp_eq (dh_wpM_mono d) rfl
theorem u221_3 : dh_wp dh_sh (dh_wpM d) (dh_bl 221) Q 3 ls st h = dh_wpB dh_sh (dh_wpM d) (dh_wp dh_sh (dh_wpM d) (dh_bl 221) Q) Q bk221_3 ls st h := dh_wp_eq (dh_wpM_mono d) rfl
theorem u221_4 : dh_wp dh_sh (dh_wpM d) (dh_bl 221) Q 4 ls st h = dh_wpB dh_sh (dh_wpM d) (dh_wp dh_sh (dh_wpM d) (dh_bl 221) Q) Q bk221_4 ls st h := dh_wp_eq (dh_wpM_mono d) rfl
theorem u221_5 : dh_wp dh_sh (dh_wpM d) (dh_bl 221) Q 5 ls st h = dh_wpB dh_sh (dh_wpM d) (dh_wp dh_sh (dh_wpM d) (dh_bl 221) Q) Q bk221_5 ls st h := dh_wp_eq (dh_wpM_mono d) rfl
theorem u221_6 : dh_wp dh_sh (dh_wpM d) (dh_bl 221) Q 6 ls st h = dh_wpB dh_sh (dh_wpM d) (dh_wp dh_sh (dh_wpM d) (dh_bl 221) Q) Q bk221_6 ls st h := dh_wp_eq (dh_wpM_mono d) rfl
/-- DoubleHeapModel.laysHope(III)V -/
theorem m221 {p0 : Nat} {x1 : Int} {x2 : Int} {x3 : Int} : dh_wpM (d + 1) 221 [.inr (.inr (some p0)), .inl x1, .inl x2, .inl x3] h Q = dh_wp dh_sh (dh_wpM d) (dh_bl 221) Q 0 [some (.inr (.inr (some p0))), some (.inl x1), some (.inl x2), some (.inl x3), none, none, none, none, none] [] h := dh_mq (Nat.le_of_ble_eq_true rfl) rfl
theorem u222_0 : dh_wp dh_sh (dh_wpM d) (dh_bl 222) Q 0 ls st h = dh_wpB dh_sh (dh_wpM d) (dh_wp dh_sh (dh_wpM d) (dh_bl 222) Q) Q bk222_0 ls st h := dh_wp_eq (dh_wpM_mono d) rfl
theorem u222_1 : dh_wp dh_sh (dh_wpM d) (dh_bl 222) Q 1 ls st h = dh_wpB dh_sh (dh_wpM d) (dh_wp dh_sh (dh_wpM d) (dh_bl 222) Q) Q bk222_1 ls st h := dh_wp_eq (dh_wpM_mono d) rfl
theorem u222_2 : dh_wp dh_sh (dh_wpM d) (dh_bl 222) Q 2 ls st h = dh_wpB dh_sh (dh_wpM d) (dh_wp dh_sh (dh_wpM d) (dh_bl 222) Q) Q bk222_2 ls st h := dh_wp_eq (dh_wpM_mono d) rfl
theorem u222_3 : dh_wp dh_sh (dh_wpM d) (dh_bl 222) Q 3 ls st h = dh_wpB dh_sh (dh_wpM d) (dh_wp dh_sh (dh_wpM d) (dh_bl 222) Q) Q bk222_3 ls st h := dh_wp_eq (dh_wpM_mono d) rfl
theorem u222_4 : dh_wp dh_sh (dh_wpM d) (dh_bl 222) Q 4 ls st h = dh_wpB dh_sh (dh_wpM d) (dh_wp dh_sh (dh_wpM d) (dh_bl 222) Q) Q bk222_4 ls st h := dh_wp_eq (dh_wpM_mono d) rfl
theorem u222_5 : dh_wp dh_sh (dh_wpM d) (dh_bl 222) Q 5 ls st h = dh_wpB dh_sh (dh_wpM d) (dh_wp dh_sh (dh_wpM d) (dh_bl 222) Q) Q bk222_5 ls st h := dh_wp_eq (dh_wpM_mono d) rfl
theorem u222_6 : dh_wp dh_sh (dh_wpM d) (dh_bl 222) Q 6 ls st h = dh_wpB dh_sh (dh_wpM d) (dh_wp dh_sh (dh_wpM d) (dh_bl 222) Q) Q bk222_6 ls st h := dh_wp_eq (dh_wpM_mono d) rfl
theorem u222_7 : dh_wp dh_sh (dh_wpM d) (dh_bl 222) Q 7 ls st h = dh_wpB dh_sh (dh_wpM d) (dh_wp dh_sh (dh_wpM d) (dh_bl 222) Q) Q bk222_7 ls st h := dh_wp_eq (dh_wpM_mono d) rfl
theorem u222_8 : dh_wp dh_sh (dh_wpM d) (dh_bl 222) Q 8 ls st h = dh_wpB dh_sh (dh_wpM d) (dh_wp dh_sh (dh_wpM d) (dh_bl 222) Q) Q bk222_8 ls st h := dh_wp_eq (dh_wpM_mono d) rfl
theorem u222_9 : dh_wp dh_sh (dh_wpM d) (dh_bl 222) Q 9 ls st h = dh_wpB dh_sh (dh_wpM d) (dh_wp dh_sh (dh_wpM d) (dh_bl 222) Q) Q bk222_9 ls st h := dh_wp_eq (dh_wpM_mono d) rfl
theorem u222_10 : dh_wp dh_sh (dh_wpM d) (dh_bl 222) Q 10 ls st h = dh_wpB dh_sh (dh_wpM d) (dh_wp dh_sh (dh_wpM d) (dh_bl 222) Q) Q bk222_10 ls st h := dh_wp_eq (dh_wpM_mono d) rfl
theorem u222_11 : dh_wp dh_sh (dh_wpM d) (dh_bl 222) Q 11 ls st h = dh_wpB dh_sh (dh_wpM d) (dh_wp dh_sh (dh_wpM d) (dh_bl 222) Q) Q bk222_11 ls st h := dh_wp_eq (dh_wpM_mono d) rfl
theorem u222_12 : dh_wp dh_sh (dh_wpM d) (dh_bl 222) Q 12 ls st h = dh_wpB dh_sh (dh_wpM d) (dh_wp dh_sh (dh_wpM d) (dh_bl 222) Q) Q bk222_12 ls st h := dh_wp_eq (dh_wpM_mono d) rfl
/-- DoubleHeapModel.hope(IIIII)I -/
theorem m222 {p0 : Nat} {x1 : Int} {x2 : Int} {x3 : Int} {x4 : Int} {x5 : Int} : dh_wpM (d + 1) 222 [.inr (.inr (some p0)), .inl x1, .inl x2, .inl x3, .inl x4, .inl x5] h Q = dh_wp dh_sh (dh_wpM d) (dh_bl 222) Q 0 [some (.inr (.inr (some p0))), some (.inl x1), some (.inl x2), some (.inl x3), some (.inl x4), some (.inl x5), none, none] [] h := dh_mq (Nat.le_of_ble_eq_true rfl) rfl
theorem u223_0 : dh_wp dh_sh (dh_wpM d) (dh_bl 223) Q 0 ls st h = dh_wpB dh_sh (dh_wpM d) (dh_wp dh_sh (dh_wpM d) (dh_bl 223) Q) Q bk223_0 ls st h := dh_wp_eq (dh_wpM_mono d) rfl
theorem u223_1 : dh_wp dh_sh (dh_wpM d) (dh_bl 223) Q 1 ls st h = dh_wpB dh_sh (dh_wpM d) (dh_wp dh_sh (dh_wpM d) (dh_bl 223) Q) Q bk223_1 ls st h := dh_wp_eq (dh_wpM_mono d) rfl
theorem u223_2 : dh_wp dh_sh (dh_wpM d) (dh_bl 223) Q 2 ls st h = dh_wpB dh_sh (dh_wpM d) (dh_wp dh_sh (dh_wpM d) (dh_bl 223) Q) Q bk223_2 ls st h := dh_wp_eq (dh_wpM_mono d) rfl
/-- DoubleHeapModel.fromPlace(I)I -/
theorem m223 {p0 : Nat} {x1 : Int} : dh_wpM (d + 1) 223 [.inr (.inr (some p0)), .inl x1] h Q = dh_wp dh_sh (dh_wpM d) (dh_bl 223) Q 0 [some (.inr (.inr (some p0))), some (.inl x1), none] [] h := dh_mq (Nat.le_of_ble_eq_true rfl) rfl
theorem u224_0 : dh_wp dh_sh (dh_wpM d) (dh_bl 224) Q 0 ls st h = dh_wpB dh_sh (dh_wpM d) (dh_wp dh_sh (dh_wpM d) (dh_bl 224) Q) Q bk224_0 ls st h := dh_wp_eq (dh_wpM_mono d) rfl
theorem u224_1 : dh_wp dh_sh (dh_wpM d) (dh_bl 224) Q 1 ls st h = dh_wpB dh_sh (dh_wpM d) (dh_wp dh_sh (dh_wpM d) (dh_bl 224) Q) Q bk224_1 ls st h := dh_wp_eq (dh_wpM_mono d) rfl
theorem u224_2 : dh_wp dh_sh (dh_wpM d) (dh_bl 224) Q 2 ls st h = dh_wpB dh_sh (dh_wpM d) (dh_wp dh_sh (dh_wpM d) (dh_bl 224) Q) Q bk224_2 ls st h := dh_wp_eq (dh_wpM_mono d) rfl
theorem u224_3 : dh_wp dh_sh (dh_wpM d) (dh_bl 224) Q 3 ls st h = dh_wpB dh_sh (dh_wpM d) (dh_wp dh_sh (dh_wpM d) (dh_bl 224) Q) Q bk224_3 ls st h := dh_wp_eq (dh_wpM_mono d) rfl
theorem u224_4 : dh_wp dh_sh (dh_wpM d) (dh_bl 224) Q 4 ls st h = dh_wpB dh_sh (dh_wpM d) (dh_wp dh_sh (dh_wpM d) (dh_bl 224) Q) Q bk224_4 ls st h := dh_wp_eq (dh_wpM_mono d) rfl
theorem u224_5 : dh_wp dh_sh (dh_wpM d) (dh_bl 224) Q 5 ls st h = dh_wpB dh_sh (dh_wpM d) (dh_wp dh_sh (dh_wpM d) (dh_bl 224) Q) Q bk224_5 ls st h := dh_wp_eq (dh_wpM_mono d) rfl
theorem u224_6 : dh_wp dh_sh (dh_wpM d) (dh_bl 224) Q 6 ls st h = dh_wpB dh_sh (dh_wpM d) (dh_wp dh_sh (dh_wpM d) (dh_bl 224) Q) Q bk224_6 ls st h := dh_wp_eq (dh_wpM_mono d) rfl
theorem u224_7 : dh_wp dh_sh (dh_wpM d) (dh_bl 224) Q 7 ls st h = dh_wpB dh_sh (dh_wpM d) (dh_wp dh_sh (dh_wpM d) (dh_bl 224) Q) Q bk224_7 ls st h := dh_wp_eq (dh_wpM_mono d) rfl
theorem u224_8 : dh_wp dh_sh (dh_wpM d) (dh_bl 224) Q 8 ls st h = dh_wpB dh_sh (dh_wpM d) (dh_wp dh_sh (dh_wpM d) (dh_bl 224) Q) Q bk224_8 ls st h := dh_wp_eq (dh_wpM_mono d) rfl
/-- DoubleHeapModel.pattern(II)I -/
theorem m224 {p0 : Nat} {x1 : Int} {x2 : Int} : dh_wpM (d + 1) 224 [.inr (.inr (some p0)), .inl x1, .inl x2] h Q = dh_wp dh_sh (dh_wpM d) (dh_bl 224) Q 0 [some (.inr (.inr (some p0))), some (.inl x1), some (.inl x2), none] [] h := dh_mq (Nat.le_of_ble_eq_true rfl) rfl
theorem u225_0 : dh_wp dh_sh (dh_wpM d) (dh_bl 225) Q 0 ls st h = dh_wpB dh_sh (dh_wpM d) (dh_wp dh_sh (dh_wpM d) (dh_bl 225) Q) Q bk225_0 ls st h := dh_wp_eq (dh_wpM_mono d) rfl
theorem u225_1 : dh_wp dh_sh (dh_wpM d) (dh_bl 225) Q 1 ls st h = dh_wpB dh_sh (dh_wpM d) (dh_wp dh_sh (dh_wpM d) (dh_bl 225) Q) Q bk225_1 ls st h := dh_wp_eq (dh_wpM_mono d) rfl
theorem u225_2 : dh_wp dh_sh (dh_wpM d) (dh_bl 225) Q 2 ls st h = dh_wpB dh_sh (dh_wpM d) (dh_wp dh_sh (dh_wpM d) (dh_bl 225) Q) Q bk225_2 ls st h := dh_wp_eq (dh_wpM_mono d) rfl
theorem u225_3 : dh_wp dh_sh (dh_wpM d) (dh_bl 225) Q 3 ls st h = dh_wpB dh_sh (dh_wpM d) (dh_wp dh_sh (dh_wpM d) (dh_bl 225) Q) Q bk225_3 ls st h := dh_wp_eq (dh_wpM_mono d) rfl
theorem u225_4 : dh_wp dh_sh (dh_wpM d) (dh_bl 225) Q 4 ls st h = dh_wpB dh_sh (dh_wpM d) (dh_wp dh_sh (dh_wpM d) (dh_bl 225) Q) Q bk225_4 ls st h := dh_wp_eq (dh_wpM_mono d) rfl
theorem u225_5 : dh_wp dh_sh (dh_wpM d) (dh_bl 225) Q 5 ls st h = dh_wpB dh_sh (dh_wpM d) (dh_wp dh_sh (dh_wpM d) (dh_bl 225) Q) Q bk225_5 ls st h := dh_wp_eq (dh_wpM_mono d) rfl
/-- DoubleHeapModel.isWonSimple(IIII)Z -/
theorem m225 {p0 : Nat} {x1 : Int} {x2 : Int} {x3 : Int} {x4 : Int} : dh_wpM (d + 1) 225 [.inr (.inr (some p0)), .inl x1, .inl x2, .inl x3, .inl x4] h Q = dh_wp dh_sh (dh_wpM d) (dh_bl 225) Q 0 [some (.inr (.inr (some p0))), some (.inl x1), some (.inl x2), some (.inl x3), some (.inl x4), none, none] [] h := dh_mq (Nat.le_of_ble_eq_true rfl) rfl
theorem u226_0 : dh_wp dh_sh (dh_wpM d) (dh_bl 226) Q 0 ls st h = dh_wpB dh_sh (dh_wpM d) (dh_wp dh_sh (dh_wpM d) (dh_bl 226) Q) Q bk226_0 ls st h := dh_wp_eq (dh_wpM_mono d) rfl
theorem u226_1 : dh_wp dh_sh (dh_wpM d) (dh_bl 226) Q 1 ls st h = dh_wpB dh_sh (dh_wpM d) (dh_wp dh_sh (dh_wpM d) (dh_bl 226) Q) Q bk226_1 ls st h := dh_wp_eq (dh_wpM_mono d) rfl
theorem u226_2 : dh_wp dh_sh (dh_wpM d) (dh_bl 226) Q 2 ls st h = dh_wpB dh_sh (dh_wpM d) (dh_wp dh_sh (dh_wpM d) (dh_bl 226) Q) Q bk226_2 ls st h := dh_wp_eq (dh_wpM_mono d) rfl
theorem u226_3 : dh_wp dh_sh (dh_wpM d) (dh_bl 226) Q 3 ls st h = dh_wpB dh_sh (dh_wpM d) (dh_wp dh_sh (dh_wpM d) (dh_bl 226) Q) Q bk226_3 ls st h := dh_wp_eq (dh_wpM_mono d) rfl
theorem u226_4 : dh_wp dh_sh (dh_wpM d) (dh_bl 226) Q 4 ls st h = dh_wpB dh_sh (dh_wpM d) (dh_wp dh_sh (dh_wpM d) (dh_bl 226) Q) Q bk226_4 ls st h := dh_wp_eq (dh_wpM_mono d) rfl
theorem u226_5 : dh_wp dh_sh (dh_wpM d) (dh_bl 226) Q 5 ls st h = dh_wpB dh_sh (dh_wpM d) (dh_wp dh_sh (dh_wpM d) (dh_bl 226) Q) Q bk226_5 ls st h := dh_wp_eq (dh_wpM_mono d) rfl
theorem u226_6 : dh_wp dh_sh (dh_wpM d) (dh_bl 226) Q 6 ls st h = dh_wpB dh_sh (dh_wpM d) (dh_wp dh_sh (dh_wpM d) (dh_bl 226) Q) Q bk226_6 ls st h := dh_wp_eq (dh_wpM_mono d) rfl
theorem u226_7 : dh_wp dh_sh (dh_wpM d) (dh_bl 226) Q 7 ls st h = dh_wpB dh_sh (dh_wpM d) (dh_wp dh_sh (dh_wpM d) (dh_bl 226) Q) Q bk226_7 ls st h := dh_wp_eq (dh_wpM_mono d) rfl
/-- DoubleHeapModel.isSimple(III)Z -/
theorem m226 {p0 : Nat} {x1 : Int} {x2 : Int} {x3 : Int} : dh_wpM (d + 1) 226 [.inr (.inr (some p0)), .inl x1, .inl x2, .inl x3] h Q = dh_wp dh_sh (dh_wpM d) (dh_bl 226) Q 0 [some (.inr (.inr (some p0))), some (.inl x1), some (.inl x2), some (.inl x3), none, none] [] h := dh_mq (Nat.le_of_ble_eq_true rfl) rfl
theorem u227_0 : dh_wp dh_sh (dh_wpM d) (dh_bl 227) Q 0 ls st h = dh_wpB dh_sh (dh_wpM d) (dh_wp dh_sh (dh_wpM d) (dh_bl 227) Q) Q bk227_0 ls st h := dh_wp_eq (dh_wpM_mono d) rfl
theorem u227_1 : dh_wp dh_sh (dh_wpM d) (dh_bl 227) Q 1 ls st h = dh_wpB dh_sh (dh_wpM d) (dh_wp dh_sh (dh_wpM d) (dh_bl 227) Q) Q bk227_1 ls st h := dh_wp_eq (dh_wpM_mono d) rfl
theorem u227_2 : dh_wp dh_sh (dh_wpM d) (dh_bl 227) Q 2 ls st h = dh_wpB dh_sh (dh_wpM d) (dh_wp dh_sh (dh_wpM d) (dh_bl 227) Q) Q bk227_2 ls st h := dh_wp_eq (dh_wpM_mono d) rfl
theorem u227_3 : dh_wp dh_sh (dh_wpM d) (dh_bl 227) Q 3 ls st h = dh_wpB dh_sh (dh_wpM d) (dh_wp dh_sh (dh_wpM d) (dh_bl 227) Q) Q bk227_3 ls st h := dh_wp_eq (dh_wpM_mono d) rfl
theorem u227_4 : dh_wp dh_sh (dh_wpM d) (dh_bl 227) Q 4 ls st h = dh_wpB dh_sh (dh_wpM d) (dh_wp dh_sh (dh_wpM d) (dh_bl 227) Q) Q bk227_4 ls st h := dh_wp_eq (dh_wpM_mono d) rfl
theorem u227_5 : dh_wp dh_sh (dh_wpM d) (dh_bl 227) Q 5 ls st h = dh_wpB dh_sh (dh_wpM d) (dh_wp dh_sh (dh_wpM d) (dh_bl 227) Q) Q bk227_5 ls st h := dh_wp_eq (dh_wpM_mono d) rfl
theorem u227_6 : dh_wp dh_sh (dh_wpM d) (dh_bl 227) Q 6 ls st h = dh_wpB dh_sh (dh_wpM d) (dh_wp dh_sh (dh_wpM d) (dh_bl 227) Q) Q bk227_6 ls st h := dh_wp_eq (dh_wpM_mono d) rfl
theorem u227_7 : dh_wp dh_sh (dh_wpM d) (dh_bl 227) Q 7 ls st h = dh_wpB dh_sh (dh_wpM d) (dh_wp dh_sh (dh_wpM d) (dh_bl 227) Q) Q bk227_7 ls st h := dh_wp_eq (dh_wpM_mono d) rfl
theorem u227_8 : dh_wp dh_sh (dh_wpM d) (dh_bl 227) Q 8 ls st h = dh_wpB dh_sh (dh_wpM d) (dh_wp dh_sh (dh_wpM d) (dh_bl 227) Q) Q bk227_8 ls st h := dh_wp_eq (dh_wpM_mono d) rfl
theorem u227_9 : dh_wp dh_sh (dh_wpM d) (dh_bl 227) Q 9 ls st h = dh_wpB dh_sh (dh_wpM d) (dh_wp dh_sh (dh_wpM d) (dh_bl 227) Q) Q bk227_9 ls st h := dh_wp_eq (dh_wpM_mono d) rfl
theorem u227_10 : dh_wp dh_sh (dh_wpM d) (dh_bl 227) Q 10 ls st h = dh_wpB dh_sh (dh_wpM d) (dh_wp dh_sh (dh_wpM d) (dh_bl 227) Q) Q bk227_10 ls st h := dh_wp_eq (dh_wpM_mono d) rfl
/-- DoubleHeapModel.simple(II)I -/
theorem m227 {p0 : Nat} {x1 : Int} {x2 : Int} : dh_wpM (d + 1) 227 [.inr (.inr (some p0)), .inl x1, .inl x2] h Q = dh_wp dh_sh (dh_wpM d) (dh_bl 227) Q 0 [some (.inr (.inr (some p0))), some (.inl x1), some (.inl x2), none, none, none] [] h := dh_mq (Nat.le_of_ble_eq_true rfl) rfl
theorem u228_0 : dh_wp dh_sh (dh_wpM d) (dh_bl 228) Q 0 ls st h = dh_wpB dh_sh (dh_wpM d) (dh_wp dh_sh (dh_wpM d) (dh_bl 228) Q) Q bk228_0 ls st h := dh_wp_eq (dh_wpM_mono d) rfl
theorem u228_1 : dh_wp dh_sh (dh_wpM d) (dh_bl 228) Q 1 ls st h = dh_wpB dh_sh (dh_wpM d) (dh_wp dh_sh (dh_wpM d) (dh_bl 228) Q) Q bk228_1 ls st h := dh_wp_eq (dh_wpM_mono d) rfl
theorem u228_2 : dh_wp dh_sh (dh_wpM d) (dh_bl 228) Q 2 ls st h = dh_wpB dh_sh (dh_wpM d) (dh_wp dh_sh (dh_wpM d) (dh_bl 228) Q) Q bk228_2 ls st h := dh_wp_eq (dh_wpM_mono d) rfl
theorem u228_3 : dh_wp dh_sh (dh_wpM d) (dh_bl 228) Q 3 ls st h = dh_wpB dh_sh (dh_wpM d) (dh_wp dh_sh (dh_wpM d) (dh_bl 228) Q) Q bk228_3 ls st h := dh_wp_eq (dh_wpM_mono d) rfl
theorem u228_4 : dh_wp dh_sh (dh_wpM d) (dh_bl 228) Q 4 ls st h = dh_wpB dh_sh (dh_wpM d) (dh_wp dh_sh (dh_wpM d) (dh_bl 228) Q) Q bk228_4 ls st h := dh_wp_eq (dh_wpM_mono d) rfl
theorem u228_5 : dh_wp dh_sh (dh_wpM d) (dh_bl 228) Q 5 ls st h = dh_wpB dh_sh (dh_wpM d) (dh_wp dh_sh (dh_wpM d) (dh_bl 228) Q) Q bk228_5 ls st h := dh_wp_eq (dh_wpM_mono d) rfl
theorem u228_6 : dh_wp dh_sh (dh_wpM d) (dh_bl 228) Q 6 ls st h = dh_wpB dh_sh (dh_wpM d) (dh_wp dh_sh (dh_wpM d) (dh_bl 228) Q) Q bk228_6 ls st h := dh_wp_eq (dh_wpM_mono d) rfl
theorem u228_7 : dh_wp dh_sh (dh_wpM d) (dh_bl 228) Q 7 ls st h = dh_wpB dh_sh (dh_wpM d) (dh_wp dh_sh (dh_wpM d) (dh_bl 228) Q) Q bk228_7 ls st h := dh_wp_eq (dh_wpM_mono d) rfl
theorem u228_8 : dh_wp dh_sh (dh_wpM d) (dh_bl 228) Q 8 ls st h = dh_wpB dh_sh (dh_wpM d) (dh_wp dh_sh (dh_wpM d) (dh_bl 228) Q) Q bk228_8 ls st h := dh_wp_eq (dh_wpM_mono d) rfl
theorem u228_9 : dh_wp dh_sh (dh_wpM d) (dh_bl 228) Q 9 ls st h = dh_wpB dh_sh (dh_wpM d) (dh_wp dh_sh (dh_wpM d) (dh_bl 228) Q) Q bk228_9 ls st h := dh_wp_eq (dh_wpM_mono d) rfl
theorem u228_10 : dh_wp dh_sh (dh_wpM d) (dh_bl 228) Q 10 ls st h = dh_wpB dh_sh (dh_wpM d) (dh_wp dh_sh (dh_wpM d) (dh_bl 228) Q) Q bk228_10 ls st h := dh_wp_eq (dh_wpM_mono d) rfl
theorem u228_11 : dh_wp dh_sh (dh_wpM d) (dh_bl 228) Q 11 ls st h = dh_wpB dh_sh (dh_wpM d) (dh_wp dh_sh (dh_wpM d) (dh_bl 228) Q) Q bk228_11 ls st h := dh_wp_eq (dh_wpM_mono d) rfl
theorem u228_12 : dh_wp dh_sh (dh_wpM d) (dh_bl 228) Q 12 ls st h = dh_wpB dh_sh (dh_wpM d) (dh_wp dh_sh (dh_wpM d) (dh_bl 228) Q) Q bk228_12 ls st h := dh_wp_eq (dh_wpM_mono d) rfl
theorem u228_13 : dh_wp dh_sh (dh_wpM d) (dh_bl 228) Q 13 ls st h = dh_wpB dh_sh (dh_wpM d) (dh_wp dh_sh (dh_wpM d) (dh_bl 228) Q) Q bk228_13 ls st h := dh_wp_eq (dh_wpM_mono d) rfl
theorem u228_14 : dh_wp dh_sh (dh_wpM d) (dh_bl 228) Q 14 ls st h = dh_wpB dh_sh (dh_wpM d) (dh_wp dh_sh (dh_wpM d) (dh_bl 228) Q) Q bk228_14 ls st h := dh_wp_eq (dh_wpM_mono d) rfl
theorem u228_15 : dh_wp dh_sh (dh_wpM d) (dh_bl 228) Q 15 ls st h = dh_wpB dh_sh (dh_wpM d) (dh_wp dh_sh (dh_wpM d) (dh_bl 228) Q) Q bk228_15 ls st h := dh_wp_eq (dh_wpM_mono d) rfl
theorem u228_16 : dh_wp dh_sh (dh_wpM d) (dh_bl 228) Q 16 ls st h = dh_wpB dh_sh (dh_wpM d) (dh_wp dh_sh (dh_wpM d) (dh_bl 228) Q) Q bk228_16 ls st h := dh_wp_eq (dh_wpM_mono d) rfl
theorem u228_17 : dh_wp dh_sh (dh_wpM d) (dh_bl 228) Q 17 ls st h = dh_wpB dh_sh (dh_wpM d) (dh_wp dh_sh (dh_wpM d) (dh_bl 228) Q) Q bk228_17 ls st h := dh_wp_eq (dh_wpM_mono d) rfl
theorem u228_18 : dh_wp dh_sh (dh_wpM d) (dh_bl 228) Q 18 ls st h = dh_wpB dh_sh (dh_wpM d) (dh_wp dh_sh (dh_wpM d) (dh_bl 228) Q) Q bk228_18 ls st h := dh_wp_eq (dh_wpM_mono d) rfl
theorem u228_19 : dh_wp dh_sh (dh_wpM d) (dh_bl 228) Q 19 ls st h = dh_wpB dh_sh (dh_wpM d) (dh_wp dh_sh (dh_wpM d) (dh_bl 228) Q) Q bk228_19 ls st h := dh_wp_eq (dh_wpM_mono d) rfl
/-- DoubleHeapModel.unlike(III)I -/
theorem m228 {p0 : Nat} {x1 : Int} {x2 : Int} {x3 : Int} : dh_wpM (d + 1) 228 [.inr (.inr (some p0)), .inl x1, .inl x2, .inl x3] h Q = dh_wp dh_sh (dh_wpM d) (dh_bl 228) Q 0 [some (.inr (.inr (some p0))), some (.inl x1), some (.inl x2), some (.inl x3), none, none, none, none, none] [] h := dh_mq (Nat.le_of_ble_eq_true rfl) rfl
theorem u229_0 : dh_wp dh_sh (dh_wpM d) (dh_bl 229) Q 0 ls st h = dh_wpB dh_sh (dh_wpM d) (dh_wp dh_sh (dh_wpM d) (dh_bl 229) Q) Q bk229_0 ls st h := dh_wp_eq (dh_wpM_mono d) rfl
theorem u229_1 : dh_wp dh_sh (dh_wpM d) (dh_bl 229) Q 1 ls st h = dh_wpB dh_sh (dh_wpM d) (dh_wp dh_sh (dh_wpM d) (dh_bl 229) Q) Q bk229_1 ls st h := dh_wp_eq (dh_wpM_mono d) rfl
theorem u229_2 : dh_wp dh_sh (dh_wpM d) (dh_bl 229) Q 2 ls st h = dh_wpB dh_sh (dh_wpM d) (dh_wp dh_sh (dh_wpM d) (dh_bl 229) Q) Q bk229_2 ls st h := dh_wp_eq (dh_wpM_mono d) rfl
/-- DoubleHeapModel.sees(II)V -/
theorem m229 {p0 : Nat} {x1 : Int} {x2 : Int} : dh_wpM (d + 1) 229 [.inr (.inr (some p0)), .inl x1, .inl x2] h Q = dh_wp dh_sh (dh_wpM d) (dh_bl 229) Q 0 [some (.inr (.inr (some p0))), some (.inl x1), some (.inl x2), none] [] h := dh_mq (Nat.le_of_ble_eq_true rfl) rfl
theorem u230_0 : dh_wp dh_sh (dh_wpM d) (dh_bl 230) Q 0 ls st h = dh_wpB dh_sh (dh_wpM d) (dh_wp dh_sh (dh_wpM d) (dh_bl 230) Q) Q bk230_0 ls st h := dh_wp_eq (dh_wpM_mono d) rfl
theorem u230_1 : dh_wp dh_sh (dh_wpM d) (dh_bl 230) Q 1 ls st h = dh_wpB dh_sh (dh_wpM d) (dh_wp dh_sh (dh_wpM d) (dh_bl 230) Q) Q bk230_1 ls st h := dh_wp_eq (dh_wpM_mono d) rfl
theorem u230_2 : dh_wp dh_sh (dh_wpM d) (dh_bl 230) Q 2 ls st h = dh_wpB dh_sh (dh_wpM d) (dh_wp dh_sh (dh_wpM d) (dh_bl 230) Q) Q bk230_2 ls st h := dh_wp_eq (dh_wpM_mono d) rfl
theorem u230_3 : dh_wp dh_sh (dh_wpM d) (dh_bl 230) Q 3 ls st h = dh_wpB dh_sh (dh_wpM d) (dh_wp dh_sh (dh_wpM d) (dh_bl 230) Q) Q bk230_3 ls st h := dh_wp_eq (dh_wpM_mono d) rfl
theorem u230_4 : dh_wp dh_sh (dh_wpM d) (dh_bl 230) Q 4 ls st h = dh_wpB dh_sh (dh_wpM d) (dh_wp dh_sh (dh_wpM d) (dh_bl 230) Q) Q bk230_4 ls st h := dh_wp_eq (dh_wpM_mono d) rfl
theorem u230_5 : dh_wp dh_sh (dh_wpM d) (dh_bl 230) Q 5 ls st h = dh_wpB dh_sh (dh_wpM d) (dh_wp dh_sh (dh_wpM d) (dh_bl 230) Q) Q bk230_5 ls st h := dh_wp_eq (dh_wpM_mono d) rfl
theorem u230_6 : dh_wp dh_sh (dh_wpM d) (dh_bl 230) Q 6 ls st h = dh_wpB dh_sh (dh_wpM d) (dh_wp dh_sh (dh_wpM d) (dh_bl 230) Q) Q bk230_6 ls st h := dh_wp_eq (dh_wpM_mono d) rfl
theorem u230_7 : dh_wp dh_sh (dh_wpM d) (dh_bl 230) Q 7 ls st h = dh_wpB dh_sh (dh_wpM d) (dh_wp dh_sh (dh_wpM d) (dh_bl 230) Q) Q bk230_7 ls st h := dh_wp_eq (dh_wpM_mono d) rfl
theorem u230_8 : dh_wp dh_sh (dh_wpM d) (dh_bl 230) Q 8 ls st h = dh_wpB dh_sh (dh_wpM d) (dh_wp dh_sh (dh_wpM d) (dh_bl 230) Q) Q bk230_8 ls st h := dh_wp_eq (dh_wpM_mono d) rfl
theorem u230_9 : dh_wp dh_sh (dh_wpM d) (dh_bl 230) Q 9 ls st h = dh_wpB dh_sh (dh_wpM d) (dh_wp dh_sh (dh_wpM d) (dh_bl 230) Q) Q bk230_9 ls st h := dh_wp_eq (dh_wpM_mono d) rfl
theorem u230_10 : dh_wp dh_sh (dh_wpM d) (dh_bl 230) Q 10 ls st h = dh_wpB dh_sh (dh_wpM d) (dh_wp dh_sh (dh_wpM d) (dh_bl 230) Q) Q bk230_10 ls st h := dh_wp_eq (dh_wpM_mono d) rfl
theorem u230_11 : dh_wp dh_sh (dh_wpM d) (dh_bl 230) Q 11 ls st h = dh_wpB dh_sh (dh_wpM d) (dh_wp dh_sh (dh_wpM d) (dh_bl 230) Q) Q bk230_11 ls st h := dh_wp_eq (dh_wpM_mono d) rfl
theorem u230_12 : dh_wp dh_sh (dh_wpM d) (dh_bl 230) Q 12 ls st h = dh_wpB dh_sh (dh_wpM d) (dh_wp dh_sh (dh_wpM d) (dh_bl 230) Q) Q bk230_12 ls st h := dh_wp_eq (dh_wpM_mono d) rfl
theorem u230_13 : dh_wp dh_sh (dh_wpM d) (dh_bl 230) Q 13 ls st h = dh_wpB dh_sh (dh_wpM d) (dh_wp dh_sh (dh_wpM d) (dh_bl 230) Q) Q bk230_13 ls st h := dh_wp_eq (dh_wpM_mono d) rfl
theorem u230_14 : dh_wp dh_sh (dh_wpM d) (dh_bl 230) Q 14 ls st h = dh_wpB dh_sh (dh_wpM d) (dh_wp dh_sh (dh_wpM d) (dh_bl 230) Q) Q bk230_14 ls st h := dh_wp_eq (dh_wpM_mono d) rfl
/-- DoubleHeapModel.judged(IIII)I -/
theorem m230 {p0 : Nat} {x1 : Int} {x2 : Int} {x3 : Int} {x4 : Int} : dh_wpM (d + 1) 230 [.inr (.inr (some p0)), .inl x1, .inl x2, .inl x3, .inl x4] h Q = dh_wp dh_sh (dh_wpM d) (dh_bl 230) Q 0 [some (.inr (.inr (some p0))), some (.inl x1), some (.inl x2), some (.inl x3), some (.inl x4), none, none, none, none, none] [] h := dh_mq (Nat.le_of_ble_eq_true rfl) rfl
theorem u231_0 : dh_wp dh_sh (dh_wpM d) (dh_bl 231) Q 0 ls st h = dh_wpB dh_sh (dh_wpM d) (dh_wp dh_sh (dh_wpM d) (dh_bl 231) Q) Q bk231_0 ls st h := dh_wp_eq (dh_wpM_mono d) rfl
theorem u231_1 : dh_wp dh_sh (dh_wpM d) (dh_bl 231) Q 1 ls st h = dh_wpB dh_sh (dh_wpM d) (dh_wp dh_sh (dh_wpM d) (dh_bl 231) Q) Q bk231_1 ls st h := dh_wp_eq (dh_wpM_mono d) rfl
theorem u231_2 : dh_wp dh_sh (dh_wpM d) (dh_bl 231) Q 2 ls st h = dh_wpB dh_sh (dh_wpM d) (dh_wp dh_sh (dh_wpM d) (dh_bl 231) Q) Q bk231_2 ls st h := dh_wp_eq (dh_wpM_mono d) rfl
theorem u231_3 : dh_wp dh_sh (dh_wpM d) (dh_bl 231) Q 3 ls st h = dh_wpB dh_sh (dh_wpM d) (dh_wp dh_sh (dh_wpM d) (dh_bl 231) Q) Q bk231_3 ls st h := dh_wp_eq (dh_wpM_mono d) rfl
theorem u231_4 : dh_wp dh_sh (dh_wpM d) (dh_bl 231) Q 4 ls st h = dh_wpB dh_sh (dh_wpM d) (dh_wp dh_sh (dh_wpM d) (dh_bl 231) Q) Q bk231_4 ls st h := dh_wp_eq (dh_wpM_mono d) rfl
theorem u231_5 : dh_wp dh_sh (dh_wpM d) (dh_bl 231) Q 5 ls st h = dh_wpB dh_sh (dh_wpM d) (dh_wp dh_sh (dh_wpM d) (dh_bl 231) Q) Q bk231_5 ls st h := dh_wp_eq (dh_wpM_mono d) rfl
theorem u231_6 : dh_wp dh_sh (dh_wpM d) (dh_bl 231) Q 6 ls st h = dh_wpB dh_sh (dh_wpM d) (dh_wp dh_sh (dh_wpM d) (dh_bl 231) Q) Q bk231_6 ls st h := dh_wp_eq (dh_wpM_mono d) rfl
theorem u231_7 : dh_wp dh_sh (dh_wpM d) (dh_bl 231) Q 7 ls st h = dh_wpB dh_sh (dh_wpM d) (dh_wp dh_sh (dh_wpM d) (dh_bl 231) Q) Q bk231_7 ls st h := dh_wp_eq (dh_wpM_mono d) rfl
theorem u231_8 : dh_wp dh_sh (dh_wpM d) (dh_bl 231) Q 8 ls st h = dh_wpB dh_sh (dh_wpM d) (dh_wp dh_sh (dh_wpM d) (dh_bl 231) Q) Q bk231_8 ls st h := dh_wp_eq (dh_wpM_mono d) rfl
theorem u231_9 : dh_wp dh_sh (dh_wpM d) (dh_bl 231) Q 9 ls st h = dh_wpB dh_sh (dh_wpM d) (dh_wp dh_sh (dh_wpM d) (dh_bl 231) Q) Q bk231_9 ls st h := dh_wp_eq (dh_wpM_mono d) rfl
/-- DoubleHeapModel.fromWhen(II)I -/
theorem m231 {p0 : Nat} {x1 : Int} {x2 : Int} : dh_wpM (d + 1) 231 [.inr (.inr (some p0)), .inl x1, .inl x2] h Q = dh_wp dh_sh (dh_wpM d) (dh_bl 231) Q 0 [some (.inr (.inr (some p0))), some (.inl x1), some (.inl x2), none, none, none, none, none] [] h := dh_mq (Nat.le_of_ble_eq_true rfl) rfl
theorem u232_0 : dh_wp dh_sh (dh_wpM d) (dh_bl 232) Q 0 ls st h = dh_wpB dh_sh (dh_wpM d) (dh_wp dh_sh (dh_wpM d) (dh_bl 232) Q) Q bk232_0 ls st h := dh_wp_eq (dh_wpM_mono d) rfl
theorem u232_1 : dh_wp dh_sh (dh_wpM d) (dh_bl 232) Q 1 ls st h = dh_wpB dh_sh (dh_wpM d) (dh_wp dh_sh (dh_wpM d) (dh_bl 232) Q) Q bk232_1 ls st h := dh_wp_eq (dh_wpM_mono d) rfl
theorem u232_2 : dh_wp dh_sh (dh_wpM d) (dh_bl 232) Q 2 ls st h = dh_wpB dh_sh (dh_wpM d) (dh_wp dh_sh (dh_wpM d) (dh_bl 232) Q) Q bk232_2 ls st h := dh_wp_eq (dh_wpM_mono d) rfl
theorem u232_3 : dh_wp dh_sh (dh_wpM d) (dh_bl 232) Q 3 ls st h = dh_wpB dh_sh (dh_wpM d) (dh_wp dh_sh (dh_wpM d) (dh_bl 232) Q) Q bk232_3 ls st h := dh_wp_eq (dh_wpM_mono d) rfl
theorem u232_4 : dh_wp dh_sh (dh_wpM d) (dh_bl 232) Q 4 ls st h = dh_wpB dh_sh (dh_wpM d) (dh_wp dh_sh (dh_wpM d) (dh_bl 232) Q) Q bk232_4 ls st h := dh_wp_eq (dh_wpM_mono d) rfl
/-- DoubleHeapModel.thought(I)I -/
theorem m232 {p0 : Nat} {x1 : Int} : dh_wpM (d + 1) 232 [.inr (.inr (some p0)), .inl x1] h Q = dh_wp dh_sh (dh_wpM d) (dh_bl 232) Q 0 [some (.inr (.inr (some p0))), some (.inl x1), none, none] [] h := dh_mq (Nat.le_of_ble_eq_true rfl) rfl
theorem u233_0 : dh_wp dh_sh (dh_wpM d) (dh_bl 233) Q 0 ls st h = dh_wpB dh_sh (dh_wpM d) (dh_wp dh_sh (dh_wpM d) (dh_bl 233) Q) Q bk233_0 ls st h := dh_wp_eq (dh_wpM_mono d) rfl
theorem u233_1 : dh_wp dh_sh (dh_wpM d) (dh_bl 233) Q 1 ls st h = dh_wpB dh_sh (dh_wpM d) (dh_wp dh_sh (dh_wpM d) (dh_bl 233) Q) Q bk233_1 ls st h := dh_wp_eq (dh_wpM_mono d) rfl
theorem u233_2 : dh_wp dh_sh (dh_wpM d) (dh_bl 233) Q 2 ls st h = dh_wpB dh_sh (dh_wpM d) (dh_wp dh_sh (dh_wpM d) (dh_bl 233) Q) Q bk233_2 ls st h := dh_wp_eq (dh_wpM_mono d) rfl
theorem u233_3 : dh_wp dh_sh (dh_wpM d) (dh_bl 233) Q 3 ls st h = dh_wpB dh_sh (dh_wpM d) (dh_wp dh_sh (dh_wpM d) (dh_bl 233) Q) Q bk233_3 ls st h := dh_wp_eq (dh_wpM_mono d) rfl
theorem u233_4 : dh_wp dh_sh (dh_wpM d) (dh_bl 233) Q 4 ls st h = dh_wpB dh_sh (dh_wpM d) (dh_wp dh_sh (dh_wpM d) (dh_bl 233) Q) Q bk233_4 ls st h := dh_wp_eq (dh_wpM_mono d) rfl
/-- DoubleHeapModel.isThought(II)Z -/
theorem m233 {p0 : Nat} {x1 : Int} {x2 : Int} : dh_wpM (d + 1) 233 [.inr (.inr (some p0)), .inl x1, .inl x2] h Q = dh_wp dh_sh (dh_wpM d) (dh_bl 233) Q 0 [some (.inr (.inr (some p0))), some (.inl x1), some (.inl x2), none] [] h := dh_mq (Nat.le_of_ble_eq_true rfl) rfl
theorem u234_0 : dh_wp dh_sh (dh_wpM d) (dh_bl 234) Q 0 ls st h = dh_wpB dh_sh (dh_wpM d) (dh_wp dh_sh (dh_wpM d) (dh_bl 234) Q) Q bk234_0 ls st h := dh_wp_eq (dh_wpM_mono d) rfl
theorem u234_1 : dh_wp dh_sh (dh_wpM d) (dh_bl 234) Q 1 ls st h = dh_wpB dh_sh (dh_wpM d) (dh_wp dh_sh (dh_wpM d) (dh_bl 234) Q) Q bk234_1 ls st h := dh_wp_eq (dh_wpM_mono d) rfl
theorem u234_2 : dh_wp dh_sh (dh_wpM d) (dh_bl 234) Q 2 ls st h = dh_wpB dh_sh (dh_wpM d) (dh_wp dh_sh (dh_wpM d) (dh_bl 234) Q) Q bk234_2 ls st h := dh_wp_eq (dh_wpM_mono d) rfl
/-- DoubleHeapModel.gcd(JJ)J -/
theorem m234 {x1 : BitVec 64} {x2 : BitVec 64} : dh_wpM (d + 1) 234 [.inr (.inl x1), .inr (.inl x2)] h Q = dh_wp dh_sh (dh_wpM d) (dh_bl 234) Q 0 [some (.inr (.inl x1)), none, some (.inr (.inl x2)), none, none, none, none, none, none, none] [] h := dh_mq (Nat.le_of_ble_eq_true rfl) rfl
theorem u235_0 : dh_wp dh_sh (dh_wpM d) (dh_bl 235) Q 0 ls st h = dh_wpB dh_sh (dh_wpM d) (dh_wp dh_sh (dh_wpM d) (dh_bl 235) Q) Q bk235_0 ls st h := dh_wp_eq (dh_wpM_mono d) rfl
theorem u235_1 : dh_wp dh_sh (dh_wpM d) (dh_bl 235) Q 1 ls st h = dh_wpB dh_sh (dh_wpM d) (dh_wp dh_sh (dh_wpM d) (dh_bl 235) Q) Q bk235_1 ls st h := dh_wp_eq (dh_wpM_mono d) rfl
theorem u235_2 : dh_wp dh_sh (dh_wpM d) (dh_bl 235) Q 2 ls st h = dh_wpB dh_sh (dh_wpM d) (dh_wp dh_sh (dh_wpM d) (dh_bl 235) Q) Q bk235_2 ls st h := dh_wp_eq (dh_wpM_mono d) rfl
theorem u235_3 : dh_wp dh_sh (dh_wpM d) (dh_bl 235) Q 3 ls st h = dh_wpB dh_sh (dh_wpM d) (dh_wp dh_sh (dh_wpM d) (dh_bl 235) Q) Q bk235_3 ls st h := dh_wp_eq (dh_wpM_mono d) rfl
theorem u235_4 : dh_wp dh_sh (dh_wpM d) (dh_bl 235) Q 4 ls st h = dh_wpB dh_sh (dh_wpM d) (dh_wp dh_sh (dh_wpM d) (dh_bl 235) Q) Q bk235_4 ls st h := dh_wp_eq (dh_wpM_mono d) rfl
theorem u235_5 : dh_wp dh_sh (dh_wpM d) (dh_bl 235) Q 5 ls st h = dh_wpB dh_sh (dh_wpM d) (dh_wp dh_sh (dh_wpM d) (dh_bl 235) Q) Q bk235_5 ls st h := dh_wp_eq (dh_wpM_mono d) rfl
theorem u235_6 : dh_wp dh_sh (dh_wpM d) (dh_bl 235) Q 6 ls st h = dh_wpB dh_sh (dh_wpM d) (dh_wp dh_sh (dh_wpM d) (dh_bl 235) Q) Q bk235_6 ls st h := dh_wp_eq (dh_wpM_mono d) rfl
theorem u235_7 : dh_wp dh_sh (dh_wpM d) (dh_bl 235) Q 7 ls st h = dh_wpB dh_sh (dh_wpM d) (dh_wp dh_sh (dh_wpM d) (dh_bl 235) Q) Q bk235_7 ls st h := dh_wp_eq (dh_wpM_mono d) rfl
theorem u235_8 : dh_wp dh_sh (dh_wpM d) (dh_bl 235) Q 8 ls st h = dh_wpB dh_sh (dh_wpM d) (dh_wp dh_sh (dh_wpM d) (dh_bl 235) Q) Q bk235_8 ls st h := dh_wp_eq (dh_wpM_mono d) rfl
/-- DoubleHeapModel.chance(IIII)J -/
theorem m235 {p0 : Nat} {x1 : Int} {x2 : Int} {x3 : Int} {x4 : Int} : dh_wpM (d + 1) 235 [.inr (.inr (some p0)), .inl x1, .inl x2, .inl x3, .inl x4] h Q = dh_wp dh_sh (dh_wpM d) (dh_bl 235) Q 0 [some (.inr (.inr (some p0))), some (.inl x1), some (.inl x2), some (.inl x3), some (.inl x4), none, none, none, none, none, none, none, none, none] [] h := dh_mq (Nat.le_of_ble_eq_true rfl) rfl
theorem u236_0 : dh_wp dh_sh (dh_wpM d) (dh_bl 236) Q 0 ls st h = dh_wpB dh_sh (dh_wpM d) (dh_wp dh_sh (dh_wpM d) (dh_bl 236) Q) Q bk236_0 ls st h := dh_wp_eq (dh_wpM_mono d) rfl
theorem u236_1 : dh_wp dh_sh (dh_wpM d) (dh_bl 236) Q 1 ls st h = dh_wpB dh_sh (dh_wpM d) (dh_wp dh_sh (dh_wpM d) (dh_bl 236) Q) Q bk236_1 ls st h := dh_wp_eq (dh_wpM_mono d) rfl
theorem u236_2 : dh_wp dh_sh (dh_wpM d) (dh_bl 236) Q 2 ls st h = dh_wpB dh_sh (dh_wpM d) (dh_wp dh_sh (dh_wpM d) (dh_bl 236) Q) Q bk236_2 ls st h := dh_wp_eq (dh_wpM_mono d) rfl
/-- DoubleHeapModel.stoveHeap()I -/
theorem m236 {p0 : Nat} : dh_wpM (d + 1) 236 [.inr (.inr (some p0))] h Q = dh_wp dh_sh (dh_wpM d) (dh_bl 236) Q 0 [some (.inr (.inr (some p0))), none, none] [] h := dh_mq (Nat.le_of_ble_eq_true rfl) rfl
theorem u237_0 : dh_wp dh_sh (dh_wpM d) (dh_bl 237) Q 0 ls st h = dh_wpB dh_sh (dh_wpM d) (dh_wp dh_sh (dh_wpM d) (dh_bl 237) Q) Q bk237_0 ls st h := dh_wp_eq (dh_wpM_mono d) rfl
theorem u237_1 : dh_wp dh_sh (dh_wpM d) (dh_bl 237) Q 1 ls st h = dh_wpB dh_sh (dh_wpM d) (dh_wp dh_sh (dh_wpM d) (dh_bl 237) Q) Q bk237_1 ls st h := dh_wp_eq (dh_wpM_mono d) rfl
theorem u237_2 : dh_wp dh_sh (dh_wpM d) (dh_bl 237) Q 2 ls st h = dh_wpB dh_sh (dh_wpM d) (dh_wp dh_sh (dh_wpM d) (dh_bl 237) Q) Q bk237_2 ls st h := dh_wp_eq (dh_wpM_mono d) rfl
/-- DoubleHeapModel.stoveLast()I -/
theorem m237 {p0 : Nat} : dh_wpM (d + 1) 237 [.inr (.inr (some p0))] h Q = dh_wp dh_sh (dh_wpM d) (dh_bl 237) Q 0 [some (.inr (.inr (some p0)))] [] h := dh_mq (Nat.le_of_ble_eq_true rfl) rfl
theorem u238_0 : dh_wp dh_sh (dh_wpM d) (dh_bl 238) Q 0 ls st h = dh_wpB dh_sh (dh_wpM d) (dh_wp dh_sh (dh_wpM d) (dh_bl 238) Q) Q bk238_0 ls st h := dh_wp_eq (dh_wpM_mono d) rfl
/-- DoubleHeapModel.takesNow(I)I -/
theorem m238 {p0 : Nat} {x1 : Int} : dh_wpM (d + 1) 238 [.inr (.inr (some p0)), .inl x1] h Q = dh_wp dh_sh (dh_wpM d) (dh_bl 238) Q 0 [some (.inr (.inr (some p0))), some (.inl x1)] [] h := dh_mq (Nat.le_of_ble_eq_true rfl) rfl
theorem u239_0 : dh_wp dh_sh (dh_wpM d) (dh_bl 239) Q 0 ls st h = dh_wpB dh_sh (dh_wpM d) (dh_wp dh_sh (dh_wpM d) (dh_bl 239) Q) Q bk239_0 ls st h := dh_wp_eq (dh_wpM_mono d) rfl
theorem u239_1 : dh_wp dh_sh (dh_wpM d) (dh_bl 239) Q 1 ls st h = dh_wpB dh_sh (dh_wpM d) (dh_wp dh_sh (dh_wpM d) (dh_bl 239) Q) Q bk239_1 ls st h := dh_wp_eq (dh_wpM_mono d) rfl
theorem u239_2 : dh_wp dh_sh (dh_wpM d) (dh_bl 239) Q 2 ls st h = dh_wpB dh_sh (dh_wpM d) (dh_wp dh_sh (dh_wpM d) (dh_bl 239) Q) Q bk239_2 ls st h := dh_wp_eq (dh_wpM_mono d) rfl
/-- DoubleHeapModel.stove(II)Z -/
theorem m239 {p0 : Nat} {x1 : Int} {x2 : Int} : dh_wpM (d + 1) 239 [.inr (.inr (some p0)), .inl x1, .inl x2] h Q = dh_wp dh_sh (dh_wpM d) (dh_bl 239) Q 0 [some (.inr (.inr (some p0))), some (.inl x1), some (.inl x2)] [] h := dh_mq (Nat.le_of_ble_eq_true rfl) rfl
theorem u240_0 : dh_wp dh_sh (dh_wpM d) (dh_bl 240) Q 0 ls st h = dh_wpB dh_sh (dh_wpM d) (dh_wp dh_sh (dh_wpM d) (dh_bl 240) Q) Q bk240_0 ls st h := dh_wp_eq (dh_wpM_mono d) rfl
theorem u240_1 : dh_wp dh_sh (dh_wpM d) (dh_bl 240) Q 1 ls st h = dh_wpB dh_sh (dh_wpM d) (dh_wp dh_sh (dh_wpM d) (dh_bl 240) Q) Q bk240_1 ls st h := dh_wp_eq (dh_wpM_mono d) rfl
theorem u240_2 : dh_wp dh_sh (dh_wpM d) (dh_bl 240) Q 2 ls st h = dh_wpB dh_sh (dh_wpM d) (dh_wp dh_sh (dh_wpM d) (dh_bl 240) Q) Q bk240_2 ls st h := dh_wp_eq (dh_wpM_mono d) rfl
/-- DoubleHeapModel.take(I)I -/
theorem m240 {p0 : Nat} {x1 : Int} : dh_wpM (d + 1) 240 [.inr (.inr (some p0)), .inl x1] h Q = dh_wp dh_sh (dh_wpM d) (dh_bl 240) Q 0 [some (.inr (.inr (some p0))), some (.inl x1)] [] h := dh_mq (Nat.le_of_ble_eq_true rfl) rfl
theorem u241_0 : dh_wp dh_sh (dh_wpM d) (dh_bl 241) Q 0 ls st h = dh_wpB dh_sh (dh_wpM d) (dh_wp dh_sh (dh_wpM d) (dh_bl 241) Q) Q bk241_0 ls st h := dh_wp_eq (dh_wpM_mono d) rfl
theorem u241_1 : dh_wp dh_sh (dh_wpM d) (dh_bl 241) Q 1 ls st h = dh_wpB dh_sh (dh_wpM d) (dh_wp dh_sh (dh_wpM d) (dh_bl 241) Q) Q bk241_1 ls st h := dh_wp_eq (dh_wpM_mono d) rfl
theorem u241_2 : dh_wp dh_sh (dh_wpM d) (dh_bl 241) Q 2 ls st h = dh_wpB dh_sh (dh_wpM d) (dh_wp dh_sh (dh_wpM d) (dh_bl 241) Q) Q bk241_2 ls st h := dh_wp_eq (dh_wpM_mono d) rfl
/-- DoubleHeapModel.hersOf(III)I -/
theorem m241 {p0 : Nat} {x1 : Int} {x2 : Int} {x3 : Int} : dh_wpM (d + 1) 241 [.inr (.inr (some p0)), .inl x1, .inl x2, .inl x3] h Q = dh_wp dh_sh (dh_wpM d) (dh_bl 241) Q 0 [some (.inr (.inr (some p0))), some (.inl x1), some (.inl x2), some (.inl x3), none] [] h := dh_mq (Nat.le_of_ble_eq_true rfl) rfl
theorem u242_0 : dh_wp dh_sh (dh_wpM d) (dh_bl 242) Q 0 ls st h = dh_wpB dh_sh (dh_wpM d) (dh_wp dh_sh (dh_wpM d) (dh_bl 242) Q) Q bk242_0 ls st h := dh_wp_eq (dh_wpM_mono d) rfl
theorem u242_1 : dh_wp dh_sh (dh_wpM d) (dh_bl 242) Q 1 ls st h = dh_wpB dh_sh (dh_wpM d) (dh_wp dh_sh (dh_wpM d) (dh_bl 242) Q) Q bk242_1 ls st h := dh_wp_eq (dh_wpM_mono d) rfl
/-- DoubleHeapModel.childsOf(III)I -/
theorem m242 {p0 : Nat} {x1 : Int} {x2 : Int} {x3 : Int} : dh_wpM (d + 1) 242 [.inr (.inr (some p0)), .inl x1, .inl x2, .inl x3] h Q = dh_wp dh_sh (dh_wpM d) (dh_bl 242) Q 0 [some (.inr (.inr (some p0))), some (.inl x1), some (.inl x2), some (.inl x3), none, none] [] h := dh_mq (Nat.le_of_ble_eq_true rfl) rfl
theorem u243_0 : dh_wp dh_sh (dh_wpM d) (dh_bl 243) Q 0 ls st h = dh_wpB dh_sh (dh_wpM d) (dh_wp dh_sh (dh_wpM d) (dh_bl 243) Q) Q bk243_0 ls st h := dh_wp_eq (dh_wpM_mono d) rfl
theorem u243_1 : dh_wp dh_sh (dh_wpM d) (dh_bl 243) Q 1 ls st h = dh_wpB dh_sh (dh_wpM d) (dh_wp dh_sh (dh_wpM d) (dh_bl 243) Q) Q bk243_1 ls st h := dh_wp_eq (dh_wpM_mono d) rfl
theorem u243_2 : dh_wp dh_sh (dh_wpM d) (dh_bl 243) Q 2 ls st h = dh_wpB dh_sh (dh_wpM d) (dh_wp dh_sh (dh_wpM d) (dh_bl 243) Q) Q bk243_2 ls st h := dh_wp_eq (dh_wpM_mono d) rfl
theorem u243_3 : dh_wp dh_sh (dh_wpM d) (dh_bl 243) Q 3 ls st h = dh_wpB dh_sh (dh_wpM d) (dh_wp dh_sh (dh_wpM d) (dh_bl 243) Q) Q bk243_3 ls st h := dh_wp_eq (dh_wpM_mono d) rfl
/-- DoubleHeapModel.she()I -/
theorem m243 {p0 : Nat} : dh_wpM (d + 1) 243 [.inr (.inr (some p0))] h Q = dh_wp dh_sh (dh_wpM d) (dh_bl 243) Q 0 [some (.inr (.inr (some p0))), none] [] h := dh_mq (Nat.le_of_ble_eq_true rfl) rfl
theorem u244_0 : dh_wp dh_sh (dh_wpM d) (dh_bl 244) Q 0 ls st h = dh_wpB dh_sh (dh_wpM d) (dh_wp dh_sh (dh_wpM d) (dh_bl 244) Q) Q bk244_0 ls st h := dh_wp_eq (dh_wpM_mono d) rfl
theorem u244_1 : dh_wp dh_sh (dh_wpM d) (dh_bl 244) Q 1 ls st h = dh_wpB dh_sh (dh_wpM d) (dh_wp dh_sh (dh_wpM d) (dh_bl 244) Q) Q bk244_1 ls st h := dh_wp_eq (dh_wpM_mono d) rfl
theorem u244_2 : dh_wp dh_sh (dh_wpM d) (dh_bl 244) Q 2 ls st h = dh_wpB dh_sh (dh_wpM d) (dh_wp dh_sh (dh_wpM d) (dh_bl 244) Q) Q bk244_2 ls st h := dh_wp_eq (dh_wpM_mono d) rfl
theorem u244_3 : dh_wp dh_sh (dh_wpM d) (dh_bl 244) Q 3 ls st h = dh_wpB dh_sh (dh_wpM d) (dh_wp dh_sh (dh_wpM d) (dh_bl 244) Q) Q bk244_3 ls st h := dh_wp_eq (dh_wpM_mono d) rfl
/-- DoubleHeapModel.child()I -/
theorem m244 {p0 : Nat} : dh_wpM (d + 1) 244 [.inr (.inr (some p0))] h Q = dh_wp dh_sh (dh_wpM d) (dh_bl 244) Q 0 [some (.inr (.inr (some p0))), none] [] h := dh_mq (Nat.le_of_ble_eq_true rfl) rfl
theorem u245_0 : dh_wp dh_sh (dh_wpM d) (dh_bl 245) Q 0 ls st h = dh_wpB dh_sh (dh_wpM d) (dh_wp dh_sh (dh_wpM d) (dh_bl 245) Q) Q bk245_0 ls st h := dh_wp_eq (dh_wpM_mono d) rfl
theorem u245_1 : dh_wp dh_sh (dh_wpM d) (dh_bl 245) Q 1 ls st h = dh_wpB dh_sh (dh_wpM d) (dh_wp dh_sh (dh_wpM d) (dh_bl 245) Q) Q bk245_1 ls st h := dh_wp_eq (dh_wpM_mono d) rfl
/-- DoubleHeapModel.back()I -/
theorem m245 {p0 : Nat} : dh_wpM (d + 1) 245 [.inr (.inr (some p0))] h Q = dh_wp dh_sh (dh_wpM d) (dh_bl 245) Q 0 [some (.inr (.inr (some p0)))] [] h := dh_mq (Nat.le_of_ble_eq_true rfl) rfl
theorem u246_0 : dh_wp dh_sh (dh_wpM d) (dh_bl 246) Q 0 ls st h = dh_wpB dh_sh (dh_wpM d) (dh_wp dh_sh (dh_wpM d) (dh_bl 246) Q) Q bk246_0 ls st h := dh_wp_eq (dh_wpM_mono d) rfl
theorem u246_1 : dh_wp dh_sh (dh_wpM d) (dh_bl 246) Q 1 ls st h = dh_wpB dh_sh (dh_wpM d) (dh_wp dh_sh (dh_wpM d) (dh_bl 246) Q) Q bk246_1 ls st h := dh_wp_eq (dh_wpM_mono d) rfl
theorem u246_2 : dh_wp dh_sh (dh_wpM d) (dh_bl 246) Q 2 ls st h = dh_wpB dh_sh (dh_wpM d) (dh_wp dh_sh (dh_wpM d) (dh_bl 246) Q) Q bk246_2 ls st h := dh_wp_eq (dh_wpM_mono d) rfl
theorem u246_3 : dh_wp dh_sh (dh_wpM d) (dh_bl 246) Q 3 ls st h = dh_wpB dh_sh (dh_wpM d) (dh_wp dh_sh (dh_wpM d) (dh_bl 246) Q) Q bk246_3 ls st h := dh_wp_eq (dh_wpM_mono d) rfl
theorem u246_4 : dh_wp dh_sh (dh_wpM d) (dh_bl 246) Q 4 ls st h = dh_wpB dh_sh (dh_wpM d) (dh_wp dh_sh (dh_wpM d) (dh_bl 246) Q) Q bk246_4 ls st h := dh_wp_eq (dh_wpM_mono d) rfl
theorem u246_5 : dh_wp dh_sh (dh_wpM d) (dh_bl 246) Q 5 ls st h = dh_wpB dh_sh (dh_wpM d) (dh_wp dh_sh (dh_wpM d) (dh_bl 246) Q) Q bk246_5 ls st h := dh_wp_eq (dh_wpM_mono d) rfl
theorem u246_6 : dh_wp dh_sh (dh_wpM d) (dh_bl 246) Q 6 ls st h = dh_wpB dh_sh (dh_wpM d) (dh_wp dh_sh (dh_wpM d) (dh_bl 246) Q) Q bk246_6 ls st h := dh_wp_eq (dh_wpM_mono d) rfl
theorem u246_7 : dh_wp dh_sh (dh_wpM d) (dh_bl 246) Q 7 ls st h = dh_wpB dh_sh (dh_wpM d) (dh_wp dh_sh (dh_wpM d) (dh_bl 246) Q) Q bk246_7 ls st h := dh_wp_eq (dh_wpM_mono d) rfl
theorem u246_8 : dh_wp dh_sh (dh_wpM d) (dh_bl 246) Q 8 ls st h = dh_wpB dh_sh (dh_wpM d) (dh_wp dh_sh (dh_wpM d) (dh_bl 246) Q) Q bk246_8 ls st h := dh_wp_eq (dh_wpM_mono d) rfl
theorem u246_9 : dh_wp dh_sh (dh_wpM d) (dh_bl 246) Q 9 ls st h = dh_wpB dh_sh (dh_wpM d) (dh_wp dh_sh (dh_wpM d) (dh_bl 246) Q) Q bk246_9 ls st h := dh_wp_eq (dh_wpM_mono d) rfl
theorem u246_10 : dh_wp dh_sh (dh_wpM d) (dh_bl 246) Q 10 ls st h = dh_wpB dh_sh (dh_wpM d) (dh_wp dh_sh (dh_wpM d) (dh_bl 246) Q) Q bk246_10 ls st h := dh_wp_eq (dh_wpM_mono d) rfl
/-- DoubleHeapModel.plays(III)Z -/
theorem m246 {p0 : Nat} {x1 : Int} {x2 : Int} {x3 : Int} : dh_wpM (d + 1) 246 [.inr (.inr (some p0)), .inl x1, .inl x2, .inl x3] h Q = dh_wp dh_sh (dh_wpM d) (dh_bl 246) Q 0 [some (.inr (.inr (some p0))), some (.inl x1), some (.inl x2), some (.inl x3), none, none, none, none] [] h := dh_mq (Nat.le_of_ble_eq_true rfl) rfl
theorem u247_0 : dh_wp dh_sh (dh_wpM d) (dh_bl 247) Q 0 ls st h = dh_wpB dh_sh (dh_wpM d) (dh_wp dh_sh (dh_wpM d) (dh_bl 247) Q) Q bk247_0 ls st h := dh_wp_eq (dh_wpM_mono d) rfl
theorem u247_1 : dh_wp dh_sh (dh_wpM d) (dh_bl 247) Q 1 ls st h = dh_wpB dh_sh (dh_wpM d) (dh_wp dh_sh (dh_wpM d) (dh_bl 247) Q) Q bk247_1 ls st h := dh_wp_eq (dh_wpM_mono d) rfl
theorem u247_2 : dh_wp dh_sh (dh_wpM d) (dh_bl 247) Q 2 ls st h = dh_wpB dh_sh (dh_wpM d) (dh_wp dh_sh (dh_wpM d) (dh_bl 247) Q) Q bk247_2 ls st h := dh_wp_eq (dh_wpM_mono d) rfl
theorem u247_3 : dh_wp dh_sh (dh_wpM d) (dh_bl 247) Q 3 ls st h = dh_wpB dh_sh (dh_wpM d) (dh_wp dh_sh (dh_wpM d) (dh_bl 247) Q) Q bk247_3 ls st h := dh_wp_eq (dh_wpM_mono d) rfl
theorem u247_4 : dh_wp dh_sh (dh_wpM d) (dh_bl 247) Q 4 ls st h = dh_wpB dh_sh (dh_wpM d) (dh_wp dh_sh (dh_wpM d) (dh_bl 247) Q) Q bk247_4 ls st h := dh_wp_eq (dh_wpM_mono d) rfl
theorem u247_5 : dh_wp dh_sh (dh_wpM d) (dh_bl 247) Q 5 ls st h = dh_wpB dh_sh (dh_wpM d) (dh_wp dh_sh (dh_wpM d) (dh_bl 247) Q) Q bk247_5 ls st h := dh_wp_eq (dh_wpM_mono d) rfl
/-- DoubleHeapModel.against(IIII)I -/
theorem m247 {p0 : Nat} {x1 : Int} {x2 : Int} {x3 : Int} {x4 : Int} : dh_wpM (d + 1) 247 [.inr (.inr (some p0)), .inl x1, .inl x2, .inl x3, .inl x4] h Q = dh_wp dh_sh (dh_wpM d) (dh_bl 247) Q 0 [some (.inr (.inr (some p0))), some (.inl x1), some (.inl x2), some (.inl x3), some (.inl x4), none, none] [] h := dh_mq (Nat.le_of_ble_eq_true rfl) rfl
theorem u248_0 : dh_wp dh_sh (dh_wpM d) (dh_bl 248) Q 0 ls st h = dh_wpB dh_sh (dh_wpM d) (dh_wp dh_sh (dh_wpM d) (dh_bl 248) Q) Q bk248_0 ls st h := dh_wp_eq (dh_wpM_mono d) rfl
theorem u248_1 : dh_wp dh_sh (dh_wpM d) (dh_bl 248) Q 1 ls st h = dh_wpB dh_sh (dh_wpM d) (dh_wp dh_sh (dh_wpM d) (dh_bl 248) Q) Q bk248_1 ls st h := dh_wp_eq (dh_wpM_mono d) rfl
theorem u248_2 : dh_wp dh_sh (dh_wpM d) (dh_bl 248) Q 2 ls st h = dh_wpB dh_sh (dh_wpM d) (dh_wp dh_sh (dh_wpM d) (dh_bl 248) Q) Q bk248_2 ls st h := dh_wp_eq (dh_wpM_mono d) rfl
theorem u248_3 : dh_wp dh_sh (dh_wpM d) (dh_bl 248) Q 3 ls st h = dh_wpB dh_sh (dh_wpM d) (dh_wp dh_sh (dh_wpM d) (dh_bl 248) Q) Q bk248_3 ls st h := dh_wp_eq (dh_wpM_mono d) rfl
theorem u248_4 : dh_wp dh_sh (dh_wpM d) (dh_bl 248) Q 4 ls st h = dh_wpB dh_sh (dh_wpM d) (dh_wp dh_sh (dh_wpM d) (dh_bl 248) Q) Q bk248_4 ls st h := dh_wp_eq (dh_wpM_mono d) rfl
theorem u248_5 : dh_wp dh_sh (dh_wpM d) (dh_bl 248) Q 5 ls st h = dh_wpB dh_sh (dh_wpM d) (dh_wp dh_sh (dh_wpM d) (dh_bl 248) Q) Q bk248_5 ls st h := dh_wp_eq (dh_wpM_mono d) rfl
theorem u248_6 : dh_wp dh_sh (dh_wpM d) (dh_bl 248) Q 6 ls st h = dh_wpB dh_sh (dh_wpM d) (dh_wp dh_sh (dh_wpM d) (dh_bl 248) Q) Q bk248_6 ls st h := dh_wp_eq (dh_wpM_mono d) rfl
/-- DoubleHeapModel.evenings(IIII)I -/
theorem m248 {p0 : Nat} {x1 : Int} {x2 : Int} {x3 : Int} {x4 : Int} : dh_wpM (d + 1) 248 [.inr (.inr (some p0)), .inl x1, .inl x2, .inl x3, .inl x4] h Q = dh_wp dh_sh (dh_wpM d) (dh_bl 248) Q 0 [some (.inr (.inr (some p0))), some (.inl x1), some (.inl x2), some (.inl x3), some (.inl x4), none, none, none] [] h := dh_mq (Nat.le_of_ble_eq_true rfl) rfl
theorem u249_0 : dh_wp dh_sh (dh_wpM d) (dh_bl 249) Q 0 ls st h = dh_wpB dh_sh (dh_wpM d) (dh_wp dh_sh (dh_wpM d) (dh_bl 249) Q) Q bk249_0 ls st h := dh_wp_eq (dh_wpM_mono d) rfl
theorem u249_1 : dh_wp dh_sh (dh_wpM d) (dh_bl 249) Q 1 ls st h = dh_wpB dh_sh (dh_wpM d) (dh_wp dh_sh (dh_wpM d) (dh_bl 249) Q) Q bk249_1 ls st h := dh_wp_eq (dh_wpM_mono d) rfl
/-- DoubleHeapModel.seed(I)Z -/
theorem m249 {p0 : Nat} {x1 : Int} : dh_wpM (d + 1) 249 [.inr (.inr (some p0)), .inl x1] h Q = dh_wp dh_sh (dh_wpM d) (dh_bl 249) Q 0 [some (.inr (.inr (some p0))), some (.inl x1)] [] h := dh_mq (Nat.le_of_ble_eq_true rfl) rfl
theorem u250_0 : dh_wp dh_sh (dh_wpM d) (dh_bl 250) Q 0 ls st h = dh_wpB dh_sh (dh_wpM d) (dh_wp dh_sh (dh_wpM d) (dh_bl 250) Q) Q bk250_0 ls st h := dh_wp_eq (dh_wpM_mono d) rfl
theorem u250_1 : dh_wp dh_sh (dh_wpM d) (dh_bl 250) Q 1 ls st h = dh_wpB dh_sh (dh_wpM d) (dh_wp dh_sh (dh_wpM d) (dh_bl 250) Q) Q bk250_1 ls st h := dh_wp_eq (dh_wpM_mono d) rfl
theorem u250_2 : dh_wp dh_sh (dh_wpM d) (dh_bl 250) Q 2 ls st h = dh_wpB dh_sh (dh_wpM d) (dh_wp dh_sh (dh_wpM d) (dh_bl 250) Q) Q bk250_2 ls st h := dh_wp_eq (dh_wpM_mono d) rfl
/-- DoubleHeapModel.keep()I -/
theorem m250 {p0 : Nat} : dh_wpM (d + 1) 250 [.inr (.inr (some p0))] h Q = dh_wp dh_sh (dh_wpM d) (dh_bl 250) Q 0 [some (.inr (.inr (some p0))), none] [] h := dh_mq (Nat.le_of_ble_eq_true rfl) rfl
theorem u251_0 : dh_wp dh_sh (dh_wpM d) (dh_bl 251) Q 0 ls st h = dh_wpB dh_sh (dh_wpM d) (dh_wp dh_sh (dh_wpM d) (dh_bl 251) Q) Q bk251_0 ls st h := dh_wp_eq (dh_wpM_mono d) rfl
theorem u251_1 : dh_wp dh_sh (dh_wpM d) (dh_bl 251) Q 1 ls st h = dh_wpB dh_sh (dh_wpM d) (dh_wp dh_sh (dh_wpM d) (dh_bl 251) Q) Q bk251_1 ls st h := dh_wp_eq (dh_wpM_mono d) rfl
theorem u251_2 : dh_wp dh_sh (dh_wpM d) (dh_bl 251) Q 2 ls st h = dh_wpB dh_sh (dh_wpM d) (dh_wp dh_sh (dh_wpM d) (dh_bl 251) Q) Q bk251_2 ls st h := dh_wp_eq (dh_wpM_mono d) rfl
theorem u251_3 : dh_wp dh_sh (dh_wpM d) (dh_bl 251) Q 3 ls st h = dh_wpB dh_sh (dh_wpM d) (dh_wp dh_sh (dh_wpM d) (dh_bl 251) Q) Q bk251_3 ls st h := dh_wp_eq (dh_wpM_mono d) rfl
/-- DoubleHeapModel.undo()Z -/
theorem m251 {p0 : Nat} : dh_wpM (d + 1) 251 [.inr (.inr (some p0))] h Q = dh_wp dh_sh (dh_wpM d) (dh_bl 251) Q 0 [some (.inr (.inr (some p0))), none] [] h := dh_mq (Nat.le_of_ble_eq_true rfl) rfl
theorem u252_0 : dh_wp dh_sh (dh_wpM d) (dh_bl 252) Q 0 ls st h = dh_wpB dh_sh (dh_wpM d) (dh_wp dh_sh (dh_wpM d) (dh_bl 252) Q) Q bk252_0 ls st h := dh_wp_eq (dh_wpM_mono d) rfl
theorem u252_1 : dh_wp dh_sh (dh_wpM d) (dh_bl 252) Q 1 ls st h = dh_wpB dh_sh (dh_wpM d) (dh_wp dh_sh (dh_wpM d) (dh_bl 252) Q) Q bk252_1 ls st h := dh_wp_eq (dh_wpM_mono d) rfl
theorem u252_2 : dh_wp dh_sh (dh_wpM d) (dh_bl 252) Q 2 ls st h = dh_wpB dh_sh (dh_wpM d) (dh_wp dh_sh (dh_wpM d) (dh_bl 252) Q) Q bk252_2 ls st h := dh_wp_eq (dh_wpM_mono d) rfl
theorem u252_3 : dh_wp dh_sh (dh_wpM d) (dh_bl 252) Q 3 ls st h = dh_wpB dh_sh (dh_wpM d) (dh_wp dh_sh (dh_wpM d) (dh_bl 252) Q) Q bk252_3 ls st h := dh_wp_eq (dh_wpM_mono d) rfl
theorem u252_4 : dh_wp dh_sh (dh_wpM d) (dh_bl 252) Q 4 ls st h = dh_wpB dh_sh (dh_wpM d) (dh_wp dh_sh (dh_wpM d) (dh_bl 252) Q) Q bk252_4 ls st h := dh_wp_eq (dh_wpM_mono d) rfl
theorem u252_5 : dh_wp dh_sh (dh_wpM d) (dh_bl 252) Q 5 ls st h = dh_wpB dh_sh (dh_wpM d) (dh_wp dh_sh (dh_wpM d) (dh_bl 252) Q) Q bk252_5 ls st h := dh_wp_eq (dh_wpM_mono d) rfl
/-- DoubleHeapModel.check(II)I -/
theorem m252 {p0 : Nat} {x1 : Int} {x2 : Int} : dh_wpM (d + 1) 252 [.inr (.inr (some p0)), .inl x1, .inl x2] h Q = dh_wp dh_sh (dh_wpM d) (dh_bl 252) Q 0 [some (.inr (.inr (some p0))), some (.inl x1), some (.inl x2), none] [] h := dh_mq (Nat.le_of_ble_eq_true rfl) rfl
theorem u253_0 : dh_wp dh_sh (dh_wpM d) (dh_bl 253) Q 0 ls st h = dh_wpB dh_sh (dh_wpM d) (dh_wp dh_sh (dh_wpM d) (dh_bl 253) Q) Q bk253_0 ls st h := dh_wp_eq (dh_wpM_mono d) rfl
theorem u253_1 : dh_wp dh_sh (dh_wpM d) (dh_bl 253) Q 1 ls st h = dh_wpB dh_sh (dh_wpM d) (dh_wp dh_sh (dh_wpM d) (dh_bl 253) Q) Q bk253_1 ls st h := dh_wp_eq (dh_wpM_mono d) rfl
theorem u253_2 : dh_wp dh_sh (dh_wpM d) (dh_bl 253) Q 2 ls st h = dh_wpB dh_sh (dh_wpM d) (dh_wp dh_sh (dh_wpM d) (dh_bl 253) Q) Q bk253_2 ls st h := dh_wp_eq (dh_wpM_mono d) rfl
theorem u253_3 : dh_wp dh_sh (dh_wpM d) (dh_bl 253) Q 3 ls st h = dh_wpB dh_sh (dh_wpM d) (dh_wp dh_sh (dh_wpM d) (dh_bl 253) Q) Q bk253_3 ls st h := dh_wp_eq (dh_wpM_mono d) rfl
theorem u253_4 : dh_wp dh_sh (dh_wpM d) (dh_bl 253) Q 4 ls st h = dh_wpB dh_sh (dh_wpM d) (dh_wp dh_sh (dh_wpM d) (dh_bl 253) Q) Q bk253_4 ls st h := dh_wp_eq (dh_wpM_mono d) rfl
theorem u253_5 : dh_wp dh_sh (dh_wpM d) (dh_bl 253) Q 5 ls st h = dh_wpB dh_sh (dh_wpM d) (dh_wp dh_sh (dh_wpM d) (dh_bl 253) Q) Q bk253_5 ls st h := dh_wp_eq (dh_wpM_mono d) rfl
theorem u253_6 : dh_wp dh_sh (dh_wpM d) (dh_bl 253) Q 6 ls st h = dh_wpB dh_sh (dh_wpM d) (dh_wp dh_sh (dh_wpM d) (dh_bl 253) Q) Q bk253_6 ls st h := dh_wp_eq (dh_wpM_mono d) rfl
theorem u253_7 : dh_wp dh_sh (dh_wpM d) (dh_bl 253) Q 7 ls st h = dh_wpB dh_sh (dh_wpM d) (dh_wp dh_sh (dh_wpM d) (dh_bl 253) Q) Q bk253_7 ls st h := dh_wp_eq (dh_wpM_mono d) rfl
theorem u253_8 : dh_wp dh_sh (dh_wpM d) (dh_bl 253) Q 8 ls st h = dh_wpB dh_sh (dh_wpM d) (dh_wp dh_sh (dh_wpM d) (dh_bl 253) Q) Q bk253_8 ls st h := dh_wp_eq (dh_wpM_mono d) rfl
theorem u253_9 : dh_wp dh_sh (dh_wpM d) (dh_bl 253) Q 9 ls st h = dh_wpB dh_sh (dh_wpM d) (dh_wp dh_sh (dh_wpM d) (dh_bl 253) Q) Q bk253_9 ls st h := dh_wp_eq (dh_wpM_mono d) rfl
theorem u253_10 : dh_wp dh_sh (dh_wpM d) (dh_bl 253) Q 10 ls st h = dh_wpB dh_sh (dh_wpM d) (dh_wp dh_sh (dh_wpM d) (dh_bl 253) Q) Q bk253_10 ls st h := dh_wp_eq (dh_wpM_mono d) rfl
theorem u253_11 : dh_wp dh_sh (dh_wpM d) (dh_bl 253) Q 11 ls st h = dh_wpB dh_sh (dh_wpM d) (dh_wp dh_sh (dh_wpM d) (dh_bl 253) Q) Q bk253_11 ls st h := dh_wp_eq (dh_wpM_mono d) rfl
theorem u253_12 : dh_wp dh_sh (dh_wpM d) (dh_bl 253) Q 12 ls st h = dh_wpB dh_sh (dh_wpM d) (dh_wp dh_sh (dh_wpM d) (dh_bl 253) Q) Q bk253_12 ls st h := dh_wp_eq (dh_wpM_mono d) rfl
/-- DoubleHeapModel.count(I)I -/
theorem m253 {p0 : Nat} {x1 : Int} : dh_wpM (d + 1) 253 [.inr (.inr (some p0)), .inl x1] h Q = dh_wp dh_sh (dh_wpM d) (dh_bl 253) Q 0 [some (.inr (.inr (some p0))), some (.inl x1)] [] h := dh_mq (Nat.le_of_ble_eq_true rfl) rfl
theorem u254_0 : dh_wp dh_sh (dh_wpM d) (dh_bl 254) Q 0 ls st h = dh_wpB dh_sh (dh_wpM d) (dh_wp dh_sh (dh_wpM d) (dh_bl 254) Q) Q bk254_0 ls st h := dh_wp_eq (dh_wpM_mono d) rfl
/-- java/lang/Long.bitCount(J)I -/
theorem m254 {x1 : BitVec 64} : dh_wpM (d + 1) 254 [.inr (.inl x1)] h Q = dh_wp dh_sh (dh_wpM d) (dh_bl 254) Q 0 [some (.inr (.inl x1)), none] [] h := dh_mq (Nat.le_of_ble_eq_true rfl) rfl
theorem u255_0 : dh_wp dh_sh (dh_wpM d) (dh_bl 255) Q 0 ls st h = dh_wpB dh_sh (dh_wpM d) (dh_wp dh_sh (dh_wpM d) (dh_bl 255) Q) Q bk255_0 ls st h := dh_wp_eq (dh_wpM_mono d) rfl
theorem u255_1 : dh_wp dh_sh (dh_wpM d) (dh_bl 255) Q 1 ls st h = dh_wpB dh_sh (dh_wpM d) (dh_wp dh_sh (dh_wpM d) (dh_bl 255) Q) Q bk255_1 ls st h := dh_wp_eq (dh_wpM_mono d) rfl
theorem u255_2 : dh_wp dh_sh (dh_wpM d) (dh_bl 255) Q 2 ls st h = dh_wpB dh_sh (dh_wpM d) (dh_wp dh_sh (dh_wpM d) (dh_bl 255) Q) Q bk255_2 ls st h := dh_wp_eq (dh_wpM_mono d) rfl
/-- java/util/Arrays.fill([JJ)V -/
theorem m255 {x1 : Option Nat} {x2 : BitVec 64} : dh_wpM (d + 1) 255 [.inr (.inr x1), .inr (.inl x2)] h Q = dh_wp dh_sh (dh_wpM d) (dh_bl 255) Q 0 [some (.inr (.inr x1)), some (.inr (.inl x2)), none, none, none] [] h := dh_mq (Nat.le_of_ble_eq_true rfl) rfl
end BLK
