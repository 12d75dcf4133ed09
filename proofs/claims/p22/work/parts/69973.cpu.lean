theorem fc_fX0_count_20 {σ0 : zSt} {σ : zSt} {s0 : Int64} (h : (zQ [3, 5, 7, 9, 11, 12, 15, 17, 19, 21, 23, 25, 27, 28, 29, 30, 32, 34, 36, 42, 44] [] [5, 38, 46, 48] []) σ0 σ) : zpc (fX0_count_20 σ s0) (fun r => (zQ [3, 5, 7, 9, 11, 12, 15, 17, 19, 21, 23, 25, 27, 28, 29, 30, 32, 34, 36, 42, 44] [] [5, 38, 46, 48] []) σ0 (r.1)) := by
  unfold fX0_count_20
  exact zpc_some h
theorem fc_fX0_count_19 {σ0 : zSt} {σ : zSt} (h : (zQ [3, 5, 7, 9, 11, 12, 15, 17, 19, 21, 23, 25, 27, 28, 29, 30, 32, 34, 36, 42, 44] [] [5, 38, 46, 48] []) σ0 σ) : zpc (fX0_count_19 σ) (fun r => (zQ [3, 5, 7, 9, 11, 12, 15, 17, 19, 21, 23, 25, 27, 28, 29, 30, 32, 34, 36, 42, 44] [] [5, 38, 46, 48] []) σ0 (r.1)) := by
  unfold fX0_count_19
  exact fc_fX0_count_20 h
theorem fc_fX0_count {σ0 : zSt} {σ : zSt} {x1 : Int32} (h : (zQ [3, 5, 7, 9, 11, 12, 15, 17, 19, 21, 23, 25, 27, 28, 29, 30, 32, 34, 36, 42, 44] [] [5, 38, 46, 48] []) σ0 σ) : zpc (fX0_count σ x1) (fun r => (zQ [3, 5, 7, 9, 11, 12, 15, 17, 19, 21, 23, 25, 27, 28, 29, 30, 32, 34, 36, 42, 44] [] [5, 38, 46, 48] []) σ0 (r.1)) := by
  unfold fX0_count
  exact zpc_if (fun _ => fc_fX0_count_19 h) (fun _ => zpc_if (fun _ => fc_fX0_count_19 h) (fun _ => zpc_ck (fc_fX0_count_20 h)))
theorem fc_fX0_countPicture {σ0 : zSt} {σ : zSt} (h : (zQ [3, 5, 7, 9, 11, 12, 15, 17, 19, 21, 23, 25, 27, 28, 29, 30, 32, 34, 36, 42, 44] [] [5, 38, 46, 48] []) σ0 σ) : zpc (fX0_countPicture σ) (fun r => (zQ [3, 5, 7, 9, 11, 12, 15, 17, 19, 21, 23, 25, 27, 28, 29, 30, 32, 34, 36, 42, 44] [] [5, 38, 46, 48] []) σ0 (r)) := by
  unfold fX0_countPicture
  exact zpc_ck (zpc_ck (zpc_bs (zQ.wl h rfl) (fun σ1 hσ1 => zpc_some hσ1)))
theorem fc_fX7_moveTone_57 {σ0 : zSt} {σ : zSt} {x1 : Int32} {x2 : Int32} (h : (zQ [3, 5, 7, 9, 11, 12, 15, 17, 19, 21, 23, 25, 27, 28, 29, 30, 32, 34, 36, 42, 44] [] [5, 38, 46, 48] []) σ0 σ) : zpc (fX7_moveTone_57 σ x1 x2) (fun r => (zQ [3, 5, 7, 9, 11, 12, 15, 17, 19, 21, 23, 25, 27, 28, 29, 30, 32, 34, 36, 42, 44] [] [5, 38, 46, 48] []) σ0 (r)) := by
  unfold fX7_moveTone_57
  exact zpc_ck (zpc_bs (zQ.wi h rfl) (fun σ1 hσ1 => zpc_some hσ1))
theorem fc_fX7_moveTone_56 {σ0 : zSt} {σ : zSt} {x1 : Int32} {x2 : Int32} {s0 : Int32} {s1 : Int32} (h : (zQ [3, 5, 7, 9, 11, 12, 15, 17, 19, 21, 23, 25, 27, 28, 29, 30, 32, 34, 36, 42, 44] [] [5, 38, 46, 48] []) σ0 σ) : zpc (fX7_moveTone_56 σ x1 x2 s0 s1) (fun r => (zQ [3, 5, 7, 9, 11, 12, 15, 17, 19, 21, 23, 25, 27, 28, 29, 30, 32, 34, 36, 42, 44] [] [5, 38, 46, 48] []) σ0 (r)) := by
  unfold fX7_moveTone_56
  exact zpc_ck (zpc_bs (zQ.wi h rfl) (fun σ2 hσ2 => fc_fX7_moveTone_57 hσ2))
theorem fc_fX7_moveTone {σ0 : zSt} {σ : zSt} {x1 : Int32} (h : (zQ [3, 5, 7, 9, 11, 12, 15, 17, 19, 21, 23, 25, 27, 28, 29, 30, 32, 34, 36, 42, 44] [] [5, 38, 46, 48] []) σ0 σ) : zpc (fX7_moveTone σ x1) (fun r => (zQ [3, 5, 7, 9, 11, 12, 15, 17, 19, 21, 23, 25, 27, 28, 29, 30, 32, 34, 36, 42, 44] [] [5, 38, 46, 48] []) σ0 (r)) := by
  unfold fX7_moveTone
  exact zpc_ck (zpc_bv (fun v3 _ => zpc_if (fun _ => zpc_ck (zpc_bv (fun v4 _ => zpc_if (fun _ => zpc_ck (fc_fX7_moveTone_56 h)) (fun _ => fc_fX7_moveTone_56 h)))) (fun _ => fc_fX7_moveTone_57 h)))
theorem fc_fX7_moveNoise_136 {σ0 : zSt} {σ : zSt} (h : (zQ [3, 5, 7, 9, 11, 12, 15, 17, 19, 21, 23, 25, 27, 28, 29, 30, 32, 34, 36, 42, 44] [] [5, 38, 46, 48] []) σ0 σ) : zpc (fX7_moveNoise_136 σ) (fun r => (zQ [3, 5, 7, 9, 11, 12, 15, 17, 19, 21, 23, 25, 27, 28, 29, 30, 32, 34, 36, 42, 44] [] [5, 38, 46, 48] []) σ0 (r)) := by
  unfold fX7_moveNoise_136
  exact zpc_some h
theorem fc_fX7_moveNoise_120 {σ0 : zSt} {σ : zSt} {x2 : Int32} {s0 : Int32} (h : (zQ [3, 5, 7, 9, 11, 12, 15, 17, 19, 21, 23, 25, 27, 28, 29, 30, 32, 34, 36, 42, 44] [] [5, 38, 46, 48] []) σ0 σ) : zpc (fX7_moveNoise_120 σ x2 s0) (fun r => (zQ [3, 5, 7, 9, 11, 12, 15, 17, 19, 21, 23, 25, 27, 28, 29, 30, 32, 34, 36, 42, 44] [] [5, 38, 46, 48] []) σ0 (r)) := by
  unfold fX7_moveNoise_120
  exact zpc_ck (zpc_bs (zQ.wi h rfl) (fun σ1 hσ1 => fc_fX7_moveNoise_136 hσ1))
theorem fc_fX7_moveNoise_65 {σ0 : zSt} {σ : zSt} {s0 : Int32} {s1 : Int32} (h : (zQ [3, 5, 7, 9, 11, 12, 15, 17, 19, 21, 23, 25, 27, 28, 29, 30, 32, 34, 36, 42, 44] [] [5, 38, 46, 48] []) σ0 σ) : zpc (fX7_moveNoise_65 σ s0 s1) (fun r => (zQ [3, 5, 7, 9, 11, 12, 15, 17, 19, 21, 23, 25, 27, 28, 29, 30, 32, 34, 36, 42, 44] [] [5, 38, 46, 48] []) σ0 (r)) := by
  unfold fX7_moveNoise_65
  exact zpc_ck (zpc_bs (zQ.wi h rfl) (fun σ2 hσ2 => zpc_ck (zpc_ck (zpc_bs (zQ.wi hσ2 rfl) (fun σ3 hσ3 => zpc_ck (zpc_if (fun _ => zpc_ck (zpc_bv (fun v4 _ => zpc_ck (zpc_if (fun _ => fc_fX7_moveNoise_120 hσ3) (fun _ => fc_fX7_moveNoise_120 hσ3))))) (fun _ => fc_fX7_moveNoise_136 hσ3)))))))
theorem fc_fX7_moveNoise {σ0 : zSt} {σ : zSt} (h : (zQ [3, 5, 7, 9, 11, 12, 15, 17, 19, 21, 23, 25, 27, 28, 29, 30, 32, 34, 36, 42, 44] [] [5, 38, 46, 48] []) σ0 σ) : zpc (fX7_moveNoise σ) (fun r => (zQ [3, 5, 7, 9, 11, 12, 15, 17, 19, 21, 23, 25, 27, 28, 29, 30, 32, 34, 36, 42, 44] [] [5, 38, 46, 48] []) σ0 (r)) := by
  unfold fX7_moveNoise
  exact zpc_ck (zpc_ck (zpc_bs (zQ.wi h rfl) (fun σ5 hσ5 => zpc_ck (zpc_if (fun _ => zpc_ck (zpc_bv (fun v6 _ => zpc_if (fun _ => zpc_ck (fc_fX7_moveNoise_65 hσ5)) (fun _ => fc_fX7_moveNoise_65 hσ5)))) (fun _ => zpc_some hσ5)))))
theorem fc_fX7_nextSample_87 {σ0 : zSt} {k28 : zSt → Int32 → Int32 → Int32 → Option (zSt × Int32)} (hk28 : ∀ (y0 : zSt) (y1 : Int32) (y2 : Int32) (y3 : Int32), (zQ [3, 5, 7, 9, 11, 12, 15, 17, 19, 21, 23, 25, 27, 28, 29, 30, 32, 34, 36, 42, 44] [] [5, 38, 46, 48] []) σ0 y0 → zpc (k28 y0 y1 y2 y3) (fun r => (zQ [3, 5, 7, 9, 11, 12, 15, 17, 19, 21, 23, 25, 27, 28, 29, 30, 32, 34, 36, 42, 44] [] [5, 38, 46, 48] []) σ0 (r.1))) {σ : zSt} {x1 : Int32} {x2 : Int32} {x3 : Int32} {s0 : Int32} (h : (zQ [3, 5, 7, 9, 11, 12, 15, 17, 19, 21, 23, 25, 27, 28, 29, 30, 32, 34, 36, 42, 44] [] [5, 38, 46, 48] []) σ0 σ) : zpc (fX7_nextSample_87 k28 σ x1 x2 x3 s0) (fun r => (zQ [3, 5, 7, 9, 11, 12, 15, 17, 19, 21, 23, 25, 27, 28, 29, 30, 32, 34, 36, 42, 44] [] [5, 38, 46, 48] []) σ0 (r.1)) := by
  unfold fX7_nextSample_87
  exact zpc_ck (zpc_bv (fun v1 _ => zpc_ck (zpc_bv (fun v2 _ => zpc_bv (fun v3 _ => hk28 _ _ _ _ h)))))
theorem fc_fX7_nextSample_59 {σ0 : zSt} {k28 : zSt → Int32 → Int32 → Int32 → Option (zSt × Int32)} (hk28 : ∀ (y0 : zSt) (y1 : Int32) (y2 : Int32) (y3 : Int32), (zQ [3, 5, 7, 9, 11, 12, 15, 17, 19, 21, 23, 25, 27, 28, 29, 30, 32, 34, 36, 42, 44] [] [5, 38, 46, 48] []) σ0 y0 → zpc (k28 y0 y1 y2 y3) (fun r => (zQ [3, 5, 7, 9, 11, 12, 15, 17, 19, 21, 23, 25, 27, 28, 29, 30, 32, 34, 36, 42, 44] [] [5, 38, 46, 48] []) σ0 (r.1))) {σ : zSt} {x1 : Int32} {x2 : Int32} {x3 : Int32} {s0 : Int32} (h : (zQ [3, 5, 7, 9, 11, 12, 15, 17, 19, 21, 23, 25, 27, 28, 29, 30, 32, 34, 36, 42, 44] [] [5, 38, 46, 48] []) σ0 σ) : zpc (fX7_nextSample_59 k28 σ x1 x2 x3 s0) (fun r => (zQ [3, 5, 7, 9, 11, 12, 15, 17, 19, 21, 23, 25, 27, 28, 29, 30, 32, 34, 36, 42, 44] [] [5, 38, 46, 48] []) σ0 (r.1)) := by
  unfold fX7_nextSample_59
  exact zpc_if (fun _ => zpc_ck (zpc_ck (fc_fX7_nextSample_87 hk28 h))) (fun _ => fc_fX7_nextSample_87 hk28 h)
theorem fc_fX7_nextSample_28_body {σ0 : zSt} {k28 : zSt → Int32 → Int32 → Int32 → Option (zSt × Int32)} (hk28 : ∀ (y0 : zSt) (y1 : Int32) (y2 : Int32) (y3 : Int32), (zQ [3, 5, 7, 9, 11, 12, 15, 17, 19, 21, 23, 25, 27, 28, 29, 30, 32, 34, 36, 42, 44] [] [5, 38, 46, 48] []) σ0 y0 → zpc (k28 y0 y1 y2 y3) (fun r => (zQ [3, 5, 7, 9, 11, 12, 15, 17, 19, 21, 23, 25, 27, 28, 29, 30, 32, 34, 36, 42, 44] [] [5, 38, 46, 48] []) σ0 (r.1))) {σ : zSt} {x1 : Int32} {x2 : Int32} {x3 : Int32} (h : (zQ [3, 5, 7, 9, 11, 12, 15, 17, 19, 21, 23, 25, 27, 28, 29, 30, 32, 34, 36, 42, 44] [] [5, 38, 46, 48] []) σ0 σ) : zpc (fX7_nextSample_28_body k28 σ x1 x2 x3) (fun r => (zQ [3, 5, 7, 9, 11, 12, 15, 17, 19, 21, 23, 25, 27, 28, 29, 30, 32, 34, 36, 42, 44] [] [5, 38, 46, 48] []) σ0 (r.1)) := by
  unfold fX7_nextSample_28_body
  exact zpc_if (fun _ => zpc_some h) (fun _ => zpc_if (fun _ => zpc_ck (fc_fX7_nextSample_59 hk28 h)) (fun _ => zpc_ck (fc_fX7_nextSample_59 hk28 h)))
theorem fc_fX7_nextSample_28 {σ0 : zSt} : ∀ (n : Nat) (y0 : zSt) (y1 : Int32) (y2 : Int32) (y3 : Int32), (zQ [3, 5, 7, 9, 11, 12, 15, 17, 19, 21, 23, 25, 27, 28, 29, 30, 32, 34, 36, 42, 44] [] [5, 38, 46, 48] []) σ0 y0 → zpc (fX7_nextSample_28 n y0 y1 y2 y3) (fun r => (zQ [3, 5, 7, 9, 11, 12, 15, 17, 19, 21, 23, 25, 27, 28, 29, 30, 32, 34, 36, 42, 44] [] [5, 38, 46, 48] []) σ0 (r.1)) := by
  intro n
  induction n with
  | zero => intro y0 y1 y2 y3 h; exact zpc_none
  | succ n ih => intro y0 y1 y2 y3 h; exact fc_fX7_nextSample_28_body ih h
theorem fc_fX7_nextSample_2_body {σ0 : zSt} {k2 : zSt → Int32 → Option (zSt × Int32)} (hk2 : ∀ (y0 : zSt) (y1 : Int32), (zQ [3, 5, 7, 9, 11, 12, 15, 17, 19, 21, 23, 25, 27, 28, 29, 30, 32, 34, 36, 42, 44] [] [5, 38, 46, 48] []) σ0 y0 → zpc (k2 y0 y1) (fun r => (zQ [3, 5, 7, 9, 11, 12, 15, 17, 19, 21, 23, 25, 27, 28, 29, 30, 32, 34, 36, 42, 44] [] [5, 38, 46, 48] []) σ0 (r.1))) {σ : zSt} {x1 : Int32} (h : (zQ [3, 5, 7, 9, 11, 12, 15, 17, 19, 21, 23, 25, 27, 28, 29, 30, 32, 34, 36, 42, 44] [] [5, 38, 46, 48] []) σ0 σ) : zpc (fX7_nextSample_2_body k2 σ x1) (fun r => (zQ [3, 5, 7, 9, 11, 12, 15, 17, 19, 21, 23, 25, 27, 28, 29, 30, 32, 34, 36, 42, 44] [] [5, 38, 46, 48] []) σ0 (r.1)) := by
  unfold fX7_nextSample_2_body
  exact zpc_if (fun _ => zpc_bu (fc_fX7_moveNoise h) (fun σ4 hσ4 => fc_fX7_nextSample_28 _ _ _ _ _ hσ4)) (fun _ => zpc_bu (fc_fX7_moveTone h) (fun σ5 hσ5 => zpc_bv (fun v6 _ => hk2 _ _ hσ5)))
theorem fc_fX7_nextSample_2 {σ0 : zSt} : ∀ (n : Nat) (y0 : zSt) (y1 : Int32), (zQ [3, 5, 7, 9, 11, 12, 15, 17, 19, 21, 23, 25, 27, 28, 29, 30, 32, 34, 36, 42, 44] [] [5, 38, 46, 48] []) σ0 y0 → zpc (fX7_nextSample_2 n y0 y1) (fun r => (zQ [3, 5, 7, 9, 11, 12, 15, 17, 19, 21, 23, 25, 27, 28, 29, 30, 32, 34, 36, 42, 44] [] [5, 38, 46, 48] []) σ0 (r.1)) := by
  intro n
  induction n with
  | zero => intro y0 y1 h; exact zpc_none
  | succ n ih => intro y0 y1 h; exact fc_fX7_nextSample_2_body ih h
theorem fc_fX7_nextSample {σ0 : zSt} {σ : zSt} (h : (zQ [3, 5, 7, 9, 11, 12, 15, 17, 19, 21, 23, 25, 27, 28, 29, 30, 32, 34, 36, 42, 44] [] [5, 38, 46, 48] []) σ0 σ) : zpc (fX7_nextSample σ) (fun r => (zQ [3, 5, 7, 9, 11, 12, 15, 17, 19, 21, 23, 25, 27, 28, 29, 30, 32, 34, 36, 42, 44] [] [5, 38, 46, 48] []) σ0 (r.1)) := by
  unfold fX7_nextSample
  exact fc_fX7_nextSample_2 _ _ _ h
theorem fc_fX6_add_k11_56 {σ0 : zSt} {σ : zSt} (h : (zQ [3, 5, 7, 9, 11, 12, 15, 17, 19, 21, 23, 25, 27, 28, 29, 30, 32, 34, 36, 42, 44] [] [5, 38, 46, 48] []) σ0 σ) : zpc (fX6_add_k11_56 σ) (fun r => (zQ [3, 5, 7, 9, 11, 12, 15, 17, 19, 21, 23, 25, 27, 28, 29, 30, 32, 34, 36, 42, 44] [] [5, 38, 46, 48] []) σ0 (r)) := by
  unfold fX6_add_k11_56
  exact zpc_some h
theorem fc_fX6_add_k11 {σ0 : zSt} {σ : zSt} {x1 : Int64} (h : (zQ [3, 5, 7, 9, 11, 12, 15, 17, 19, 21, 23, 25, 27, 28, 29, 30, 32, 34, 36, 42, 44] [] [5, 38, 46, 48] []) σ0 σ) : zpc (fX6_add_k11 σ x1) (fun r => (zQ [3, 5, 7, 9, 11, 12, 15, 17, 19, 21, 23, 25, 27, 28, 29, 30, 32, 34, 36, 42, 44] [] [5, 38, 46, 48] []) σ0 (r)) := by
  unfold fX6_add_k11
  exact zpc_ck (zpc_bs (zQ.wl h rfl) (fun σ1 hσ1 => zpc_if (fun _ => zpc_bs (zQ.wi hσ1 rfl) (fun σ2 hσ2 => fc_fX6_add_k11_56 hσ2)) (fun _ => zpc_bs (zQ.wi hσ1 rfl) (fun σ3 hσ3 => fc_fX6_add_k11_56 hσ3))))
theorem fc_fX0_addSample {σ0 : zSt} {σ : zSt} (h : (zQ [3, 5, 7, 9, 11, 12, 15, 17, 19, 21, 23, 25, 27, 28, 29, 30, 32, 34, 36, 42, 44] [] [5, 38, 46, 48] []) σ0 σ) : zpc (fX0_addSample σ) (fun r => (zQ [3, 5, 7, 9, 11, 12, 15, 17, 19, 21, 23, 25, 27, 28, 29, 30, 32, 34, 36, 42, 44] [] [5, 38, 46, 48] []) σ0 (r)) := by
  unfold fX0_addSample
  exact zpc_bi (fc_fX7_nextSample h) (fun σ1 v2 hσ1 => zpc_bu (fc_fX6_add_k11 hσ1) (fun σ3 hσ3 => zpc_ck (zpc_ck (zpc_bs (zQ.wl hσ3 rfl) (fun σ4 hσ4 => zpc_ck (zpc_ck (zpc_bs (zQ.wl hσ4 rfl) (fun σ5 hσ5 => zpc_ck (zpc_ck (zpc_bs (zQ.wl hσ5 rfl) (fun σ6 hσ6 => zpc_ck (zpc_ck (zpc_bs (zQ.wl hσ6 rfl) (fun σ7 hσ7 => zpc_some hσ7))))))))))))))
theorem fc_fX10_takeOwnPatch_7_body {σ0 : zSt} {k7 : zSt → Int32 → Option (zSt)} (hk7 : ∀ (y0 : zSt) (y1 : Int32), (zQ [3, 5, 7, 9, 11, 12, 15, 17, 19, 21, 23, 25, 27, 28, 29, 30, 32, 34, 36, 42, 44] [] [5, 38, 46, 48] []) σ0 y0 → zpc (k7 y0 y1) (fun r => (zQ [3, 5, 7, 9, 11, 12, 15, 17, 19, 21, 23, 25, 27, 28, 29, 30, 32, 34, 36, 42, 44] [] [5, 38, 46, 48] []) σ0 (r))) {σ : zSt} {x1 : Int32} (h : (zQ [3, 5, 7, 9, 11, 12, 15, 17, 19, 21, 23, 25, 27, 28, 29, 30, 32, 34, 36, 42, 44] [] [5, 38, 46, 48] []) σ0 σ) : zpc (fX10_takeOwnPatch_7_body k7 σ x1) (fun r => (zQ [3, 5, 7, 9, 11, 12, 15, 17, 19, 21, 23, 25, 27, 28, 29, 30, 32, 34, 36, 42, 44] [] [5, 38, 46, 48] []) σ0 (r)) := by
  unfold fX10_takeOwnPatch_7_body
  exact zpc_if (fun _ => zpc_some h) (fun _ => zpc_ck (zpc_bs (zQ.wl h rfl) (fun σ1 hσ1 => zpc_bv (fun v2 _ => hk7 _ _ hσ1))))
theorem fc_fX10_takeOwnPatch_7 {σ0 : zSt} : ∀ (n : Nat) (y0 : zSt) (y1 : Int32), (zQ [3, 5, 7, 9, 11, 12, 15, 17, 19, 21, 23, 25, 27, 28, 29, 30, 32, 34, 36, 42, 44] [] [5, 38, 46, 48] []) σ0 y0 → zpc (fX10_takeOwnPatch_7 n y0 y1) (fun r => (zQ [3, 5, 7, 9, 11, 12, 15, 17, 19, 21, 23, 25, 27, 28, 29, 30, 32, 34, 36, 42, 44] [] [5, 38, 46, 48] []) σ0 (r)) := by
  intro n
  induction n with
  | zero => intro y0 y1 h; exact zpc_none
  | succ n ih => intro y0 y1 h; exact fc_fX10_takeOwnPatch_7_body ih h
theorem fc_fX10_takeOwnPatch {σ0 : zSt} {σ : zSt} (h : (zQ [3, 5, 7, 9, 11, 12, 15, 17, 19, 21, 23, 25, 27, 28, 29, 30, 32, 34, 36, 42, 44] [] [5, 38, 46, 48] []) σ0 σ) : zpc (fX10_takeOwnPatch σ) (fun r => (zQ [3, 5, 7, 9, 11, 12, 15, 17, 19, 21, 23, 25, 27, 28, 29, 30, 32, 34, 36, 42, 44] [] [5, 38, 46, 48] []) σ0 (r)) := by
  unfold fX10_takeOwnPatch
  exact zpc_bs (zQ.wl h rfl) (fun σ3 hσ3 => fc_fX10_takeOwnPatch_7 _ _ _ hσ3)
theorem fc_fX10_takeChannel_110 {σ0 : zSt} {σ : zSt} {s0 : Int64} (h : (zQ [3, 5, 7, 9, 11, 12, 15, 17, 19, 21, 23, 25, 27, 28, 29, 30, 32, 34, 36, 42, 44] [] [5, 38, 46, 48] []) σ0 σ) : zpc (fX10_takeChannel_110 σ s0) (fun r => (zQ [3, 5, 7, 9, 11, 12, 15, 17, 19, 21, 23, 25, 27, 28, 29, 30, 32, 34, 36, 42, 44] [] [5, 38, 46, 48] []) σ0 (r)) := by
  unfold fX10_takeChannel_110
  exact zpc_bs (zQ.wl h rfl) (fun σ1 hσ1 => zpc_some hσ1)
theorem fc_fX10_takeChannel_106 {σ0 : zSt} {σ : zSt} (h : (zQ [3, 5, 7, 9, 11, 12, 15, 17, 19, 21, 23, 25, 27, 28, 29, 30, 32, 34, 36, 42, 44] [] [5, 38, 46, 48] []) σ0 σ) : zpc (fX10_takeChannel_106 σ) (fun r => (zQ [3, 5, 7, 9, 11, 12, 15, 17, 19, 21, 23, 25, 27, 28, 29, 30, 32, 34, 36, 42, 44] [] [5, 38, 46, 48] []) σ0 (r)) := by
  unfold fX10_takeChannel_106
  exact fc_fX10_takeChannel_110 h
theorem fc_fX10_takeChannel_82 {σ0 : zSt} {σ : zSt} {s0 : Int32} (h : (zQ [3, 5, 7, 9, 11, 12, 15, 17, 19, 21, 23, 25, 27, 28, 29, 30, 32, 34, 36, 42, 44] [] [5, 38, 46, 48] []) σ0 σ) : zpc (fX10_takeChannel_82 σ s0) (fun r => (zQ [3, 5, 7, 9, 11, 12, 15, 17, 19, 21, 23, 25, 27, 28, 29, 30, 32, 34, 36, 42, 44] [] [5, 38, 46, 48] []) σ0 (r)) := by
  unfold fX10_takeChannel_82
  exact zpc_if (fun _ => fc_fX10_takeChannel_106 h) (fun _ => zpc_if (fun _ => fc_fX10_takeChannel_106 h) (fun _ => zpc_ck (fc_fX10_takeChannel_110 h)))
theorem fc_fX10_takeChannel_71 {σ0 : zSt} {σ : zSt} {x1 : Int32} (h : (zQ [3, 5, 7, 9, 11, 12, 15, 17, 19, 21, 23, 25, 27, 28, 29, 30, 32, 34, 36, 42, 44] [] [5, 38, 46, 48] []) σ0 σ) : zpc (fX10_takeChannel_71 σ x1) (fun r => (zQ [3, 5, 7, 9, 11, 12, 15, 17, 19, 21, 23, 25, 27, 28, 29, 30, 32, 34, 36, 42, 44] [] [5, 38, 46, 48] []) σ0 (r)) := by
  unfold fX10_takeChannel_71
  exact zpc_ck (fc_fX10_takeChannel_82 h)
theorem fc_fX10_takeChannel {σ0 : zSt} {σ : zSt} {x1 : Int32} (h : (zQ [3, 5, 7, 9, 11, 12, 15, 17, 19, 21, 23, 25, 27, 28, 29, 30, 32, 34, 36, 42, 44] [] [5, 38, 46, 48] []) σ0 σ) : zpc (fX10_takeChannel σ x1) (fun r => (zQ [3, 5, 7, 9, 11, 12, 15, 17, 19, 21, 23, 25, 27, 28, 29, 30, 32, 34, 36, 42, 44] [] [5, 38, 46, 48] []) σ0 (r)) := by
  unfold fX10_takeChannel
  exact zpc_bs (zQ.wi h rfl) (fun σ2 hσ2 => zpc_ck (zpc_ck (zpc_bs (zQ.wi hσ2 rfl) (fun σ3 hσ3 => zpc_ck (zpc_bs (zQ.wi hσ3 rfl) (fun σ4 hσ4 => zpc_if (fun _ => fc_fX10_takeChannel_71 hσ4) (fun _ => zpc_if (fun _ => fc_fX10_takeChannel_71 hσ4) (fun _ => fc_fX10_takeChannel_82 hσ4))))))))
theorem fc_fX10_isOn_131 {σ0 : zSt} {σ : zSt} {s0 : Int32} (h : (zQ [3, 5, 7, 9, 11, 12, 15, 17, 19, 21, 23, 25, 27, 28, 29, 30, 32, 34, 36, 42, 44] [] [5, 38, 46, 48] []) σ0 σ) : zpc (fX10_isOn_131 σ s0) (fun r => (zQ [3, 5, 7, 9, 11, 12, 15, 17, 19, 21, 23, 25, 27, 28, 29, 30, 32, 34, 36, 42, 44] [] [5, 38, 46, 48] []) σ0 (r.1)) := by
  unfold fX10_isOn_131
  exact zpc_ck (zpc_some h)
theorem fc_fX10_isOn_122 {σ0 : zSt} {σ : zSt} {s0 : Int32} {s1 : Int32} (h : (zQ [3, 5, 7, 9, 11, 12, 15, 17, 19, 21, 23, 25, 27, 28, 29, 30, 32, 34, 36, 42, 44] [] [5, 38, 46, 48] []) σ0 σ) : zpc (fX10_isOn_122 σ s0 s1) (fun r => (zQ [3, 5, 7, 9, 11, 12, 15, 17, 19, 21, 23, 25, 27, 28, 29, 30, 32, 34, 36, 42, 44] [] [5, 38, 46, 48] []) σ0 (r.1)) := by
  unfold fX10_isOn_122
  exact zpc_if (fun _ => fc_fX10_isOn_131 h) (fun _ => fc_fX10_isOn_131 h)
theorem fc_fX10_isOn_105 {σ0 : zSt} {σ : zSt} {s0 : Int32} (h : (zQ [3, 5, 7, 9, 11, 12, 15, 17, 19, 21, 23, 25, 27, 28, 29, 30, 32, 34, 36, 42, 44] [] [5, 38, 46, 48] []) σ0 σ) : zpc (fX10_isOn_105 σ s0) (fun r => (zQ [3, 5, 7, 9, 11, 12, 15, 17, 19, 21, 23, 25, 27, 28, 29, 30, 32, 34, 36, 42, 44] [] [5, 38, 46, 48] []) σ0 (r.1)) := by
  unfold fX10_isOn_105
  exact zpc_ck (zpc_some h)
theorem fc_fX10_isOn_96 {σ0 : zSt} {σ : zSt} {s0 : Int32} {s1 : Int32} (h : (zQ [3, 5, 7, 9, 11, 12, 15, 17, 19, 21, 23, 25, 27, 28, 29, 30, 32, 34, 36, 42, 44] [] [5, 38, 46, 48] []) σ0 σ) : zpc (fX10_isOn_96 σ s0 s1) (fun r => (zQ [3, 5, 7, 9, 11, 12, 15, 17, 19, 21, 23, 25, 27, 28, 29, 30, 32, 34, 36, 42, 44] [] [5, 38, 46, 48] []) σ0 (r.1)) := by
  unfold fX10_isOn_96
  exact zpc_if (fun _ => fc_fX10_isOn_105 h) (fun _ => fc_fX10_isOn_105 h)
theorem fc_fX10_isOn_78 {σ0 : zSt} {σ : zSt} {s0 : Int32} (h : (zQ [3, 5, 7, 9, 11, 12, 15, 17, 19, 21, 23, 25, 27, 28, 29, 30, 32, 34, 36, 42, 44] [] [5, 38, 46, 48] []) σ0 σ) : zpc (fX10_isOn_78 σ s0) (fun r => (zQ [3, 5, 7, 9, 11, 12, 15, 17, 19, 21, 23, 25, 27, 28, 29, 30, 32, 34, 36, 42, 44] [] [5, 38, 46, 48] []) σ0 (r.1)) := by
  unfold fX10_isOn_78
  exact zpc_ck (zpc_some h)
theorem fc_fX10_isOn {σ0 : zSt} {σ : zSt} {x1 : Int32} (h : (zQ [3, 5, 7, 9, 11, 12, 15, 17, 19, 21, 23, 25, 27, 28, 29, 30, 32, 34, 36, 42, 44] [] [5, 38, 46, 48] []) σ0 σ) : zpc (fX10_isOn σ x1) (fun r => (zQ [3, 5, 7, 9, 11, 12, 15, 17, 19, 21, 23, 25, 27, 28, 29, 30, 32, 34, 36, 42, 44] [] [5, 38, 46, 48] []) σ0 (r.1)) := by
  unfold fX10_isOn
  exact zpc_ck (zpc_if (fun _ => zpc_if (fun _ => zpc_ck (zpc_some h)) (fun _ => zpc_if (fun _ => zpc_ck (zpc_if (fun _ => fc_fX10_isOn_78 h) (fun _ => fc_fX10_isOn_78 h))) (fun _ => zpc_if (fun _ => zpc_ck (zpc_if (fun _ => fc_fX10_isOn_96 h) (fun _ => fc_fX10_isOn_96 h))) (fun _ => zpc_if (fun _ => zpc_ck (zpc_if (fun _ => fc_fX10_isOn_122 h) (fun _ => fc_fX10_isOn_122 h))) (fun _ => zpc_ck (zpc_some h)))))) (fun _ => zpc_ck (zpc_some h)))
theorem fc_fX10_part {σ0 : zSt} {σ : zSt} {x1 : Int32} (h : (zQ [3, 5, 7, 9, 11, 12, 15, 17, 19, 21, 23, 25, 27, 28, 29, 30, 32, 34, 36, 42, 44] [] [5, 38, 46, 48] []) σ0 σ) : zpc (fX10_part σ x1) (fun r => (zQ [3, 5, 7, 9, 11, 12, 15, 17, 19, 21, 23, 25, 27, 28, 29, 30, 32, 34, 36, 42, 44] [] [5, 38, 46, 48] []) σ0 (r.1)) := by
  unfold fX10_part
  exact zpc_some h
theorem fc_fX10_rateIn_126 {σ0 : zSt} {σ : zSt} {s0 : Int32} (h : (zQ [3, 5, 7, 9, 11, 12, 15, 17, 19, 21, 23, 25, 27, 28, 29, 30, 32, 34, 36, 42, 44] [] [5, 38, 46, 48] []) σ0 σ) : zpc (fX10_rateIn_126 σ s0) (fun r => (zQ [3, 5, 7, 9, 11, 12, 15, 17, 19, 21, 23, 25, 27, 28, 29, 30, 32, 34, 36, 42, 44] [] [5, 38, 46, 48] []) σ0 (r.1)) := by
  unfold fX10_rateIn_126
  exact zpc_some h
theorem fc_fX10_rateIn_94 {σ0 : zSt} {σ : zSt} {s0 : Int32} (h : (zQ [3, 5, 7, 9, 11, 12, 15, 17, 19, 21, 23, 25, 27, 28, 29, 30, 32, 34, 36, 42, 44] [] [5, 38, 46, 48] []) σ0 σ) : zpc (fX10_rateIn_94 σ s0) (fun r => (zQ [3, 5, 7, 9, 11, 12, 15, 17, 19, 21, 23, 25, 27, 28, 29, 30, 32, 34, 36, 42, 44] [] [5, 38, 46, 48] []) σ0 (r.1)) := by
  unfold fX10_rateIn_94
  exact zpc_some h
theorem fc_fX10_rateIn_16 {σ0 : zSt} {σ : zSt} {x1 : Int32} {x2 : Int32} {s0 : Int32} (h : (zQ [3, 5, 7, 9, 11, 12, 15, 17, 19, 21, 23, 25, 27, 28, 29, 30, 32, 34, 36, 42, 44] [] [5, 38, 46, 48] []) σ0 σ) : zpc (fX10_rateIn_16 σ x1 x2 s0) (fun r => (zQ [3, 5, 7, 9, 11, 12, 15, 17, 19, 21, 23, 25, 27, 28, 29, 30, 32, 34, 36, 42, 44] [] [5, 38, 46, 48] []) σ0 (r.1)) := by
  unfold fX10_rateIn_16
  exact zpc_bi (fc_fX10_part h) (fun σ1 v2 hσ1 => zpc_bv (fun v3 _ => zpc_if (fun _ => zpc_some hσ1) (fun _ => zpc_if (fun _ => zpc_bi (fc_fX10_part hσ1) (fun σ4 v5 hσ4 => zpc_some hσ4)) (fun _ => zpc_if (fun _ => zpc_bi (fc_fX10_part hσ1) (fun σ6 v7 hσ6 => zpc_some hσ6)) (fun _ => zpc_if (fun _ => zpc_if (fun _ => fc_fX10_rateIn_94 hσ1) (fun _ => fc_fX10_rateIn_94 hσ1)) (fun _ => zpc_ck (zpc_if (fun _ => zpc_if (fun _ => fc_fX10_rateIn_126 hσ1) (fun _ => fc_fX10_rateIn_126 hσ1)) (fun _ => zpc_some hσ1))))))))
theorem fc_fX10_rateIn {σ0 : zSt} {σ : zSt} {x1 : Int32} {x2 : Int32} (h : (zQ [3, 5, 7, 9, 11, 12, 15, 17, 19, 21, 23, 25, 27, 28, 29, 30, 32, 34, 36, 42, 44] [] [5, 38, 46, 48] []) σ0 σ) : zpc (fX10_rateIn σ x1 x2) (fun r => (zQ [3, 5, 7, 9, 11, 12, 15, 17, 19, 21, 23, 25, 27, 28, 29, 30, 32, 34, 36, 42, 44] [] [5, 38, 46, 48] []) σ0 (r.1)) := by
  unfold fX10_rateIn
  exact zpc_bi (fc_fX10_part h) (fun σ8 v9 hσ8 => zpc_if (fun _ => fc_fX10_rateIn_16 hσ8) (fun _ => fc_fX10_rateIn_16 hσ8))
theorem fc_fX10_slowTick {σ0 : zSt} {σ : zSt} (h : (zQ [3, 5, 7, 9, 11, 12, 15, 17, 19, 21, 23, 25, 27, 28, 29, 30, 32, 34, 36, 42, 44] [] [5, 38, 46, 48] []) σ0 σ) : zpc (fX10_slowTick σ) (fun r => (zQ [3, 5, 7, 9, 11, 12, 15, 17, 19, 21, 23, 25, 27, 28, 29, 30, 32, 34, 36, 42, 44] [] [5, 38, 46, 48] []) σ0 (r.1)) := by
  unfold fX10_slowTick
  exact zpc_ck (zpc_some h)
theorem fc_fX10_tickAt_53 {σ0 : zSt} {σ : zSt} {s0 : Int32} (h : (zQ [3, 5, 7, 9, 11, 12, 15, 17, 19, 21, 23, 25, 27, 28, 29, 30, 32, 34, 36, 42, 44] [] [5, 38, 46, 48] []) σ0 σ) : zpc (fX10_tickAt_53 σ s0) (fun r => (zQ [3, 5, 7, 9, 11, 12, 15, 17, 19, 21, 23, 25, 27, 28, 29, 30, 32, 34, 36, 42, 44] [] [5, 38, 46, 48] []) σ0 (r.1)) := by
  unfold fX10_tickAt_53
  exact zpc_some h
theorem fc_fX10_tickAt_26 {σ0 : zSt} {σ : zSt} {x2 : Int32} {x3 : Int32} {s0 : Int32} (h : (zQ [3, 5, 7, 9, 11, 12, 15, 17, 19, 21, 23, 25, 27, 28, 29, 30, 32, 34, 36, 42, 44] [] [5, 38, 46, 48] []) σ0 σ) : zpc (fX10_tickAt_26 σ x2 x3 s0) (fun r => (zQ [3, 5, 7, 9, 11, 12, 15, 17, 19, 21, 23, 25, 27, 28, 29, 30, 32, 34, 36, 42, 44] [] [5, 38, 46, 48] []) σ0 (r.1)) := by
  unfold fX10_tickAt_26
  exact zpc_if (fun _ => fc_fX10_tickAt_53 h) (fun _ => zpc_ck (fc_fX10_tickAt_53 h))
theorem fc_fX10_tickAt {σ0 : zSt} {σ : zSt} {x1 : Int32} {x2 : Int32} (h : (zQ [3, 5, 7, 9, 11, 12, 15, 17, 19, 21, 23, 25, 27, 28, 29, 30, 32, 34, 36, 42, 44] [] [5, 38, 46, 48] []) σ0 σ) : zpc (fX10_tickAt σ x1 x2) (fun r => (zQ [3, 5, 7, 9, 11, 12, 15, 17, 19, 21, 23, 25, 27, 28, 29, 30, 32, 34, 36, 42, 44] [] [5, 38, 46, 48] []) σ0 (r.1)) := by
  unfold fX10_tickAt
  exact zpc_bv (fun v1 _ => zpc_ck (zpc_if (fun _ => fc_fX10_tickAt_26 h) (fun _ => fc_fX10_tickAt_26 h)))
theorem fc_fX10_louder_56 {σ0 : zSt} {σ : zSt} {s0 : Int32} (h : (zQ [3, 5, 7, 9, 11, 12, 15, 17, 19, 21, 23, 25, 27, 28, 29, 30, 32, 34, 36, 42, 44] [] [5, 38, 46, 48] []) σ0 σ) : zpc (fX10_louder_56 σ s0) (fun r => (zQ [3, 5, 7, 9, 11, 12, 15, 17, 19, 21, 23, 25, 27, 28, 29, 30, 32, 34, 36, 42, 44] [] [5, 38, 46, 48] []) σ0 (r.1)) := by
  unfold fX10_louder_56
  exact zpc_some h
theorem fc_fX10_louder {σ0 : zSt} {σ : zSt} {x1 : Int32} {x2 : Int32} {x3 : Int32} (h : (zQ [3, 5, 7, 9, 11, 12, 15, 17, 19, 21, 23, 25, 27, 28, 29, 30, 32, 34, 36, 42, 44] [] [5, 38, 46, 48] []) σ0 σ) : zpc (fX10_louder σ x1 x2 x3) (fun r => (zQ [3, 5, 7, 9, 11, 12, 15, 17, 19, 21, 23, 25, 27, 28, 29, 30, 32, 34, 36, 42, 44] [] [5, 38, 46, 48] []) σ0 (r.1)) := by
  unfold fX10_louder
  exact zpc_if (fun _ => zpc_some h) (fun _ => zpc_if (fun _ => zpc_bi (fc_fX10_tickAt h) (fun σ1 v2 hσ1 => zpc_if (fun _ => zpc_ck (fc_fX10_louder_56 hσ1)) (fun _ => fc_fX10_louder_56 hσ1))) (fun _ => zpc_bi (fc_fX10_slowTick h) (fun σ3 v4 hσ3 => zpc_some hσ3)))
theorem fc_fX10_softer {σ0 : zSt} {σ : zSt} {x1 : Int32} {x2 : Int32} (h : (zQ [3, 5, 7, 9, 11, 12, 15, 17, 19, 21, 23, 25, 27, 28, 29, 30, 32, 34, 36, 42, 44] [] [5, 38, 46, 48] []) σ0 σ) : zpc (fX10_softer σ x1 x2) (fun r => (zQ [3, 5, 7, 9, 11, 12, 15, 17, 19, 21, 23, 25, 27, 28, 29, 30, 32, 34, 36, 42, 44] [] [5, 38, 46, 48] []) σ0 (r.1)) := by
  unfold fX10_softer
  exact zpc_if (fun _ => zpc_bi (fc_fX10_slowTick h) (fun σ1 v2 hσ1 => zpc_ck (zpc_some hσ1))) (fun _ => zpc_if (fun _ => zpc_bi (fc_fX10_slowTick h) (fun σ3 v4 hσ3 => zpc_some hσ3)) (fun _ => zpc_if (fun _ => zpc_some h) (fun _ => zpc_bi (fc_fX10_tickAt h) (fun σ5 v6 hσ5 => zpc_some hσ5))))
theorem fc_fX10_moveLevel_148 {σ0 : zSt} {σ : zSt} (h : (zQ [3, 5, 7, 9, 11, 12, 15, 17, 19, 21, 23, 25, 27, 28, 29, 30, 32, 34, 36, 42, 44] [] [5, 38, 46, 48] []) σ0 σ) : zpc (fX10_moveLevel_148 σ) (fun r => (zQ [3, 5, 7, 9, 11, 12, 15, 17, 19, 21, 23, 25, 27, 28, 29, 30, 32, 34, 36, 42, 44] [] [5, 38, 46, 48] []) σ0 (r)) := by
  unfold fX10_moveLevel_148
  exact zpc_some h
theorem fc_fX10_moveLevel_52 {σ0 : zSt} {σ : zSt} {x1 : Int32} {x3 : Int32} {x4 : Int32} (h : (zQ [3, 5, 7, 9, 11, 12, 15, 17, 19, 21, 23, 25, 27, 28, 29, 30, 32, 34, 36, 42, 44] [] [5, 38, 46, 48] []) σ0 σ) : zpc (fX10_moveLevel_52 σ x1 x3 x4) (fun r => (zQ [3, 5, 7, 9, 11, 12, 15, 17, 19, 21, 23, 25, 27, 28, 29, 30, 32, 34, 36, 42, 44] [] [5, 38, 46, 48] []) σ0 (r)) := by
  unfold fX10_moveLevel_52
  exact zpc_ck (zpc_bv (fun v1 _ => zpc_ck (zpc_bv (fun v2 _ => zpc_ck (zpc_if (fun _ => zpc_ck (zpc_bi (fc_fX10_louder h) (fun σ6 v7 hσ6 => zpc_ck (zpc_bs (zQ.wi hσ6 rfl) (fun σ8 hσ8 => fc_fX10_moveLevel_148 hσ8))))) (fun _ => zpc_ck (zpc_bi (fc_fX10_softer h) (fun σ3 v4 hσ3 => zpc_ck (zpc_bs (zQ.wi hσ3 rfl) (fun σ5 hσ5 => fc_fX10_moveLevel_148 hσ5))))))))))
theorem fc_fX10_moveLevel {σ0 : zSt} {σ : zSt} {x1 : Int32} {x2 : Int32} (h : (zQ [3, 5, 7, 9, 11, 12, 15, 17, 19, 21, 23, 25, 27, 28, 29, 30, 32, 34, 36, 42, 44] [] [5, 38, 46, 48] []) σ0 σ) : zpc (fX10_moveLevel σ x1 x2) (fun r => (zQ [3, 5, 7, 9, 11, 12, 15, 17, 19, 21, 23, 25, 27, 28, 29, 30, 32, 34, 36, 42, 44] [] [5, 38, 46, 48] []) σ0 (r)) := by
  unfold fX10_moveLevel
  exact zpc_ck (zpc_bi (fc_fX10_rateIn h) (fun σ9 v10 hσ9 => zpc_if (fun _ => zpc_some hσ9) (fun _ => zpc_bv (fun v11 _ => zpc_bi (fc_fX10_part hσ9) (fun σ12 v13 hσ12 => zpc_if (fun _ => zpc_ck (zpc_bv (fun v14 _ => fc_fX10_moveLevel_52 hσ12))) (fun _ => fc_fX10_moveLevel_52 hσ12))))))
theorem fc_fX10_moveState_96 {σ0 : zSt} {σ : zSt} (h : (zQ [3, 5, 7, 9, 11, 12, 15, 17, 19, 21, 23, 25, 27, 28, 29, 30, 32, 34, 36, 42, 44] [] [5, 38, 46, 48] []) σ0 σ) : zpc (fX10_moveState_96 σ) (fun r => (zQ [3, 5, 7, 9, 11, 12, 15, 17, 19, 21, 23, 25, 27, 28, 29, 30, 32, 34, 36, 42, 44] [] [5, 38, 46, 48] []) σ0 (r)) := by
  unfold fX10_moveState_96
  exact zpc_some h
theorem fc_fX10_moveState_73 {σ0 : zSt} {σ : zSt} {x1 : Int32} {x2 : Int32} {x3 : Int32} {x4 : Int32} (h : (zQ [3, 5, 7, 9, 11, 12, 15, 17, 19, 21, 23, 25, 27, 28, 29, 30, 32, 34, 36, 42, 44] [] [5, 38, 46, 48] []) σ0 σ) : zpc (fX10_moveState_73 σ x1 x2 x3 x4) (fun r => (zQ [3, 5, 7, 9, 11, 12, 15, 17, 19, 21, 23, 25, 27, 28, 29, 30, 32, 34, 36, 42, 44] [] [5, 38, 46, 48] []) σ0 (r)) := by
  unfold fX10_moveState_73
  exact zpc_if (fun _ => zpc_ck (zpc_if (fun _ => fc_fX10_moveState_96 h) (fun _ => zpc_ck (zpc_bs (zQ.wi h rfl) (fun σ1 hσ1 => fc_fX10_moveState_96 hσ1))))) (fun _ => fc_fX10_moveState_96 h)
theorem fc_fX10_moveState_51 {σ0 : zSt} {σ : zSt} {x1 : Int32} {x2 : Int32} {x3 : Int32} {x4 : Int32} (h : (zQ [3, 5, 7, 9, 11, 12, 15, 17, 19, 21, 23, 25, 27, 28, 29, 30, 32, 34, 36, 42, 44] [] [5, 38, 46, 48] []) σ0 σ) : zpc (fX10_moveState_51 σ x1 x2 x3 x4) (fun r => (zQ [3, 5, 7, 9, 11, 12, 15, 17, 19, 21, 23, 25, 27, 28, 29, 30, 32, 34, 36, 42, 44] [] [5, 38, 46, 48] []) σ0 (r)) := by
  unfold fX10_moveState_51
  exact zpc_if (fun _ => zpc_if (fun _ => zpc_ck (zpc_bs (zQ.wi h rfl) (fun σ2 hσ2 => fc_fX10_moveState_96 hσ2))) (fun _ => fc_fX10_moveState_73 h)) (fun _ => fc_fX10_moveState_73 h)
theorem fc_fX10_moveState {σ0 : zSt} {σ : zSt} {x1 : Int32} {x2 : Int32} (h : (zQ [3, 5, 7, 9, 11, 12, 15, 17, 19, 21, 23, 25, 27, 28, 29, 30, 32, 34, 36, 42, 44] [] [5, 38, 46, 48] []) σ0 σ) : zpc (fX10_moveState σ x1 x2) (fun r => (zQ [3, 5, 7, 9, 11, 12, 15, 17, 19, 21, 23, 25, 27, 28, 29, 30, 32, 34, 36, 42, 44] [] [5, 38, 46, 48] []) σ0 (r)) := by
  unfold fX10_moveState
  exact zpc_ck (zpc_bv (fun v3 _ => zpc_ck (zpc_bv (fun v4 _ => zpc_if (fun _ => zpc_if (fun _ => fc_fX10_moveState_51 h) (fun _ => zpc_ck (zpc_bs (zQ.wi h rfl) (fun σ5 hσ5 => zpc_ck (zpc_bs (zQ.wi hσ5 rfl) (fun σ6 hσ6 => fc_fX10_moveState_96 hσ6)))))) (fun _ => fc_fX10_moveState_51 h)))))
theorem fc_fX10_sway_56 {σ0 : zSt} {σ : zSt} {x1 : Int32} (h : (zQ [3, 5, 7, 9, 11, 12, 15, 17, 19, 21, 23, 25, 27, 28, 29, 30, 32, 34, 36, 42, 44] [] [5, 38, 46, 48] []) σ0 σ) : zpc (fX10_sway_56 σ x1) (fun r => (zQ [3, 5, 7, 9, 11, 12, 15, 17, 19, 21, 23, 25, 27, 28, 29, 30, 32, 34, 36, 42, 44] [] [5, 38, 46, 48] []) σ0 (r.1)) := by
  unfold fX10_sway_56
  exact zpc_ck (zpc_some h)
theorem fc_fX10_sway_70 {σ0 : zSt} {σ : zSt} (h : (zQ [3, 5, 7, 9, 11, 12, 15, 17, 19, 21, 23, 25, 27, 28, 29, 30, 32, 34, 36, 42, 44] [] [5, 38, 46, 48] []) σ0 σ) : zpc (fX10_sway_70 σ) (fun r => (zQ [3, 5, 7, 9, 11, 12, 15, 17, 19, 21, 23, 25, 27, 28, 29, 30, 32, 34, 36, 42, 44] [] [5, 38, 46, 48] []) σ0 (r.1)) := by
  unfold fX10_sway_70
  exact zpc_some h
theorem fc_fX10_sway_62 {σ0 : zSt} {σ : zSt} {x1 : Int32} (h : (zQ [3, 5, 7, 9, 11, 12, 15, 17, 19, 21, 23, 25, 27, 28, 29, 30, 32, 34, 36, 42, 44] [] [5, 38, 46, 48] []) σ0 σ) : zpc (fX10_sway_62 σ x1) (fun r => (zQ [3, 5, 7, 9, 11, 12, 15, 17, 19, 21, 23, 25, 27, 28, 29, 30, 32, 34, 36, 42, 44] [] [5, 38, 46, 48] []) σ0 (r.1)) := by
  unfold fX10_sway_62
  exact zpc_ck (zpc_some h)
theorem fc_fX10_sway {σ0 : zSt} {σ : zSt} {x1 : Int32} (h : (zQ [3, 5, 7, 9, 11, 12, 15, 17, 19, 21, 23, 25, 27, 28, 29, 30, 32, 34, 36, 42, 44] [] [5, 38, 46, 48] []) σ0 σ) : zpc (fX10_sway σ x1) (fun r => (zQ [3, 5, 7, 9, 11, 12, 15, 17, 19, 21, 23, 25, 27, 28, 29, 30, 32, 34, 36, 42, 44] [] [5, 38, 46, 48] []) σ0 (r.1)) := by
  unfold fX10_sway
  exact zpc_ck (zpc_if (fun _ => fc_fX10_sway_56 h) (fun _ => zpc_if (fun _ => zpc_some h) (fun _ => zpc_if (fun _ => fc_fX10_sway_56 h) (fun _ => zpc_if (fun _ => fc_fX10_sway_70 h) (fun _ => zpc_if (fun _ => fc_fX10_sway_62 h) (fun _ => zpc_if (fun _ => zpc_some h) (fun _ => zpc_if (fun _ => fc_fX10_sway_62 h) (fun _ => fc_fX10_sway_70 h))))))))
theorem fc_fX10_movePhase_22 {σ0 : zSt} {σ : zSt} {x1 : Int32} {x2 : Int32} {s0 : Int32} (h : (zQ [3, 5, 7, 9, 11, 12, 15, 17, 19, 21, 23, 25, 27, 28, 29, 30, 32, 34, 36, 42, 44] [] [5, 38, 46, 48] []) σ0 σ) : zpc (fX10_movePhase_22 σ x1 x2 s0) (fun r => (zQ [3, 5, 7, 9, 11, 12, 15, 17, 19, 21, 23, 25, 27, 28, 29, 30, 32, 34, 36, 42, 44] [] [5, 38, 46, 48] []) σ0 (r)) := by
  unfold fX10_movePhase_22
  exact zpc_ck (zpc_ck (zpc_bv (fun v1 _ => zpc_ck (zpc_ck (zpc_bs (zQ.wi h rfl) (fun σ2 hσ2 => zpc_some hσ2))))))
theorem fc_fX10_movePhase {σ0 : zSt} {σ : zSt} {x1 : Int32} {x2 : Int32} (h : (zQ [3, 5, 7, 9, 11, 12, 15, 17, 19, 21, 23, 25, 27, 28, 29, 30, 32, 34, 36, 42, 44] [] [5, 38, 46, 48] []) σ0 σ) : zpc (fX10_movePhase σ x1 x2) (fun r => (zQ [3, 5, 7, 9, 11, 12, 15, 17, 19, 21, 23, 25, 27, 28, 29, 30, 32, 34, 36, 42, 44] [] [5, 38, 46, 48] []) σ0 (r)) := by
  unfold fX10_movePhase
  exact zpc_if (fun _ => fc_fX10_movePhase_22 h) (fun _ => zpc_ck (zpc_bi (fc_fX10_sway h) (fun σ3 v4 hσ3 => fc_fX10_movePhase_22 hσ3)))
theorem fc_fX10_drumPhase_115 {σ0 : zSt} {σ : zSt} {s0 : Int32} (h : (zQ [3, 5, 7, 9, 11, 12, 15, 17, 19, 21, 23, 25, 27, 28, 29, 30, 32, 34, 36, 42, 44] [] [5, 38, 46, 48] []) σ0 σ) : zpc (fX10_drumPhase_115 σ s0) (fun r => (zQ [3, 5, 7, 9, 11, 12, 15, 17, 19, 21, 23, 25, 27, 28, 29, 30, 32, 34, 36, 42, 44] [] [5, 38, 46, 48] []) σ0 (r.1)) := by
  unfold fX10_drumPhase_115
  exact zpc_some h
theorem fc_fX10_drumPhase_155 {σ0 : zSt} {σ : zSt} {s0 : Int32} (h : (zQ [3, 5, 7, 9, 11, 12, 15, 17, 19, 21, 23, 25, 27, 28, 29, 30, 32, 34, 36, 42, 44] [] [5, 38, 46, 48] []) σ0 σ) : zpc (fX10_drumPhase_155 σ s0) (fun r => (zQ [3, 5, 7, 9, 11, 12, 15, 17, 19, 21, 23, 25, 27, 28, 29, 30, 32, 34, 36, 42, 44] [] [5, 38, 46, 48] []) σ0 (r.1)) := by
  unfold fX10_drumPhase_155
  exact zpc_some h
theorem fc_fX10_drumPhase_193 {σ0 : zSt} {σ : zSt} {s0 : Int32} (h : (zQ [3, 5, 7, 9, 11, 12, 15, 17, 19, 21, 23, 25, 27, 28, 29, 30, 32, 34, 36, 42, 44] [] [5, 38, 46, 48] []) σ0 σ) : zpc (fX10_drumPhase_193 σ s0) (fun r => (zQ [3, 5, 7, 9, 11, 12, 15, 17, 19, 21, 23, 25, 27, 28, 29, 30, 32, 34, 36, 42, 44] [] [5, 38, 46, 48] []) σ0 (r.1)) := by
  unfold fX10_drumPhase_193
  exact zpc_some h
theorem fc_fX10_drumPhase_82 {σ0 : zSt} {σ : zSt} {x1 : Int32} {x2 : Int32} {x5 : Int32} {s0 : Int32} (h : (zQ [3, 5, 7, 9, 11, 12, 15, 17, 19, 21, 23, 25, 27, 28, 29, 30, 32, 34, 36, 42, 44] [] [5, 38, 46, 48] []) σ0 σ) : zpc (fX10_drumPhase_82 σ x1 x2 x5 s0) (fun r => (zQ [3, 5, 7, 9, 11, 12, 15, 17, 19, 21, 23, 25, 27, 28, 29, 30, 32, 34, 36, 42, 44] [] [5, 38, 46, 48] []) σ0 (r.1)) := by
  unfold fX10_drumPhase_82
  exact zpc_if (fun _ => zpc_if (fun _ => fc_fX10_drumPhase_115 h) (fun _ => zpc_if (fun _ => fc_fX10_drumPhase_115 h) (fun _ => fc_fX10_drumPhase_115 h))) (fun _ => zpc_if (fun _ => zpc_if (fun _ => zpc_if (fun _ => fc_fX10_drumPhase_155 h) (fun _ => fc_fX10_drumPhase_155 h)) (fun _ => zpc_if (fun _ => fc_fX10_drumPhase_155 h) (fun _ => fc_fX10_drumPhase_155 h))) (fun _ => zpc_if (fun _ => zpc_if (fun _ => fc_fX10_drumPhase_193 h) (fun _ => fc_fX10_drumPhase_193 h)) (fun _ => zpc_if (fun _ => fc_fX10_drumPhase_193 h) (fun _ => fc_fX10_drumPhase_193 h))))
theorem fc_fX10_drumPhase_62 {σ0 : zSt} {σ : zSt} {x1 : Int32} {x2 : Int32} {s0 : Int32} (h : (zQ [3, 5, 7, 9, 11, 12, 15, 17, 19, 21, 23, 25, 27, 28, 29, 30, 32, 34, 36, 42, 44] [] [5, 38, 46, 48] []) σ0 σ) : zpc (fX10_drumPhase_62 σ x1 x2 s0) (fun r => (zQ [3, 5, 7, 9, 11, 12, 15, 17, 19, 21, 23, 25, 27, 28, 29, 30, 32, 34, 36, 42, 44] [] [5, 38, 46, 48] []) σ0 (r.1)) := by
  unfold fX10_drumPhase_62
  exact zpc_ck (zpc_if (fun _ => fc_fX10_drumPhase_82 h) (fun _ => fc_fX10_drumPhase_82 h))
theorem fc_fX10_drumPhase {σ0 : zSt} {σ : zSt} {x1 : Int32} {x2 : Int32} (h : (zQ [3, 5, 7, 9, 11, 12, 15, 17, 19, 21, 23, 25, 27, 28, 29, 30, 32, 34, 36, 42, 44] [] [5, 38, 46, 48] []) σ0 σ) : zpc (fX10_drumPhase σ x1 x2) (fun r => (zQ [3, 5, 7, 9, 11, 12, 15, 17, 19, 21, 23, 25, 27, 28, 29, 30, 32, 34, 36, 42, 44] [] [5, 38, 46, 48] []) σ0 (r.1)) := by
  unfold fX10_drumPhase
  exact zpc_ck (zpc_bv (fun v1 _ => zpc_ck (zpc_bv (fun v2 _ => zpc_if (fun _ => fc_fX10_drumPhase_62 h) (fun _ => fc_fX10_drumPhase_62 h)))))
theorem fc_fX10_turnedPhase_98 {σ0 : zSt} {σ : zSt} {s0 : Int32} (h : (zQ [3, 5, 7, 9, 11, 12, 15, 17, 19, 21, 23, 25, 27, 28, 29, 30, 32, 34, 36, 42, 44] [] [5, 38, 46, 48] []) σ0 σ) : zpc (fX10_turnedPhase_98 σ s0) (fun r => (zQ [3, 5, 7, 9, 11, 12, 15, 17, 19, 21, 23, 25, 27, 28, 29, 30, 32, 34, 36, 42, 44] [] [5, 38, 46, 48] []) σ0 (r.1)) := by
  unfold fX10_turnedPhase_98
  exact zpc_some h
theorem fc_fX10_turnedPhase_35 {σ0 : zSt} {σ : zSt} {x1 : Int32} {x2 : Int32} {x3 : Int32} (h : (zQ [3, 5, 7, 9, 11, 12, 15, 17, 19, 21, 23, 25, 27, 28, 29, 30, 32, 34, 36, 42, 44] [] [5, 38, 46, 48] []) σ0 σ) : zpc (fX10_turnedPhase_35 σ x1 x2 x3) (fun r => (zQ [3, 5, 7, 9, 11, 12, 15, 17, 19, 21, 23, 25, 27, 28, 29, 30, 32, 34, 36, 42, 44] [] [5, 38, 46, 48] []) σ0 (r.1)) := by
  unfold fX10_turnedPhase_35
  exact zpc_if (fun _ => zpc_ck (zpc_some h)) (fun _ => zpc_bi (fc_fX10_part h) (fun σ1 v2 hσ1 => zpc_bv (fun v3 _ => zpc_if (fun _ => fc_fX10_turnedPhase_98 hσ1) (fun _ => zpc_ck (zpc_ck (fc_fX10_turnedPhase_98 hσ1))))))
theorem fc_fX10_turnedPhase {σ0 : zSt} {σ : zSt} {x1 : Int32} {x2 : Int32} (h : (zQ [3, 5, 7, 9, 11, 12, 15, 17, 19, 21, 23, 25, 27, 28, 29, 30, 32, 34, 36, 42, 44] [] [5, 38, 46, 48] []) σ0 σ) : zpc (fX10_turnedPhase σ x1 x2) (fun r => (zQ [3, 5, 7, 9, 11, 12, 15, 17, 19, 21, 23, 25, 27, 28, 29, 30, 32, 34, 36, 42, 44] [] [5, 38, 46, 48] []) σ0 (r.1)) := by
  unfold fX10_turnedPhase
  exact zpc_ck (zpc_bv (fun v4 _ => zpc_if (fun _ => fc_fX10_turnedPhase_35 h) (fun _ => zpc_if (fun _ => fc_fX10_turnedPhase_35 h) (fun _ => zpc_bi (fc_fX10_drumPhase h) (fun σ5 v6 hσ5 => zpc_some hσ5)))))
theorem fc_fX10_scaled_44 {σ0 : zSt} {σ : zSt} {s0 : Int32} (h : (zQ [3, 5, 7, 9, 11, 12, 15, 17, 19, 21, 23, 25, 27, 28, 29, 30, 32, 34, 36, 42, 44] [] [5, 38, 46, 48] []) σ0 σ) : zpc (fX10_scaled_44 σ s0) (fun r => (zQ [3, 5, 7, 9, 11, 12, 15, 17, 19, 21, 23, 25, 27, 28, 29, 30, 32, 34, 36, 42, 44] [] [5, 38, 46, 48] []) σ0 (r.1)) := by
  unfold fX10_scaled_44
  exact zpc_some h
theorem fc_fX10_scaled {σ0 : zSt} {σ : zSt} {x1 : Int32} (h : (zQ [3, 5, 7, 9, 11, 12, 15, 17, 19, 21, 23, 25, 27, 28, 29, 30, 32, 34, 36, 42, 44] [] [5, 38, 46, 48] []) σ0 σ) : zpc (fX10_scaled σ x1) (fun r => (zQ [3, 5, 7, 9, 11, 12, 15, 17, 19, 21, 23, 25, 27, 28, 29, 30, 32, 34, 36, 42, 44] [] [5, 38, 46, 48] []) σ0 (r.1)) := by
  unfold fX10_scaled
  exact zpc_if (fun _ => zpc_some h) (fun _ => zpc_ck (zpc_bv (fun v1 _ => zpc_if (fun _ => fc_fX10_scaled_44 h) (fun _ => fc_fX10_scaled_44 h))))
theorem fc_fX10_tremble_30 {σ0 : zSt} {σ : zSt} {s0 : Int32} (h : (zQ [3, 5, 7, 9, 11, 12, 15, 17, 19, 21, 23, 25, 27, 28, 29, 30, 32, 34, 36, 42, 44] [] [5, 38, 46, 48] []) σ0 σ) : zpc (fX10_tremble_30 σ s0) (fun r => (zQ [3, 5, 7, 9, 11, 12, 15, 17, 19, 21, 23, 25, 27, 28, 29, 30, 32, 34, 36, 42, 44] [] [5, 38, 46, 48] []) σ0 (r.1)) := by
  unfold fX10_tremble_30
  exact zpc_ck (zpc_some h)
theorem fc_fX10_tremble {σ0 : zSt} {σ : zSt} (h : (zQ [3, 5, 7, 9, 11, 12, 15, 17, 19, 21, 23, 25, 27, 28, 29, 30, 32, 34, 36, 42, 44] [] [5, 38, 46, 48] []) σ0 σ) : zpc (fX10_tremble σ) (fun r => (zQ [3, 5, 7, 9, 11, 12, 15, 17, 19, 21, 23, 25, 27, 28, 29, 30, 32, 34, 36, 42, 44] [] [5, 38, 46, 48] []) σ0 (r.1)) := by
  unfold fX10_tremble
  exact zpc_ck (zpc_ck (zpc_ck (zpc_bv (fun v1 _ => zpc_if (fun _ => fc_fX10_tremble_30 h) (fun _ => fc_fX10_tremble_30 h)))))
theorem fc_fX10_softness_124 {σ0 : zSt} {σ : zSt} {x4 : Int32} (h : (zQ [3, 5, 7, 9, 11, 12, 15, 17, 19, 21, 23, 25, 27, 28, 29, 30, 32, 34, 36, 42, 44] [] [5, 38, 46, 48] []) σ0 σ) : zpc (fX10_softness_124 σ x4) (fun r => (zQ [3, 5, 7, 9, 11, 12, 15, 17, 19, 21, 23, 25, 27, 28, 29, 30, 32, 34, 36, 42, 44] [] [5, 38, 46, 48] []) σ0 (r.1)) := by
  unfold fX10_softness_124
  exact zpc_some h
theorem fc_fX10_softness_103 {σ0 : zSt} {σ : zSt} {x2 : Int32} {x4 : Int32} (h : (zQ [3, 5, 7, 9, 11, 12, 15, 17, 19, 21, 23, 25, 27, 28, 29, 30, 32, 34, 36, 42, 44] [] [5, 38, 46, 48] []) σ0 σ) : zpc (fX10_softness_103 σ x2 x4) (fun r => (zQ [3, 5, 7, 9, 11, 12, 15, 17, 19, 21, 23, 25, 27, 28, 29, 30, 32, 34, 36, 42, 44] [] [5, 38, 46, 48] []) σ0 (r.1)) := by
  unfold fX10_softness_103
  exact zpc_bi (fc_fX10_part h) (fun σ1 v2 hσ1 => zpc_if (fun _ => fc_fX10_softness_124 hσ1) (fun _ => zpc_bi (fc_fX10_tremble hσ1) (fun σ3 v4 hσ3 => zpc_bv (fun v5 _ => fc_fX10_softness_124 hσ3))))
theorem fc_fX10_softness_88 {σ0 : zSt} {σ : zSt} {x2 : Int32} {x4 : Int32} (h : (zQ [3, 5, 7, 9, 11, 12, 15, 17, 19, 21, 23, 25, 27, 28, 29, 30, 32, 34, 36, 42, 44] [] [5, 38, 46, 48] []) σ0 σ) : zpc (fX10_softness_88 σ x2 x4) (fun r => (zQ [3, 5, 7, 9, 11, 12, 15, 17, 19, 21, 23, 25, 27, 28, 29, 30, 32, 34, 36, 42, 44] [] [5, 38, 46, 48] []) σ0 (r.1)) := by
  unfold fX10_softness_88
  exact zpc_bi (fc_fX10_part h) (fun σ6 v7 hσ6 => zpc_bv (fun v8 _ => fc_fX10_softness_103 hσ6))
theorem fc_fX10_softness {σ0 : zSt} {σ : zSt} {x1 : Int32} {x2 : Int32} (h : (zQ [3, 5, 7, 9, 11, 12, 15, 17, 19, 21, 23, 25, 27, 28, 29, 30, 32, 34, 36, 42, 44] [] [5, 38, 46, 48] []) σ0 σ) : zpc (fX10_softness σ x1 x2) (fun r => (zQ [3, 5, 7, 9, 11, 12, 15, 17, 19, 21, 23, 25, 27, 28, 29, 30, 32, 34, 36, 42, 44] [] [5, 38, 46, 48] []) σ0 (r.1)) := by
  unfold fX10_softness
  exact zpc_ck (zpc_bv (fun v9 _ => zpc_ck (zpc_bi (fc_fX10_part h) (fun σ10 v11 hσ10 => zpc_bi (fc_fX10_scaled hσ10) (fun σ12 v13 hσ12 => zpc_bv (fun v14 _ => zpc_if (fun _ => zpc_bv (fun v16 _ => fc_fX10_softness_103 hσ12)) (fun _ => zpc_if (fun _ => fc_fX10_softness_88 hσ12) (fun _ => zpc_if (fun _ => fc_fX10_softness_88 hσ12) (fun _ => zpc_bv (fun v15 _ => fc_fX10_softness_103 hσ12))))))))))
theorem fc_fX10_waveAt_104 {σ0 : zSt} {σ : zSt} {s0 : Int32} (h : (zQ [3, 5, 7, 9, 11, 12, 15, 17, 19, 21, 23, 25, 27, 28, 29, 30, 32, 34, 36, 42, 44] [] [5, 38, 46, 48] []) σ0 σ) : zpc (fX10_waveAt_104 σ s0) (fun r => (zQ [3, 5, 7, 9, 11, 12, 15, 17, 19, 21, 23, 25, 27, 28, 29, 30, 32, 34, 36, 42, 44] [] [5, 38, 46, 48] []) σ0 (r.1)) := by
  unfold fX10_waveAt_104
  exact zpc_some h
theorem fc_fX10_waveAt_49 {σ0 : zSt} {σ : zSt} {x1 : Int32} {x3 : Int32} {s0 : Int32} (h : (zQ [3, 5, 7, 9, 11, 12, 15, 17, 19, 21, 23, 25, 27, 28, 29, 30, 32, 34, 36, 42, 44] [] [5, 38, 46, 48] []) σ0 σ) : zpc (fX10_waveAt_49 σ x1 x3 s0) (fun r => (zQ [3, 5, 7, 9, 11, 12, 15, 17, 19, 21, 23, 25, 27, 28, 29, 30, 32, 34, 36, 42, 44] [] [5, 38, 46, 48] []) σ0 (r.1)) := by
  unfold fX10_waveAt_49
  exact zpc_ck (zpc_bv (fun v1 _ => zpc_ck (zpc_bv (fun v2 _ => zpc_if (fun _ => fc_fX10_waveAt_104 h) (fun _ => fc_fX10_waveAt_104 h)))))
theorem fc_fX10_waveAt_24 {σ0 : zSt} {σ : zSt} {x0 : Int32} {x1 : Int32} {x3 : Int32} (h : (zQ [3, 5, 7, 9, 11, 12, 15, 17, 19, 21, 23, 25, 27, 28, 29, 30, 32, 34, 36, 42, 44] [] [5, 38, 46, 48] []) σ0 σ) : zpc (fX10_waveAt_24 σ x0 x1 x3) (fun r => (zQ [3, 5, 7, 9, 11, 12, 15, 17, 19, 21, 23, 25, 27, 28, 29, 30, 32, 34, 36, 42, 44] [] [5, 38, 46, 48] []) σ0 (r.1)) := by
  unfold fX10_waveAt_24
  exact zpc_if (fun _ => fc_fX10_waveAt_49 h) (fun _ => fc_fX10_waveAt_49 h)
theorem fc_fX10_waveAt_13 {σ0 : zSt} {σ : zSt} {x0 : Int32} {x1 : Int32} {x2 : Int32} {s0 : Int32} (h : (zQ [3, 5, 7, 9, 11, 12, 15, 17, 19, 21, 23, 25, 27, 28, 29, 30, 32, 34, 36, 42, 44] [] [5, 38, 46, 48] []) σ0 σ) : zpc (fX10_waveAt_13 σ x0 x1 x2 s0) (fun r => (zQ [3, 5, 7, 9, 11, 12, 15, 17, 19, 21, 23, 25, 27, 28, 29, 30, 32, 34, 36, 42, 44] [] [5, 38, 46, 48] []) σ0 (r.1)) := by
  unfold fX10_waveAt_13
  exact zpc_if (fun _ => fc_fX10_waveAt_24 h) (fun _ => zpc_if (fun _ => fc_fX10_waveAt_24 h) (fun _ => zpc_some h))
theorem fc_fX10_waveAt {σ0 : zSt} {σ : zSt} {x0 : Int32} {x1 : Int32} {x2 : Int32} (h : (zQ [3, 5, 7, 9, 11, 12, 15, 17, 19, 21, 23, 25, 27, 28, 29, 30, 32, 34, 36, 42, 44] [] [5, 38, 46, 48] []) σ0 σ) : zpc (fX10_waveAt σ x0 x1 x2) (fun r => (zQ [3, 5, 7, 9, 11, 12, 15, 17, 19, 21, 23, 25, 27, 28, 29, 30, 32, 34, 36, 42, 44] [] [5, 38, 46, 48] []) σ0 (r.1)) := by
  unfold fX10_waveAt
  exact zpc_if (fun _ => fc_fX10_waveAt_13 h) (fun _ => fc_fX10_waveAt_13 h)
theorem fc_fX10_moveOut_55 {σ0 : zSt} {σ : zSt} {x1 : Int32} {x3 : Int32} (h : (zQ [3, 5, 7, 9, 11, 12, 15, 17, 19, 21, 23, 25, 27, 28, 29, 30, 32, 34, 36, 42, 44] [] [5, 38, 46, 48] []) σ0 σ) : zpc (fX10_moveOut_55 σ x1 x3) (fun r => (zQ [3, 5, 7, 9, 11, 12, 15, 17, 19, 21, 23, 25, 27, 28, 29, 30, 32, 34, 36, 42, 44] [] [5, 38, 46, 48] []) σ0 (r)) := by
  unfold fX10_moveOut_55
  exact zpc_ck (zpc_ck (zpc_bs (zQ.wi h rfl) (fun σ1 hσ1 => zpc_ck (zpc_bs (zQ.wi hσ1 rfl) (fun σ2 hσ2 => zpc_some hσ2)))))
theorem fc_fX10_moveOut_51 {σ0 : zSt} {σ : zSt} {x1 : Int32} {s0 : Int32} {s1 : Int32} {s2 : Int32} (h : (zQ [3, 5, 7, 9, 11, 12, 15, 17, 19, 21, 23, 25, 27, 28, 29, 30, 32, 34, 36, 42, 44] [] [5, 38, 46, 48] []) σ0 σ) : zpc (fX10_moveOut_51 σ x1 s0 s1 s2) (fun r => (zQ [3, 5, 7, 9, 11, 12, 15, 17, 19, 21, 23, 25, 27, 28, 29, 30, 32, 34, 36, 42, 44] [] [5, 38, 46, 48] []) σ0 (r)) := by
  unfold fX10_moveOut_51
  exact zpc_bi (fc_fX10_waveAt h) (fun σ3 v4 hσ3 => fc_fX10_moveOut_55 hσ3)
theorem fc_fX10_moveOut {σ0 : zSt} {σ : zSt} {x1 : Int32} {x2 : Int32} (h : (zQ [3, 5, 7, 9, 11, 12, 15, 17, 19, 21, 23, 25, 27, 28, 29, 30, 32, 34, 36, 42, 44] [] [5, 38, 46, 48] []) σ0 σ) : zpc (fX10_moveOut σ x1 x2) (fun r => (zQ [3, 5, 7, 9, 11, 12, 15, 17, 19, 21, 23, 25, 27, 28, 29, 30, 32, 34, 36, 42, 44] [] [5, 38, 46, 48] []) σ0 (r)) := by
  unfold fX10_moveOut
  exact zpc_ck (zpc_if (fun _ => fc_fX10_moveOut_55 h) (fun _ => zpc_bi (fc_fX10_turnedPhase h) (fun σ5 v6 hσ5 => zpc_bi (fc_fX10_softness hσ5) (fun σ7 v8 hσ7 => zpc_bi (fc_fX10_part hσ7) (fun σ9 v10 hσ9 => zpc_if (fun _ => fc_fX10_moveOut_51 hσ9) (fun _ => fc_fX10_moveOut_51 hσ9))))))
theorem fc_fX10_moveOperator_99 {σ0 : zSt} {σ : zSt} {x1 : Int32} {x2 : Int32} (h : (zQ [3, 5, 7, 9, 11, 12, 15, 17, 19, 21, 23, 25, 27, 28, 29, 30, 32, 34, 36, 42, 44] [] [5, 38, 46, 48] []) σ0 σ) : zpc (fX10_moveOperator_99 σ x1 x2) (fun r => (zQ [3, 5, 7, 9, 11, 12, 15, 17, 19, 21, 23, 25, 27, 28, 29, 30, 32, 34, 36, 42, 44] [] [5, 38, 46, 48] []) σ0 (r)) := by
  unfold fX10_moveOperator_99
  exact zpc_bi (fc_fX10_part h) (fun σ1 v2 hσ1 => zpc_bu (fc_fX10_movePhase hσ1) (fun σ3 hσ3 => zpc_bu (fc_fX10_moveOut hσ3) (fun σ4 hσ4 => zpc_some hσ4)))
theorem fc_fX10_moveOperator_78 {σ0 : zSt} {σ : zSt} {x1 : Int32} {x2 : Int32} (h : (zQ [3, 5, 7, 9, 11, 12, 15, 17, 19, 21, 23, 25, 27, 28, 29, 30, 32, 34, 36, 42, 44] [] [5, 38, 46, 48] []) σ0 σ) : zpc (fX10_moveOperator_78 σ x1 x2) (fun r => (zQ [3, 5, 7, 9, 11, 12, 15, 17, 19, 21, 23, 25, 27, 28, 29, 30, 32, 34, 36, 42, 44] [] [5, 38, 46, 48] []) σ0 (r)) := by
  unfold fX10_moveOperator_78
  exact zpc_bu (fc_fX10_moveLevel h) (fun σ5 hσ5 => zpc_bi (fc_fX10_part hσ5) (fun σ6 v7 hσ6 => zpc_bu (fc_fX10_moveState hσ6) (fun σ8 hσ8 => fc_fX10_moveOperator_99 hσ8)))
theorem fc_fX10_moveOperator_53 {σ0 : zSt} {σ : zSt} {x1 : Int32} {x2 : Int32} (h : (zQ [3, 5, 7, 9, 11, 12, 15, 17, 19, 21, 23, 25, 27, 28, 29, 30, 32, 34, 36, 42, 44] [] [5, 38, 46, 48] []) σ0 σ) : zpc (fX10_moveOperator_53 σ x1 x2) (fun r => (zQ [3, 5, 7, 9, 11, 12, 15, 17, 19, 21, 23, 25, 27, 28, 29, 30, 32, 34, 36, 42, 44] [] [5, 38, 46, 48] []) σ0 (r)) := by
  unfold fX10_moveOperator_53
  exact zpc_ck (zpc_if (fun _ => zpc_ck (zpc_if (fun _ => fc_fX10_moveOperator_99 h) (fun _ => fc_fX10_moveOperator_78 h))) (fun _ => fc_fX10_moveOperator_78 h))
theorem fc_fX10_moveOperator_52 {σ0 : zSt} {σ : zSt} {x1 : Int32} {x2 : Int32} {s0 : Int32} {s1 : Int32} (h : (zQ [3, 5, 7, 9, 11, 12, 15, 17, 19, 21, 23, 25, 27, 28, 29, 30, 32, 34, 36, 42, 44] [] [5, 38, 46, 48] []) σ0 σ) : zpc (fX10_moveOperator_52 σ x1 x2 s0 s1) (fun r => (zQ [3, 5, 7, 9, 11, 12, 15, 17, 19, 21, 23, 25, 27, 28, 29, 30, 32, 34, 36, 42, 44] [] [5, 38, 46, 48] []) σ0 (r)) := by
  unfold fX10_moveOperator_52
  exact zpc_ck (zpc_bs (zQ.wi h rfl) (fun σ9 hσ9 => fc_fX10_moveOperator_53 hσ9))
theorem fc_fX10_moveOperator_13 {σ0 : zSt} {σ : zSt} {x1 : Int32} {x2 : Int32} {s0 : Int32} (h : (zQ [3, 5, 7, 9, 11, 12, 15, 17, 19, 21, 23, 25, 27, 28, 29, 30, 32, 34, 36, 42, 44] [] [5, 38, 46, 48] []) σ0 σ) : zpc (fX10_moveOperator_13 σ x1 x2 s0) (fun r => (zQ [3, 5, 7, 9, 11, 12, 15, 17, 19, 21, 23, 25, 27, 28, 29, 30, 32, 34, 36, 42, 44] [] [5, 38, 46, 48] []) σ0 (r)) := by
  unfold fX10_moveOperator_13
  exact zpc_ck (zpc_if (fun _ => fc_fX10_moveOperator_53 h) (fun _ => zpc_ck (zpc_bs (zQ.wi h rfl) (fun σ10 hσ10 => zpc_if (fun _ => fc_fX10_moveOperator_52 hσ10) (fun _ => fc_fX10_moveOperator_52 hσ10)))))
theorem fc_fX10_moveOperator {σ0 : zSt} {σ : zSt} {x1 : Int32} {x2 : Int32} (h : (zQ [3, 5, 7, 9, 11, 12, 15, 17, 19, 21, 23, 25, 27, 28, 29, 30, 32, 34, 36, 42, 44] [] [5, 38, 46, 48] []) σ0 σ) : zpc (fX10_moveOperator σ x1 x2) (fun r => (zQ [3, 5, 7, 9, 11, 12, 15, 17, 19, 21, 23, 25, 27, 28, 29, 30, 32, 34, 36, 42, 44] [] [5, 38, 46, 48] []) σ0 (r)) := by
  unfold fX10_moveOperator
  exact zpc_bi (fc_fX10_isOn h) (fun σ11 v12 hσ11 => zpc_if (fun _ => fc_fX10_moveOperator_13 hσ11) (fun _ => fc_fX10_moveOperator_13 hσ11))
theorem fc_fX10_makeNext_136 {σ0 : zSt} {k41 : zSt → Int32 → Int32 → Option (zSt)} (hk41 : ∀ (y0 : zSt) (y1 : Int32) (y2 : Int32), (zQ [3, 5, 7, 9, 11, 12, 15, 17, 19, 21, 23, 25, 27, 28, 29, 30, 32, 34, 36, 42, 44] [] [5, 38, 46, 48] []) σ0 y0 → zpc (k41 y0 y1 y2) (fun r => (zQ [3, 5, 7, 9, 11, 12, 15, 17, 19, 21, 23, 25, 27, 28, 29, 30, 32, 34, 36, 42, 44] [] [5, 38, 46, 48] []) σ0 (r))) {σ : zSt} {x2 : Int32} {s0 : Int32} {s1 : Int32} {s2 : Int32} (h : (zQ [3, 5, 7, 9, 11, 12, 15, 17, 19, 21, 23, 25, 27, 28, 29, 30, 32, 34, 36, 42, 44] [] [5, 38, 46, 48] []) σ0 σ) : zpc (fX10_makeNext_136 k41 σ x2 s0 s1 s2) (fun r => (zQ [3, 5, 7, 9, 11, 12, 15, 17, 19, 21, 23, 25, 27, 28, 29, 30, 32, 34, 36, 42, 44] [] [5, 38, 46, 48] []) σ0 (r)) := by
  unfold fX10_makeNext_136
  exact zpc_bv (fun v1 _ => zpc_bv (fun v2 _ => hk41 _ _ _ h))
theorem fc_fX10_makeNext_135 {σ0 : zSt} {k41 : zSt → Int32 → Int32 → Option (zSt)} (hk41 : ∀ (y0 : zSt) (y1 : Int32) (y2 : Int32), (zQ [3, 5, 7, 9, 11, 12, 15, 17, 19, 21, 23, 25, 27, 28, 29, 30, 32, 34, 36, 42, 44] [] [5, 38, 46, 48] []) σ0 y0 → zpc (k41 y0 y1 y2) (fun r => (zQ [3, 5, 7, 9, 11, 12, 15, 17, 19, 21, 23, 25, 27, 28, 29, 30, 32, 34, 36, 42, 44] [] [5, 38, 46, 48] []) σ0 (r))) {σ : zSt} {x2 : Int32} {s0 : Int32} {s1 : Int32} (h : (zQ [3, 5, 7, 9, 11, 12, 15, 17, 19, 21, 23, 25, 27, 28, 29, 30, 32, 34, 36, 42, 44] [] [5, 38, 46, 48] []) σ0 σ) : zpc (fX10_makeNext_135 k41 σ x2 s0 s1) (fun r => (zQ [3, 5, 7, 9, 11, 12, 15, 17, 19, 21, 23, 25, 27, 28, 29, 30, 32, 34, 36, 42, 44] [] [5, 38, 46, 48] []) σ0 (r)) := by
  unfold fX10_makeNext_135
  exact fc_fX10_makeNext_136 hk41 h
theorem fc_fX10_makeNext_101 {σ0 : zSt} {k41 : zSt → Int32 → Int32 → Option (zSt)} (hk41 : ∀ (y0 : zSt) (y1 : Int32) (y2 : Int32), (zQ [3, 5, 7, 9, 11, 12, 15, 17, 19, 21, 23, 25, 27, 28, 29, 30, 32, 34, 36, 42, 44] [] [5, 38, 46, 48] []) σ0 y0 → zpc (k41 y0 y1 y2) (fun r => (zQ [3, 5, 7, 9, 11, 12, 15, 17, 19, 21, 23, 25, 27, 28, 29, 30, 32, 34, 36, 42, 44] [] [5, 38, 46, 48] []) σ0 (r))) {σ : zSt} {x1 : Int32} {x2 : Int32} {x3 : Int32} {s0 : Int32} (h : (zQ [3, 5, 7, 9, 11, 12, 15, 17, 19, 21, 23, 25, 27, 28, 29, 30, 32, 34, 36, 42, 44] [] [5, 38, 46, 48] []) σ0 σ) : zpc (fX10_makeNext_101 k41 σ x1 x2 x3 s0) (fun r => (zQ [3, 5, 7, 9, 11, 12, 15, 17, 19, 21, 23, 25, 27, 28, 29, 30, 32, 34, 36, 42, 44] [] [5, 38, 46, 48] []) σ0 (r)) := by
  unfold fX10_makeNext_101
  exact zpc_ck (zpc_if (fun _ => fc_fX10_makeNext_135 hk41 h) (fun _ => zpc_if (fun _ => fc_fX10_makeNext_135 hk41 h) (fun _ => fc_fX10_makeNext_136 hk41 h)))
theorem fc_fX10_makeNext_100 {σ0 : zSt} {k41 : zSt → Int32 → Int32 → Option (zSt)} (hk41 : ∀ (y0 : zSt) (y1 : Int32) (y2 : Int32), (zQ [3, 5, 7, 9, 11, 12, 15, 17, 19, 21, 23, 25, 27, 28, 29, 30, 32, 34, 36, 42, 44] [] [5, 38, 46, 48] []) σ0 y0 → zpc (k41 y0 y1 y2) (fun r => (zQ [3, 5, 7, 9, 11, 12, 15, 17, 19, 21, 23, 25, 27, 28, 29, 30, 32, 34, 36, 42, 44] [] [5, 38, 46, 48] []) σ0 (r))) {σ : zSt} {x1 : Int32} {x2 : Int32} {x3 : Int32} (h : (zQ [3, 5, 7, 9, 11, 12, 15, 17, 19, 21, 23, 25, 27, 28, 29, 30, 32, 34, 36, 42, 44] [] [5, 38, 46, 48] []) σ0 σ) : zpc (fX10_makeNext_100 k41 σ x1 x2 x3) (fun r => (zQ [3, 5, 7, 9, 11, 12, 15, 17, 19, 21, 23, 25, 27, 28, 29, 30, 32, 34, 36, 42, 44] [] [5, 38, 46, 48] []) σ0 (r)) := by
  unfold fX10_makeNext_100
  exact fc_fX10_makeNext_101 hk41 h
theorem fc_fX10_makeNext_174 {σ0 : zSt} {σ : zSt} {x1 : Int32} {s0 : Int32} {s1 : Int32} (h : (zQ [3, 5, 7, 9, 11, 12, 15, 17, 19, 21, 23, 25, 27, 28, 29, 30, 32, 34, 36, 42, 44] [] [5, 38, 46, 48] []) σ0 σ) : zpc (fX10_makeNext_174 σ x1 s0 s1) (fun r => (zQ [3, 5, 7, 9, 11, 12, 15, 17, 19, 21, 23, 25, 27, 28, 29, 30, 32, 34, 36, 42, 44] [] [5, 38, 46, 48] []) σ0 (r)) := by
  unfold fX10_makeNext_174
  exact zpc_ck (zpc_bs (zQ.wi h rfl) (fun σ3 hσ3 => zpc_ck (zpc_bs (zQ.wi hσ3 rfl) (fun σ4 hσ4 => zpc_some hσ4))))
theorem fc_fX10_makeNext_41_body {σ0 : zSt} {k41 : zSt → Int32 → Int32 → Option (zSt)} (hk41 : ∀ (y0 : zSt) (y1 : Int32) (y2 : Int32), (zQ [3, 5, 7, 9, 11, 12, 15, 17, 19, 21, 23, 25, 27, 28, 29, 30, 32, 34, 36, 42, 44] [] [5, 38, 46, 48] []) σ0 y0 → zpc (k41 y0 y1 y2) (fun r => (zQ [3, 5, 7, 9, 11, 12, 15, 17, 19, 21, 23, 25, 27, 28, 29, 30, 32, 34, 36, 42, 44] [] [5, 38, 46, 48] []) σ0 (r))) {σ : zSt} {x1 : Int32} {x2 : Int32} (h : (zQ [3, 5, 7, 9, 11, 12, 15, 17, 19, 21, 23, 25, 27, 28, 29, 30, 32, 34, 36, 42, 44] [] [5, 38, 46, 48] []) σ0 σ) : zpc (fX10_makeNext_41_body k41 σ x1 x2) (fun r => (zQ [3, 5, 7, 9, 11, 12, 15, 17, 19, 21, 23, 25, 27, 28, 29, 30, 32, 34, 36, 42, 44] [] [5, 38, 46, 48] []) σ0 (r)) := by
  unfold fX10_makeNext_41_body
  exact zpc_if (fun _ => zpc_ck (zpc_bv (fun v5 _ => zpc_if (fun _ => fc_fX10_makeNext_174 h) (fun _ => fc_fX10_makeNext_174 h)))) (fun _ => zpc_bu (fc_fX10_takeChannel h) (fun σ6 hσ6 => zpc_bv (fun v7 _ => zpc_bu (fc_fX10_moveOperator hσ6) (fun σ8 hσ8 => zpc_bu (fc_fX10_moveOperator hσ8) (fun σ9 hσ9 => zpc_if (fun _ => fc_fX10_makeNext_100 hk41 hσ9) (fun _ => zpc_if (fun _ => fc_fX10_makeNext_100 hk41 hσ9) (fun _ => zpc_ck (fc_fX10_makeNext_101 hk41 hσ9))))))))
theorem fc_fX10_makeNext_41 {σ0 : zSt} : ∀ (n : Nat) (y0 : zSt) (y1 : Int32) (y2 : Int32), (zQ [3, 5, 7, 9, 11, 12, 15, 17, 19, 21, 23, 25, 27, 28, 29, 30, 32, 34, 36, 42, 44] [] [5, 38, 46, 48] []) σ0 y0 → zpc (fX10_makeNext_41 n y0 y1 y2) (fun r => (zQ [3, 5, 7, 9, 11, 12, 15, 17, 19, 21, 23, 25, 27, 28, 29, 30, 32, 34, 36, 42, 44] [] [5, 38, 46, 48] []) σ0 (r)) := by
  intro n
  induction n with
  | zero => intro y0 y1 y2 h; exact zpc_none
  | succ n ih => intro y0 y1 y2 h; exact fc_fX10_makeNext_41_body ih h
theorem fc_fX10_makeNext_30 {σ0 : zSt} {σ : zSt} {s0 : Int32} (h : (zQ [3, 5, 7, 9, 11, 12, 15, 17, 19, 21, 23, 25, 27, 28, 29, 30, 32, 34, 36, 42, 44] [] [5, 38, 46, 48] []) σ0 σ) : zpc (fX10_makeNext_30 σ s0) (fun r => (zQ [3, 5, 7, 9, 11, 12, 15, 17, 19, 21, 23, 25, 27, 28, 29, 30, 32, 34, 36, 42, 44] [] [5, 38, 46, 48] []) σ0 (r)) := by
  unfold fX10_makeNext_30
  exact zpc_ck (zpc_bs (zQ.wi h rfl) (fun σ10 hσ10 => zpc_bu (fc_fX10_takeOwnPatch hσ10) (fun σ11 hσ11 => fc_fX10_makeNext_41 _ _ _ _ hσ11)))
theorem fc_fX10_makeNext {σ0 : zSt} {σ : zSt} (h : (zQ [3, 5, 7, 9, 11, 12, 15, 17, 19, 21, 23, 25, 27, 28, 29, 30, 32, 34, 36, 42, 44] [] [5, 38, 46, 48] []) σ0 σ) : zpc (fX10_makeNext σ) (fun r => (zQ [3, 5, 7, 9, 11, 12, 15, 17, 19, 21, 23, 25, 27, 28, 29, 30, 32, 34, 36, 42, 44] [] [5, 38, 46, 48] []) σ0 (r)) := by
  unfold fX10_makeNext
  exact zpc_ck (zpc_ck (zpc_bs (zQ.wi h rfl) (fun σ12 hσ12 => zpc_ck (zpc_if (fun _ => fc_fX10_makeNext_30 hσ12) (fun _ => fc_fX10_makeNext_30 hσ12)))))
theorem fc_fX10_heard_24 {σ0 : zSt} {σ : zSt} {s0 : Int32} (h : (zQ [3, 5, 7, 9, 11, 12, 15, 17, 19, 21, 23, 25, 27, 28, 29, 30, 32, 34, 36, 42, 44] [] [5, 38, 46, 48] []) σ0 σ) : zpc (fX10_heard_24 σ s0) (fun r => (zQ [3, 5, 7, 9, 11, 12, 15, 17, 19, 21, 23, 25, 27, 28, 29, 30, 32, 34, 36, 42, 44] [] [5, 38, 46, 48] []) σ0 (r.1)) := by
  unfold fX10_heard_24
  exact zpc_some h
theorem fc_fX10_heard {σ0 : zSt} {σ : zSt} (h : (zQ [3, 5, 7, 9, 11, 12, 15, 17, 19, 21, 23, 25, 27, 28, 29, 30, 32, 34, 36, 42, 44] [] [5, 38, 46, 48] []) σ0 σ) : zpc (fX10_heard σ) (fun r => (zQ [3, 5, 7, 9, 11, 12, 15, 17, 19, 21, 23, 25, 27, 28, 29, 30, 32, 34, 36, 42, 44] [] [5, 38, 46, 48] []) σ0 (r.1)) := by
  unfold fX10_heard
  exact zpc_ck (zpc_if (fun _ => zpc_ck (fc_fX10_heard_24 h)) (fun _ => fc_fX10_heard_24 h))
theorem fc_fX6_add_k12_56 {σ0 : zSt} {σ : zSt} (h : (zQ [3, 5, 7, 9, 11, 12, 15, 17, 19, 21, 23, 25, 27, 28, 29, 30, 32, 34, 36, 42, 44] [] [5, 38, 46, 48] []) σ0 σ) : zpc (fX6_add_k12_56 σ) (fun r => (zQ [3, 5, 7, 9, 11, 12, 15, 17, 19, 21, 23, 25, 27, 28, 29, 30, 32, 34, 36, 42, 44] [] [5, 38, 46, 48] []) σ0 (r)) := by
  unfold fX6_add_k12_56
  exact zpc_some h
theorem fc_fX6_add_k12 {σ0 : zSt} {σ : zSt} {x1 : Int64} (h : (zQ [3, 5, 7, 9, 11, 12, 15, 17, 19, 21, 23, 25, 27, 28, 29, 30, 32, 34, 36, 42, 44] [] [5, 38, 46, 48] []) σ0 σ) : zpc (fX6_add_k12 σ x1) (fun r => (zQ [3, 5, 7, 9, 11, 12, 15, 17, 19, 21, 23, 25, 27, 28, 29, 30, 32, 34, 36, 42, 44] [] [5, 38, 46, 48] []) σ0 (r)) := by
  unfold fX6_add_k12
  exact zpc_ck (zpc_bs (zQ.wl h rfl) (fun σ1 hσ1 => zpc_if (fun _ => zpc_bs (zQ.wi hσ1 rfl) (fun σ2 hσ2 => fc_fX6_add_k12_56 hσ2)) (fun _ => zpc_bs (zQ.wi hσ1 rfl) (fun σ3 hσ3 => fc_fX6_add_k12_56 hσ3))))
theorem fc_fX0_addMix {σ0 : zSt} {σ : zSt} (h : (zQ [3, 5, 7, 9, 11, 12, 15, 17, 19, 21, 23, 25, 27, 28, 29, 30, 32, 34, 36, 42, 44] [] [5, 38, 46, 48] []) σ0 σ) : zpc (fX0_addMix σ) (fun r => (zQ [3, 5, 7, 9, 11, 12, 15, 17, 19, 21, 23, 25, 27, 28, 29, 30, 32, 34, 36, 42, 44] [] [5, 38, 46, 48] []) σ0 (r)) := by
  unfold fX0_addMix
  exact zpc_ck (zpc_bv (fun v1 _ => zpc_ck (zpc_ck (zpc_bi (fc_fX10_heard h) (fun σ2 v3 hσ2 => zpc_bv (fun v4 _ => zpc_ck (zpc_ck (zpc_bi (fc_fX10_heard hσ2) (fun σ5 v6 hσ5 => zpc_bv (fun v7 _ => zpc_bu (fc_fX6_add_k12 hσ5) (fun σ8 hσ8 => zpc_ck (zpc_bs (zQ.wl hσ8 rfl) (fun σ9 hσ9 => zpc_ck (zpc_bs (zQ.wl hσ9 rfl) (fun σ10 hσ10 => zpc_ck (zpc_bs (zQ.wl hσ10 rfl) (fun σ11 hσ11 => zpc_some hσ11)))))))))))))))))
theorem fc_fX0_pass_105_body {σ0 : zSt} {k105 : zSt → Int64 → Int64 → Option (zSt)} (hk105 : ∀ (y0 : zSt) (y1 : Int64) (y2 : Int64), (zQ [3, 5, 7, 9, 11, 12, 15, 17, 19, 21, 23, 25, 27, 28, 29, 30, 32, 34, 36, 42, 44] [] [5, 38, 46, 48] []) σ0 y0 → zpc (k105 y0 y1 y2) (fun r => (zQ [3, 5, 7, 9, 11, 12, 15, 17, 19, 21, 23, 25, 27, 28, 29, 30, 32, 34, 36, 42, 44] [] [5, 38, 46, 48] []) σ0 (r))) {σ : zSt} {x4 : Int64} {x6 : Int64} (h : (zQ [3, 5, 7, 9, 11, 12, 15, 17, 19, 21, 23, 25, 27, 28, 29, 30, 32, 34, 36, 42, 44] [] [5, 38, 46, 48] []) σ0 σ) : zpc (fX0_pass_105_body k105 σ x4 x6) (fun r => (zQ [3, 5, 7, 9, 11, 12, 15, 17, 19, 21, 23, 25, 27, 28, 29, 30, 32, 34, 36, 42, 44] [] [5, 38, 46, 48] []) σ0 (r)) := by
  unfold fX0_pass_105_body
  exact zpc_ck (zpc_if (fun _ => zpc_some h) (fun _ => zpc_bu (fc_fX0_addMix h) (fun σ1 hσ1 => zpc_bv (fun v2 _ => hk105 _ _ _ hσ1))))
theorem fc_fX0_pass_105 {σ0 : zSt} : ∀ (n : Nat) (y0 : zSt) (y1 : Int64) (y2 : Int64), (zQ [3, 5, 7, 9, 11, 12, 15, 17, 19, 21, 23, 25, 27, 28, 29, 30, 32, 34, 36, 42, 44] [] [5, 38, 46, 48] []) σ0 y0 → zpc (fX0_pass_105 n y0 y1 y2) (fun r => (zQ [3, 5, 7, 9, 11, 12, 15, 17, 19, 21, 23, 25, 27, 28, 29, 30, 32, 34, 36, 42, 44] [] [5, 38, 46, 48] []) σ0 (r)) := by
  intro n
  induction n with
  | zero => intro y0 y1 y2 h; exact zpc_none
  | succ n ih => intro y0 y1 y2 h; exact fc_fX0_pass_105_body ih h
theorem fc_fX0_pass_70_body {σ0 : zSt} {k70 : zSt → Int64 → Int64 → Int64 → Option (zSt)} (hk70 : ∀ (y0 : zSt) (y1 : Int64) (y2 : Int64) (y3 : Int64), (zQ [3, 5, 7, 9, 11, 12, 15, 17, 19, 21, 23, 25, 27, 28, 29, 30, 32, 34, 36, 42, 44] [] [5, 38, 46, 48] []) σ0 y0 → zpc (k70 y0 y1 y2 y3) (fun r => (zQ [3, 5, 7, 9, 11, 12, 15, 17, 19, 21, 23, 25, 27, 28, 29, 30, 32, 34, 36, 42, 44] [] [5, 38, 46, 48] []) σ0 (r))) {σ : zSt} {x2 : Int64} {x4 : Int64} {x6 : Int64} (h : (zQ [3, 5, 7, 9, 11, 12, 15, 17, 19, 21, 23, 25, 27, 28, 29, 30, 32, 34, 36, 42, 44] [] [5, 38, 46, 48] []) σ0 σ) : zpc (fX0_pass_70_body k70 σ x2 x4 x6) (fun r => (zQ [3, 5, 7, 9, 11, 12, 15, 17, 19, 21, 23, 25, 27, 28, 29, 30, 32, 34, 36, 42, 44] [] [5, 38, 46, 48] []) σ0 (r)) := by
  unfold fX0_pass_70_body
  exact zpc_ck (zpc_if (fun _ => zpc_ck (zpc_bv (fun v3 _ => fc_fX0_pass_105 _ _ _ _ h))) (fun _ => zpc_bu (fc_fX10_makeNext h) (fun σ4 hσ4 => zpc_bv (fun v5 _ => hk70 _ _ _ _ hσ4))))
theorem fc_fX0_pass_70 {σ0 : zSt} : ∀ (n : Nat) (y0 : zSt) (y1 : Int64) (y2 : Int64) (y3 : Int64), (zQ [3, 5, 7, 9, 11, 12, 15, 17, 19, 21, 23, 25, 27, 28, 29, 30, 32, 34, 36, 42, 44] [] [5, 38, 46, 48] []) σ0 y0 → zpc (fX0_pass_70 n y0 y1 y2 y3) (fun r => (zQ [3, 5, 7, 9, 11, 12, 15, 17, 19, 21, 23, 25, 27, 28, 29, 30, 32, 34, 36, 42, 44] [] [5, 38, 46, 48] []) σ0 (r)) := by
  intro n
  induction n with
  | zero => intro y0 y1 y2 y3 h; exact zpc_none
  | succ n ih => intro y0 y1 y2 y3 h; exact fc_fX0_pass_70_body ih h
theorem fc_fX0_pass_38_body {σ0 : zSt} {k38 : zSt → Int64 → Int64 → Int64 → Option (zSt)} (hk38 : ∀ (y0 : zSt) (y1 : Int64) (y2 : Int64) (y3 : Int64), (zQ [3, 5, 7, 9, 11, 12, 15, 17, 19, 21, 23, 25, 27, 28, 29, 30, 32, 34, 36, 42, 44] [] [5, 38, 46, 48] []) σ0 y0 → zpc (k38 y0 y1 y2 y3) (fun r => (zQ [3, 5, 7, 9, 11, 12, 15, 17, 19, 21, 23, 25, 27, 28, 29, 30, 32, 34, 36, 42, 44] [] [5, 38, 46, 48] []) σ0 (r))) {σ : zSt} {x2 : Int64} {x4 : Int64} {x6 : Int64} (h : (zQ [3, 5, 7, 9, 11, 12, 15, 17, 19, 21, 23, 25, 27, 28, 29, 30, 32, 34, 36, 42, 44] [] [5, 38, 46, 48] []) σ0 σ) : zpc (fX0_pass_38_body k38 σ x2 x4 x6) (fun r => (zQ [3, 5, 7, 9, 11, 12, 15, 17, 19, 21, 23, 25, 27, 28, 29, 30, 32, 34, 36, 42, 44] [] [5, 38, 46, 48] []) σ0 (r)) := by
  unfold fX0_pass_38_body
  exact zpc_ck (zpc_if (fun _ => zpc_ck (zpc_bv (fun v6 _ => fc_fX0_pass_70 _ _ _ _ _ h))) (fun _ => zpc_bu (fc_fX0_addSample h) (fun σ7 hσ7 => zpc_bv (fun v8 _ => hk38 _ _ _ _ hσ7))))
theorem fc_fX0_pass_38 {σ0 : zSt} : ∀ (n : Nat) (y0 : zSt) (y1 : Int64) (y2 : Int64) (y3 : Int64), (zQ [3, 5, 7, 9, 11, 12, 15, 17, 19, 21, 23, 25, 27, 28, 29, 30, 32, 34, 36, 42, 44] [] [5, 38, 46, 48] []) σ0 y0 → zpc (fX0_pass_38 n y0 y1 y2 y3) (fun r => (zQ [3, 5, 7, 9, 11, 12, 15, 17, 19, 21, 23, 25, 27, 28, 29, 30, 32, 34, 36, 42, 44] [] [5, 38, 46, 48] []) σ0 (r)) := by
  intro n
  induction n with
  | zero => intro y0 y1 y2 y3 h; exact zpc_none
  | succ n ih => intro y0 y1 y2 y3 h; exact fc_fX0_pass_38_body ih h
theorem fc_fX0_pass {σ0 : zSt} {σ : zSt} {x1 : Int32} (h : (zQ [3, 5, 7, 9, 11, 12, 15, 17, 19, 21, 23, 25, 27, 28, 29, 30, 32, 34, 36, 42, 44] [] [5, 38, 46, 48] []) σ0 σ) : zpc (fX0_pass σ x1) (fun r => (zQ [3, 5, 7, 9, 11, 12, 15, 17, 19, 21, 23, 25, 27, 28, 29, 30, 32, 34, 36, 42, 44] [] [5, 38, 46, 48] []) σ0 (r)) := by
  unfold fX0_pass
  exact zpc_ck (zpc_bv (fun v9 _ => zpc_bv (fun v10 _ => zpc_ck (zpc_bs (zQ.wl h rfl) (fun σ11 hσ11 => zpc_ck (zpc_ck (zpc_bs (zQ.wl hσ11 rfl) (fun σ12 hσ12 => zpc_ck (zpc_bv (fun v13 _ => fc_fX0_pass_38 _ _ _ _ _ hσ12))))))))))
theorem fc_fX1_noteStep {σ0 : zSt} {σ : zSt} {x1 : Int32} (h : (zQ [3, 5, 7, 9, 11, 12, 15, 17, 19, 21, 23, 25, 27, 28, 29, 30, 32, 34, 36, 42, 44] [] [5, 38, 46, 48] []) σ0 σ) : zpc (fX1_noteStep σ x1) (fun r => (zQ [3, 5, 7, 9, 11, 12, 15, 17, 19, 21, 23, 25, 27, 28, 29, 30, 32, 34, 36, 42, 44] [] [5, 38, 46, 48] []) σ0 (r)) := by
  unfold fX1_noteStep
  exact zpc_ck (zpc_bs (zQ.wi h rfl) (fun σ1 hσ1 => zpc_bs (zQ.wi hσ1 rfl) (fun σ2 hσ2 => zpc_some hσ2)))
theorem fc_fX1_placeOfStop_37 {σ0 : zSt} {σ : zSt} (h : (zQ [3, 5, 7, 9, 11, 12, 15, 17, 19, 21, 23, 25, 27, 28, 29, 30, 32, 34, 36, 42, 44] [] [5, 38, 46, 48] []) σ0 σ) : zpc (fX1_placeOfStop_37 σ) (fun r => (zQ [3, 5, 7, 9, 11, 12, 15, 17, 19, 21, 23, 25, 27, 28, 29, 30, 32, 34, 36, 42, 44] [] [5, 38, 46, 48] []) σ0 (r.1)) := by
  unfold fX1_placeOfStop_37
  exact zpc_some h
theorem fc_fX1_placeOfStop_2_body {σ0 : zSt} {k2 : zSt → Int32 → Int32 → Option (zSt × Int32)} (hk2 : ∀ (y0 : zSt) (y1 : Int32) (y2 : Int32), (zQ [3, 5, 7, 9, 11, 12, 15, 17, 19, 21, 23, 25, 27, 28, 29, 30, 32, 34, 36, 42, 44] [] [5, 38, 46, 48] []) σ0 y0 → zpc (k2 y0 y1 y2) (fun r => (zQ [3, 5, 7, 9, 11, 12, 15, 17, 19, 21, 23, 25, 27, 28, 29, 30, 32, 34, 36, 42, 44] [] [5, 38, 46, 48] []) σ0 (r.1))) {σ : zSt} {x1 : Int32} {x2 : Int32} (h : (zQ [3, 5, 7, 9, 11, 12, 15, 17, 19, 21, 23, 25, 27, 28, 29, 30, 32, 34, 36, 42, 44] [] [5, 38, 46, 48] []) σ0 σ) : zpc (fX1_placeOfStop_2_body k2 σ x1 x2) (fun r => (zQ [3, 5, 7, 9, 11, 12, 15, 17, 19, 21, 23, 25, 27, 28, 29, 30, 32, 34, 36, 42, 44] [] [5, 38, 46, 48] []) σ0 (r.1)) := by
  unfold fX1_placeOfStop_2_body
  exact zpc_if (fun _ => fc_fX1_placeOfStop_37 h) (fun _ => zpc_ck (zpc_if (fun _ => fc_fX1_placeOfStop_37 h) (fun _ => zpc_ck (zpc_if (fun _ => zpc_some h) (fun _ => zpc_bv (fun v1 _ => hk2 _ _ _ h))))))
theorem fc_fX1_placeOfStop_2 {σ0 : zSt} : ∀ (n : Nat) (y0 : zSt) (y1 : Int32) (y2 : Int32), (zQ [3, 5, 7, 9, 11, 12, 15, 17, 19, 21, 23, 25, 27, 28, 29, 30, 32, 34, 36, 42, 44] [] [5, 38, 46, 48] []) σ0 y0 → zpc (fX1_placeOfStop_2 n y0 y1 y2) (fun r => (zQ [3, 5, 7, 9, 11, 12, 15, 17, 19, 21, 23, 25, 27, 28, 29, 30, 32, 34, 36, 42, 44] [] [5, 38, 46, 48] []) σ0 (r.1)) := by
  intro n
  induction n with
  | zero => intro y0 y1 y2 h; exact zpc_none
  | succ n ih => intro y0 y1 y2 h; exact fc_fX1_placeOfStop_2_body ih h
theorem fc_fX1_placeOfStop {σ0 : zSt} {σ : zSt} {x1 : Int32} (h : (zQ [3, 5, 7, 9, 11, 12, 15, 17, 19, 21, 23, 25, 27, 28, 29, 30, 32, 34, 36, 42, 44] [] [5, 38, 46, 48] []) σ0 σ) : zpc (fX1_placeOfStop σ x1) (fun r => (zQ [3, 5, 7, 9, 11, 12, 15, 17, 19, 21, 23, 25, 27, 28, 29, 30, 32, 34, 36, 42, 44] [] [5, 38, 46, 48] []) σ0 (r.1)) := by
  unfold fX1_placeOfStop
  exact fc_fX1_placeOfStop_2 _ _ _ _ h
theorem fc_fX1_isStop_13 {σ0 : zSt} {σ : zSt} {s0 : Int32} (h : (zQ [3, 5, 7, 9, 11, 12, 15, 17, 19, 21, 23, 25, 27, 28, 29, 30, 32, 34, 36, 42, 44] [] [5, 38, 46, 48] []) σ0 σ) : zpc (fX1_isStop_13 σ s0) (fun r => (zQ [3, 5, 7, 9, 11, 12, 15, 17, 19, 21, 23, 25, 27, 28, 29, 30, 32, 34, 36, 42, 44] [] [5, 38, 46, 48] []) σ0 (r.1)) := by
  unfold fX1_isStop_13
  exact zpc_ck (zpc_some h)
theorem fc_fX1_isStop {σ0 : zSt} {σ : zSt} {x1 : Int32} (h : (zQ [3, 5, 7, 9, 11, 12, 15, 17, 19, 21, 23, 25, 27, 28, 29, 30, 32, 34, 36, 42, 44] [] [5, 38, 46, 48] []) σ0 σ) : zpc (fX1_isStop σ x1) (fun r => (zQ [3, 5, 7, 9, 11, 12, 15, 17, 19, 21, 23, 25, 27, 28, 29, 30, 32, 34, 36, 42, 44] [] [5, 38, 46, 48] []) σ0 (r.1)) := by
  unfold fX1_isStop
  exact zpc_bi (fc_fX1_placeOfStop h) (fun σ1 v2 hσ1 => zpc_if (fun _ => fc_fX1_isStop_13 hσ1) (fun _ => fc_fX1_isStop_13 hσ1))
theorem fc_fX1_placeOfPlan {σ0 : zSt} {σ : zSt} {x1 : Int32} (h : (zQ [3, 5, 7, 9, 11, 12, 15, 17, 19, 21, 23, 25, 27, 28, 29, 30, 32, 34, 36, 42, 44] [] [5, 38, 46, 48] []) σ0 σ) : zpc (fX1_placeOfPlan σ x1) (fun r => (zQ [3, 5, 7, 9, 11, 12, 15, 17, 19, 21, 23, 25, 27, 28, 29, 30, 32, 34, 36, 42, 44] [] [5, 38, 46, 48] []) σ0 (r.1)) := by
  unfold fX1_placeOfPlan
  exact zpc_ck (zpc_some h)
theorem fc_fX4_holdButtons {σ0 : zSt} {σ : zSt} {x1 : Int32} {x2 : Int32} (h : (zQ [3, 5, 7, 9, 11, 12, 15, 17, 19, 21, 23, 25, 27, 28, 29, 30, 32, 34, 36, 42, 44] [] [5, 38, 46, 48] []) σ0 σ) : zpc (fX4_holdButtons σ x1 x2) (fun r => (zQ [3, 5, 7, 9, 11, 12, 15, 17, 19, 21, 23, 25, 27, 28, 29, 30, 32, 34, 36, 42, 44] [] [5, 38, 46, 48] []) σ0 (r)) := by
  unfold fX4_holdButtons
  exact zpc_ck (zpc_bs (zQ.wi h rfl) (fun σ1 hσ1 => zpc_some hσ1))
theorem fc_fX1_carryOutPlans_107 {σ0 : zSt} {σ : zSt} (h : (zQ [3, 5, 7, 9, 11, 12, 15, 17, 19, 21, 23, 25, 27, 28, 29, 30, 32, 34, 36, 42, 44] [] [5, 38, 46, 48] []) σ0 σ) : zpc (fX1_carryOutPlans_107 σ) (fun r => (zQ [3, 5, 7, 9, 11, 12, 15, 17, 19, 21, 23, 25, 27, 28, 29, 30, 32, 34, 36, 42, 44] [] [5, 38, 46, 48] []) σ0 (r)) := by
  unfold fX1_carryOutPlans_107
  exact zpc_some h
theorem fc_fX1_carryOutPlans_3_body {σ0 : zSt} {k3 : zSt → Int64 → Int32 → Option (zSt)} (hk3 : ∀ (y0 : zSt) (y1 : Int64) (y2 : Int32), (zQ [3, 5, 7, 9, 11, 12, 15, 17, 19, 21, 23, 25, 27, 28, 29, 30, 32, 34, 36, 42, 44] [] [5, 38, 46, 48] []) σ0 y0 → zpc (k3 y0 y1 y2) (fun r => (zQ [3, 5, 7, 9, 11, 12, 15, 17, 19, 21, 23, 25, 27, 28, 29, 30, 32, 34, 36, 42, 44] [] [5, 38, 46, 48] []) σ0 (r))) {σ : zSt} {x1 : Int64} {x4 : Int32} (h : (zQ [3, 5, 7, 9, 11, 12, 15, 17, 19, 21, 23, 25, 27, 28, 29, 30, 32, 34, 36, 42, 44] [] [5, 38, 46, 48] []) σ0 σ) : zpc (fX1_carryOutPlans_3_body k3 σ x1 x4) (fun r => (zQ [3, 5, 7, 9, 11, 12, 15, 17, 19, 21, 23, 25, 27, 28, 29, 30, 32, 34, 36, 42, 44] [] [5, 38, 46, 48] []) σ0 (r)) := by
  unfold fX1_carryOutPlans_3_body
  exact zpc_if (fun _ => fc_fX1_carryOutPlans_107 h) (fun _ => zpc_ck (zpc_if (fun _ => fc_fX1_carryOutPlans_107 h) (fun _ => zpc_bi (fc_fX1_placeOfPlan h) (fun σ1 v2 hσ1 => zpc_ck (zpc_if (fun _ => zpc_ck (zpc_ck (zpc_bu (fc_fX4_holdButtons hσ1) (fun σ3 hσ3 => zpc_ck (zpc_ck (zpc_bs (zQ.wi hσ3 rfl) (fun σ4 hσ4 => zpc_ck (zpc_ck (zpc_bs (zQ.wi hσ4 rfl) (fun σ5 hσ5 => zpc_bv (fun v6 _ => hk3 _ _ _ hσ5))))))))))) (fun _ => fc_fX1_carryOutPlans_107 hσ1))))))
theorem fc_fX1_carryOutPlans_3 {σ0 : zSt} : ∀ (n : Nat) (y0 : zSt) (y1 : Int64) (y2 : Int32), (zQ [3, 5, 7, 9, 11, 12, 15, 17, 19, 21, 23, 25, 27, 28, 29, 30, 32, 34, 36, 42, 44] [] [5, 38, 46, 48] []) σ0 y0 → zpc (fX1_carryOutPlans_3 n y0 y1 y2) (fun r => (zQ [3, 5, 7, 9, 11, 12, 15, 17, 19, 21, 23, 25, 27, 28, 29, 30, 32, 34, 36, 42, 44] [] [5, 38, 46, 48] []) σ0 (r)) := by
  intro n
  induction n with
  | zero => intro y0 y1 y2 h; exact zpc_none
  | succ n ih => intro y0 y1 y2 h; exact fc_fX1_carryOutPlans_3_body ih h
theorem fc_fX1_carryOutPlans {σ0 : zSt} {σ : zSt} {x1 : Int64} (h : (zQ [3, 5, 7, 9, 11, 12, 15, 17, 19, 21, 23, 25, 27, 28, 29, 30, 32, 34, 36, 42, 44] [] [5, 38, 46, 48] []) σ0 σ) : zpc (fX1_carryOutPlans σ x1) (fun r => (zQ [3, 5, 7, 9, 11, 12, 15, 17, 19, 21, 23, 25, 27, 28, 29, 30, 32, 34, 36, 42, 44] [] [5, 38, 46, 48] []) σ0 (r)) := by
  unfold fX1_carryOutPlans
  exact fc_fX1_carryOutPlans_3 _ _ _ _ h
theorem fc_fX2_batteryIsIn_25 {σ0 : zSt} {σ : zSt} {s0 : Int32} (h : (zQ [3, 5, 7, 9, 11, 12, 15, 17, 19, 21, 23, 25, 27, 28, 29, 30, 32, 34, 36, 42, 44] [] [5, 38, 46, 48] []) σ0 σ) : zpc (fX2_batteryIsIn_25 σ s0) (fun r => (zQ [3, 5, 7, 9, 11, 12, 15, 17, 19, 21, 23, 25, 27, 28, 29, 30, 32, 34, 36, 42, 44] [] [5, 38, 46, 48] []) σ0 (r.1)) := by
  unfold fX2_batteryIsIn_25
  exact zpc_ck (zpc_some h)
theorem fc_fX2_batteryIsIn_24 {σ0 : zSt} {σ : zSt} (h : (zQ [3, 5, 7, 9, 11, 12, 15, 17, 19, 21, 23, 25, 27, 28, 29, 30, 32, 34, 36, 42, 44] [] [5, 38, 46, 48] []) σ0 σ) : zpc (fX2_batteryIsIn_24 σ) (fun r => (zQ [3, 5, 7, 9, 11, 12, 15, 17, 19, 21, 23, 25, 27, 28, 29, 30, 32, 34, 36, 42, 44] [] [5, 38, 46, 48] []) σ0 (r.1)) := by
  unfold fX2_batteryIsIn_24
  exact fc_fX2_batteryIsIn_25 h
theorem fc_fX2_batteryIsIn {σ0 : zSt} {σ : zSt} (h : (zQ [3, 5, 7, 9, 11, 12, 15, 17, 19, 21, 23, 25, 27, 28, 29, 30, 32, 34, 36, 42, 44] [] [5, 38, 46, 48] []) σ0 σ) : zpc (fX2_batteryIsIn σ) (fun r => (zQ [3, 5, 7, 9, 11, 12, 15, 17, 19, 21, 23, 25, 27, 28, 29, 30, 32, 34, 36, 42, 44] [] [5, 38, 46, 48] []) σ0 (r.1)) := by
  unfold fX2_batteryIsIn
  exact zpc_if (fun _ => zpc_ck (zpc_if (fun _ => fc_fX2_batteryIsIn_24 h) (fun _ => fc_fX2_batteryIsIn_25 h))) (fun _ => fc_fX2_batteryIsIn_24 h)
theorem fc_fX2_batteryPlace {σ0 : zSt} {σ : zSt} {x1 : Int32} (h : (zQ [3, 5, 7, 9, 11, 12, 15, 17, 19, 21, 23, 25, 27, 28, 29, 30, 32, 34, 36, 42, 44] [] [5, 38, 46, 48] []) σ0 σ) : zpc (fX2_batteryPlace σ x1) (fun r => (zQ [3, 5, 7, 9, 11, 12, 15, 17, 19, 21, 23, 25, 27, 28, 29, 30, 32, 34, 36, 42, 44] [] [5, 38, 46, 48] []) σ0 (r.1)) := by
  unfold fX2_batteryPlace
  exact zpc_ck (zpc_some h)
theorem fc_fX2_read_169 {σ0 : zSt} {σ : zSt} {s0 : Int32} (h : (zQ [3, 5, 7, 9, 11, 12, 15, 17, 19, 21, 23, 25, 27, 28, 29, 30, 32, 34, 36, 42, 44] [] [5, 38, 46, 48] []) σ0 σ) : zpc (fX2_read_169 σ s0) (fun r => (zQ [3, 5, 7, 9, 11, 12, 15, 17, 19, 21, 23, 25, 27, 28, 29, 30, 32, 34, 36, 42, 44] [] [5, 38, 46, 48] []) σ0 (r.1)) := by
  unfold fX2_read_169
  exact zpc_some h
theorem fc_fX2_read_144 {σ0 : zSt} {σ : zSt} {x3 : Int32} (h : (zQ [3, 5, 7, 9, 11, 12, 15, 17, 19, 21, 23, 25, 27, 28, 29, 30, 32, 34, 36, 42, 44] [] [5, 38, 46, 48] []) σ0 σ) : zpc (fX2_read_144 σ x3) (fun r => (zQ [3, 5, 7, 9, 11, 12, 15, 17, 19, 21, 23, 25, 27, 28, 29, 30, 32, 34, 36, 42, 44] [] [5, 38, 46, 48] []) σ0 (r.1)) := by
  unfold fX2_read_144
  exact zpc_if (fun _ => fc_fX2_read_169 h) (fun _ => zpc_ck (fc_fX2_read_169 h))
theorem fc_fX2_read_126 {σ0 : zSt} {σ : zSt} {x2 : Int32} {x6 : Int32} (h : (zQ [3, 5, 7, 9, 11, 12, 15, 17, 19, 21, 23, 25, 27, 28, 29, 30, 32, 34, 36, 42, 44] [] [5, 38, 46, 48] []) σ0 σ) : zpc (fX2_read_126 σ x2 x6) (fun r => (zQ [3, 5, 7, 9, 11, 12, 15, 17, 19, 21, 23, 25, 27, 28, 29, 30, 32, 34, 36, 42, 44] [] [5, 38, 46, 48] []) σ0 (r.1)) := by
  unfold fX2_read_126
  exact zpc_ck (zpc_bv (fun v1 _ => fc_fX2_read_144 h))
theorem fc_fX2_read_106 {σ0 : zSt} {σ : zSt} {x2 : Int32} {s0 : Int32} (h : (zQ [3, 5, 7, 9, 11, 12, 15, 17, 19, 21, 23, 25, 27, 28, 29, 30, 32, 34, 36, 42, 44] [] [5, 38, 46, 48] []) σ0 σ) : zpc (fX2_read_106 σ x2 s0) (fun r => (zQ [3, 5, 7, 9, 11, 12, 15, 17, 19, 21, 23, 25, 27, 28, 29, 30, 32, 34, 36, 42, 44] [] [5, 38, 46, 48] []) σ0 (r.1)) := by
  unfold fX2_read_106
  exact zpc_if (fun _ => zpc_if (fun _ => fc_fX2_read_126 h) (fun _ => fc_fX2_read_126 h)) (fun _ => fc_fX2_read_126 h)
theorem fc_fX2_read_87 {σ0 : zSt} {σ : zSt} {x2 : Int32} {x4 : Int32} {s0 : Int32} (h : (zQ [3, 5, 7, 9, 11, 12, 15, 17, 19, 21, 23, 25, 27, 28, 29, 30, 32, 34, 36, 42, 44] [] [5, 38, 46, 48] []) σ0 σ) : zpc (fX2_read_87 σ x2 x4 s0) (fun r => (zQ [3, 5, 7, 9, 11, 12, 15, 17, 19, 21, 23, 25, 27, 28, 29, 30, 32, 34, 36, 42, 44] [] [5, 38, 46, 48] []) σ0 (r.1)) := by
  unfold fX2_read_87
  exact zpc_if (fun _ => zpc_ck (fc_fX2_read_106 h)) (fun _ => fc_fX2_read_106 h)
theorem fc_fX2_read_86 {σ0 : zSt} {σ : zSt} {x2 : Int32} {x4 : Int32} (h : (zQ [3, 5, 7, 9, 11, 12, 15, 17, 19, 21, 23, 25, 27, 28, 29, 30, 32, 34, 36, 42, 44] [] [5, 38, 46, 48] []) σ0 σ) : zpc (fX2_read_86 σ x2 x4) (fun r => (zQ [3, 5, 7, 9, 11, 12, 15, 17, 19, 21, 23, 25, 27, 28, 29, 30, 32, 34, 36, 42, 44] [] [5, 38, 46, 48] []) σ0 (r.1)) := by
  unfold fX2_read_86
  exact fc_fX2_read_87 h
theorem fc_fX2_read_62 {σ0 : zSt} {σ : zSt} {x2 : Int32} (h : (zQ [3, 5, 7, 9, 11, 12, 15, 17, 19, 21, 23, 25, 27, 28, 29, 30, 32, 34, 36, 42, 44] [] [5, 38, 46, 48] []) σ0 σ) : zpc (fX2_read_62 σ x2) (fun r => (zQ [3, 5, 7, 9, 11, 12, 15, 17, 19, 21, 23, 25, 27, 28, 29, 30, 32, 34, 36, 42, 44] [] [5, 38, 46, 48] []) σ0 (r.1)) := by
  unfold fX2_read_62
  exact zpc_bv (fun v2 _ => zpc_if (fun _ => zpc_if (fun _ => fc_fX2_read_86 h) (fun _ => fc_fX2_read_87 h)) (fun _ => fc_fX2_read_86 h))
theorem fc_fX2_read {σ0 : zSt} {σ : zSt} {x1 : Int32} (h : (zQ [3, 5, 7, 9, 11, 12, 15, 17, 19, 21, 23, 25, 27, 28, 29, 30, 32, 34, 36, 42, 44] [] [5, 38, 46, 48] []) σ0 σ) : zpc (fX2_read σ x1) (fun r => (zQ [3, 5, 7, 9, 11, 12, 15, 17, 19, 21, 23, 25, 27, 28, 29, 30, 32, 34, 36, 42, 44] [] [5, 38, 46, 48] []) σ0 (r.1)) := by
  unfold fX2_read
  exact zpc_bv (fun v3 _ => zpc_if (fun _ => zpc_if (fun _ => fc_fX2_read_144 h) (fun _ => zpc_if (fun _ => fc_fX2_read_144 h) (fun _ => zpc_if (fun _ => fc_fX2_read_62 h) (fun _ => zpc_bi (fc_fX2_batteryIsIn h) (fun σ4 v5 hσ4 => zpc_if (fun _ => fc_fX2_read_62 hσ4) (fun _ => zpc_bi (fc_fX2_batteryPlace hσ4) (fun σ6 v7 hσ6 => zpc_ck (zpc_some hσ6)))))))) (fun _ => zpc_ck (zpc_some h)))
theorem fc_fX2_write_151 {σ0 : zSt} {σ : zSt} (h : (zQ [3, 5, 7, 9, 11, 12, 15, 17, 19, 21, 23, 25, 27, 28, 29, 30, 32, 34, 36, 42, 44] [] [5, 38, 46, 48] []) σ0 σ) : zpc (fX2_write_151 σ) (fun r => (zQ [3, 5, 7, 9, 11, 12, 15, 17, 19, 21, 23, 25, 27, 28, 29, 30, 32, 34, 36, 42, 44] [] [5, 38, 46, 48] []) σ0 (r)) := by
  unfold fX2_write_151
  exact zpc_some h
theorem fc_fX2_write_54 {σ0 : zSt} {σ : zSt} {x2 : Int32} {s0 : Int32} (h : (zQ [3, 5, 7, 9, 11, 12, 15, 17, 19, 21, 23, 25, 27, 28, 29, 30, 32, 34, 36, 42, 44] [] [5, 38, 46, 48] []) σ0 σ) : zpc (fX2_write_54 σ x2 s0) (fun r => (zQ [3, 5, 7, 9, 11, 12, 15, 17, 19, 21, 23, 25, 27, 28, 29, 30, 32, 34, 36, 42, 44] [] [5, 38, 46, 48] []) σ0 (r)) := by
  unfold fX2_write_54
  exact zpc_ck (zpc_bs (zQ.wi h rfl) (fun σ1 hσ1 => fc_fX2_write_151 hσ1))
theorem fc_fX2_write_130 {σ0 : zSt} {σ : zSt} {x2 : Int32} {x3 : Int32} (h : (zQ [3, 5, 7, 9, 11, 12, 15, 17, 19, 21, 23, 25, 27, 28, 29, 30, 32, 34, 36, 42, 44] [] [5, 38, 46, 48] []) σ0 σ) : zpc (fX2_write_130 σ x2 x3) (fun r => (zQ [3, 5, 7, 9, 11, 12, 15, 17, 19, 21, 23, 25, 27, 28, 29, 30, 32, 34, 36, 42, 44] [] [5, 38, 46, 48] []) σ0 (r)) := by
  unfold fX2_write_130
  exact zpc_if (fun _ => zpc_if (fun _ => zpc_ck (zpc_bs (zQ.wi h rfl) (fun σ2 hσ2 => fc_fX2_write_151 hσ2))) (fun _ => fc_fX2_write_151 h)) (fun _ => fc_fX2_write_151 h)
theorem fc_fX2_write_117 {σ0 : zSt} {σ : zSt} {x2 : Int32} {x3 : Int32} (h : (zQ [3, 5, 7, 9, 11, 12, 15, 17, 19, 21, 23, 25, 27, 28, 29, 30, 32, 34, 36, 42, 44] [] [5, 38, 46, 48] []) σ0 σ) : zpc (fX2_write_117 σ x2 x3) (fun r => (zQ [3, 5, 7, 9, 11, 12, 15, 17, 19, 21, 23, 25, 27, 28, 29, 30, 32, 34, 36, 42, 44] [] [5, 38, 46, 48] []) σ0 (r)) := by
  unfold fX2_write_117
  exact zpc_ck (zpc_bs (zQ.wi h rfl) (fun σ3 hσ3 => fc_fX2_write_151 hσ3))
theorem fc_fX2_write_22 {σ0 : zSt} {σ : zSt} {x2 : Int32} {x3 : Int32} (h : (zQ [3, 5, 7, 9, 11, 12, 15, 17, 19, 21, 23, 25, 27, 28, 29, 30, 32, 34, 36, 42, 44] [] [5, 38, 46, 48] []) σ0 σ) : zpc (fX2_write_22 σ x2 x3) (fun r => (zQ [3, 5, 7, 9, 11, 12, 15, 17, 19, 21, 23, 25, 27, 28, 29, 30, 32, 34, 36, 42, 44] [] [5, 38, 46, 48] []) σ0 (r)) := by
  unfold fX2_write_22
  exact zpc_if (fun _ => zpc_if (fun _ => zpc_if (fun _ => fc_fX2_write_151 h) (fun _ => zpc_if (fun _ => fc_fX2_write_151 h) (fun _ => zpc_bi (fc_fX2_batteryIsIn h) (fun σ4 v5 hσ4 => zpc_if (fun _ => fc_fX2_write_151 hσ4) (fun _ => zpc_bi (fc_fX2_batteryPlace hσ4) (fun σ6 v7 hσ6 => zpc_ck (zpc_bs (zQ.wi hσ6 rfl) (fun σ8 hσ8 => fc_fX2_write_151 hσ8)))))))) (fun _ => zpc_if (fun _ => fc_fX2_write_54 h) (fun _ => fc_fX2_write_54 h))) (fun _ => zpc_if (fun _ => zpc_if (fun _ => fc_fX2_write_117 h) (fun _ => zpc_if (fun _ => fc_fX2_write_117 h) (fun _ => zpc_if (fun _ => fc_fX2_write_117 h) (fun _ => fc_fX2_write_130 h)))) (fun _ => fc_fX2_write_130 h))
theorem fc_fX2_write {σ0 : zSt} {σ : zSt} {x1 : Int32} {x2 : Int32} (h : (zQ [3, 5, 7, 9, 11, 12, 15, 17, 19, 21, 23, 25, 27, 28, 29, 30, 32, 34, 36, 42, 44] [] [5, 38, 46, 48] []) σ0 σ) : zpc (fX2_write σ x1 x2) (fun r => (zQ [3, 5, 7, 9, 11, 12, 15, 17, 19, 21, 23, 25, 27, 28, 29, 30, 32, 34, 36, 42, 44] [] [5, 38, 46, 48] []) σ0 (r)) := by
  unfold fX2_write
  exact zpc_bv (fun v9 _ => zpc_if (fun _ => fc_fX2_write_22 h) (fun _ => zpc_ck (zpc_bs (zQ.wi h rfl) (fun σ10 hσ10 => fc_fX2_write_22 hσ10))))
theorem fc_fX9_height {σ0 : zSt} {σ : zSt} (h : (zQ [3, 5, 7, 9, 11, 12, 15, 17, 19, 21, 23, 25, 27, 28, 29, 30, 32, 34, 36, 42, 44] [] [5, 38, 46, 48] []) σ0 σ) : zpc (fX9_height σ) (fun r => (zQ [3, 5, 7, 9, 11, 12, 15, 17, 19, 21, 23, 25, 27, 28, 29, 30, 32, 34, 36, 42, 44] [] [5, 38, 46, 48] []) σ0 (r.1)) := by
  unfold fX9_height
  exact zpc_ck (zpc_if (fun _ => zpc_ck (zpc_if (fun _ => zpc_some h) (fun _ => zpc_if (fun _ => zpc_some h) (fun _ => zpc_some h)))) (fun _ => zpc_some h))
theorem fc_fX9_held_20 {σ0 : zSt} {σ : zSt} {s0 : Int32} (h : (zQ [3, 5, 7, 9, 11, 12, 15, 17, 19, 21, 23, 25, 27, 28, 29, 30, 32, 34, 36, 42, 44] [] [5, 38, 46, 48] []) σ0 σ) : zpc (fX9_held_20 σ s0) (fun r => (zQ [3, 5, 7, 9, 11, 12, 15, 17, 19, 21, 23, 25, 27, 28, 29, 30, 32, 34, 36, 42, 44] [] [5, 38, 46, 48] []) σ0 (r.1)) := by
  unfold fX9_held_20
  exact zpc_some h
theorem fc_fX9_held_19 {σ0 : zSt} {σ : zSt} (h : (zQ [3, 5, 7, 9, 11, 12, 15, 17, 19, 21, 23, 25, 27, 28, 29, 30, 32, 34, 36, 42, 44] [] [5, 38, 46, 48] []) σ0 σ) : zpc (fX9_held_19 σ) (fun r => (zQ [3, 5, 7, 9, 11, 12, 15, 17, 19, 21, 23, 25, 27, 28, 29, 30, 32, 34, 36, 42, 44] [] [5, 38, 46, 48] []) σ0 (r.1)) := by
  unfold fX9_held_19
  exact fc_fX9_held_20 h
theorem fc_fX9_held {σ0 : zSt} {σ : zSt} {x1 : Int32} (h : (zQ [3, 5, 7, 9, 11, 12, 15, 17, 19, 21, 23, 25, 27, 28, 29, 30, 32, 34, 36, 42, 44] [] [5, 38, 46, 48] []) σ0 σ) : zpc (fX9_held σ x1) (fun r => (zQ [3, 5, 7, 9, 11, 12, 15, 17, 19, 21, 23, 25, 27, 28, 29, 30, 32, 34, 36, 42, 44] [] [5, 38, 46, 48] []) σ0 (r.1)) := by
  unfold fX9_held
  exact zpc_if (fun _ => fc_fX9_held_19 h) (fun _ => zpc_if (fun _ => fc_fX9_held_19 h) (fun _ => zpc_ck (fc_fX9_held_20 h)))
theorem fc_fX9_mode_57 {σ0 : zSt} {σ : zSt} {s0 : Int32} (h : (zQ [3, 5, 7, 9, 11, 12, 15, 17, 19, 21, 23, 25, 27, 28, 29, 30, 32, 34, 36, 42, 44] [] [5, 38, 46, 48] []) σ0 σ) : zpc (fX9_mode_57 σ s0) (fun r => (zQ [3, 5, 7, 9, 11, 12, 15, 17, 19, 21, 23, 25, 27, 28, 29, 30, 32, 34, 36, 42, 44] [] [5, 38, 46, 48] []) σ0 (r.1)) := by
  unfold fX9_mode_57
  exact zpc_some h
theorem fc_fX9_mode {σ0 : zSt} {σ : zSt} (h : (zQ [3, 5, 7, 9, 11, 12, 15, 17, 19, 21, 23, 25, 27, 28, 29, 30, 32, 34, 36, 42, 44] [] [5, 38, 46, 48] []) σ0 σ) : zpc (fX9_mode σ) (fun r => (zQ [3, 5, 7, 9, 11, 12, 15, 17, 19, 21, 23, 25, 27, 28, 29, 30, 32, 34, 36, 42, 44] [] [5, 38, 46, 48] []) σ0 (r.1)) := by
  unfold fX9_mode
  exact zpc_ck (zpc_if (fun _ => zpc_ck (zpc_if (fun _ => zpc_ck (zpc_if (fun _ => zpc_ck (zpc_if (fun _ => fc_fX9_mode_57 h) (fun _ => fc_fX9_mode_57 h))) (fun _ => zpc_some h))) (fun _ => zpc_some h))) (fun _ => zpc_some h))
theorem fc_fJ7_fill_53178_k27_5_body {σ0 : zSt} {k5 : zSt → Int32 → Int32 → Int32 → Option (zSt)} (hk5 : ∀ (y0 : zSt) (y1 : Int32) (y2 : Int32) (y3 : Int32), (zQ [3, 5, 7, 9, 11, 12, 15, 17, 19, 21, 23, 25, 27, 28, 29, 30, 32, 34, 36, 42, 44] [] [5, 38, 46, 48] []) σ0 y0 → zpc (k5 y0 y1 y2 y3) (fun r => (zQ [3, 5, 7, 9, 11, 12, 15, 17, 19, 21, 23, 25, 27, 28, 29, 30, 32, 34, 36, 42, 44] [] [5, 38, 46, 48] []) σ0 (r))) {σ : zSt} {x1 : Int32} {x2 : Int32} {x3 : Int32} (h : (zQ [3, 5, 7, 9, 11, 12, 15, 17, 19, 21, 23, 25, 27, 28, 29, 30, 32, 34, 36, 42, 44] [] [5, 38, 46, 48] []) σ0 σ) : zpc (fJ7_fill_53178_k27_5_body k5 σ x1 x2 x3) (fun r => (zQ [3, 5, 7, 9, 11, 12, 15, 17, 19, 21, 23, 25, 27, 28, 29, 30, 32, 34, 36, 42, 44] [] [5, 38, 46, 48] []) σ0 (r)) := by
  unfold fJ7_fill_53178_k27_5_body
  exact zpc_if (fun _ => zpc_some h) (fun _ => zpc_ck (zpc_bs (zQ.wi h rfl) (fun σ1 hσ1 => zpc_bv (fun v2 _ => hk5 _ _ _ _ hσ1))))
theorem fc_fJ7_fill_53178_k27_5 {σ0 : zSt} : ∀ (n : Nat) (y0 : zSt) (y1 : Int32) (y2 : Int32) (y3 : Int32), (zQ [3, 5, 7, 9, 11, 12, 15, 17, 19, 21, 23, 25, 27, 28, 29, 30, 32, 34, 36, 42, 44] [] [5, 38, 46, 48] []) σ0 y0 → zpc (fJ7_fill_53178_k27_5 n y0 y1 y2 y3) (fun r => (zQ [3, 5, 7, 9, 11, 12, 15, 17, 19, 21, 23, 25, 27, 28, 29, 30, 32, 34, 36, 42, 44] [] [5, 38, 46, 48] []) σ0 (r)) := by
  intro n
  induction n with
  | zero => intro y0 y1 y2 y3 h; exact zpc_none
  | succ n ih => intro y0 y1 y2 y3 h; exact fc_fJ7_fill_53178_k27_5_body ih h
theorem fc_fJ7_fill_53178_k27 {σ0 : zSt} {σ : zSt} {x1 : Int32} (h : (zQ [3, 5, 7, 9, 11, 12, 15, 17, 19, 21, 23, 25, 27, 28, 29, 30, 32, 34, 36, 42, 44] [] [5, 38, 46, 48] []) σ0 σ) : zpc (fJ7_fill_53178_k27 σ x1) (fun r => (zQ [3, 5, 7, 9, 11, 12, 15, 17, 19, 21, 23, 25, 27, 28, 29, 30, 32, 34, 36, 42, 44] [] [5, 38, 46, 48] []) σ0 (r)) := by
  unfold fJ7_fill_53178_k27
  exact fc_fJ7_fill_53178_k27_5 _ _ _ _ _ h
theorem fc_fX3_mixColours_130 {σ0 : zSt} {k2 : zSt → Int32 → Int32 → Option (zSt)} (hk2 : ∀ (y0 : zSt) (y1 : Int32) (y2 : Int32), (zQ [3, 5, 7, 9, 11, 12, 15, 17, 19, 21, 23, 25, 27, 28, 29, 30, 32, 34, 36, 42, 44] [] [5, 38, 46, 48] []) σ0 y0 → zpc (k2 y0 y1 y2) (fun r => (zQ [3, 5, 7, 9, 11, 12, 15, 17, 19, 21, 23, 25, 27, 28, 29, 30, 32, 34, 36, 42, 44] [] [5, 38, 46, 48] []) σ0 (r))) {σ : zSt} {x1 : Int32} {x2 : Int32} (h : (zQ [3, 5, 7, 9, 11, 12, 15, 17, 19, 21, 23, 25, 27, 28, 29, 30, 32, 34, 36, 42, 44] [] [5, 38, 46, 48] []) σ0 σ) : zpc (fX3_mixColours_130 k2 σ x1 x2) (fun r => (zQ [3, 5, 7, 9, 11, 12, 15, 17, 19, 21, 23, 25, 27, 28, 29, 30, 32, 34, 36, 42, 44] [] [5, 38, 46, 48] []) σ0 (r)) := by
  unfold fX3_mixColours_130
  exact zpc_bv (fun v1 _ => hk2 _ _ _ h)
theorem fc_fX3_mixColours_78 {σ0 : zSt} {k2 : zSt → Int32 → Int32 → Option (zSt)} (hk2 : ∀ (y0 : zSt) (y1 : Int32) (y2 : Int32), (zQ [3, 5, 7, 9, 11, 12, 15, 17, 19, 21, 23, 25, 27, 28, 29, 30, 32, 34, 36, 42, 44] [] [5, 38, 46, 48] []) σ0 y0 → zpc (k2 y0 y1 y2) (fun r => (zQ [3, 5, 7, 9, 11, 12, 15, 17, 19, 21, 23, 25, 27, 28, 29, 30, 32, 34, 36, 42, 44] [] [5, 38, 46, 48] []) σ0 (r))) {σ : zSt} {x1 : Int32} {x2 : Int32} {s0 : Int32} {s1 : Int32} (h : (zQ [3, 5, 7, 9, 11, 12, 15, 17, 19, 21, 23, 25, 27, 28, 29, 30, 32, 34, 36, 42, 44] [] [5, 38, 46, 48] []) σ0 σ) : zpc (fX3_mixColours_78 k2 σ x1 x2 s0 s1) (fun r => (zQ [3, 5, 7, 9, 11, 12, 15, 17, 19, 21, 23, 25, 27, 28, 29, 30, 32, 34, 36, 42, 44] [] [5, 38, 46, 48] []) σ0 (r)) := by
  unfold fX3_mixColours_78
  exact zpc_ck (zpc_bs (zQ.wi h rfl) (fun σ2 hσ2 => fc_fX3_mixColours_130 hk2 hσ2))
theorem fc_fX3_mixColours_129 {σ0 : zSt} {k2 : zSt → Int32 → Int32 → Option (zSt)} (hk2 : ∀ (y0 : zSt) (y1 : Int32) (y2 : Int32), (zQ [3, 5, 7, 9, 11, 12, 15, 17, 19, 21, 23, 25, 27, 28, 29, 30, 32, 34, 36, 42, 44] [] [5, 38, 46, 48] []) σ0 y0 → zpc (k2 y0 y1 y2) (fun r => (zQ [3, 5, 7, 9, 11, 12, 15, 17, 19, 21, 23, 25, 27, 28, 29, 30, 32, 34, 36, 42, 44] [] [5, 38, 46, 48] []) σ0 (r))) {σ : zSt} {x1 : Int32} {x2 : Int32} {s0 : Int32} {s1 : Int32} (h : (zQ [3, 5, 7, 9, 11, 12, 15, 17, 19, 21, 23, 25, 27, 28, 29, 30, 32, 34, 36, 42, 44] [] [5, 38, 46, 48] []) σ0 σ) : zpc (fX3_mixColours_129 k2 σ x1 x2 s0 s1) (fun r => (zQ [3, 5, 7, 9, 11, 12, 15, 17, 19, 21, 23, 25, 27, 28, 29, 30, 32, 34, 36, 42, 44] [] [5, 38, 46, 48] []) σ0 (r)) := by
  unfold fX3_mixColours_129
  exact zpc_ck (zpc_bs (zQ.wi h rfl) (fun σ3 hσ3 => fc_fX3_mixColours_130 hk2 hσ3))
theorem fc_fX3_mixColours_2_body {σ0 : zSt} {k2 : zSt → Int32 → Int32 → Option (zSt)} (hk2 : ∀ (y0 : zSt) (y1 : Int32) (y2 : Int32), (zQ [3, 5, 7, 9, 11, 12, 15, 17, 19, 21, 23, 25, 27, 28, 29, 30, 32, 34, 36, 42, 44] [] [5, 38, 46, 48] []) σ0 y0 → zpc (k2 y0 y1 y2) (fun r => (zQ [3, 5, 7, 9, 11, 12, 15, 17, 19, 21, 23, 25, 27, 28, 29, 30, 32, 34, 36, 42, 44] [] [5, 38, 46, 48] []) σ0 (r))) {σ : zSt} {x1 : Int32} {x2 : Int32} (h : (zQ [3, 5, 7, 9, 11, 12, 15, 17, 19, 21, 23, 25, 27, 28, 29, 30, 32, 34, 36, 42, 44] [] [5, 38, 46, 48] []) σ0 σ) : zpc (fX3_mixColours_2_body k2 σ x1 x2) (fun r => (zQ [3, 5, 7, 9, 11, 12, 15, 17, 19, 21, 23, 25, 27, 28, 29, 30, 32, 34, 36, 42, 44] [] [5, 38, 46, 48] []) σ0 (r)) := by
  unfold fX3_mixColours_2_body
  exact zpc_if (fun _ => zpc_some h) (fun _ => zpc_if (fun _ => zpc_if (fun _ => zpc_bi (fc_fX9_held h) (fun σ5 v6 hσ5 => fc_fX3_mixColours_78 hk2 hσ5)) (fun _ => zpc_bi (fc_fX9_held h) (fun σ7 v8 hσ7 => zpc_bi (fc_fX9_held hσ7) (fun σ9 v10 hσ9 => fc_fX3_mixColours_78 hk2 hσ9)))) (fun _ => zpc_ck (zpc_bv (fun v4 _ => zpc_if (fun _ => fc_fX3_mixColours_129 hk2 h) (fun _ => fc_fX3_mixColours_129 hk2 h)))))
theorem fc_fX3_mixColours_2 {σ0 : zSt} : ∀ (n : Nat) (y0 : zSt) (y1 : Int32) (y2 : Int32), (zQ [3, 5, 7, 9, 11, 12, 15, 17, 19, 21, 23, 25, 27, 28, 29, 30, 32, 34, 36, 42, 44] [] [5, 38, 46, 48] []) σ0 y0 → zpc (fX3_mixColours_2 n y0 y1 y2) (fun r => (zQ [3, 5, 7, 9, 11, 12, 15, 17, 19, 21, 23, 25, 27, 28, 29, 30, 32, 34, 36, 42, 44] [] [5, 38, 46, 48] []) σ0 (r)) := by
  intro n
  induction n with
  | zero => intro y0 y1 y2 h; exact zpc_none
  | succ n ih => intro y0 y1 y2 h; exact fc_fX3_mixColours_2_body ih h
theorem fc_fX3_mixColours {σ0 : zSt} {σ : zSt} {x1 : Int32} (h : (zQ [3, 5, 7, 9, 11, 12, 15, 17, 19, 21, 23, 25, 27, 28, 29, 30, 32, 34, 36, 42, 44] [] [5, 38, 46, 48] []) σ0 σ) : zpc (fX3_mixColours σ x1) (fun r => (zQ [3, 5, 7, 9, 11, 12, 15, 17, 19, 21, 23, 25, 27, 28, 29, 30, 32, 34, 36, 42, 44] [] [5, 38, 46, 48] []) σ0 (r)) := by
  unfold fX3_mixColours
  exact fc_fX3_mixColours_2 _ _ _ _ h
theorem fc_fX9_vramByte {σ0 : zSt} {σ : zSt} {x1 : Int32} (h : (zQ [3, 5, 7, 9, 11, 12, 15, 17, 19, 21, 23, 25, 27, 28, 29, 30, 32, 34, 36, 42, 44] [] [5, 38, 46, 48] []) σ0 σ) : zpc (fX9_vramByte σ x1) (fun r => (zQ [3, 5, 7, 9, 11, 12, 15, 17, 19, 21, 23, 25, 27, 28, 29, 30, 32, 34, 36, 42, 44] [] [5, 38, 46, 48] []) σ0 (r.1)) := by
  unfold fX9_vramByte
  exact zpc_ck (zpc_some h)
theorem fc_fX3_takePlanes {σ0 : zSt} {σ : zSt} {x1 : Int32} (h : (zQ [3, 5, 7, 9, 11, 12, 15, 17, 19, 21, 23, 25, 27, 28, 29, 30, 32, 34, 36, 42, 44] [] [5, 38, 46, 48] []) σ0 σ) : zpc (fX3_takePlanes σ x1) (fun r => (zQ [3, 5, 7, 9, 11, 12, 15, 17, 19, 21, 23, 25, 27, 28, 29, 30, 32, 34, 36, 42, 44] [] [5, 38, 46, 48] []) σ0 (r)) := by
  unfold fX3_takePlanes
  exact zpc_bi (fc_fX9_vramByte h) (fun σ1 v2 hσ1 => zpc_bi (fc_fX9_vramByte hσ1) (fun σ3 v4 hσ3 => zpc_bi (fc_fX9_vramByte hσ3) (fun σ5 v6 hσ5 => zpc_bi (fc_fX9_vramByte hσ5) (fun σ7 v8 hσ7 => zpc_bs (zQ.wi hσ7 rfl) (fun σ9 hσ9 => zpc_some hσ9)))))
theorem fc_fX3_takeTile_60 {σ0 : zSt} {σ : zSt} {s0 : Int32} (h : (zQ [3, 5, 7, 9, 11, 12, 15, 17, 19, 21, 23, 25, 27, 28, 29, 30, 32, 34, 36, 42, 44] [] [5, 38, 46, 48] []) σ0 σ) : zpc (fX3_takeTile_60 σ s0) (fun r => (zQ [3, 5, 7, 9, 11, 12, 15, 17, 19, 21, 23, 25, 27, 28, 29, 30, 32, 34, 36, 42, 44] [] [5, 38, 46, 48] []) σ0 (r)) := by
  unfold fX3_takeTile_60
  exact zpc_bu (fc_fX3_takePlanes h) (fun σ1 hσ1 => zpc_some hσ1)
theorem fc_fX3_takeTile {σ0 : zSt} {σ : zSt} {x1 : Int32} {x2 : Int32} (h : (zQ [3, 5, 7, 9, 11, 12, 15, 17, 19, 21, 23, 25, 27, 28, 29, 30, 32, 34, 36, 42, 44] [] [5, 38, 46, 48] []) σ0 σ) : zpc (fX3_takeTile σ x1 x2) (fun r => (zQ [3, 5, 7, 9, 11, 12, 15, 17, 19, 21, 23, 25, 27, 28, 29, 30, 32, 34, 36, 42, 44] [] [5, 38, 46, 48] []) σ0 (r)) := by
  unfold fX3_takeTile
  exact zpc_bv (fun v2 _ => zpc_bi (fc_fX9_vramByte h) (fun σ3 v4 hσ3 => zpc_bi (fc_fX9_vramByte hσ3) (fun σ5 v6 hσ5 => zpc_bs (zQ.wi hσ5 rfl) (fun σ7 hσ7 => zpc_if (fun _ => fc_fX3_takeTile_60 hσ7) (fun _ => fc_fX3_takeTile_60 hσ7)))))
theorem fc_fX3_numberIn {σ0 : zSt} {σ : zSt} {x0 : Int32} {x1 : Int32} (h : (zQ [3, 5, 7, 9, 11, 12, 15, 17, 19, 21, 23, 25, 27, 28, 29, 30, 32, 34, 36, 42, 44] [] [5, 38, 46, 48] []) σ0 σ) : zpc (fX3_numberIn σ x0 x1) (fun r => (zQ [3, 5, 7, 9, 11, 12, 15, 17, 19, 21, 23, 25, 27, 28, 29, 30, 32, 34, 36, 42, 44] [] [5, 38, 46, 48] []) σ0 (r.1)) := by
  unfold fX3_numberIn
  exact zpc_bv (fun v1 _ => zpc_some h)
theorem fc_fX3_drawTiles_316 {σ0 : zSt} {k143 : zSt → Int32 → Int32 → Int32 → Int32 → Int32 → Int32 → Option (zSt)} (hk143 : ∀ (y0 : zSt) (y1 : Int32) (y2 : Int32) (y3 : Int32) (y4 : Int32) (y5 : Int32) (y6 : Int32), (zQ [3, 5, 7, 9, 11, 12, 15, 17, 19, 21, 23, 25, 27, 28, 29, 30, 32, 34, 36, 42, 44] [] [5, 38, 46, 48] []) σ0 y0 → zpc (k143 y0 y1 y2 y3 y4 y5 y6) (fun r => (zQ [3, 5, 7, 9, 11, 12, 15, 17, 19, 21, 23, 25, 27, 28, 29, 30, 32, 34, 36, 42, 44] [] [5, 38, 46, 48] []) σ0 (r))) {σ : zSt} {x1 : Int32} {x5 : Int32} {x6 : Int32} {x7 : Int32} {x8 : Int32} {x9 : Int32} {s0 : Int32} {s1 : Int32} {s2 : Int32} (h : (zQ [3, 5, 7, 9, 11, 12, 15, 17, 19, 21, 23, 25, 27, 28, 29, 30, 32, 34, 36, 42, 44] [] [5, 38, 46, 48] []) σ0 σ) : zpc (fX3_drawTiles_316 k143 σ x1 x5 x6 x7 x8 x9 s0 s1 s2) (fun r => (zQ [3, 5, 7, 9, 11, 12, 15, 17, 19, 21, 23, 25, 27, 28, 29, 30, 32, 34, 36, 42, 44] [] [5, 38, 46, 48] []) σ0 (r)) := by
  unfold fX3_drawTiles_316
  exact zpc_ck (zpc_bs (zQ.wi h rfl) (fun σ1 hσ1 => zpc_bv (fun v2 _ => hk143 _ _ _ _ _ _ _ hσ1)))
theorem fc_fX3_drawTiles_303 {σ0 : zSt} {k143 : zSt → Int32 → Int32 → Int32 → Int32 → Int32 → Int32 → Option (zSt)} (hk143 : ∀ (y0 : zSt) (y1 : Int32) (y2 : Int32) (y3 : Int32) (y4 : Int32) (y5 : Int32) (y6 : Int32), (zQ [3, 5, 7, 9, 11, 12, 15, 17, 19, 21, 23, 25, 27, 28, 29, 30, 32, 34, 36, 42, 44] [] [5, 38, 46, 48] []) σ0 y0 → zpc (k143 y0 y1 y2 y3 y4 y5 y6) (fun r => (zQ [3, 5, 7, 9, 11, 12, 15, 17, 19, 21, 23, 25, 27, 28, 29, 30, 32, 34, 36, 42, 44] [] [5, 38, 46, 48] []) σ0 (r))) {σ : zSt} {x1 : Int32} {x5 : Int32} {x6 : Int32} {x7 : Int32} {x8 : Int32} {x9 : Int32} {x13 : Int32} {s0 : Int32} {s1 : Int32} {s2 : Int32} (h : (zQ [3, 5, 7, 9, 11, 12, 15, 17, 19, 21, 23, 25, 27, 28, 29, 30, 32, 34, 36, 42, 44] [] [5, 38, 46, 48] []) σ0 σ) : zpc (fX3_drawTiles_303 k143 σ x1 x5 x6 x7 x8 x9 x13 s0 s1 s2) (fun r => (zQ [3, 5, 7, 9, 11, 12, 15, 17, 19, 21, 23, 25, 27, 28, 29, 30, 32, 34, 36, 42, 44] [] [5, 38, 46, 48] []) σ0 (r)) := by
  unfold fX3_drawTiles_303
  exact zpc_if (fun _ => fc_fX3_drawTiles_316 hk143 h) (fun _ => fc_fX3_drawTiles_316 hk143 h)
theorem fc_fX3_drawTiles_276 {σ0 : zSt} {k143 : zSt → Int32 → Int32 → Int32 → Int32 → Int32 → Int32 → Option (zSt)} (hk143 : ∀ (y0 : zSt) (y1 : Int32) (y2 : Int32) (y3 : Int32) (y4 : Int32) (y5 : Int32) (y6 : Int32), (zQ [3, 5, 7, 9, 11, 12, 15, 17, 19, 21, 23, 25, 27, 28, 29, 30, 32, 34, 36, 42, 44] [] [5, 38, 46, 48] []) σ0 y0 → zpc (k143 y0 y1 y2 y3 y4 y5 y6) (fun r => (zQ [3, 5, 7, 9, 11, 12, 15, 17, 19, 21, 23, 25, 27, 28, 29, 30, 32, 34, 36, 42, 44] [] [5, 38, 46, 48] []) σ0 (r))) {σ : zSt} {x1 : Int32} {x5 : Int32} {x6 : Int32} {x7 : Int32} {x8 : Int32} {x9 : Int32} {x12 : Int32} {s0 : Int32} (h : (zQ [3, 5, 7, 9, 11, 12, 15, 17, 19, 21, 23, 25, 27, 28, 29, 30, 32, 34, 36, 42, 44] [] [5, 38, 46, 48] []) σ0 σ) : zpc (fX3_drawTiles_276 k143 σ x1 x5 x6 x7 x8 x9 x12 s0) (fun r => (zQ [3, 5, 7, 9, 11, 12, 15, 17, 19, 21, 23, 25, 27, 28, 29, 30, 32, 34, 36, 42, 44] [] [5, 38, 46, 48] []) σ0 (r)) := by
  unfold fX3_drawTiles_276
  exact zpc_if (fun _ => fc_fX3_drawTiles_303 hk143 h) (fun _ => fc_fX3_drawTiles_303 hk143 h)
theorem fc_fX3_drawTiles_275 {σ0 : zSt} {k143 : zSt → Int32 → Int32 → Int32 → Int32 → Int32 → Int32 → Option (zSt)} (hk143 : ∀ (y0 : zSt) (y1 : Int32) (y2 : Int32) (y3 : Int32) (y4 : Int32) (y5 : Int32) (y6 : Int32), (zQ [3, 5, 7, 9, 11, 12, 15, 17, 19, 21, 23, 25, 27, 28, 29, 30, 32, 34, 36, 42, 44] [] [5, 38, 46, 48] []) σ0 y0 → zpc (k143 y0 y1 y2 y3 y4 y5 y6) (fun r => (zQ [3, 5, 7, 9, 11, 12, 15, 17, 19, 21, 23, 25, 27, 28, 29, 30, 32, 34, 36, 42, 44] [] [5, 38, 46, 48] []) σ0 (r))) {σ : zSt} {x1 : Int32} {x5 : Int32} {x6 : Int32} {x7 : Int32} {x8 : Int32} {x9 : Int32} {x12 : Int32} (h : (zQ [3, 5, 7, 9, 11, 12, 15, 17, 19, 21, 23, 25, 27, 28, 29, 30, 32, 34, 36, 42, 44] [] [5, 38, 46, 48] []) σ0 σ) : zpc (fX3_drawTiles_275 k143 σ x1 x5 x6 x7 x8 x9 x12) (fun r => (zQ [3, 5, 7, 9, 11, 12, 15, 17, 19, 21, 23, 25, 27, 28, 29, 30, 32, 34, 36, 42, 44] [] [5, 38, 46, 48] []) σ0 (r)) := by
  unfold fX3_drawTiles_275
  exact fc_fX3_drawTiles_276 hk143 h
theorem fc_fX3_drawTiles_242 {σ0 : zSt} {k143 : zSt → Int32 → Int32 → Int32 → Int32 → Int32 → Int32 → Option (zSt)} (hk143 : ∀ (y0 : zSt) (y1 : Int32) (y2 : Int32) (y3 : Int32) (y4 : Int32) (y5 : Int32) (y6 : Int32), (zQ [3, 5, 7, 9, 11, 12, 15, 17, 19, 21, 23, 25, 27, 28, 29, 30, 32, 34, 36, 42, 44] [] [5, 38, 46, 48] []) σ0 y0 → zpc (k143 y0 y1 y2 y3 y4 y5 y6) (fun r => (zQ [3, 5, 7, 9, 11, 12, 15, 17, 19, 21, 23, 25, 27, 28, 29, 30, 32, 34, 36, 42, 44] [] [5, 38, 46, 48] []) σ0 (r))) {σ : zSt} {x1 : Int32} {x5 : Int32} {x6 : Int32} {x7 : Int32} {x8 : Int32} {x9 : Int32} {s0 : Int32} (h : (zQ [3, 5, 7, 9, 11, 12, 15, 17, 19, 21, 23, 25, 27, 28, 29, 30, 32, 34, 36, 42, 44] [] [5, 38, 46, 48] []) σ0 σ) : zpc (fX3_drawTiles_242 k143 σ x1 x5 x6 x7 x8 x9 s0) (fun r => (zQ [3, 5, 7, 9, 11, 12, 15, 17, 19, 21, 23, 25, 27, 28, 29, 30, 32, 34, 36, 42, 44] [] [5, 38, 46, 48] []) σ0 (r)) := by
  unfold fX3_drawTiles_242
  exact zpc_bi (fc_fX3_numberIn h) (fun σ3 v4 hσ3 => zpc_if (fun _ => fc_fX3_drawTiles_275 hk143 hσ3) (fun _ => zpc_if (fun _ => fc_fX3_drawTiles_275 hk143 hσ3) (fun _ => fc_fX3_drawTiles_276 hk143 hσ3)))
theorem fc_fX3_drawTiles_215 {σ0 : zSt} {k143 : zSt → Int32 → Int32 → Int32 → Int32 → Int32 → Int32 → Option (zSt)} (hk143 : ∀ (y0 : zSt) (y1 : Int32) (y2 : Int32) (y3 : Int32) (y4 : Int32) (y5 : Int32) (y6 : Int32), (zQ [3, 5, 7, 9, 11, 12, 15, 17, 19, 21, 23, 25, 27, 28, 29, 30, 32, 34, 36, 42, 44] [] [5, 38, 46, 48] []) σ0 y0 → zpc (k143 y0 y1 y2 y3 y4 y5 y6) (fun r => (zQ [3, 5, 7, 9, 11, 12, 15, 17, 19, 21, 23, 25, 27, 28, 29, 30, 32, 34, 36, 42, 44] [] [5, 38, 46, 48] []) σ0 (r))) {σ : zSt} {x1 : Int32} {x5 : Int32} {x6 : Int32} {x7 : Int32} {x8 : Int32} {x9 : Int32} {x10 : Int32} (h : (zQ [3, 5, 7, 9, 11, 12, 15, 17, 19, 21, 23, 25, 27, 28, 29, 30, 32, 34, 36, 42, 44] [] [5, 38, 46, 48] []) σ0 σ) : zpc (fX3_drawTiles_215 k143 σ x1 x5 x6 x7 x8 x9 x10) (fun r => (zQ [3, 5, 7, 9, 11, 12, 15, 17, 19, 21, 23, 25, 27, 28, 29, 30, 32, 34, 36, 42, 44] [] [5, 38, 46, 48] []) σ0 (r)) := by
  unfold fX3_drawTiles_215
  exact zpc_if (fun _ => fc_fX3_drawTiles_242 hk143 h) (fun _ => fc_fX3_drawTiles_242 hk143 h)
theorem fc_fX3_drawTiles_212 {σ0 : zSt} {k143 : zSt → Int32 → Int32 → Int32 → Int32 → Int32 → Int32 → Option (zSt)} (hk143 : ∀ (y0 : zSt) (y1 : Int32) (y2 : Int32) (y3 : Int32) (y4 : Int32) (y5 : Int32) (y6 : Int32), (zQ [3, 5, 7, 9, 11, 12, 15, 17, 19, 21, 23, 25, 27, 28, 29, 30, 32, 34, 36, 42, 44] [] [5, 38, 46, 48] []) σ0 y0 → zpc (k143 y0 y1 y2 y3 y4 y5 y6) (fun r => (zQ [3, 5, 7, 9, 11, 12, 15, 17, 19, 21, 23, 25, 27, 28, 29, 30, 32, 34, 36, 42, 44] [] [5, 38, 46, 48] []) σ0 (r))) {σ : zSt} {x1 : Int32} {x5 : Int32} {x6 : Int32} {x7 : Int32} {x8 : Int32} {x9 : Int32} {x10 : Int32} {s0 : Int32} {s1 : Int32} (h : (zQ [3, 5, 7, 9, 11, 12, 15, 17, 19, 21, 23, 25, 27, 28, 29, 30, 32, 34, 36, 42, 44] [] [5, 38, 46, 48] []) σ0 σ) : zpc (fX3_drawTiles_212 k143 σ x1 x5 x6 x7 x8 x9 x10 s0 s1) (fun r => (zQ [3, 5, 7, 9, 11, 12, 15, 17, 19, 21, 23, 25, 27, 28, 29, 30, 32, 34, 36, 42, 44] [] [5, 38, 46, 48] []) σ0 (r)) := by
  unfold fX3_drawTiles_212
  exact zpc_bu (fc_fX3_takeTile h) (fun σ5 hσ5 => fc_fX3_drawTiles_215 hk143 hσ5)
theorem fc_fX3_drawTiles_210 {σ0 : zSt} {k143 : zSt → Int32 → Int32 → Int32 → Int32 → Int32 → Int32 → Option (zSt)} (hk143 : ∀ (y0 : zSt) (y1 : Int32) (y2 : Int32) (y3 : Int32) (y4 : Int32) (y5 : Int32) (y6 : Int32), (zQ [3, 5, 7, 9, 11, 12, 15, 17, 19, 21, 23, 25, 27, 28, 29, 30, 32, 34, 36, 42, 44] [] [5, 38, 46, 48] []) σ0 y0 → zpc (k143 y0 y1 y2 y3 y4 y5 y6) (fun r => (zQ [3, 5, 7, 9, 11, 12, 15, 17, 19, 21, 23, 25, 27, 28, 29, 30, 32, 34, 36, 42, 44] [] [5, 38, 46, 48] []) σ0 (r))) {σ : zSt} {x1 : Int32} {x5 : Int32} {x6 : Int32} {x7 : Int32} {x8 : Int32} {x9 : Int32} {x10 : Int32} {s0 : Int32} (h : (zQ [3, 5, 7, 9, 11, 12, 15, 17, 19, 21, 23, 25, 27, 28, 29, 30, 32, 34, 36, 42, 44] [] [5, 38, 46, 48] []) σ0 σ) : zpc (fX3_drawTiles_210 k143 σ x1 x5 x6 x7 x8 x9 x10 s0) (fun r => (zQ [3, 5, 7, 9, 11, 12, 15, 17, 19, 21, 23, 25, 27, 28, 29, 30, 32, 34, 36, 42, 44] [] [5, 38, 46, 48] []) σ0 (r)) := by
  unfold fX3_drawTiles_210
  exact fc_fX3_drawTiles_212 hk143 h
theorem fc_fX3_drawTiles_183 {σ0 : zSt} {k143 : zSt → Int32 → Int32 → Int32 → Int32 → Int32 → Int32 → Option (zSt)} (hk143 : ∀ (y0 : zSt) (y1 : Int32) (y2 : Int32) (y3 : Int32) (y4 : Int32) (y5 : Int32) (y6 : Int32), (zQ [3, 5, 7, 9, 11, 12, 15, 17, 19, 21, 23, 25, 27, 28, 29, 30, 32, 34, 36, 42, 44] [] [5, 38, 46, 48] []) σ0 y0 → zpc (k143 y0 y1 y2 y3 y4 y5 y6) (fun r => (zQ [3, 5, 7, 9, 11, 12, 15, 17, 19, 21, 23, 25, 27, 28, 29, 30, 32, 34, 36, 42, 44] [] [5, 38, 46, 48] []) σ0 (r))) {σ : zSt} {x1 : Int32} {x5 : Int32} {x6 : Int32} {x7 : Int32} {x8 : Int32} {x9 : Int32} {x10 : Int32} (h : (zQ [3, 5, 7, 9, 11, 12, 15, 17, 19, 21, 23, 25, 27, 28, 29, 30, 32, 34, 36, 42, 44] [] [5, 38, 46, 48] []) σ0 σ) : zpc (fX3_drawTiles_183 k143 σ x1 x5 x6 x7 x8 x9 x10) (fun r => (zQ [3, 5, 7, 9, 11, 12, 15, 17, 19, 21, 23, 25, 27, 28, 29, 30, 32, 34, 36, 42, 44] [] [5, 38, 46, 48] []) σ0 (r)) := by
  unfold fX3_drawTiles_183
  exact zpc_if (fun _ => fc_fX3_drawTiles_210 hk143 h) (fun _ => zpc_if (fun _ => fc_fX3_drawTiles_210 hk143 h) (fun _ => fc_fX3_drawTiles_212 hk143 h))
theorem fc_fX3_drawTiles_143_body {σ0 : zSt} {k143 : zSt → Int32 → Int32 → Int32 → Int32 → Int32 → Int32 → Option (zSt)} (hk143 : ∀ (y0 : zSt) (y1 : Int32) (y2 : Int32) (y3 : Int32) (y4 : Int32) (y5 : Int32) (y6 : Int32), (zQ [3, 5, 7, 9, 11, 12, 15, 17, 19, 21, 23, 25, 27, 28, 29, 30, 32, 34, 36, 42, 44] [] [5, 38, 46, 48] []) σ0 y0 → zpc (k143 y0 y1 y2 y3 y4 y5 y6) (fun r => (zQ [3, 5, 7, 9, 11, 12, 15, 17, 19, 21, 23, 25, 27, 28, 29, 30, 32, 34, 36, 42, 44] [] [5, 38, 46, 48] []) σ0 (r))) {σ : zSt} {x1 : Int32} {x5 : Int32} {x6 : Int32} {x7 : Int32} {x8 : Int32} {x9 : Int32} (h : (zQ [3, 5, 7, 9, 11, 12, 15, 17, 19, 21, 23, 25, 27, 28, 29, 30, 32, 34, 36, 42, 44] [] [5, 38, 46, 48] []) σ0 σ) : zpc (fX3_drawTiles_143_body k143 σ x1 x5 x6 x7 x8 x9) (fun r => (zQ [3, 5, 7, 9, 11, 12, 15, 17, 19, 21, 23, 25, 27, 28, 29, 30, 32, 34, 36, 42, 44] [] [5, 38, 46, 48] []) σ0 (r)) := by
  unfold fX3_drawTiles_143_body
  exact zpc_if (fun _ => zpc_some h) (fun _ => zpc_bv (fun v6 _ => zpc_if (fun _ => fc_fX3_drawTiles_183 hk143 h) (fun _ => zpc_if (fun _ => fc_fX3_drawTiles_183 hk143 h) (fun _ => zpc_if (fun _ => fc_fX3_drawTiles_183 hk143 h) (fun _ => fc_fX3_drawTiles_215 hk143 h)))))
theorem fc_fX3_drawTiles_143 {σ0 : zSt} : ∀ (n : Nat) (y0 : zSt) (y1 : Int32) (y2 : Int32) (y3 : Int32) (y4 : Int32) (y5 : Int32) (y6 : Int32), (zQ [3, 5, 7, 9, 11, 12, 15, 17, 19, 21, 23, 25, 27, 28, 29, 30, 32, 34, 36, 42, 44] [] [5, 38, 46, 48] []) σ0 y0 → zpc (fX3_drawTiles_143 n y0 y1 y2 y3 y4 y5 y6) (fun r => (zQ [3, 5, 7, 9, 11, 12, 15, 17, 19, 21, 23, 25, 27, 28, 29, 30, 32, 34, 36, 42, 44] [] [5, 38, 46, 48] []) σ0 (r)) := by
  intro n
  induction n with
  | zero => intro y0 y1 y2 y3 y4 y5 y6 h; exact zpc_none
  | succ n ih => intro y0 y1 y2 y3 y4 y5 y6 h; exact fc_fX3_drawTiles_143_body ih h
theorem fc_fX3_drawTiles_138 {σ0 : zSt} {σ : zSt} {x1 : Int32} {x5 : Int32} {x6 : Int32} {x7 : Int32} {s0 : Int32} (h : (zQ [3, 5, 7, 9, 11, 12, 15, 17, 19, 21, 23, 25, 27, 28, 29, 30, 32, 34, 36, 42, 44] [] [5, 38, 46, 48] []) σ0 σ) : zpc (fX3_drawTiles_138 σ x1 x5 x6 x7 s0) (fun r => (zQ [3, 5, 7, 9, 11, 12, 15, 17, 19, 21, 23, 25, 27, 28, 29, 30, 32, 34, 36, 42, 44] [] [5, 38, 46, 48] []) σ0 (r)) := by
  unfold fX3_drawTiles_138
  exact fc_fX3_drawTiles_143 _ _ _ _ _ _ _ _ h
theorem fc_fX3_drawTiles_122 {σ0 : zSt} {σ : zSt} {x1 : Int32} {x3 : Int32} {x5 : Int32} {x6 : Int32} {s0 : Int32} {s1 : Int32} (h : (zQ [3, 5, 7, 9, 11, 12, 15, 17, 19, 21, 23, 25, 27, 28, 29, 30, 32, 34, 36, 42, 44] [] [5, 38, 46, 48] []) σ0 σ) : zpc (fX3_drawTiles_122 σ x1 x3 x5 x6 s0 s1) (fun r => (zQ [3, 5, 7, 9, 11, 12, 15, 17, 19, 21, 23, 25, 27, 28, 29, 30, 32, 34, 36, 42, 44] [] [5, 38, 46, 48] []) σ0 (r)) := by
  unfold fX3_drawTiles_122
  exact zpc_ck (zpc_bv (fun v7 _ => zpc_if (fun _ => fc_fX3_drawTiles_138 h) (fun _ => fc_fX3_drawTiles_138 h)))
theorem fc_fX3_drawTiles_96 {σ0 : zSt} {σ : zSt} {x1 : Int32} {x2 : Int32} {x3 : Int32} {x5 : Int32} {s0 : Int32} (h : (zQ [3, 5, 7, 9, 11, 12, 15, 17, 19, 21, 23, 25, 27, 28, 29, 30, 32, 34, 36, 42, 44] [] [5, 38, 46, 48] []) σ0 σ) : zpc (fX3_drawTiles_96 σ x1 x2 x3 x5 s0) (fun r => (zQ [3, 5, 7, 9, 11, 12, 15, 17, 19, 21, 23, 25, 27, 28, 29, 30, 32, 34, 36, 42, 44] [] [5, 38, 46, 48] []) σ0 (r)) := by
  unfold fX3_drawTiles_96
  exact zpc_bi (fc_fX9_held h) (fun σ8 v9 hσ8 => zpc_if (fun _ => fc_fX3_drawTiles_122 hσ8) (fun _ => fc_fX3_drawTiles_122 hσ8))
theorem fc_fX3_drawTiles_87 {σ0 : zSt} {σ : zSt} {x1 : Int32} {x2 : Int32} {x3 : Int32} {x5 : Int32} (h : (zQ [3, 5, 7, 9, 11, 12, 15, 17, 19, 21, 23, 25, 27, 28, 29, 30, 32, 34, 36, 42, 44] [] [5, 38, 46, 48] []) σ0 σ) : zpc (fX3_drawTiles_87 σ x1 x2 x3 x5) (fun r => (zQ [3, 5, 7, 9, 11, 12, 15, 17, 19, 21, 23, 25, 27, 28, 29, 30, 32, 34, 36, 42, 44] [] [5, 38, 46, 48] []) σ0 (r)) := by
  unfold fX3_drawTiles_87
  exact zpc_bi (fc_fX9_held h) (fun σ10 v11 hσ10 => fc_fX3_drawTiles_96 hσ10)
theorem fc_fX3_drawTiles_68 {σ0 : zSt} {σ : zSt} {x1 : Int32} {x2 : Int32} {x3 : Int32} {s0 : Int32} (h : (zQ [3, 5, 7, 9, 11, 12, 15, 17, 19, 21, 23, 25, 27, 28, 29, 30, 32, 34, 36, 42, 44] [] [5, 38, 46, 48] []) σ0 σ) : zpc (fX3_drawTiles_68 σ x1 x2 x3 s0) (fun r => (zQ [3, 5, 7, 9, 11, 12, 15, 17, 19, 21, 23, 25, 27, 28, 29, 30, 32, 34, 36, 42, 44] [] [5, 38, 46, 48] []) σ0 (r)) := by
  unfold fX3_drawTiles_68
  exact zpc_if (fun _ => fc_fX3_drawTiles_87 h) (fun _ => zpc_if (fun _ => fc_fX3_drawTiles_87 h) (fun _ => fc_fX3_drawTiles_96 h))
theorem fc_fX3_drawTiles_18 {σ0 : zSt} {σ : zSt} {x1 : Int32} {s0 : Int32} (h : (zQ [3, 5, 7, 9, 11, 12, 15, 17, 19, 21, 23, 25, 27, 28, 29, 30, 32, 34, 36, 42, 44] [] [5, 38, 46, 48] []) σ0 σ) : zpc (fX3_drawTiles_18 σ x1 s0) (fun r => (zQ [3, 5, 7, 9, 11, 12, 15, 17, 19, 21, 23, 25, 27, 28, 29, 30, 32, 34, 36, 42, 44] [] [5, 38, 46, 48] []) σ0 (r)) := by
  unfold fX3_drawTiles_18
  exact zpc_bi (fc_fX9_held h) (fun σ12 v13 hσ12 => zpc_bi (fc_fX9_held hσ12) (fun σ14 v15 hσ14 => zpc_if (fun _ => fc_fX3_drawTiles_68 hσ14) (fun _ => fc_fX3_drawTiles_68 hσ14)))
theorem fc_fX3_drawTiles {σ0 : zSt} {σ : zSt} {x1 : Int32} (h : (zQ [3, 5, 7, 9, 11, 12, 15, 17, 19, 21, 23, 25, 27, 28, 29, 30, 32, 34, 36, 42, 44] [] [5, 38, 46, 48] []) σ0 σ) : zpc (fX3_drawTiles σ x1) (fun r => (zQ [3, 5, 7, 9, 11, 12, 15, 17, 19, 21, 23, 25, 27, 28, 29, 30, 32, 34, 36, 42, 44] [] [5, 38, 46, 48] []) σ0 (r)) := by
  unfold fX3_drawTiles
  exact zpc_bi (fc_fX9_height h) (fun σ16 v17 hσ16 => zpc_if (fun _ => fc_fX3_drawTiles_18 hσ16) (fun _ => fc_fX3_drawTiles_18 hσ16))
theorem fc_fJ7_fill_53178_k28_5_body {σ0 : zSt} {k5 : zSt → Int32 → Int32 → Int32 → Option (zSt)} (hk5 : ∀ (y0 : zSt) (y1 : Int32) (y2 : Int32) (y3 : Int32), (zQ [3, 5, 7, 9, 11, 12, 15, 17, 19, 21, 23, 25, 27, 28, 29, 30, 32, 34, 36, 42, 44] [] [5, 38, 46, 48] []) σ0 y0 → zpc (k5 y0 y1 y2 y3) (fun r => (zQ [3, 5, 7, 9, 11, 12, 15, 17, 19, 21, 23, 25, 27, 28, 29, 30, 32, 34, 36, 42, 44] [] [5, 38, 46, 48] []) σ0 (r))) {σ : zSt} {x1 : Int32} {x2 : Int32} {x3 : Int32} (h : (zQ [3, 5, 7, 9, 11, 12, 15, 17, 19, 21, 23, 25, 27, 28, 29, 30, 32, 34, 36, 42, 44] [] [5, 38, 46, 48] []) σ0 σ) : zpc (fJ7_fill_53178_k28_5_body k5 σ x1 x2 x3) (fun r => (zQ [3, 5, 7, 9, 11, 12, 15, 17, 19, 21, 23, 25, 27, 28, 29, 30, 32, 34, 36, 42, 44] [] [5, 38, 46, 48] []) σ0 (r)) := by
  unfold fJ7_fill_53178_k28_5_body
  exact zpc_if (fun _ => zpc_some h) (fun _ => zpc_ck (zpc_bs (zQ.wi h rfl) (fun σ1 hσ1 => zpc_bv (fun v2 _ => hk5 _ _ _ _ hσ1))))
theorem fc_fJ7_fill_53178_k28_5 {σ0 : zSt} : ∀ (n : Nat) (y0 : zSt) (y1 : Int32) (y2 : Int32) (y3 : Int32), (zQ [3, 5, 7, 9, 11, 12, 15, 17, 19, 21, 23, 25, 27, 28, 29, 30, 32, 34, 36, 42, 44] [] [5, 38, 46, 48] []) σ0 y0 → zpc (fJ7_fill_53178_k28_5 n y0 y1 y2 y3) (fun r => (zQ [3, 5, 7, 9, 11, 12, 15, 17, 19, 21, 23, 25, 27, 28, 29, 30, 32, 34, 36, 42, 44] [] [5, 38, 46, 48] []) σ0 (r)) := by
  intro n
  induction n with
  | zero => intro y0 y1 y2 y3 h; exact zpc_none
  | succ n ih => intro y0 y1 y2 y3 h; exact fc_fJ7_fill_53178_k28_5_body ih h
theorem fc_fJ7_fill_53178_k28 {σ0 : zSt} {σ : zSt} {x1 : Int32} (h : (zQ [3, 5, 7, 9, 11, 12, 15, 17, 19, 21, 23, 25, 27, 28, 29, 30, 32, 34, 36, 42, 44] [] [5, 38, 46, 48] []) σ0 σ) : zpc (fJ7_fill_53178_k28 σ x1) (fun r => (zQ [3, 5, 7, 9, 11, 12, 15, 17, 19, 21, 23, 25, 27, 28, 29, 30, 32, 34, 36, 42, 44] [] [5, 38, 46, 48] []) σ0 (r)) := by
  unfold fJ7_fill_53178_k28
  exact fc_fJ7_fill_53178_k28_5 _ _ _ _ _ h
theorem fc_fX3_rowOfSprite_56 {σ0 : zSt} {σ : zSt} {s0 : Int32} (h : (zQ [3, 5, 7, 9, 11, 12, 15, 17, 19, 21, 23, 25, 27, 28, 29, 30, 32, 34, 36, 42, 44] [] [5, 38, 46, 48] []) σ0 σ) : zpc (fX3_rowOfSprite_56 σ s0) (fun r => (zQ [3, 5, 7, 9, 11, 12, 15, 17, 19, 21, 23, 25, 27, 28, 29, 30, 32, 34, 36, 42, 44] [] [5, 38, 46, 48] []) σ0 (r.1)) := by
  unfold fX3_rowOfSprite_56
  exact zpc_some h
theorem fc_fX3_rowOfSprite_47 {σ0 : zSt} {σ : zSt} {x4 : Int32} {s0 : Int32} {s1 : Int32} (h : (zQ [3, 5, 7, 9, 11, 12, 15, 17, 19, 21, 23, 25, 27, 28, 29, 30, 32, 34, 36, 42, 44] [] [5, 38, 46, 48] []) σ0 σ) : zpc (fX3_rowOfSprite_47 σ x4 s0 s1) (fun r => (zQ [3, 5, 7, 9, 11, 12, 15, 17, 19, 21, 23, 25, 27, 28, 29, 30, 32, 34, 36, 42, 44] [] [5, 38, 46, 48] []) σ0 (r.1)) := by
  unfold fX3_rowOfSprite_47
  exact zpc_if (fun _ => fc_fX3_rowOfSprite_56 h) (fun _ => fc_fX3_rowOfSprite_56 h)
theorem fc_fX3_rowOfSprite_32 {σ0 : zSt} {σ : zSt} {x3 : Int32} {x4 : Int32} (h : (zQ [3, 5, 7, 9, 11, 12, 15, 17, 19, 21, 23, 25, 27, 28, 29, 30, 32, 34, 36, 42, 44] [] [5, 38, 46, 48] []) σ0 σ) : zpc (fX3_rowOfSprite_32 σ x3 x4) (fun r => (zQ [3, 5, 7, 9, 11, 12, 15, 17, 19, 21, 23, 25, 27, 28, 29, 30, 32, 34, 36, 42, 44] [] [5, 38, 46, 48] []) σ0 (r.1)) := by
  unfold fX3_rowOfSprite_32
  exact zpc_if (fun _ => fc_fX3_rowOfSprite_47 h) (fun _ => fc_fX3_rowOfSprite_47 h)
theorem fc_fX3_rowOfSprite {σ0 : zSt} {σ : zSt} {x1 : Int32} {x2 : Int32} (h : (zQ [3, 5, 7, 9, 11, 12, 15, 17, 19, 21, 23, 25, 27, 28, 29, 30, 32, 34, 36, 42, 44] [] [5, 38, 46, 48] []) σ0 σ) : zpc (fX3_rowOfSprite σ x1 x2) (fun r => (zQ [3, 5, 7, 9, 11, 12, 15, 17, 19, 21, 23, 25, 27, 28, 29, 30, 32, 34, 36, 42, 44] [] [5, 38, 46, 48] []) σ0 (r.1)) := by
  unfold fX3_rowOfSprite
  exact zpc_bi (fc_fX9_held h) (fun σ1 v2 hσ1 => zpc_bv (fun v3 _ => zpc_if (fun _ => fc_fX3_rowOfSprite_32 hσ1) (fun _ => zpc_bv (fun v4 _ => fc_fX3_rowOfSprite_32 hσ1))))
theorem fc_fX9_mark {σ0 : zSt} {σ : zSt} {x1 : Int32} (h : (zQ [3, 5, 7, 9, 11, 12, 15, 17, 19, 21, 23, 25, 27, 28, 29, 30, 32, 34, 36, 42, 44] [] [5, 38, 46, 48] []) σ0 σ) : zpc (fX9_mark σ x1) (fun r => (zQ [3, 5, 7, 9, 11, 12, 15, 17, 19, 21, 23, 25, 27, 28, 29, 30, 32, 34, 36, 42, 44] [] [5, 38, 46, 48] []) σ0 (r)) := by
  unfold fX9_mark
  exact zpc_ck (zpc_ck (zpc_bs (zQ.wi h rfl) (fun σ1 hσ1 => zpc_some hσ1)))
theorem fc_fX3_drawSprite_190 {σ0 : zSt} {k111 : zSt → Int32 → Int32 → Int32 → Option (zSt)} (hk111 : ∀ (y0 : zSt) (y1 : Int32) (y2 : Int32) (y3 : Int32), (zQ [3, 5, 7, 9, 11, 12, 15, 17, 19, 21, 23, 25, 27, 28, 29, 30, 32, 34, 36, 42, 44] [] [5, 38, 46, 48] []) σ0 y0 → zpc (k111 y0 y1 y2 y3) (fun r => (zQ [3, 5, 7, 9, 11, 12, 15, 17, 19, 21, 23, 25, 27, 28, 29, 30, 32, 34, 36, 42, 44] [] [5, 38, 46, 48] []) σ0 (r))) {σ : zSt} {x3 : Int32} {x6 : Int32} {x7 : Int32} (h : (zQ [3, 5, 7, 9, 11, 12, 15, 17, 19, 21, 23, 25, 27, 28, 29, 30, 32, 34, 36, 42, 44] [] [5, 38, 46, 48] []) σ0 σ) : zpc (fX3_drawSprite_190 k111 σ x3 x6 x7) (fun r => (zQ [3, 5, 7, 9, 11, 12, 15, 17, 19, 21, 23, 25, 27, 28, 29, 30, 32, 34, 36, 42, 44] [] [5, 38, 46, 48] []) σ0 (r)) := by
  unfold fX3_drawSprite_190
  exact zpc_bv (fun v1 _ => hk111 _ _ _ _ h)
theorem fc_fX3_drawSprite_111_body {σ0 : zSt} {k111 : zSt → Int32 → Int32 → Int32 → Option (zSt)} (hk111 : ∀ (y0 : zSt) (y1 : Int32) (y2 : Int32) (y3 : Int32), (zQ [3, 5, 7, 9, 11, 12, 15, 17, 19, 21, 23, 25, 27, 28, 29, 30, 32, 34, 36, 42, 44] [] [5, 38, 46, 48] []) σ0 y0 → zpc (k111 y0 y1 y2 y3) (fun r => (zQ [3, 5, 7, 9, 11, 12, 15, 17, 19, 21, 23, 25, 27, 28, 29, 30, 32, 34, 36, 42, 44] [] [5, 38, 46, 48] []) σ0 (r))) {σ : zSt} {x3 : Int32} {x6 : Int32} {x7 : Int32} (h : (zQ [3, 5, 7, 9, 11, 12, 15, 17, 19, 21, 23, 25, 27, 28, 29, 30, 32, 34, 36, 42, 44] [] [5, 38, 46, 48] []) σ0 σ) : zpc (fX3_drawSprite_111_body k111 σ x3 x6 x7) (fun r => (zQ [3, 5, 7, 9, 11, 12, 15, 17, 19, 21, 23, 25, 27, 28, 29, 30, 32, 34, 36, 42, 44] [] [5, 38, 46, 48] []) σ0 (r)) := by
  unfold fX3_drawSprite_111_body
  exact zpc_if (fun _ => zpc_some h) (fun _ => zpc_bv (fun v2 _ => zpc_bi (fc_fX3_numberIn h) (fun σ3 v4 hσ3 => zpc_if (fun _ => fc_fX3_drawSprite_190 hk111 hσ3) (fun _ => zpc_if (fun _ => fc_fX3_drawSprite_190 hk111 hσ3) (fun _ => zpc_if (fun _ => fc_fX3_drawSprite_190 hk111 hσ3) (fun _ => zpc_ck (zpc_if (fun _ => zpc_ck (zpc_bs (zQ.wi hσ3 rfl) (fun σ5 hσ5 => fc_fX3_drawSprite_190 hk111 hσ5))) (fun _ => zpc_bu (fc_fX9_mark hσ3) (fun σ6 hσ6 => fc_fX3_drawSprite_190 hk111 hσ6)))))))))
theorem fc_fX3_drawSprite_111 {σ0 : zSt} : ∀ (n : Nat) (y0 : zSt) (y1 : Int32) (y2 : Int32) (y3 : Int32), (zQ [3, 5, 7, 9, 11, 12, 15, 17, 19, 21, 23, 25, 27, 28, 29, 30, 32, 34, 36, 42, 44] [] [5, 38, 46, 48] []) σ0 y0 → zpc (fX3_drawSprite_111 n y0 y1 y2 y3) (fun r => (zQ [3, 5, 7, 9, 11, 12, 15, 17, 19, 21, 23, 25, 27, 28, 29, 30, 32, 34, 36, 42, 44] [] [5, 38, 46, 48] []) σ0 (r)) := by
  intro n
  induction n with
  | zero => intro y0 y1 y2 y3 h; exact zpc_none
  | succ n ih => intro y0 y1 y2 y3 h; exact fc_fX3_drawSprite_111_body ih h
theorem fc_fX3_drawSprite_100 {σ0 : zSt} {σ : zSt} {x2 : Int32} {x3 : Int32} {x6 : Int32} {s0 : Int32} {s1 : Int32} (h : (zQ [3, 5, 7, 9, 11, 12, 15, 17, 19, 21, 23, 25, 27, 28, 29, 30, 32, 34, 36, 42, 44] [] [5, 38, 46, 48] []) σ0 σ) : zpc (fX3_drawSprite_100 σ x2 x3 x6 s0 s1) (fun r => (zQ [3, 5, 7, 9, 11, 12, 15, 17, 19, 21, 23, 25, 27, 28, 29, 30, 32, 34, 36, 42, 44] [] [5, 38, 46, 48] []) σ0 (r)) := by
  unfold fX3_drawSprite_100
  exact zpc_bu (fc_fX3_takePlanes h) (fun σ7 hσ7 => fc_fX3_drawSprite_111 _ _ _ _ _ hσ7)
theorem fc_fX3_drawSprite_61 {σ0 : zSt} {σ : zSt} {x2 : Int32} {x3 : Int32} {s0 : Int32} {s1 : Int32} (h : (zQ [3, 5, 7, 9, 11, 12, 15, 17, 19, 21, 23, 25, 27, 28, 29, 30, 32, 34, 36, 42, 44] [] [5, 38, 46, 48] []) σ0 σ) : zpc (fX3_drawSprite_61 σ x2 x3 s0 s1) (fun r => (zQ [3, 5, 7, 9, 11, 12, 15, 17, 19, 21, 23, 25, 27, 28, 29, 30, 32, 34, 36, 42, 44] [] [5, 38, 46, 48] []) σ0 (r)) := by
  unfold fX3_drawSprite_61
  exact zpc_bv (fun v8 _ => zpc_bi (fc_fX9_held h) (fun σ9 v10 hσ9 => zpc_bv (fun v11 _ => zpc_if (fun _ => fc_fX3_drawSprite_100 hσ9) (fun _ => fc_fX3_drawSprite_100 hσ9))))
theorem fc_fX3_drawSprite_28 {σ0 : zSt} {σ : zSt} {x1 : Int32} {x2 : Int32} {s0 : Int32} {s1 : Int32} (h : (zQ [3, 5, 7, 9, 11, 12, 15, 17, 19, 21, 23, 25, 27, 28, 29, 30, 32, 34, 36, 42, 44] [] [5, 38, 46, 48] []) σ0 σ) : zpc (fX3_drawSprite_28 σ x1 x2 s0 s1) (fun r => (zQ [3, 5, 7, 9, 11, 12, 15, 17, 19, 21, 23, 25, 27, 28, 29, 30, 32, 34, 36, 42, 44] [] [5, 38, 46, 48] []) σ0 (r)) := by
  unfold fX3_drawSprite_28
  exact zpc_bv (fun v12 _ => zpc_bi (fc_fX9_vramByte h) (fun σ13 v14 hσ13 => zpc_bi (fc_fX9_held hσ13) (fun σ15 v16 hσ15 => zpc_if (fun _ => fc_fX3_drawSprite_61 hσ15) (fun _ => fc_fX3_drawSprite_61 hσ15))))
theorem fc_fX3_drawSprite {σ0 : zSt} {σ : zSt} {x1 : Int32} {x2 : Int32} (h : (zQ [3, 5, 7, 9, 11, 12, 15, 17, 19, 21, 23, 25, 27, 28, 29, 30, 32, 34, 36, 42, 44] [] [5, 38, 46, 48] []) σ0 σ) : zpc (fX3_drawSprite σ x1 x2) (fun r => (zQ [3, 5, 7, 9, 11, 12, 15, 17, 19, 21, 23, 25, 27, 28, 29, 30, 32, 34, 36, 42, 44] [] [5, 38, 46, 48] []) σ0 (r)) := by
  unfold fX3_drawSprite
  exact zpc_bi (fc_fX9_vramByte h) (fun σ17 v18 hσ17 => zpc_bi (fc_fX9_held hσ17) (fun σ19 v20 hσ19 => zpc_if (fun _ => fc_fX3_drawSprite_28 hσ19) (fun _ => fc_fX3_drawSprite_28 hσ19)))
theorem fc_fX3_drawSprites_196 {σ0 : zSt} {k147 : zSt → Int32 → Option (zSt)} (hk147 : ∀ (y0 : zSt) (y1 : Int32), (zQ [3, 5, 7, 9, 11, 12, 15, 17, 19, 21, 23, 25, 27, 28, 29, 30, 32, 34, 36, 42, 44] [] [5, 38, 46, 48] []) σ0 y0 → zpc (k147 y0 y1) (fun r => (zQ [3, 5, 7, 9, 11, 12, 15, 17, 19, 21, 23, 25, 27, 28, 29, 30, 32, 34, 36, 42, 44] [] [5, 38, 46, 48] []) σ0 (r))) {σ : zSt} {x5 : Int32} (h : (zQ [3, 5, 7, 9, 11, 12, 15, 17, 19, 21, 23, 25, 27, 28, 29, 30, 32, 34, 36, 42, 44] [] [5, 38, 46, 48] []) σ0 σ) : zpc (fX3_drawSprites_196 k147 σ x5) (fun r => (zQ [3, 5, 7, 9, 11, 12, 15, 17, 19, 21, 23, 25, 27, 28, 29, 30, 32, 34, 36, 42, 44] [] [5, 38, 46, 48] []) σ0 (r)) := by
  unfold fX3_drawSprites_196
  exact zpc_bv (fun v1 _ => hk147 _ _ h)
theorem fc_fX3_drawSprites_147_body {σ0 : zSt} {k147 : zSt → Int32 → Option (zSt)} (hk147 : ∀ (y0 : zSt) (y1 : Int32), (zQ [3, 5, 7, 9, 11, 12, 15, 17, 19, 21, 23, 25, 27, 28, 29, 30, 32, 34, 36, 42, 44] [] [5, 38, 46, 48] []) σ0 y0 → zpc (k147 y0 y1) (fun r => (zQ [3, 5, 7, 9, 11, 12, 15, 17, 19, 21, 23, 25, 27, 28, 29, 30, 32, 34, 36, 42, 44] [] [5, 38, 46, 48] []) σ0 (r))) {σ : zSt} {x5 : Int32} (h : (zQ [3, 5, 7, 9, 11, 12, 15, 17, 19, 21, 23, 25, 27, 28, 29, 30, 32, 34, 36, 42, 44] [] [5, 38, 46, 48] []) σ0 σ) : zpc (fX3_drawSprites_147_body k147 σ x5) (fun r => (zQ [3, 5, 7, 9, 11, 12, 15, 17, 19, 21, 23, 25, 27, 28, 29, 30, 32, 34, 36, 42, 44] [] [5, 38, 46, 48] []) σ0 (r)) := by
  unfold fX3_drawSprites_147_body
  exact zpc_if (fun _ => zpc_some h) (fun _ => zpc_ck (zpc_if (fun _ => fc_fX3_drawSprites_196 hk147 h) (fun _ => zpc_ck (zpc_if (fun _ => zpc_ck (zpc_ck (zpc_bs (zQ.wi h rfl) (fun σ2 hσ2 => fc_fX3_drawSprites_196 hk147 hσ2)))) (fun _ => fc_fX3_drawSprites_196 hk147 h)))))
theorem fc_fX3_drawSprites_147 {σ0 : zSt} : ∀ (n : Nat) (y0 : zSt) (y1 : Int32), (zQ [3, 5, 7, 9, 11, 12, 15, 17, 19, 21, 23, 25, 27, 28, 29, 30, 32, 34, 36, 42, 44] [] [5, 38, 46, 48] []) σ0 y0 → zpc (fX3_drawSprites_147 n y0 y1) (fun r => (zQ [3, 5, 7, 9, 11, 12, 15, 17, 19, 21, 23, 25, 27, 28, 29, 30, 32, 34, 36, 42, 44] [] [5, 38, 46, 48] []) σ0 (r)) := by
  intro n
  induction n with
  | zero => intro y0 y1 h; exact zpc_none
  | succ n ih => intro y0 y1 h; exact fc_fX3_drawSprites_147_body ih h
theorem fc_fX3_drawSprites_144 {σ0 : zSt} {σ : zSt} (h : (zQ [3, 5, 7, 9, 11, 12, 15, 17, 19, 21, 23, 25, 27, 28, 29, 30, 32, 34, 36, 42, 44] [] [5, 38, 46, 48] []) σ0 σ) : zpc (fX3_drawSprites_144 σ) (fun r => (zQ [3, 5, 7, 9, 11, 12, 15, 17, 19, 21, 23, 25, 27, 28, 29, 30, 32, 34, 36, 42, 44] [] [5, 38, 46, 48] []) σ0 (r)) := by
  unfold fX3_drawSprites_144
  exact fc_fX3_drawSprites_147 _ _ _ h
theorem fc_fX3_drawSprites_138 {σ0 : zSt} {k51 : zSt → Int32 → Int32 → Int32 → Int32 → Int32 → Option (zSt)} (hk51 : ∀ (y0 : zSt) (y1 : Int32) (y2 : Int32) (y3 : Int32) (y4 : Int32) (y5 : Int32), (zQ [3, 5, 7, 9, 11, 12, 15, 17, 19, 21, 23, 25, 27, 28, 29, 30, 32, 34, 36, 42, 44] [] [5, 38, 46, 48] []) σ0 y0 → zpc (k51 y0 y1 y2 y3 y4 y5) (fun r => (zQ [3, 5, 7, 9, 11, 12, 15, 17, 19, 21, 23, 25, 27, 28, 29, 30, 32, 34, 36, 42, 44] [] [5, 38, 46, 48] []) σ0 (r))) {σ : zSt} {x1 : Int32} {x2 : Int32} {x3 : Int32} {x4 : Int32} {x5 : Int32} (h : (zQ [3, 5, 7, 9, 11, 12, 15, 17, 19, 21, 23, 25, 27, 28, 29, 30, 32, 34, 36, 42, 44] [] [5, 38, 46, 48] []) σ0 σ) : zpc (fX3_drawSprites_138 k51 σ x1 x2 x3 x4 x5) (fun r => (zQ [3, 5, 7, 9, 11, 12, 15, 17, 19, 21, 23, 25, 27, 28, 29, 30, 32, 34, 36, 42, 44] [] [5, 38, 46, 48] []) σ0 (r)) := by
  unfold fX3_drawSprites_138
  exact zpc_bv (fun v3 _ => hk51 _ _ _ _ _ _ h)
theorem fc_fX3_drawSprites_86 {σ0 : zSt} {k51 : zSt → Int32 → Int32 → Int32 → Int32 → Int32 → Option (zSt)} (hk51 : ∀ (y0 : zSt) (y1 : Int32) (y2 : Int32) (y3 : Int32) (y4 : Int32) (y5 : Int32), (zQ [3, 5, 7, 9, 11, 12, 15, 17, 19, 21, 23, 25, 27, 28, 29, 30, 32, 34, 36, 42, 44] [] [5, 38, 46, 48] []) σ0 y0 → zpc (k51 y0 y1 y2 y3 y4 y5) (fun r => (zQ [3, 5, 7, 9, 11, 12, 15, 17, 19, 21, 23, 25, 27, 28, 29, 30, 32, 34, 36, 42, 44] [] [5, 38, 46, 48] []) σ0 (r))) {σ : zSt} {x1 : Int32} {x2 : Int32} {x3 : Int32} {x4 : Int32} {x5 : Int32} {x6 : Int32} (h : (zQ [3, 5, 7, 9, 11, 12, 15, 17, 19, 21, 23, 25, 27, 28, 29, 30, 32, 34, 36, 42, 44] [] [5, 38, 46, 48] []) σ0 σ) : zpc (fX3_drawSprites_86 k51 σ x1 x2 x3 x4 x5 x6) (fun r => (zQ [3, 5, 7, 9, 11, 12, 15, 17, 19, 21, 23, 25, 27, 28, 29, 30, 32, 34, 36, 42, 44] [] [5, 38, 46, 48] []) σ0 (r)) := by
  unfold fX3_drawSprites_86
  exact zpc_bi (fc_fX3_rowOfSprite h) (fun σ4 v5 hσ4 => zpc_if (fun _ => fc_fX3_drawSprites_138 hk51 hσ4) (fun _ => zpc_bv (fun v6 _ => zpc_if (fun _ => zpc_bu (fc_fX3_drawSprite hσ4) (fun σ7 hσ7 => fc_fX3_drawSprites_138 hk51 hσ7)) (fun _ => zpc_bu (fc_fX9_mark hσ4) (fun σ8 hσ8 => fc_fX3_drawSprites_144 hσ8)))))
theorem fc_fX3_drawSprites_51_body {σ0 : zSt} {k51 : zSt → Int32 → Int32 → Int32 → Int32 → Int32 → Option (zSt)} (hk51 : ∀ (y0 : zSt) (y1 : Int32) (y2 : Int32) (y3 : Int32) (y4 : Int32) (y5 : Int32), (zQ [3, 5, 7, 9, 11, 12, 15, 17, 19, 21, 23, 25, 27, 28, 29, 30, 32, 34, 36, 42, 44] [] [5, 38, 46, 48] []) σ0 y0 → zpc (k51 y0 y1 y2 y3 y4 y5) (fun r => (zQ [3, 5, 7, 9, 11, 12, 15, 17, 19, 21, 23, 25, 27, 28, 29, 30, 32, 34, 36, 42, 44] [] [5, 38, 46, 48] []) σ0 (r))) {σ : zSt} {x1 : Int32} {x2 : Int32} {x3 : Int32} {x4 : Int32} {x5 : Int32} (h : (zQ [3, 5, 7, 9, 11, 12, 15, 17, 19, 21, 23, 25, 27, 28, 29, 30, 32, 34, 36, 42, 44] [] [5, 38, 46, 48] []) σ0 σ) : zpc (fX3_drawSprites_51_body k51 σ x1 x2 x3 x4 x5) (fun r => (zQ [3, 5, 7, 9, 11, 12, 15, 17, 19, 21, 23, 25, 27, 28, 29, 30, 32, 34, 36, 42, 44] [] [5, 38, 46, 48] []) σ0 (r)) := by
  unfold fX3_drawSprites_51_body
  exact zpc_if (fun _ => fc_fX3_drawSprites_144 h) (fun _ => zpc_bi (fc_fX9_vramByte h) (fun σ9 v10 hσ9 => zpc_if (fun _ => fc_fX3_drawSprites_86 hk51 hσ9) (fun _ => zpc_if (fun _ => fc_fX3_drawSprites_144 hσ9) (fun _ => fc_fX3_drawSprites_86 hk51 hσ9))))
theorem fc_fX3_drawSprites_51 {σ0 : zSt} : ∀ (n : Nat) (y0 : zSt) (y1 : Int32) (y2 : Int32) (y3 : Int32) (y4 : Int32) (y5 : Int32), (zQ [3, 5, 7, 9, 11, 12, 15, 17, 19, 21, 23, 25, 27, 28, 29, 30, 32, 34, 36, 42, 44] [] [5, 38, 46, 48] []) σ0 y0 → zpc (fX3_drawSprites_51 n y0 y1 y2 y3 y4 y5) (fun r => (zQ [3, 5, 7, 9, 11, 12, 15, 17, 19, 21, 23, 25, 27, 28, 29, 30, 32, 34, 36, 42, 44] [] [5, 38, 46, 48] []) σ0 (r)) := by
  intro n
  induction n with
  | zero => intro y0 y1 y2 y3 y4 y5 h; exact zpc_none
  | succ n ih => intro y0 y1 y2 y3 y4 y5 h; exact fc_fX3_drawSprites_51_body ih h
theorem fc_fX3_drawSprites_44 {σ0 : zSt} {σ : zSt} {x1 : Int32} {x2 : Int32} {s0 : Int32} (h : (zQ [3, 5, 7, 9, 11, 12, 15, 17, 19, 21, 23, 25, 27, 28, 29, 30, 32, 34, 36, 42, 44] [] [5, 38, 46, 48] []) σ0 σ) : zpc (fX3_drawSprites_44 σ x1 x2 s0) (fun r => (zQ [3, 5, 7, 9, 11, 12, 15, 17, 19, 21, 23, 25, 27, 28, 29, 30, 32, 34, 36, 42, 44] [] [5, 38, 46, 48] []) σ0 (r)) := by
  unfold fX3_drawSprites_44
  exact fc_fX3_drawSprites_51 _ _ _ _ _ _ _ h
theorem fc_fX3_drawSprites {σ0 : zSt} {σ : zSt} {x1 : Int32} (h : (zQ [3, 5, 7, 9, 11, 12, 15, 17, 19, 21, 23, 25, 27, 28, 29, 30, 32, 34, 36, 42, 44] [] [5, 38, 46, 48] []) σ0 σ) : zpc (fX3_drawSprites σ x1) (fun r => (zQ [3, 5, 7, 9, 11, 12, 15, 17, 19, 21, 23, 25, 27, 28, 29, 30, 32, 34, 36, 42, 44] [] [5, 38, 46, 48] []) σ0 (r)) := by
  unfold fX3_drawSprites
  exact zpc_bu (fc_fJ7_fill_53178_k28 h) (fun σ11 hσ11 => zpc_bi (fc_fX9_held hσ11) (fun σ12 v13 hσ12 => zpc_bv (fun v14 _ => zpc_bi (fc_fX9_height hσ12) (fun σ15 v16 hσ15 => zpc_if (fun _ => fc_fX3_drawSprites_44 hσ15) (fun _ => fc_fX3_drawSprites_44 hσ15)))))
theorem fc_fJ7_rangeCheck_23922 {σ0 : zSt} {σ : zSt} {x0 : Int32} {x1 : Int32} {x2 : Int32} (h : (zQ [3, 5, 7, 9, 11, 12, 15, 17, 19, 21, 23, 25, 27, 28, 29, 30, 32, 34, 36, 42, 44] [] [5, 38, 46, 48] []) σ0 σ) : zpc (fJ7_rangeCheck_23922 σ x0 x1 x2) (fun r => (zQ [3, 5, 7, 9, 11, 12, 15, 17, 19, 21, 23, 25, 27, 28, 29, 30, 32, 34, 36, 42, 44] [] [5, 38, 46, 48] []) σ0 (r)) := by
  unfold fJ7_rangeCheck_23922
  exact zpc_if (fun _ => zpc_if (fun _ => zpc_if (fun _ => zpc_some h) (fun _ => zpc_none)) (fun _ => zpc_none)) (fun _ => zpc_none)
theorem fc_fJ7_fill_fda19_k27_10_body {σ0 : zSt} {k10 : zSt → Int32 → Int32 → Int32 → Option (zSt)} (hk10 : ∀ (y0 : zSt) (y1 : Int32) (y2 : Int32) (y3 : Int32), (zQ [3, 5, 7, 9, 11, 12, 15, 17, 19, 21, 23, 25, 27, 28, 29, 30, 32, 34, 36, 42, 44] [] [5, 38, 46, 48] []) σ0 y0 → zpc (k10 y0 y1 y2 y3) (fun r => (zQ [3, 5, 7, 9, 11, 12, 15, 17, 19, 21, 23, 25, 27, 28, 29, 30, 32, 34, 36, 42, 44] [] [5, 38, 46, 48] []) σ0 (r))) {σ : zSt} {x2 : Int32} {x3 : Int32} {x4 : Int32} (h : (zQ [3, 5, 7, 9, 11, 12, 15, 17, 19, 21, 23, 25, 27, 28, 29, 30, 32, 34, 36, 42, 44] [] [5, 38, 46, 48] []) σ0 σ) : zpc (fJ7_fill_fda19_k27_10_body k10 σ x2 x3 x4) (fun r => (zQ [3, 5, 7, 9, 11, 12, 15, 17, 19, 21, 23, 25, 27, 28, 29, 30, 32, 34, 36, 42, 44] [] [5, 38, 46, 48] []) σ0 (r)) := by
  unfold fJ7_fill_fda19_k27_10_body
  exact zpc_if (fun _ => zpc_some h) (fun _ => zpc_ck (zpc_bs (zQ.wi h rfl) (fun σ1 hσ1 => zpc_bv (fun v2 _ => hk10 _ _ _ _ hσ1))))
theorem fc_fJ7_fill_fda19_k27_10 {σ0 : zSt} : ∀ (n : Nat) (y0 : zSt) (y1 : Int32) (y2 : Int32) (y3 : Int32), (zQ [3, 5, 7, 9, 11, 12, 15, 17, 19, 21, 23, 25, 27, 28, 29, 30, 32, 34, 36, 42, 44] [] [5, 38, 46, 48] []) σ0 y0 → zpc (fJ7_fill_fda19_k27_10 n y0 y1 y2 y3) (fun r => (zQ [3, 5, 7, 9, 11, 12, 15, 17, 19, 21, 23, 25, 27, 28, 29, 30, 32, 34, 36, 42, 44] [] [5, 38, 46, 48] []) σ0 (r)) := by
  intro n
  induction n with
  | zero => intro y0 y1 y2 y3 h; exact zpc_none
  | succ n ih => intro y0 y1 y2 y3 h; exact fc_fJ7_fill_fda19_k27_10_body ih h
theorem fc_fJ7_fill_fda19_k27 {σ0 : zSt} {σ : zSt} {x1 : Int32} {x2 : Int32} {x3 : Int32} (h : (zQ [3, 5, 7, 9, 11, 12, 15, 17, 19, 21, 23, 25, 27, 28, 29, 30, 32, 34, 36, 42, 44] [] [5, 38, 46, 48] []) σ0 σ) : zpc (fJ7_fill_fda19_k27 σ x1 x2 x3) (fun r => (zQ [3, 5, 7, 9, 11, 12, 15, 17, 19, 21, 23, 25, 27, 28, 29, 30, 32, 34, 36, 42, 44] [] [5, 38, 46, 48] []) σ0 (r)) := by
  unfold fJ7_fill_fda19_k27
  exact zpc_bu (fc_fJ7_rangeCheck_23922 h) (fun σ3 hσ3 => fc_fJ7_fill_fda19_k27_10 _ _ _ _ _ hσ3)
theorem fc_fX3_patternAt {σ0 : zSt} {σ : zSt} {x1 : Int32} {x2 : Int32} (h : (zQ [3, 5, 7, 9, 11, 12, 15, 17, 19, 21, 23, 25, 27, 28, 29, 30, 32, 34, 36, 42, 44] [] [5, 38, 46, 48] []) σ0 σ) : zpc (fX3_patternAt σ x1 x2) (fun r => (zQ [3, 5, 7, 9, 11, 12, 15, 17, 19, 21, 23, 25, 27, 28, 29, 30, 32, 34, 36, 42, 44] [] [5, 38, 46, 48] []) σ0 (r.1)) := by
  unfold fX3_patternAt
  exact zpc_bi (fc_fX9_held h) (fun σ1 v2 hσ1 => zpc_bi (fc_fX9_vramByte hσ1) (fun σ3 v4 hσ3 => zpc_some hσ3))
theorem fc_fX3_drawText_101 {σ0 : zSt} {k21 : zSt → Int32 → Int32 → Int32 → Int32 → Option (zSt)} (hk21 : ∀ (y0 : zSt) (y1 : Int32) (y2 : Int32) (y3 : Int32) (y4 : Int32), (zQ [3, 5, 7, 9, 11, 12, 15, 17, 19, 21, 23, 25, 27, 28, 29, 30, 32, 34, 36, 42, 44] [] [5, 38, 46, 48] []) σ0 y0 → zpc (k21 y0 y1 y2 y3 y4) (fun r => (zQ [3, 5, 7, 9, 11, 12, 15, 17, 19, 21, 23, 25, 27, 28, 29, 30, 32, 34, 36, 42, 44] [] [5, 38, 46, 48] []) σ0 (r))) {k56 : zSt → Int32 → Int32 → Int32 → Int32 → Int32 → Int32 → Option (zSt)} (hk56 : ∀ (y0 : zSt) (y1 : Int32) (y2 : Int32) (y3 : Int32) (y4 : Int32) (y5 : Int32) (y6 : Int32), (zQ [3, 5, 7, 9, 11, 12, 15, 17, 19, 21, 23, 25, 27, 28, 29, 30, 32, 34, 36, 42, 44] [] [5, 38, 46, 48] []) σ0 y0 → zpc (k56 y0 y1 y2 y3 y4 y5 y6) (fun r => (zQ [3, 5, 7, 9, 11, 12, 15, 17, 19, 21, 23, 25, 27, 28, 29, 30, 32, 34, 36, 42, 44] [] [5, 38, 46, 48] []) σ0 (r))) {σ : zSt} {x1 : Int32} {x2 : Int32} {x3 : Int32} {x4 : Int32} {x5 : Int32} {x6 : Int32} {s0 : Int32} {s1 : Int32} (h : (zQ [3, 5, 7, 9, 11, 12, 15, 17, 19, 21, 23, 25, 27, 28, 29, 30, 32, 34, 36, 42, 44] [] [5, 38, 46, 48] []) σ0 σ) : zpc (fX3_drawText_101 k21 k56 σ x1 x2 x3 x4 x5 x6 s0 s1) (fun r => (zQ [3, 5, 7, 9, 11, 12, 15, 17, 19, 21, 23, 25, 27, 28, 29, 30, 32, 34, 36, 42, 44] [] [5, 38, 46, 48] []) σ0 (r)) := by
  unfold fX3_drawText_101
  exact zpc_ck (zpc_bs (zQ.wi h rfl) (fun σ1 hσ1 => zpc_bv (fun v2 _ => hk56 _ _ _ _ _ _ _ hσ1)))
theorem fc_fX3_drawText_56_body {σ0 : zSt} {k21 : zSt → Int32 → Int32 → Int32 → Int32 → Option (zSt)} (hk21 : ∀ (y0 : zSt) (y1 : Int32) (y2 : Int32) (y3 : Int32) (y4 : Int32), (zQ [3, 5, 7, 9, 11, 12, 15, 17, 19, 21, 23, 25, 27, 28, 29, 30, 32, 34, 36, 42, 44] [] [5, 38, 46, 48] []) σ0 y0 → zpc (k21 y0 y1 y2 y3 y4) (fun r => (zQ [3, 5, 7, 9, 11, 12, 15, 17, 19, 21, 23, 25, 27, 28, 29, 30, 32, 34, 36, 42, 44] [] [5, 38, 46, 48] []) σ0 (r))) {k56 : zSt → Int32 → Int32 → Int32 → Int32 → Int32 → Int32 → Option (zSt)} (hk56 : ∀ (y0 : zSt) (y1 : Int32) (y2 : Int32) (y3 : Int32) (y4 : Int32) (y5 : Int32) (y6 : Int32), (zQ [3, 5, 7, 9, 11, 12, 15, 17, 19, 21, 23, 25, 27, 28, 29, 30, 32, 34, 36, 42, 44] [] [5, 38, 46, 48] []) σ0 y0 → zpc (k56 y0 y1 y2 y3 y4 y5 y6) (fun r => (zQ [3, 5, 7, 9, 11, 12, 15, 17, 19, 21, 23, 25, 27, 28, 29, 30, 32, 34, 36, 42, 44] [] [5, 38, 46, 48] []) σ0 (r))) {σ : zSt} {x1 : Int32} {x2 : Int32} {x3 : Int32} {x4 : Int32} {x5 : Int32} {x6 : Int32} (h : (zQ [3, 5, 7, 9, 11, 12, 15, 17, 19, 21, 23, 25, 27, 28, 29, 30, 32, 34, 36, 42, 44] [] [5, 38, 46, 48] []) σ0 σ) : zpc (fX3_drawText_56_body k21 k56 σ x1 x2 x3 x4 x5 x6) (fun r => (zQ [3, 5, 7, 9, 11, 12, 15, 17, 19, 21, 23, 25, 27, 28, 29, 30, 32, 34, 36, 42, 44] [] [5, 38, 46, 48] []) σ0 (r)) := by
  unfold fX3_drawText_56_body
  exact zpc_if (fun _ => zpc_bv (fun v3 _ => hk21 _ _ _ _ _ h)) (fun _ => zpc_if (fun _ => fc_fX3_drawText_101 hk21 hk56 h) (fun _ => fc_fX3_drawText_101 hk21 hk56 h))
theorem fc_fX3_drawText_56 {σ0 : zSt} {k21 : zSt → Int32 → Int32 → Int32 → Int32 → Option (zSt)} (hk21 : ∀ (y0 : zSt) (y1 : Int32) (y2 : Int32) (y3 : Int32) (y4 : Int32), (zQ [3, 5, 7, 9, 11, 12, 15, 17, 19, 21, 23, 25, 27, 28, 29, 30, 32, 34, 36, 42, 44] [] [5, 38, 46, 48] []) σ0 y0 → zpc (k21 y0 y1 y2 y3 y4) (fun r => (zQ [3, 5, 7, 9, 11, 12, 15, 17, 19, 21, 23, 25, 27, 28, 29, 30, 32, 34, 36, 42, 44] [] [5, 38, 46, 48] []) σ0 (r))) : ∀ (n : Nat) (y0 : zSt) (y1 : Int32) (y2 : Int32) (y3 : Int32) (y4 : Int32) (y5 : Int32) (y6 : Int32), (zQ [3, 5, 7, 9, 11, 12, 15, 17, 19, 21, 23, 25, 27, 28, 29, 30, 32, 34, 36, 42, 44] [] [5, 38, 46, 48] []) σ0 y0 → zpc (fX3_drawText_56 k21 n y0 y1 y2 y3 y4 y5 y6) (fun r => (zQ [3, 5, 7, 9, 11, 12, 15, 17, 19, 21, 23, 25, 27, 28, 29, 30, 32, 34, 36, 42, 44] [] [5, 38, 46, 48] []) σ0 (r)) := by
  intro n
  induction n with
  | zero => intro y0 y1 y2 y3 y4 y5 y6 h; exact zpc_none
  | succ n ih => intro y0 y1 y2 y3 y4 y5 y6 h; exact fc_fX3_drawText_56_body hk21 ih h
theorem fc_fX3_drawText_21_body {σ0 : zSt} {k21 : zSt → Int32 → Int32 → Int32 → Int32 → Option (zSt)} (hk21 : ∀ (y0 : zSt) (y1 : Int32) (y2 : Int32) (y3 : Int32) (y4 : Int32), (zQ [3, 5, 7, 9, 11, 12, 15, 17, 19, 21, 23, 25, 27, 28, 29, 30, 32, 34, 36, 42, 44] [] [5, 38, 46, 48] []) σ0 y0 → zpc (k21 y0 y1 y2 y3 y4) (fun r => (zQ [3, 5, 7, 9, 11, 12, 15, 17, 19, 21, 23, 25, 27, 28, 29, 30, 32, 34, 36, 42, 44] [] [5, 38, 46, 48] []) σ0 (r))) {σ : zSt} {x1 : Int32} {x2 : Int32} {x3 : Int32} {x4 : Int32} (h : (zQ [3, 5, 7, 9, 11, 12, 15, 17, 19, 21, 23, 25, 27, 28, 29, 30, 32, 34, 36, 42, 44] [] [5, 38, 46, 48] []) σ0 σ) : zpc (fX3_drawText_21_body k21 σ x1 x2 x3 x4) (fun r => (zQ [3, 5, 7, 9, 11, 12, 15, 17, 19, 21, 23, 25, 27, 28, 29, 30, 32, 34, 36, 42, 44] [] [5, 38, 46, 48] []) σ0 (r)) := by
  unfold fX3_drawText_21_body
  exact zpc_if (fun _ => zpc_some h) (fun _ => zpc_bi (fc_fX9_vramByte h) (fun σ4 v5 hσ4 => zpc_bi (fc_fX3_patternAt hσ4) (fun σ6 v7 hσ6 => fc_fX3_drawText_56 hk21 _ _ _ _ _ _ _ _ hσ6)))
theorem fc_fX3_drawText_21 {σ0 : zSt} : ∀ (n : Nat) (y0 : zSt) (y1 : Int32) (y2 : Int32) (y3 : Int32) (y4 : Int32), (zQ [3, 5, 7, 9, 11, 12, 15, 17, 19, 21, 23, 25, 27, 28, 29, 30, 32, 34, 36, 42, 44] [] [5, 38, 46, 48] []) σ0 y0 → zpc (fX3_drawText_21 n y0 y1 y2 y3 y4) (fun r => (zQ [3, 5, 7, 9, 11, 12, 15, 17, 19, 21, 23, 25, 27, 28, 29, 30, 32, 34, 36, 42, 44] [] [5, 38, 46, 48] []) σ0 (r)) := by
  intro n
  induction n with
  | zero => intro y0 y1 y2 y3 y4 h; exact zpc_none
  | succ n ih => intro y0 y1 y2 y3 y4 h; exact fc_fX3_drawText_21_body ih h
theorem fc_fX3_drawText {σ0 : zSt} {σ : zSt} {x1 : Int32} {x2 : Int32} (h : (zQ [3, 5, 7, 9, 11, 12, 15, 17, 19, 21, 23, 25, 27, 28, 29, 30, 32, 34, 36, 42, 44] [] [5, 38, 46, 48] []) σ0 σ) : zpc (fX3_drawText σ x1 x2) (fun r => (zQ [3, 5, 7, 9, 11, 12, 15, 17, 19, 21, 23, 25, 27, 28, 29, 30, 32, 34, 36, 42, 44] [] [5, 38, 46, 48] []) σ0 (r)) := by
  unfold fX3_drawText
  exact zpc_bi (fc_fX9_held h) (fun σ8 v9 hσ8 => zpc_bu (fc_fJ7_fill_53178_k27 hσ8) (fun σ10 hσ10 => fc_fX3_drawText_21 _ _ _ _ _ _ hσ10))
theorem fc_fX3_drawPattern_57 {σ0 : zSt} {σ : zSt} (h : (zQ [3, 5, 7, 9, 11, 12, 15, 17, 19, 21, 23, 25, 27, 28, 29, 30, 32, 34, 36, 42, 44] [] [5, 38, 46, 48] []) σ0 σ) : zpc (fX3_drawPattern_57 σ) (fun r => (zQ [3, 5, 7, 9, 11, 12, 15, 17, 19, 21, 23, 25, 27, 28, 29, 30, 32, 34, 36, 42, 44] [] [5, 38, 46, 48] []) σ0 (r)) := by
  unfold fX3_drawPattern_57
  exact zpc_some h
theorem fc_fX3_drawPattern_50 {σ0 : zSt} {k3 : zSt → Int32 → Int32 → Int32 → Int32 → Option (zSt)} (hk3 : ∀ (y0 : zSt) (y1 : Int32) (y2 : Int32) (y3 : Int32) (y4 : Int32), (zQ [3, 5, 7, 9, 11, 12, 15, 17, 19, 21, 23, 25, 27, 28, 29, 30, 32, 34, 36, 42, 44] [] [5, 38, 46, 48] []) σ0 y0 → zpc (k3 y0 y1 y2 y3 y4) (fun r => (zQ [3, 5, 7, 9, 11, 12, 15, 17, 19, 21, 23, 25, 27, 28, 29, 30, 32, 34, 36, 42, 44] [] [5, 38, 46, 48] []) σ0 (r))) {σ : zSt} {x1 : Int32} {x2 : Int32} {x3 : Int32} {x4 : Int32} {s0 : Int32} {s1 : Int32} (h : (zQ [3, 5, 7, 9, 11, 12, 15, 17, 19, 21, 23, 25, 27, 28, 29, 30, 32, 34, 36, 42, 44] [] [5, 38, 46, 48] []) σ0 σ) : zpc (fX3_drawPattern_50 k3 σ x1 x2 x3 x4 s0 s1) (fun r => (zQ [3, 5, 7, 9, 11, 12, 15, 17, 19, 21, 23, 25, 27, 28, 29, 30, 32, 34, 36, 42, 44] [] [5, 38, 46, 48] []) σ0 (r)) := by
  unfold fX3_drawPattern_50
  exact zpc_ck (zpc_bs (zQ.wi h rfl) (fun σ1 hσ1 => zpc_bv (fun v2 _ => hk3 _ _ _ _ _ hσ1)))
theorem fc_fX3_drawPattern_3_body {σ0 : zSt} {k3 : zSt → Int32 → Int32 → Int32 → Int32 → Option (zSt)} (hk3 : ∀ (y0 : zSt) (y1 : Int32) (y2 : Int32) (y3 : Int32) (y4 : Int32), (zQ [3, 5, 7, 9, 11, 12, 15, 17, 19, 21, 23, 25, 27, 28, 29, 30, 32, 34, 36, 42, 44] [] [5, 38, 46, 48] []) σ0 y0 → zpc (k3 y0 y1 y2 y3 y4) (fun r => (zQ [3, 5, 7, 9, 11, 12, 15, 17, 19, 21, 23, 25, 27, 28, 29, 30, 32, 34, 36, 42, 44] [] [5, 38, 46, 48] []) σ0 (r))) {σ : zSt} {x1 : Int32} {x2 : Int32} {x3 : Int32} {x4 : Int32} (h : (zQ [3, 5, 7, 9, 11, 12, 15, 17, 19, 21, 23, 25, 27, 28, 29, 30, 32, 34, 36, 42, 44] [] [5, 38, 46, 48] []) σ0 σ) : zpc (fX3_drawPattern_3_body k3 σ x1 x2 x3 x4) (fun r => (zQ [3, 5, 7, 9, 11, 12, 15, 17, 19, 21, 23, 25, 27, 28, 29, 30, 32, 34, 36, 42, 44] [] [5, 38, 46, 48] []) σ0 (r)) := by
  unfold fX3_drawPattern_3_body
  exact zpc_if (fun _ => fc_fX3_drawPattern_57 h) (fun _ => zpc_if (fun _ => fc_fX3_drawPattern_57 h) (fun _ => zpc_if (fun _ => fc_fX3_drawPattern_50 hk3 h) (fun _ => fc_fX3_drawPattern_50 hk3 h)))
theorem fc_fX3_drawPattern_3 {σ0 : zSt} : ∀ (n : Nat) (y0 : zSt) (y1 : Int32) (y2 : Int32) (y3 : Int32) (y4 : Int32), (zQ [3, 5, 7, 9, 11, 12, 15, 17, 19, 21, 23, 25, 27, 28, 29, 30, 32, 34, 36, 42, 44] [] [5, 38, 46, 48] []) σ0 y0 → zpc (fX3_drawPattern_3 n y0 y1 y2 y3 y4) (fun r => (zQ [3, 5, 7, 9, 11, 12, 15, 17, 19, 21, 23, 25, 27, 28, 29, 30, 32, 34, 36, 42, 44] [] [5, 38, 46, 48] []) σ0 (r)) := by
  intro n
  induction n with
  | zero => intro y0 y1 y2 y3 y4 h; exact zpc_none
  | succ n ih => intro y0 y1 y2 y3 y4 h; exact fc_fX3_drawPattern_3_body ih h
theorem fc_fX3_drawPattern {σ0 : zSt} {σ : zSt} {x1 : Int32} {x2 : Int32} {x3 : Int32} (h : (zQ [3, 5, 7, 9, 11, 12, 15, 17, 19, 21, 23, 25, 27, 28, 29, 30, 32, 34, 36, 42, 44] [] [5, 38, 46, 48] []) σ0 σ) : zpc (fX3_drawPattern σ x1 x2 x3) (fun r => (zQ [3, 5, 7, 9, 11, 12, 15, 17, 19, 21, 23, 25, 27, 28, 29, 30, 32, 34, 36, 42, 44] [] [5, 38, 46, 48] []) σ0 (r)) := by
  unfold fX3_drawPattern
  exact fc_fX3_drawPattern_3 _ _ _ _ _ _ h
theorem fc_fX3_drawBlocks {σ0 : zSt} {σ : zSt} {x1 : Int32} {x2 : Int32} {x3 : Int32} (h : (zQ [3, 5, 7, 9, 11, 12, 15, 17, 19, 21, 23, 25, 27, 28, 29, 30, 32, 34, 36, 42, 44] [] [5, 38, 46, 48] []) σ0 σ) : zpc (fX3_drawBlocks σ x1 x2 x3) (fun r => (zQ [3, 5, 7, 9, 11, 12, 15, 17, 19, 21, 23, 25, 27, 28, 29, 30, 32, 34, 36, 42, 44] [] [5, 38, 46, 48] []) σ0 (r)) := by
  unfold fX3_drawBlocks
  exact zpc_bi (fc_fX9_held h) (fun σ1 v2 hσ1 => zpc_bv (fun v3 _ => zpc_bi (fc_fX9_vramByte hσ1) (fun σ4 v5 hσ4 => zpc_bu (fc_fX3_drawPattern hσ4) (fun σ6 hσ6 => zpc_some hσ6))))
theorem fc_fX3_drawThird {σ0 : zSt} {σ : zSt} {x1 : Int32} {x2 : Int32} {x3 : Int32} (h : (zQ [3, 5, 7, 9, 11, 12, 15, 17, 19, 21, 23, 25, 27, 28, 29, 30, 32, 34, 36, 42, 44] [] [5, 38, 46, 48] []) σ0 σ) : zpc (fX3_drawThird σ x1 x2 x3) (fun r => (zQ [3, 5, 7, 9, 11, 12, 15, 17, 19, 21, 23, 25, 27, 28, 29, 30, 32, 34, 36, 42, 44] [] [5, 38, 46, 48] []) σ0 (r)) := by
  unfold fX3_drawThird
  exact zpc_bi (fc_fX9_held h) (fun σ1 v2 hσ1 => zpc_bi (fc_fX9_held hσ1) (fun σ3 v4 hσ3 => zpc_bv (fun v5 _ => zpc_bv (fun v6 _ => zpc_bi (fc_fX9_vramByte hσ3) (fun σ7 v8 hσ7 => zpc_bi (fc_fX9_vramByte hσ7) (fun σ9 v10 hσ9 => zpc_bu (fc_fX3_drawPattern hσ9) (fun σ11 hσ11 => zpc_some hσ11)))))))
theorem fc_fX3_drawOld_165 {σ0 : zSt} {k31 : zSt → Int32 → Int32 → Int32 → Int32 → Option (zSt)} (hk31 : ∀ (y0 : zSt) (y1 : Int32) (y2 : Int32) (y3 : Int32) (y4 : Int32), (zQ [3, 5, 7, 9, 11, 12, 15, 17, 19, 21, 23, 25, 27, 28, 29, 30, 32, 34, 36, 42, 44] [] [5, 38, 46, 48] []) σ0 y0 → zpc (k31 y0 y1 y2 y3 y4) (fun r => (zQ [3, 5, 7, 9, 11, 12, 15, 17, 19, 21, 23, 25, 27, 28, 29, 30, 32, 34, 36, 42, 44] [] [5, 38, 46, 48] []) σ0 (r))) {σ : zSt} {x1 : Int32} {x2 : Int32} {x3 : Int32} {x4 : Int32} (h : (zQ [3, 5, 7, 9, 11, 12, 15, 17, 19, 21, 23, 25, 27, 28, 29, 30, 32, 34, 36, 42, 44] [] [5, 38, 46, 48] []) σ0 σ) : zpc (fX3_drawOld_165 k31 σ x1 x2 x3 x4) (fun r => (zQ [3, 5, 7, 9, 11, 12, 15, 17, 19, 21, 23, 25, 27, 28, 29, 30, 32, 34, 36, 42, 44] [] [5, 38, 46, 48] []) σ0 (r)) := by
  unfold fX3_drawOld_165
  exact zpc_bv (fun v1 _ => hk31 _ _ _ _ _ h)
theorem fc_fX3_drawOld_31_body {σ0 : zSt} {k31 : zSt → Int32 → Int32 → Int32 → Int32 → Option (zSt)} (hk31 : ∀ (y0 : zSt) (y1 : Int32) (y2 : Int32) (y3 : Int32) (y4 : Int32), (zQ [3, 5, 7, 9, 11, 12, 15, 17, 19, 21, 23, 25, 27, 28, 29, 30, 32, 34, 36, 42, 44] [] [5, 38, 46, 48] []) σ0 y0 → zpc (k31 y0 y1 y2 y3 y4) (fun r => (zQ [3, 5, 7, 9, 11, 12, 15, 17, 19, 21, 23, 25, 27, 28, 29, 30, 32, 34, 36, 42, 44] [] [5, 38, 46, 48] []) σ0 (r))) {σ : zSt} {x1 : Int32} {x2 : Int32} {x3 : Int32} {x4 : Int32} (h : (zQ [3, 5, 7, 9, 11, 12, 15, 17, 19, 21, 23, 25, 27, 28, 29, 30, 32, 34, 36, 42, 44] [] [5, 38, 46, 48] []) σ0 σ) : zpc (fX3_drawOld_31_body k31 σ x1 x2 x3 x4) (fun r => (zQ [3, 5, 7, 9, 11, 12, 15, 17, 19, 21, 23, 25, 27, 28, 29, 30, 32, 34, 36, 42, 44] [] [5, 38, 46, 48] []) σ0 (r)) := by
  unfold fX3_drawOld_31_body
  exact zpc_if (fun _ => zpc_some h) (fun _ => zpc_bi (fc_fX9_vramByte h) (fun σ2 v3 hσ2 => zpc_if (fun _ => zpc_bi (fc_fX3_patternAt hσ2) (fun σ4 v5 hσ4 => zpc_bi (fc_fX9_held hσ4) (fun σ6 v7 hσ6 => zpc_bi (fc_fX9_vramByte hσ6) (fun σ8 v9 hσ8 => zpc_bu (fc_fX3_drawPattern hσ8) (fun σ10 hσ10 => fc_fX3_drawOld_165 hk31 hσ10))))) (fun _ => zpc_if (fun _ => zpc_bu (fc_fX3_drawThird hσ2) (fun σ11 hσ11 => fc_fX3_drawOld_165 hk31 hσ11)) (fun _ => zpc_bu (fc_fX3_drawBlocks hσ2) (fun σ12 hσ12 => fc_fX3_drawOld_165 hk31 hσ12)))))
theorem fc_fX3_drawOld_31 {σ0 : zSt} : ∀ (n : Nat) (y0 : zSt) (y1 : Int32) (y2 : Int32) (y3 : Int32) (y4 : Int32), (zQ [3, 5, 7, 9, 11, 12, 15, 17, 19, 21, 23, 25, 27, 28, 29, 30, 32, 34, 36, 42, 44] [] [5, 38, 46, 48] []) σ0 y0 → zpc (fX3_drawOld_31 n y0 y1 y2 y3 y4) (fun r => (zQ [3, 5, 7, 9, 11, 12, 15, 17, 19, 21, 23, 25, 27, 28, 29, 30, 32, 34, 36, 42, 44] [] [5, 38, 46, 48] []) σ0 (r)) := by
  intro n
  induction n with
  | zero => intro y0 y1 y2 y3 y4 h; exact zpc_none
  | succ n ih => intro y0 y1 y2 y3 y4 h; exact fc_fX3_drawOld_31_body ih h
theorem fc_fX3_drawOld {σ0 : zSt} {σ : zSt} {x1 : Int32} {x2 : Int32} (h : (zQ [3, 5, 7, 9, 11, 12, 15, 17, 19, 21, 23, 25, 27, 28, 29, 30, 32, 34, 36, 42, 44] [] [5, 38, 46, 48] []) σ0 σ) : zpc (fX3_drawOld σ x1 x2) (fun r => (zQ [3, 5, 7, 9, 11, 12, 15, 17, 19, 21, 23, 25, 27, 28, 29, 30, 32, 34, 36, 42, 44] [] [5, 38, 46, 48] []) σ0 (r)) := by
  unfold fX3_drawOld
  exact zpc_bi (fc_fX9_held h) (fun σ13 v14 hσ13 => zpc_bv (fun v15 _ => zpc_if (fun _ => zpc_bu (fc_fX3_drawText hσ13) (fun σ16 hσ16 => zpc_some hσ16)) (fun _ => fc_fX3_drawOld_31 _ _ _ _ _ _ hσ13)))
theorem fc_fX9_markFifth_39 {σ0 : zSt} {σ : zSt} (h : (zQ [3, 5, 7, 9, 11, 12, 15, 17, 19, 21, 23, 25, 27, 28, 29, 30, 32, 34, 36, 42, 44] [] [5, 38, 46, 48] []) σ0 σ) : zpc (fX9_markFifth_39 σ) (fun r => (zQ [3, 5, 7, 9, 11, 12, 15, 17, 19, 21, 23, 25, 27, 28, 29, 30, 32, 34, 36, 42, 44] [] [5, 38, 46, 48] []) σ0 (r)) := by
  unfold fX9_markFifth_39
  exact zpc_some h
theorem fc_fX9_markFifth {σ0 : zSt} {σ : zSt} {x1 : Int32} (h : (zQ [3, 5, 7, 9, 11, 12, 15, 17, 19, 21, 23, 25, 27, 28, 29, 30, 32, 34, 36, 42, 44] [] [5, 38, 46, 48] []) σ0 σ) : zpc (fX9_markFifth σ x1) (fun r => (zQ [3, 5, 7, 9, 11, 12, 15, 17, 19, 21, 23, 25, 27, 28, 29, 30, 32, 34, 36, 42, 44] [] [5, 38, 46, 48] []) σ0 (r)) := by
  unfold fX9_markFifth
  exact zpc_ck (zpc_if (fun _ => zpc_ck (zpc_ck (zpc_bs (zQ.wi h rfl) (fun σ1 hσ1 => fc_fX9_markFifth_39 hσ1)))) (fun _ => fc_fX9_markFifth_39 h))
theorem fc_fX3_takeDot_41 {σ0 : zSt} {σ : zSt} (h : (zQ [3, 5, 7, 9, 11, 12, 15, 17, 19, 21, 23, 25, 27, 28, 29, 30, 32, 34, 36, 42, 44] [] [5, 38, 46, 48] []) σ0 σ) : zpc (fX3_takeDot_41 σ) (fun r => (zQ [3, 5, 7, 9, 11, 12, 15, 17, 19, 21, 23, 25, 27, 28, 29, 30, 32, 34, 36, 42, 44] [] [5, 38, 46, 48] []) σ0 (r)) := by
  unfold fX3_takeDot_41
  exact zpc_some h
theorem fc_fX3_takeDot_18 {σ0 : zSt} {σ : zSt} {x1 : Int32} {x2 : Int32} (h : (zQ [3, 5, 7, 9, 11, 12, 15, 17, 19, 21, 23, 25, 27, 28, 29, 30, 32, 34, 36, 42, 44] [] [5, 38, 46, 48] []) σ0 σ) : zpc (fX3_takeDot_18 σ x1 x2) (fun r => (zQ [3, 5, 7, 9, 11, 12, 15, 17, 19, 21, 23, 25, 27, 28, 29, 30, 32, 34, 36, 42, 44] [] [5, 38, 46, 48] []) σ0 (r)) := by
  unfold fX3_takeDot_18
  exact zpc_ck (zpc_if (fun _ => zpc_ck (zpc_bs (zQ.wi h rfl) (fun σ1 hσ1 => fc_fX3_takeDot_41 hσ1))) (fun _ => fc_fX3_takeDot_41 h))
theorem fc_fX3_takeDot {σ0 : zSt} {σ : zSt} {x1 : Int32} {x2 : Int32} (h : (zQ [3, 5, 7, 9, 11, 12, 15, 17, 19, 21, 23, 25, 27, 28, 29, 30, 32, 34, 36, 42, 44] [] [5, 38, 46, 48] []) σ0 σ) : zpc (fX3_takeDot σ x1 x2) (fun r => (zQ [3, 5, 7, 9, 11, 12, 15, 17, 19, 21, 23, 25, 27, 28, 29, 30, 32, 34, 36, 42, 44] [] [5, 38, 46, 48] []) σ0 (r)) := by
  unfold fX3_takeDot
  exact zpc_ck (zpc_if (fun _ => fc_fX3_takeDot_18 h) (fun _ => zpc_bu (fc_fX9_mark h) (fun σ2 hσ2 => fc_fX3_takeDot_18 hσ2)))
theorem fc_fX3_drawOldSprite_224 {σ0 : zSt} {k158 : zSt → Int32 → Int32 → Int32 → Int32 → Int32 → Int32 → Option (zSt)} (hk158 : ∀ (y0 : zSt) (y1 : Int32) (y2 : Int32) (y3 : Int32) (y4 : Int32) (y5 : Int32) (y6 : Int32), (zQ [3, 5, 7, 9, 11, 12, 15, 17, 19, 21, 23, 25, 27, 28, 29, 30, 32, 34, 36, 42, 44] [] [5, 38, 46, 48] []) σ0 y0 → zpc (k158 y0 y1 y2 y3 y4 y5 y6) (fun r => (zQ [3, 5, 7, 9, 11, 12, 15, 17, 19, 21, 23, 25, 27, 28, 29, 30, 32, 34, 36, 42, 44] [] [5, 38, 46, 48] []) σ0 (r))) {σ : zSt} {x3 : Int32} {x4 : Int32} {x7 : Int32} {x8 : Int32} {x10 : Int32} {x11 : Int32} (h : (zQ [3, 5, 7, 9, 11, 12, 15, 17, 19, 21, 23, 25, 27, 28, 29, 30, 32, 34, 36, 42, 44] [] [5, 38, 46, 48] []) σ0 σ) : zpc (fX3_drawOldSprite_224 k158 σ x3 x4 x7 x8 x10 x11) (fun r => (zQ [3, 5, 7, 9, 11, 12, 15, 17, 19, 21, 23, 25, 27, 28, 29, 30, 32, 34, 36, 42, 44] [] [5, 38, 46, 48] []) σ0 (r)) := by
  unfold fX3_drawOldSprite_224
  exact zpc_bv (fun v1 _ => hk158 _ _ _ _ _ _ _ h)
theorem fc_fX3_drawOldSprite_172 {σ0 : zSt} {k158 : zSt → Int32 → Int32 → Int32 → Int32 → Int32 → Int32 → Option (zSt)} (hk158 : ∀ (y0 : zSt) (y1 : Int32) (y2 : Int32) (y3 : Int32) (y4 : Int32) (y5 : Int32) (y6 : Int32), (zQ [3, 5, 7, 9, 11, 12, 15, 17, 19, 21, 23, 25, 27, 28, 29, 30, 32, 34, 36, 42, 44] [] [5, 38, 46, 48] []) σ0 y0 → zpc (k158 y0 y1 y2 y3 y4 y5 y6) (fun r => (zQ [3, 5, 7, 9, 11, 12, 15, 17, 19, 21, 23, 25, 27, 28, 29, 30, 32, 34, 36, 42, 44] [] [5, 38, 46, 48] []) σ0 (r))) {σ : zSt} {x3 : Int32} {x4 : Int32} {x7 : Int32} {x8 : Int32} {x10 : Int32} {x11 : Int32} {s0 : Int32} {s1 : Int32} (h : (zQ [3, 5, 7, 9, 11, 12, 15, 17, 19, 21, 23, 25, 27, 28, 29, 30, 32, 34, 36, 42, 44] [] [5, 38, 46, 48] []) σ0 σ) : zpc (fX3_drawOldSprite_172 k158 σ x3 x4 x7 x8 x10 x11 s0 s1) (fun r => (zQ [3, 5, 7, 9, 11, 12, 15, 17, 19, 21, 23, 25, 27, 28, 29, 30, 32, 34, 36, 42, 44] [] [5, 38, 46, 48] []) σ0 (r)) := by
  unfold fX3_drawOldSprite_172
  exact zpc_if (fun _ => zpc_some h) (fun _ => zpc_bv (fun v2 _ => zpc_if (fun _ => fc_fX3_drawOldSprite_224 hk158 h) (fun _ => zpc_if (fun _ => fc_fX3_drawOldSprite_224 hk158 h) (fun _ => zpc_if (fun _ => fc_fX3_drawOldSprite_224 hk158 h) (fun _ => zpc_bu (fc_fX3_takeDot h) (fun σ3 hσ3 => fc_fX3_drawOldSprite_224 hk158 hσ3))))))
theorem fc_fX3_drawOldSprite_158_body {σ0 : zSt} {k158 : zSt → Int32 → Int32 → Int32 → Int32 → Int32 → Int32 → Option (zSt)} (hk158 : ∀ (y0 : zSt) (y1 : Int32) (y2 : Int32) (y3 : Int32) (y4 : Int32) (y5 : Int32) (y6 : Int32), (zQ [3, 5, 7, 9, 11, 12, 15, 17, 19, 21, 23, 25, 27, 28, 29, 30, 32, 34, 36, 42, 44] [] [5, 38, 46, 48] []) σ0 y0 → zpc (k158 y0 y1 y2 y3 y4 y5 y6) (fun r => (zQ [3, 5, 7, 9, 11, 12, 15, 17, 19, 21, 23, 25, 27, 28, 29, 30, 32, 34, 36, 42, 44] [] [5, 38, 46, 48] []) σ0 (r))) {σ : zSt} {x3 : Int32} {x4 : Int32} {x7 : Int32} {x8 : Int32} {x10 : Int32} {x11 : Int32} (h : (zQ [3, 5, 7, 9, 11, 12, 15, 17, 19, 21, 23, 25, 27, 28, 29, 30, 32, 34, 36, 42, 44] [] [5, 38, 46, 48] []) σ0 σ) : zpc (fX3_drawOldSprite_158_body k158 σ x3 x4 x7 x8 x10 x11) (fun r => (zQ [3, 5, 7, 9, 11, 12, 15, 17, 19, 21, 23, 25, 27, 28, 29, 30, 32, 34, 36, 42, 44] [] [5, 38, 46, 48] []) σ0 (r)) := by
  unfold fX3_drawOldSprite_158_body
  exact zpc_if (fun _ => fc_fX3_drawOldSprite_172 hk158 h) (fun _ => fc_fX3_drawOldSprite_172 hk158 h)
theorem fc_fX3_drawOldSprite_158 {σ0 : zSt} : ∀ (n : Nat) (y0 : zSt) (y1 : Int32) (y2 : Int32) (y3 : Int32) (y4 : Int32) (y5 : Int32) (y6 : Int32), (zQ [3, 5, 7, 9, 11, 12, 15, 17, 19, 21, 23, 25, 27, 28, 29, 30, 32, 34, 36, 42, 44] [] [5, 38, 46, 48] []) σ0 y0 → zpc (fX3_drawOldSprite_158 n y0 y1 y2 y3 y4 y5 y6) (fun r => (zQ [3, 5, 7, 9, 11, 12, 15, 17, 19, 21, 23, 25, 27, 28, 29, 30, 32, 34, 36, 42, 44] [] [5, 38, 46, 48] []) σ0 (r)) := by
  intro n
  induction n with
  | zero => intro y0 y1 y2 y3 y4 y5 y6 h; exact zpc_none
  | succ n ih => intro y0 y1 y2 y3 y4 y5 y6 h; exact fc_fX3_drawOldSprite_158_body ih h
theorem fc_fX3_drawOldSprite_152 {σ0 : zSt} {σ : zSt} {x3 : Int32} {x4 : Int32} {x7 : Int32} {x8 : Int32} {s0 : Int32} {s1 : Int32} (h : (zQ [3, 5, 7, 9, 11, 12, 15, 17, 19, 21, 23, 25, 27, 28, 29, 30, 32, 34, 36, 42, 44] [] [5, 38, 46, 48] []) σ0 σ) : zpc (fX3_drawOldSprite_152 σ x3 x4 x7 x8 s0 s1) (fun r => (zQ [3, 5, 7, 9, 11, 12, 15, 17, 19, 21, 23, 25, 27, 28, 29, 30, 32, 34, 36, 42, 44] [] [5, 38, 46, 48] []) σ0 (r)) := by
  unfold fX3_drawOldSprite_152
  exact zpc_bv (fun v4 _ => fc_fX3_drawOldSprite_158 _ _ _ _ _ _ _ _ h)
theorem fc_fX3_drawOldSprite_113 {σ0 : zSt} {σ : zSt} {x2 : Int32} {x3 : Int32} {x4 : Int32} {x7 : Int32} {x8 : Int32} {s0 : Int32} {s1 : Int32} {s2 : Int32} (h : (zQ [3, 5, 7, 9, 11, 12, 15, 17, 19, 21, 23, 25, 27, 28, 29, 30, 32, 34, 36, 42, 44] [] [5, 38, 46, 48] []) σ0 σ) : zpc (fX3_drawOldSprite_113 σ x2 x3 x4 x7 x8 s0 s1 s2) (fun r => (zQ [3, 5, 7, 9, 11, 12, 15, 17, 19, 21, 23, 25, 27, 28, 29, 30, 32, 34, 36, 42, 44] [] [5, 38, 46, 48] []) σ0 (r)) := by
  unfold fX3_drawOldSprite_113
  exact zpc_bv (fun v5 _ => zpc_bi (fc_fX9_vramByte h) (fun σ6 v7 hσ6 => zpc_if (fun _ => fc_fX3_drawOldSprite_152 hσ6) (fun _ => zpc_bi (fc_fX9_vramByte hσ6) (fun σ8 v9 hσ8 => fc_fX3_drawOldSprite_152 hσ8))))
theorem fc_fX3_drawOldSprite_78 {σ0 : zSt} {σ : zSt} {x2 : Int32} {x3 : Int32} {x4 : Int32} {x5 : Int32} {x7 : Int32} {s0 : Int32} (h : (zQ [3, 5, 7, 9, 11, 12, 15, 17, 19, 21, 23, 25, 27, 28, 29, 30, 32, 34, 36, 42, 44] [] [5, 38, 46, 48] []) σ0 σ) : zpc (fX3_drawOldSprite_78 σ x2 x3 x4 x5 x7 s0) (fun r => (zQ [3, 5, 7, 9, 11, 12, 15, 17, 19, 21, 23, 25, 27, 28, 29, 30, 32, 34, 36, 42, 44] [] [5, 38, 46, 48] []) σ0 (r)) := by
  unfold fX3_drawOldSprite_78
  exact zpc_bi (fc_fX9_held h) (fun σ10 v11 hσ10 => zpc_if (fun _ => fc_fX3_drawOldSprite_113 hσ10) (fun _ => fc_fX3_drawOldSprite_113 hσ10))
theorem fc_fX3_drawOldSprite_35 {σ0 : zSt} {σ : zSt} {x1 : Int32} {x2 : Int32} {x3 : Int32} {s0 : Int32} {s1 : Int32} (h : (zQ [3, 5, 7, 9, 11, 12, 15, 17, 19, 21, 23, 25, 27, 28, 29, 30, 32, 34, 36, 42, 44] [] [5, 38, 46, 48] []) σ0 σ) : zpc (fX3_drawOldSprite_35 σ x1 x2 x3 s0 s1) (fun r => (zQ [3, 5, 7, 9, 11, 12, 15, 17, 19, 21, 23, 25, 27, 28, 29, 30, 32, 34, 36, 42, 44] [] [5, 38, 46, 48] []) σ0 (r)) := by
  unfold fX3_drawOldSprite_35
  exact zpc_bv (fun v12 _ => zpc_bi (fc_fX9_vramByte h) (fun σ13 v14 hσ13 => zpc_bi (fc_fX9_held hσ13) (fun σ15 v16 hσ15 => zpc_bv (fun v17 _ => zpc_if (fun _ => fc_fX3_drawOldSprite_78 hσ15) (fun _ => fc_fX3_drawOldSprite_78 hσ15)))))
theorem fc_fX3_drawOldSprite {σ0 : zSt} {σ : zSt} {x1 : Int32} {x2 : Int32} (h : (zQ [3, 5, 7, 9, 11, 12, 15, 17, 19, 21, 23, 25, 27, 28, 29, 30, 32, 34, 36, 42, 44] [] [5, 38, 46, 48] []) σ0 σ) : zpc (fX3_drawOldSprite σ x1 x2) (fun r => (zQ [3, 5, 7, 9, 11, 12, 15, 17, 19, 21, 23, 25, 27, 28, 29, 30, 32, 34, 36, 42, 44] [] [5, 38, 46, 48] []) σ0 (r)) := by
  unfold fX3_drawOldSprite
  exact zpc_bi (fc_fX9_vramByte h) (fun σ18 v19 hσ18 => zpc_bi (fc_fX9_vramByte hσ18) (fun σ20 v21 hσ20 => zpc_if (fun _ => fc_fX3_drawOldSprite_35 hσ20) (fun _ => fc_fX3_drawOldSprite_35 hσ20)))
theorem fc_fX3_drawOldSprites_155 {σ0 : zSt} {k117 : zSt → Int32 → Option (zSt)} (hk117 : ∀ (y0 : zSt) (y1 : Int32), (zQ [3, 5, 7, 9, 11, 12, 15, 17, 19, 21, 23, 25, 27, 28, 29, 30, 32, 34, 36, 42, 44] [] [5, 38, 46, 48] []) σ0 y0 → zpc (k117 y0 y1) (fun r => (zQ [3, 5, 7, 9, 11, 12, 15, 17, 19, 21, 23, 25, 27, 28, 29, 30, 32, 34, 36, 42, 44] [] [5, 38, 46, 48] []) σ0 (r))) {σ : zSt} {x4 : Int32} (h : (zQ [3, 5, 7, 9, 11, 12, 15, 17, 19, 21, 23, 25, 27, 28, 29, 30, 32, 34, 36, 42, 44] [] [5, 38, 46, 48] []) σ0 σ) : zpc (fX3_drawOldSprites_155 k117 σ x4) (fun r => (zQ [3, 5, 7, 9, 11, 12, 15, 17, 19, 21, 23, 25, 27, 28, 29, 30, 32, 34, 36, 42, 44] [] [5, 38, 46, 48] []) σ0 (r)) := by
  unfold fX3_drawOldSprites_155
  exact zpc_bv (fun v1 _ => hk117 _ _ h)
theorem fc_fX3_drawOldSprites_117_body {σ0 : zSt} {k117 : zSt → Int32 → Option (zSt)} (hk117 : ∀ (y0 : zSt) (y1 : Int32), (zQ [3, 5, 7, 9, 11, 12, 15, 17, 19, 21, 23, 25, 27, 28, 29, 30, 32, 34, 36, 42, 44] [] [5, 38, 46, 48] []) σ0 y0 → zpc (k117 y0 y1) (fun r => (zQ [3, 5, 7, 9, 11, 12, 15, 17, 19, 21, 23, 25, 27, 28, 29, 30, 32, 34, 36, 42, 44] [] [5, 38, 46, 48] []) σ0 (r))) {σ : zSt} {x4 : Int32} (h : (zQ [3, 5, 7, 9, 11, 12, 15, 17, 19, 21, 23, 25, 27, 28, 29, 30, 32, 34, 36, 42, 44] [] [5, 38, 46, 48] []) σ0 σ) : zpc (fX3_drawOldSprites_117_body k117 σ x4) (fun r => (zQ [3, 5, 7, 9, 11, 12, 15, 17, 19, 21, 23, 25, 27, 28, 29, 30, 32, 34, 36, 42, 44] [] [5, 38, 46, 48] []) σ0 (r)) := by
  unfold fX3_drawOldSprites_117_body
  exact zpc_if (fun _ => zpc_some h) (fun _ => zpc_ck (zpc_if (fun _ => fc_fX3_drawOldSprites_155 hk117 h) (fun _ => zpc_ck (zpc_ck (zpc_bs (zQ.wi h rfl) (fun σ2 hσ2 => fc_fX3_drawOldSprites_155 hk117 hσ2))))))
theorem fc_fX3_drawOldSprites_117 {σ0 : zSt} : ∀ (n : Nat) (y0 : zSt) (y1 : Int32), (zQ [3, 5, 7, 9, 11, 12, 15, 17, 19, 21, 23, 25, 27, 28, 29, 30, 32, 34, 36, 42, 44] [] [5, 38, 46, 48] []) σ0 y0 → zpc (fX3_drawOldSprites_117 n y0 y1) (fun r => (zQ [3, 5, 7, 9, 11, 12, 15, 17, 19, 21, 23, 25, 27, 28, 29, 30, 32, 34, 36, 42, 44] [] [5, 38, 46, 48] []) σ0 (r)) := by
  intro n
  induction n with
  | zero => intro y0 y1 h; exact zpc_none
  | succ n ih => intro y0 y1 h; exact fc_fX3_drawOldSprites_117_body ih h
theorem fc_fX3_drawOldSprites_114 {σ0 : zSt} {σ : zSt} (h : (zQ [3, 5, 7, 9, 11, 12, 15, 17, 19, 21, 23, 25, 27, 28, 29, 30, 32, 34, 36, 42, 44] [] [5, 38, 46, 48] []) σ0 σ) : zpc (fX3_drawOldSprites_114 σ) (fun r => (zQ [3, 5, 7, 9, 11, 12, 15, 17, 19, 21, 23, 25, 27, 28, 29, 30, 32, 34, 36, 42, 44] [] [5, 38, 46, 48] []) σ0 (r)) := by
  unfold fX3_drawOldSprites_114
  exact fc_fX3_drawOldSprites_117 _ _ _ h
theorem fc_fX3_drawOldSprites_108 {σ0 : zSt} {k29 : zSt → Int32 → Int32 → Int32 → Int32 → Option (zSt)} (hk29 : ∀ (y0 : zSt) (y1 : Int32) (y2 : Int32) (y3 : Int32) (y4 : Int32), (zQ [3, 5, 7, 9, 11, 12, 15, 17, 19, 21, 23, 25, 27, 28, 29, 30, 32, 34, 36, 42, 44] [] [5, 38, 46, 48] []) σ0 y0 → zpc (k29 y0 y1 y2 y3 y4) (fun r => (zQ [3, 5, 7, 9, 11, 12, 15, 17, 19, 21, 23, 25, 27, 28, 29, 30, 32, 34, 36, 42, 44] [] [5, 38, 46, 48] []) σ0 (r))) {σ : zSt} {x1 : Int32} {x2 : Int32} {x3 : Int32} {x4 : Int32} (h : (zQ [3, 5, 7, 9, 11, 12, 15, 17, 19, 21, 23, 25, 27, 28, 29, 30, 32, 34, 36, 42, 44] [] [5, 38, 46, 48] []) σ0 σ) : zpc (fX3_drawOldSprites_108 k29 σ x1 x2 x3 x4) (fun r => (zQ [3, 5, 7, 9, 11, 12, 15, 17, 19, 21, 23, 25, 27, 28, 29, 30, 32, 34, 36, 42, 44] [] [5, 38, 46, 48] []) σ0 (r)) := by
  unfold fX3_drawOldSprites_108
  exact zpc_bv (fun v3 _ => hk29 _ _ _ _ _ h)
theorem fc_fX3_drawOldSprites_29_body {σ0 : zSt} {k29 : zSt → Int32 → Int32 → Int32 → Int32 → Option (zSt)} (hk29 : ∀ (y0 : zSt) (y1 : Int32) (y2 : Int32) (y3 : Int32) (y4 : Int32), (zQ [3, 5, 7, 9, 11, 12, 15, 17, 19, 21, 23, 25, 27, 28, 29, 30, 32, 34, 36, 42, 44] [] [5, 38, 46, 48] []) σ0 y0 → zpc (k29 y0 y1 y2 y3 y4) (fun r => (zQ [3, 5, 7, 9, 11, 12, 15, 17, 19, 21, 23, 25, 27, 28, 29, 30, 32, 34, 36, 42, 44] [] [5, 38, 46, 48] []) σ0 (r))) {σ : zSt} {x1 : Int32} {x2 : Int32} {x3 : Int32} {x4 : Int32} (h : (zQ [3, 5, 7, 9, 11, 12, 15, 17, 19, 21, 23, 25, 27, 28, 29, 30, 32, 34, 36, 42, 44] [] [5, 38, 46, 48] []) σ0 σ) : zpc (fX3_drawOldSprites_29_body k29 σ x1 x2 x3 x4) (fun r => (zQ [3, 5, 7, 9, 11, 12, 15, 17, 19, 21, 23, 25, 27, 28, 29, 30, 32, 34, 36, 42, 44] [] [5, 38, 46, 48] []) σ0 (r)) := by
  unfold fX3_drawOldSprites_29_body
  exact zpc_if (fun _ => fc_fX3_drawOldSprites_114 h) (fun _ => zpc_bv (fun v4 _ => zpc_bi (fc_fX9_vramByte h) (fun σ5 v6 hσ5 => zpc_if (fun _ => fc_fX3_drawOldSprites_114 hσ5) (fun _ => zpc_bi (fc_fX3_rowOfSprite hσ5) (fun σ7 v8 hσ7 => zpc_if (fun _ => fc_fX3_drawOldSprites_108 hk29 hσ7) (fun _ => zpc_bv (fun v9 _ => zpc_if (fun _ => zpc_bu (fc_fX3_drawOldSprite hσ7) (fun σ10 hσ10 => fc_fX3_drawOldSprites_108 hk29 hσ10)) (fun _ => zpc_bu (fc_fX9_markFifth hσ7) (fun σ11 hσ11 => fc_fX3_drawOldSprites_114 hσ11)))))))))
theorem fc_fX3_drawOldSprites_29 {σ0 : zSt} : ∀ (n : Nat) (y0 : zSt) (y1 : Int32) (y2 : Int32) (y3 : Int32) (y4 : Int32), (zQ [3, 5, 7, 9, 11, 12, 15, 17, 19, 21, 23, 25, 27, 28, 29, 30, 32, 34, 36, 42, 44] [] [5, 38, 46, 48] []) σ0 y0 → zpc (fX3_drawOldSprites_29 n y0 y1 y2 y3 y4) (fun r => (zQ [3, 5, 7, 9, 11, 12, 15, 17, 19, 21, 23, 25, 27, 28, 29, 30, 32, 34, 36, 42, 44] [] [5, 38, 46, 48] []) σ0 (r)) := by
  intro n
  induction n with
  | zero => intro y0 y1 y2 y3 y4 h; exact zpc_none
  | succ n ih => intro y0 y1 y2 y3 y4 h; exact fc_fX3_drawOldSprites_29_body ih h
theorem fc_fX3_drawOldSprites {σ0 : zSt} {σ : zSt} {x1 : Int32} (h : (zQ [3, 5, 7, 9, 11, 12, 15, 17, 19, 21, 23, 25, 27, 28, 29, 30, 32, 34, 36, 42, 44] [] [5, 38, 46, 48] []) σ0 σ) : zpc (fX3_drawOldSprites σ x1) (fun r => (zQ [3, 5, 7, 9, 11, 12, 15, 17, 19, 21, 23, 25, 27, 28, 29, 30, 32, 34, 36, 42, 44] [] [5, 38, 46, 48] []) σ0 (r)) := by
  unfold fX3_drawOldSprites
  exact zpc_bu (fc_fJ7_fill_53178_k28 h) (fun σ12 hσ12 => zpc_bi (fc_fX9_held hσ12) (fun σ13 v14 hσ13 => zpc_bv (fun v15 _ => fc_fX3_drawOldSprites_29 _ _ _ _ _ _ hσ13)))
theorem fc_fX3_fillBack_25 {σ0 : zSt} {k2 : zSt → Int32 → Int32 → Option (zSt)} (hk2 : ∀ (y0 : zSt) (y1 : Int32) (y2 : Int32), (zQ [3, 5, 7, 9, 11, 12, 15, 17, 19, 21, 23, 25, 27, 28, 29, 30, 32, 34, 36, 42, 44] [] [5, 38, 46, 48] []) σ0 y0 → zpc (k2 y0 y1 y2) (fun r => (zQ [3, 5, 7, 9, 11, 12, 15, 17, 19, 21, 23, 25, 27, 28, 29, 30, 32, 34, 36, 42, 44] [] [5, 38, 46, 48] []) σ0 (r))) {σ : zSt} {x1 : Int32} {x2 : Int32} (h : (zQ [3, 5, 7, 9, 11, 12, 15, 17, 19, 21, 23, 25, 27, 28, 29, 30, 32, 34, 36, 42, 44] [] [5, 38, 46, 48] []) σ0 σ) : zpc (fX3_fillBack_25 k2 σ x1 x2) (fun r => (zQ [3, 5, 7, 9, 11, 12, 15, 17, 19, 21, 23, 25, 27, 28, 29, 30, 32, 34, 36, 42, 44] [] [5, 38, 46, 48] []) σ0 (r)) := by
  unfold fX3_fillBack_25
  exact zpc_bv (fun v1 _ => hk2 _ _ _ h)
theorem fc_fX3_fillBack_2_body {σ0 : zSt} {k2 : zSt → Int32 → Int32 → Option (zSt)} (hk2 : ∀ (y0 : zSt) (y1 : Int32) (y2 : Int32), (zQ [3, 5, 7, 9, 11, 12, 15, 17, 19, 21, 23, 25, 27, 28, 29, 30, 32, 34, 36, 42, 44] [] [5, 38, 46, 48] []) σ0 y0 → zpc (k2 y0 y1 y2) (fun r => (zQ [3, 5, 7, 9, 11, 12, 15, 17, 19, 21, 23, 25, 27, 28, 29, 30, 32, 34, 36, 42, 44] [] [5, 38, 46, 48] []) σ0 (r))) {σ : zSt} {x1 : Int32} {x2 : Int32} (h : (zQ [3, 5, 7, 9, 11, 12, 15, 17, 19, 21, 23, 25, 27, 28, 29, 30, 32, 34, 36, 42, 44] [] [5, 38, 46, 48] []) σ0 σ) : zpc (fX3_fillBack_2_body k2 σ x1 x2) (fun r => (zQ [3, 5, 7, 9, 11, 12, 15, 17, 19, 21, 23, 25, 27, 28, 29, 30, 32, 34, 36, 42, 44] [] [5, 38, 46, 48] []) σ0 (r)) := by
  unfold fX3_fillBack_2_body
  exact zpc_if (fun _ => zpc_some h) (fun _ => zpc_ck (zpc_if (fun _ => zpc_ck (zpc_bs (zQ.wi h rfl) (fun σ2 hσ2 => fc_fX3_fillBack_25 hk2 hσ2))) (fun _ => fc_fX3_fillBack_25 hk2 h)))
theorem fc_fX3_fillBack_2 {σ0 : zSt} : ∀ (n : Nat) (y0 : zSt) (y1 : Int32) (y2 : Int32), (zQ [3, 5, 7, 9, 11, 12, 15, 17, 19, 21, 23, 25, 27, 28, 29, 30, 32, 34, 36, 42, 44] [] [5, 38, 46, 48] []) σ0 y0 → zpc (fX3_fillBack_2 n y0 y1 y2) (fun r => (zQ [3, 5, 7, 9, 11, 12, 15, 17, 19, 21, 23, 25, 27, 28, 29, 30, 32, 34, 36, 42, 44] [] [5, 38, 46, 48] []) σ0 (r)) := by
  intro n
  induction n with
  | zero => intro y0 y1 y2 h; exact zpc_none
  | succ n ih => intro y0 y1 y2 h; exact fc_fX3_fillBack_2_body ih h
theorem fc_fX3_fillBack {σ0 : zSt} {σ : zSt} {x1 : Int32} (h : (zQ [3, 5, 7, 9, 11, 12, 15, 17, 19, 21, 23, 25, 27, 28, 29, 30, 32, 34, 36, 42, 44] [] [5, 38, 46, 48] []) σ0 σ) : zpc (fX3_fillBack σ x1) (fun r => (zQ [3, 5, 7, 9, 11, 12, 15, 17, 19, 21, 23, 25, 27, 28, 29, 30, 32, 34, 36, 42, 44] [] [5, 38, 46, 48] []) σ0 (r)) := by
  unfold fX3_fillBack
  exact fc_fX3_fillBack_2 _ _ _ _ h
theorem fc_fX3_draw_21 {σ0 : zSt} {σ : zSt} (h : (zQ [3, 5, 7, 9, 11, 12, 15, 17, 19, 21, 23, 25, 27, 28, 29, 30, 32, 34, 36, 42, 44] [] [5, 38, 46, 48] []) σ0 σ) : zpc (fX3_draw_21 σ) (fun r => (zQ [3, 5, 7, 9, 11, 12, 15, 17, 19, 21, 23, 25, 27, 28, 29, 30, 32, 34, 36, 42, 44] [] [5, 38, 46, 48] []) σ0 (r)) := by
  unfold fX3_draw_21
  exact zpc_some h
theorem fc_fX3_draw_152_body {σ0 : zSt} {k152 : zSt → Int32 → Int32 → Option (zSt)} (hk152 : ∀ (y0 : zSt) (y1 : Int32) (y2 : Int32), (zQ [3, 5, 7, 9, 11, 12, 15, 17, 19, 21, 23, 25, 27, 28, 29, 30, 32, 34, 36, 42, 44] [] [5, 38, 46, 48] []) σ0 y0 → zpc (k152 y0 y1 y2) (fun r => (zQ [3, 5, 7, 9, 11, 12, 15, 17, 19, 21, 23, 25, 27, 28, 29, 30, 32, 34, 36, 42, 44] [] [5, 38, 46, 48] []) σ0 (r))) {σ : zSt} {x1 : Int32} {x4 : Int32} (h : (zQ [3, 5, 7, 9, 11, 12, 15, 17, 19, 21, 23, 25, 27, 28, 29, 30, 32, 34, 36, 42, 44] [] [5, 38, 46, 48] []) σ0 σ) : zpc (fX3_draw_152_body k152 σ x1 x4) (fun r => (zQ [3, 5, 7, 9, 11, 12, 15, 17, 19, 21, 23, 25, 27, 28, 29, 30, 32, 34, 36, 42, 44] [] [5, 38, 46, 48] []) σ0 (r)) := by
  unfold fX3_draw_152_body
  exact zpc_if (fun _ => zpc_some h) (fun _ => zpc_ck (zpc_ck (zpc_ck (zpc_bs (zQ.wi h rfl) (fun σ1 hσ1 => zpc_bv (fun v2 _ => hk152 _ _ _ hσ1))))))
theorem fc_fX3_draw_152 {σ0 : zSt} : ∀ (n : Nat) (y0 : zSt) (y1 : Int32) (y2 : Int32), (zQ [3, 5, 7, 9, 11, 12, 15, 17, 19, 21, 23, 25, 27, 28, 29, 30, 32, 34, 36, 42, 44] [] [5, 38, 46, 48] []) σ0 y0 → zpc (fX3_draw_152 n y0 y1 y2) (fun r => (zQ [3, 5, 7, 9, 11, 12, 15, 17, 19, 21, 23, 25, 27, 28, 29, 30, 32, 34, 36, 42, 44] [] [5, 38, 46, 48] []) σ0 (r)) := by
  intro n
  induction n with
  | zero => intro y0 y1 y2 h; exact zpc_none
  | succ n ih => intro y0 y1 y2 h; exact fc_fX3_draw_152_body ih h
theorem fc_fX3_draw_144 {σ0 : zSt} {σ : zSt} {x1 : Int32} {x2 : Int32} (h : (zQ [3, 5, 7, 9, 11, 12, 15, 17, 19, 21, 23, 25, 27, 28, 29, 30, 32, 34, 36, 42, 44] [] [5, 38, 46, 48] []) σ0 σ) : zpc (fX3_draw_144 σ x1 x2) (fun r => (zQ [3, 5, 7, 9, 11, 12, 15, 17, 19, 21, 23, 25, 27, 28, 29, 30, 32, 34, 36, 42, 44] [] [5, 38, 46, 48] []) σ0 (r)) := by
  unfold fX3_draw_144
  exact zpc_bu (fc_fX3_mixColours h) (fun σ3 hσ3 => fc_fX3_draw_152 _ _ _ _ hσ3)
theorem fc_fX3_draw_139 {σ0 : zSt} {σ : zSt} {x1 : Int32} {x2 : Int32} {x3 : Int32} (h : (zQ [3, 5, 7, 9, 11, 12, 15, 17, 19, 21, 23, 25, 27, 28, 29, 30, 32, 34, 36, 42, 44] [] [5, 38, 46, 48] []) σ0 σ) : zpc (fX3_draw_139 σ x1 x2 x3) (fun r => (zQ [3, 5, 7, 9, 11, 12, 15, 17, 19, 21, 23, 25, 27, 28, 29, 30, 32, 34, 36, 42, 44] [] [5, 38, 46, 48] []) σ0 (r)) := by
  unfold fX3_draw_139
  exact zpc_bu (fc_fX3_fillBack h) (fun σ4 hσ4 => fc_fX3_draw_144 hσ4)
theorem fc_fX3_draw_41 {σ0 : zSt} {σ : zSt} {x1 : Int32} {x2 : Int32} {s0 : Int32} (h : (zQ [3, 5, 7, 9, 11, 12, 15, 17, 19, 21, 23, 25, 27, 28, 29, 30, 32, 34, 36, 42, 44] [] [5, 38, 46, 48] []) σ0 σ) : zpc (fX3_draw_41 σ x1 x2 s0) (fun r => (zQ [3, 5, 7, 9, 11, 12, 15, 17, 19, 21, 23, 25, 27, 28, 29, 30, 32, 34, 36, 42, 44] [] [5, 38, 46, 48] []) σ0 (r)) := by
  unfold fX3_draw_41
  exact zpc_bi (fc_fX9_held h) (fun σ5 v6 hσ5 => zpc_bv (fun v7 _ => zpc_bi (fc_fX9_held hσ5) (fun σ8 v9 hσ8 => zpc_if (fun _ => zpc_bu (fc_fJ7_fill_53178_k27 hσ8) (fun σ17 hσ17 => fc_fX3_draw_144 hσ17)) (fun _ => zpc_if (fun _ => zpc_bu (fc_fX3_drawTiles hσ8) (fun σ12 hσ12 => zpc_bu (fc_fX3_drawSprites hσ12) (fun σ13 hσ13 => zpc_bi (fc_fX9_held hσ13) (fun σ14 v15 hσ14 => zpc_if (fun _ => fc_fX3_draw_144 hσ14) (fun _ => zpc_bu (fc_fJ7_fill_fda19_k27 hσ14) (fun σ16 hσ16 => fc_fX3_draw_144 hσ16)))))) (fun _ => zpc_bu (fc_fX3_drawOld hσ8) (fun σ10 hσ10 => zpc_if (fun _ => fc_fX3_draw_139 hσ10) (fun _ => zpc_bu (fc_fX3_drawOldSprites hσ10) (fun σ11 hσ11 => fc_fX3_draw_139 hσ11))))))))
theorem fc_fX3_draw {σ0 : zSt} {σ : zSt} (h : (zQ [3, 5, 7, 9, 11, 12, 15, 17, 19, 21, 23, 25, 27, 28, 29, 30, 32, 34, 36, 42, 44] [] [5, 38, 46, 48] []) σ0 σ) : zpc (fX3_draw σ) (fun r => (zQ [3, 5, 7, 9, 11, 12, 15, 17, 19, 21, 23, 25, 27, 28, 29, 30, 32, 34, 36, 42, 44] [] [5, 38, 46, 48] []) σ0 (r)) := by
  unfold fX3_draw
  exact zpc_bi (fc_fX9_held h) (fun σ18 v19 hσ18 => zpc_if (fun _ => fc_fX3_draw_21 hσ18) (fun _ => zpc_if (fun _ => zpc_bi (fc_fX9_mode hσ18) (fun σ20 v21 hσ20 => zpc_if (fun _ => fc_fX3_draw_41 hσ20) (fun _ => fc_fX3_draw_41 hσ20))) (fun _ => fc_fX3_draw_21 hσ18)))
theorem fc_fX4_lines_52 {σ0 : zSt} {σ : zSt} {x2 : Int32} {s0 : Int32} (h : (zQ [3, 5, 7, 9, 11, 12, 15, 17, 19, 21, 23, 25, 27, 28, 29, 30, 32, 34, 36, 42, 44] [] [5, 38, 46, 48] []) σ0 σ) : zpc (fX4_lines_52 σ x2 s0) (fun r => (zQ [3, 5, 7, 9, 11, 12, 15, 17, 19, 21, 23, 25, 27, 28, 29, 30, 32, 34, 36, 42, 44] [] [5, 38, 46, 48] []) σ0 (r.1)) := by
  unfold fX4_lines_52
  exact zpc_some h
theorem fc_fX4_lines_28 {σ0 : zSt} {σ : zSt} {x1 : Int32} {s0 : Int32} (h : (zQ [3, 5, 7, 9, 11, 12, 15, 17, 19, 21, 23, 25, 27, 28, 29, 30, 32, 34, 36, 42, 44] [] [5, 38, 46, 48] []) σ0 σ) : zpc (fX4_lines_28 σ x1 s0) (fun r => (zQ [3, 5, 7, 9, 11, 12, 15, 17, 19, 21, 23, 25, 27, 28, 29, 30, 32, 34, 36, 42, 44] [] [5, 38, 46, 48] []) σ0 (r.1)) := by
  unfold fX4_lines_28
  exact zpc_if (fun _ => fc_fX4_lines_52 h) (fun _ => zpc_ck (fc_fX4_lines_52 h))
theorem fc_fX4_lines {σ0 : zSt} {σ : zSt} (h : (zQ [3, 5, 7, 9, 11, 12, 15, 17, 19, 21, 23, 25, 27, 28, 29, 30, 32, 34, 36, 42, 44] [] [5, 38, 46, 48] []) σ0 σ) : zpc (fX4_lines σ) (fun r => (zQ [3, 5, 7, 9, 11, 12, 15, 17, 19, 21, 23, 25, 27, 28, 29, 30, 32, 34, 36, 42, 44] [] [5, 38, 46, 48] []) σ0 (r.1)) := by
  unfold fX4_lines
  exact zpc_ck (zpc_bv (fun v1 _ => zpc_if (fun _ => fc_fX4_lines_28 h) (fun _ => zpc_ck (fc_fX4_lines_28 h))))
theorem fc_fX9_hCount_27 {σ0 : zSt} {σ : zSt} {s0 : Int32} (h : (zQ [3, 5, 7, 9, 11, 12, 15, 17, 19, 21, 23, 25, 27, 28, 29, 30, 32, 34, 36, 42, 44] [] [5, 38, 46, 48] []) σ0 σ) : zpc (fX9_hCount_27 σ s0) (fun r => (zQ [3, 5, 7, 9, 11, 12, 15, 17, 19, 21, 23, 25, 27, 28, 29, 30, 32, 34, 36, 42, 44] [] [5, 38, 46, 48] []) σ0 (r.1)) := by
  unfold fX9_hCount_27
  exact zpc_some h
theorem fc_fX9_hCount {σ0 : zSt} {σ : zSt} (h : (zQ [3, 5, 7, 9, 11, 12, 15, 17, 19, 21, 23, 25, 27, 28, 29, 30, 32, 34, 36, 42, 44] [] [5, 38, 46, 48] []) σ0 σ) : zpc (fX9_hCount σ) (fun r => (zQ [3, 5, 7, 9, 11, 12, 15, 17, 19, 21, 23, 25, 27, 28, 29, 30, 32, 34, 36, 42, 44] [] [5, 38, 46, 48] []) σ0 (r.1)) := by
  unfold fX9_hCount
  exact zpc_ck (zpc_ck (zpc_bv (fun v1 _ => zpc_if (fun _ => fc_fX9_hCount_27 h) (fun _ => fc_fX9_hCount_27 h))))
theorem fc_fX4_changeLines_37 {σ0 : zSt} {σ : zSt} (h : (zQ [3, 5, 7, 9, 11, 12, 15, 17, 19, 21, 23, 25, 27, 28, 29, 30, 32, 34, 36, 42, 44] [] [5, 38, 46, 48] []) σ0 σ) : zpc (fX4_changeLines_37 σ) (fun r => (zQ [3, 5, 7, 9, 11, 12, 15, 17, 19, 21, 23, 25, 27, 28, 29, 30, 32, 34, 36, 42, 44] [] [5, 38, 46, 48] []) σ0 (r)) := by
  unfold fX4_changeLines_37
  exact zpc_some h
theorem fc_fX4_changeLines {σ0 : zSt} {σ : zSt} {x1 : Int32} {x2 : Int32} (h : (zQ [3, 5, 7, 9, 11, 12, 15, 17, 19, 21, 23, 25, 27, 28, 29, 30, 32, 34, 36, 42, 44] [] [5, 38, 46, 48] []) σ0 σ) : zpc (fX4_changeLines σ x1 x2) (fun r => (zQ [3, 5, 7, 9, 11, 12, 15, 17, 19, 21, 23, 25, 27, 28, 29, 30, 32, 34, 36, 42, 44] [] [5, 38, 46, 48] []) σ0 (r)) := by
  unfold fX4_changeLines
  exact zpc_bi (fc_fX4_lines h) (fun σ1 v2 hσ1 => zpc_ck (zpc_bs (zQ.wi hσ1 rfl) (fun σ3 hσ3 => zpc_bi (fc_fX4_lines hσ3) (fun σ4 v5 hσ4 => zpc_if (fun _ => fc_fX4_changeLines_37 hσ4) (fun _ => zpc_bi (fc_fX9_hCount hσ4) (fun σ6 v7 hσ6 => zpc_ck (zpc_bs (zQ.wi hσ6 rfl) (fun σ8 hσ8 => fc_fX4_changeLines_37 hσ8))))))))
theorem fc_fX10_value_11 {σ0 : zSt} {σ : zSt} (h : (zQ [3, 5, 7, 9, 11, 12, 15, 17, 19, 21, 23, 25, 27, 28, 29, 30, 32, 34, 36, 42, 44] [] [5, 38, 46, 48] []) σ0 σ) : zpc (fX10_value_11 σ) (fun r => (zQ [3, 5, 7, 9, 11, 12, 15, 17, 19, 21, 23, 25, 27, 28, 29, 30, 32, 34, 36, 42, 44] [] [5, 38, 46, 48] []) σ0 (r.1)) := by
  unfold fX10_value_11
  exact zpc_some h
theorem fc_fX10_value_38 {σ0 : zSt} {σ : zSt} {s0 : Int32} (h : (zQ [3, 5, 7, 9, 11, 12, 15, 17, 19, 21, 23, 25, 27, 28, 29, 30, 32, 34, 36, 42, 44] [] [5, 38, 46, 48] []) σ0 σ) : zpc (fX10_value_38 σ s0) (fun r => (zQ [3, 5, 7, 9, 11, 12, 15, 17, 19, 21, 23, 25, 27, 28, 29, 30, 32, 34, 36, 42, 44] [] [5, 38, 46, 48] []) σ0 (r.1)) := by
  unfold fX10_value_38
  exact zpc_some h
theorem fc_fX10_value {σ0 : zSt} {σ : zSt} {x1 : Int32} (h : (zQ [3, 5, 7, 9, 11, 12, 15, 17, 19, 21, 23, 25, 27, 28, 29, 30, 32, 34, 36, 42, 44] [] [5, 38, 46, 48] []) σ0 σ) : zpc (fX10_value σ x1) (fun r => (zQ [3, 5, 7, 9, 11, 12, 15, 17, 19, 21, 23, 25, 27, 28, 29, 30, 32, 34, 36, 42, 44] [] [5, 38, 46, 48] []) σ0 (r.1)) := by
  unfold fX10_value
  exact zpc_if (fun _ => fc_fX10_value_11 h) (fun _ => zpc_if (fun _ => zpc_if (fun _ => zpc_ck (fc_fX10_value_38 h)) (fun _ => zpc_ck (fc_fX10_value_38 h))) (fun _ => fc_fX10_value_11 h))
theorem fc_fX4_readEvenPads_56 {σ0 : zSt} {σ : zSt} {s0 : Int32} (h : (zQ [3, 5, 7, 9, 11, 12, 15, 17, 19, 21, 23, 25, 27, 28, 29, 30, 32, 34, 36, 42, 44] [] [5, 38, 46, 48] []) σ0 σ) : zpc (fX4_readEvenPads_56 σ s0) (fun r => (zQ [3, 5, 7, 9, 11, 12, 15, 17, 19, 21, 23, 25, 27, 28, 29, 30, 32, 34, 36, 42, 44] [] [5, 38, 46, 48] []) σ0 (r.1)) := by
  unfold fX4_readEvenPads_56
  exact zpc_some h
theorem fc_fX4_readEvenPads {σ0 : zSt} {σ : zSt} (h : (zQ [3, 5, 7, 9, 11, 12, 15, 17, 19, 21, 23, 25, 27, 28, 29, 30, 32, 34, 36, 42, 44] [] [5, 38, 46, 48] []) σ0 σ) : zpc (fX4_readEvenPads σ) (fun r => (zQ [3, 5, 7, 9, 11, 12, 15, 17, 19, 21, 23, 25, 27, 28, 29, 30, 32, 34, 36, 42, 44] [] [5, 38, 46, 48] []) σ0 (r.1)) := by
  unfold fX4_readEvenPads
  exact zpc_ck (zpc_ck (zpc_bv (fun v1 _ => zpc_ck (zpc_if (fun _ => zpc_ck (fc_fX4_readEvenPads_56 h)) (fun _ => fc_fX4_readEvenPads_56 h)))))
theorem fc_fX4_readOddPads_57 {σ0 : zSt} {σ : zSt} {s0 : Int32} (h : (zQ [3, 5, 7, 9, 11, 12, 15, 17, 19, 21, 23, 25, 27, 28, 29, 30, 32, 34, 36, 42, 44] [] [5, 38, 46, 48] []) σ0 σ) : zpc (fX4_readOddPads_57 σ s0) (fun r => (zQ [3, 5, 7, 9, 11, 12, 15, 17, 19, 21, 23, 25, 27, 28, 29, 30, 32, 34, 36, 42, 44] [] [5, 38, 46, 48] []) σ0 (r.1)) := by
  unfold fX4_readOddPads_57
  exact zpc_some h
theorem fc_fX4_readOddPads {σ0 : zSt} {σ : zSt} (h : (zQ [3, 5, 7, 9, 11, 12, 15, 17, 19, 21, 23, 25, 27, 28, 29, 30, 32, 34, 36, 42, 44] [] [5, 38, 46, 48] []) σ0 σ) : zpc (fX4_readOddPads σ) (fun r => (zQ [3, 5, 7, 9, 11, 12, 15, 17, 19, 21, 23, 25, 27, 28, 29, 30, 32, 34, 36, 42, 44] [] [5, 38, 46, 48] []) σ0 (r.1)) := by
  unfold fX4_readOddPads
  exact zpc_ck (zpc_bi (fc_fX4_lines h) (fun σ1 v2 hσ1 => zpc_bv (fun v3 _ => zpc_ck (zpc_if (fun _ => zpc_ck (fc_fX4_readOddPads_57 hσ1)) (fun _ => fc_fX4_readOddPads_57 hσ1)))))
theorem fc_fX9_readAhead {σ0 : zSt} {σ : zSt} (h : (zQ [3, 5, 7, 9, 11, 12, 15, 17, 19, 21, 23, 25, 27, 28, 29, 30, 32, 34, 36, 42, 44] [] [5, 38, 46, 48] []) σ0 σ) : zpc (fX9_readAhead σ) (fun r => (zQ [3, 5, 7, 9, 11, 12, 15, 17, 19, 21, 23, 25, 27, 28, 29, 30, 32, 34, 36, 42, 44] [] [5, 38, 46, 48] []) σ0 (r)) := by
  unfold fX9_readAhead
  exact zpc_ck (zpc_ck (zpc_ck (zpc_bs (zQ.wi h rfl) (fun σ1 hσ1 => zpc_ck (zpc_ck (zpc_bs (zQ.wi hσ1 rfl) (fun σ2 hσ2 => zpc_some hσ2)))))))
theorem fc_fX9_readData {σ0 : zSt} {σ : zSt} (h : (zQ [3, 5, 7, 9, 11, 12, 15, 17, 19, 21, 23, 25, 27, 28, 29, 30, 32, 34, 36, 42, 44] [] [5, 38, 46, 48] []) σ0 σ) : zpc (fX9_readData σ) (fun r => (zQ [3, 5, 7, 9, 11, 12, 15, 17, 19, 21, 23, 25, 27, 28, 29, 30, 32, 34, 36, 42, 44] [] [5, 38, 46, 48] []) σ0 (r.1)) := by
  unfold fX9_readData
  exact zpc_ck (zpc_bv (fun v1 _ => zpc_ck (zpc_bs (zQ.wi h rfl) (fun σ2 hσ2 => zpc_bu (fc_fX9_readAhead hσ2) (fun σ3 hσ3 => zpc_some hσ3)))))
theorem fc_fX9_readStatus {σ0 : zSt} {σ : zSt} (h : (zQ [3, 5, 7, 9, 11, 12, 15, 17, 19, 21, 23, 25, 27, 28, 29, 30, 32, 34, 36, 42, 44] [] [5, 38, 46, 48] []) σ0 σ) : zpc (fX9_readStatus σ) (fun r => (zQ [3, 5, 7, 9, 11, 12, 15, 17, 19, 21, 23, 25, 27, 28, 29, 30, 32, 34, 36, 42, 44] [] [5, 38, 46, 48] []) σ0 (r.1)) := by
  unfold fX9_readStatus
  exact zpc_ck (zpc_bv (fun v1 _ => zpc_ck (zpc_bs (zQ.wi h rfl) (fun σ2 hσ2 => zpc_ck (zpc_bs (zQ.wi hσ2 rfl) (fun σ3 hσ3 => zpc_ck (zpc_bs (zQ.wi hσ3 rfl) (fun σ4 hσ4 => zpc_some hσ4))))))))
theorem fc_fX9_vCount_137 {σ0 : zSt} {σ : zSt} {s0 : Int32} (h : (zQ [3, 5, 7, 9, 11, 12, 15, 17, 19, 21, 23, 25, 27, 28, 29, 30, 32, 34, 36, 42, 44] [] [5, 38, 46, 48] []) σ0 σ) : zpc (fX9_vCount_137 σ s0) (fun r => (zQ [3, 5, 7, 9, 11, 12, 15, 17, 19, 21, 23, 25, 27, 28, 29, 30, 32, 34, 36, 42, 44] [] [5, 38, 46, 48] []) σ0 (r.1)) := by
  unfold fX9_vCount_137
  exact zpc_some h
theorem fc_fX9_vCount_136 {σ0 : zSt} {σ : zSt} {s0 : Int32} {s1 : Int32} (h : (zQ [3, 5, 7, 9, 11, 12, 15, 17, 19, 21, 23, 25, 27, 28, 29, 30, 32, 34, 36, 42, 44] [] [5, 38, 46, 48] []) σ0 σ) : zpc (fX9_vCount_136 σ s0 s1) (fun r => (zQ [3, 5, 7, 9, 11, 12, 15, 17, 19, 21, 23, 25, 27, 28, 29, 30, 32, 34, 36, 42, 44] [] [5, 38, 46, 48] []) σ0 (r.1)) := by
  unfold fX9_vCount_136
  exact fc_fX9_vCount_137 h
theorem fc_fX9_vCount_97 {σ0 : zSt} {σ : zSt} {x2 : Int32} {x3 : Int32} (h : (zQ [3, 5, 7, 9, 11, 12, 15, 17, 19, 21, 23, 25, 27, 28, 29, 30, 32, 34, 36, 42, 44] [] [5, 38, 46, 48] []) σ0 σ) : zpc (fX9_vCount_97 σ x2 x3) (fun r => (zQ [3, 5, 7, 9, 11, 12, 15, 17, 19, 21, 23, 25, 27, 28, 29, 30, 32, 34, 36, 42, 44] [] [5, 38, 46, 48] []) σ0 (r.1)) := by
  unfold fX9_vCount_97
  exact zpc_ck (zpc_if (fun _ => zpc_ck (zpc_if (fun _ => fc_fX9_vCount_136 h) (fun _ => fc_fX9_vCount_136 h))) (fun _ => zpc_ck (fc_fX9_vCount_137 h)))
theorem fc_fX9_vCount_96 {σ0 : zSt} {σ : zSt} {x2 : Int32} {s0 : Int32} (h : (zQ [3, 5, 7, 9, 11, 12, 15, 17, 19, 21, 23, 25, 27, 28, 29, 30, 32, 34, 36, 42, 44] [] [5, 38, 46, 48] []) σ0 σ) : zpc (fX9_vCount_96 σ x2 s0) (fun r => (zQ [3, 5, 7, 9, 11, 12, 15, 17, 19, 21, 23, 25, 27, 28, 29, 30, 32, 34, 36, 42, 44] [] [5, 38, 46, 48] []) σ0 (r.1)) := by
  unfold fX9_vCount_96
  exact fc_fX9_vCount_97 h
theorem fc_fX9_vCount_78 {σ0 : zSt} {σ : zSt} {x2 : Int32} {s0 : Int32} (h : (zQ [3, 5, 7, 9, 11, 12, 15, 17, 19, 21, 23, 25, 27, 28, 29, 30, 32, 34, 36, 42, 44] [] [5, 38, 46, 48] []) σ0 σ) : zpc (fX9_vCount_78 σ x2 s0) (fun r => (zQ [3, 5, 7, 9, 11, 12, 15, 17, 19, 21, 23, 25, 27, 28, 29, 30, 32, 34, 36, 42, 44] [] [5, 38, 46, 48] []) σ0 (r.1)) := by
  unfold fX9_vCount_78
  exact fc_fX9_vCount_97 h
theorem fc_fX9_vCount_61 {σ0 : zSt} {σ : zSt} {x2 : Int32} {s0 : Int32} (h : (zQ [3, 5, 7, 9, 11, 12, 15, 17, 19, 21, 23, 25, 27, 28, 29, 30, 32, 34, 36, 42, 44] [] [5, 38, 46, 48] []) σ0 σ) : zpc (fX9_vCount_61 σ x2 s0) (fun r => (zQ [3, 5, 7, 9, 11, 12, 15, 17, 19, 21, 23, 25, 27, 28, 29, 30, 32, 34, 36, 42, 44] [] [5, 38, 46, 48] []) σ0 (r.1)) := by
  unfold fX9_vCount_61
  exact fc_fX9_vCount_97 h
theorem fc_fX9_vCount_20 {σ0 : zSt} {σ : zSt} {x1 : Int32} {s0 : Int32} (h : (zQ [3, 5, 7, 9, 11, 12, 15, 17, 19, 21, 23, 25, 27, 28, 29, 30, 32, 34, 36, 42, 44] [] [5, 38, 46, 48] []) σ0 σ) : zpc (fX9_vCount_20 σ x1 s0) (fun r => (zQ [3, 5, 7, 9, 11, 12, 15, 17, 19, 21, 23, 25, 27, 28, 29, 30, 32, 34, 36, 42, 44] [] [5, 38, 46, 48] []) σ0 (r.1)) := by
  unfold fX9_vCount_20
  exact zpc_if (fun _ => zpc_if (fun _ => fc_fX9_vCount_61 h) (fun _ => fc_fX9_vCount_61 h)) (fun _ => zpc_if (fun _ => zpc_if (fun _ => fc_fX9_vCount_78 h) (fun _ => fc_fX9_vCount_78 h)) (fun _ => zpc_if (fun _ => fc_fX9_vCount_96 h) (fun _ => fc_fX9_vCount_96 h)))
theorem fc_fX9_vCount {σ0 : zSt} {σ : zSt} (h : (zQ [3, 5, 7, 9, 11, 12, 15, 17, 19, 21, 23, 25, 27, 28, 29, 30, 32, 34, 36, 42, 44] [] [5, 38, 46, 48] []) σ0 σ) : zpc (fX9_vCount σ) (fun r => (zQ [3, 5, 7, 9, 11, 12, 15, 17, 19, 21, 23, 25, 27, 28, 29, 30, 32, 34, 36, 42, 44] [] [5, 38, 46, 48] []) σ0 (r.1)) := by
  unfold fX9_vCount
  exact zpc_bi (fc_fX9_height h) (fun σ1 v2 hσ1 => zpc_if (fun _ => fc_fX9_vCount_20 hσ1) (fun _ => fc_fX9_vCount_20 hσ1))
theorem fc_fX4_readHandy_23 {σ0 : zSt} {σ : zSt} {s0 : Int32} (h : (zQ [3, 5, 7, 9, 11, 12, 15, 17, 19, 21, 23, 25, 27, 28, 29, 30, 32, 34, 36, 42, 44] [] [5, 38, 46, 48] []) σ0 σ) : zpc (fX4_readHandy_23 σ s0) (fun r => (zQ [3, 5, 7, 9, 11, 12, 15, 17, 19, 21, 23, 25, 27, 28, 29, 30, 32, 34, 36, 42, 44] [] [5, 38, 46, 48] []) σ0 (r.1)) := by
  unfold fX4_readHandy_23
  exact zpc_some h
theorem fc_fX4_readHandy_46 {σ0 : zSt} {σ : zSt} {s0 : Int32} (h : (zQ [3, 5, 7, 9, 11, 12, 15, 17, 19, 21, 23, 25, 27, 28, 29, 30, 32, 34, 36, 42, 44] [] [5, 38, 46, 48] []) σ0 σ) : zpc (fX4_readHandy_46 σ s0) (fun r => (zQ [3, 5, 7, 9, 11, 12, 15, 17, 19, 21, 23, 25, 27, 28, 29, 30, 32, 34, 36, 42, 44] [] [5, 38, 46, 48] []) σ0 (r.1)) := by
  unfold fX4_readHandy_46
  exact zpc_some h
theorem fc_fX4_readHandy_43 {σ0 : zSt} {σ : zSt} (h : (zQ [3, 5, 7, 9, 11, 12, 15, 17, 19, 21, 23, 25, 27, 28, 29, 30, 32, 34, 36, 42, 44] [] [5, 38, 46, 48] []) σ0 σ) : zpc (fX4_readHandy_43 σ) (fun r => (zQ [3, 5, 7, 9, 11, 12, 15, 17, 19, 21, 23, 25, 27, 28, 29, 30, 32, 34, 36, 42, 44] [] [5, 38, 46, 48] []) σ0 (r.1)) := by
  unfold fX4_readHandy_43
  exact fc_fX4_readHandy_46 h
theorem fc_fX4_readHandy {σ0 : zSt} {σ : zSt} {x1 : Int32} (h : (zQ [3, 5, 7, 9, 11, 12, 15, 17, 19, 21, 23, 25, 27, 28, 29, 30, 32, 34, 36, 42, 44] [] [5, 38, 46, 48] []) σ0 σ) : zpc (fX4_readHandy σ x1) (fun r => (zQ [3, 5, 7, 9, 11, 12, 15, 17, 19, 21, 23, 25, 27, 28, 29, 30, 32, 34, 36, 42, 44] [] [5, 38, 46, 48] []) σ0 (r.1)) := by
  unfold fX4_readHandy
  exact zpc_if (fun _ => zpc_ck (zpc_if (fun _ => fc_fX4_readHandy_23 h) (fun _ => fc_fX4_readHandy_23 h))) (fun _ => zpc_if (fun _ => fc_fX4_readHandy_43 h) (fun _ => zpc_if (fun _ => fc_fX4_readHandy_43 h) (fun _ => zpc_ck (fc_fX4_readHandy_46 h))))
theorem fc_fX4_read_146 {σ0 : zSt} {σ : zSt} {s0 : Int32} (h : (zQ [3, 5, 7, 9, 11, 12, 15, 17, 19, 21, 23, 25, 27, 28, 29, 30, 32, 34, 36, 42, 44] [] [5, 38, 46, 48] []) σ0 σ) : zpc (fX4_read_146 σ s0) (fun r => (zQ [3, 5, 7, 9, 11, 12, 15, 17, 19, 21, 23, 25, 27, 28, 29, 30, 32, 34, 36, 42, 44] [] [5, 38, 46, 48] []) σ0 (r.1)) := by
  unfold fX4_read_146
  exact zpc_some h
theorem fc_fX4_read_131 {σ0 : zSt} {σ : zSt} {x2 : Int32} (h : (zQ [3, 5, 7, 9, 11, 12, 15, 17, 19, 21, 23, 25, 27, 28, 29, 30, 32, 34, 36, 42, 44] [] [5, 38, 46, 48] []) σ0 σ) : zpc (fX4_read_131 σ x2) (fun r => (zQ [3, 5, 7, 9, 11, 12, 15, 17, 19, 21, 23, 25, 27, 28, 29, 30, 32, 34, 36, 42, 44] [] [5, 38, 46, 48] []) σ0 (r.1)) := by
  unfold fX4_read_131
  exact zpc_if (fun _ => zpc_bi (fc_fX4_readOddPads h) (fun σ1 v2 hσ1 => fc_fX4_read_146 hσ1)) (fun _ => zpc_bi (fc_fX4_readEvenPads h) (fun σ3 v4 hσ3 => fc_fX4_read_146 hσ3))
theorem fc_fX4_read_106 {σ0 : zSt} {σ : zSt} {s0 : Int32} (h : (zQ [3, 5, 7, 9, 11, 12, 15, 17, 19, 21, 23, 25, 27, 28, 29, 30, 32, 34, 36, 42, 44] [] [5, 38, 46, 48] []) σ0 σ) : zpc (fX4_read_106 σ s0) (fun r => (zQ [3, 5, 7, 9, 11, 12, 15, 17, 19, 21, 23, 25, 27, 28, 29, 30, 32, 34, 36, 42, 44] [] [5, 38, 46, 48] []) σ0 (r.1)) := by
  unfold fX4_read_106
  exact zpc_some h
theorem fc_fX4_read_84 {σ0 : zSt} {σ : zSt} {s0 : Int32} (h : (zQ [3, 5, 7, 9, 11, 12, 15, 17, 19, 21, 23, 25, 27, 28, 29, 30, 32, 34, 36, 42, 44] [] [5, 38, 46, 48] []) σ0 σ) : zpc (fX4_read_84 σ s0) (fun r => (zQ [3, 5, 7, 9, 11, 12, 15, 17, 19, 21, 23, 25, 27, 28, 29, 30, 32, 34, 36, 42, 44] [] [5, 38, 46, 48] []) σ0 (r.1)) := by
  unfold fX4_read_84
  exact zpc_some h
theorem fc_fX4_read_62 {σ0 : zSt} {σ : zSt} {s0 : Int32} (h : (zQ [3, 5, 7, 9, 11, 12, 15, 17, 19, 21, 23, 25, 27, 28, 29, 30, 32, 34, 36, 42, 44] [] [5, 38, 46, 48] []) σ0 σ) : zpc (fX4_read_62 σ s0) (fun r => (zQ [3, 5, 7, 9, 11, 12, 15, 17, 19, 21, 23, 25, 27, 28, 29, 30, 32, 34, 36, 42, 44] [] [5, 38, 46, 48] []) σ0 (r.1)) := by
  unfold fX4_read_62
  exact zpc_some h
theorem fc_fX4_read_11 {σ0 : zSt} {σ : zSt} {x1 : Int32} {s0 : Int32} (h : (zQ [3, 5, 7, 9, 11, 12, 15, 17, 19, 21, 23, 25, 27, 28, 29, 30, 32, 34, 36, 42, 44] [] [5, 38, 46, 48] []) σ0 σ) : zpc (fX4_read_11 σ x1 s0) (fun r => (zQ [3, 5, 7, 9, 11, 12, 15, 17, 19, 21, 23, 25, 27, 28, 29, 30, 32, 34, 36, 42, 44] [] [5, 38, 46, 48] []) σ0 (r.1)) := by
  unfold fX4_read_11
  exact zpc_if (fun _ => zpc_if (fun _ => fc_fX4_read_62 h) (fun _ => zpc_bi (fc_fX4_readHandy h) (fun σ5 v6 hσ5 => fc_fX4_read_62 hσ5))) (fun _ => zpc_if (fun _ => zpc_if (fun _ => zpc_ck (fc_fX4_read_84 h)) (fun _ => zpc_bi (fc_fX9_vCount h) (fun σ7 v8 hσ7 => fc_fX4_read_84 hσ7))) (fun _ => zpc_if (fun _ => zpc_if (fun _ => zpc_bi (fc_fX9_readStatus h) (fun σ9 v10 hσ9 => fc_fX4_read_106 hσ9)) (fun _ => zpc_bi (fc_fX9_readData h) (fun σ11 v12 hσ11 => fc_fX4_read_106 hσ11))) (fun _ => zpc_if (fun _ => zpc_if (fun _ => zpc_bi (fc_fX10_value h) (fun σ13 v14 hσ13 => zpc_some hσ13)) (fun _ => fc_fX4_read_131 h)) (fun _ => fc_fX4_read_131 h))))
theorem fc_fX4_read {σ0 : zSt} {σ : zSt} {x1 : Int32} (h : (zQ [3, 5, 7, 9, 11, 12, 15, 17, 19, 21, 23, 25, 27, 28, 29, 30, 32, 34, 36, 42, 44] [] [5, 38, 46, 48] []) σ0 σ) : zpc (fX4_read σ x1) (fun r => (zQ [3, 5, 7, 9, 11, 12, 15, 17, 19, 21, 23, 25, 27, 28, 29, 30, 32, 34, 36, 42, 44] [] [5, 38, 46, 48] []) σ0 (r.1)) := by
  unfold fX4_read
  exact zpc_if (fun _ => fc_fX4_read_11 h) (fun _ => fc_fX4_read_11 h)
theorem fc_fX10_take_57 {σ0 : zSt} {σ : zSt} (h : (zQ [3, 5, 7, 9, 11, 12, 15, 17, 19, 21, 23, 25, 27, 28, 29, 30, 32, 34, 36, 42, 44] [] [5, 38, 46, 48] []) σ0 σ) : zpc (fX10_take_57 σ) (fun r => (zQ [3, 5, 7, 9, 11, 12, 15, 17, 19, 21, 23, 25, 27, 28, 29, 30, 32, 34, 36, 42, 44] [] [5, 38, 46, 48] []) σ0 (r)) := by
  unfold fX10_take_57
  exact zpc_some h
theorem fc_fX10_take {σ0 : zSt} {σ : zSt} {x1 : Int32} {x2 : Int32} (h : (zQ [3, 5, 7, 9, 11, 12, 15, 17, 19, 21, 23, 25, 27, 28, 29, 30, 32, 34, 36, 42, 44] [] [5, 38, 46, 48] []) σ0 σ) : zpc (fX10_take σ x1 x2) (fun r => (zQ [3, 5, 7, 9, 11, 12, 15, 17, 19, 21, 23, 25, 27, 28, 29, 30, 32, 34, 36, 42, 44] [] [5, 38, 46, 48] []) σ0 (r)) := by
  unfold fX10_take
  exact zpc_if (fun _ => zpc_ck (zpc_bs (zQ.wi h rfl) (fun σ3 hσ3 => fc_fX10_take_57 hσ3))) (fun _ => zpc_if (fun _ => zpc_ck (zpc_ck (zpc_bs (zQ.wi h rfl) (fun σ2 hσ2 => fc_fX10_take_57 hσ2)))) (fun _ => zpc_ck (zpc_bs (zQ.wi h rfl) (fun σ1 hσ1 => fc_fX10_take_57 hσ1))))
theorem fc_fX9_writeColour_72 {σ0 : zSt} {σ : zSt} (h : (zQ [3, 5, 7, 9, 11, 12, 15, 17, 19, 21, 23, 25, 27, 28, 29, 30, 32, 34, 36, 42, 44] [] [5, 38, 46, 48] []) σ0 σ) : zpc (fX9_writeColour_72 σ) (fun r => (zQ [3, 5, 7, 9, 11, 12, 15, 17, 19, 21, 23, 25, 27, 28, 29, 30, 32, 34, 36, 42, 44] [] [5, 38, 46, 48] []) σ0 (r)) := by
  unfold fX9_writeColour_72
  exact zpc_some h
theorem fc_fX9_writeColour {σ0 : zSt} {σ : zSt} {x1 : Int32} {x2 : Int32} (h : (zQ [3, 5, 7, 9, 11, 12, 15, 17, 19, 21, 23, 25, 27, 28, 29, 30, 32, 34, 36, 42, 44] [] [5, 38, 46, 48] []) σ0 σ) : zpc (fX9_writeColour σ x1 x2) (fun r => (zQ [3, 5, 7, 9, 11, 12, 15, 17, 19, 21, 23, 25, 27, 28, 29, 30, 32, 34, 36, 42, 44] [] [5, 38, 46, 48] []) σ0 (r)) := by
  unfold fX9_writeColour
  exact zpc_if (fun _ => zpc_ck (zpc_bs (zQ.wi h rfl) (fun σ4 hσ4 => fc_fX9_writeColour_72 hσ4))) (fun _ => zpc_if (fun _ => zpc_ck (zpc_bs (zQ.wi h rfl) (fun σ3 hσ3 => fc_fX9_writeColour_72 hσ3))) (fun _ => zpc_ck (zpc_ck (zpc_bs (zQ.wi h rfl) (fun σ1 hσ1 => zpc_ck (zpc_bs (zQ.wi hσ1 rfl) (fun σ2 hσ2 => fc_fX9_writeColour_72 hσ2)))))))
theorem fc_fX9_writeData_69 {σ0 : zSt} {σ : zSt} (h : (zQ [3, 5, 7, 9, 11, 12, 15, 17, 19, 21, 23, 25, 27, 28, 29, 30, 32, 34, 36, 42, 44] [] [5, 38, 46, 48] []) σ0 σ) : zpc (fX9_writeData_69 σ) (fun r => (zQ [3, 5, 7, 9, 11, 12, 15, 17, 19, 21, 23, 25, 27, 28, 29, 30, 32, 34, 36, 42, 44] [] [5, 38, 46, 48] []) σ0 (r)) := by
  unfold fX9_writeData_69
  exact zpc_some h
theorem fc_fX9_writeData {σ0 : zSt} {σ : zSt} {x1 : Int32} (h : (zQ [3, 5, 7, 9, 11, 12, 15, 17, 19, 21, 23, 25, 27, 28, 29, 30, 32, 34, 36, 42, 44] [] [5, 38, 46, 48] []) σ0 σ) : zpc (fX9_writeData σ x1) (fun r => (zQ [3, 5, 7, 9, 11, 12, 15, 17, 19, 21, 23, 25, 27, 28, 29, 30, 32, 34, 36, 42, 44] [] [5, 38, 46, 48] []) σ0 (r)) := by
  unfold fX9_writeData
  exact zpc_ck (zpc_bv (fun v1 _ => zpc_ck (zpc_bs (zQ.wi h rfl) (fun σ2 hσ2 => zpc_ck (zpc_bs (zQ.wi hσ2 rfl) (fun σ3 hσ3 => zpc_ck (zpc_bs (zQ.wi hσ3 rfl) (fun σ4 hσ4 => zpc_ck (zpc_if (fun _ => zpc_bu (fc_fX9_writeColour hσ4) (fun σ6 hσ6 => fc_fX9_writeData_69 hσ6)) (fun _ => zpc_ck (zpc_bs (zQ.wi hσ4 rfl) (fun σ5 hσ5 => fc_fX9_writeData_69 hσ5))))))))))))
theorem fc_fX9_writeControl_141 {σ0 : zSt} {σ : zSt} (h : (zQ [3, 5, 7, 9, 11, 12, 15, 17, 19, 21, 23, 25, 27, 28, 29, 30, 32, 34, 36, 42, 44] [] [5, 38, 46, 48] []) σ0 σ) : zpc (fX9_writeControl_141 σ) (fun r => (zQ [3, 5, 7, 9, 11, 12, 15, 17, 19, 21, 23, 25, 27, 28, 29, 30, 32, 34, 36, 42, 44] [] [5, 38, 46, 48] []) σ0 (r)) := by
  unfold fX9_writeControl_141
  exact zpc_some h
theorem fc_fX9_writeControl {σ0 : zSt} {σ : zSt} {x1 : Int32} (h : (zQ [3, 5, 7, 9, 11, 12, 15, 17, 19, 21, 23, 25, 27, 28, 29, 30, 32, 34, 36, 42, 44] [] [5, 38, 46, 48] []) σ0 σ) : zpc (fX9_writeControl σ x1) (fun r => (zQ [3, 5, 7, 9, 11, 12, 15, 17, 19, 21, 23, 25, 27, 28, 29, 30, 32, 34, 36, 42, 44] [] [5, 38, 46, 48] []) σ0 (r)) := by
  unfold fX9_writeControl
  exact zpc_ck (zpc_if (fun _ => zpc_ck (zpc_ck (zpc_bs (zQ.wi h rfl) (fun σ6 hσ6 => zpc_ck (zpc_bs (zQ.wi hσ6 rfl) (fun σ7 hσ7 => zpc_some hσ7)))))) (fun _ => zpc_ck (zpc_bs (zQ.wi h rfl) (fun σ1 hσ1 => zpc_ck (zpc_ck (zpc_bs (zQ.wi hσ1 rfl) (fun σ2 hσ2 => zpc_ck (zpc_bs (zQ.wi hσ2 rfl) (fun σ3 hσ3 => zpc_ck (zpc_if (fun _ => zpc_bu (fc_fX9_readAhead hσ3) (fun σ5 hσ5 => fc_fX9_writeControl_141 hσ5)) (fun _ => zpc_ck (zpc_if (fun _ => zpc_if (fun _ => fc_fX9_writeControl_141 hσ3) (fun _ => zpc_ck (zpc_ck (zpc_bs (zQ.wi hσ3 rfl) (fun σ4 hσ4 => fc_fX9_writeControl_141 hσ4))))) (fun _ => fc_fX9_writeControl_141 hσ3)))))))))))))
theorem fc_fX7_take_155 {σ0 : zSt} {σ : zSt} (h : (zQ [3, 5, 7, 9, 11, 12, 15, 17, 19, 21, 23, 25, 27, 28, 29, 30, 32, 34, 36, 42, 44] [] [5, 38, 46, 48] []) σ0 σ) : zpc (fX7_take_155 σ) (fun r => (zQ [3, 5, 7, 9, 11, 12, 15, 17, 19, 21, 23, 25, 27, 28, 29, 30, 32, 34, 36, 42, 44] [] [5, 38, 46, 48] []) σ0 (r)) := by
  unfold fX7_take_155
  exact zpc_some h
theorem fc_fX7_take_30 {σ0 : zSt} {σ : zSt} {x1 : Int32} {x2 : Int32} (h : (zQ [3, 5, 7, 9, 11, 12, 15, 17, 19, 21, 23, 25, 27, 28, 29, 30, 32, 34, 36, 42, 44] [] [5, 38, 46, 48] []) σ0 σ) : zpc (fX7_take_30 σ x1 x2) (fun r => (zQ [3, 5, 7, 9, 11, 12, 15, 17, 19, 21, 23, 25, 27, 28, 29, 30, 32, 34, 36, 42, 44] [] [5, 38, 46, 48] []) σ0 (r)) := by
  unfold fX7_take_30
  exact zpc_ck (zpc_bv (fun v1 _ => zpc_ck (zpc_if (fun _ => zpc_ck (zpc_bs (zQ.wi h rfl) (fun σ6 hσ6 => fc_fX7_take_155 hσ6))) (fun _ => zpc_if (fun _ => zpc_ck (zpc_bs (zQ.wi h rfl) (fun σ4 hσ4 => zpc_ck (zpc_bs (zQ.wi hσ4 rfl) (fun σ5 hσ5 => fc_fX7_take_155 hσ5))))) (fun _ => zpc_if (fun _ => zpc_ck (zpc_ck (zpc_bs (zQ.wi h rfl) (fun σ2 hσ2 => fc_fX7_take_155 hσ2)))) (fun _ => zpc_ck (zpc_ck (zpc_bs (zQ.wi h rfl) (fun σ3 hσ3 => fc_fX7_take_155 hσ3)))))))))
theorem fc_fX7_take_12 {σ0 : zSt} {σ : zSt} {x1 : Int32} {s0 : Int32} (h : (zQ [3, 5, 7, 9, 11, 12, 15, 17, 19, 21, 23, 25, 27, 28, 29, 30, 32, 34, 36, 42, 44] [] [5, 38, 46, 48] []) σ0 σ) : zpc (fX7_take_12 σ x1 s0) (fun r => (zQ [3, 5, 7, 9, 11, 12, 15, 17, 19, 21, 23, 25, 27, 28, 29, 30, 32, 34, 36, 42, 44] [] [5, 38, 46, 48] []) σ0 (r)) := by
  unfold fX7_take_12
  exact zpc_if (fun _ => fc_fX7_take_30 h) (fun _ => zpc_ck (zpc_bs (zQ.wi h rfl) (fun σ7 hσ7 => fc_fX7_take_30 hσ7)))
theorem fc_fX7_take {σ0 : zSt} {σ : zSt} {x1 : Int32} (h : (zQ [3, 5, 7, 9, 11, 12, 15, 17, 19, 21, 23, 25, 27, 28, 29, 30, 32, 34, 36, 42, 44] [] [5, 38, 46, 48] []) σ0 σ) : zpc (fX7_take σ x1) (fun r => (zQ [3, 5, 7, 9, 11, 12, 15, 17, 19, 21, 23, 25, 27, 28, 29, 30, 32, 34, 36, 42, 44] [] [5, 38, 46, 48] []) σ0 (r)) := by
  unfold fX7_take
  exact zpc_if (fun _ => fc_fX7_take_12 h) (fun _ => fc_fX7_take_12 h)
theorem fc_fX7_takeStereo {σ0 : zSt} {σ : zSt} {x1 : Int32} (h : (zQ [3, 5, 7, 9, 11, 12, 15, 17, 19, 21, 23, 25, 27, 28, 29, 30, 32, 34, 36, 42, 44] [] [5, 38, 46, 48] []) σ0 σ) : zpc (fX7_takeStereo σ x1) (fun r => (zQ [3, 5, 7, 9, 11, 12, 15, 17, 19, 21, 23, 25, 27, 28, 29, 30, 32, 34, 36, 42, 44] [] [5, 38, 46, 48] []) σ0 (r)) := by
  unfold fX7_takeStereo
  exact zpc_ck (zpc_bs (zQ.wi h rfl) (fun σ1 hσ1 => zpc_some hσ1))
theorem fc_fX4_writeHandy_34 {σ0 : zSt} {σ : zSt} (h : (zQ [3, 5, 7, 9, 11, 12, 15, 17, 19, 21, 23, 25, 27, 28, 29, 30, 32, 34, 36, 42, 44] [] [5, 38, 46, 48] []) σ0 σ) : zpc (fX4_writeHandy_34 σ) (fun r => (zQ [3, 5, 7, 9, 11, 12, 15, 17, 19, 21, 23, 25, 27, 28, 29, 30, 32, 34, 36, 42, 44] [] [5, 38, 46, 48] []) σ0 (r)) := by
  unfold fX4_writeHandy_34
  exact zpc_some h
theorem fc_fX4_writeHandy {σ0 : zSt} {σ : zSt} {x1 : Int32} {x2 : Int32} (h : (zQ [3, 5, 7, 9, 11, 12, 15, 17, 19, 21, 23, 25, 27, 28, 29, 30, 32, 34, 36, 42, 44] [] [5, 38, 46, 48] []) σ0 σ) : zpc (fX4_writeHandy σ x1 x2) (fun r => (zQ [3, 5, 7, 9, 11, 12, 15, 17, 19, 21, 23, 25, 27, 28, 29, 30, 32, 34, 36, 42, 44] [] [5, 38, 46, 48] []) σ0 (r)) := by
  unfold fX4_writeHandy
  exact zpc_if (fun _ => zpc_bu (fc_fX7_takeStereo h) (fun σ2 hσ2 => fc_fX4_writeHandy_34 hσ2)) (fun _ => zpc_if (fun _ => fc_fX4_writeHandy_34 h) (fun _ => zpc_if (fun _ => fc_fX4_writeHandy_34 h) (fun _ => zpc_ck (zpc_bs (zQ.wi h rfl) (fun σ1 hσ1 => fc_fX4_writeHandy_34 hσ1)))))
theorem fc_fX4_write_151 {σ0 : zSt} {σ : zSt} (h : (zQ [3, 5, 7, 9, 11, 12, 15, 17, 19, 21, 23, 25, 27, 28, 29, 30, 32, 34, 36, 42, 44] [] [5, 38, 46, 48] []) σ0 σ) : zpc (fX4_write_151 σ) (fun r => (zQ [3, 5, 7, 9, 11, 12, 15, 17, 19, 21, 23, 25, 27, 28, 29, 30, 32, 34, 36, 42, 44] [] [5, 38, 46, 48] []) σ0 (r)) := by
  unfold fX4_write_151
  exact zpc_some h
theorem fc_fX4_write_71 {σ0 : zSt} {σ : zSt} {x2 : Int32} {x3 : Int32} (h : (zQ [3, 5, 7, 9, 11, 12, 15, 17, 19, 21, 23, 25, 27, 28, 29, 30, 32, 34, 36, 42, 44] [] [5, 38, 46, 48] []) σ0 σ) : zpc (fX4_write_71 σ x2 x3) (fun r => (zQ [3, 5, 7, 9, 11, 12, 15, 17, 19, 21, 23, 25, 27, 28, 29, 30, 32, 34, 36, 42, 44] [] [5, 38, 46, 48] []) σ0 (r)) := by
  unfold fX4_write_71
  exact zpc_if (fun _ => zpc_bu (fc_fX4_changeLines h) (fun σ1 hσ1 => fc_fX4_write_151 hσ1)) (fun _ => fc_fX4_write_151 h)
theorem fc_fX4_write_11 {σ0 : zSt} {σ : zSt} {x1 : Int32} {x2 : Int32} {s0 : Int32} (h : (zQ [3, 5, 7, 9, 11, 12, 15, 17, 19, 21, 23, 25, 27, 28, 29, 30, 32, 34, 36, 42, 44] [] [5, 38, 46, 48] []) σ0 σ) : zpc (fX4_write_11 σ x1 x2 s0) (fun r => (zQ [3, 5, 7, 9, 11, 12, 15, 17, 19, 21, 23, 25, 27, 28, 29, 30, 32, 34, 36, 42, 44] [] [5, 38, 46, 48] []) σ0 (r)) := by
  unfold fX4_write_11
  exact zpc_if (fun _ => zpc_if (fun _ => fc_fX4_write_71 h) (fun _ => zpc_if (fun _ => fc_fX4_write_71 h) (fun _ => zpc_if (fun _ => fc_fX4_write_71 h) (fun _ => zpc_bu (fc_fX4_writeHandy h) (fun σ2 hσ2 => fc_fX4_write_151 hσ2))))) (fun _ => zpc_if (fun _ => zpc_bu (fc_fX7_take h) (fun σ3 hσ3 => fc_fX4_write_151 hσ3)) (fun _ => zpc_if (fun _ => zpc_if (fun _ => zpc_bu (fc_fX9_writeControl h) (fun σ4 hσ4 => fc_fX4_write_151 hσ4)) (fun _ => zpc_bu (fc_fX9_writeData h) (fun σ5 hσ5 => fc_fX4_write_151 hσ5))) (fun _ => zpc_if (fun _ => zpc_if (fun _ => fc_fX4_write_151 h) (fun _ => zpc_if (fun _ => fc_fX4_write_151 h) (fun _ => zpc_bu (fc_fX10_take h) (fun σ6 hσ6 => fc_fX4_write_151 hσ6)))) (fun _ => fc_fX4_write_151 h))))
theorem fc_fX4_write {σ0 : zSt} {σ : zSt} {x1 : Int32} {x2 : Int32} (h : (zQ [3, 5, 7, 9, 11, 12, 15, 17, 19, 21, 23, 25, 27, 28, 29, 30, 32, 34, 36, 42, 44] [] [5, 38, 46, 48] []) σ0 σ) : zpc (fX4_write σ x1 x2) (fun r => (zQ [3, 5, 7, 9, 11, 12, 15, 17, 19, 21, 23, 25, 27, 28, 29, 30, 32, 34, 36, 42, 44] [] [5, 38, 46, 48] []) σ0 (r)) := by
  unfold fX4_write
  exact zpc_if (fun _ => fc_fX4_write_11 h) (fun _ => fc_fX4_write_11 h)
theorem fc_fX5_value_20 {σ0 : zSt} {σ : zSt} {s0 : Int32} (h : (zQ [3, 5, 7, 9, 11, 12, 15, 17, 19, 21, 23, 25, 27, 28, 29, 30, 32, 34, 36, 42, 44] [] [5, 38, 46, 48] []) σ0 σ) : zpc (fX5_value_20 σ s0) (fun r => (zQ [3, 5, 7, 9, 11, 12, 15, 17, 19, 21, 23, 25, 27, 28, 29, 30, 32, 34, 36, 42, 44] [] [5, 38, 46, 48] []) σ0 (r.1)) := by
  unfold fX5_value_20
  exact zpc_some h
theorem fc_fX5_value_19 {σ0 : zSt} {σ : zSt} (h : (zQ [3, 5, 7, 9, 11, 12, 15, 17, 19, 21, 23, 25, 27, 28, 29, 30, 32, 34, 36, 42, 44] [] [5, 38, 46, 48] []) σ0 σ) : zpc (fX5_value_19 σ) (fun r => (zQ [3, 5, 7, 9, 11, 12, 15, 17, 19, 21, 23, 25, 27, 28, 29, 30, 32, 34, 36, 42, 44] [] [5, 38, 46, 48] []) σ0 (r.1)) := by
  unfold fX5_value_19
  exact fc_fX5_value_20 h
theorem fc_fX5_value {σ0 : zSt} {σ : zSt} {x1 : Int32} (h : (zQ [3, 5, 7, 9, 11, 12, 15, 17, 19, 21, 23, 25, 27, 28, 29, 30, 32, 34, 36, 42, 44] [] [5, 38, 46, 48] []) σ0 σ) : zpc (fX5_value σ x1) (fun r => (zQ [3, 5, 7, 9, 11, 12, 15, 17, 19, 21, 23, 25, 27, 28, 29, 30, 32, 34, 36, 42, 44] [] [5, 38, 46, 48] []) σ0 (r.1)) := by
  unfold fX5_value
  exact zpc_if (fun _ => fc_fX5_value_19 h) (fun _ => zpc_if (fun _ => fc_fX5_value_19 h) (fun _ => zpc_ck (fc_fX5_value_20 h)))
theorem fc_fX5_growR {σ0 : zSt} {σ : zSt} (h : (zQ [3, 5, 7, 9, 11, 12, 15, 17, 19, 21, 23, 25, 27, 28, 29, 30, 32, 34, 36, 42, 44] [] [5, 38, 46, 48] []) σ0 σ) : zpc (fX5_growR σ) (fun r => (zQ [3, 5, 7, 9, 11, 12, 15, 17, 19, 21, 23, 25, 27, 28, 29, 30, 32, 34, 36, 42, 44] [] [5, 38, 46, 48] []) σ0 (r)) := by
  unfold fX5_growR
  exact zpc_ck (zpc_ck (zpc_ck (zpc_bs (zQ.wi h rfl) (fun σ1 hσ1 => zpc_some hσ1))))
theorem fc_fX5_push {σ0 : zSt} {σ : zSt} {x1 : Int32} (h : (zQ [3, 5, 7, 9, 11, 12, 15, 17, 19, 21, 23, 25, 27, 28, 29, 30, 32, 34, 36, 42, 44] [] [5, 38, 46, 48] []) σ0 σ) : zpc (fX5_push σ x1) (fun r => (zQ [3, 5, 7, 9, 11, 12, 15, 17, 19, 21, 23, 25, 27, 28, 29, 30, 32, 34, 36, 42, 44] [] [5, 38, 46, 48] []) σ0 (r)) := by
  unfold fX5_push
  exact zpc_ck (zpc_bu (fc_fX2_write h) (fun σ1 hσ1 => zpc_ck (zpc_bu (fc_fX2_write hσ1) (fun σ2 hσ2 => zpc_ck (zpc_ck (zpc_bs (zQ.wi hσ2 rfl) (fun σ3 hσ3 => zpc_some hσ3)))))))
theorem fc_fX5_goTo {σ0 : zSt} {σ : zSt} {x1 : Int32} (h : (zQ [3, 5, 7, 9, 11, 12, 15, 17, 19, 21, 23, 25, 27, 28, 29, 30, 32, 34, 36, 42, 44] [] [5, 38, 46, 48] []) σ0 σ) : zpc (fX5_goTo σ x1) (fun r => (zQ [3, 5, 7, 9, 11, 12, 15, 17, 19, 21, 23, 25, 27, 28, 29, 30, 32, 34, 36, 42, 44] [] [5, 38, 46, 48] []) σ0 (r)) := by
  unfold fX5_goTo
  exact zpc_ck (zpc_bs (zQ.wi h rfl) (fun σ1 hσ1 => zpc_ck (zpc_bs (zQ.wi hσ1 rfl) (fun σ2 hσ2 => zpc_some hσ2))))
theorem fc_fX5_breakOff {σ0 : zSt} {σ : zSt} {x1 : Int32} (h : (zQ [3, 5, 7, 9, 11, 12, 15, 17, 19, 21, 23, 25, 27, 28, 29, 30, 32, 34, 36, 42, 44] [] [5, 38, 46, 48] []) σ0 σ) : zpc (fX5_breakOff σ x1) (fun r => (zQ [3, 5, 7, 9, 11, 12, 15, 17, 19, 21, 23, 25, 27, 28, 29, 30, 32, 34, 36, 42, 44] [] [5, 38, 46, 48] []) σ0 (r)) := by
  unfold fX5_breakOff
  exact zpc_bu (fc_fX5_growR h) (fun σ1 hσ1 => zpc_ck (zpc_bs (zQ.wi hσ1 rfl) (fun σ2 hσ2 => zpc_ck (zpc_bu (fc_fX5_push hσ2) (fun σ3 hσ3 => zpc_bu (fc_fX5_goTo hσ3) (fun σ4 hσ4 => zpc_some hσ4))))))
theorem fc_fX5_readWord {σ0 : zSt} {σ : zSt} {x1 : Int32} (h : (zQ [3, 5, 7, 9, 11, 12, 15, 17, 19, 21, 23, 25, 27, 28, 29, 30, 32, 34, 36, 42, 44] [] [5, 38, 46, 48] []) σ0 σ) : zpc (fX5_readWord σ x1) (fun r => (zQ [3, 5, 7, 9, 11, 12, 15, 17, 19, 21, 23, 25, 27, 28, 29, 30, 32, 34, 36, 42, 44] [] [5, 38, 46, 48] []) σ0 (r.1)) := by
  unfold fX5_readWord
  exact zpc_bi (fc_fX2_read h) (fun σ1 v2 hσ1 => zpc_bi (fc_fX2_read hσ1) (fun σ3 v4 hσ3 => zpc_some hσ3))
theorem fc_fX5_answerCalls_82 {σ0 : zSt} {σ : zSt} (h : (zQ [3, 5, 7, 9, 11, 12, 15, 17, 19, 21, 23, 25, 27, 28, 29, 30, 32, 34, 36, 42, 44] [] [5, 38, 46, 48] []) σ0 σ) : zpc (fX5_answerCalls_82 σ) (fun r => (zQ [3, 5, 7, 9, 11, 12, 15, 17, 19, 21, 23, 25, 27, 28, 29, 30, 32, 34, 36, 42, 44] [] [5, 38, 46, 48] []) σ0 (r.1)) := by
  unfold fX5_answerCalls_82
  exact zpc_some h
theorem fc_fX5_answerCalls_64 {σ0 : zSt} {σ : zSt} {x1 : Int32} {x2 : Int32} (h : (zQ [3, 5, 7, 9, 11, 12, 15, 17, 19, 21, 23, 25, 27, 28, 29, 30, 32, 34, 36, 42, 44] [] [5, 38, 46, 48] []) σ0 σ) : zpc (fX5_answerCalls_64 σ x1 x2) (fun r => (zQ [3, 5, 7, 9, 11, 12, 15, 17, 19, 21, 23, 25, 27, 28, 29, 30, 32, 34, 36, 42, 44] [] [5, 38, 46, 48] []) σ0 (r.1)) := by
  unfold fX5_answerCalls_64
  exact zpc_if (fun _ => fc_fX5_answerCalls_82 h) (fun _ => zpc_if (fun _ => fc_fX5_answerCalls_82 h) (fun _ => zpc_ck (zpc_if (fun _ => fc_fX5_answerCalls_82 h) (fun _ => zpc_ck (zpc_bs (zQ.wi h rfl) (fun σ1 hσ1 => zpc_ck (zpc_bs (zQ.wi hσ1 rfl) (fun σ2 hσ2 => zpc_ck (zpc_if (fun _ => zpc_ck (zpc_bi (fc_fX5_readWord hσ2) (fun σ4 v5 hσ4 => zpc_bu (fc_fX5_breakOff hσ4) (fun σ6 hσ6 => zpc_some hσ6)))) (fun _ => zpc_bu (fc_fX5_breakOff hσ2) (fun σ3 hσ3 => zpc_some hσ3)))))))))))
theorem fc_fX5_answerCalls_15 {σ0 : zSt} {σ : zSt} {x1 : Int32} {s0 : Int32} (h : (zQ [3, 5, 7, 9, 11, 12, 15, 17, 19, 21, 23, 25, 27, 28, 29, 30, 32, 34, 36, 42, 44] [] [5, 38, 46, 48] []) σ0 σ) : zpc (fX5_answerCalls_15 σ x1 s0) (fun r => (zQ [3, 5, 7, 9, 11, 12, 15, 17, 19, 21, 23, 25, 27, 28, 29, 30, 32, 34, 36, 42, 44] [] [5, 38, 46, 48] []) σ0 (r.1)) := by
  unfold fX5_answerCalls_15
  exact zpc_ck (zpc_bs (zQ.wi h rfl) (fun σ7 hσ7 => zpc_if (fun _ => fc_fX5_answerCalls_64 hσ7) (fun _ => zpc_ck (zpc_if (fun _ => zpc_ck (zpc_bs (zQ.wi hσ7 rfl) (fun σ8 hσ8 => zpc_ck (zpc_bs (zQ.wi hσ8 rfl) (fun σ9 hσ9 => zpc_bu (fc_fX5_breakOff hσ9) (fun σ10 hσ10 => zpc_some hσ10)))))) (fun _ => fc_fX5_answerCalls_64 hσ7)))))
theorem fc_fX5_answerCalls {σ0 : zSt} {σ : zSt} {x1 : Int32} (h : (zQ [3, 5, 7, 9, 11, 12, 15, 17, 19, 21, 23, 25, 27, 28, 29, 30, 32, 34, 36, 42, 44] [] [5, 38, 46, 48] []) σ0 σ) : zpc (fX5_answerCalls σ x1) (fun r => (zQ [3, 5, 7, 9, 11, 12, 15, 17, 19, 21, 23, 25, 27, 28, 29, 30, 32, 34, 36, 42, 44] [] [5, 38, 46, 48] []) σ0 (r.1)) := by
  unfold fX5_answerCalls
  exact zpc_ck (zpc_if (fun _ => fc_fX5_answerCalls_15 h) (fun _ => fc_fX5_answerCalls_15 h))
theorem fc_fX5_pairAt {σ0 : zSt} {σ : zSt} {x1 : Int32} (h : (zQ [3, 5, 7, 9, 11, 12, 15, 17, 19, 21, 23, 25, 27, 28, 29, 30, 32, 34, 36, 42, 44] [] [5, 38, 46, 48] []) σ0 σ) : zpc (fX5_pairAt σ x1) (fun r => (zQ [3, 5, 7, 9, 11, 12, 15, 17, 19, 21, 23, 25, 27, 28, 29, 30, 32, 34, 36, 42, 44] [] [5, 38, 46, 48] []) σ0 (r.1)) := by
  unfold fX5_pairAt
  exact zpc_ck (zpc_ck (zpc_some h))
theorem fc_fX5_fetch {σ0 : zSt} {σ : zSt} (h : (zQ [3, 5, 7, 9, 11, 12, 15, 17, 19, 21, 23, 25, 27, 28, 29, 30, 32, 34, 36, 42, 44] [] [5, 38, 46, 48] []) σ0 σ) : zpc (fX5_fetch σ) (fun r => (zQ [3, 5, 7, 9, 11, 12, 15, 17, 19, 21, 23, 25, 27, 28, 29, 30, 32, 34, 36, 42, 44] [] [5, 38, 46, 48] []) σ0 (r.1)) := by
  unfold fX5_fetch
  exact zpc_ck (zpc_bi (fc_fX2_read h) (fun σ1 v2 hσ1 => zpc_ck (zpc_ck (zpc_bs (zQ.wi hσ1 rfl) (fun σ3 hσ3 => zpc_some hσ3)))))
theorem fc_fX5_fetchOp {σ0 : zSt} {σ : zSt} (h : (zQ [3, 5, 7, 9, 11, 12, 15, 17, 19, 21, 23, 25, 27, 28, 29, 30, 32, 34, 36, 42, 44] [] [5, 38, 46, 48] []) σ0 σ) : zpc (fX5_fetchOp σ) (fun r => (zQ [3, 5, 7, 9, 11, 12, 15, 17, 19, 21, 23, 25, 27, 28, 29, 30, 32, 34, 36, 42, 44] [] [5, 38, 46, 48] []) σ0 (r.1)) := by
  unfold fX5_fetchOp
  exact zpc_bu (fc_fX5_growR h) (fun σ1 hσ1 => zpc_bi (fc_fX5_fetch hσ1) (fun σ2 v3 hσ2 => zpc_some hσ2))
theorem fc_fX5_askBit_38 {σ0 : zSt} {σ : zSt} {x3 : Int32} {s0 : Int32} {s1 : Int32} {s2 : Int32} (h : (zQ [3, 5, 7, 9, 11, 12, 15, 17, 19, 21, 23, 25, 27, 28, 29, 30, 32, 34, 36, 42, 44] [] [5, 38, 46, 48] []) σ0 σ) : zpc (fX5_askBit_38 σ x3 s0 s1 s2) (fun r => (zQ [3, 5, 7, 9, 11, 12, 15, 17, 19, 21, 23, 25, 27, 28, 29, 30, 32, 34, 36, 42, 44] [] [5, 38, 46, 48] []) σ0 (r)) := by
  unfold fX5_askBit_38
  exact zpc_ck (zpc_bs (zQ.wi h rfl) (fun σ1 hσ1 => zpc_some hσ1))
theorem fc_fX5_askBit {σ0 : zSt} {σ : zSt} {x1 : Int32} {x2 : Int32} {x3 : Int32} (h : (zQ [3, 5, 7, 9, 11, 12, 15, 17, 19, 21, 23, 25, 27, 28, 29, 30, 32, 34, 36, 42, 44] [] [5, 38, 46, 48] []) σ0 σ) : zpc (fX5_askBit σ x1 x2 x3) (fun r => (zQ [3, 5, 7, 9, 11, 12, 15, 17, 19, 21, 23, 25, 27, 28, 29, 30, 32, 34, 36, 42, 44] [] [5, 38, 46, 48] []) σ0 (r)) := by
  unfold fX5_askBit
  exact zpc_bv (fun v2 _ => zpc_ck (zpc_if (fun _ => fc_fX5_askBit_38 h) (fun _ => fc_fX5_askBit_38 h)))
theorem fc_fX5_by_15 {σ0 : zSt} {σ : zSt} {s0 : Int32} {s1 : Int32} (h : (zQ [3, 5, 7, 9, 11, 12, 15, 17, 19, 21, 23, 25, 27, 28, 29, 30, 32, 34, 36, 42, 44] [] [5, 38, 46, 48] []) σ0 σ) : zpc (fX5_by_15 σ s0 s1) (fun r => (zQ [3, 5, 7, 9, 11, 12, 15, 17, 19, 21, 23, 25, 27, 28, 29, 30, 32, 34, 36, 42, 44] [] [5, 38, 46, 48] []) σ0 (r.1)) := by
  unfold fX5_by_15
  exact zpc_some h
theorem fc_fX5_by {σ0 : zSt} {σ : zSt} {x0 : Int32} (h : (zQ [3, 5, 7, 9, 11, 12, 15, 17, 19, 21, 23, 25, 27, 28, 29, 30, 32, 34, 36, 42, 44] [] [5, 38, 46, 48] []) σ0 σ) : zpc (fX5_by σ x0) (fun r => (zQ [3, 5, 7, 9, 11, 12, 15, 17, 19, 21, 23, 25, 27, 28, 29, 30, 32, 34, 36, 42, 44] [] [5, 38, 46, 48] []) σ0 (r.1)) := by
  unfold fX5_by
  exact zpc_if (fun _ => fc_fX5_by_15 h) (fun _ => fc_fX5_by_15 h)
theorem fc_fJ6_bitCount_0f7a4 {σ0 : zSt} {σ : zSt} {x0 : Int32} (h : (zQ [3, 5, 7, 9, 11, 12, 15, 17, 19, 21, 23, 25, 27, 28, 29, 30, 32, 34, 36, 42, 44] [] [5, 38, 46, 48] []) σ0 σ) : zpc (fJ6_bitCount_0f7a4 σ x0) (fun r => (zQ [3, 5, 7, 9, 11, 12, 15, 17, 19, 21, 23, 25, 27, 28, 29, 30, 32, 34, 36, 42, 44] [] [5, 38, 46, 48] []) σ0 (r.1)) := by
  unfold fJ6_bitCount_0f7a4
  exact zpc_bv (fun v1 _ => zpc_bv (fun v2 _ => zpc_bv (fun v3 _ => zpc_bv (fun v4 _ => zpc_bv (fun v5 _ => zpc_some h)))))
theorem fc_fX5_parity_14 {σ0 : zSt} {σ : zSt} {s0 : Int32} (h : (zQ [3, 5, 7, 9, 11, 12, 15, 17, 19, 21, 23, 25, 27, 28, 29, 30, 32, 34, 36, 42, 44] [] [5, 38, 46, 48] []) σ0 σ) : zpc (fX5_parity_14 σ s0) (fun r => (zQ [3, 5, 7, 9, 11, 12, 15, 17, 19, 21, 23, 25, 27, 28, 29, 30, 32, 34, 36, 42, 44] [] [5, 38, 46, 48] []) σ0 (r.1)) := by
  unfold fX5_parity_14
  exact zpc_some h
theorem fc_fX5_parity {σ0 : zSt} {σ : zSt} {x0 : Int32} (h : (zQ [3, 5, 7, 9, 11, 12, 15, 17, 19, 21, 23, 25, 27, 28, 29, 30, 32, 34, 36, 42, 44] [] [5, 38, 46, 48] []) σ0 σ) : zpc (fX5_parity σ x0) (fun r => (zQ [3, 5, 7, 9, 11, 12, 15, 17, 19, 21, 23, 25, 27, 28, 29, 30, 32, 34, 36, 42, 44] [] [5, 38, 46, 48] []) σ0 (r.1)) := by
  unfold fX5_parity
  exact zpc_bi (fc_fJ6_bitCount_0f7a4 h) (fun σ1 v2 hσ1 => zpc_if (fun _ => fc_fX5_parity_14 hσ1) (fun _ => fc_fX5_parity_14 hσ1))
theorem fc_fX5_turn_136 {σ0 : zSt} {σ : zSt} {x4 : Int32} {s0 : Int32} (h : (zQ [3, 5, 7, 9, 11, 12, 15, 17, 19, 21, 23, 25, 27, 28, 29, 30, 32, 34, 36, 42, 44] [] [5, 38, 46, 48] []) σ0 σ) : zpc (fX5_turn_136 σ x4 s0) (fun r => (zQ [3, 5, 7, 9, 11, 12, 15, 17, 19, 21, 23, 25, 27, 28, 29, 30, 32, 34, 36, 42, 44] [] [5, 38, 46, 48] []) σ0 (r.1)) := by
  unfold fX5_turn_136
  exact zpc_bi (fc_fX5_by h) (fun σ1 v2 hσ1 => zpc_bi (fc_fX5_parity hσ1) (fun σ3 v4 hσ3 => zpc_ck (zpc_bs (zQ.wi hσ3 rfl) (fun σ5 hσ5 => zpc_some hσ5))))
theorem fc_fX5_turn_110 {σ0 : zSt} {σ : zSt} {x2 : Int32} {x3 : Int32} {x4 : Int32} {x5 : Int32} (h : (zQ [3, 5, 7, 9, 11, 12, 15, 17, 19, 21, 23, 25, 27, 28, 29, 30, 32, 34, 36, 42, 44] [] [5, 38, 46, 48] []) σ0 σ) : zpc (fX5_turn_110 σ x2 x3 x4 x5) (fun r => (zQ [3, 5, 7, 9, 11, 12, 15, 17, 19, 21, 23, 25, 27, 28, 29, 30, 32, 34, 36, 42, 44] [] [5, 38, 46, 48] []) σ0 (r.1)) := by
  unfold fX5_turn_110
  exact zpc_if (fun _ => fc_fX5_turn_136 h) (fun _ => fc_fX5_turn_136 h)
theorem fc_fX5_turn_72 {σ0 : zSt} {σ : zSt} {x2 : Int32} {x3 : Int32} {x4 : Int32} (h : (zQ [3, 5, 7, 9, 11, 12, 15, 17, 19, 21, 23, 25, 27, 28, 29, 30, 32, 34, 36, 42, 44] [] [5, 38, 46, 48] []) σ0 σ) : zpc (fX5_turn_72 σ x2 x3 x4) (fun r => (zQ [3, 5, 7, 9, 11, 12, 15, 17, 19, 21, 23, 25, 27, 28, 29, 30, 32, 34, 36, 42, 44] [] [5, 38, 46, 48] []) σ0 (r.1)) := by
  unfold fX5_turn_72
  exact fc_fX5_turn_110 h
theorem fc_fX5_turn_79 {σ0 : zSt} {σ : zSt} {x2 : Int32} {x3 : Int32} {x4 : Int32} (h : (zQ [3, 5, 7, 9, 11, 12, 15, 17, 19, 21, 23, 25, 27, 28, 29, 30, 32, 34, 36, 42, 44] [] [5, 38, 46, 48] []) σ0 σ) : zpc (fX5_turn_79 σ x2 x3 x4) (fun r => (zQ [3, 5, 7, 9, 11, 12, 15, 17, 19, 21, 23, 25, 27, 28, 29, 30, 32, 34, 36, 42, 44] [] [5, 38, 46, 48] []) σ0 (r.1)) := by
  unfold fX5_turn_79
  exact zpc_ck (zpc_bv (fun v6 _ => fc_fX5_turn_110 h))
theorem fc_fX5_turn_107 {σ0 : zSt} {σ : zSt} {x2 : Int32} {x3 : Int32} {x4 : Int32} (h : (zQ [3, 5, 7, 9, 11, 12, 15, 17, 19, 21, 23, 25, 27, 28, 29, 30, 32, 34, 36, 42, 44] [] [5, 38, 46, 48] []) σ0 σ) : zpc (fX5_turn_107 σ x2 x3 x4) (fun r => (zQ [3, 5, 7, 9, 11, 12, 15, 17, 19, 21, 23, 25, 27, 28, 29, 30, 32, 34, 36, 42, 44] [] [5, 38, 46, 48] []) σ0 (r.1)) := by
  unfold fX5_turn_107
  exact fc_fX5_turn_110 h
theorem fc_fX5_turn_26 {σ0 : zSt} {σ : zSt} {x1 : Int32} {x2 : Int32} {x3 : Int32} {s0 : Int32} (h : (zQ [3, 5, 7, 9, 11, 12, 15, 17, 19, 21, 23, 25, 27, 28, 29, 30, 32, 34, 36, 42, 44] [] [5, 38, 46, 48] []) σ0 σ) : zpc (fX5_turn_26 σ x1 x2 x3 s0) (fun r => (zQ [3, 5, 7, 9, 11, 12, 15, 17, 19, 21, 23, 25, 27, 28, 29, 30, 32, 34, 36, 42, 44] [] [5, 38, 46, 48] []) σ0 (r.1)) := by
  unfold fX5_turn_26
  exact zpc_if (fun _ => fc_fX5_turn_72 h) (fun _ => zpc_if (fun _ => fc_fX5_turn_72 h) (fun _ => zpc_if (fun _ => fc_fX5_turn_79 h) (fun _ => zpc_if (fun _ => fc_fX5_turn_79 h) (fun _ => zpc_if (fun _ => fc_fX5_turn_107 h) (fun _ => zpc_if (fun _ => zpc_bv (fun v7 _ => fc_fX5_turn_110 h)) (fun _ => zpc_if (fun _ => fc_fX5_turn_110 h) (fun _ => fc_fX5_turn_107 h)))))))
theorem fc_fX5_turn_11 {σ0 : zSt} {σ : zSt} {x1 : Int32} {x2 : Int32} {s0 : Int32} (h : (zQ [3, 5, 7, 9, 11, 12, 15, 17, 19, 21, 23, 25, 27, 28, 29, 30, 32, 34, 36, 42, 44] [] [5, 38, 46, 48] []) σ0 σ) : zpc (fX5_turn_11 σ x1 x2 s0) (fun r => (zQ [3, 5, 7, 9, 11, 12, 15, 17, 19, 21, 23, 25, 27, 28, 29, 30, 32, 34, 36, 42, 44] [] [5, 38, 46, 48] []) σ0 (r.1)) := by
  unfold fX5_turn_11
  exact zpc_if (fun _ => fc_fX5_turn_26 h) (fun _ => fc_fX5_turn_26 h)
theorem fc_fX5_turn {σ0 : zSt} {σ : zSt} {x1 : Int32} {x2 : Int32} (h : (zQ [3, 5, 7, 9, 11, 12, 15, 17, 19, 21, 23, 25, 27, 28, 29, 30, 32, 34, 36, 42, 44] [] [5, 38, 46, 48] []) σ0 σ) : zpc (fX5_turn σ x1 x2) (fun r => (zQ [3, 5, 7, 9, 11, 12, 15, 17, 19, 21, 23, 25, 27, 28, 29, 30, 32, 34, 36, 42, 44] [] [5, 38, 46, 48] []) σ0 (r.1)) := by
  unfold fX5_turn
  exact zpc_if (fun _ => fc_fX5_turn_11 h) (fun _ => fc_fX5_turn_11 h)
theorem fc_fX5_turned {σ0 : zSt} {σ : zSt} {x1 : Int32} {x2 : Int32} (h : (zQ [3, 5, 7, 9, 11, 12, 15, 17, 19, 21, 23, 25, 27, 28, 29, 30, 32, 34, 36, 42, 44] [] [5, 38, 46, 48] []) σ0 σ) : zpc (fX5_turned σ x1 x2) (fun r => (zQ [3, 5, 7, 9, 11, 12, 15, 17, 19, 21, 23, 25, 27, 28, 29, 30, 32, 34, 36, 42, 44] [] [5, 38, 46, 48] []) σ0 (r.1)) := by
  unfold fX5_turned
  exact zpc_bv (fun v1 _ => zpc_if (fun _ => zpc_bi (fc_fX5_turn h) (fun σ2 v3 hσ2 => zpc_some hσ2)) (fun _ => zpc_if (fun _ => zpc_some h) (fun _ => zpc_some h)))
theorem fc_fX5_putPairHalf_69 {σ0 : zSt} {σ : zSt} (h : (zQ [3, 5, 7, 9, 11, 12, 15, 17, 19, 21, 23, 25, 27, 28, 29, 30, 32, 34, 36, 42, 44] [] [5, 38, 46, 48] []) σ0 σ) : zpc (fX5_putPairHalf_69 σ) (fun r => (zQ [3, 5, 7, 9, 11, 12, 15, 17, 19, 21, 23, 25, 27, 28, 29, 30, 32, 34, 36, 42, 44] [] [5, 38, 46, 48] []) σ0 (r)) := by
  unfold fX5_putPairHalf_69
  exact zpc_some h
theorem fc_fX5_putPairHalf_68 {σ0 : zSt} {σ : zSt} {s0 : Int32} {s1 : Int32} (h : (zQ [3, 5, 7, 9, 11, 12, 15, 17, 19, 21, 23, 25, 27, 28, 29, 30, 32, 34, 36, 42, 44] [] [5, 38, 46, 48] []) σ0 σ) : zpc (fX5_putPairHalf_68 σ s0 s1) (fun r => (zQ [3, 5, 7, 9, 11, 12, 15, 17, 19, 21, 23, 25, 27, 28, 29, 30, 32, 34, 36, 42, 44] [] [5, 38, 46, 48] []) σ0 (r)) := by
  unfold fX5_putPairHalf_68
  exact zpc_ck (zpc_bs (zQ.wi h rfl) (fun σ1 hσ1 => fc_fX5_putPairHalf_69 hσ1))
theorem fc_fX5_putPairHalf {σ0 : zSt} {σ : zSt} {x1 : Int32} {x2 : Int32} (h : (zQ [3, 5, 7, 9, 11, 12, 15, 17, 19, 21, 23, 25, 27, 28, 29, 30, 32, 34, 36, 42, 44] [] [5, 38, 46, 48] []) σ0 σ) : zpc (fX5_putPairHalf σ x1 x2) (fun r => (zQ [3, 5, 7, 9, 11, 12, 15, 17, 19, 21, 23, 25, 27, 28, 29, 30, 32, 34, 36, 42, 44] [] [5, 38, 46, 48] []) σ0 (r)) := by
  unfold fX5_putPairHalf
  exact zpc_if (fun _ => zpc_ck (zpc_bs (zQ.wi h rfl) (fun σ2 hσ2 => fc_fX5_putPairHalf_69 hσ2))) (fun _ => zpc_if (fun _ => zpc_ck (fc_fX5_putPairHalf_68 h)) (fun _ => zpc_ck (fc_fX5_putPairHalf_68 h)))
theorem fc_fX5_putOne_88 {σ0 : zSt} {σ : zSt} (h : (zQ [3, 5, 7, 9, 11, 12, 15, 17, 19, 21, 23, 25, 27, 28, 29, 30, 32, 34, 36, 42, 44] [] [5, 38, 46, 48] []) σ0 σ) : zpc (fX5_putOne_88 σ) (fun r => (zQ [3, 5, 7, 9, 11, 12, 15, 17, 19, 21, 23, 25, 27, 28, 29, 30, 32, 34, 36, 42, 44] [] [5, 38, 46, 48] []) σ0 (r)) := by
  unfold fX5_putOne_88
  exact zpc_some h
theorem fc_fX5_putOne {σ0 : zSt} {σ : zSt} {x1 : Int32} {x2 : Int32} (h : (zQ [3, 5, 7, 9, 11, 12, 15, 17, 19, 21, 23, 25, 27, 28, 29, 30, 32, 34, 36, 42, 44] [] [5, 38, 46, 48] []) σ0 σ) : zpc (fX5_putOne σ x1 x2) (fun r => (zQ [3, 5, 7, 9, 11, 12, 15, 17, 19, 21, 23, 25, 27, 28, 29, 30, 32, 34, 36, 42, 44] [] [5, 38, 46, 48] []) σ0 (r)) := by
  unfold fX5_putOne
  exact zpc_if (fun _ => zpc_bu (fc_fX5_putPairHalf h) (fun σ1 hσ1 => fc_fX5_putOne_88 hσ1)) (fun _ => zpc_if (fun _ => zpc_bu (fc_fX5_putPairHalf h) (fun σ2 hσ2 => fc_fX5_putOne_88 hσ2)) (fun _ => zpc_if (fun _ => zpc_bu (fc_fX2_write h) (fun σ3 hσ3 => fc_fX5_putOne_88 hσ3)) (fun _ => zpc_if (fun _ => zpc_ck (zpc_bs (zQ.wi h rfl) (fun σ4 hσ4 => fc_fX5_putOne_88 hσ4))) (fun _ => zpc_ck (zpc_bs (zQ.wi h rfl) (fun σ5 hσ5 => fc_fX5_putOne_88 hσ5))))))
theorem fc_fX5_turnBeside_128 {σ0 : zSt} {σ : zSt} (h : (zQ [3, 5, 7, 9, 11, 12, 15, 17, 19, 21, 23, 25, 27, 28, 29, 30, 32, 34, 36, 42, 44] [] [5, 38, 46, 48] []) σ0 σ) : zpc (fX5_turnBeside_128 σ) (fun r => (zQ [3, 5, 7, 9, 11, 12, 15, 17, 19, 21, 23, 25, 27, 28, 29, 30, 32, 34, 36, 42, 44] [] [5, 38, 46, 48] []) σ0 (r.1)) := by
  unfold fX5_turnBeside_128
  exact zpc_some h
theorem fc_fX5_turnBeside {σ0 : zSt} {σ : zSt} (h : (zQ [3, 5, 7, 9, 11, 12, 15, 17, 19, 21, 23, 25, 27, 28, 29, 30, 32, 34, 36, 42, 44] [] [5, 38, 46, 48] []) σ0 σ) : zpc (fX5_turnBeside σ) (fun r => (zQ [3, 5, 7, 9, 11, 12, 15, 17, 19, 21, 23, 25, 27, 28, 29, 30, 32, 34, 36, 42, 44] [] [5, 38, 46, 48] []) σ0 (r.1)) := by
  unfold fX5_turnBeside
  exact zpc_ck (zpc_bi (fc_fX5_fetch h) (fun σ1 v2 hσ1 => zpc_ck (zpc_bs (zQ.wi hσ1 rfl) (fun σ3 hσ3 => zpc_ck (zpc_bs (zQ.wi hσ3 rfl) (fun σ4 hσ4 => zpc_bs (zQ.wi hσ4 rfl) (fun σ5 hσ5 => zpc_bi (fc_fX5_fetch hσ5) (fun σ6 v7 hσ6 => zpc_bi (fc_fX2_read hσ6) (fun σ8 v9 hσ8 => zpc_if (fun _ => zpc_ck (zpc_bu (fc_fX5_askBit hσ8) (fun σ14 hσ14 => zpc_some hσ14))) (fun _ => zpc_bi (fc_fX5_turned hσ8) (fun σ10 v11 hσ10 => zpc_bu (fc_fX2_write hσ10) (fun σ12 hσ12 => zpc_if (fun _ => fc_fX5_turnBeside_128 hσ12) (fun _ => zpc_bu (fc_fX5_putOne hσ12) (fun σ13 hσ13 => fc_fX5_turnBeside_128 hσ13))))))))))))))
theorem fc_fX5_meansPlace_97 {σ0 : zSt} {σ : zSt} {s0 : Int32} (h : (zQ [3, 5, 7, 9, 11, 12, 15, 17, 19, 21, 23, 25, 27, 28, 29, 30, 32, 34, 36, 42, 44] [] [5, 38, 46, 48] []) σ0 σ) : zpc (fX5_meansPlace_97 σ s0) (fun r => (zQ [3, 5, 7, 9, 11, 12, 15, 17, 19, 21, 23, 25, 27, 28, 29, 30, 32, 34, 36, 42, 44] [] [5, 38, 46, 48] []) σ0 (r.1)) := by
  unfold fX5_meansPlace_97
  exact zpc_ck (zpc_some h)
theorem fc_fX5_meansPlace_86 {σ0 : zSt} {σ : zSt} {s0 : Int32} (h : (zQ [3, 5, 7, 9, 11, 12, 15, 17, 19, 21, 23, 25, 27, 28, 29, 30, 32, 34, 36, 42, 44] [] [5, 38, 46, 48] []) σ0 σ) : zpc (fX5_meansPlace_86 σ s0) (fun r => (zQ [3, 5, 7, 9, 11, 12, 15, 17, 19, 21, 23, 25, 27, 28, 29, 30, 32, 34, 36, 42, 44] [] [5, 38, 46, 48] []) σ0 (r.1)) := by
  unfold fX5_meansPlace_86
  exact zpc_ck (zpc_some h)
theorem fc_fX5_meansPlace_85 {σ0 : zSt} {σ : zSt} (h : (zQ [3, 5, 7, 9, 11, 12, 15, 17, 19, 21, 23, 25, 27, 28, 29, 30, 32, 34, 36, 42, 44] [] [5, 38, 46, 48] []) σ0 σ) : zpc (fX5_meansPlace_85 σ) (fun r => (zQ [3, 5, 7, 9, 11, 12, 15, 17, 19, 21, 23, 25, 27, 28, 29, 30, 32, 34, 36, 42, 44] [] [5, 38, 46, 48] []) σ0 (r.1)) := by
  unfold fX5_meansPlace_85
  exact fc_fX5_meansPlace_86 h
theorem fc_fX5_meansPlace_29 {σ0 : zSt} {σ : zSt} {x0 : Int32} {x1 : Int32} {s0 : Int32} (h : (zQ [3, 5, 7, 9, 11, 12, 15, 17, 19, 21, 23, 25, 27, 28, 29, 30, 32, 34, 36, 42, 44] [] [5, 38, 46, 48] []) σ0 σ) : zpc (fX5_meansPlace_29 σ x0 x1 s0) (fun r => (zQ [3, 5, 7, 9, 11, 12, 15, 17, 19, 21, 23, 25, 27, 28, 29, 30, 32, 34, 36, 42, 44] [] [5, 38, 46, 48] []) σ0 (r.1)) := by
  unfold fX5_meansPlace_29
  exact zpc_if (fun _ => zpc_if (fun _ => fc_fX5_meansPlace_85 h) (fun _ => zpc_if (fun _ => fc_fX5_meansPlace_85 h) (fun _ => zpc_if (fun _ => fc_fX5_meansPlace_85 h) (fun _ => fc_fX5_meansPlace_86 h)))) (fun _ => zpc_if (fun _ => zpc_if (fun _ => fc_fX5_meansPlace_97 h) (fun _ => fc_fX5_meansPlace_97 h)) (fun _ => zpc_if (fun _ => zpc_ck (zpc_some h)) (fun _ => zpc_ck (zpc_some h))))
theorem fc_fX5_meansPlace_14 {σ0 : zSt} {σ : zSt} {x0 : Int32} {s0 : Int32} (h : (zQ [3, 5, 7, 9, 11, 12, 15, 17, 19, 21, 23, 25, 27, 28, 29, 30, 32, 34, 36, 42, 44] [] [5, 38, 46, 48] []) σ0 σ) : zpc (fX5_meansPlace_14 σ x0 s0) (fun r => (zQ [3, 5, 7, 9, 11, 12, 15, 17, 19, 21, 23, 25, 27, 28, 29, 30, 32, 34, 36, 42, 44] [] [5, 38, 46, 48] []) σ0 (r.1)) := by
  unfold fX5_meansPlace_14
  exact zpc_if (fun _ => fc_fX5_meansPlace_29 h) (fun _ => fc_fX5_meansPlace_29 h)
theorem fc_fX5_meansPlace {σ0 : zSt} {σ : zSt} {x0 : Int32} (h : (zQ [3, 5, 7, 9, 11, 12, 15, 17, 19, 21, 23, 25, 27, 28, 29, 30, 32, 34, 36, 42, 44] [] [5, 38, 46, 48] []) σ0 σ) : zpc (fX5_meansPlace σ x0) (fun r => (zQ [3, 5, 7, 9, 11, 12, 15, 17, 19, 21, 23, 25, 27, 28, 29, 30, 32, 34, 36, 42, 44] [] [5, 38, 46, 48] []) σ0 (r.1)) := by
  unfold fX5_meansPlace
  exact zpc_if (fun _ => fc_fX5_meansPlace_14 h) (fun _ => fc_fX5_meansPlace_14 h)
theorem fc_fX5_takePlace_64 {σ0 : zSt} {σ : zSt} {s0 : Int32} (h : (zQ [3, 5, 7, 9, 11, 12, 15, 17, 19, 21, 23, 25, 27, 28, 29, 30, 32, 34, 36, 42, 44] [] [5, 38, 46, 48] []) σ0 σ) : zpc (fX5_takePlace_64 σ s0) (fun r => (zQ [3, 5, 7, 9, 11, 12, 15, 17, 19, 21, 23, 25, 27, 28, 29, 30, 32, 34, 36, 42, 44] [] [5, 38, 46, 48] []) σ0 (r.1)) := by
  unfold fX5_takePlace_64
  exact zpc_some h
theorem fc_fX5_takePlace {σ0 : zSt} {σ : zSt} {x1 : Int32} (h : (zQ [3, 5, 7, 9, 11, 12, 15, 17, 19, 21, 23, 25, 27, 28, 29, 30, 32, 34, 36, 42, 44] [] [5, 38, 46, 48] []) σ0 σ) : zpc (fX5_takePlace σ x1) (fun r => (zQ [3, 5, 7, 9, 11, 12, 15, 17, 19, 21, 23, 25, 27, 28, 29, 30, 32, 34, 36, 42, 44] [] [5, 38, 46, 48] []) σ0 (r.1)) := by
  unfold fX5_takePlace
  exact zpc_bi (fc_fX5_meansPlace h) (fun σ1 v2 hσ1 => zpc_if (fun _ => zpc_some hσ1) (fun _ => zpc_ck (zpc_bi (fc_fX5_fetch hσ1) (fun σ3 v4 hσ3 => zpc_ck (zpc_bs (zQ.wi hσ3 rfl) (fun σ5 hσ5 => zpc_ck (zpc_bs (zQ.wi hσ5 rfl) (fun σ6 hσ6 => zpc_bs (zQ.wi hσ6 rfl) (fun σ7 hσ7 => zpc_if (fun _ => fc_fX5_takePlace_64 hσ7) (fun _ => fc_fX5_takePlace_64 hσ7))))))))))
theorem fc_fX5_one_96 {σ0 : zSt} {σ : zSt} {s0 : Int32} (h : (zQ [3, 5, 7, 9, 11, 12, 15, 17, 19, 21, 23, 25, 27, 28, 29, 30, 32, 34, 36, 42, 44] [] [5, 38, 46, 48] []) σ0 σ) : zpc (fX5_one_96 σ s0) (fun r => (zQ [3, 5, 7, 9, 11, 12, 15, 17, 19, 21, 23, 25, 27, 28, 29, 30, 32, 34, 36, 42, 44] [] [5, 38, 46, 48] []) σ0 (r.1)) := by
  unfold fX5_one_96
  exact zpc_some h
theorem fc_fX5_one_63 {σ0 : zSt} {σ : zSt} {s0 : Int32} (h : (zQ [3, 5, 7, 9, 11, 12, 15, 17, 19, 21, 23, 25, 27, 28, 29, 30, 32, 34, 36, 42, 44] [] [5, 38, 46, 48] []) σ0 σ) : zpc (fX5_one_63 σ s0) (fun r => (zQ [3, 5, 7, 9, 11, 12, 15, 17, 19, 21, 23, 25, 27, 28, 29, 30, 32, 34, 36, 42, 44] [] [5, 38, 46, 48] []) σ0 (r.1)) := by
  unfold fX5_one_63
  exact zpc_some h
theorem fc_fX5_one {σ0 : zSt} {σ : zSt} {x1 : Int32} (h : (zQ [3, 5, 7, 9, 11, 12, 15, 17, 19, 21, 23, 25, 27, 28, 29, 30, 32, 34, 36, 42, 44] [] [5, 38, 46, 48] []) σ0 σ) : zpc (fX5_one σ x1) (fun r => (zQ [3, 5, 7, 9, 11, 12, 15, 17, 19, 21, 23, 25, 27, 28, 29, 30, 32, 34, 36, 42, 44] [] [5, 38, 46, 48] []) σ0 (r.1)) := by
  unfold fX5_one
  exact zpc_if (fun _ => zpc_if (fun _ => zpc_ck (fc_fX5_one_63 h)) (fun _ => zpc_ck (fc_fX5_one_63 h))) (fun _ => zpc_if (fun _ => zpc_if (fun _ => zpc_ck (fc_fX5_one_96 h)) (fun _ => zpc_ck (fc_fX5_one_96 h))) (fun _ => zpc_if (fun _ => zpc_bi (fc_fX2_read h) (fun σ1 v2 hσ1 => zpc_some hσ1)) (fun _ => zpc_if (fun _ => zpc_ck (zpc_some h)) (fun _ => zpc_ck (zpc_some h)))))
theorem fc_fX5_turns_63 {σ0 : zSt} {σ : zSt} {s0 : Int32} (h : (zQ [3, 5, 7, 9, 11, 12, 15, 17, 19, 21, 23, 25, 27, 28, 29, 30, 32, 34, 36, 42, 44] [] [5, 38, 46, 48] []) σ0 σ) : zpc (fX5_turns_63 σ s0) (fun r => (zQ [3, 5, 7, 9, 11, 12, 15, 17, 19, 21, 23, 25, 27, 28, 29, 30, 32, 34, 36, 42, 44] [] [5, 38, 46, 48] []) σ0 (r.1)) := by
  unfold fX5_turns_63
  exact zpc_some h
theorem fc_fX5_turns_47 {σ0 : zSt} {σ : zSt} {x2 : Int32} {s0 : Int32} {s1 : Int32} {s2 : Int32} (h : (zQ [3, 5, 7, 9, 11, 12, 15, 17, 19, 21, 23, 25, 27, 28, 29, 30, 32, 34, 36, 42, 44] [] [5, 38, 46, 48] []) σ0 σ) : zpc (fX5_turns_47 σ x2 s0 s1 s2) (fun r => (zQ [3, 5, 7, 9, 11, 12, 15, 17, 19, 21, 23, 25, 27, 28, 29, 30, 32, 34, 36, 42, 44] [] [5, 38, 46, 48] []) σ0 (r.1)) := by
  unfold fX5_turns_47
  exact zpc_bu (fc_fX5_askBit h) (fun σ1 hσ1 => zpc_if (fun _ => fc_fX5_turns_63 hσ1) (fun _ => fc_fX5_turns_63 hσ1))
theorem fc_fX5_turns_88 {σ0 : zSt} {σ : zSt} {s0 : Int32} (h : (zQ [3, 5, 7, 9, 11, 12, 15, 17, 19, 21, 23, 25, 27, 28, 29, 30, 32, 34, 36, 42, 44] [] [5, 38, 46, 48] []) σ0 σ) : zpc (fX5_turns_88 σ s0) (fun r => (zQ [3, 5, 7, 9, 11, 12, 15, 17, 19, 21, 23, 25, 27, 28, 29, 30, 32, 34, 36, 42, 44] [] [5, 38, 46, 48] []) σ0 (r.1)) := by
  unfold fX5_turns_88
  exact zpc_some h
theorem fc_fX5_turns {σ0 : zSt} {σ : zSt} {x1 : Int32} (h : (zQ [3, 5, 7, 9, 11, 12, 15, 17, 19, 21, 23, 25, 27, 28, 29, 30, 32, 34, 36, 42, 44] [] [5, 38, 46, 48] []) σ0 σ) : zpc (fX5_turns σ x1) (fun r => (zQ [3, 5, 7, 9, 11, 12, 15, 17, 19, 21, 23, 25, 27, 28, 29, 30, 32, 34, 36, 42, 44] [] [5, 38, 46, 48] []) σ0 (r.1)) := by
  unfold fX5_turns
  exact zpc_bv (fun v2 _ => zpc_bi (fc_fX5_one h) (fun σ3 v4 hσ3 => zpc_if (fun _ => zpc_if (fun _ => zpc_ck (fc_fX5_turns_47 hσ3)) (fun _ => fc_fX5_turns_47 hσ3)) (fun _ => zpc_bi (fc_fX5_turned hσ3) (fun σ5 v6 hσ5 => zpc_bu (fc_fX5_putOne hσ5) (fun σ7 hσ7 => zpc_if (fun _ => fc_fX5_turns_88 hσ7) (fun _ => fc_fX5_turns_88 hσ7))))))
theorem fc_fX5_putPairAt {σ0 : zSt} {σ : zSt} {x1 : Int32} {x2 : Int32} (h : (zQ [3, 5, 7, 9, 11, 12, 15, 17, 19, 21, 23, 25, 27, 28, 29, 30, 32, 34, 36, 42, 44] [] [5, 38, 46, 48] []) σ0 σ) : zpc (fX5_putPairAt σ x1 x2) (fun r => (zQ [3, 5, 7, 9, 11, 12, 15, 17, 19, 21, 23, 25, 27, 28, 29, 30, 32, 34, 36, 42, 44] [] [5, 38, 46, 48] []) σ0 (r)) := by
  unfold fX5_putPairAt
  exact zpc_ck (zpc_bs (zQ.wi h rfl) (fun σ1 hσ1 => zpc_ck (zpc_bs (zQ.wi hσ1 rfl) (fun σ2 hσ2 => zpc_some hσ2))))
theorem fc_fX5_tellOfPort_34 {σ0 : zSt} {σ : zSt} {x2 : Int32} {s0 : Int32} {s1 : Int32} {s2 : Int32} (h : (zQ [3, 5, 7, 9, 11, 12, 15, 17, 19, 21, 23, 25, 27, 28, 29, 30, 32, 34, 36, 42, 44] [] [5, 38, 46, 48] []) σ0 σ) : zpc (fX5_tellOfPort_34 σ x2 s0 s1 s2) (fun r => (zQ [3, 5, 7, 9, 11, 12, 15, 17, 19, 21, 23, 25, 27, 28, 29, 30, 32, 34, 36, 42, 44] [] [5, 38, 46, 48] []) σ0 (r)) := by
  unfold fX5_tellOfPort_34
  exact zpc_ck (zpc_bi (fc_fX5_parity h) (fun σ1 v2 hσ1 => zpc_ck (zpc_bs (zQ.wi hσ1 rfl) (fun σ3 hσ3 => zpc_some hσ3))))
theorem fc_fX5_tellOfPort {σ0 : zSt} {σ : zSt} {x1 : Int32} {x2 : Int32} (h : (zQ [3, 5, 7, 9, 11, 12, 15, 17, 19, 21, 23, 25, 27, 28, 29, 30, 32, 34, 36, 42, 44] [] [5, 38, 46, 48] []) σ0 σ) : zpc (fX5_tellOfPort σ x1 x2) (fun r => (zQ [3, 5, 7, 9, 11, 12, 15, 17, 19, 21, 23, 25, 27, 28, 29, 30, 32, 34, 36, 42, 44] [] [5, 38, 46, 48] []) σ0 (r)) := by
  unfold fX5_tellOfPort
  exact zpc_ck (zpc_bi (fc_fX5_by h) (fun σ4 v5 hσ4 => zpc_if (fun _ => fc_fX5_tellOfPort_34 hσ4) (fun _ => fc_fX5_tellOfPort_34 hσ4)))
theorem fc_fX5_giveOne_105 {σ0 : zSt} {σ : zSt} {s0 : Int32} (h : (zQ [3, 5, 7, 9, 11, 12, 15, 17, 19, 21, 23, 25, 27, 28, 29, 30, 32, 34, 36, 42, 44] [] [5, 38, 46, 48] []) σ0 σ) : zpc (fX5_giveOne_105 σ s0) (fun r => (zQ [3, 5, 7, 9, 11, 12, 15, 17, 19, 21, 23, 25, 27, 28, 29, 30, 32, 34, 36, 42, 44] [] [5, 38, 46, 48] []) σ0 (r.1)) := by
  unfold fX5_giveOne_105
  exact zpc_ck (zpc_some h)
theorem fc_fX5_giveOne {σ0 : zSt} {σ : zSt} {x1 : Int32} (h : (zQ [3, 5, 7, 9, 11, 12, 15, 17, 19, 21, 23, 25, 27, 28, 29, 30, 32, 34, 36, 42, 44] [] [5, 38, 46, 48] []) σ0 σ) : zpc (fX5_giveOne σ x1) (fun r => (zQ [3, 5, 7, 9, 11, 12, 15, 17, 19, 21, 23, 25, 27, 28, 29, 30, 32, 34, 36, 42, 44] [] [5, 38, 46, 48] []) σ0 (r.1)) := by
  unfold fX5_giveOne
  exact zpc_bi (fc_fX5_pairAt h) (fun σ1 v2 hσ1 => zpc_bi (fc_fX2_read hσ1) (fun σ3 v4 hσ3 => zpc_ck (zpc_ck (zpc_bs (zQ.wi hσ3 rfl) (fun σ5 hσ5 => zpc_ck (zpc_bu (fc_fX4_write hσ5) (fun σ6 hσ6 => zpc_bi (fc_fX5_pairAt hσ6) (fun σ7 v8 hσ7 => zpc_bu (fc_fX5_putPairAt hσ7) (fun σ9 hσ9 => zpc_bi (fc_fX5_pairAt hσ9) (fun σ10 v11 hσ10 => zpc_ck (zpc_bs (zQ.wi hσ10 rfl) (fun σ12 hσ12 => zpc_ck (zpc_bu (fc_fX5_tellOfPort hσ12) (fun σ13 hσ13 => zpc_ck (zpc_if (fun _ => fc_fX5_giveOne_105 hσ13) (fun _ => fc_fX5_giveOne_105 hσ13))))))))))))))))
theorem fc_fX5_takeOne_110 {σ0 : zSt} {σ : zSt} {s0 : Int32} (h : (zQ [3, 5, 7, 9, 11, 12, 15, 17, 19, 21, 23, 25, 27, 28, 29, 30, 32, 34, 36, 42, 44] [] [5, 38, 46, 48] []) σ0 σ) : zpc (fX5_takeOne_110 σ s0) (fun r => (zQ [3, 5, 7, 9, 11, 12, 15, 17, 19, 21, 23, 25, 27, 28, 29, 30, 32, 34, 36, 42, 44] [] [5, 38, 46, 48] []) σ0 (r.1)) := by
  unfold fX5_takeOne_110
  exact zpc_ck (zpc_some h)
theorem fc_fX5_takeOne {σ0 : zSt} {σ : zSt} {x1 : Int32} (h : (zQ [3, 5, 7, 9, 11, 12, 15, 17, 19, 21, 23, 25, 27, 28, 29, 30, 32, 34, 36, 42, 44] [] [5, 38, 46, 48] []) σ0 σ) : zpc (fX5_takeOne σ x1) (fun r => (zQ [3, 5, 7, 9, 11, 12, 15, 17, 19, 21, 23, 25, 27, 28, 29, 30, 32, 34, 36, 42, 44] [] [5, 38, 46, 48] []) σ0 (r.1)) := by
  unfold fX5_takeOne
  exact zpc_bi (fc_fX5_pairAt h) (fun σ1 v2 hσ1 => zpc_ck (zpc_bs (zQ.wi hσ1 rfl) (fun σ3 hσ3 => zpc_ck (zpc_bi (fc_fX4_read hσ3) (fun σ4 v5 hσ4 => zpc_ck (zpc_ck (zpc_bs (zQ.wi hσ4 rfl) (fun σ6 hσ6 => zpc_bi (fc_fX5_pairAt hσ6) (fun σ7 v8 hσ7 => zpc_bu (fc_fX2_write hσ7) (fun σ9 hσ9 => zpc_bi (fc_fX5_pairAt hσ9) (fun σ10 v11 hσ10 => zpc_bu (fc_fX5_putPairAt hσ10) (fun σ12 hσ12 => zpc_ck (zpc_bu (fc_fX5_tellOfPort hσ12) (fun σ13 hσ13 => zpc_ck (zpc_if (fun _ => fc_fX5_takeOne_110 hσ13) (fun _ => fc_fX5_takeOne_110 hσ13))))))))))))))))
theorem fc_fX5_compareOne_184 {σ0 : zSt} {σ : zSt} {s0 : Int32} (h : (zQ [3, 5, 7, 9, 11, 12, 15, 17, 19, 21, 23, 25, 27, 28, 29, 30, 32, 34, 36, 42, 44] [] [5, 38, 46, 48] []) σ0 σ) : zpc (fX5_compareOne_184 σ s0) (fun r => (zQ [3, 5, 7, 9, 11, 12, 15, 17, 19, 21, 23, 25, 27, 28, 29, 30, 32, 34, 36, 42, 44] [] [5, 38, 46, 48] []) σ0 (r.1)) := by
  unfold fX5_compareOne_184
  exact zpc_ck (zpc_some h)
theorem fc_fX5_compareOne_183 {σ0 : zSt} {σ : zSt} (h : (zQ [3, 5, 7, 9, 11, 12, 15, 17, 19, 21, 23, 25, 27, 28, 29, 30, 32, 34, 36, 42, 44] [] [5, 38, 46, 48] []) σ0 σ) : zpc (fX5_compareOne_183 σ) (fun r => (zQ [3, 5, 7, 9, 11, 12, 15, 17, 19, 21, 23, 25, 27, 28, 29, 30, 32, 34, 36, 42, 44] [] [5, 38, 46, 48] []) σ0 (r.1)) := by
  unfold fX5_compareOne_183
  exact fc_fX5_compareOne_184 h
theorem fc_fX5_compareOne_166 {σ0 : zSt} {σ : zSt} {x3 : Int32} {x5 : Int32} {s0 : Int32} {s1 : Int32} {s2 : Int32} (h : (zQ [3, 5, 7, 9, 11, 12, 15, 17, 19, 21, 23, 25, 27, 28, 29, 30, 32, 34, 36, 42, 44] [] [5, 38, 46, 48] []) σ0 σ) : zpc (fX5_compareOne_166 σ x3 x5 s0 s1 s2) (fun r => (zQ [3, 5, 7, 9, 11, 12, 15, 17, 19, 21, 23, 25, 27, 28, 29, 30, 32, 34, 36, 42, 44] [] [5, 38, 46, 48] []) σ0 (r.1)) := by
  unfold fX5_compareOne_166
  exact zpc_ck (zpc_bs (zQ.wi h rfl) (fun σ1 hσ1 => zpc_if (fun _ => fc_fX5_compareOne_183 hσ1) (fun _ => zpc_if (fun _ => fc_fX5_compareOne_183 hσ1) (fun _ => fc_fX5_compareOne_184 hσ1))))
theorem fc_fX5_compareOne_139 {σ0 : zSt} {σ : zSt} {x3 : Int32} {x4 : Int32} {x5 : Int32} {x6 : Int32} {s0 : Int32} {s1 : Int32} {s2 : Int32} (h : (zQ [3, 5, 7, 9, 11, 12, 15, 17, 19, 21, 23, 25, 27, 28, 29, 30, 32, 34, 36, 42, 44] [] [5, 38, 46, 48] []) σ0 σ) : zpc (fX5_compareOne_139 σ x3 x4 x5 x6 s0 s1 s2) (fun r => (zQ [3, 5, 7, 9, 11, 12, 15, 17, 19, 21, 23, 25, 27, 28, 29, 30, 32, 34, 36, 42, 44] [] [5, 38, 46, 48] []) σ0 (r.1)) := by
  unfold fX5_compareOne_139
  exact zpc_if (fun _ => fc_fX5_compareOne_166 h) (fun _ => fc_fX5_compareOne_166 h)
theorem fc_fX5_compareOne_100 {σ0 : zSt} {σ : zSt} {x3 : Int32} {x4 : Int32} {s0 : Int32} (h : (zQ [3, 5, 7, 9, 11, 12, 15, 17, 19, 21, 23, 25, 27, 28, 29, 30, 32, 34, 36, 42, 44] [] [5, 38, 46, 48] []) σ0 σ) : zpc (fX5_compareOne_100 σ x3 x4 s0) (fun r => (zQ [3, 5, 7, 9, 11, 12, 15, 17, 19, 21, 23, 25, 27, 28, 29, 30, 32, 34, 36, 42, 44] [] [5, 38, 46, 48] []) σ0 (r.1)) := by
  unfold fX5_compareOne_100
  exact zpc_bv (fun v2 _ => zpc_ck (zpc_if (fun _ => fc_fX5_compareOne_139 h) (fun _ => fc_fX5_compareOne_139 h)))
theorem fc_fX5_compareOne {σ0 : zSt} {σ : zSt} {x1 : Int32} (h : (zQ [3, 5, 7, 9, 11, 12, 15, 17, 19, 21, 23, 25, 27, 28, 29, 30, 32, 34, 36, 42, 44] [] [5, 38, 46, 48] []) σ0 σ) : zpc (fX5_compareOne σ x1) (fun r => (zQ [3, 5, 7, 9, 11, 12, 15, 17, 19, 21, 23, 25, 27, 28, 29, 30, 32, 34, 36, 42, 44] [] [5, 38, 46, 48] []) σ0 (r.1)) := by
  unfold fX5_compareOne
  exact zpc_bi (fc_fX5_pairAt h) (fun σ3 v4 hσ3 => zpc_bi (fc_fX2_read hσ3) (fun σ5 v6 hσ5 => zpc_ck (zpc_bv (fun v7 _ => zpc_ck (zpc_bv (fun v8 _ => zpc_bi (fc_fX5_pairAt hσ5) (fun σ9 v10 hσ9 => zpc_bu (fc_fX5_putPairAt hσ9) (fun σ11 hσ11 => zpc_bi (fc_fX5_pairAt hσ11) (fun σ12 v13 hσ12 => zpc_bu (fc_fX5_putPairAt hσ12) (fun σ14 hσ14 => zpc_ck (zpc_ck (zpc_bs (zQ.wi hσ14 rfl) (fun σ15 hσ15 => zpc_bi (fc_fX5_pairAt hσ15) (fun σ16 v17 hσ16 => zpc_if (fun _ => fc_fX5_compareOne_100 hσ16) (fun _ => fc_fX5_compareOne_100 hσ16)))))))))))))))
theorem fc_fX5_copyOne_126 {σ0 : zSt} {σ : zSt} {x3 : Int32} {s0 : Int32} {s1 : Int32} {s2 : Int32} (h : (zQ [3, 5, 7, 9, 11, 12, 15, 17, 19, 21, 23, 25, 27, 28, 29, 30, 32, 34, 36, 42, 44] [] [5, 38, 46, 48] []) σ0 σ) : zpc (fX5_copyOne_126 σ x3 s0 s1 s2) (fun r => (zQ [3, 5, 7, 9, 11, 12, 15, 17, 19, 21, 23, 25, 27, 28, 29, 30, 32, 34, 36, 42, 44] [] [5, 38, 46, 48] []) σ0 (r.1)) := by
  unfold fX5_copyOne_126
  exact zpc_ck (zpc_bs (zQ.wi h rfl) (fun σ1 hσ1 => zpc_ck (zpc_some hσ1)))
theorem fc_fX5_copyOne_78 {σ0 : zSt} {σ : zSt} {x2 : Int32} {s0 : Int32} (h : (zQ [3, 5, 7, 9, 11, 12, 15, 17, 19, 21, 23, 25, 27, 28, 29, 30, 32, 34, 36, 42, 44] [] [5, 38, 46, 48] []) σ0 σ) : zpc (fX5_copyOne_78 σ x2 s0) (fun r => (zQ [3, 5, 7, 9, 11, 12, 15, 17, 19, 21, 23, 25, 27, 28, 29, 30, 32, 34, 36, 42, 44] [] [5, 38, 46, 48] []) σ0 (r.1)) := by
  unfold fX5_copyOne_78
  exact zpc_ck (zpc_bv (fun v2 _ => zpc_ck (zpc_if (fun _ => fc_fX5_copyOne_126 h) (fun _ => fc_fX5_copyOne_126 h))))
theorem fc_fX5_copyOne {σ0 : zSt} {σ : zSt} {x1 : Int32} (h : (zQ [3, 5, 7, 9, 11, 12, 15, 17, 19, 21, 23, 25, 27, 28, 29, 30, 32, 34, 36, 42, 44] [] [5, 38, 46, 48] []) σ0 σ) : zpc (fX5_copyOne σ x1) (fun r => (zQ [3, 5, 7, 9, 11, 12, 15, 17, 19, 21, 23, 25, 27, 28, 29, 30, 32, 34, 36, 42, 44] [] [5, 38, 46, 48] []) σ0 (r.1)) := by
  unfold fX5_copyOne
  exact zpc_bi (fc_fX5_pairAt h) (fun σ3 v4 hσ3 => zpc_bi (fc_fX2_read hσ3) (fun σ5 v6 hσ5 => zpc_bi (fc_fX5_pairAt hσ5) (fun σ7 v8 hσ7 => zpc_bu (fc_fX2_write hσ7) (fun σ9 hσ9 => zpc_bi (fc_fX5_pairAt hσ9) (fun σ10 v11 hσ10 => zpc_bu (fc_fX5_putPairAt hσ10) (fun σ12 hσ12 => zpc_bi (fc_fX5_pairAt hσ12) (fun σ13 v14 hσ13 => zpc_bu (fc_fX5_putPairAt hσ13) (fun σ15 hσ15 => zpc_bi (fc_fX5_pairAt hσ15) (fun σ16 v17 hσ16 => zpc_bu (fc_fX5_putPairAt hσ16) (fun σ18 hσ18 => zpc_bi (fc_fX5_pairAt hσ18) (fun σ19 v20 hσ19 => zpc_if (fun _ => fc_fX5_copyOne_78 hσ19) (fun _ => fc_fX5_copyOne_78 hσ19))))))))))))
theorem fc_fX5_block_88 {σ0 : zSt} {σ : zSt} (h : (zQ [3, 5, 7, 9, 11, 12, 15, 17, 19, 21, 23, 25, 27, 28, 29, 30, 32, 34, 36, 42, 44] [] [5, 38, 46, 48] []) σ0 σ) : zpc (fX5_block_88 σ) (fun r => (zQ [3, 5, 7, 9, 11, 12, 15, 17, 19, 21, 23, 25, 27, 28, 29, 30, 32, 34, 36, 42, 44] [] [5, 38, 46, 48] []) σ0 (r.1)) := by
  unfold fX5_block_88
  exact zpc_some h
theorem fc_fX5_block_135 {σ0 : zSt} {σ : zSt} (h : (zQ [3, 5, 7, 9, 11, 12, 15, 17, 19, 21, 23, 25, 27, 28, 29, 30, 32, 34, 36, 42, 44] [] [5, 38, 46, 48] []) σ0 σ) : zpc (fX5_block_135 σ) (fun r => (zQ [3, 5, 7, 9, 11, 12, 15, 17, 19, 21, 23, 25, 27, 28, 29, 30, 32, 34, 36, 42, 44] [] [5, 38, 46, 48] []) σ0 (r.1)) := by
  unfold fX5_block_135
  exact zpc_some h
theorem fc_fX5_block_77 {σ0 : zSt} {σ : zSt} {x1 : Int32} {x3 : Int32} (h : (zQ [3, 5, 7, 9, 11, 12, 15, 17, 19, 21, 23, 25, 27, 28, 29, 30, 32, 34, 36, 42, 44] [] [5, 38, 46, 48] []) σ0 σ) : zpc (fX5_block_77 σ x1 x3) (fun r => (zQ [3, 5, 7, 9, 11, 12, 15, 17, 19, 21, 23, 25, 27, 28, 29, 30, 32, 34, 36, 42, 44] [] [5, 38, 46, 48] []) σ0 (r.1)) := by
  unfold fX5_block_77
  exact zpc_if (fun _ => fc_fX5_block_88 h) (fun _ => zpc_if (fun _ => fc_fX5_block_88 h) (fun _ => zpc_ck (zpc_ck (zpc_bs (zQ.wi h rfl) (fun σ1 hσ1 => zpc_if (fun _ => zpc_ck (zpc_ck (zpc_bs (zQ.wi hσ1 rfl) (fun σ2 hσ2 => fc_fX5_block_135 hσ2)))) (fun _ => fc_fX5_block_135 hσ1))))))
theorem fc_fX5_block_12 {σ0 : zSt} {σ : zSt} {x1 : Int32} {s0 : Int32} (h : (zQ [3, 5, 7, 9, 11, 12, 15, 17, 19, 21, 23, 25, 27, 28, 29, 30, 32, 34, 36, 42, 44] [] [5, 38, 46, 48] []) σ0 σ) : zpc (fX5_block_12 σ x1 s0) (fun r => (zQ [3, 5, 7, 9, 11, 12, 15, 17, 19, 21, 23, 25, 27, 28, 29, 30, 32, 34, 36, 42, 44] [] [5, 38, 46, 48] []) σ0 (r.1)) := by
  unfold fX5_block_12
  exact zpc_if (fun _ => zpc_bi (fc_fX5_copyOne h) (fun σ3 v4 hσ3 => fc_fX5_block_77 hσ3)) (fun _ => zpc_if (fun _ => zpc_bi (fc_fX5_compareOne h) (fun σ5 v6 hσ5 => fc_fX5_block_77 hσ5)) (fun _ => zpc_if (fun _ => zpc_bi (fc_fX5_takeOne h) (fun σ7 v8 hσ7 => fc_fX5_block_77 hσ7)) (fun _ => zpc_bi (fc_fX5_giveOne h) (fun σ9 v10 hσ9 => fc_fX5_block_77 hσ9))))
theorem fc_fX5_block {σ0 : zSt} {σ : zSt} {x1 : Int32} (h : (zQ [3, 5, 7, 9, 11, 12, 15, 17, 19, 21, 23, 25, 27, 28, 29, 30, 32, 34, 36, 42, 44] [] [5, 38, 46, 48] []) σ0 σ) : zpc (fX5_block σ x1) (fun r => (zQ [3, 5, 7, 9, 11, 12, 15, 17, 19, 21, 23, 25, 27, 28, 29, 30, 32, 34, 36, 42, 44] [] [5, 38, 46, 48] []) σ0 (r.1)) := by
  unfold fX5_block
  exact zpc_if (fun _ => fc_fX5_block_12 h) (fun _ => fc_fX5_block_12 h)
theorem fc_fX5_turnDigits_102 {σ0 : zSt} {σ : zSt} {s0 : Int32} {s1 : Int32} {s2 : Int32} (h : (zQ [3, 5, 7, 9, 11, 12, 15, 17, 19, 21, 23, 25, 27, 28, 29, 30, 32, 34, 36, 42, 44] [] [5, 38, 46, 48] []) σ0 σ) : zpc (fX5_turnDigits_102 σ s0 s1 s2) (fun r => (zQ [3, 5, 7, 9, 11, 12, 15, 17, 19, 21, 23, 25, 27, 28, 29, 30, 32, 34, 36, 42, 44] [] [5, 38, 46, 48] []) σ0 (r)) := by
  unfold fX5_turnDigits_102
  exact zpc_ck (zpc_bs (zQ.wi h rfl) (fun σ1 hσ1 => zpc_ck (zpc_ck (zpc_bi (fc_fX5_by hσ1) (fun σ2 v3 hσ2 => zpc_ck (zpc_bi (fc_fX5_parity hσ2) (fun σ4 v5 hσ4 => zpc_ck (zpc_bs (zQ.wi hσ4 rfl) (fun σ6 hσ6 => zpc_some hσ6)))))))))
theorem fc_fX5_turnDigits_70 {σ0 : zSt} {σ : zSt} {x1 : Int32} {x3 : Int32} {s0 : Int32} {s1 : Int32} (h : (zQ [3, 5, 7, 9, 11, 12, 15, 17, 19, 21, 23, 25, 27, 28, 29, 30, 32, 34, 36, 42, 44] [] [5, 38, 46, 48] []) σ0 σ) : zpc (fX5_turnDigits_70 σ x1 x3 s0 s1) (fun r => (zQ [3, 5, 7, 9, 11, 12, 15, 17, 19, 21, 23, 25, 27, 28, 29, 30, 32, 34, 36, 42, 44] [] [5, 38, 46, 48] []) σ0 (r)) := by
  unfold fX5_turnDigits_70
  exact zpc_bu (fc_fX2_write h) (fun σ7 hσ7 => zpc_ck (zpc_if (fun _ => fc_fX5_turnDigits_102 hσ7) (fun _ => fc_fX5_turnDigits_102 hσ7)))
theorem fc_fX5_turnDigits {σ0 : zSt} {σ : zSt} {x1 : Int32} (h : (zQ [3, 5, 7, 9, 11, 12, 15, 17, 19, 21, 23, 25, 27, 28, 29, 30, 32, 34, 36, 42, 44] [] [5, 38, 46, 48] []) σ0 σ) : zpc (fX5_turnDigits σ x1) (fun r => (zQ [3, 5, 7, 9, 11, 12, 15, 17, 19, 21, 23, 25, 27, 28, 29, 30, 32, 34, 36, 42, 44] [] [5, 38, 46, 48] []) σ0 (r)) := by
  unfold fX5_turnDigits
  exact zpc_bi (fc_fX5_pairAt h) (fun σ8 v9 hσ8 => zpc_bi (fc_fX2_read hσ8) (fun σ10 v11 hσ10 => zpc_ck (zpc_bv (fun v12 _ => zpc_ck (zpc_bs (zQ.wi hσ10 rfl) (fun σ13 hσ13 => zpc_if (fun _ => fc_fX5_turnDigits_70 hσ13) (fun _ => fc_fX5_turnDigits_70 hσ13)))))))
theorem fc_fX5_moreOfA_139 {σ0 : zSt} {σ : zSt} {s0 : Int32} {s1 : Int32} {s2 : Int32} (h : (zQ [3, 5, 7, 9, 11, 12, 15, 17, 19, 21, 23, 25, 27, 28, 29, 30, 32, 34, 36, 42, 44] [] [5, 38, 46, 48] []) σ0 σ) : zpc (fX5_moreOfA_139 σ s0 s1 s2) (fun r => (zQ [3, 5, 7, 9, 11, 12, 15, 17, 19, 21, 23, 25, 27, 28, 29, 30, 32, 34, 36, 42, 44] [] [5, 38, 46, 48] []) σ0 (r.1)) := by
  unfold fX5_moreOfA_139
  exact zpc_ck (zpc_bs (zQ.wi h rfl) (fun σ1 hσ1 => zpc_some hσ1))
theorem fc_fX5_moreOfA_99 {σ0 : zSt} {σ : zSt} {s0 : Int32} {s1 : Int32} (h : (zQ [3, 5, 7, 9, 11, 12, 15, 17, 19, 21, 23, 25, 27, 28, 29, 30, 32, 34, 36, 42, 44] [] [5, 38, 46, 48] []) σ0 σ) : zpc (fX5_moreOfA_99 σ s0 s1) (fun r => (zQ [3, 5, 7, 9, 11, 12, 15, 17, 19, 21, 23, 25, 27, 28, 29, 30, 32, 34, 36, 42, 44] [] [5, 38, 46, 48] []) σ0 (r.1)) := by
  unfold fX5_moreOfA_99
  exact zpc_ck (zpc_bs (zQ.wi h rfl) (fun σ2 hσ2 => zpc_ck (zpc_ck (zpc_bi (fc_fX5_by hσ2) (fun σ3 v4 hσ3 => zpc_ck (zpc_if (fun _ => fc_fX5_moreOfA_139 hσ3) (fun _ => fc_fX5_moreOfA_139 hσ3)))))))
theorem fc_fX5_moreOfA_72 {σ0 : zSt} {σ : zSt} {x1 : Int32} (h : (zQ [3, 5, 7, 9, 11, 12, 15, 17, 19, 21, 23, 25, 27, 28, 29, 30, 32, 34, 36, 42, 44] [] [5, 38, 46, 48] []) σ0 σ) : zpc (fX5_moreOfA_72 σ x1) (fun r => (zQ [3, 5, 7, 9, 11, 12, 15, 17, 19, 21, 23, 25, 27, 28, 29, 30, 32, 34, 36, 42, 44] [] [5, 38, 46, 48] []) σ0 (r.1)) := by
  unfold fX5_moreOfA_72
  exact zpc_if (fun _ => zpc_ck (fc_fX5_moreOfA_99 h)) (fun _ => zpc_ck (fc_fX5_moreOfA_99 h))
theorem fc_fX5_moreOfA_155 {σ0 : zSt} {σ : zSt} {s0 : Int32} (h : (zQ [3, 5, 7, 9, 11, 12, 15, 17, 19, 21, 23, 25, 27, 28, 29, 30, 32, 34, 36, 42, 44] [] [5, 38, 46, 48] []) σ0 σ) : zpc (fX5_moreOfA_155 σ s0) (fun r => (zQ [3, 5, 7, 9, 11, 12, 15, 17, 19, 21, 23, 25, 27, 28, 29, 30, 32, 34, 36, 42, 44] [] [5, 38, 46, 48] []) σ0 (r.1)) := by
  unfold fX5_moreOfA_155
  exact zpc_bu (fc_fX5_turnDigits h) (fun σ5 hσ5 => zpc_some hσ5)
theorem fc_fX5_moreOfA_144 {σ0 : zSt} {σ : zSt} {x1 : Int32} (h : (zQ [3, 5, 7, 9, 11, 12, 15, 17, 19, 21, 23, 25, 27, 28, 29, 30, 32, 34, 36, 42, 44] [] [5, 38, 46, 48] []) σ0 σ) : zpc (fX5_moreOfA_144 σ x1) (fun r => (zQ [3, 5, 7, 9, 11, 12, 15, 17, 19, 21, 23, 25, 27, 28, 29, 30, 32, 34, 36, 42, 44] [] [5, 38, 46, 48] []) σ0 (r.1)) := by
  unfold fX5_moreOfA_144
  exact zpc_if (fun _ => fc_fX5_moreOfA_155 h) (fun _ => fc_fX5_moreOfA_155 h)
theorem fc_fX5_moreOfA {σ0 : zSt} {σ : zSt} {x1 : Int32} (h : (zQ [3, 5, 7, 9, 11, 12, 15, 17, 19, 21, 23, 25, 27, 28, 29, 30, 32, 34, 36, 42, 44] [] [5, 38, 46, 48] []) σ0 σ) : zpc (fX5_moreOfA σ x1) (fun r => (zQ [3, 5, 7, 9, 11, 12, 15, 17, 19, 21, 23, 25, 27, 28, 29, 30, 32, 34, 36, 42, 44] [] [5, 38, 46, 48] []) σ0 (r.1)) := by
  unfold fX5_moreOfA
  exact zpc_if (fun _ => zpc_ck (zpc_ck (zpc_bs (zQ.wi h rfl) (fun σ6 hσ6 => zpc_some hσ6)))) (fun _ => zpc_if (fun _ => zpc_ck (zpc_ck (zpc_bs (zQ.wi h rfl) (fun σ7 hσ7 => zpc_some hσ7)))) (fun _ => zpc_if (fun _ => fc_fX5_moreOfA_72 h) (fun _ => zpc_if (fun _ => fc_fX5_moreOfA_72 h) (fun _ => zpc_if (fun _ => fc_fX5_moreOfA_144 h) (fun _ => zpc_if (fun _ => fc_fX5_moreOfA_144 h) (fun _ => zpc_some h))))))
theorem fc_fX5_pop {σ0 : zSt} {σ : zSt} (h : (zQ [3, 5, 7, 9, 11, 12, 15, 17, 19, 21, 23, 25, 27, 28, 29, 30, 32, 34, 36, 42, 44] [] [5, 38, 46, 48] []) σ0 σ) : zpc (fX5_pop σ) (fun r => (zQ [3, 5, 7, 9, 11, 12, 15, 17, 19, 21, 23, 25, 27, 28, 29, 30, 32, 34, 36, 42, 44] [] [5, 38, 46, 48] []) σ0 (r.1)) := by
  unfold fX5_pop
  exact zpc_ck (zpc_bi (fc_fX2_read h) (fun σ1 v2 hσ1 => zpc_ck (zpc_bi (fc_fX2_read hσ1) (fun σ3 v4 hσ3 => zpc_bv (fun v5 _ => zpc_ck (zpc_ck (zpc_bs (zQ.wi hσ3 rfl) (fun σ6 hσ6 => zpc_some hσ6))))))))
theorem fc_fX5_difference_72 {σ0 : zSt} {σ : zSt} {x5 : Int32} {s0 : Int32} {s1 : Int32} {s2 : Int32} (h : (zQ [3, 5, 7, 9, 11, 12, 15, 17, 19, 21, 23, 25, 27, 28, 29, 30, 32, 34, 36, 42, 44] [] [5, 38, 46, 48] []) σ0 σ) : zpc (fX5_difference_72 σ x5 s0 s1 s2) (fun r => (zQ [3, 5, 7, 9, 11, 12, 15, 17, 19, 21, 23, 25, 27, 28, 29, 30, 32, 34, 36, 42, 44] [] [5, 38, 46, 48] []) σ0 (r.1)) := by
  unfold fX5_difference_72
  exact zpc_ck (zpc_bs (zQ.wi h rfl) (fun σ1 hσ1 => zpc_some hσ1))
theorem fc_fX5_difference_59 {σ0 : zSt} {σ : zSt} {x4 : Int32} {x5 : Int32} {s0 : Int32} {s1 : Int32} {s2 : Int32} (h : (zQ [3, 5, 7, 9, 11, 12, 15, 17, 19, 21, 23, 25, 27, 28, 29, 30, 32, 34, 36, 42, 44] [] [5, 38, 46, 48] []) σ0 σ) : zpc (fX5_difference_59 σ x4 x5 s0 s1 s2) (fun r => (zQ [3, 5, 7, 9, 11, 12, 15, 17, 19, 21, 23, 25, 27, 28, 29, 30, 32, 34, 36, 42, 44] [] [5, 38, 46, 48] []) σ0 (r.1)) := by
  unfold fX5_difference_59
  exact zpc_if (fun _ => fc_fX5_difference_72 h) (fun _ => fc_fX5_difference_72 h)
theorem fc_fX5_difference {σ0 : zSt} {σ : zSt} {x1 : Int32} {x2 : Int32} {x3 : Int32} (h : (zQ [3, 5, 7, 9, 11, 12, 15, 17, 19, 21, 23, 25, 27, 28, 29, 30, 32, 34, 36, 42, 44] [] [5, 38, 46, 48] []) σ0 σ) : zpc (fX5_difference σ x1 x2 x3) (fun r => (zQ [3, 5, 7, 9, 11, 12, 15, 17, 19, 21, 23, 25, 27, 28, 29, 30, 32, 34, 36, 42, 44] [] [5, 38, 46, 48] []) σ0 (r.1)) := by
  unfold fX5_difference
  exact zpc_bv (fun v2 _ => zpc_bv (fun v3 _ => zpc_bv (fun v4 _ => zpc_bi (fc_fX5_by h) (fun σ5 v6 hσ5 => zpc_if (fun _ => fc_fX5_difference_59 hσ5) (fun _ => fc_fX5_difference_59 hσ5)))))
theorem fc_fX5_fetchWord {σ0 : zSt} {σ : zSt} (h : (zQ [3, 5, 7, 9, 11, 12, 15, 17, 19, 21, 23, 25, 27, 28, 29, 30, 32, 34, 36, 42, 44] [] [5, 38, 46, 48] []) σ0 σ) : zpc (fX5_fetchWord σ) (fun r => (zQ [3, 5, 7, 9, 11, 12, 15, 17, 19, 21, 23, 25, 27, 28, 29, 30, 32, 34, 36, 42, 44] [] [5, 38, 46, 48] []) σ0 (r.1)) := by
  unfold fX5_fetchWord
  exact zpc_ck (zpc_bi (fc_fX2_read h) (fun σ1 v2 hσ1 => zpc_ck (zpc_bi (fc_fX2_read hσ1) (fun σ3 v4 hσ3 => zpc_bv (fun v5 _ => zpc_ck (zpc_ck (zpc_bs (zQ.wi hσ3 rfl) (fun σ6 hσ6 => zpc_some hσ6))))))))
theorem fc_fX5_hl_27 {σ0 : zSt} {σ : zSt} {s0 : Int32} (h : (zQ [3, 5, 7, 9, 11, 12, 15, 17, 19, 21, 23, 25, 27, 28, 29, 30, 32, 34, 36, 42, 44] [] [5, 38, 46, 48] []) σ0 σ) : zpc (fX5_hl_27 σ s0) (fun r => (zQ [3, 5, 7, 9, 11, 12, 15, 17, 19, 21, 23, 25, 27, 28, 29, 30, 32, 34, 36, 42, 44] [] [5, 38, 46, 48] []) σ0 (r.1)) := by
  unfold fX5_hl_27
  exact zpc_some h
theorem fc_fX5_hl {σ0 : zSt} {σ : zSt} (h : (zQ [3, 5, 7, 9, 11, 12, 15, 17, 19, 21, 23, 25, 27, 28, 29, 30, 32, 34, 36, 42, 44] [] [5, 38, 46, 48] []) σ0 σ) : zpc (fX5_hl σ) (fun r => (zQ [3, 5, 7, 9, 11, 12, 15, 17, 19, 21, 23, 25, 27, 28, 29, 30, 32, 34, 36, 42, 44] [] [5, 38, 46, 48] []) σ0 (r.1)) := by
  unfold fX5_hl
  exact zpc_if (fun _ => zpc_bi (fc_fX5_pairAt h) (fun σ1 v2 hσ1 => fc_fX5_hl_27 hσ1)) (fun _ => zpc_ck (fc_fX5_hl_27 h))
theorem fc_fX5_pair {σ0 : zSt} {σ : zSt} {x1 : Int32} (h : (zQ [3, 5, 7, 9, 11, 12, 15, 17, 19, 21, 23, 25, 27, 28, 29, 30, 32, 34, 36, 42, 44] [] [5, 38, 46, 48] []) σ0 σ) : zpc (fX5_pair σ x1) (fun r => (zQ [3, 5, 7, 9, 11, 12, 15, 17, 19, 21, 23, 25, 27, 28, 29, 30, 32, 34, 36, 42, 44] [] [5, 38, 46, 48] []) σ0 (r.1)) := by
  unfold fX5_pair
  exact zpc_if (fun _ => zpc_bi (fc_fX5_pairAt h) (fun σ1 v2 hσ1 => zpc_some hσ1)) (fun _ => zpc_if (fun _ => zpc_bi (fc_fX5_pairAt h) (fun σ3 v4 hσ3 => zpc_some hσ3)) (fun _ => zpc_if (fun _ => zpc_bi (fc_fX5_hl h) (fun σ5 v6 hσ5 => zpc_some hσ5)) (fun _ => zpc_ck (zpc_some h))))
theorem fc_fX5_writeWord {σ0 : zSt} {σ : zSt} {x1 : Int32} {x2 : Int32} (h : (zQ [3, 5, 7, 9, 11, 12, 15, 17, 19, 21, 23, 25, 27, 28, 29, 30, 32, 34, 36, 42, 44] [] [5, 38, 46, 48] []) σ0 σ) : zpc (fX5_writeWord σ x1 x2) (fun r => (zQ [3, 5, 7, 9, 11, 12, 15, 17, 19, 21, 23, 25, 27, 28, 29, 30, 32, 34, 36, 42, 44] [] [5, 38, 46, 48] []) σ0 (r)) := by
  unfold fX5_writeWord
  exact zpc_bu (fc_fX2_write h) (fun σ1 hσ1 => zpc_bu (fc_fX2_write hσ1) (fun σ2 hσ2 => zpc_some hσ2))
theorem fc_fX5_putHl_32 {σ0 : zSt} {σ : zSt} (h : (zQ [3, 5, 7, 9, 11, 12, 15, 17, 19, 21, 23, 25, 27, 28, 29, 30, 32, 34, 36, 42, 44] [] [5, 38, 46, 48] []) σ0 σ) : zpc (fX5_putHl_32 σ) (fun r => (zQ [3, 5, 7, 9, 11, 12, 15, 17, 19, 21, 23, 25, 27, 28, 29, 30, 32, 34, 36, 42, 44] [] [5, 38, 46, 48] []) σ0 (r)) := by
  unfold fX5_putHl_32
  exact zpc_some h
theorem fc_fX5_putHl {σ0 : zSt} {σ : zSt} {x1 : Int32} (h : (zQ [3, 5, 7, 9, 11, 12, 15, 17, 19, 21, 23, 25, 27, 28, 29, 30, 32, 34, 36, 42, 44] [] [5, 38, 46, 48] []) σ0 σ) : zpc (fX5_putHl σ x1) (fun r => (zQ [3, 5, 7, 9, 11, 12, 15, 17, 19, 21, 23, 25, 27, 28, 29, 30, 32, 34, 36, 42, 44] [] [5, 38, 46, 48] []) σ0 (r)) := by
  unfold fX5_putHl
  exact zpc_if (fun _ => zpc_bu (fc_fX5_putPairAt h) (fun σ2 hσ2 => fc_fX5_putHl_32 hσ2)) (fun _ => zpc_ck (zpc_bs (zQ.wi h rfl) (fun σ1 hσ1 => fc_fX5_putHl_32 hσ1)))
theorem fc_fX5_putPair_65 {σ0 : zSt} {σ : zSt} (h : (zQ [3, 5, 7, 9, 11, 12, 15, 17, 19, 21, 23, 25, 27, 28, 29, 30, 32, 34, 36, 42, 44] [] [5, 38, 46, 48] []) σ0 σ) : zpc (fX5_putPair_65 σ) (fun r => (zQ [3, 5, 7, 9, 11, 12, 15, 17, 19, 21, 23, 25, 27, 28, 29, 30, 32, 34, 36, 42, 44] [] [5, 38, 46, 48] []) σ0 (r)) := by
  unfold fX5_putPair_65
  exact zpc_some h
theorem fc_fX5_putPair {σ0 : zSt} {σ : zSt} {x1 : Int32} {x2 : Int32} (h : (zQ [3, 5, 7, 9, 11, 12, 15, 17, 19, 21, 23, 25, 27, 28, 29, 30, 32, 34, 36, 42, 44] [] [5, 38, 46, 48] []) σ0 σ) : zpc (fX5_putPair σ x1 x2) (fun r => (zQ [3, 5, 7, 9, 11, 12, 15, 17, 19, 21, 23, 25, 27, 28, 29, 30, 32, 34, 36, 42, 44] [] [5, 38, 46, 48] []) σ0 (r)) := by
  unfold fX5_putPair
  exact zpc_if (fun _ => zpc_bu (fc_fX5_putPairAt h) (fun σ1 hσ1 => fc_fX5_putPair_65 hσ1)) (fun _ => zpc_if (fun _ => zpc_bu (fc_fX5_putPairAt h) (fun σ2 hσ2 => fc_fX5_putPair_65 hσ2)) (fun _ => zpc_if (fun _ => zpc_bu (fc_fX5_putHl h) (fun σ3 hσ3 => fc_fX5_putPair_65 hσ3)) (fun _ => zpc_ck (zpc_bs (zQ.wi h rfl) (fun σ4 hσ4 => fc_fX5_putPair_65 hσ4)))))
theorem fc_fX5_farPair_51 {σ0 : zSt} {σ : zSt} (h : (zQ [3, 5, 7, 9, 11, 12, 15, 17, 19, 21, 23, 25, 27, 28, 29, 30, 32, 34, 36, 42, 44] [] [5, 38, 46, 48] []) σ0 σ) : zpc (fX5_farPair_51 σ) (fun r => (zQ [3, 5, 7, 9, 11, 12, 15, 17, 19, 21, 23, 25, 27, 28, 29, 30, 32, 34, 36, 42, 44] [] [5, 38, 46, 48] []) σ0 (r.1)) := by
  unfold fX5_farPair_51
  exact zpc_some h
theorem fc_fX5_farPair {σ0 : zSt} {σ : zSt} {x1 : Int32} (h : (zQ [3, 5, 7, 9, 11, 12, 15, 17, 19, 21, 23, 25, 27, 28, 29, 30, 32, 34, 36, 42, 44] [] [5, 38, 46, 48] []) σ0 σ) : zpc (fX5_farPair σ x1) (fun r => (zQ [3, 5, 7, 9, 11, 12, 15, 17, 19, 21, 23, 25, 27, 28, 29, 30, 32, 34, 36, 42, 44] [] [5, 38, 46, 48] []) σ0 (r.1)) := by
  unfold fX5_farPair
  exact zpc_bi (fc_fX5_fetchWord h) (fun σ1 v2 hσ1 => zpc_ck (zpc_bs (zQ.wi hσ1 rfl) (fun σ3 hσ3 => zpc_if (fun _ => zpc_bi (fc_fX5_pair hσ3) (fun σ7 v8 hσ7 => zpc_bu (fc_fX5_writeWord hσ7) (fun σ9 hσ9 => fc_fX5_farPair_51 hσ9))) (fun _ => zpc_bi (fc_fX5_readWord hσ3) (fun σ4 v5 hσ4 => zpc_bu (fc_fX5_putPair hσ4) (fun σ6 hσ6 => fc_fX5_farPair_51 hσ6))))))
theorem fc_fX5_putWide_44 {σ0 : zSt} {σ : zSt} {x1 : Int32} {x2 : Int32} {x3 : Int32} {s0 : Int32} {s1 : Int32} {s2 : Int32} (h : (zQ [3, 5, 7, 9, 11, 12, 15, 17, 19, 21, 23, 25, 27, 28, 29, 30, 32, 34, 36, 42, 44] [] [5, 38, 46, 48] []) σ0 σ) : zpc (fX5_putWide_44 σ x1 x2 x3 s0 s1 s2) (fun r => (zQ [3, 5, 7, 9, 11, 12, 15, 17, 19, 21, 23, 25, 27, 28, 29, 30, 32, 34, 36, 42, 44] [] [5, 38, 46, 48] []) σ0 (r)) := by
  unfold fX5_putWide_44
  exact zpc_ck (zpc_bs (zQ.wi h rfl) (fun σ1 hσ1 => zpc_some hσ1))
theorem fc_fX5_putWide {σ0 : zSt} {σ : zSt} {x1 : Int32} {x2 : Int32} {x3 : Int32} (h : (zQ [3, 5, 7, 9, 11, 12, 15, 17, 19, 21, 23, 25, 27, 28, 29, 30, 32, 34, 36, 42, 44] [] [5, 38, 46, 48] []) σ0 σ) : zpc (fX5_putWide σ x1 x2 x3) (fun r => (zQ [3, 5, 7, 9, 11, 12, 15, 17, 19, 21, 23, 25, 27, 28, 29, 30, 32, 34, 36, 42, 44] [] [5, 38, 46, 48] []) σ0 (r)) := by
  unfold fX5_putWide
  exact zpc_ck (zpc_bs (zQ.wi h rfl) (fun σ2 hσ2 => zpc_bu (fc_fX5_putHl hσ2) (fun σ3 hσ3 => zpc_if (fun _ => fc_fX5_putWide_44 hσ3) (fun _ => fc_fX5_putWide_44 hσ3))))
theorem fc_fX5_takePair_63 {σ0 : zSt} {σ : zSt} {s0 : Int32} {s1 : Int32} {s2 : Int32} (h : (zQ [3, 5, 7, 9, 11, 12, 15, 17, 19, 21, 23, 25, 27, 28, 29, 30, 32, 34, 36, 42, 44] [] [5, 38, 46, 48] []) σ0 σ) : zpc (fX5_takePair_63 σ s0 s1 s2) (fun r => (zQ [3, 5, 7, 9, 11, 12, 15, 17, 19, 21, 23, 25, 27, 28, 29, 30, 32, 34, 36, 42, 44] [] [5, 38, 46, 48] []) σ0 (r.1)) := by
  unfold fX5_takePair_63
  exact zpc_ck (zpc_bs (zQ.wi h rfl) (fun σ1 hσ1 => zpc_some hσ1))
theorem fc_fX5_takePair {σ0 : zSt} {σ : zSt} {x1 : Int32} (h : (zQ [3, 5, 7, 9, 11, 12, 15, 17, 19, 21, 23, 25, 27, 28, 29, 30, 32, 34, 36, 42, 44] [] [5, 38, 46, 48] []) σ0 σ) : zpc (fX5_takePair σ x1) (fun r => (zQ [3, 5, 7, 9, 11, 12, 15, 17, 19, 21, 23, 25, 27, 28, 29, 30, 32, 34, 36, 42, 44] [] [5, 38, 46, 48] []) σ0 (r.1)) := by
  unfold fX5_takePair
  exact zpc_bi (fc_fX5_hl h) (fun σ2 v3 hσ2 => zpc_bi (fc_fX5_pair hσ2) (fun σ4 v5 hσ4 => zpc_ck (zpc_bv (fun v6 _ => zpc_bu (fc_fX5_putWide hσ4) (fun σ7 hσ7 => zpc_bv (fun v8 _ => zpc_ck (zpc_if (fun _ => fc_fX5_takePair_63 hσ7) (fun _ => fc_fX5_takePair_63 hσ7))))))))
theorem fc_fX5_addPairAndCarry_65 {σ0 : zSt} {σ : zSt} {s0 : Int32} {s1 : Int32} {s2 : Int32} (h : (zQ [3, 5, 7, 9, 11, 12, 15, 17, 19, 21, 23, 25, 27, 28, 29, 30, 32, 34, 36, 42, 44] [] [5, 38, 46, 48] []) σ0 σ) : zpc (fX5_addPairAndCarry_65 σ s0 s1 s2) (fun r => (zQ [3, 5, 7, 9, 11, 12, 15, 17, 19, 21, 23, 25, 27, 28, 29, 30, 32, 34, 36, 42, 44] [] [5, 38, 46, 48] []) σ0 (r.1)) := by
  unfold fX5_addPairAndCarry_65
  exact zpc_ck (zpc_bs (zQ.wi h rfl) (fun σ1 hσ1 => zpc_some hσ1))
theorem fc_fX5_addPairAndCarry {σ0 : zSt} {σ : zSt} {x1 : Int32} (h : (zQ [3, 5, 7, 9, 11, 12, 15, 17, 19, 21, 23, 25, 27, 28, 29, 30, 32, 34, 36, 42, 44] [] [5, 38, 46, 48] []) σ0 σ) : zpc (fX5_addPairAndCarry σ x1) (fun r => (zQ [3, 5, 7, 9, 11, 12, 15, 17, 19, 21, 23, 25, 27, 28, 29, 30, 32, 34, 36, 42, 44] [] [5, 38, 46, 48] []) σ0 (r.1)) := by
  unfold fX5_addPairAndCarry
  exact zpc_bi (fc_fX5_hl h) (fun σ2 v3 hσ2 => zpc_bi (fc_fX5_pair hσ2) (fun σ4 v5 hσ4 => zpc_ck (zpc_bv (fun v6 _ => zpc_bu (fc_fX5_putWide hσ4) (fun σ7 hσ7 => zpc_bv (fun v8 _ => zpc_ck (zpc_if (fun _ => fc_fX5_addPairAndCarry_65 hσ7) (fun _ => fc_fX5_addPairAndCarry_65 hσ7))))))))
theorem fc_fX5_takeFromPort_26 {σ0 : zSt} {σ : zSt} {x2 : Int32} (h : (zQ [3, 5, 7, 9, 11, 12, 15, 17, 19, 21, 23, 25, 27, 28, 29, 30, 32, 34, 36, 42, 44] [] [5, 38, 46, 48] []) σ0 σ) : zpc (fX5_takeFromPort_26 σ x2) (fun r => (zQ [3, 5, 7, 9, 11, 12, 15, 17, 19, 21, 23, 25, 27, 28, 29, 30, 32, 34, 36, 42, 44] [] [5, 38, 46, 48] []) σ0 (r)) := by
  unfold fX5_takeFromPort_26
  exact zpc_ck (zpc_bi (fc_fX5_by h) (fun σ1 v2 hσ1 => zpc_bi (fc_fX5_parity hσ1) (fun σ3 v4 hσ3 => zpc_ck (zpc_bs (zQ.wi hσ3 rfl) (fun σ5 hσ5 => zpc_some hσ5)))))
theorem fc_fX5_takeFromPort {σ0 : zSt} {σ : zSt} {x1 : Int32} (h : (zQ [3, 5, 7, 9, 11, 12, 15, 17, 19, 21, 23, 25, 27, 28, 29, 30, 32, 34, 36, 42, 44] [] [5, 38, 46, 48] []) σ0 σ) : zpc (fX5_takeFromPort σ x1) (fun r => (zQ [3, 5, 7, 9, 11, 12, 15, 17, 19, 21, 23, 25, 27, 28, 29, 30, 32, 34, 36, 42, 44] [] [5, 38, 46, 48] []) σ0 (r)) := by
  unfold fX5_takeFromPort
  exact zpc_ck (zpc_bi (fc_fX4_read h) (fun σ6 v7 hσ6 => zpc_if (fun _ => fc_fX5_takeFromPort_26 hσ6) (fun _ => zpc_bu (fc_fX5_putOne hσ6) (fun σ8 hσ8 => fc_fX5_takeFromPort_26 hσ8))))
theorem fc_fX5_behindEd_160 {σ0 : zSt} {σ : zSt} {s0 : Int32} (h : (zQ [3, 5, 7, 9, 11, 12, 15, 17, 19, 21, 23, 25, 27, 28, 29, 30, 32, 34, 36, 42, 44] [] [5, 38, 46, 48] []) σ0 σ) : zpc (fX5_behindEd_160 σ s0) (fun r => (zQ [3, 5, 7, 9, 11, 12, 15, 17, 19, 21, 23, 25, 27, 28, 29, 30, 32, 34, 36, 42, 44] [] [5, 38, 46, 48] []) σ0 (r.1)) := by
  unfold fX5_behindEd_160
  exact zpc_some h
theorem fc_fX5_behindEd_131 {σ0 : zSt} {σ : zSt} {s0 : Int32} {s1 : Int32} (h : (zQ [3, 5, 7, 9, 11, 12, 15, 17, 19, 21, 23, 25, 27, 28, 29, 30, 32, 34, 36, 42, 44] [] [5, 38, 46, 48] []) σ0 σ) : zpc (fX5_behindEd_131 σ s0 s1) (fun r => (zQ [3, 5, 7, 9, 11, 12, 15, 17, 19, 21, 23, 25, 27, 28, 29, 30, 32, 34, 36, 42, 44] [] [5, 38, 46, 48] []) σ0 (r.1)) := by
  unfold fX5_behindEd_131
  exact zpc_bu (fc_fX4_write h) (fun σ1 hσ1 => zpc_some hσ1)
theorem fc_fX5_behindEd {σ0 : zSt} {σ : zSt} {x1 : Int32} (h : (zQ [3, 5, 7, 9, 11, 12, 15, 17, 19, 21, 23, 25, 27, 28, 29, 30, 32, 34, 36, 42, 44] [] [5, 38, 46, 48] []) σ0 σ) : zpc (fX5_behindEd σ x1) (fun r => (zQ [3, 5, 7, 9, 11, 12, 15, 17, 19, 21, 23, 25, 27, 28, 29, 30, 32, 34, 36, 42, 44] [] [5, 38, 46, 48] []) σ0 (r.1)) := by
  unfold fX5_behindEd
  exact zpc_if (fun _ => zpc_bv (fun v2 _ => zpc_if (fun _ => zpc_bi (fc_fX5_pairAt h) (fun σ3 v4 hσ3 => zpc_ck (zpc_bs (zQ.wi hσ3 rfl) (fun σ5 hσ5 => zpc_bu (fc_fX5_takeFromPort hσ5) (fun σ6 hσ6 => zpc_some hσ6))))) (fun _ => zpc_if (fun _ => zpc_bi (fc_fX5_pairAt h) (fun σ7 v8 hσ7 => zpc_ck (zpc_bs (zQ.wi hσ7 rfl) (fun σ9 hσ9 => zpc_ck (zpc_if (fun _ => fc_fX5_behindEd_131 hσ9) (fun _ => zpc_bi (fc_fX5_one hσ9) (fun σ10 v11 hσ10 => fc_fX5_behindEd_131 hσ10))))))) (fun _ => zpc_if (fun _ => zpc_if (fun _ => zpc_bi (fc_fX5_takePair h) (fun σ14 v15 hσ14 => fc_fX5_behindEd_160 hσ14)) (fun _ => zpc_bi (fc_fX5_addPairAndCarry h) (fun σ12 v13 hσ12 => fc_fX5_behindEd_160 hσ12))) (fun _ => zpc_if (fun _ => zpc_bi (fc_fX5_farPair h) (fun σ16 v17 hσ16 => zpc_some hσ16)) (fun _ => zpc_if (fun _ => zpc_ck (zpc_bi (fc_fX5_difference h) (fun σ18 v19 hσ18 => zpc_ck (zpc_bs (zQ.wi hσ18 rfl) (fun σ20 hσ20 => zpc_some hσ20))))) (fun _ => zpc_if (fun _ => zpc_bi (fc_fX5_pop h) (fun σ21 v22 hσ21 => zpc_bu (fc_fX5_goTo hσ21) (fun σ23 hσ23 => zpc_ck (zpc_ck (zpc_bs (zQ.wi hσ23 rfl) (fun σ24 hσ24 => zpc_some hσ24)))))) (fun _ => zpc_if (fun _ => zpc_ck (zpc_bs (zQ.wi h rfl) (fun σ25 hσ25 => zpc_some hσ25))) (fun _ => zpc_bi (fc_fX5_moreOfA h) (fun σ26 v27 hσ26 => zpc_some hσ26)))))))))) (fun _ => zpc_some h)
theorem fc_fX5_exchange_211 {σ0 : zSt} {σ : zSt} {x1 : Int32} (h : (zQ [3, 5, 7, 9, 11, 12, 15, 17, 19, 21, 23, 25, 27, 28, 29, 30, 32, 34, 36, 42, 44] [] [5, 38, 46, 48] []) σ0 σ) : zpc (fX5_exchange_211 σ x1) (fun r => (zQ [3, 5, 7, 9, 11, 12, 15, 17, 19, 21, 23, 25, 27, 28, 29, 30, 32, 34, 36, 42, 44] [] [5, 38, 46, 48] []) σ0 (r.1)) := by
  unfold fX5_exchange_211
  exact zpc_ck (zpc_bs (zQ.wi h rfl) (fun σ1 hσ1 => zpc_ck (zpc_bs (zQ.wi hσ1 rfl) (fun σ2 hσ2 => zpc_ck (zpc_bs (zQ.wi hσ2 rfl) (fun σ3 hσ3 => zpc_some hσ3))))))
theorem fc_fX5_exchange {σ0 : zSt} {σ : zSt} {x1 : Int32} (h : (zQ [3, 5, 7, 9, 11, 12, 15, 17, 19, 21, 23, 25, 27, 28, 29, 30, 32, 34, 36, 42, 44] [] [5, 38, 46, 48] []) σ0 σ) : zpc (fX5_exchange σ x1) (fun r => (zQ [3, 5, 7, 9, 11, 12, 15, 17, 19, 21, 23, 25, 27, 28, 29, 30, 32, 34, 36, 42, 44] [] [5, 38, 46, 48] []) σ0 (r.1)) := by
  unfold fX5_exchange
  exact zpc_if (fun _ => zpc_bi (fc_fX5_fetchWord h) (fun σ4 v5 hσ4 => zpc_bu (fc_fX5_goTo hσ4) (fun σ6 hσ6 => zpc_some hσ6))) (fun _ => zpc_if (fun _ => fc_fX5_exchange_211 h) (fun _ => zpc_if (fun _ => zpc_bi (fc_fX5_fetch h) (fun σ7 v8 hσ7 => zpc_ck (zpc_bu (fc_fX4_write hσ7) (fun σ9 hσ9 => zpc_ck (zpc_ck (zpc_bs (zQ.wi hσ9 rfl) (fun σ10 hσ10 => zpc_some hσ10))))))) (fun _ => zpc_if (fun _ => zpc_bi (fc_fX5_fetch h) (fun σ11 v12 hσ11 => zpc_ck (zpc_ck (zpc_bs (zQ.wi hσ11 rfl) (fun σ13 hσ13 => zpc_bi (fc_fX4_read hσ13) (fun σ14 v15 hσ14 => zpc_ck (zpc_bs (zQ.wi hσ14 rfl) (fun σ16 hσ16 => zpc_some hσ16)))))))) (fun _ => zpc_if (fun _ => zpc_ck (zpc_bi (fc_fX5_readWord h) (fun σ17 v18 hσ17 => zpc_ck (zpc_bi (fc_fX5_hl hσ17) (fun σ19 v20 hσ19 => zpc_bu (fc_fX5_writeWord hσ19) (fun σ21 hσ21 => zpc_bu (fc_fX5_putHl hσ21) (fun σ22 hσ22 => zpc_ck (zpc_bs (zQ.wi hσ22 rfl) (fun σ23 hσ23 => zpc_some hσ23))))))))) (fun _ => zpc_if (fun _ => zpc_bi (fc_fX5_pairAt h) (fun σ24 v25 hσ24 => zpc_bi (fc_fX5_pairAt hσ24) (fun σ26 v27 hσ26 => zpc_bu (fc_fX5_putPairAt hσ26) (fun σ28 hσ28 => zpc_bu (fc_fX5_putPairAt hσ28) (fun σ29 hσ29 => zpc_some hσ29))))) (fun _ => fc_fX5_exchange_211 h))))))
theorem fc_fX5_sum_61 {σ0 : zSt} {σ : zSt} {x4 : Int32} {x5 : Int32} {s0 : Int32} {s1 : Int32} {s2 : Int32} (h : (zQ [3, 5, 7, 9, 11, 12, 15, 17, 19, 21, 23, 25, 27, 28, 29, 30, 32, 34, 36, 42, 44] [] [5, 38, 46, 48] []) σ0 σ) : zpc (fX5_sum_61 σ x4 x5 s0 s1 s2) (fun r => (zQ [3, 5, 7, 9, 11, 12, 15, 17, 19, 21, 23, 25, 27, 28, 29, 30, 32, 34, 36, 42, 44] [] [5, 38, 46, 48] []) σ0 (r.1)) := by
  unfold fX5_sum_61
  exact zpc_ck (zpc_bs (zQ.wi h rfl) (fun σ1 hσ1 => zpc_some hσ1))
theorem fc_fX5_sum {σ0 : zSt} {σ : zSt} {x1 : Int32} {x2 : Int32} {x3 : Int32} (h : (zQ [3, 5, 7, 9, 11, 12, 15, 17, 19, 21, 23, 25, 27, 28, 29, 30, 32, 34, 36, 42, 44] [] [5, 38, 46, 48] []) σ0 σ) : zpc (fX5_sum σ x1 x2 x3) (fun r => (zQ [3, 5, 7, 9, 11, 12, 15, 17, 19, 21, 23, 25, 27, 28, 29, 30, 32, 34, 36, 42, 44] [] [5, 38, 46, 48] []) σ0 (r.1)) := by
  unfold fX5_sum
  exact zpc_bv (fun v2 _ => zpc_bv (fun v3 _ => zpc_bv (fun v4 _ => zpc_bi (fc_fX5_by h) (fun σ5 v6 hσ5 => zpc_if (fun _ => fc_fX5_sum_61 hσ5) (fun _ => fc_fX5_sum_61 hσ5)))))
theorem fc_fX5_doWith_292 {σ0 : zSt} {σ : zSt} (h : (zQ [3, 5, 7, 9, 11, 12, 15, 17, 19, 21, 23, 25, 27, 28, 29, 30, 32, 34, 36, 42, 44] [] [5, 38, 46, 48] []) σ0 σ) : zpc (fX5_doWith_292 σ) (fun r => (zQ [3, 5, 7, 9, 11, 12, 15, 17, 19, 21, 23, 25, 27, 28, 29, 30, 32, 34, 36, 42, 44] [] [5, 38, 46, 48] []) σ0 (r)) := by
  unfold fX5_doWith_292
  exact zpc_some h
theorem fc_fX5_doWith {σ0 : zSt} {σ : zSt} {x1 : Int32} {x2 : Int32} (h : (zQ [3, 5, 7, 9, 11, 12, 15, 17, 19, 21, 23, 25, 27, 28, 29, 30, 32, 34, 36, 42, 44] [] [5, 38, 46, 48] []) σ0 σ) : zpc (fX5_doWith σ x1 x2) (fun r => (zQ [3, 5, 7, 9, 11, 12, 15, 17, 19, 21, 23, 25, 27, 28, 29, 30, 32, 34, 36, 42, 44] [] [5, 38, 46, 48] []) σ0 (r)) := by
  unfold fX5_doWith
  exact zpc_if (fun _ => zpc_ck (zpc_bi (fc_fX5_sum h) (fun σ1 v2 hσ1 => zpc_ck (zpc_bs (zQ.wi hσ1 rfl) (fun σ3 hσ3 => fc_fX5_doWith_292 hσ3))))) (fun _ => zpc_if (fun _ => zpc_ck (zpc_ck (zpc_bi (fc_fX5_sum h) (fun σ4 v5 hσ4 => zpc_ck (zpc_bs (zQ.wi hσ4 rfl) (fun σ6 hσ6 => fc_fX5_doWith_292 hσ6)))))) (fun _ => zpc_if (fun _ => zpc_ck (zpc_bi (fc_fX5_difference h) (fun σ7 v8 hσ7 => zpc_ck (zpc_bs (zQ.wi hσ7 rfl) (fun σ9 hσ9 => fc_fX5_doWith_292 hσ9))))) (fun _ => zpc_if (fun _ => zpc_ck (zpc_ck (zpc_bi (fc_fX5_difference h) (fun σ10 v11 hσ10 => zpc_ck (zpc_bs (zQ.wi hσ10 rfl) (fun σ12 hσ12 => fc_fX5_doWith_292 hσ12)))))) (fun _ => zpc_if (fun _ => zpc_ck (zpc_ck (zpc_bs (zQ.wi h rfl) (fun σ13 hσ13 => zpc_ck (zpc_bi (fc_fX5_by hσ13) (fun σ14 v15 hσ14 => zpc_ck (zpc_bi (fc_fX5_parity hσ14) (fun σ16 v17 hσ16 => zpc_ck (zpc_bs (zQ.wi hσ16 rfl) (fun σ18 hσ18 => fc_fX5_doWith_292 hσ18)))))))))) (fun _ => zpc_if (fun _ => zpc_ck (zpc_ck (zpc_bs (zQ.wi h rfl) (fun σ19 hσ19 => zpc_ck (zpc_bi (fc_fX5_by hσ19) (fun σ20 v21 hσ20 => zpc_ck (zpc_bi (fc_fX5_parity hσ20) (fun σ22 v23 hσ22 => zpc_ck (zpc_bs (zQ.wi hσ22 rfl) (fun σ24 hσ24 => fc_fX5_doWith_292 hσ24)))))))))) (fun _ => zpc_if (fun _ => zpc_ck (zpc_ck (zpc_bs (zQ.wi h rfl) (fun σ25 hσ25 => zpc_ck (zpc_bi (fc_fX5_by hσ25) (fun σ26 v27 hσ26 => zpc_ck (zpc_bi (fc_fX5_parity hσ26) (fun σ28 v29 hσ28 => zpc_ck (zpc_bs (zQ.wi hσ28 rfl) (fun σ30 hσ30 => fc_fX5_doWith_292 hσ30)))))))))) (fun _ => zpc_ck (zpc_bi (fc_fX5_difference h) (fun σ31 v32 hσ31 => zpc_ck (zpc_ck (zpc_bs (zQ.wi hσ31 rfl) (fun σ33 hσ33 => fc_fX5_doWith_292 hσ33))))))))))))
theorem fc_fX5_callIf {σ0 : zSt} {σ : zSt} {x1 : Int32} (h : (zQ [3, 5, 7, 9, 11, 12, 15, 17, 19, 21, 23, 25, 27, 28, 29, 30, 32, 34, 36, 42, 44] [] [5, 38, 46, 48] []) σ0 σ) : zpc (fX5_callIf σ x1) (fun r => (zQ [3, 5, 7, 9, 11, 12, 15, 17, 19, 21, 23, 25, 27, 28, 29, 30, 32, 34, 36, 42, 44] [] [5, 38, 46, 48] []) σ0 (r.1)) := by
  unfold fX5_callIf
  exact zpc_bi (fc_fX5_fetchWord h) (fun σ1 v2 hσ1 => zpc_ck (zpc_bs (zQ.wi hσ1 rfl) (fun σ3 hσ3 => zpc_if (fun _ => zpc_some hσ3) (fun _ => zpc_ck (zpc_bu (fc_fX5_push hσ3) (fun σ4 hσ4 => zpc_ck (zpc_bs (zQ.wi hσ4 rfl) (fun σ5 hσ5 => zpc_some hσ5))))))))
theorem fc_fX5_holds_44 {σ0 : zSt} {σ : zSt} {s0 : Int32} (h : (zQ [3, 5, 7, 9, 11, 12, 15, 17, 19, 21, 23, 25, 27, 28, 29, 30, 32, 34, 36, 42, 44] [] [5, 38, 46, 48] []) σ0 σ) : zpc (fX5_holds_44 σ s0) (fun r => (zQ [3, 5, 7, 9, 11, 12, 15, 17, 19, 21, 23, 25, 27, 28, 29, 30, 32, 34, 36, 42, 44] [] [5, 38, 46, 48] []) σ0 (r.1)) := by
  unfold fX5_holds_44
  exact zpc_ck (zpc_some h)
theorem fc_fX5_holds_36 {σ0 : zSt} {σ : zSt} {s0 : Int32} {s1 : Int32} (h : (zQ [3, 5, 7, 9, 11, 12, 15, 17, 19, 21, 23, 25, 27, 28, 29, 30, 32, 34, 36, 42, 44] [] [5, 38, 46, 48] []) σ0 σ) : zpc (fX5_holds_36 σ s0 s1) (fun r => (zQ [3, 5, 7, 9, 11, 12, 15, 17, 19, 21, 23, 25, 27, 28, 29, 30, 32, 34, 36, 42, 44] [] [5, 38, 46, 48] []) σ0 (r.1)) := by
  unfold fX5_holds_36
  exact zpc_if (fun _ => fc_fX5_holds_44 h) (fun _ => fc_fX5_holds_44 h)
theorem fc_fX5_holds_24 {σ0 : zSt} {σ : zSt} {x1 : Int32} {s0 : Int32} (h : (zQ [3, 5, 7, 9, 11, 12, 15, 17, 19, 21, 23, 25, 27, 28, 29, 30, 32, 34, 36, 42, 44] [] [5, 38, 46, 48] []) σ0 σ) : zpc (fX5_holds_24 σ x1 s0) (fun r => (zQ [3, 5, 7, 9, 11, 12, 15, 17, 19, 21, 23, 25, 27, 28, 29, 30, 32, 34, 36, 42, 44] [] [5, 38, 46, 48] []) σ0 (r.1)) := by
  unfold fX5_holds_24
  exact zpc_if (fun _ => fc_fX5_holds_36 h) (fun _ => fc_fX5_holds_36 h)
theorem fc_fX5_holds {σ0 : zSt} {σ : zSt} {x1 : Int32} (h : (zQ [3, 5, 7, 9, 11, 12, 15, 17, 19, 21, 23, 25, 27, 28, 29, 30, 32, 34, 36, 42, 44] [] [5, 38, 46, 48] []) σ0 σ) : zpc (fX5_holds σ x1) (fun r => (zQ [3, 5, 7, 9, 11, 12, 15, 17, 19, 21, 23, 25, 27, 28, 29, 30, 32, 34, 36, 42, 44] [] [5, 38, 46, 48] []) σ0 (r.1)) := by
  unfold fX5_holds
  exact zpc_ck (zpc_ck (zpc_if (fun _ => fc_fX5_holds_24 h) (fun _ => fc_fX5_holds_24 h)))
theorem fc_fX5_popPair_25 {σ0 : zSt} {σ : zSt} (h : (zQ [3, 5, 7, 9, 11, 12, 15, 17, 19, 21, 23, 25, 27, 28, 29, 30, 32, 34, 36, 42, 44] [] [5, 38, 46, 48] []) σ0 σ) : zpc (fX5_popPair_25 σ) (fun r => (zQ [3, 5, 7, 9, 11, 12, 15, 17, 19, 21, 23, 25, 27, 28, 29, 30, 32, 34, 36, 42, 44] [] [5, 38, 46, 48] []) σ0 (r.1)) := by
  unfold fX5_popPair_25
  exact zpc_some h
theorem fc_fX5_popPair {σ0 : zSt} {σ : zSt} {x1 : Int32} (h : (zQ [3, 5, 7, 9, 11, 12, 15, 17, 19, 21, 23, 25, 27, 28, 29, 30, 32, 34, 36, 42, 44] [] [5, 38, 46, 48] []) σ0 σ) : zpc (fX5_popPair σ x1) (fun r => (zQ [3, 5, 7, 9, 11, 12, 15, 17, 19, 21, 23, 25, 27, 28, 29, 30, 32, 34, 36, 42, 44] [] [5, 38, 46, 48] []) σ0 (r.1)) := by
  unfold fX5_popPair
  exact zpc_bi (fc_fX5_pop h) (fun σ1 v2 hσ1 => zpc_if (fun _ => zpc_bu (fc_fX5_putPairAt hσ1) (fun σ4 hσ4 => fc_fX5_popPair_25 hσ4)) (fun _ => zpc_bu (fc_fX5_putPair hσ1) (fun σ3 hσ3 => fc_fX5_popPair_25 hσ3)))
theorem fc_fX5_changeWithOther {σ0 : zSt} {σ : zSt} {x1 : Int32} (h : (zQ [3, 5, 7, 9, 11, 12, 15, 17, 19, 21, 23, 25, 27, 28, 29, 30, 32, 34, 36, 42, 44] [] [5, 38, 46, 48] []) σ0 σ) : zpc (fX5_changeWithOther σ x1) (fun r => (zQ [3, 5, 7, 9, 11, 12, 15, 17, 19, 21, 23, 25, 27, 28, 29, 30, 32, 34, 36, 42, 44] [] [5, 38, 46, 48] []) σ0 (r)) := by
  unfold fX5_changeWithOther
  exact zpc_ck (zpc_bv (fun v1 _ => zpc_ck (zpc_ck (zpc_bs (zQ.wi h rfl) (fun σ2 hσ2 => zpc_ck (zpc_bs (zQ.wi hσ2 rfl) (fun σ3 hσ3 => zpc_some hσ3)))))))
theorem fc_fX5_leave_41_body {σ0 : zSt} {k41 : zSt → Int32 → Option (zSt × Int32)} (hk41 : ∀ (y0 : zSt) (y1 : Int32), (zQ [3, 5, 7, 9, 11, 12, 15, 17, 19, 21, 23, 25, 27, 28, 29, 30, 32, 34, 36, 42, 44] [] [5, 38, 46, 48] []) σ0 y0 → zpc (k41 y0 y1) (fun r => (zQ [3, 5, 7, 9, 11, 12, 15, 17, 19, 21, 23, 25, 27, 28, 29, 30, 32, 34, 36, 42, 44] [] [5, 38, 46, 48] []) σ0 (r.1))) {σ : zSt} {x2 : Int32} (h : (zQ [3, 5, 7, 9, 11, 12, 15, 17, 19, 21, 23, 25, 27, 28, 29, 30, 32, 34, 36, 42, 44] [] [5, 38, 46, 48] []) σ0 σ) : zpc (fX5_leave_41_body k41 σ x2) (fun r => (zQ [3, 5, 7, 9, 11, 12, 15, 17, 19, 21, 23, 25, 27, 28, 29, 30, 32, 34, 36, 42, 44] [] [5, 38, 46, 48] []) σ0 (r.1)) := by
  unfold fX5_leave_41_body
  exact zpc_if (fun _ => zpc_some h) (fun _ => zpc_bu (fc_fX5_changeWithOther h) (fun σ1 hσ1 => zpc_bv (fun v2 _ => hk41 _ _ hσ1)))
theorem fc_fX5_leave_41 {σ0 : zSt} : ∀ (n : Nat) (y0 : zSt) (y1 : Int32), (zQ [3, 5, 7, 9, 11, 12, 15, 17, 19, 21, 23, 25, 27, 28, 29, 30, 32, 34, 36, 42, 44] [] [5, 38, 46, 48] []) σ0 y0 → zpc (fX5_leave_41 n y0 y1) (fun r => (zQ [3, 5, 7, 9, 11, 12, 15, 17, 19, 21, 23, 25, 27, 28, 29, 30, 32, 34, 36, 42, 44] [] [5, 38, 46, 48] []) σ0 (r.1)) := by
  intro n
  induction n with
  | zero => intro y0 y1 h; exact zpc_none
  | succ n ih => intro y0 y1 h; exact fc_fX5_leave_41_body ih h
theorem fc_fX5_leave {σ0 : zSt} {σ : zSt} {x1 : Int32} (h : (zQ [3, 5, 7, 9, 11, 12, 15, 17, 19, 21, 23, 25, 27, 28, 29, 30, 32, 34, 36, 42, 44] [] [5, 38, 46, 48] []) σ0 σ) : zpc (fX5_leave σ x1) (fun r => (zQ [3, 5, 7, 9, 11, 12, 15, 17, 19, 21, 23, 25, 27, 28, 29, 30, 32, 34, 36, 42, 44] [] [5, 38, 46, 48] []) σ0 (r.1)) := by
  unfold fX5_leave
  exact zpc_if (fun _ => zpc_bi (fc_fX5_pop h) (fun σ3 v4 hσ3 => zpc_bu (fc_fX5_goTo hσ3) (fun σ5 hσ5 => zpc_some hσ5))) (fun _ => zpc_if (fun _ => fc_fX5_leave_41 _ _ _ h) (fun _ => zpc_if (fun _ => zpc_bi (fc_fX5_hl h) (fun σ6 v7 hσ6 => zpc_ck (zpc_bs (zQ.wi hσ6 rfl) (fun σ8 hσ8 => zpc_some hσ8)))) (fun _ => zpc_bi (fc_fX5_hl h) (fun σ9 v10 hσ9 => zpc_ck (zpc_bs (zQ.wi hσ9 rfl) (fun σ11 hσ11 => zpc_some hσ11))))))
theorem fc_fX5_lastQuarter_196 {σ0 : zSt} {σ : zSt} {x2 : Int32} (h : (zQ [3, 5, 7, 9, 11, 12, 15, 17, 19, 21, 23, 25, 27, 28, 29, 30, 32, 34, 36, 42, 44] [] [5, 38, 46, 48] []) σ0 σ) : zpc (fX5_lastQuarter_196 σ x2) (fun r => (zQ [3, 5, 7, 9, 11, 12, 15, 17, 19, 21, 23, 25, 27, 28, 29, 30, 32, 34, 36, 42, 44] [] [5, 38, 46, 48] []) σ0 (r.1)) := by
  unfold fX5_lastQuarter_196
  exact zpc_ck (zpc_bu (fc_fX5_push h) (fun σ1 hσ1 => zpc_bu (fc_fX5_goTo hσ1) (fun σ2 hσ2 => zpc_some hσ2)))
theorem fc_fX5_lastQuarter_178 {σ0 : zSt} {σ : zSt} {s0 : Int32} (h : (zQ [3, 5, 7, 9, 11, 12, 15, 17, 19, 21, 23, 25, 27, 28, 29, 30, 32, 34, 36, 42, 44] [] [5, 38, 46, 48] []) σ0 σ) : zpc (fX5_lastQuarter_178 σ s0) (fun r => (zQ [3, 5, 7, 9, 11, 12, 15, 17, 19, 21, 23, 25, 27, 28, 29, 30, 32, 34, 36, 42, 44] [] [5, 38, 46, 48] []) σ0 (r.1)) := by
  unfold fX5_lastQuarter_178
  exact zpc_bu (fc_fX5_push h) (fun σ3 hσ3 => zpc_some hσ3)
theorem fc_fX5_lastQuarter_130 {σ0 : zSt} {σ : zSt} (h : (zQ [3, 5, 7, 9, 11, 12, 15, 17, 19, 21, 23, 25, 27, 28, 29, 30, 32, 34, 36, 42, 44] [] [5, 38, 46, 48] []) σ0 σ) : zpc (fX5_lastQuarter_130 σ) (fun r => (zQ [3, 5, 7, 9, 11, 12, 15, 17, 19, 21, 23, 25, 27, 28, 29, 30, 32, 34, 36, 42, 44] [] [5, 38, 46, 48] []) σ0 (r.1)) := by
  unfold fX5_lastQuarter_130
  exact zpc_some h
theorem fc_fX5_lastQuarter_96 {σ0 : zSt} {σ : zSt} {s0 : Int32} (h : (zQ [3, 5, 7, 9, 11, 12, 15, 17, 19, 21, 23, 25, 27, 28, 29, 30, 32, 34, 36, 42, 44] [] [5, 38, 46, 48] []) σ0 σ) : zpc (fX5_lastQuarter_96 σ s0) (fun r => (zQ [3, 5, 7, 9, 11, 12, 15, 17, 19, 21, 23, 25, 27, 28, 29, 30, 32, 34, 36, 42, 44] [] [5, 38, 46, 48] []) σ0 (r.1)) := by
  unfold fX5_lastQuarter_96
  exact zpc_some h
theorem fc_fX5_lastQuarter {σ0 : zSt} {σ : zSt} {x1 : Int32} (h : (zQ [3, 5, 7, 9, 11, 12, 15, 17, 19, 21, 23, 25, 27, 28, 29, 30, 32, 34, 36, 42, 44] [] [5, 38, 46, 48] []) σ0 σ) : zpc (fX5_lastQuarter σ x1) (fun r => (zQ [3, 5, 7, 9, 11, 12, 15, 17, 19, 21, 23, 25, 27, 28, 29, 30, 32, 34, 36, 42, 44] [] [5, 38, 46, 48] []) σ0 (r.1)) := by
  unfold fX5_lastQuarter
  exact zpc_bv (fun v4 _ => zpc_if (fun _ => zpc_bi (fc_fX5_holds h) (fun σ5 v6 hσ5 => zpc_if (fun _ => zpc_some hσ5) (fun _ => zpc_bi (fc_fX5_pop hσ5) (fun σ7 v8 hσ7 => zpc_bu (fc_fX5_goTo hσ7) (fun σ9 hσ9 => zpc_some hσ9))))) (fun _ => zpc_if (fun _ => zpc_if (fun _ => zpc_bi (fc_fX5_popPair h) (fun σ12 v13 hσ12 => fc_fX5_lastQuarter_96 hσ12)) (fun _ => zpc_bi (fc_fX5_leave h) (fun σ10 v11 hσ10 => fc_fX5_lastQuarter_96 hσ10))) (fun _ => zpc_if (fun _ => zpc_bi (fc_fX5_fetchWord h) (fun σ14 v15 hσ14 => zpc_ck (zpc_bs (zQ.wi hσ14 rfl) (fun σ16 hσ16 => zpc_bi (fc_fX5_holds hσ16) (fun σ17 v18 hσ17 => zpc_if (fun _ => fc_fX5_lastQuarter_130 hσ17) (fun _ => zpc_ck (zpc_ck (zpc_bs (zQ.wi hσ17 rfl) (fun σ19 hσ19 => fc_fX5_lastQuarter_130 hσ19))))))))) (fun _ => zpc_if (fun _ => fc_fX5_lastQuarter_196 h) (fun _ => zpc_if (fun _ => zpc_bi (fc_fX5_holds h) (fun σ20 v21 hσ20 => zpc_bi (fc_fX5_callIf hσ20) (fun σ22 v23 hσ22 => zpc_some hσ22))) (fun _ => zpc_if (fun _ => zpc_if (fun _ => zpc_bi (fc_fX5_callIf h) (fun σ28 v29 hσ28 => zpc_some hσ28)) (fun _ => zpc_if (fun _ => zpc_bi (fc_fX5_pairAt h) (fun σ26 v27 hσ26 => fc_fX5_lastQuarter_178 hσ26)) (fun _ => zpc_bi (fc_fX5_pair h) (fun σ24 v25 hσ24 => fc_fX5_lastQuarter_178 hσ24)))) (fun _ => zpc_if (fun _ => zpc_bi (fc_fX5_fetch h) (fun σ30 v31 hσ30 => zpc_bu (fc_fX5_doWith hσ30) (fun σ32 hσ32 => zpc_some hσ32))) (fun _ => fc_fX5_lastQuarter_196 h))))))))
theorem fc_fX5_doWithRegister_33 {σ0 : zSt} {σ : zSt} {s0 : Int32} (h : (zQ [3, 5, 7, 9, 11, 12, 15, 17, 19, 21, 23, 25, 27, 28, 29, 30, 32, 34, 36, 42, 44] [] [5, 38, 46, 48] []) σ0 σ) : zpc (fX5_doWithRegister_33 σ s0) (fun r => (zQ [3, 5, 7, 9, 11, 12, 15, 17, 19, 21, 23, 25, 27, 28, 29, 30, 32, 34, 36, 42, 44] [] [5, 38, 46, 48] []) σ0 (r.1)) := by
  unfold fX5_doWithRegister_33
  exact zpc_some h
theorem fc_fX5_doWithRegister {σ0 : zSt} {σ : zSt} {x1 : Int32} (h : (zQ [3, 5, 7, 9, 11, 12, 15, 17, 19, 21, 23, 25, 27, 28, 29, 30, 32, 34, 36, 42, 44] [] [5, 38, 46, 48] []) σ0 σ) : zpc (fX5_doWithRegister σ x1) (fun r => (zQ [3, 5, 7, 9, 11, 12, 15, 17, 19, 21, 23, 25, 27, 28, 29, 30, 32, 34, 36, 42, 44] [] [5, 38, 46, 48] []) σ0 (r.1)) := by
  unfold fX5_doWithRegister
  exact zpc_bi (fc_fX5_one h) (fun σ1 v2 hσ1 => zpc_bu (fc_fX5_doWith hσ1) (fun σ3 hσ3 => zpc_if (fun _ => fc_fX5_doWithRegister_33 hσ3) (fun _ => fc_fX5_doWithRegister_33 hσ3)))
theorem fc_fX5_move_56 {σ0 : zSt} {σ : zSt} {s0 : Int32} (h : (zQ [3, 5, 7, 9, 11, 12, 15, 17, 19, 21, 23, 25, 27, 28, 29, 30, 32, 34, 36, 42, 44] [] [5, 38, 46, 48] []) σ0 σ) : zpc (fX5_move_56 σ s0) (fun r => (zQ [3, 5, 7, 9, 11, 12, 15, 17, 19, 21, 23, 25, 27, 28, 29, 30, 32, 34, 36, 42, 44] [] [5, 38, 46, 48] []) σ0 (r.1)) := by
  unfold fX5_move_56
  exact zpc_some h
theorem fc_fX5_move_50 {σ0 : zSt} {σ : zSt} (h : (zQ [3, 5, 7, 9, 11, 12, 15, 17, 19, 21, 23, 25, 27, 28, 29, 30, 32, 34, 36, 42, 44] [] [5, 38, 46, 48] []) σ0 σ) : zpc (fX5_move_50 σ) (fun r => (zQ [3, 5, 7, 9, 11, 12, 15, 17, 19, 21, 23, 25, 27, 28, 29, 30, 32, 34, 36, 42, 44] [] [5, 38, 46, 48] []) σ0 (r.1)) := by
  unfold fX5_move_50
  exact fc_fX5_move_56 h
theorem fc_fX5_move {σ0 : zSt} {σ : zSt} {x1 : Int32} (h : (zQ [3, 5, 7, 9, 11, 12, 15, 17, 19, 21, 23, 25, 27, 28, 29, 30, 32, 34, 36, 42, 44] [] [5, 38, 46, 48] []) σ0 σ) : zpc (fX5_move σ x1) (fun r => (zQ [3, 5, 7, 9, 11, 12, 15, 17, 19, 21, 23, 25, 27, 28, 29, 30, 32, 34, 36, 42, 44] [] [5, 38, 46, 48] []) σ0 (r.1)) := by
  unfold fX5_move
  exact zpc_if (fun _ => zpc_ck (zpc_bs (zQ.wi h rfl) (fun σ6 hσ6 => zpc_some hσ6))) (fun _ => zpc_bv (fun v1 _ => zpc_bv (fun v2 _ => zpc_bi (fc_fX5_one h) (fun σ3 v4 hσ3 => zpc_bu (fc_fX5_putOne hσ3) (fun σ5 hσ5 => zpc_if (fun _ => fc_fX5_move_50 hσ5) (fun _ => zpc_if (fun _ => fc_fX5_move_50 hσ5) (fun _ => fc_fX5_move_56 hσ5)))))))
theorem fc_fX5_adjustA_202 {σ0 : zSt} {σ : zSt} {x4 : Int32} {s0 : Int32} {s1 : Int32} {s2 : Int32} (h : (zQ [3, 5, 7, 9, 11, 12, 15, 17, 19, 21, 23, 25, 27, 28, 29, 30, 32, 34, 36, 42, 44] [] [5, 38, 46, 48] []) σ0 σ) : zpc (fX5_adjustA_202 σ x4 s0 s1 s2) (fun r => (zQ [3, 5, 7, 9, 11, 12, 15, 17, 19, 21, 23, 25, 27, 28, 29, 30, 32, 34, 36, 42, 44] [] [5, 38, 46, 48] []) σ0 (r)) := by
  unfold fX5_adjustA_202
  exact zpc_ck (zpc_ck (zpc_bs (zQ.wi h rfl) (fun σ1 hσ1 => zpc_some hσ1)))
theorem fc_fX5_adjustA_161 {σ0 : zSt} {σ : zSt} {x4 : Int32} {x6 : Int32} {s0 : Int32} (h : (zQ [3, 5, 7, 9, 11, 12, 15, 17, 19, 21, 23, 25, 27, 28, 29, 30, 32, 34, 36, 42, 44] [] [5, 38, 46, 48] []) σ0 σ) : zpc (fX5_adjustA_161 σ x4 x6 s0) (fun r => (zQ [3, 5, 7, 9, 11, 12, 15, 17, 19, 21, 23, 25, 27, 28, 29, 30, 32, 34, 36, 42, 44] [] [5, 38, 46, 48] []) σ0 (r)) := by
  unfold fX5_adjustA_161
  exact zpc_bv (fun v2 _ => zpc_ck (zpc_bs (zQ.wi h rfl) (fun σ3 hσ3 => zpc_bi (fc_fX5_by hσ3) (fun σ4 v5 hσ4 => zpc_bi (fc_fX5_parity hσ4) (fun σ6 v7 hσ6 => zpc_if (fun _ => fc_fX5_adjustA_202 hσ6) (fun _ => fc_fX5_adjustA_202 hσ6))))))
theorem fc_fX5_adjustA_134 {σ0 : zSt} {σ : zSt} {x3 : Int32} {x4 : Int32} {x5 : Int32} {s0 : Int32} (h : (zQ [3, 5, 7, 9, 11, 12, 15, 17, 19, 21, 23, 25, 27, 28, 29, 30, 32, 34, 36, 42, 44] [] [5, 38, 46, 48] []) σ0 σ) : zpc (fX5_adjustA_134 σ x3 x4 x5 s0) (fun r => (zQ [3, 5, 7, 9, 11, 12, 15, 17, 19, 21, 23, 25, 27, 28, 29, 30, 32, 34, 36, 42, 44] [] [5, 38, 46, 48] []) σ0 (r)) := by
  unfold fX5_adjustA_134
  exact zpc_if (fun _ => zpc_ck (fc_fX5_adjustA_161 h)) (fun _ => zpc_ck (fc_fX5_adjustA_161 h))
theorem fc_fX5_adjustA_119 {σ0 : zSt} {σ : zSt} {x3 : Int32} {x4 : Int32} {x5 : Int32} (h : (zQ [3, 5, 7, 9, 11, 12, 15, 17, 19, 21, 23, 25, 27, 28, 29, 30, 32, 34, 36, 42, 44] [] [5, 38, 46, 48] []) σ0 σ) : zpc (fX5_adjustA_119 σ x3 x4 x5) (fun r => (zQ [3, 5, 7, 9, 11, 12, 15, 17, 19, 21, 23, 25, 27, 28, 29, 30, 32, 34, 36, 42, 44] [] [5, 38, 46, 48] []) σ0 (r)) := by
  unfold fX5_adjustA_119
  exact fc_fX5_adjustA_134 h
theorem fc_fX5_adjustA_98 {σ0 : zSt} {σ : zSt} {x1 : Int32} {x2 : Int32} {x3 : Int32} {x4 : Int32} {s0 : Int32} {s1 : Int32} (h : (zQ [3, 5, 7, 9, 11, 12, 15, 17, 19, 21, 23, 25, 27, 28, 29, 30, 32, 34, 36, 42, 44] [] [5, 38, 46, 48] []) σ0 σ) : zpc (fX5_adjustA_98 σ x1 x2 x3 x4 s0 s1) (fun r => (zQ [3, 5, 7, 9, 11, 12, 15, 17, 19, 21, 23, 25, 27, 28, 29, 30, 32, 34, 36, 42, 44] [] [5, 38, 46, 48] []) σ0 (r)) := by
  unfold fX5_adjustA_98
  exact zpc_bv (fun v8 _ => zpc_if (fun _ => zpc_if (fun _ => fc_fX5_adjustA_134 h) (fun _ => fc_fX5_adjustA_134 h)) (fun _ => zpc_if (fun _ => fc_fX5_adjustA_119 h) (fun _ => zpc_if (fun _ => fc_fX5_adjustA_119 h) (fun _ => fc_fX5_adjustA_134 h))))
theorem fc_fX5_adjustA_87 {σ0 : zSt} {σ : zSt} {x1 : Int32} {x2 : Int32} {x3 : Int32} {x4 : Int32} {s0 : Int32} (h : (zQ [3, 5, 7, 9, 11, 12, 15, 17, 19, 21, 23, 25, 27, 28, 29, 30, 32, 34, 36, 42, 44] [] [5, 38, 46, 48] []) σ0 σ) : zpc (fX5_adjustA_87 σ x1 x2 x3 x4 s0) (fun r => (zQ [3, 5, 7, 9, 11, 12, 15, 17, 19, 21, 23, 25, 27, 28, 29, 30, 32, 34, 36, 42, 44] [] [5, 38, 46, 48] []) σ0 (r)) := by
  unfold fX5_adjustA_87
  exact zpc_if (fun _ => fc_fX5_adjustA_98 h) (fun _ => fc_fX5_adjustA_98 h)
theorem fc_fX5_adjustA_81 {σ0 : zSt} {σ : zSt} {x1 : Int32} {x2 : Int32} {x3 : Int32} {x4 : Int32} (h : (zQ [3, 5, 7, 9, 11, 12, 15, 17, 19, 21, 23, 25, 27, 28, 29, 30, 32, 34, 36, 42, 44] [] [5, 38, 46, 48] []) σ0 σ) : zpc (fX5_adjustA_81 σ x1 x2 x3 x4) (fun r => (zQ [3, 5, 7, 9, 11, 12, 15, 17, 19, 21, 23, 25, 27, 28, 29, 30, 32, 34, 36, 42, 44] [] [5, 38, 46, 48] []) σ0 (r)) := by
  unfold fX5_adjustA_81
  exact fc_fX5_adjustA_87 h
theorem fc_fX5_adjustA_69 {σ0 : zSt} {σ : zSt} {x1 : Int32} {x2 : Int32} {x3 : Int32} {s0 : Int32} (h : (zQ [3, 5, 7, 9, 11, 12, 15, 17, 19, 21, 23, 25, 27, 28, 29, 30, 32, 34, 36, 42, 44] [] [5, 38, 46, 48] []) σ0 σ) : zpc (fX5_adjustA_69 σ x1 x2 x3 s0) (fun r => (zQ [3, 5, 7, 9, 11, 12, 15, 17, 19, 21, 23, 25, 27, 28, 29, 30, 32, 34, 36, 42, 44] [] [5, 38, 46, 48] []) σ0 (r)) := by
  unfold fX5_adjustA_69
  exact zpc_if (fun _ => fc_fX5_adjustA_81 h) (fun _ => zpc_if (fun _ => fc_fX5_adjustA_87 h) (fun _ => fc_fX5_adjustA_81 h))
theorem fc_fX5_adjustA_44 {σ0 : zSt} {σ : zSt} {x1 : Int32} {x2 : Int32} {s0 : Int32} (h : (zQ [3, 5, 7, 9, 11, 12, 15, 17, 19, 21, 23, 25, 27, 28, 29, 30, 32, 34, 36, 42, 44] [] [5, 38, 46, 48] []) σ0 σ) : zpc (fX5_adjustA_44 σ x1 x2 s0) (fun r => (zQ [3, 5, 7, 9, 11, 12, 15, 17, 19, 21, 23, 25, 27, 28, 29, 30, 32, 34, 36, 42, 44] [] [5, 38, 46, 48] []) σ0 (r)) := by
  unfold fX5_adjustA_44
  exact zpc_ck (zpc_if (fun _ => zpc_ck (fc_fX5_adjustA_69 h)) (fun _ => fc_fX5_adjustA_69 h))
theorem fc_fX5_adjustA_27 {σ0 : zSt} {σ : zSt} {x1 : Int32} {s0 : Int32} (h : (zQ [3, 5, 7, 9, 11, 12, 15, 17, 19, 21, 23, 25, 27, 28, 29, 30, 32, 34, 36, 42, 44] [] [5, 38, 46, 48] []) σ0 σ) : zpc (fX5_adjustA_27 σ x1 s0) (fun r => (zQ [3, 5, 7, 9, 11, 12, 15, 17, 19, 21, 23, 25, 27, 28, 29, 30, 32, 34, 36, 42, 44] [] [5, 38, 46, 48] []) σ0 (r)) := by
  unfold fX5_adjustA_27
  exact zpc_ck (zpc_if (fun _ => fc_fX5_adjustA_44 h) (fun _ => fc_fX5_adjustA_44 h))
theorem fc_fX5_adjustA {σ0 : zSt} {σ : zSt} (h : (zQ [3, 5, 7, 9, 11, 12, 15, 17, 19, 21, 23, 25, 27, 28, 29, 30, 32, 34, 36, 42, 44] [] [5, 38, 46, 48] []) σ0 σ) : zpc (fX5_adjustA σ) (fun r => (zQ [3, 5, 7, 9, 11, 12, 15, 17, 19, 21, 23, 25, 27, 28, 29, 30, 32, 34, 36, 42, 44] [] [5, 38, 46, 48] []) σ0 (r)) := by
  unfold fX5_adjustA
  exact zpc_ck (zpc_bv (fun v9 _ => zpc_ck (zpc_if (fun _ => fc_fX5_adjustA_27 h) (fun _ => fc_fX5_adjustA_27 h))))
theorem fc_fX5_changeA_130 {σ0 : zSt} {σ : zSt} {s0 : Int32} {s1 : Int32} {s2 : Int32} (h : (zQ [3, 5, 7, 9, 11, 12, 15, 17, 19, 21, 23, 25, 27, 28, 29, 30, 32, 34, 36, 42, 44] [] [5, 38, 46, 48] []) σ0 σ) : zpc (fX5_changeA_130 σ s0 s1 s2) (fun r => (zQ [3, 5, 7, 9, 11, 12, 15, 17, 19, 21, 23, 25, 27, 28, 29, 30, 32, 34, 36, 42, 44] [] [5, 38, 46, 48] []) σ0 (r)) := by
  unfold fX5_changeA_130
  exact zpc_ck (zpc_ck (zpc_bs (zQ.wi h rfl) (fun σ1 hσ1 => zpc_some hσ1)))
theorem fc_fX5_changeA {σ0 : zSt} {σ : zSt} {x1 : Int32} (h : (zQ [3, 5, 7, 9, 11, 12, 15, 17, 19, 21, 23, 25, 27, 28, 29, 30, 32, 34, 36, 42, 44] [] [5, 38, 46, 48] []) σ0 σ) : zpc (fX5_changeA σ x1) (fun r => (zQ [3, 5, 7, 9, 11, 12, 15, 17, 19, 21, 23, 25, 27, 28, 29, 30, 32, 34, 36, 42, 44] [] [5, 38, 46, 48] []) σ0 (r)) := by
  unfold fX5_changeA
  exact zpc_ck (zpc_bv (fun v2 _ => zpc_ck (zpc_bv (fun v3 _ => zpc_if (fun _ => zpc_bu (fc_fX5_adjustA h) (fun σ4 hσ4 => zpc_some hσ4)) (fun _ => zpc_if (fun _ => zpc_ck (zpc_ck (zpc_bs (zQ.wi h rfl) (fun σ5 hσ5 => zpc_ck (zpc_ck (zpc_bs (zQ.wi hσ5 rfl) (fun σ6 hσ6 => zpc_some hσ6))))))) (fun _ => zpc_if (fun _ => zpc_ck (zpc_ck (zpc_bs (zQ.wi h rfl) (fun σ7 hσ7 => zpc_some hσ7)))) (fun _ => zpc_if (fun _ => zpc_if (fun _ => fc_fX5_changeA_130 h) (fun _ => fc_fX5_changeA_130 h)) (fun _ => zpc_ck (zpc_bi (fc_fX5_turn h) (fun σ8 v9 hσ8 => zpc_ck (zpc_bs (zQ.wi hσ8 rfl) (fun σ10 hσ10 => zpc_ck (zpc_ck (zpc_bs (zQ.wi hσ10 rfl) (fun σ11 hσ11 => zpc_some hσ11)))))))))))))))
theorem fc_fX5_oneLess_53 {σ0 : zSt} {σ : zSt} {x2 : Int32} {s0 : Int32} {s1 : Int32} {s2 : Int32} (h : (zQ [3, 5, 7, 9, 11, 12, 15, 17, 19, 21, 23, 25, 27, 28, 29, 30, 32, 34, 36, 42, 44] [] [5, 38, 46, 48] []) σ0 σ) : zpc (fX5_oneLess_53 σ x2 s0 s1 s2) (fun r => (zQ [3, 5, 7, 9, 11, 12, 15, 17, 19, 21, 23, 25, 27, 28, 29, 30, 32, 34, 36, 42, 44] [] [5, 38, 46, 48] []) σ0 (r.1)) := by
  unfold fX5_oneLess_53
  exact zpc_ck (zpc_bs (zQ.wi h rfl) (fun σ1 hσ1 => zpc_some hσ1))
theorem fc_fX5_oneLess_41 {σ0 : zSt} {σ : zSt} {x2 : Int32} {s0 : Int32} {s1 : Int32} {s2 : Int32} (h : (zQ [3, 5, 7, 9, 11, 12, 15, 17, 19, 21, 23, 25, 27, 28, 29, 30, 32, 34, 36, 42, 44] [] [5, 38, 46, 48] []) σ0 σ) : zpc (fX5_oneLess_41 σ x2 s0 s1 s2) (fun r => (zQ [3, 5, 7, 9, 11, 12, 15, 17, 19, 21, 23, 25, 27, 28, 29, 30, 32, 34, 36, 42, 44] [] [5, 38, 46, 48] []) σ0 (r.1)) := by
  unfold fX5_oneLess_41
  exact zpc_if (fun _ => fc_fX5_oneLess_53 h) (fun _ => fc_fX5_oneLess_53 h)
theorem fc_fX5_oneLess {σ0 : zSt} {σ : zSt} {x1 : Int32} (h : (zQ [3, 5, 7, 9, 11, 12, 15, 17, 19, 21, 23, 25, 27, 28, 29, 30, 32, 34, 36, 42, 44] [] [5, 38, 46, 48] []) σ0 σ) : zpc (fX5_oneLess σ x1) (fun r => (zQ [3, 5, 7, 9, 11, 12, 15, 17, 19, 21, 23, 25, 27, 28, 29, 30, 32, 34, 36, 42, 44] [] [5, 38, 46, 48] []) σ0 (r.1)) := by
  unfold fX5_oneLess
  exact zpc_bv (fun v2 _ => zpc_ck (zpc_bi (fc_fX5_by h) (fun σ3 v4 hσ3 => zpc_if (fun _ => fc_fX5_oneLess_41 hσ3) (fun _ => fc_fX5_oneLess_41 hσ3))))
theorem fc_fX5_oneMore_52 {σ0 : zSt} {σ : zSt} {x2 : Int32} {s0 : Int32} {s1 : Int32} {s2 : Int32} (h : (zQ [3, 5, 7, 9, 11, 12, 15, 17, 19, 21, 23, 25, 27, 28, 29, 30, 32, 34, 36, 42, 44] [] [5, 38, 46, 48] []) σ0 σ) : zpc (fX5_oneMore_52 σ x2 s0 s1 s2) (fun r => (zQ [3, 5, 7, 9, 11, 12, 15, 17, 19, 21, 23, 25, 27, 28, 29, 30, 32, 34, 36, 42, 44] [] [5, 38, 46, 48] []) σ0 (r.1)) := by
  unfold fX5_oneMore_52
  exact zpc_ck (zpc_bs (zQ.wi h rfl) (fun σ1 hσ1 => zpc_some hσ1))
theorem fc_fX5_oneMore_39 {σ0 : zSt} {σ : zSt} {x2 : Int32} {s0 : Int32} {s1 : Int32} {s2 : Int32} (h : (zQ [3, 5, 7, 9, 11, 12, 15, 17, 19, 21, 23, 25, 27, 28, 29, 30, 32, 34, 36, 42, 44] [] [5, 38, 46, 48] []) σ0 σ) : zpc (fX5_oneMore_39 σ x2 s0 s1 s2) (fun r => (zQ [3, 5, 7, 9, 11, 12, 15, 17, 19, 21, 23, 25, 27, 28, 29, 30, 32, 34, 36, 42, 44] [] [5, 38, 46, 48] []) σ0 (r.1)) := by
  unfold fX5_oneMore_39
  exact zpc_if (fun _ => fc_fX5_oneMore_52 h) (fun _ => fc_fX5_oneMore_52 h)
theorem fc_fX5_oneMore {σ0 : zSt} {σ : zSt} {x1 : Int32} (h : (zQ [3, 5, 7, 9, 11, 12, 15, 17, 19, 21, 23, 25, 27, 28, 29, 30, 32, 34, 36, 42, 44] [] [5, 38, 46, 48] []) σ0 σ) : zpc (fX5_oneMore σ x1) (fun r => (zQ [3, 5, 7, 9, 11, 12, 15, 17, 19, 21, 23, 25, 27, 28, 29, 30, 32, 34, 36, 42, 44] [] [5, 38, 46, 48] []) σ0 (r.1)) := by
  unfold fX5_oneMore
  exact zpc_bv (fun v2 _ => zpc_ck (zpc_bi (fc_fX5_by h) (fun σ3 v4 hσ3 => zpc_if (fun _ => fc_fX5_oneMore_39 hσ3) (fun _ => fc_fX5_oneMore_39 hσ3))))
theorem fc_fX5_far_78 {σ0 : zSt} {σ : zSt} (h : (zQ [3, 5, 7, 9, 11, 12, 15, 17, 19, 21, 23, 25, 27, 28, 29, 30, 32, 34, 36, 42, 44] [] [5, 38, 46, 48] []) σ0 σ) : zpc (fX5_far_78 σ) (fun r => (zQ [3, 5, 7, 9, 11, 12, 15, 17, 19, 21, 23, 25, 27, 28, 29, 30, 32, 34, 36, 42, 44] [] [5, 38, 46, 48] []) σ0 (r.1)) := by
  unfold fX5_far_78
  exact zpc_some h
theorem fc_fX5_far_152 {σ0 : zSt} {σ : zSt} {s0 : Int32} (h : (zQ [3, 5, 7, 9, 11, 12, 15, 17, 19, 21, 23, 25, 27, 28, 29, 30, 32, 34, 36, 42, 44] [] [5, 38, 46, 48] []) σ0 σ) : zpc (fX5_far_152 σ s0) (fun r => (zQ [3, 5, 7, 9, 11, 12, 15, 17, 19, 21, 23, 25, 27, 28, 29, 30, 32, 34, 36, 42, 44] [] [5, 38, 46, 48] []) σ0 (r.1)) := by
  unfold fX5_far_152
  exact zpc_some h
theorem fc_fX5_far_140 {σ0 : zSt} {σ : zSt} {x1 : Int32} (h : (zQ [3, 5, 7, 9, 11, 12, 15, 17, 19, 21, 23, 25, 27, 28, 29, 30, 32, 34, 36, 42, 44] [] [5, 38, 46, 48] []) σ0 σ) : zpc (fX5_far_140 σ x1) (fun r => (zQ [3, 5, 7, 9, 11, 12, 15, 17, 19, 21, 23, 25, 27, 28, 29, 30, 32, 34, 36, 42, 44] [] [5, 38, 46, 48] []) σ0 (r.1)) := by
  unfold fX5_far_140
  exact zpc_if (fun _ => fc_fX5_far_152 h) (fun _ => fc_fX5_far_152 h)
theorem fc_fX5_far_32 {σ0 : zSt} {σ : zSt} {x1 : Int32} {x2 : Int32} {s0 : Int32} (h : (zQ [3, 5, 7, 9, 11, 12, 15, 17, 19, 21, 23, 25, 27, 28, 29, 30, 32, 34, 36, 42, 44] [] [5, 38, 46, 48] []) σ0 σ) : zpc (fX5_far_32 σ x1 x2 s0) (fun r => (zQ [3, 5, 7, 9, 11, 12, 15, 17, 19, 21, 23, 25, 27, 28, 29, 30, 32, 34, 36, 42, 44] [] [5, 38, 46, 48] []) σ0 (r.1)) := by
  unfold fX5_far_32
  exact zpc_ck (zpc_bs (zQ.wi h rfl) (fun σ1 hσ1 => zpc_if (fun _ => zpc_if (fun _ => zpc_bi (fc_fX5_hl hσ1) (fun σ7 v8 hσ7 => zpc_bu (fc_fX5_writeWord hσ7) (fun σ9 hσ9 => fc_fX5_far_78 hσ9))) (fun _ => zpc_bi (fc_fX5_readWord hσ1) (fun σ10 v11 hσ10 => zpc_bu (fc_fX5_putHl hσ10) (fun σ12 hσ12 => fc_fX5_far_78 hσ12)))) (fun _ => zpc_if (fun _ => zpc_ck (zpc_bu (fc_fX2_write hσ1) (fun σ2 hσ2 => zpc_ck (zpc_ck (zpc_bs (zQ.wi hσ2 rfl) (fun σ3 hσ3 => fc_fX5_far_140 hσ3)))))) (fun _ => zpc_bi (fc_fX2_read hσ1) (fun σ4 v5 hσ4 => zpc_ck (zpc_bs (zQ.wi hσ4 rfl) (fun σ6 hσ6 => fc_fX5_far_140 hσ6)))))))
theorem fc_fX5_far_12 {σ0 : zSt} {σ : zSt} {x1 : Int32} {s0 : Int32} (h : (zQ [3, 5, 7, 9, 11, 12, 15, 17, 19, 21, 23, 25, 27, 28, 29, 30, 32, 34, 36, 42, 44] [] [5, 38, 46, 48] []) σ0 σ) : zpc (fX5_far_12 σ x1 s0) (fun r => (zQ [3, 5, 7, 9, 11, 12, 15, 17, 19, 21, 23, 25, 27, 28, 29, 30, 32, 34, 36, 42, 44] [] [5, 38, 46, 48] []) σ0 (r.1)) := by
  unfold fX5_far_12
  exact zpc_if (fun _ => zpc_bi (fc_fX5_fetchWord h) (fun σ13 v14 hσ13 => fc_fX5_far_32 hσ13)) (fun _ => zpc_bi (fc_fX5_pair h) (fun σ15 v16 hσ15 => fc_fX5_far_32 hσ15))
theorem fc_fX5_far {σ0 : zSt} {σ : zSt} {x1 : Int32} (h : (zQ [3, 5, 7, 9, 11, 12, 15, 17, 19, 21, 23, 25, 27, 28, 29, 30, 32, 34, 36, 42, 44] [] [5, 38, 46, 48] []) σ0 σ) : zpc (fX5_far σ x1) (fun r => (zQ [3, 5, 7, 9, 11, 12, 15, 17, 19, 21, 23, 25, 27, 28, 29, 30, 32, 34, 36, 42, 44] [] [5, 38, 46, 48] []) σ0 (r.1)) := by
  unfold fX5_far
  exact zpc_if (fun _ => fc_fX5_far_12 h) (fun _ => fc_fX5_far_12 h)
theorem fc_fX5_loadPair {σ0 : zSt} {σ : zSt} {x1 : Int32} (h : (zQ [3, 5, 7, 9, 11, 12, 15, 17, 19, 21, 23, 25, 27, 28, 29, 30, 32, 34, 36, 42, 44] [] [5, 38, 46, 48] []) σ0 σ) : zpc (fX5_loadPair σ x1) (fun r => (zQ [3, 5, 7, 9, 11, 12, 15, 17, 19, 21, 23, 25, 27, 28, 29, 30, 32, 34, 36, 42, 44] [] [5, 38, 46, 48] []) σ0 (r.1)) := by
  unfold fX5_loadPair
  exact zpc_bi (fc_fX5_fetchWord h) (fun σ1 v2 hσ1 => zpc_bu (fc_fX5_putPair hσ1) (fun σ3 hσ3 => zpc_some hσ3))
theorem fc_fX5_addPair {σ0 : zSt} {σ : zSt} {x1 : Int32} (h : (zQ [3, 5, 7, 9, 11, 12, 15, 17, 19, 21, 23, 25, 27, 28, 29, 30, 32, 34, 36, 42, 44] [] [5, 38, 46, 48] []) σ0 σ) : zpc (fX5_addPair σ x1) (fun r => (zQ [3, 5, 7, 9, 11, 12, 15, 17, 19, 21, 23, 25, 27, 28, 29, 30, 32, 34, 36, 42, 44] [] [5, 38, 46, 48] []) σ0 (r.1)) := by
  unfold fX5_addPair
  exact zpc_bi (fc_fX5_hl h) (fun σ1 v2 hσ1 => zpc_bi (fc_fX5_pair hσ1) (fun σ3 v4 hσ3 => zpc_bv (fun v5 _ => zpc_ck (zpc_bs (zQ.wi hσ3 rfl) (fun σ6 hσ6 => zpc_bu (fc_fX5_putHl hσ6) (fun σ7 hσ7 => zpc_ck (zpc_ck (zpc_bs (zQ.wi hσ7 rfl) (fun σ8 hσ8 => zpc_some hσ8)))))))))
theorem fc_fX5_near_20 {σ0 : zSt} {σ : zSt} (h : (zQ [3, 5, 7, 9, 11, 12, 15, 17, 19, 21, 23, 25, 27, 28, 29, 30, 32, 34, 36, 42, 44] [] [5, 38, 46, 48] []) σ0 σ) : zpc (fX5_near_20 σ) (fun r => (zQ [3, 5, 7, 9, 11, 12, 15, 17, 19, 21, 23, 25, 27, 28, 29, 30, 32, 34, 36, 42, 44] [] [5, 38, 46, 48] []) σ0 (r.1)) := by
  unfold fX5_near_20
  exact zpc_some h
theorem fc_fX5_near_133 {σ0 : zSt} {σ : zSt} {s0 : Int32} {s1 : Int32} (h : (zQ [3, 5, 7, 9, 11, 12, 15, 17, 19, 21, 23, 25, 27, 28, 29, 30, 32, 34, 36, 42, 44] [] [5, 38, 46, 48] []) σ0 σ) : zpc (fX5_near_133 σ s0 s1) (fun r => (zQ [3, 5, 7, 9, 11, 12, 15, 17, 19, 21, 23, 25, 27, 28, 29, 30, 32, 34, 36, 42, 44] [] [5, 38, 46, 48] []) σ0 (r.1)) := by
  unfold fX5_near_133
  exact zpc_some h
theorem fc_fX5_near_123 {σ0 : zSt} {σ : zSt} {x1 : Int32} {s0 : Int32} (h : (zQ [3, 5, 7, 9, 11, 12, 15, 17, 19, 21, 23, 25, 27, 28, 29, 30, 32, 34, 36, 42, 44] [] [5, 38, 46, 48] []) σ0 σ) : zpc (fX5_near_123 σ x1 s0) (fun r => (zQ [3, 5, 7, 9, 11, 12, 15, 17, 19, 21, 23, 25, 27, 28, 29, 30, 32, 34, 36, 42, 44] [] [5, 38, 46, 48] []) σ0 (r.1)) := by
  unfold fX5_near_123
  exact zpc_if (fun _ => fc_fX5_near_133 h) (fun _ => fc_fX5_near_133 h)
theorem fc_fX5_near_112 {σ0 : zSt} {σ : zSt} {x1 : Int32} {x3 : Int32} (h : (zQ [3, 5, 7, 9, 11, 12, 15, 17, 19, 21, 23, 25, 27, 28, 29, 30, 32, 34, 36, 42, 44] [] [5, 38, 46, 48] []) σ0 σ) : zpc (fX5_near_112 σ x1 x3) (fun r => (zQ [3, 5, 7, 9, 11, 12, 15, 17, 19, 21, 23, 25, 27, 28, 29, 30, 32, 34, 36, 42, 44] [] [5, 38, 46, 48] []) σ0 (r.1)) := by
  unfold fX5_near_112
  exact zpc_if (fun _ => fc_fX5_near_123 h) (fun _ => fc_fX5_near_123 h)
theorem fc_fX5_near_92 {σ0 : zSt} {σ : zSt} {x1 : Int32} {x2 : Int32} {x3 : Int32} (h : (zQ [3, 5, 7, 9, 11, 12, 15, 17, 19, 21, 23, 25, 27, 28, 29, 30, 32, 34, 36, 42, 44] [] [5, 38, 46, 48] []) σ0 σ) : zpc (fX5_near_92 σ x1 x2 x3) (fun r => (zQ [3, 5, 7, 9, 11, 12, 15, 17, 19, 21, 23, 25, 27, 28, 29, 30, 32, 34, 36, 42, 44] [] [5, 38, 46, 48] []) σ0 (r.1)) := by
  unfold fX5_near_92
  exact zpc_if (fun _ => fc_fX5_near_112 h) (fun _ => zpc_ck (zpc_bu (fc_fX5_goTo h) (fun σ1 hσ1 => fc_fX5_near_112 hσ1)))
theorem fc_fX5_near_91 {σ0 : zSt} {σ : zSt} {x1 : Int32} {x2 : Int32} {s0 : Int32} (h : (zQ [3, 5, 7, 9, 11, 12, 15, 17, 19, 21, 23, 25, 27, 28, 29, 30, 32, 34, 36, 42, 44] [] [5, 38, 46, 48] []) σ0 σ) : zpc (fX5_near_91 σ x1 x2 s0) (fun r => (zQ [3, 5, 7, 9, 11, 12, 15, 17, 19, 21, 23, 25, 27, 28, 29, 30, 32, 34, 36, 42, 44] [] [5, 38, 46, 48] []) σ0 (r.1)) := by
  unfold fX5_near_91
  exact fc_fX5_near_92 h
theorem fc_fX5_near_53 {σ0 : zSt} {σ : zSt} {x1 : Int32} {x2 : Int32} {s0 : Int32} (h : (zQ [3, 5, 7, 9, 11, 12, 15, 17, 19, 21, 23, 25, 27, 28, 29, 30, 32, 34, 36, 42, 44] [] [5, 38, 46, 48] []) σ0 σ) : zpc (fX5_near_53 σ x1 x2 s0) (fun r => (zQ [3, 5, 7, 9, 11, 12, 15, 17, 19, 21, 23, 25, 27, 28, 29, 30, 32, 34, 36, 42, 44] [] [5, 38, 46, 48] []) σ0 (r.1)) := by
  unfold fX5_near_53
  exact zpc_if (fun _ => zpc_ck (zpc_ck (zpc_bs (zQ.wi h rfl) (fun σ2 hσ2 => zpc_ck (zpc_if (fun _ => fc_fX5_near_91 hσ2) (fun _ => fc_fX5_near_91 hσ2)))))) (fun _ => fc_fX5_near_92 h)
theorem fc_fX5_near_48 {σ0 : zSt} {σ : zSt} {x1 : Int32} {x2 : Int32} (h : (zQ [3, 5, 7, 9, 11, 12, 15, 17, 19, 21, 23, 25, 27, 28, 29, 30, 32, 34, 36, 42, 44] [] [5, 38, 46, 48] []) σ0 σ) : zpc (fX5_near_48 σ x1 x2) (fun r => (zQ [3, 5, 7, 9, 11, 12, 15, 17, 19, 21, 23, 25, 27, 28, 29, 30, 32, 34, 36, 42, 44] [] [5, 38, 46, 48] []) σ0 (r.1)) := by
  unfold fX5_near_48
  exact fc_fX5_near_53 h
theorem fc_fX5_near_52 {σ0 : zSt} {σ : zSt} {x1 : Int32} {x2 : Int32} (h : (zQ [3, 5, 7, 9, 11, 12, 15, 17, 19, 21, 23, 25, 27, 28, 29, 30, 32, 34, 36, 42, 44] [] [5, 38, 46, 48] []) σ0 σ) : zpc (fX5_near_52 σ x1 x2) (fun r => (zQ [3, 5, 7, 9, 11, 12, 15, 17, 19, 21, 23, 25, 27, 28, 29, 30, 32, 34, 36, 42, 44] [] [5, 38, 46, 48] []) σ0 (r.1)) := by
  unfold fX5_near_52
  exact fc_fX5_near_53 h
theorem fc_fX5_near {σ0 : zSt} {σ : zSt} {x1 : Int32} (h : (zQ [3, 5, 7, 9, 11, 12, 15, 17, 19, 21, 23, 25, 27, 28, 29, 30, 32, 34, 36, 42, 44] [] [5, 38, 46, 48] []) σ0 σ) : zpc (fX5_near σ x1) (fun r => (zQ [3, 5, 7, 9, 11, 12, 15, 17, 19, 21, 23, 25, 27, 28, 29, 30, 32, 34, 36, 42, 44] [] [5, 38, 46, 48] []) σ0 (r.1)) := by
  unfold fX5_near
  exact zpc_if (fun _ => zpc_bi (fc_fX5_fetch h) (fun σ3 v4 hσ3 => zpc_bv (fun v5 _ => zpc_if (fun _ => fc_fX5_near_48 hσ3) (fun _ => zpc_if (fun _ => fc_fX5_near_52 hσ3) (fun _ => zpc_bi (fc_fX5_holds hσ3) (fun σ6 v7 hσ6 => zpc_if (fun _ => fc_fX5_near_52 hσ6) (fun _ => fc_fX5_near_48 hσ6))))))) (fun _ => zpc_if (fun _ => zpc_bu (fc_fX5_changeWithOther h) (fun σ8 hσ8 => zpc_bu (fc_fX5_changeWithOther hσ8) (fun σ9 hσ9 => fc_fX5_near_20 hσ9))) (fun _ => fc_fX5_near_20 h))
theorem fc_fX5_firstQuarter_193 {σ0 : zSt} {σ : zSt} {s0 : Int32} (h : (zQ [3, 5, 7, 9, 11, 12, 15, 17, 19, 21, 23, 25, 27, 28, 29, 30, 32, 34, 36, 42, 44] [] [5, 38, 46, 48] []) σ0 σ) : zpc (fX5_firstQuarter_193 σ s0) (fun r => (zQ [3, 5, 7, 9, 11, 12, 15, 17, 19, 21, 23, 25, 27, 28, 29, 30, 32, 34, 36, 42, 44] [] [5, 38, 46, 48] []) σ0 (r.1)) := by
  unfold fX5_firstQuarter_193
  exact zpc_some h
theorem fc_fX5_firstQuarter_170 {σ0 : zSt} {σ : zSt} {s0 : Int32} (h : (zQ [3, 5, 7, 9, 11, 12, 15, 17, 19, 21, 23, 25, 27, 28, 29, 30, 32, 34, 36, 42, 44] [] [5, 38, 46, 48] []) σ0 σ) : zpc (fX5_firstQuarter_170 σ s0) (fun r => (zQ [3, 5, 7, 9, 11, 12, 15, 17, 19, 21, 23, 25, 27, 28, 29, 30, 32, 34, 36, 42, 44] [] [5, 38, 46, 48] []) σ0 (r.1)) := by
  unfold fX5_firstQuarter_170
  exact zpc_some h
theorem fc_fX5_firstQuarter_143 {σ0 : zSt} {σ : zSt} {s0 : Int32} (h : (zQ [3, 5, 7, 9, 11, 12, 15, 17, 19, 21, 23, 25, 27, 28, 29, 30, 32, 34, 36, 42, 44] [] [5, 38, 46, 48] []) σ0 σ) : zpc (fX5_firstQuarter_143 σ s0) (fun r => (zQ [3, 5, 7, 9, 11, 12, 15, 17, 19, 21, 23, 25, 27, 28, 29, 30, 32, 34, 36, 42, 44] [] [5, 38, 46, 48] []) σ0 (r.1)) := by
  unfold fX5_firstQuarter_143
  exact zpc_some h
theorem fc_fX5_firstQuarter_110 {σ0 : zSt} {σ : zSt} {s0 : Int32} {s1 : Int32} {s2 : Int32} (h : (zQ [3, 5, 7, 9, 11, 12, 15, 17, 19, 21, 23, 25, 27, 28, 29, 30, 32, 34, 36, 42, 44] [] [5, 38, 46, 48] []) σ0 σ) : zpc (fX5_firstQuarter_110 σ s0 s1 s2) (fun r => (zQ [3, 5, 7, 9, 11, 12, 15, 17, 19, 21, 23, 25, 27, 28, 29, 30, 32, 34, 36, 42, 44] [] [5, 38, 46, 48] []) σ0 (r.1)) := by
  unfold fX5_firstQuarter_110
  exact zpc_bu (fc_fX5_putPair h) (fun σ1 hσ1 => zpc_some hσ1)
theorem fc_fX5_firstQuarter_81 {σ0 : zSt} {σ : zSt} {s0 : Int32} (h : (zQ [3, 5, 7, 9, 11, 12, 15, 17, 19, 21, 23, 25, 27, 28, 29, 30, 32, 34, 36, 42, 44] [] [5, 38, 46, 48] []) σ0 σ) : zpc (fX5_firstQuarter_81 σ s0) (fun r => (zQ [3, 5, 7, 9, 11, 12, 15, 17, 19, 21, 23, 25, 27, 28, 29, 30, 32, 34, 36, 42, 44] [] [5, 38, 46, 48] []) σ0 (r.1)) := by
  unfold fX5_firstQuarter_81
  exact zpc_some h
theorem fc_fX5_firstQuarter {σ0 : zSt} {σ : zSt} {x1 : Int32} (h : (zQ [3, 5, 7, 9, 11, 12, 15, 17, 19, 21, 23, 25, 27, 28, 29, 30, 32, 34, 36, 42, 44] [] [5, 38, 46, 48] []) σ0 σ) : zpc (fX5_firstQuarter σ x1) (fun r => (zQ [3, 5, 7, 9, 11, 12, 15, 17, 19, 21, 23, 25, 27, 28, 29, 30, 32, 34, 36, 42, 44] [] [5, 38, 46, 48] []) σ0 (r.1)) := by
  unfold fX5_firstQuarter
  exact zpc_bv (fun v2 _ => zpc_if (fun _ => zpc_bi (fc_fX5_near h) (fun σ3 v4 hσ3 => zpc_some hσ3)) (fun _ => zpc_if (fun _ => zpc_if (fun _ => zpc_bi (fc_fX5_loadPair h) (fun σ7 v8 hσ7 => fc_fX5_firstQuarter_81 hσ7)) (fun _ => zpc_bi (fc_fX5_addPair h) (fun σ5 v6 hσ5 => fc_fX5_firstQuarter_81 hσ5))) (fun _ => zpc_if (fun _ => zpc_bi (fc_fX5_far h) (fun σ9 v10 hσ9 => zpc_some hσ9)) (fun _ => zpc_if (fun _ => zpc_bi (fc_fX5_pair h) (fun σ11 v12 hσ11 => zpc_if (fun _ => fc_fX5_firstQuarter_110 hσ11) (fun _ => fc_fX5_firstQuarter_110 hσ11))) (fun _ => zpc_if (fun _ => zpc_bi (fc_fX5_one h) (fun σ13 v14 hσ13 => zpc_bi (fc_fX5_oneMore hσ13) (fun σ15 v16 hσ15 => zpc_bu (fc_fX5_putOne hσ15) (fun σ17 hσ17 => zpc_if (fun _ => fc_fX5_firstQuarter_143 hσ17) (fun _ => fc_fX5_firstQuarter_143 hσ17))))) (fun _ => zpc_if (fun _ => zpc_bi (fc_fX5_one h) (fun σ18 v19 hσ18 => zpc_bi (fc_fX5_oneLess hσ18) (fun σ20 v21 hσ20 => zpc_bu (fc_fX5_putOne hσ20) (fun σ22 hσ22 => zpc_if (fun _ => fc_fX5_firstQuarter_170 hσ22) (fun _ => fc_fX5_firstQuarter_170 hσ22))))) (fun _ => zpc_if (fun _ => zpc_bi (fc_fX5_fetch h) (fun σ23 v24 hσ23 => zpc_bu (fc_fX5_putOne hσ23) (fun σ25 hσ25 => zpc_if (fun _ => fc_fX5_firstQuarter_193 hσ25) (fun _ => fc_fX5_firstQuarter_193 hσ25)))) (fun _ => zpc_bu (fc_fX5_changeA h) (fun σ26 hσ26 => zpc_some hσ26)))))))))
theorem fc_fX5_carryOn_90 {σ0 : zSt} {σ : zSt} (h : (zQ [3, 5, 7, 9, 11, 12, 15, 17, 19, 21, 23, 25, 27, 28, 29, 30, 32, 34, 36, 42, 44] [] [5, 38, 46, 48] []) σ0 σ) : zpc (fX5_carryOn_90 σ) (fun r => (zQ [3, 5, 7, 9, 11, 12, 15, 17, 19, 21, 23, 25, 27, 28, 29, 30, 32, 34, 36, 42, 44] [] [5, 38, 46, 48] []) σ0 (r.1)) := by
  unfold fX5_carryOn_90
  exact zpc_ck (zpc_bs (zQ.wi h rfl) (fun σ1 hσ1 => zpc_some hσ1))
theorem fc_fX5_carryOn_193 {σ0 : zSt} {σ : zSt} {s0 : Int32} (h : (zQ [3, 5, 7, 9, 11, 12, 15, 17, 19, 21, 23, 25, 27, 28, 29, 30, 32, 34, 36, 42, 44] [] [5, 38, 46, 48] []) σ0 σ) : zpc (fX5_carryOn_193 σ s0) (fun r => (zQ [3, 5, 7, 9, 11, 12, 15, 17, 19, 21, 23, 25, 27, 28, 29, 30, 32, 34, 36, 42, 44] [] [5, 38, 46, 48] []) σ0 (r.1)) := by
  unfold fX5_carryOn_193
  exact zpc_some h
theorem fc_fX5_carryOn_275 {σ0 : zSt} {σ : zSt} {s0 : Int32} {s1 : Int32} (h : (zQ [3, 5, 7, 9, 11, 12, 15, 17, 19, 21, 23, 25, 27, 28, 29, 30, 32, 34, 36, 42, 44] [] [5, 38, 46, 48] []) σ0 σ) : zpc (fX5_carryOn_275 σ s0 s1) (fun r => (zQ [3, 5, 7, 9, 11, 12, 15, 17, 19, 21, 23, 25, 27, 28, 29, 30, 32, 34, 36, 42, 44] [] [5, 38, 46, 48] []) σ0 (r.1)) := by
  unfold fX5_carryOn_275
  exact zpc_some h
theorem fc_fX5_carryOn_141 {σ0 : zSt} {σ : zSt} {x1 : Int32} {x2 : Int32} (h : (zQ [3, 5, 7, 9, 11, 12, 15, 17, 19, 21, 23, 25, 27, 28, 29, 30, 32, 34, 36, 42, 44] [] [5, 38, 46, 48] []) σ0 σ) : zpc (fX5_carryOn_141 σ x1 x2) (fun r => (zQ [3, 5, 7, 9, 11, 12, 15, 17, 19, 21, 23, 25, 27, 28, 29, 30, 32, 34, 36, 42, 44] [] [5, 38, 46, 48] []) σ0 (r.1)) := by
  unfold fX5_carryOn_141
  exact zpc_if (fun _ => zpc_bi (fc_fX5_fetchOp h) (fun σ18 v19 hσ18 => zpc_bi (fc_fX5_turns hσ18) (fun σ20 v21 hσ20 => zpc_some hσ20))) (fun _ => zpc_if (fun _ => zpc_bi (fc_fX5_fetchOp h) (fun σ12 v13 hσ12 => zpc_if (fun _ => zpc_bi (fc_fX5_block hσ12) (fun σ16 v17 hσ16 => fc_fX5_carryOn_193 hσ16)) (fun _ => zpc_bi (fc_fX5_behindEd hσ12) (fun σ14 v15 hσ14 => fc_fX5_carryOn_193 hσ14)))) (fun _ => zpc_if (fun _ => zpc_bi (fc_fX5_firstQuarter h) (fun σ2 v3 hσ2 => zpc_some hσ2)) (fun _ => zpc_if (fun _ => zpc_bi (fc_fX5_move h) (fun σ4 v5 hσ4 => zpc_some hσ4)) (fun _ => zpc_if (fun _ => zpc_bi (fc_fX5_doWithRegister h) (fun σ6 v7 hσ6 => zpc_some hσ6)) (fun _ => zpc_if (fun _ => zpc_bi (fc_fX5_exchange h) (fun σ10 v11 hσ10 => fc_fX5_carryOn_275 hσ10)) (fun _ => zpc_bi (fc_fX5_lastQuarter h) (fun σ8 v9 hσ8 => fc_fX5_carryOn_275 hσ8)))))))
theorem fc_fX5_carryOn_115 {σ0 : zSt} {σ : zSt} {s0 : Int32} (h : (zQ [3, 5, 7, 9, 11, 12, 15, 17, 19, 21, 23, 25, 27, 28, 29, 30, 32, 34, 36, 42, 44] [] [5, 38, 46, 48] []) σ0 σ) : zpc (fX5_carryOn_115 σ s0) (fun r => (zQ [3, 5, 7, 9, 11, 12, 15, 17, 19, 21, 23, 25, 27, 28, 29, 30, 32, 34, 36, 42, 44] [] [5, 38, 46, 48] []) σ0 (r.1)) := by
  unfold fX5_carryOn_115
  exact zpc_bs (zQ.wi h rfl) (fun σ22 hσ22 => zpc_bi (fc_fX5_fetchOp hσ22) (fun σ23 v24 hσ23 => zpc_if (fun _ => zpc_bi (fc_fX5_turnBeside hσ23) (fun σ27 v28 hσ27 => zpc_some hσ27)) (fun _ => zpc_bi (fc_fX5_takePlace hσ23) (fun σ25 v26 hσ25 => fc_fX5_carryOn_141 hσ25))))
theorem fc_fX5_carryOn_54 {σ0 : zSt} {σ : zSt} {x1 : Int32} (h : (zQ [3, 5, 7, 9, 11, 12, 15, 17, 19, 21, 23, 25, 27, 28, 29, 30, 32, 34, 36, 42, 44] [] [5, 38, 46, 48] []) σ0 σ) : zpc (fX5_carryOn_54 σ x1) (fun r => (zQ [3, 5, 7, 9, 11, 12, 15, 17, 19, 21, 23, 25, 27, 28, 29, 30, 32, 34, 36, 42, 44] [] [5, 38, 46, 48] []) σ0 (r.1)) := by
  unfold fX5_carryOn_54
  exact zpc_ck (zpc_bi (fc_fX2_read h) (fun σ29 v30 hσ29 => zpc_if (fun _ => fc_fX5_carryOn_90 hσ29) (fun _ => zpc_if (fun _ => fc_fX5_carryOn_90 hσ29) (fun _ => zpc_if (fun _ => fc_fX5_carryOn_90 hσ29) (fun _ => zpc_if (fun _ => fc_fX5_carryOn_115 hσ29) (fun _ => fc_fX5_carryOn_115 hσ29))))))
theorem fc_fX5_carryOn {σ0 : zSt} {σ : zSt} (h : (zQ [3, 5, 7, 9, 11, 12, 15, 17, 19, 21, 23, 25, 27, 28, 29, 30, 32, 34, 36, 42, 44] [] [5, 38, 46, 48] []) σ0 σ) : zpc (fX5_carryOn σ) (fun r => (zQ [3, 5, 7, 9, 11, 12, 15, 17, 19, 21, 23, 25, 27, 28, 29, 30, 32, 34, 36, 42, 44] [] [5, 38, 46, 48] []) σ0 (r.1)) := by
  unfold fX5_carryOn
  exact zpc_ck (zpc_if (fun _ => zpc_bu (fc_fX5_growR h) (fun σ37 hσ37 => zpc_some hσ37)) (fun _ => zpc_bs (zQ.wi h rfl) (fun σ31 hσ31 => zpc_bi (fc_fX5_pairAt hσ31) (fun σ32 v33 hσ32 => zpc_bs (zQ.wi hσ32 rfl) (fun σ34 hσ34 => zpc_bi (fc_fX5_fetchOp hσ34) (fun σ35 v36 hσ35 => zpc_if (fun _ => fc_fX5_carryOn_54 hσ35) (fun _ => zpc_if (fun _ => fc_fX5_carryOn_54 hσ35) (fun _ => fc_fX5_carryOn_141 hσ35))))))))
theorem fc_fX9_asks_54 {σ0 : zSt} {σ : zSt} {s0 : Int32} (h : (zQ [3, 5, 7, 9, 11, 12, 15, 17, 19, 21, 23, 25, 27, 28, 29, 30, 32, 34, 36, 42, 44] [] [5, 38, 46, 48] []) σ0 σ) : zpc (fX9_asks_54 σ s0) (fun r => (zQ [3, 5, 7, 9, 11, 12, 15, 17, 19, 21, 23, 25, 27, 28, 29, 30, 32, 34, 36, 42, 44] [] [5, 38, 46, 48] []) σ0 (r.1)) := by
  unfold fX9_asks_54
  exact zpc_ck (zpc_some h)
theorem fc_fX9_asks_53 {σ0 : zSt} {σ : zSt} (h : (zQ [3, 5, 7, 9, 11, 12, 15, 17, 19, 21, 23, 25, 27, 28, 29, 30, 32, 34, 36, 42, 44] [] [5, 38, 46, 48] []) σ0 σ) : zpc (fX9_asks_53 σ) (fun r => (zQ [3, 5, 7, 9, 11, 12, 15, 17, 19, 21, 23, 25, 27, 28, 29, 30, 32, 34, 36, 42, 44] [] [5, 38, 46, 48] []) σ0 (r.1)) := by
  unfold fX9_asks_53
  exact fc_fX9_asks_54 h
theorem fc_fX9_asks_49 {σ0 : zSt} {σ : zSt} (h : (zQ [3, 5, 7, 9, 11, 12, 15, 17, 19, 21, 23, 25, 27, 28, 29, 30, 32, 34, 36, 42, 44] [] [5, 38, 46, 48] []) σ0 σ) : zpc (fX9_asks_49 σ) (fun r => (zQ [3, 5, 7, 9, 11, 12, 15, 17, 19, 21, 23, 25, 27, 28, 29, 30, 32, 34, 36, 42, 44] [] [5, 38, 46, 48] []) σ0 (r.1)) := by
  unfold fX9_asks_49
  exact fc_fX9_asks_54 h
theorem fc_fX9_asks_26 {σ0 : zSt} {σ : zSt} (h : (zQ [3, 5, 7, 9, 11, 12, 15, 17, 19, 21, 23, 25, 27, 28, 29, 30, 32, 34, 36, 42, 44] [] [5, 38, 46, 48] []) σ0 σ) : zpc (fX9_asks_26 σ) (fun r => (zQ [3, 5, 7, 9, 11, 12, 15, 17, 19, 21, 23, 25, 27, 28, 29, 30, 32, 34, 36, 42, 44] [] [5, 38, 46, 48] []) σ0 (r.1)) := by
  unfold fX9_asks_26
  exact zpc_ck (zpc_if (fun _ => fc_fX9_asks_53 h) (fun _ => zpc_ck (zpc_if (fun _ => fc_fX9_asks_49 h) (fun _ => fc_fX9_asks_53 h))))
theorem fc_fX9_asks {σ0 : zSt} {σ : zSt} (h : (zQ [3, 5, 7, 9, 11, 12, 15, 17, 19, 21, 23, 25, 27, 28, 29, 30, 32, 34, 36, 42, 44] [] [5, 38, 46, 48] []) σ0 σ) : zpc (fX9_asks σ) (fun r => (zQ [3, 5, 7, 9, 11, 12, 15, 17, 19, 21, 23, 25, 27, 28, 29, 30, 32, 34, 36, 42, 44] [] [5, 38, 46, 48] []) σ0 (r.1)) := by
  unfold fX9_asks
  exact zpc_ck (zpc_if (fun _ => fc_fX9_asks_26 h) (fun _ => zpc_ck (zpc_if (fun _ => fc_fX9_asks_26 h) (fun _ => fc_fX9_asks_49 h))))
theorem fc_fX9_passes {σ0 : zSt} {σ : zSt} {x1 : Int32} (h : (zQ [3, 5, 7, 9, 11, 12, 15, 17, 19, 21, 23, 25, 27, 28, 29, 30, 32, 34, 36, 42, 44] [] [5, 38, 46, 48] []) σ0 σ) : zpc (fX9_passes σ x1) (fun r => (zQ [3, 5, 7, 9, 11, 12, 15, 17, 19, 21, 23, 25, 27, 28, 29, 30, 32, 34, 36, 42, 44] [] [5, 38, 46, 48] []) σ0 (r.1)) := by
  unfold fX9_passes
  exact zpc_ck (zpc_ck (zpc_bs (zQ.wi h rfl) (fun σ1 hσ1 => zpc_ck (zpc_if (fun _ => zpc_ck (zpc_ck (zpc_bs (zQ.wi hσ1 rfl) (fun σ2 hσ2 => zpc_ck (zpc_some hσ2))))) (fun _ => zpc_ck (zpc_some hσ1))))))
theorem fc_fX9_goesToNextLine_159 {σ0 : zSt} {σ : zSt} {x2 : Int32} (h : (zQ [3, 5, 7, 9, 11, 12, 15, 17, 19, 21, 23, 25, 27, 28, 29, 30, 32, 34, 36, 42, 44] [] [5, 38, 46, 48] []) σ0 σ) : zpc (fX9_goesToNextLine_159 σ x2) (fun r => (zQ [3, 5, 7, 9, 11, 12, 15, 17, 19, 21, 23, 25, 27, 28, 29, 30, 32, 34, 36, 42, 44] [] [5, 38, 46, 48] []) σ0 (r.1)) := by
  unfold fX9_goesToNextLine_159
  exact zpc_ck (zpc_some h)
theorem fc_fX9_goesToNextLine_133 {σ0 : zSt} {σ : zSt} {x1 : Int32} {x2 : Int32} (h : (zQ [3, 5, 7, 9, 11, 12, 15, 17, 19, 21, 23, 25, 27, 28, 29, 30, 32, 34, 36, 42, 44] [] [5, 38, 46, 48] []) σ0 σ) : zpc (fX9_goesToNextLine_133 σ x1 x2) (fun r => (zQ [3, 5, 7, 9, 11, 12, 15, 17, 19, 21, 23, 25, 27, 28, 29, 30, 32, 34, 36, 42, 44] [] [5, 38, 46, 48] []) σ0 (r.1)) := by
  unfold fX9_goesToNextLine_133
  exact zpc_ck (zpc_if (fun _ => zpc_ck (zpc_ck (zpc_bs (zQ.wi h rfl) (fun σ1 hσ1 => fc_fX9_goesToNextLine_159 hσ1)))) (fun _ => fc_fX9_goesToNextLine_159 h))
theorem fc_fX9_goesToNextLine_106 {σ0 : zSt} {σ : zSt} {x1 : Int32} {s0 : Int32} (h : (zQ [3, 5, 7, 9, 11, 12, 15, 17, 19, 21, 23, 25, 27, 28, 29, 30, 32, 34, 36, 42, 44] [] [5, 38, 46, 48] []) σ0 σ) : zpc (fX9_goesToNextLine_106 σ x1 s0) (fun r => (zQ [3, 5, 7, 9, 11, 12, 15, 17, 19, 21, 23, 25, 27, 28, 29, 30, 32, 34, 36, 42, 44] [] [5, 38, 46, 48] []) σ0 (r.1)) := by
  unfold fX9_goesToNextLine_106
  exact zpc_if (fun _ => fc_fX9_goesToNextLine_133 h) (fun _ => zpc_ck (zpc_bs (zQ.wi h rfl) (fun σ2 hσ2 => zpc_ck (zpc_ck (zpc_bs (zQ.wi hσ2 rfl) (fun σ3 hσ3 => fc_fX9_goesToNextLine_133 hσ3))))))
theorem fc_fX9_goesToNextLine_76 {σ0 : zSt} {σ : zSt} {x1 : Int32} (h : (zQ [3, 5, 7, 9, 11, 12, 15, 17, 19, 21, 23, 25, 27, 28, 29, 30, 32, 34, 36, 42, 44] [] [5, 38, 46, 48] []) σ0 σ) : zpc (fX9_goesToNextLine_76 σ x1) (fun r => (zQ [3, 5, 7, 9, 11, 12, 15, 17, 19, 21, 23, 25, 27, 28, 29, 30, 32, 34, 36, 42, 44] [] [5, 38, 46, 48] []) σ0 (r.1)) := by
  unfold fX9_goesToNextLine_76
  exact zpc_ck (zpc_ck (zpc_bs (zQ.wi h rfl) (fun σ4 hσ4 => zpc_ck (zpc_if (fun _ => fc_fX9_goesToNextLine_106 hσ4) (fun _ => fc_fX9_goesToNextLine_106 hσ4)))))
theorem fc_fX9_goesToNextLine {σ0 : zSt} {σ : zSt} (h : (zQ [3, 5, 7, 9, 11, 12, 15, 17, 19, 21, 23, 25, 27, 28, 29, 30, 32, 34, 36, 42, 44] [] [5, 38, 46, 48] []) σ0 σ) : zpc (fX9_goesToNextLine σ) (fun r => (zQ [3, 5, 7, 9, 11, 12, 15, 17, 19, 21, 23, 25, 27, 28, 29, 30, 32, 34, 36, 42, 44] [] [5, 38, 46, 48] []) σ0 (r.1)) := by
  unfold fX9_goesToNextLine
  exact zpc_bi (fc_fX9_height h) (fun σ5 v6 hσ5 => zpc_ck (zpc_if (fun _ => zpc_ck (zpc_ck (zpc_bs (zQ.wi hσ5 rfl) (fun σ7 hσ7 => zpc_ck (zpc_if (fun _ => fc_fX9_goesToNextLine_76 hσ7) (fun _ => zpc_ck (zpc_ck (zpc_bs (zQ.wi hσ7 rfl) (fun σ8 hσ8 => zpc_ck (zpc_bs (zQ.wi hσ8 rfl) (fun σ9 hσ9 => fc_fX9_goesToNextLine_76 hσ9))))))))))) (fun _ => zpc_ck (zpc_ck (zpc_bs (zQ.wi hσ5 rfl) (fun σ10 hσ10 => fc_fX9_goesToNextLine_76 hσ10))))))
theorem fc_fX11_endLine_62 {σ0 : zSt} {σ : zSt} (h : (zQ [3, 5, 7, 9, 11, 12, 15, 17, 19, 21, 23, 25, 27, 28, 29, 30, 32, 34, 36, 42, 44] [] [5, 38, 46, 48] []) σ0 σ) : zpc (fX11_endLine_62 σ) (fun r => (zQ [3, 5, 7, 9, 11, 12, 15, 17, 19, 21, 23, 25, 27, 28, 29, 30, 32, 34, 36, 42, 44] [] [5, 38, 46, 48] []) σ0 (r)) := by
  unfold fX11_endLine_62
  exact zpc_some h
theorem fc_fX11_endLine_26 {σ0 : zSt} {σ : zSt} (h : (zQ [3, 5, 7, 9, 11, 12, 15, 17, 19, 21, 23, 25, 27, 28, 29, 30, 32, 34, 36, 42, 44] [] [5, 38, 46, 48] []) σ0 σ) : zpc (fX11_endLine_26 σ) (fun r => (zQ [3, 5, 7, 9, 11, 12, 15, 17, 19, 21, 23, 25, 27, 28, 29, 30, 32, 34, 36, 42, 44] [] [5, 38, 46, 48] []) σ0 (r)) := by
  unfold fX11_endLine_26
  exact zpc_bi (fc_fX9_goesToNextLine h) (fun σ1 v2 hσ1 => zpc_if (fun _ => fc_fX11_endLine_62 hσ1) (fun _ => zpc_bu (fc_fX0_countPicture hσ1) (fun σ3 hσ3 => zpc_bll (fc_fX0_count hσ3) (fun σ4 v5 hσ4 => zpc_bu (fc_fX1_carryOutPlans hσ4) (fun σ6 hσ6 => fc_fX11_endLine_62 hσ6)))))
theorem fc_fX11_endLine {σ0 : zSt} {σ : zSt} (h : (zQ [3, 5, 7, 9, 11, 12, 15, 17, 19, 21, 23, 25, 27, 28, 29, 30, 32, 34, 36, 42, 44] [] [5, 38, 46, 48] []) σ0 σ) : zpc (fX11_endLine σ) (fun r => (zQ [3, 5, 7, 9, 11, 12, 15, 17, 19, 21, 23, 25, 27, 28, 29, 30, 32, 34, 36, 42, 44] [] [5, 38, 46, 48] []) σ0 (r)) := by
  unfold fX11_endLine
  exact zpc_bi (fc_fX9_held h) (fun σ7 v8 hσ7 => zpc_bi (fc_fX9_height hσ7) (fun σ9 v10 hσ9 => zpc_if (fun _ => fc_fX11_endLine_26 hσ9) (fun _ => zpc_bu (fc_fX3_draw hσ9) (fun σ11 hσ11 => fc_fX11_endLine_26 hσ11))))
theorem fc_fX11_run_135 {σ0 : zSt} {σ : zSt} {x5 : Int32} (h : (zQ [3, 5, 7, 9, 11, 12, 15, 17, 19, 21, 23, 25, 27, 28, 29, 30, 32, 34, 36, 42, 44] [] [5, 38, 46, 48] []) σ0 σ) : zpc (fX11_run_135 σ x5) (fun r => (zQ [3, 5, 7, 9, 11, 12, 15, 17, 19, 21, 23, 25, 27, 28, 29, 30, 32, 34, 36, 42, 44] [] [5, 38, 46, 48] []) σ0 (r.1)) := by
  unfold fX11_run_135
  exact zpc_some h
theorem fc_fX11_run_120 {σ0 : zSt} {k15 : zSt → Int32 → Int64 → Int32 → Option (zSt × Int32)} (hk15 : ∀ (y0 : zSt) (y1 : Int32) (y2 : Int64) (y3 : Int32), (zQ [3, 5, 7, 9, 11, 12, 15, 17, 19, 21, 23, 25, 27, 28, 29, 30, 32, 34, 36, 42, 44] [] [5, 38, 46, 48] []) σ0 y0 → zpc (k15 y0 y1 y2 y3) (fun r => (zQ [3, 5, 7, 9, 11, 12, 15, 17, 19, 21, 23, 25, 27, 28, 29, 30, 32, 34, 36, 42, 44] [] [5, 38, 46, 48] []) σ0 (r.1))) {σ : zSt} {x1 : Int32} {x3 : Int64} {x5 : Int32} {x7 : Int32} (h : (zQ [3, 5, 7, 9, 11, 12, 15, 17, 19, 21, 23, 25, 27, 28, 29, 30, 32, 34, 36, 42, 44] [] [5, 38, 46, 48] []) σ0 σ) : zpc (fX11_run_120 k15 σ x1 x3 x5 x7) (fun r => (zQ [3, 5, 7, 9, 11, 12, 15, 17, 19, 21, 23, 25, 27, 28, 29, 30, 32, 34, 36, 42, 44] [] [5, 38, 46, 48] []) σ0 (r.1)) := by
  unfold fX11_run_120
  exact zpc_bu (fc_fX0_pass h) (fun σ1 hσ1 => zpc_bv (fun v2 _ => hk15 _ _ _ _ hσ1))
theorem fc_fX11_run_104 {σ0 : zSt} {k15 : zSt → Int32 → Int64 → Int32 → Option (zSt × Int32)} (hk15 : ∀ (y0 : zSt) (y1 : Int32) (y2 : Int64) (y3 : Int32), (zQ [3, 5, 7, 9, 11, 12, 15, 17, 19, 21, 23, 25, 27, 28, 29, 30, 32, 34, 36, 42, 44] [] [5, 38, 46, 48] []) σ0 y0 → zpc (k15 y0 y1 y2 y3) (fun r => (zQ [3, 5, 7, 9, 11, 12, 15, 17, 19, 21, 23, 25, 27, 28, 29, 30, 32, 34, 36, 42, 44] [] [5, 38, 46, 48] []) σ0 (r.1))) {σ : zSt} {x1 : Int32} {x3 : Int64} {x5 : Int32} {x7 : Int32} (h : (zQ [3, 5, 7, 9, 11, 12, 15, 17, 19, 21, 23, 25, 27, 28, 29, 30, 32, 34, 36, 42, 44] [] [5, 38, 46, 48] []) σ0 σ) : zpc (fX11_run_104 k15 σ x1 x3 x5 x7) (fun r => (zQ [3, 5, 7, 9, 11, 12, 15, 17, 19, 21, 23, 25, 27, 28, 29, 30, 32, 34, 36, 42, 44] [] [5, 38, 46, 48] []) σ0 (r.1)) := by
  unfold fX11_run_104
  exact zpc_bi (fc_fX9_passes h) (fun σ3 v4 hσ3 => zpc_if (fun _ => fc_fX11_run_120 hk15 hσ3) (fun _ => zpc_bu (fc_fX11_endLine hσ3) (fun σ5 hσ5 => fc_fX11_run_120 hk15 hσ5)))
theorem fc_fX11_run_65 {σ0 : zSt} {k15 : zSt → Int32 → Int64 → Int32 → Option (zSt × Int32)} (hk15 : ∀ (y0 : zSt) (y1 : Int32) (y2 : Int64) (y3 : Int32), (zQ [3, 5, 7, 9, 11, 12, 15, 17, 19, 21, 23, 25, 27, 28, 29, 30, 32, 34, 36, 42, 44] [] [5, 38, 46, 48] []) σ0 y0 → zpc (k15 y0 y1 y2 y3) (fun r => (zQ [3, 5, 7, 9, 11, 12, 15, 17, 19, 21, 23, 25, 27, 28, 29, 30, 32, 34, 36, 42, 44] [] [5, 38, 46, 48] []) σ0 (r.1))) {σ : zSt} {x1 : Int32} {x3 : Int64} {x5 : Int32} {x6 : Int32} (h : (zQ [3, 5, 7, 9, 11, 12, 15, 17, 19, 21, 23, 25, 27, 28, 29, 30, 32, 34, 36, 42, 44] [] [5, 38, 46, 48] []) σ0 σ) : zpc (fX11_run_65 k15 σ x1 x3 x5 x6) (fun r => (zQ [3, 5, 7, 9, 11, 12, 15, 17, 19, 21, 23, 25, 27, 28, 29, 30, 32, 34, 36, 42, 44] [] [5, 38, 46, 48] []) σ0 (r.1)) := by
  unfold fX11_run_65
  exact zpc_bu (fc_fX1_noteStep h) (fun σ6 hσ6 => zpc_bi (fc_fX9_asks hσ6) (fun σ7 v8 hσ7 => zpc_bi (fc_fX5_answerCalls hσ7) (fun σ9 v10 hσ9 => zpc_if (fun _ => zpc_bi (fc_fX5_carryOn hσ9) (fun σ11 v12 hσ11 => fc_fX11_run_104 hk15 hσ11)) (fun _ => fc_fX11_run_104 hk15 hσ9))))
theorem fc_fX11_run_15_body {σ0 : zSt} {k15 : zSt → Int32 → Int64 → Int32 → Option (zSt × Int32)} (hk15 : ∀ (y0 : zSt) (y1 : Int32) (y2 : Int64) (y3 : Int32), (zQ [3, 5, 7, 9, 11, 12, 15, 17, 19, 21, 23, 25, 27, 28, 29, 30, 32, 34, 36, 42, 44] [] [5, 38, 46, 48] []) σ0 y0 → zpc (k15 y0 y1 y2 y3) (fun r => (zQ [3, 5, 7, 9, 11, 12, 15, 17, 19, 21, 23, 25, 27, 28, 29, 30, 32, 34, 36, 42, 44] [] [5, 38, 46, 48] []) σ0 (r.1))) {σ : zSt} {x1 : Int32} {x3 : Int64} {x5 : Int32} (h : (zQ [3, 5, 7, 9, 11, 12, 15, 17, 19, 21, 23, 25, 27, 28, 29, 30, 32, 34, 36, 42, 44] [] [5, 38, 46, 48] []) σ0 σ) : zpc (fX11_run_15_body k15 σ x1 x3 x5) (fun r => (zQ [3, 5, 7, 9, 11, 12, 15, 17, 19, 21, 23, 25, 27, 28, 29, 30, 32, 34, 36, 42, 44] [] [5, 38, 46, 48] []) σ0 (r.1)) := by
  unfold fX11_run_15_body
  exact zpc_if (fun _ => fc_fX11_run_135 h) (fun _ => zpc_bll (fc_fX0_count h) (fun σ13 v14 hσ13 => zpc_if (fun _ => fc_fX11_run_135 hσ13) (fun _ => zpc_bi (fc_fX5_value hσ13) (fun σ15 v16 hσ15 => zpc_if (fun _ => fc_fX11_run_65 hk15 hσ15) (fun _ => zpc_bi (fc_fX1_isStop hσ15) (fun σ17 v18 hσ17 => zpc_if (fun _ => fc_fX11_run_65 hk15 hσ17) (fun _ => fc_fX11_run_135 hσ17)))))))
theorem fc_fX11_run_15 {σ0 : zSt} : ∀ (n : Nat) (y0 : zSt) (y1 : Int32) (y2 : Int64) (y3 : Int32), (zQ [3, 5, 7, 9, 11, 12, 15, 17, 19, 21, 23, 25, 27, 28, 29, 30, 32, 34, 36, 42, 44] [] [5, 38, 46, 48] []) σ0 y0 → zpc (fX11_run_15 n y0 y1 y2 y3) (fun r => (zQ [3, 5, 7, 9, 11, 12, 15, 17, 19, 21, 23, 25, 27, 28, 29, 30, 32, 34, 36, 42, 44] [] [5, 38, 46, 48] []) σ0 (r.1)) := by
  intro n
  induction n with
  | zero => intro y0 y1 y2 y3 h; exact zpc_none
  | succ n ih => intro y0 y1 y2 y3 h; exact fc_fX11_run_15_body ih h
theorem fc_fX11_run {σ0 : zSt} {σ : zSt} {x1 : Int32} {x2 : Int32} (h : (zQ [3, 5, 7, 9, 11, 12, 15, 17, 19, 21, 23, 25, 27, 28, 29, 30, 32, 34, 36, 42, 44] [] [5, 38, 46, 48] []) σ0 σ) : zpc (fX11_run σ x1 x2) (fun r => (zQ [3, 5, 7, 9, 11, 12, 15, 17, 19, 21, 23, 25, 27, 28, 29, 30, 32, 34, 36, 42, 44] [] [5, 38, 46, 48] []) σ0 (r.1)) := by
  unfold fX11_run
  exact zpc_bll (fc_fX0_count h) (fun σ19 v20 hσ19 => zpc_bv (fun v21 _ => fc_fX11_run_15 _ _ _ _ _ hσ19))
