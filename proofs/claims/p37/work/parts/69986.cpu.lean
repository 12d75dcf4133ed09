section ZJN0
theorem fv_fX0_count_20 {σ0 : zSt} {σ : zSt} {s0 : Int64} (h : (zQ [3, 5, 7, 9, 10, 11, 12, 15, 17, 19, 21, 23, 25, 27, 28, 29, 30, 32, 34, 36, 40, 42, 44, 45] [] [5, 38, 46, 48] []) σ0 σ) : zpc (fX0_count_20 σ s0) (fun r => (zQ [3, 5, 7, 9, 10, 11, 12, 15, 17, 19, 21, 23, 25, 27, 28, 29, 30, 32, 34, 36, 40, 42, 44, 45] [] [5, 38, 46, 48] []) σ0 (r.1)) := by
  unfold fX0_count_20
  exact zpc_some h
theorem fv_fX0_count_19 {σ0 : zSt} {σ : zSt} (h : (zQ [3, 5, 7, 9, 10, 11, 12, 15, 17, 19, 21, 23, 25, 27, 28, 29, 30, 32, 34, 36, 40, 42, 44, 45] [] [5, 38, 46, 48] []) σ0 σ) : zpc (fX0_count_19 σ) (fun r => (zQ [3, 5, 7, 9, 10, 11, 12, 15, 17, 19, 21, 23, 25, 27, 28, 29, 30, 32, 34, 36, 40, 42, 44, 45] [] [5, 38, 46, 48] []) σ0 (r.1)) := by
  unfold fX0_count_19
  exact fv_fX0_count_20 h
theorem fv_fX0_count {σ0 : zSt} {σ : zSt} {x1 : Int32} (h : (zQ [3, 5, 7, 9, 10, 11, 12, 15, 17, 19, 21, 23, 25, 27, 28, 29, 30, 32, 34, 36, 40, 42, 44, 45] [] [5, 38, 46, 48] []) σ0 σ) : zpc (fX0_count σ x1) (fun r => (zQ [3, 5, 7, 9, 10, 11, 12, 15, 17, 19, 21, 23, 25, 27, 28, 29, 30, 32, 34, 36, 40, 42, 44, 45] [] [5, 38, 46, 48] []) σ0 (r.1)) := by
  unfold fX0_count
  exact zpc_if (fun _ => fv_fX0_count_19 h) (fun _ => zpc_if (fun _ => fv_fX0_count_19 h) (fun _ => zpc_ck (fv_fX0_count_20 h)))
theorem fv_fX0_countPicture {σ0 : zSt} {σ : zSt} (h : (zQ [3, 5, 7, 9, 10, 11, 12, 15, 17, 19, 21, 23, 25, 27, 28, 29, 30, 32, 34, 36, 40, 42, 44, 45] [] [5, 38, 46, 48] []) σ0 σ) : zpc (fX0_countPicture σ) (fun r => (zQ [3, 5, 7, 9, 10, 11, 12, 15, 17, 19, 21, 23, 25, 27, 28, 29, 30, 32, 34, 36, 40, 42, 44, 45] [] [5, 38, 46, 48] []) σ0 (r)) := by
  unfold fX0_countPicture
  exact zpc_ck (zpc_ck (zpc_bs (zQ.wl h rfl) (fun σ1 hσ1 => zpc_some hσ1)))
theorem fv_fX7_moveTone_57 {σ0 : zSt} {σ : zSt} {x1 : Int32} {x2 : Int32} (h : (zQ [3, 5, 7, 9, 10, 11, 12, 15, 17, 19, 21, 23, 25, 27, 28, 29, 30, 32, 34, 36, 40, 42, 44, 45] [] [5, 38, 46, 48] []) σ0 σ) : zpc (fX7_moveTone_57 σ x1 x2) (fun r => (zQ [3, 5, 7, 9, 10, 11, 12, 15, 17, 19, 21, 23, 25, 27, 28, 29, 30, 32, 34, 36, 40, 42, 44, 45] [] [5, 38, 46, 48] []) σ0 (r)) := by
  unfold fX7_moveTone_57
  exact zpc_ck (zpc_bs (zQ.wi h rfl) (fun σ1 hσ1 => zpc_some hσ1))
theorem fv_fX7_moveTone_56 {σ0 : zSt} {σ : zSt} {x1 : Int32} {x2 : Int32} {s0 : Int32} {s1 : Int32} (h : (zQ [3, 5, 7, 9, 10, 11, 12, 15, 17, 19, 21, 23, 25, 27, 28, 29, 30, 32, 34, 36, 40, 42, 44, 45] [] [5, 38, 46, 48] []) σ0 σ) : zpc (fX7_moveTone_56 σ x1 x2 s0 s1) (fun r => (zQ [3, 5, 7, 9, 10, 11, 12, 15, 17, 19, 21, 23, 25, 27, 28, 29, 30, 32, 34, 36, 40, 42, 44, 45] [] [5, 38, 46, 48] []) σ0 (r)) := by
  unfold fX7_moveTone_56
  exact zpc_ck (zpc_bs (zQ.wi h rfl) (fun σ2 hσ2 => fv_fX7_moveTone_57 hσ2))
theorem fv_fX7_moveTone {σ0 : zSt} {σ : zSt} {x1 : Int32} (h : (zQ [3, 5, 7, 9, 10, 11, 12, 15, 17, 19, 21, 23, 25, 27, 28, 29, 30, 32, 34, 36, 40, 42, 44, 45] [] [5, 38, 46, 48] []) σ0 σ) : zpc (fX7_moveTone σ x1) (fun r => (zQ [3, 5, 7, 9, 10, 11, 12, 15, 17, 19, 21, 23, 25, 27, 28, 29, 30, 32, 34, 36, 40, 42, 44, 45] [] [5, 38, 46, 48] []) σ0 (r)) := by
  unfold fX7_moveTone
  exact zpc_ck (zpc_bv (fun v3 _ => zpc_if (fun _ => zpc_ck (zpc_bv (fun v4 _ => zpc_if (fun _ => zpc_ck (fv_fX7_moveTone_56 h)) (fun _ => fv_fX7_moveTone_56 h)))) (fun _ => fv_fX7_moveTone_57 h)))
theorem fv_fX7_moveNoise_136 {σ0 : zSt} {σ : zSt} (h : (zQ [3, 5, 7, 9, 10, 11, 12, 15, 17, 19, 21, 23, 25, 27, 28, 29, 30, 32, 34, 36, 40, 42, 44, 45] [] [5, 38, 46, 48] []) σ0 σ) : zpc (fX7_moveNoise_136 σ) (fun r => (zQ [3, 5, 7, 9, 10, 11, 12, 15, 17, 19, 21, 23, 25, 27, 28, 29, 30, 32, 34, 36, 40, 42, 44, 45] [] [5, 38, 46, 48] []) σ0 (r)) := by
  unfold fX7_moveNoise_136
  exact zpc_some h
theorem fv_fX7_moveNoise_120 {σ0 : zSt} {σ : zSt} {x2 : Int32} {s0 : Int32} (h : (zQ [3, 5, 7, 9, 10, 11, 12, 15, 17, 19, 21, 23, 25, 27, 28, 29, 30, 32, 34, 36, 40, 42, 44, 45] [] [5, 38, 46, 48] []) σ0 σ) : zpc (fX7_moveNoise_120 σ x2 s0) (fun r => (zQ [3, 5, 7, 9, 10, 11, 12, 15, 17, 19, 21, 23, 25, 27, 28, 29, 30, 32, 34, 36, 40, 42, 44, 45] [] [5, 38, 46, 48] []) σ0 (r)) := by
  unfold fX7_moveNoise_120
  exact zpc_ck (zpc_bs (zQ.wi h rfl) (fun σ1 hσ1 => fv_fX7_moveNoise_136 hσ1))
theorem fv_fX7_moveNoise_65 {σ0 : zSt} {σ : zSt} {s0 : Int32} {s1 : Int32} (h : (zQ [3, 5, 7, 9, 10, 11, 12, 15, 17, 19, 21, 23, 25, 27, 28, 29, 30, 32, 34, 36, 40, 42, 44, 45] [] [5, 38, 46, 48] []) σ0 σ) : zpc (fX7_moveNoise_65 σ s0 s1) (fun r => (zQ [3, 5, 7, 9, 10, 11, 12, 15, 17, 19, 21, 23, 25, 27, 28, 29, 30, 32, 34, 36, 40, 42, 44, 45] [] [5, 38, 46, 48] []) σ0 (r)) := by
  unfold fX7_moveNoise_65
  exact zpc_ck (zpc_bs (zQ.wi h rfl) (fun σ2 hσ2 => zpc_ck (zpc_ck (zpc_bs (zQ.wi hσ2 rfl) (fun σ3 hσ3 => zpc_ck (zpc_if (fun _ => zpc_ck (zpc_bv (fun v4 _ => zpc_ck (zpc_if (fun _ => fv_fX7_moveNoise_120 hσ3) (fun _ => fv_fX7_moveNoise_120 hσ3))))) (fun _ => fv_fX7_moveNoise_136 hσ3)))))))
theorem fv_fX7_moveNoise {σ0 : zSt} {σ : zSt} (h : (zQ [3, 5, 7, 9, 10, 11, 12, 15, 17, 19, 21, 23, 25, 27, 28, 29, 30, 32, 34, 36, 40, 42, 44, 45] [] [5, 38, 46, 48] []) σ0 σ) : zpc (fX7_moveNoise σ) (fun r => (zQ [3, 5, 7, 9, 10, 11, 12, 15, 17, 19, 21, 23, 25, 27, 28, 29, 30, 32, 34, 36, 40, 42, 44, 45] [] [5, 38, 46, 48] []) σ0 (r)) := by
  unfold fX7_moveNoise
  exact zpc_ck (zpc_ck (zpc_bs (zQ.wi h rfl) (fun σ5 hσ5 => zpc_ck (zpc_if (fun _ => zpc_ck (zpc_bv (fun v6 _ => zpc_if (fun _ => zpc_ck (fv_fX7_moveNoise_65 hσ5)) (fun _ => fv_fX7_moveNoise_65 hσ5)))) (fun _ => zpc_some hσ5)))))
theorem fv_fX7_nextSample_87 {σ0 : zSt} {k28 : zSt → Int32 → Int32 → Int32 → Option (zSt × Int32)} (hk28 : ∀ (y0 : zSt) (y1 : Int32) (y2 : Int32) (y3 : Int32), (zQ [3, 5, 7, 9, 10, 11, 12, 15, 17, 19, 21, 23, 25, 27, 28, 29, 30, 32, 34, 36, 40, 42, 44, 45] [] [5, 38, 46, 48] []) σ0 y0 → zpc (k28 y0 y1 y2 y3) (fun r => (zQ [3, 5, 7, 9, 10, 11, 12, 15, 17, 19, 21, 23, 25, 27, 28, 29, 30, 32, 34, 36, 40, 42, 44, 45] [] [5, 38, 46, 48] []) σ0 (r.1))) {σ : zSt} {x1 : Int32} {x2 : Int32} {x3 : Int32} {s0 : Int32} (h : (zQ [3, 5, 7, 9, 10, 11, 12, 15, 17, 19, 21, 23, 25, 27, 28, 29, 30, 32, 34, 36, 40, 42, 44, 45] [] [5, 38, 46, 48] []) σ0 σ) : zpc (fX7_nextSample_87 k28 σ x1 x2 x3 s0) (fun r => (zQ [3, 5, 7, 9, 10, 11, 12, 15, 17, 19, 21, 23, 25, 27, 28, 29, 30, 32, 34, 36, 40, 42, 44, 45] [] [5, 38, 46, 48] []) σ0 (r.1)) := by
  unfold fX7_nextSample_87
  exact zpc_ck (zpc_bv (fun v1 _ => zpc_ck (zpc_bv (fun v2 _ => zpc_bv (fun v3 _ => hk28 _ _ _ _ h)))))
theorem fv_fX7_nextSample_59 {σ0 : zSt} {k28 : zSt → Int32 → Int32 → Int32 → Option (zSt × Int32)} (hk28 : ∀ (y0 : zSt) (y1 : Int32) (y2 : Int32) (y3 : Int32), (zQ [3, 5, 7, 9, 10, 11, 12, 15, 17, 19, 21, 23, 25, 27, 28, 29, 30, 32, 34, 36, 40, 42, 44, 45] [] [5, 38, 46, 48] []) σ0 y0 → zpc (k28 y0 y1 y2 y3) (fun r => (zQ [3, 5, 7, 9, 10, 11, 12, 15, 17, 19, 21, 23, 25, 27, 28, 29, 30, 32, 34, 36, 40, 42, 44, 45] [] [5, 38, 46, 48] []) σ0 (r.1))) {σ : zSt} {x1 : Int32} {x2 : Int32} {x3 : Int32} {s0 : Int32} (h : (zQ [3, 5, 7, 9, 10, 11, 12, 15, 17, 19, 21, 23, 25, 27, 28, 29, 30, 32, 34, 36, 40, 42, 44, 45] [] [5, 38, 46, 48] []) σ0 σ) : zpc (fX7_nextSample_59 k28 σ x1 x2 x3 s0) (fun r => (zQ [3, 5, 7, 9, 10, 11, 12, 15, 17, 19, 21, 23, 25, 27, 28, 29, 30, 32, 34, 36, 40, 42, 44, 45] [] [5, 38, 46, 48] []) σ0 (r.1)) := by
  unfold fX7_nextSample_59
  exact zpc_if (fun _ => zpc_ck (zpc_ck (fv_fX7_nextSample_87 hk28 h))) (fun _ => fv_fX7_nextSample_87 hk28 h)
theorem fv_fX7_nextSample_28_body {σ0 : zSt} {k28 : zSt → Int32 → Int32 → Int32 → Option (zSt × Int32)} (hk28 : ∀ (y0 : zSt) (y1 : Int32) (y2 : Int32) (y3 : Int32), (zQ [3, 5, 7, 9, 10, 11, 12, 15, 17, 19, 21, 23, 25, 27, 28, 29, 30, 32, 34, 36, 40, 42, 44, 45] [] [5, 38, 46, 48] []) σ0 y0 → zpc (k28 y0 y1 y2 y3) (fun r => (zQ [3, 5, 7, 9, 10, 11, 12, 15, 17, 19, 21, 23, 25, 27, 28, 29, 30, 32, 34, 36, 40, 42, 44, 45] [] [5, 38, 46, 48] []) σ0 (r.1))) {σ : zSt} {x1 : Int32} {x2 : Int32} {x3 : Int32} (h : (zQ [3, 5, 7, 9, 10, 11, 12, 15, 17, 19, 21, 23, 25, 27, 28, 29, 30, 32, 34, 36, 40, 42, 44, 45] [] [5, 38, 46, 48] []) σ0 σ) : zpc (fX7_nextSample_28_body k28 σ x1 x2 x3) (fun r => (zQ [3, 5, 7, 9, 10, 11, 12, 15, 17, 19, 21, 23, 25, 27, 28, 29, 30, 32, 34, 36, 40, 42, 44, 45] [] [5, 38, 46, 48] []) σ0 (r.1)) := by
  unfold fX7_nextSample_28_body
  exact zpc_if (fun _ => zpc_some h) (fun _ => zpc_if (fun _ => zpc_ck (fv_fX7_nextSample_59 hk28 h)) (fun _ => zpc_ck (fv_fX7_nextSample_59 hk28 h)))
theorem fv_fX7_nextSample_28 {σ0 : zSt} : ∀ (n : Nat) (y0 : zSt) (y1 : Int32) (y2 : Int32) (y3 : Int32), (zQ [3, 5, 7, 9, 10, 11, 12, 15, 17, 19, 21, 23, 25, 27, 28, 29, 30, 32, 34, 36, 40, 42, 44, 45] [] [5, 38, 46, 48] []) σ0 y0 → zpc (fX7_nextSample_28 n y0 y1 y2 y3) (fun r => (zQ [3, 5, 7, 9, 10, 11, 12, 15, 17, 19, 21, 23, 25, 27, 28, 29, 30, 32, 34, 36, 40, 42, 44, 45] [] [5, 38, 46, 48] []) σ0 (r.1)) := by
  intro n
  induction n with
  | zero => intro y0 y1 y2 y3 h; exact zpc_none
  | succ n ih => intro y0 y1 y2 y3 h; exact fv_fX7_nextSample_28_body ih h
theorem fv_fX7_nextSample_2_body {σ0 : zSt} {k2 : zSt → Int32 → Option (zSt × Int32)} (hk2 : ∀ (y0 : zSt) (y1 : Int32), (zQ [3, 5, 7, 9, 10, 11, 12, 15, 17, 19, 21, 23, 25, 27, 28, 29, 30, 32, 34, 36, 40, 42, 44, 45] [] [5, 38, 46, 48] []) σ0 y0 → zpc (k2 y0 y1) (fun r => (zQ [3, 5, 7, 9, 10, 11, 12, 15, 17, 19, 21, 23, 25, 27, 28, 29, 30, 32, 34, 36, 40, 42, 44, 45] [] [5, 38, 46, 48] []) σ0 (r.1))) {σ : zSt} {x1 : Int32} (h : (zQ [3, 5, 7, 9, 10, 11, 12, 15, 17, 19, 21, 23, 25, 27, 28, 29, 30, 32, 34, 36, 40, 42, 44, 45] [] [5, 38, 46, 48] []) σ0 σ) : zpc (fX7_nextSample_2_body k2 σ x1) (fun r => (zQ [3, 5, 7, 9, 10, 11, 12, 15, 17, 19, 21, 23, 25, 27, 28, 29, 30, 32, 34, 36, 40, 42, 44, 45] [] [5, 38, 46, 48] []) σ0 (r.1)) := by
  unfold fX7_nextSample_2_body
  exact zpc_if (fun _ => zpc_bu (fv_fX7_moveNoise h) (fun σ4 hσ4 => fv_fX7_nextSample_28 _ _ _ _ _ hσ4)) (fun _ => zpc_bu (fv_fX7_moveTone h) (fun σ5 hσ5 => zpc_bv (fun v6 _ => hk2 _ _ hσ5)))
theorem fv_fX7_nextSample_2 {σ0 : zSt} : ∀ (n : Nat) (y0 : zSt) (y1 : Int32), (zQ [3, 5, 7, 9, 10, 11, 12, 15, 17, 19, 21, 23, 25, 27, 28, 29, 30, 32, 34, 36, 40, 42, 44, 45] [] [5, 38, 46, 48] []) σ0 y0 → zpc (fX7_nextSample_2 n y0 y1) (fun r => (zQ [3, 5, 7, 9, 10, 11, 12, 15, 17, 19, 21, 23, 25, 27, 28, 29, 30, 32, 34, 36, 40, 42, 44, 45] [] [5, 38, 46, 48] []) σ0 (r.1)) := by
  intro n
  induction n with
  | zero => intro y0 y1 h; exact zpc_none
  | succ n ih => intro y0 y1 h; exact fv_fX7_nextSample_2_body ih h
theorem fv_fX7_nextSample {σ0 : zSt} {σ : zSt} (h : (zQ [3, 5, 7, 9, 10, 11, 12, 15, 17, 19, 21, 23, 25, 27, 28, 29, 30, 32, 34, 36, 40, 42, 44, 45] [] [5, 38, 46, 48] []) σ0 σ) : zpc (fX7_nextSample σ) (fun r => (zQ [3, 5, 7, 9, 10, 11, 12, 15, 17, 19, 21, 23, 25, 27, 28, 29, 30, 32, 34, 36, 40, 42, 44, 45] [] [5, 38, 46, 48] []) σ0 (r.1)) := by
  unfold fX7_nextSample
  exact fv_fX7_nextSample_2 _ _ _ h
theorem fv_fX6_add_k11_56 {σ0 : zSt} {σ : zSt} (h : (zQ [3, 5, 7, 9, 10, 11, 12, 15, 17, 19, 21, 23, 25, 27, 28, 29, 30, 32, 34, 36, 40, 42, 44, 45] [] [5, 38, 46, 48] []) σ0 σ) : zpc (fX6_add_k11_56 σ) (fun r => (zQ [3, 5, 7, 9, 10, 11, 12, 15, 17, 19, 21, 23, 25, 27, 28, 29, 30, 32, 34, 36, 40, 42, 44, 45] [] [5, 38, 46, 48] []) σ0 (r)) := by
  unfold fX6_add_k11_56
  exact zpc_some h
theorem fv_fX6_add_k11 {σ0 : zSt} {σ : zSt} {x1 : Int64} (h : (zQ [3, 5, 7, 9, 10, 11, 12, 15, 17, 19, 21, 23, 25, 27, 28, 29, 30, 32, 34, 36, 40, 42, 44, 45] [] [5, 38, 46, 48] []) σ0 σ) : zpc (fX6_add_k11 σ x1) (fun r => (zQ [3, 5, 7, 9, 10, 11, 12, 15, 17, 19, 21, 23, 25, 27, 28, 29, 30, 32, 34, 36, 40, 42, 44, 45] [] [5, 38, 46, 48] []) σ0 (r)) := by
  unfold fX6_add_k11
  exact zpc_ck (zpc_bs (zQ.wl h rfl) (fun σ1 hσ1 => zpc_if (fun _ => zpc_bs (zQ.wi hσ1 rfl) (fun σ2 hσ2 => fv_fX6_add_k11_56 hσ2)) (fun _ => zpc_bs (zQ.wi hσ1 rfl) (fun σ3 hσ3 => fv_fX6_add_k11_56 hσ3))))
theorem fv_fX0_addSample {σ0 : zSt} {σ : zSt} (h : (zQ [3, 5, 7, 9, 10, 11, 12, 15, 17, 19, 21, 23, 25, 27, 28, 29, 30, 32, 34, 36, 40, 42, 44, 45] [] [5, 38, 46, 48] []) σ0 σ) : zpc (fX0_addSample σ) (fun r => (zQ [3, 5, 7, 9, 10, 11, 12, 15, 17, 19, 21, 23, 25, 27, 28, 29, 30, 32, 34, 36, 40, 42, 44, 45] [] [5, 38, 46, 48] []) σ0 (r)) := by
  unfold fX0_addSample
  exact zpc_bi (fv_fX7_nextSample h) (fun σ1 v2 hσ1 => zpc_bu (fv_fX6_add_k11 hσ1) (fun σ3 hσ3 => zpc_ck (zpc_ck (zpc_bs (zQ.wl hσ3 rfl) (fun σ4 hσ4 => zpc_ck (zpc_ck (zpc_bs (zQ.wl hσ4 rfl) (fun σ5 hσ5 => zpc_ck (zpc_ck (zpc_bs (zQ.wl hσ5 rfl) (fun σ6 hσ6 => zpc_ck (zpc_ck (zpc_bs (zQ.wl hσ6 rfl) (fun σ7 hσ7 => zpc_some hσ7))))))))))))))
theorem fv_fX10_takeOwnPatch_7_body {σ0 : zSt} {k7 : zSt → Int32 → Option (zSt)} (hk7 : ∀ (y0 : zSt) (y1 : Int32), (zQ [3, 5, 7, 9, 10, 11, 12, 15, 17, 19, 21, 23, 25, 27, 28, 29, 30, 32, 34, 36, 40, 42, 44, 45] [] [5, 38, 46, 48] []) σ0 y0 → zpc (k7 y0 y1) (fun r => (zQ [3, 5, 7, 9, 10, 11, 12, 15, 17, 19, 21, 23, 25, 27, 28, 29, 30, 32, 34, 36, 40, 42, 44, 45] [] [5, 38, 46, 48] []) σ0 (r))) {σ : zSt} {x1 : Int32} (h : (zQ [3, 5, 7, 9, 10, 11, 12, 15, 17, 19, 21, 23, 25, 27, 28, 29, 30, 32, 34, 36, 40, 42, 44, 45] [] [5, 38, 46, 48] []) σ0 σ) : zpc (fX10_takeOwnPatch_7_body k7 σ x1) (fun r => (zQ [3, 5, 7, 9, 10, 11, 12, 15, 17, 19, 21, 23, 25, 27, 28, 29, 30, 32, 34, 36, 40, 42, 44, 45] [] [5, 38, 46, 48] []) σ0 (r)) := by
  unfold fX10_takeOwnPatch_7_body
  exact zpc_if (fun _ => zpc_some h) (fun _ => zpc_ck (zpc_bs (zQ.wl h rfl) (fun σ1 hσ1 => zpc_bv (fun v2 _ => hk7 _ _ hσ1))))
theorem fv_fX10_takeOwnPatch_7 {σ0 : zSt} : ∀ (n : Nat) (y0 : zSt) (y1 : Int32), (zQ [3, 5, 7, 9, 10, 11, 12, 15, 17, 19, 21, 23, 25, 27, 28, 29, 30, 32, 34, 36, 40, 42, 44, 45] [] [5, 38, 46, 48] []) σ0 y0 → zpc (fX10_takeOwnPatch_7 n y0 y1) (fun r => (zQ [3, 5, 7, 9, 10, 11, 12, 15, 17, 19, 21, 23, 25, 27, 28, 29, 30, 32, 34, 36, 40, 42, 44, 45] [] [5, 38, 46, 48] []) σ0 (r)) := by
  intro n
  induction n with
  | zero => intro y0 y1 h; exact zpc_none
  | succ n ih => intro y0 y1 h; exact fv_fX10_takeOwnPatch_7_body ih h
theorem fv_fX10_takeOwnPatch {σ0 : zSt} {σ : zSt} (h : (zQ [3, 5, 7, 9, 10, 11, 12, 15, 17, 19, 21, 23, 25, 27, 28, 29, 30, 32, 34, 36, 40, 42, 44, 45] [] [5, 38, 46, 48] []) σ0 σ) : zpc (fX10_takeOwnPatch σ) (fun r => (zQ [3, 5, 7, 9, 10, 11, 12, 15, 17, 19, 21, 23, 25, 27, 28, 29, 30, 32, 34, 36, 40, 42, 44, 45] [] [5, 38, 46, 48] []) σ0 (r)) := by
  unfold fX10_takeOwnPatch
  exact zpc_bs (zQ.wl h rfl) (fun σ3 hσ3 => fv_fX10_takeOwnPatch_7 _ _ _ hσ3)
theorem fv_fX10_takeChannel_110 {σ0 : zSt} {σ : zSt} {s0 : Int64} (h : (zQ [3, 5, 7, 9, 10, 11, 12, 15, 17, 19, 21, 23, 25, 27, 28, 29, 30, 32, 34, 36, 40, 42, 44, 45] [] [5, 38, 46, 48] []) σ0 σ) : zpc (fX10_takeChannel_110 σ s0) (fun r => (zQ [3, 5, 7, 9, 10, 11, 12, 15, 17, 19, 21, 23, 25, 27, 28, 29, 30, 32, 34, 36, 40, 42, 44, 45] [] [5, 38, 46, 48] []) σ0 (r)) := by
  unfold fX10_takeChannel_110
  exact zpc_bs (zQ.wl h rfl) (fun σ1 hσ1 => zpc_some hσ1)
theorem fv_fX10_takeChannel_106 {σ0 : zSt} {σ : zSt} (h : (zQ [3, 5, 7, 9, 10, 11, 12, 15, 17, 19, 21, 23, 25, 27, 28, 29, 30, 32, 34, 36, 40, 42, 44, 45] [] [5, 38, 46, 48] []) σ0 σ) : zpc (fX10_takeChannel_106 σ) (fun r => (zQ [3, 5, 7, 9, 10, 11, 12, 15, 17, 19, 21, 23, 25, 27, 28, 29, 30, 32, 34, 36, 40, 42, 44, 45] [] [5, 38, 46, 48] []) σ0 (r)) := by
  unfold fX10_takeChannel_106
  exact fv_fX10_takeChannel_110 h
theorem fv_fX10_takeChannel_82 {σ0 : zSt} {σ : zSt} {s0 : Int32} (h : (zQ [3, 5, 7, 9, 10, 11, 12, 15, 17, 19, 21, 23, 25, 27, 28, 29, 30, 32, 34, 36, 40, 42, 44, 45] [] [5, 38, 46, 48] []) σ0 σ) : zpc (fX10_takeChannel_82 σ s0) (fun r => (zQ [3, 5, 7, 9, 10, 11, 12, 15, 17, 19, 21, 23, 25, 27, 28, 29, 30, 32, 34, 36, 40, 42, 44, 45] [] [5, 38, 46, 48] []) σ0 (r)) := by
  unfold fX10_takeChannel_82
  exact zpc_if (fun _ => fv_fX10_takeChannel_106 h) (fun _ => zpc_if (fun _ => fv_fX10_takeChannel_106 h) (fun _ => zpc_ck (fv_fX10_takeChannel_110 h)))
theorem fv_fX10_takeChannel_71 {σ0 : zSt} {σ : zSt} {x1 : Int32} (h : (zQ [3, 5, 7, 9, 10, 11, 12, 15, 17, 19, 21, 23, 25, 27, 28, 29, 30, 32, 34, 36, 40, 42, 44, 45] [] [5, 38, 46, 48] []) σ0 σ) : zpc (fX10_takeChannel_71 σ x1) (fun r => (zQ [3, 5, 7, 9, 10, 11, 12, 15, 17, 19, 21, 23, 25, 27, 28, 29, 30, 32, 34, 36, 40, 42, 44, 45] [] [5, 38, 46, 48] []) σ0 (r)) := by
  unfold fX10_takeChannel_71
  exact zpc_ck (fv_fX10_takeChannel_82 h)
theorem fv_fX10_takeChannel {σ0 : zSt} {σ : zSt} {x1 : Int32} (h : (zQ [3, 5, 7, 9, 10, 11, 12, 15, 17, 19, 21, 23, 25, 27, 28, 29, 30, 32, 34, 36, 40, 42, 44, 45] [] [5, 38, 46, 48] []) σ0 σ) : zpc (fX10_takeChannel σ x1) (fun r => (zQ [3, 5, 7, 9, 10, 11, 12, 15, 17, 19, 21, 23, 25, 27, 28, 29, 30, 32, 34, 36, 40, 42, 44, 45] [] [5, 38, 46, 48] []) σ0 (r)) := by
  unfold fX10_takeChannel
  exact zpc_bs (zQ.wi h rfl) (fun σ2 hσ2 => zpc_ck (zpc_ck (zpc_bs (zQ.wi hσ2 rfl) (fun σ3 hσ3 => zpc_ck (zpc_bs (zQ.wi hσ3 rfl) (fun σ4 hσ4 => zpc_if (fun _ => fv_fX10_takeChannel_71 hσ4) (fun _ => zpc_if (fun _ => fv_fX10_takeChannel_71 hσ4) (fun _ => fv_fX10_takeChannel_82 hσ4))))))))
theorem fv_fX10_isOn_131 {σ0 : zSt} {σ : zSt} {s0 : Int32} (h : (zQ [3, 5, 7, 9, 10, 11, 12, 15, 17, 19, 21, 23, 25, 27, 28, 29, 30, 32, 34, 36, 40, 42, 44, 45] [] [5, 38, 46, 48] []) σ0 σ) : zpc (fX10_isOn_131 σ s0) (fun r => (zQ [3, 5, 7, 9, 10, 11, 12, 15, 17, 19, 21, 23, 25, 27, 28, 29, 30, 32, 34, 36, 40, 42, 44, 45] [] [5, 38, 46, 48] []) σ0 (r.1)) := by
  unfold fX10_isOn_131
  exact zpc_ck (zpc_some h)
theorem fv_fX10_isOn_122 {σ0 : zSt} {σ : zSt} {s0 : Int32} {s1 : Int32} (h : (zQ [3, 5, 7, 9, 10, 11, 12, 15, 17, 19, 21, 23, 25, 27, 28, 29, 30, 32, 34, 36, 40, 42, 44, 45] [] [5, 38, 46, 48] []) σ0 σ) : zpc (fX10_isOn_122 σ s0 s1) (fun r => (zQ [3, 5, 7, 9, 10, 11, 12, 15, 17, 19, 21, 23, 25, 27, 28, 29, 30, 32, 34, 36, 40, 42, 44, 45] [] [5, 38, 46, 48] []) σ0 (r.1)) := by
  unfold fX10_isOn_122
  exact zpc_if (fun _ => fv_fX10_isOn_131 h) (fun _ => fv_fX10_isOn_131 h)
theorem fv_fX10_isOn_105 {σ0 : zSt} {σ : zSt} {s0 : Int32} (h : (zQ [3, 5, 7, 9, 10, 11, 12, 15, 17, 19, 21, 23, 25, 27, 28, 29, 30, 32, 34, 36, 40, 42, 44, 45] [] [5, 38, 46, 48] []) σ0 σ) : zpc (fX10_isOn_105 σ s0) (fun r => (zQ [3, 5, 7, 9, 10, 11, 12, 15, 17, 19, 21, 23, 25, 27, 28, 29, 30, 32, 34, 36, 40, 42, 44, 45] [] [5, 38, 46, 48] []) σ0 (r.1)) := by
  unfold fX10_isOn_105
  exact zpc_ck (zpc_some h)
theorem fv_fX10_isOn_96 {σ0 : zSt} {σ : zSt} {s0 : Int32} {s1 : Int32} (h : (zQ [3, 5, 7, 9, 10, 11, 12, 15, 17, 19, 21, 23, 25, 27, 28, 29, 30, 32, 34, 36, 40, 42, 44, 45] [] [5, 38, 46, 48] []) σ0 σ) : zpc (fX10_isOn_96 σ s0 s1) (fun r => (zQ [3, 5, 7, 9, 10, 11, 12, 15, 17, 19, 21, 23, 25, 27, 28, 29, 30, 32, 34, 36, 40, 42, 44, 45] [] [5, 38, 46, 48] []) σ0 (r.1)) := by
  unfold fX10_isOn_96
  exact zpc_if (fun _ => fv_fX10_isOn_105 h) (fun _ => fv_fX10_isOn_105 h)
theorem fv_fX10_isOn_78 {σ0 : zSt} {σ : zSt} {s0 : Int32} (h : (zQ [3, 5, 7, 9, 10, 11, 12, 15, 17, 19, 21, 23, 25, 27, 28, 29, 30, 32, 34, 36, 40, 42, 44, 45] [] [5, 38, 46, 48] []) σ0 σ) : zpc (fX10_isOn_78 σ s0) (fun r => (zQ [3, 5, 7, 9, 10, 11, 12, 15, 17, 19, 21, 23, 25, 27, 28, 29, 30, 32, 34, 36, 40, 42, 44, 45] [] [5, 38, 46, 48] []) σ0 (r.1)) := by
  unfold fX10_isOn_78
  exact zpc_ck (zpc_some h)
theorem fv_fX10_isOn {σ0 : zSt} {σ : zSt} {x1 : Int32} (h : (zQ [3, 5, 7, 9, 10, 11, 12, 15, 17, 19, 21, 23, 25, 27, 28, 29, 30, 32, 34, 36, 40, 42, 44, 45] [] [5, 38, 46, 48] []) σ0 σ) : zpc (fX10_isOn σ x1) (fun r => (zQ [3, 5, 7, 9, 10, 11, 12, 15, 17, 19, 21, 23, 25, 27, 28, 29, 30, 32, 34, 36, 40, 42, 44, 45] [] [5, 38, 46, 48] []) σ0 (r.1)) := by
  unfold fX10_isOn
  exact zpc_ck (zpc_if (fun _ => zpc_if (fun _ => zpc_ck (zpc_some h)) (fun _ => zpc_if (fun _ => zpc_ck (zpc_if (fun _ => fv_fX10_isOn_78 h) (fun _ => fv_fX10_isOn_78 h))) (fun _ => zpc_if (fun _ => zpc_ck (zpc_if (fun _ => fv_fX10_isOn_96 h) (fun _ => fv_fX10_isOn_96 h))) (fun _ => zpc_if (fun _ => zpc_ck (zpc_if (fun _ => fv_fX10_isOn_122 h) (fun _ => fv_fX10_isOn_122 h))) (fun _ => zpc_ck (zpc_some h)))))) (fun _ => zpc_ck (zpc_some h)))
theorem fv_fX10_part {σ0 : zSt} {σ : zSt} {x1 : Int32} (h : (zQ [3, 5, 7, 9, 10, 11, 12, 15, 17, 19, 21, 23, 25, 27, 28, 29, 30, 32, 34, 36, 40, 42, 44, 45] [] [5, 38, 46, 48] []) σ0 σ) : zpc (fX10_part σ x1) (fun r => (zQ [3, 5, 7, 9, 10, 11, 12, 15, 17, 19, 21, 23, 25, 27, 28, 29, 30, 32, 34, 36, 40, 42, 44, 45] [] [5, 38, 46, 48] []) σ0 (r.1)) := by
  unfold fX10_part
  exact zpc_some h
theorem fv_fX10_rateIn_126 {σ0 : zSt} {σ : zSt} {s0 : Int32} (h : (zQ [3, 5, 7, 9, 10, 11, 12, 15, 17, 19, 21, 23, 25, 27, 28, 29, 30, 32, 34, 36, 40, 42, 44, 45] [] [5, 38, 46, 48] []) σ0 σ) : zpc (fX10_rateIn_126 σ s0) (fun r => (zQ [3, 5, 7, 9, 10, 11, 12, 15, 17, 19, 21, 23, 25, 27, 28, 29, 30, 32, 34, 36, 40, 42, 44, 45] [] [5, 38, 46, 48] []) σ0 (r.1)) := by
  unfold fX10_rateIn_126
  exact zpc_some h
theorem fv_fX10_rateIn_94 {σ0 : zSt} {σ : zSt} {s0 : Int32} (h : (zQ [3, 5, 7, 9, 10, 11, 12, 15, 17, 19, 21, 23, 25, 27, 28, 29, 30, 32, 34, 36, 40, 42, 44, 45] [] [5, 38, 46, 48] []) σ0 σ) : zpc (fX10_rateIn_94 σ s0) (fun r => (zQ [3, 5, 7, 9, 10, 11, 12, 15, 17, 19, 21, 23, 25, 27, 28, 29, 30, 32, 34, 36, 40, 42, 44, 45] [] [5, 38, 46, 48] []) σ0 (r.1)) := by
  unfold fX10_rateIn_94
  exact zpc_some h
theorem fv_fX10_rateIn_16 {σ0 : zSt} {σ : zSt} {x1 : Int32} {x2 : Int32} {s0 : Int32} (h : (zQ [3, 5, 7, 9, 10, 11, 12, 15, 17, 19, 21, 23, 25, 27, 28, 29, 30, 32, 34, 36, 40, 42, 44, 45] [] [5, 38, 46, 48] []) σ0 σ) : zpc (fX10_rateIn_16 σ x1 x2 s0) (fun r => (zQ [3, 5, 7, 9, 10, 11, 12, 15, 17, 19, 21, 23, 25, 27, 28, 29, 30, 32, 34, 36, 40, 42, 44, 45] [] [5, 38, 46, 48] []) σ0 (r.1)) := by
  unfold fX10_rateIn_16
  exact zpc_bi (fv_fX10_part h) (fun σ1 v2 hσ1 => zpc_bv (fun v3 _ => zpc_if (fun _ => zpc_some hσ1) (fun _ => zpc_if (fun _ => zpc_bi (fv_fX10_part hσ1) (fun σ4 v5 hσ4 => zpc_some hσ4)) (fun _ => zpc_if (fun _ => zpc_bi (fv_fX10_part hσ1) (fun σ6 v7 hσ6 => zpc_some hσ6)) (fun _ => zpc_if (fun _ => zpc_if (fun _ => fv_fX10_rateIn_94 hσ1) (fun _ => fv_fX10_rateIn_94 hσ1)) (fun _ => zpc_ck (zpc_if (fun _ => zpc_if (fun _ => fv_fX10_rateIn_126 hσ1) (fun _ => fv_fX10_rateIn_126 hσ1)) (fun _ => zpc_some hσ1))))))))
theorem fv_fX10_rateIn {σ0 : zSt} {σ : zSt} {x1 : Int32} {x2 : Int32} (h : (zQ [3, 5, 7, 9, 10, 11, 12, 15, 17, 19, 21, 23, 25, 27, 28, 29, 30, 32, 34, 36, 40, 42, 44, 45] [] [5, 38, 46, 48] []) σ0 σ) : zpc (fX10_rateIn σ x1 x2) (fun r => (zQ [3, 5, 7, 9, 10, 11, 12, 15, 17, 19, 21, 23, 25, 27, 28, 29, 30, 32, 34, 36, 40, 42, 44, 45] [] [5, 38, 46, 48] []) σ0 (r.1)) := by
  unfold fX10_rateIn
  exact zpc_bi (fv_fX10_part h) (fun σ8 v9 hσ8 => zpc_if (fun _ => fv_fX10_rateIn_16 hσ8) (fun _ => fv_fX10_rateIn_16 hσ8))
theorem fv_fX10_slowTick {σ0 : zSt} {σ : zSt} (h : (zQ [3, 5, 7, 9, 10, 11, 12, 15, 17, 19, 21, 23, 25, 27, 28, 29, 30, 32, 34, 36, 40, 42, 44, 45] [] [5, 38, 46, 48] []) σ0 σ) : zpc (fX10_slowTick σ) (fun r => (zQ [3, 5, 7, 9, 10, 11, 12, 15, 17, 19, 21, 23, 25, 27, 28, 29, 30, 32, 34, 36, 40, 42, 44, 45] [] [5, 38, 46, 48] []) σ0 (r.1)) := by
  unfold fX10_slowTick
  exact zpc_ck (zpc_some h)
theorem fv_fX10_tickAt_53 {σ0 : zSt} {σ : zSt} {s0 : Int32} (h : (zQ [3, 5, 7, 9, 10, 11, 12, 15, 17, 19, 21, 23, 25, 27, 28, 29, 30, 32, 34, 36, 40, 42, 44, 45] [] [5, 38, 46, 48] []) σ0 σ) : zpc (fX10_tickAt_53 σ s0) (fun r => (zQ [3, 5, 7, 9, 10, 11, 12, 15, 17, 19, 21, 23, 25, 27, 28, 29, 30, 32, 34, 36, 40, 42, 44, 45] [] [5, 38, 46, 48] []) σ0 (r.1)) := by
  unfold fX10_tickAt_53
  exact zpc_some h
theorem fv_fX10_tickAt_26 {σ0 : zSt} {σ : zSt} {x2 : Int32} {x3 : Int32} {s0 : Int32} (h : (zQ [3, 5, 7, 9, 10, 11, 12, 15, 17, 19, 21, 23, 25, 27, 28, 29, 30, 32, 34, 36, 40, 42, 44, 45] [] [5, 38, 46, 48] []) σ0 σ) : zpc (fX10_tickAt_26 σ x2 x3 s0) (fun r => (zQ [3, 5, 7, 9, 10, 11, 12, 15, 17, 19, 21, 23, 25, 27, 28, 29, 30, 32, 34, 36, 40, 42, 44, 45] [] [5, 38, 46, 48] []) σ0 (r.1)) := by
  unfold fX10_tickAt_26
  exact zpc_if (fun _ => fv_fX10_tickAt_53 h) (fun _ => zpc_ck (fv_fX10_tickAt_53 h))
theorem fv_fX10_tickAt {σ0 : zSt} {σ : zSt} {x1 : Int32} {x2 : Int32} (h : (zQ [3, 5, 7, 9, 10, 11, 12, 15, 17, 19, 21, 23, 25, 27, 28, 29, 30, 32, 34, 36, 40, 42, 44, 45] [] [5, 38, 46, 48] []) σ0 σ) : zpc (fX10_tickAt σ x1 x2) (fun r => (zQ [3, 5, 7, 9, 10, 11, 12, 15, 17, 19, 21, 23, 25, 27, 28, 29, 30, 32, 34, 36, 40, 42, 44, 45] [] [5, 38, 46, 48] []) σ0 (r.1)) := by
  unfold fX10_tickAt
  exact zpc_bv (fun v1 _ => zpc_ck (zpc_if (fun _ => fv_fX10_tickAt_26 h) (fun _ => fv_fX10_tickAt_26 h)))
theorem fv_fX10_louder_56 {σ0 : zSt} {σ : zSt} {s0 : Int32} (h : (zQ [3, 5, 7, 9, 10, 11, 12, 15, 17, 19, 21, 23, 25, 27, 28, 29, 30, 32, 34, 36, 40, 42, 44, 45] [] [5, 38, 46, 48] []) σ0 σ) : zpc (fX10_louder_56 σ s0) (fun r => (zQ [3, 5, 7, 9, 10, 11, 12, 15, 17, 19, 21, 23, 25, 27, 28, 29, 30, 32, 34, 36, 40, 42, 44, 45] [] [5, 38, 46, 48] []) σ0 (r.1)) := by
  unfold fX10_louder_56
  exact zpc_some h
theorem fv_fX10_louder {σ0 : zSt} {σ : zSt} {x1 : Int32} {x2 : Int32} {x3 : Int32} (h : (zQ [3, 5, 7, 9, 10, 11, 12, 15, 17, 19, 21, 23, 25, 27, 28, 29, 30, 32, 34, 36, 40, 42, 44, 45] [] [5, 38, 46, 48] []) σ0 σ) : zpc (fX10_louder σ x1 x2 x3) (fun r => (zQ [3, 5, 7, 9, 10, 11, 12, 15, 17, 19, 21, 23, 25, 27, 28, 29, 30, 32, 34, 36, 40, 42, 44, 45] [] [5, 38, 46, 48] []) σ0 (r.1)) := by
  unfold fX10_louder
  exact zpc_if (fun _ => zpc_some h) (fun _ => zpc_if (fun _ => zpc_bi (fv_fX10_tickAt h) (fun σ1 v2 hσ1 => zpc_if (fun _ => zpc_ck (fv_fX10_louder_56 hσ1)) (fun _ => fv_fX10_louder_56 hσ1))) (fun _ => zpc_bi (fv_fX10_slowTick h) (fun σ3 v4 hσ3 => zpc_some hσ3)))
theorem fv_fX10_softer {σ0 : zSt} {σ : zSt} {x1 : Int32} {x2 : Int32} (h : (zQ [3, 5, 7, 9, 10, 11, 12, 15, 17, 19, 21, 23, 25, 27, 28, 29, 30, 32, 34, 36, 40, 42, 44, 45] [] [5, 38, 46, 48] []) σ0 σ) : zpc (fX10_softer σ x1 x2) (fun r => (zQ [3, 5, 7, 9, 10, 11, 12, 15, 17, 19, 21, 23, 25, 27, 28, 29, 30, 32, 34, 36, 40, 42, 44, 45] [] [5, 38, 46, 48] []) σ0 (r.1)) := by
  unfold fX10_softer
  exact zpc_if (fun _ => zpc_bi (fv_fX10_slowTick h) (fun σ1 v2 hσ1 => zpc_ck (zpc_some hσ1))) (fun _ => zpc_if (fun _ => zpc_bi (fv_fX10_slowTick h) (fun σ3 v4 hσ3 => zpc_some hσ3)) (fun _ => zpc_if (fun _ => zpc_some h) (fun _ => zpc_bi (fv_fX10_tickAt h) (fun σ5 v6 hσ5 => zpc_some hσ5))))
theorem fv_fX10_moveLevel_148 {σ0 : zSt} {σ : zSt} (h : (zQ [3, 5, 7, 9, 10, 11, 12, 15, 17, 19, 21, 23, 25, 27, 28, 29, 30, 32, 34, 36, 40, 42, 44, 45] [] [5, 38, 46, 48] []) σ0 σ) : zpc (fX10_moveLevel_148 σ) (fun r => (zQ [3, 5, 7, 9, 10, 11, 12, 15, 17, 19, 21, 23, 25, 27, 28, 29, 30, 32, 34, 36, 40, 42, 44, 45] [] [5, 38, 46, 48] []) σ0 (r)) := by
  unfold fX10_moveLevel_148
  exact zpc_some h
theorem fv_fX10_moveLevel_52 {σ0 : zSt} {σ : zSt} {x1 : Int32} {x3 : Int32} {x4 : Int32} (h : (zQ [3, 5, 7, 9, 10, 11, 12, 15, 17, 19, 21, 23, 25, 27, 28, 29, 30, 32, 34, 36, 40, 42, 44, 45] [] [5, 38, 46, 48] []) σ0 σ) : zpc (fX10_moveLevel_52 σ x1 x3 x4) (fun r => (zQ [3, 5, 7, 9, 10, 11, 12, 15, 17, 19, 21, 23, 25, 27, 28, 29, 30, 32, 34, 36, 40, 42, 44, 45] [] [5, 38, 46, 48] []) σ0 (r)) := by
  unfold fX10_moveLevel_52
  exact zpc_ck (zpc_bv (fun v1 _ => zpc_ck (zpc_bv (fun v2 _ => zpc_ck (zpc_if (fun _ => zpc_ck (zpc_bi (fv_fX10_louder h) (fun σ6 v7 hσ6 => zpc_ck (zpc_bs (zQ.wi hσ6 rfl) (fun σ8 hσ8 => fv_fX10_moveLevel_148 hσ8))))) (fun _ => zpc_ck (zpc_bi (fv_fX10_softer h) (fun σ3 v4 hσ3 => zpc_ck (zpc_bs (zQ.wi hσ3 rfl) (fun σ5 hσ5 => fv_fX10_moveLevel_148 hσ5))))))))))
theorem fv_fX10_moveLevel {σ0 : zSt} {σ : zSt} {x1 : Int32} {x2 : Int32} (h : (zQ [3, 5, 7, 9, 10, 11, 12, 15, 17, 19, 21, 23, 25, 27, 28, 29, 30, 32, 34, 36, 40, 42, 44, 45] [] [5, 38, 46, 48] []) σ0 σ) : zpc (fX10_moveLevel σ x1 x2) (fun r => (zQ [3, 5, 7, 9, 10, 11, 12, 15, 17, 19, 21, 23, 25, 27, 28, 29, 30, 32, 34, 36, 40, 42, 44, 45] [] [5, 38, 46, 48] []) σ0 (r)) := by
  unfold fX10_moveLevel
  exact zpc_ck (zpc_bi (fv_fX10_rateIn h) (fun σ9 v10 hσ9 => zpc_if (fun _ => zpc_some hσ9) (fun _ => zpc_bv (fun v11 _ => zpc_bi (fv_fX10_part hσ9) (fun σ12 v13 hσ12 => zpc_if (fun _ => zpc_ck (zpc_bv (fun v14 _ => fv_fX10_moveLevel_52 hσ12))) (fun _ => fv_fX10_moveLevel_52 hσ12))))))
theorem fv_fX10_moveState_96 {σ0 : zSt} {σ : zSt} (h : (zQ [3, 5, 7, 9, 10, 11, 12, 15, 17, 19, 21, 23, 25, 27, 28, 29, 30, 32, 34, 36, 40, 42, 44, 45] [] [5, 38, 46, 48] []) σ0 σ) : zpc (fX10_moveState_96 σ) (fun r => (zQ [3, 5, 7, 9, 10, 11, 12, 15, 17, 19, 21, 23, 25, 27, 28, 29, 30, 32, 34, 36, 40, 42, 44, 45] [] [5, 38, 46, 48] []) σ0 (r)) := by
  unfold fX10_moveState_96
  exact zpc_some h
theorem fv_fX10_moveState_73 {σ0 : zSt} {σ : zSt} {x1 : Int32} {x2 : Int32} {x3 : Int32} {x4 : Int32} (h : (zQ [3, 5, 7, 9, 10, 11, 12, 15, 17, 19, 21, 23, 25, 27, 28, 29, 30, 32, 34, 36, 40, 42, 44, 45] [] [5, 38, 46, 48] []) σ0 σ) : zpc (fX10_moveState_73 σ x1 x2 x3 x4) (fun r => (zQ [3, 5, 7, 9, 10, 11, 12, 15, 17, 19, 21, 23, 25, 27, 28, 29, 30, 32, 34, 36, 40, 42, 44, 45] [] [5, 38, 46, 48] []) σ0 (r)) := by
  unfold fX10_moveState_73
  exact zpc_if (fun _ => zpc_ck (zpc_if (fun _ => fv_fX10_moveState_96 h) (fun _ => zpc_ck (zpc_bs (zQ.wi h rfl) (fun σ1 hσ1 => fv_fX10_moveState_96 hσ1))))) (fun _ => fv_fX10_moveState_96 h)
theorem fv_fX10_moveState_51 {σ0 : zSt} {σ : zSt} {x1 : Int32} {x2 : Int32} {x3 : Int32} {x4 : Int32} (h : (zQ [3, 5, 7, 9, 10, 11, 12, 15, 17, 19, 21, 23, 25, 27, 28, 29, 30, 32, 34, 36, 40, 42, 44, 45] [] [5, 38, 46, 48] []) σ0 σ) : zpc (fX10_moveState_51 σ x1 x2 x3 x4) (fun r => (zQ [3, 5, 7, 9, 10, 11, 12, 15, 17, 19, 21, 23, 25, 27, 28, 29, 30, 32, 34, 36, 40, 42, 44, 45] [] [5, 38, 46, 48] []) σ0 (r)) := by
  unfold fX10_moveState_51
  exact zpc_if (fun _ => zpc_if (fun _ => zpc_ck (zpc_bs (zQ.wi h rfl) (fun σ2 hσ2 => fv_fX10_moveState_96 hσ2))) (fun _ => fv_fX10_moveState_73 h)) (fun _ => fv_fX10_moveState_73 h)
theorem fv_fX10_moveState {σ0 : zSt} {σ : zSt} {x1 : Int32} {x2 : Int32} (h : (zQ [3, 5, 7, 9, 10, 11, 12, 15, 17, 19, 21, 23, 25, 27, 28, 29, 30, 32, 34, 36, 40, 42, 44, 45] [] [5, 38, 46, 48] []) σ0 σ) : zpc (fX10_moveState σ x1 x2) (fun r => (zQ [3, 5, 7, 9, 10, 11, 12, 15, 17, 19, 21, 23, 25, 27, 28, 29, 30, 32, 34, 36, 40, 42, 44, 45] [] [5, 38, 46, 48] []) σ0 (r)) := by
  unfold fX10_moveState
  exact zpc_ck (zpc_bv (fun v3 _ => zpc_ck (zpc_bv (fun v4 _ => zpc_if (fun _ => zpc_if (fun _ => fv_fX10_moveState_51 h) (fun _ => zpc_ck (zpc_bs (zQ.wi h rfl) (fun σ5 hσ5 => zpc_ck (zpc_bs (zQ.wi hσ5 rfl) (fun σ6 hσ6 => fv_fX10_moveState_96 hσ6)))))) (fun _ => fv_fX10_moveState_51 h)))))
theorem fv_fX10_sway_56 {σ0 : zSt} {σ : zSt} {x1 : Int32} (h : (zQ [3, 5, 7, 9, 10, 11, 12, 15, 17, 19, 21, 23, 25, 27, 28, 29, 30, 32, 34, 36, 40, 42, 44, 45] [] [5, 38, 46, 48] []) σ0 σ) : zpc (fX10_sway_56 σ x1) (fun r => (zQ [3, 5, 7, 9, 10, 11, 12, 15, 17, 19, 21, 23, 25, 27, 28, 29, 30, 32, 34, 36, 40, 42, 44, 45] [] [5, 38, 46, 48] []) σ0 (r.1)) := by
  unfold fX10_sway_56
  exact zpc_ck (zpc_some h)
theorem fv_fX10_sway_70 {σ0 : zSt} {σ : zSt} (h : (zQ [3, 5, 7, 9, 10, 11, 12, 15, 17, 19, 21, 23, 25, 27, 28, 29, 30, 32, 34, 36, 40, 42, 44, 45] [] [5, 38, 46, 48] []) σ0 σ) : zpc (fX10_sway_70 σ) (fun r => (zQ [3, 5, 7, 9, 10, 11, 12, 15, 17, 19, 21, 23, 25, 27, 28, 29, 30, 32, 34, 36, 40, 42, 44, 45] [] [5, 38, 46, 48] []) σ0 (r.1)) := by
  unfold fX10_sway_70
  exact zpc_some h
theorem fv_fX10_sway_62 {σ0 : zSt} {σ : zSt} {x1 : Int32} (h : (zQ [3, 5, 7, 9, 10, 11, 12, 15, 17, 19, 21, 23, 25, 27, 28, 29, 30, 32, 34, 36, 40, 42, 44, 45] [] [5, 38, 46, 48] []) σ0 σ) : zpc (fX10_sway_62 σ x1) (fun r => (zQ [3, 5, 7, 9, 10, 11, 12, 15, 17, 19, 21, 23, 25, 27, 28, 29, 30, 32, 34, 36, 40, 42, 44, 45] [] [5, 38, 46, 48] []) σ0 (r.1)) := by
  unfold fX10_sway_62
  exact zpc_ck (zpc_some h)
theorem fv_fX10_sway {σ0 : zSt} {σ : zSt} {x1 : Int32} (h : (zQ [3, 5, 7, 9, 10, 11, 12, 15, 17, 19, 21, 23, 25, 27, 28, 29, 30, 32, 34, 36, 40, 42, 44, 45] [] [5, 38, 46, 48] []) σ0 σ) : zpc (fX10_sway σ x1) (fun r => (zQ [3, 5, 7, 9, 10, 11, 12, 15, 17, 19, 21, 23, 25, 27, 28, 29, 30, 32, 34, 36, 40, 42, 44, 45] [] [5, 38, 46, 48] []) σ0 (r.1)) := by
  unfold fX10_sway
  exact zpc_ck (zpc_if (fun _ => fv_fX10_sway_56 h) (fun _ => zpc_if (fun _ => zpc_some h) (fun _ => zpc_if (fun _ => fv_fX10_sway_56 h) (fun _ => zpc_if (fun _ => fv_fX10_sway_70 h) (fun _ => zpc_if (fun _ => fv_fX10_sway_62 h) (fun _ => zpc_if (fun _ => zpc_some h) (fun _ => zpc_if (fun _ => fv_fX10_sway_62 h) (fun _ => fv_fX10_sway_70 h))))))))
theorem fv_fX10_movePhase_22 {σ0 : zSt} {σ : zSt} {x1 : Int32} {x2 : Int32} {s0 : Int32} (h : (zQ [3, 5, 7, 9, 10, 11, 12, 15, 17, 19, 21, 23, 25, 27, 28, 29, 30, 32, 34, 36, 40, 42, 44, 45] [] [5, 38, 46, 48] []) σ0 σ) : zpc (fX10_movePhase_22 σ x1 x2 s0) (fun r => (zQ [3, 5, 7, 9, 10, 11, 12, 15, 17, 19, 21, 23, 25, 27, 28, 29, 30, 32, 34, 36, 40, 42, 44, 45] [] [5, 38, 46, 48] []) σ0 (r)) := by
  unfold fX10_movePhase_22
  exact zpc_ck (zpc_ck (zpc_bv (fun v1 _ => zpc_ck (zpc_ck (zpc_bs (zQ.wi h rfl) (fun σ2 hσ2 => zpc_some hσ2))))))
theorem fv_fX10_movePhase {σ0 : zSt} {σ : zSt} {x1 : Int32} {x2 : Int32} (h : (zQ [3, 5, 7, 9, 10, 11, 12, 15, 17, 19, 21, 23, 25, 27, 28, 29, 30, 32, 34, 36, 40, 42, 44, 45] [] [5, 38, 46, 48] []) σ0 σ) : zpc (fX10_movePhase σ x1 x2) (fun r => (zQ [3, 5, 7, 9, 10, 11, 12, 15, 17, 19, 21, 23, 25, 27, 28, 29, 30, 32, 34, 36, 40, 42, 44, 45] [] [5, 38, 46, 48] []) σ0 (r)) := by
  unfold fX10_movePhase
  exact zpc_if (fun _ => fv_fX10_movePhase_22 h) (fun _ => zpc_ck (zpc_bi (fv_fX10_sway h) (fun σ3 v4 hσ3 => fv_fX10_movePhase_22 hσ3)))
theorem fv_fX10_drumPhase_115 {σ0 : zSt} {σ : zSt} {s0 : Int32} (h : (zQ [3, 5, 7, 9, 10, 11, 12, 15, 17, 19, 21, 23, 25, 27, 28, 29, 30, 32, 34, 36, 40, 42, 44, 45] [] [5, 38, 46, 48] []) σ0 σ) : zpc (fX10_drumPhase_115 σ s0) (fun r => (zQ [3, 5, 7, 9, 10, 11, 12, 15, 17, 19, 21, 23, 25, 27, 28, 29, 30, 32, 34, 36, 40, 42, 44, 45] [] [5, 38, 46, 48] []) σ0 (r.1)) := by
  unfold fX10_drumPhase_115
  exact zpc_some h
theorem fv_fX10_drumPhase_155 {σ0 : zSt} {σ : zSt} {s0 : Int32} (h : (zQ [3, 5, 7, 9, 10, 11, 12, 15, 17, 19, 21, 23, 25, 27, 28, 29, 30, 32, 34, 36, 40, 42, 44, 45] [] [5, 38, 46, 48] []) σ0 σ) : zpc (fX10_drumPhase_155 σ s0) (fun r => (zQ [3, 5, 7, 9, 10, 11, 12, 15, 17, 19, 21, 23, 25, 27, 28, 29, 30, 32, 34, 36, 40, 42, 44, 45] [] [5, 38, 46, 48] []) σ0 (r.1)) := by
  unfold fX10_drumPhase_155
  exact zpc_some h
theorem fv_fX10_drumPhase_193 {σ0 : zSt} {σ : zSt} {s0 : Int32} (h : (zQ [3, 5, 7, 9, 10, 11, 12, 15, 17, 19, 21, 23, 25, 27, 28, 29, 30, 32, 34, 36, 40, 42, 44, 45] [] [5, 38, 46, 48] []) σ0 σ) : zpc (fX10_drumPhase_193 σ s0) (fun r => (zQ [3, 5, 7, 9, 10, 11, 12, 15, 17, 19, 21, 23, 25, 27, 28, 29, 30, 32, 34, 36, 40, 42, 44, 45] [] [5, 38, 46, 48] []) σ0 (r.1)) := by
  unfold fX10_drumPhase_193
  exact zpc_some h
theorem fv_fX10_drumPhase_82 {σ0 : zSt} {σ : zSt} {x1 : Int32} {x2 : Int32} {x5 : Int32} {s0 : Int32} (h : (zQ [3, 5, 7, 9, 10, 11, 12, 15, 17, 19, 21, 23, 25, 27, 28, 29, 30, 32, 34, 36, 40, 42, 44, 45] [] [5, 38, 46, 48] []) σ0 σ) : zpc (fX10_drumPhase_82 σ x1 x2 x5 s0) (fun r => (zQ [3, 5, 7, 9, 10, 11, 12, 15, 17, 19, 21, 23, 25, 27, 28, 29, 30, 32, 34, 36, 40, 42, 44, 45] [] [5, 38, 46, 48] []) σ0 (r.1)) := by
  unfold fX10_drumPhase_82
  exact zpc_if (fun _ => zpc_if (fun _ => fv_fX10_drumPhase_115 h) (fun _ => zpc_if (fun _ => fv_fX10_drumPhase_115 h) (fun _ => fv_fX10_drumPhase_115 h))) (fun _ => zpc_if (fun _ => zpc_if (fun _ => zpc_if (fun _ => fv_fX10_drumPhase_155 h) (fun _ => fv_fX10_drumPhase_155 h)) (fun _ => zpc_if (fun _ => fv_fX10_drumPhase_155 h) (fun _ => fv_fX10_drumPhase_155 h))) (fun _ => zpc_if (fun _ => zpc_if (fun _ => fv_fX10_drumPhase_193 h) (fun _ => fv_fX10_drumPhase_193 h)) (fun _ => zpc_if (fun _ => fv_fX10_drumPhase_193 h) (fun _ => fv_fX10_drumPhase_193 h))))
theorem fv_fX10_drumPhase_62 {σ0 : zSt} {σ : zSt} {x1 : Int32} {x2 : Int32} {s0 : Int32} (h : (zQ [3, 5, 7, 9, 10, 11, 12, 15, 17, 19, 21, 23, 25, 27, 28, 29, 30, 32, 34, 36, 40, 42, 44, 45] [] [5, 38, 46, 48] []) σ0 σ) : zpc (fX10_drumPhase_62 σ x1 x2 s0) (fun r => (zQ [3, 5, 7, 9, 10, 11, 12, 15, 17, 19, 21, 23, 25, 27, 28, 29, 30, 32, 34, 36, 40, 42, 44, 45] [] [5, 38, 46, 48] []) σ0 (r.1)) := by
  unfold fX10_drumPhase_62
  exact zpc_ck (zpc_if (fun _ => fv_fX10_drumPhase_82 h) (fun _ => fv_fX10_drumPhase_82 h))
theorem fv_fX10_drumPhase {σ0 : zSt} {σ : zSt} {x1 : Int32} {x2 : Int32} (h : (zQ [3, 5, 7, 9, 10, 11, 12, 15, 17, 19, 21, 23, 25, 27, 28, 29, 30, 32, 34, 36, 40, 42, 44, 45] [] [5, 38, 46, 48] []) σ0 σ) : zpc (fX10_drumPhase σ x1 x2) (fun r => (zQ [3, 5, 7, 9, 10, 11, 12, 15, 17, 19, 21, 23, 25, 27, 28, 29, 30, 32, 34, 36, 40, 42, 44, 45] [] [5, 38, 46, 48] []) σ0 (r.1)) := by
  unfold fX10_drumPhase
  exact zpc_ck (zpc_bv (fun v1 _ => zpc_ck (zpc_bv (fun v2 _ => zpc_if (fun _ => fv_fX10_drumPhase_62 h) (fun _ => fv_fX10_drumPhase_62 h)))))
theorem fv_fX10_turnedPhase_98 {σ0 : zSt} {σ : zSt} {s0 : Int32} (h : (zQ [3, 5, 7, 9, 10, 11, 12, 15, 17, 19, 21, 23, 25, 27, 28, 29, 30, 32, 34, 36, 40, 42, 44, 45] [] [5, 38, 46, 48] []) σ0 σ) : zpc (fX10_turnedPhase_98 σ s0) (fun r => (zQ [3, 5, 7, 9, 10, 11, 12, 15, 17, 19, 21, 23, 25, 27, 28, 29, 30, 32, 34, 36, 40, 42, 44, 45] [] [5, 38, 46, 48] []) σ0 (r.1)) := by
  unfold fX10_turnedPhase_98
  exact zpc_some h
theorem fv_fX10_turnedPhase_35 {σ0 : zSt} {σ : zSt} {x1 : Int32} {x2 : Int32} {x3 : Int32} (h : (zQ [3, 5, 7, 9, 10, 11, 12, 15, 17, 19, 21, 23, 25, 27, 28, 29, 30, 32, 34, 36, 40, 42, 44, 45] [] [5, 38, 46, 48] []) σ0 σ) : zpc (fX10_turnedPhase_35 σ x1 x2 x3) (fun r => (zQ [3, 5, 7, 9, 10, 11, 12, 15, 17, 19, 21, 23, 25, 27, 28, 29, 30, 32, 34, 36, 40, 42, 44, 45] [] [5, 38, 46, 48] []) σ0 (r.1)) := by
  unfold fX10_turnedPhase_35
  exact zpc_if (fun _ => zpc_ck (zpc_some h)) (fun _ => zpc_bi (fv_fX10_part h) (fun σ1 v2 hσ1 => zpc_bv (fun v3 _ => zpc_if (fun _ => fv_fX10_turnedPhase_98 hσ1) (fun _ => zpc_ck (zpc_ck (fv_fX10_turnedPhase_98 hσ1))))))
theorem fv_fX10_turnedPhase {σ0 : zSt} {σ : zSt} {x1 : Int32} {x2 : Int32} (h : (zQ [3, 5, 7, 9, 10, 11, 12, 15, 17, 19, 21, 23, 25, 27, 28, 29, 30, 32, 34, 36, 40, 42, 44, 45] [] [5, 38, 46, 48] []) σ0 σ) : zpc (fX10_turnedPhase σ x1 x2) (fun r => (zQ [3, 5, 7, 9, 10, 11, 12, 15, 17, 19, 21, 23, 25, 27, 28, 29, 30, 32, 34, 36, 40, 42, 44, 45] [] [5, 38, 46, 48] []) σ0 (r.1)) := by
  unfold fX10_turnedPhase
  exact zpc_ck (zpc_bv (fun v4 _ => zpc_if (fun _ => fv_fX10_turnedPhase_35 h) (fun _ => zpc_if (fun _ => fv_fX10_turnedPhase_35 h) (fun _ => zpc_bi (fv_fX10_drumPhase h) (fun σ5 v6 hσ5 => zpc_some hσ5)))))
theorem fv_fX10_scaled_44 {σ0 : zSt} {σ : zSt} {s0 : Int32} (h : (zQ [3, 5, 7, 9, 10, 11, 12, 15, 17, 19, 21, 23, 25, 27, 28, 29, 30, 32, 34, 36, 40, 42, 44, 45] [] [5, 38, 46, 48] []) σ0 σ) : zpc (fX10_scaled_44 σ s0) (fun r => (zQ [3, 5, 7, 9, 10, 11, 12, 15, 17, 19, 21, 23, 25, 27, 28, 29, 30, 32, 34, 36, 40, 42, 44, 45] [] [5, 38, 46, 48] []) σ0 (r.1)) := by
  unfold fX10_scaled_44
  exact zpc_some h
theorem fv_fX10_scaled {σ0 : zSt} {σ : zSt} {x1 : Int32} (h : (zQ [3, 5, 7, 9, 10, 11, 12, 15, 17, 19, 21, 23, 25, 27, 28, 29, 30, 32, 34, 36, 40, 42, 44, 45] [] [5, 38, 46, 48] []) σ0 σ) : zpc (fX10_scaled σ x1) (fun r => (zQ [3, 5, 7, 9, 10, 11, 12, 15, 17, 19, 21, 23, 25, 27, 28, 29, 30, 32, 34, 36, 40, 42, 44, 45] [] [5, 38, 46, 48] []) σ0 (r.1)) := by
  unfold fX10_scaled
  exact zpc_if (fun _ => zpc_some h) (fun _ => zpc_ck (zpc_bv (fun v1 _ => zpc_if (fun _ => fv_fX10_scaled_44 h) (fun _ => fv_fX10_scaled_44 h))))
theorem fv_fX10_tremble_30 {σ0 : zSt} {σ : zSt} {s0 : Int32} (h : (zQ [3, 5, 7, 9, 10, 11, 12, 15, 17, 19, 21, 23, 25, 27, 28, 29, 30, 32, 34, 36, 40, 42, 44, 45] [] [5, 38, 46, 48] []) σ0 σ) : zpc (fX10_tremble_30 σ s0) (fun r => (zQ [3, 5, 7, 9, 10, 11, 12, 15, 17, 19, 21, 23, 25, 27, 28, 29, 30, 32, 34, 36, 40, 42, 44, 45] [] [5, 38, 46, 48] []) σ0 (r.1)) := by
  unfold fX10_tremble_30
  exact zpc_ck (zpc_some h)
theorem fv_fX10_tremble {σ0 : zSt} {σ : zSt} (h : (zQ [3, 5, 7, 9, 10, 11, 12, 15, 17, 19, 21, 23, 25, 27, 28, 29, 30, 32, 34, 36, 40, 42, 44, 45] [] [5, 38, 46, 48] []) σ0 σ) : zpc (fX10_tremble σ) (fun r => (zQ [3, 5, 7, 9, 10, 11, 12, 15, 17, 19, 21, 23, 25, 27, 28, 29, 30, 32, 34, 36, 40, 42, 44, 45] [] [5, 38, 46, 48] []) σ0 (r.1)) := by
  unfold fX10_tremble
  exact zpc_ck (zpc_ck (zpc_ck (zpc_bv (fun v1 _ => zpc_if (fun _ => fv_fX10_tremble_30 h) (fun _ => fv_fX10_tremble_30 h)))))
theorem fv_fX10_softness_124 {σ0 : zSt} {σ : zSt} {x4 : Int32} (h : (zQ [3, 5, 7, 9, 10, 11, 12, 15, 17, 19, 21, 23, 25, 27, 28, 29, 30, 32, 34, 36, 40, 42, 44, 45] [] [5, 38, 46, 48] []) σ0 σ) : zpc (fX10_softness_124 σ x4) (fun r => (zQ [3, 5, 7, 9, 10, 11, 12, 15, 17, 19, 21, 23, 25, 27, 28, 29, 30, 32, 34, 36, 40, 42, 44, 45] [] [5, 38, 46, 48] []) σ0 (r.1)) := by
  unfold fX10_softness_124
  exact zpc_some h
theorem fv_fX10_softness_103 {σ0 : zSt} {σ : zSt} {x2 : Int32} {x4 : Int32} (h : (zQ [3, 5, 7, 9, 10, 11, 12, 15, 17, 19, 21, 23, 25, 27, 28, 29, 30, 32, 34, 36, 40, 42, 44, 45] [] [5, 38, 46, 48] []) σ0 σ) : zpc (fX10_softness_103 σ x2 x4) (fun r => (zQ [3, 5, 7, 9, 10, 11, 12, 15, 17, 19, 21, 23, 25, 27, 28, 29, 30, 32, 34, 36, 40, 42, 44, 45] [] [5, 38, 46, 48] []) σ0 (r.1)) := by
  unfold fX10_softness_103
  exact zpc_bi (fv_fX10_part h) (fun σ1 v2 hσ1 => zpc_if (fun _ => fv_fX10_softness_124 hσ1) (fun _ => zpc_bi (fv_fX10_tremble hσ1) (fun σ3 v4 hσ3 => zpc_bv (fun v5 _ => fv_fX10_softness_124 hσ3))))
theorem fv_fX10_softness_88 {σ0 : zSt} {σ : zSt} {x2 : Int32} {x4 : Int32} (h : (zQ [3, 5, 7, 9, 10, 11, 12, 15, 17, 19, 21, 23, 25, 27, 28, 29, 30, 32, 34, 36, 40, 42, 44, 45] [] [5, 38, 46, 48] []) σ0 σ) : zpc (fX10_softness_88 σ x2 x4) (fun r => (zQ [3, 5, 7, 9, 10, 11, 12, 15, 17, 19, 21, 23, 25, 27, 28, 29, 30, 32, 34, 36, 40, 42, 44, 45] [] [5, 38, 46, 48] []) σ0 (r.1)) := by
  unfold fX10_softness_88
  exact zpc_bi (fv_fX10_part h) (fun σ6 v7 hσ6 => zpc_bv (fun v8 _ => fv_fX10_softness_103 hσ6))
theorem fv_fX10_softness {σ0 : zSt} {σ : zSt} {x1 : Int32} {x2 : Int32} (h : (zQ [3, 5, 7, 9, 10, 11, 12, 15, 17, 19, 21, 23, 25, 27, 28, 29, 30, 32, 34, 36, 40, 42, 44, 45] [] [5, 38, 46, 48] []) σ0 σ) : zpc (fX10_softness σ x1 x2) (fun r => (zQ [3, 5, 7, 9, 10, 11, 12, 15, 17, 19, 21, 23, 25, 27, 28, 29, 30, 32, 34, 36, 40, 42, 44, 45] [] [5, 38, 46, 48] []) σ0 (r.1)) := by
  unfold fX10_softness
  exact zpc_ck (zpc_bv (fun v9 _ => zpc_ck (zpc_bi (fv_fX10_part h) (fun σ10 v11 hσ10 => zpc_bi (fv_fX10_scaled hσ10) (fun σ12 v13 hσ12 => zpc_bv (fun v14 _ => zpc_if (fun _ => zpc_bv (fun v16 _ => fv_fX10_softness_103 hσ12)) (fun _ => zpc_if (fun _ => fv_fX10_softness_88 hσ12) (fun _ => zpc_if (fun _ => fv_fX10_softness_88 hσ12) (fun _ => zpc_bv (fun v15 _ => fv_fX10_softness_103 hσ12))))))))))
theorem fv_fX10_waveAt_104 {σ0 : zSt} {σ : zSt} {s0 : Int32} (h : (zQ [3, 5, 7, 9, 10, 11, 12, 15, 17, 19, 21, 23, 25, 27, 28, 29, 30, 32, 34, 36, 40, 42, 44, 45] [] [5, 38, 46, 48] []) σ0 σ) : zpc (fX10_waveAt_104 σ s0) (fun r => (zQ [3, 5, 7, 9, 10, 11, 12, 15, 17, 19, 21, 23, 25, 27, 28, 29, 30, 32, 34, 36, 40, 42, 44, 45] [] [5, 38, 46, 48] []) σ0 (r.1)) := by
  unfold fX10_waveAt_104
  exact zpc_some h
theorem fv_fX10_waveAt_49 {σ0 : zSt} {σ : zSt} {x1 : Int32} {x3 : Int32} {s0 : Int32} (h : (zQ [3, 5, 7, 9, 10, 11, 12, 15, 17, 19, 21, 23, 25, 27, 28, 29, 30, 32, 34, 36, 40, 42, 44, 45] [] [5, 38, 46, 48] []) σ0 σ) : zpc (fX10_waveAt_49 σ x1 x3 s0) (fun r => (zQ [3, 5, 7, 9, 10, 11, 12, 15, 17, 19, 21, 23, 25, 27, 28, 29, 30, 32, 34, 36, 40, 42, 44, 45] [] [5, 38, 46, 48] []) σ0 (r.1)) := by
  unfold fX10_waveAt_49
  exact zpc_ck (zpc_bv (fun v1 _ => zpc_ck (zpc_bv (fun v2 _ => zpc_if (fun _ => fv_fX10_waveAt_104 h) (fun _ => fv_fX10_waveAt_104 h)))))
theorem fv_fX10_waveAt_24 {σ0 : zSt} {σ : zSt} {x0 : Int32} {x1 : Int32} {x3 : Int32} (h : (zQ [3, 5, 7, 9, 10, 11, 12, 15, 17, 19, 21, 23, 25, 27, 28, 29, 30, 32, 34, 36, 40, 42, 44, 45] [] [5, 38, 46, 48] []) σ0 σ) : zpc (fX10_waveAt_24 σ x0 x1 x3) (fun r => (zQ [3, 5, 7, 9, 10, 11, 12, 15, 17, 19, 21, 23, 25, 27, 28, 29, 30, 32, 34, 36, 40, 42, 44, 45] [] [5, 38, 46, 48] []) σ0 (r.1)) := by
  unfold fX10_waveAt_24
  exact zpc_if (fun _ => fv_fX10_waveAt_49 h) (fun _ => fv_fX10_waveAt_49 h)
theorem fv_fX10_waveAt_13 {σ0 : zSt} {σ : zSt} {x0 : Int32} {x1 : Int32} {x2 : Int32} {s0 : Int32} (h : (zQ [3, 5, 7, 9, 10, 11, 12, 15, 17, 19, 21, 23, 25, 27, 28, 29, 30, 32, 34, 36, 40, 42, 44, 45] [] [5, 38, 46, 48] []) σ0 σ) : zpc (fX10_waveAt_13 σ x0 x1 x2 s0) (fun r => (zQ [3, 5, 7, 9, 10, 11, 12, 15, 17, 19, 21, 23, 25, 27, 28, 29, 30, 32, 34, 36, 40, 42, 44, 45] [] [5, 38, 46, 48] []) σ0 (r.1)) := by
  unfold fX10_waveAt_13
  exact zpc_if (fun _ => fv_fX10_waveAt_24 h) (fun _ => zpc_if (fun _ => fv_fX10_waveAt_24 h) (fun _ => zpc_some h))
theorem fv_fX10_waveAt {σ0 : zSt} {σ : zSt} {x0 : Int32} {x1 : Int32} {x2 : Int32} (h : (zQ [3, 5, 7, 9, 10, 11, 12, 15, 17, 19, 21, 23, 25, 27, 28, 29, 30, 32, 34, 36, 40, 42, 44, 45] [] [5, 38, 46, 48] []) σ0 σ) : zpc (fX10_waveAt σ x0 x1 x2) (fun r => (zQ [3, 5, 7, 9, 10, 11, 12, 15, 17, 19, 21, 23, 25, 27, 28, 29, 30, 32, 34, 36, 40, 42, 44, 45] [] [5, 38, 46, 48] []) σ0 (r.1)) := by
  unfold fX10_waveAt
  exact zpc_if (fun _ => fv_fX10_waveAt_13 h) (fun _ => fv_fX10_waveAt_13 h)
theorem fv_fX10_moveOut_55 {σ0 : zSt} {σ : zSt} {x1 : Int32} {x3 : Int32} (h : (zQ [3, 5, 7, 9, 10, 11, 12, 15, 17, 19, 21, 23, 25, 27, 28, 29, 30, 32, 34, 36, 40, 42, 44, 45] [] [5, 38, 46, 48] []) σ0 σ) : zpc (fX10_moveOut_55 σ x1 x3) (fun r => (zQ [3, 5, 7, 9, 10, 11, 12, 15, 17, 19, 21, 23, 25, 27, 28, 29, 30, 32, 34, 36, 40, 42, 44, 45] [] [5, 38, 46, 48] []) σ0 (r)) := by
  unfold fX10_moveOut_55
  exact zpc_ck (zpc_ck (zpc_bs (zQ.wi h rfl) (fun σ1 hσ1 => zpc_ck (zpc_bs (zQ.wi hσ1 rfl) (fun σ2 hσ2 => zpc_some hσ2)))))
theorem fv_fX10_moveOut_51 {σ0 : zSt} {σ : zSt} {x1 : Int32} {s0 : Int32} {s1 : Int32} {s2 : Int32} (h : (zQ [3, 5, 7, 9, 10, 11, 12, 15, 17, 19, 21, 23, 25, 27, 28, 29, 30, 32, 34, 36, 40, 42, 44, 45] [] [5, 38, 46, 48] []) σ0 σ) : zpc (fX10_moveOut_51 σ x1 s0 s1 s2) (fun r => (zQ [3, 5, 7, 9, 10, 11, 12, 15, 17, 19, 21, 23, 25, 27, 28, 29, 30, 32, 34, 36, 40, 42, 44, 45] [] [5, 38, 46, 48] []) σ0 (r)) := by
  unfold fX10_moveOut_51
  exact zpc_bi (fv_fX10_waveAt h) (fun σ3 v4 hσ3 => fv_fX10_moveOut_55 hσ3)
theorem fv_fX10_moveOut {σ0 : zSt} {σ : zSt} {x1 : Int32} {x2 : Int32} (h : (zQ [3, 5, 7, 9, 10, 11, 12, 15, 17, 19, 21, 23, 25, 27, 28, 29, 30, 32, 34, 36, 40, 42, 44, 45] [] [5, 38, 46, 48] []) σ0 σ) : zpc (fX10_moveOut σ x1 x2) (fun r => (zQ [3, 5, 7, 9, 10, 11, 12, 15, 17, 19, 21, 23, 25, 27, 28, 29, 30, 32, 34, 36, 40, 42, 44, 45] [] [5, 38, 46, 48] []) σ0 (r)) := by
  unfold fX10_moveOut
  exact zpc_ck (zpc_if (fun _ => fv_fX10_moveOut_55 h) (fun _ => zpc_bi (fv_fX10_turnedPhase h) (fun σ5 v6 hσ5 => zpc_bi (fv_fX10_softness hσ5) (fun σ7 v8 hσ7 => zpc_bi (fv_fX10_part hσ7) (fun σ9 v10 hσ9 => zpc_if (fun _ => fv_fX10_moveOut_51 hσ9) (fun _ => fv_fX10_moveOut_51 hσ9))))))
theorem fv_fX10_moveOperator_99 {σ0 : zSt} {σ : zSt} {x1 : Int32} {x2 : Int32} (h : (zQ [3, 5, 7, 9, 10, 11, 12, 15, 17, 19, 21, 23, 25, 27, 28, 29, 30, 32, 34, 36, 40, 42, 44, 45] [] [5, 38, 46, 48] []) σ0 σ) : zpc (fX10_moveOperator_99 σ x1 x2) (fun r => (zQ [3, 5, 7, 9, 10, 11, 12, 15, 17, 19, 21, 23, 25, 27, 28, 29, 30, 32, 34, 36, 40, 42, 44, 45] [] [5, 38, 46, 48] []) σ0 (r)) := by
  unfold fX10_moveOperator_99
  exact zpc_bi (fv_fX10_part h) (fun σ1 v2 hσ1 => zpc_bu (fv_fX10_movePhase hσ1) (fun σ3 hσ3 => zpc_bu (fv_fX10_moveOut hσ3) (fun σ4 hσ4 => zpc_some hσ4)))
theorem fv_fX10_moveOperator_78 {σ0 : zSt} {σ : zSt} {x1 : Int32} {x2 : Int32} (h : (zQ [3, 5, 7, 9, 10, 11, 12, 15, 17, 19, 21, 23, 25, 27, 28, 29, 30, 32, 34, 36, 40, 42, 44, 45] [] [5, 38, 46, 48] []) σ0 σ) : zpc (fX10_moveOperator_78 σ x1 x2) (fun r => (zQ [3, 5, 7, 9, 10, 11, 12, 15, 17, 19, 21, 23, 25, 27, 28, 29, 30, 32, 34, 36, 40, 42, 44, 45] [] [5, 38, 46, 48] []) σ0 (r)) := by
  unfold fX10_moveOperator_78
  exact zpc_bu (fv_fX10_moveLevel h) (fun σ5 hσ5 => zpc_bi (fv_fX10_part hσ5) (fun σ6 v7 hσ6 => zpc_bu (fv_fX10_moveState hσ6) (fun σ8 hσ8 => fv_fX10_moveOperator_99 hσ8)))
theorem fv_fX10_moveOperator_53 {σ0 : zSt} {σ : zSt} {x1 : Int32} {x2 : Int32} (h : (zQ [3, 5, 7, 9, 10, 11, 12, 15, 17, 19, 21, 23, 25, 27, 28, 29, 30, 32, 34, 36, 40, 42, 44, 45] [] [5, 38, 46, 48] []) σ0 σ) : zpc (fX10_moveOperator_53 σ x1 x2) (fun r => (zQ [3, 5, 7, 9, 10, 11, 12, 15, 17, 19, 21, 23, 25, 27, 28, 29, 30, 32, 34, 36, 40, 42, 44, 45] [] [5, 38, 46, 48] []) σ0 (r)) := by
  unfold fX10_moveOperator_53
  exact zpc_ck (zpc_if (fun _ => zpc_ck (zpc_if (fun _ => fv_fX10_moveOperator_99 h) (fun _ => fv_fX10_moveOperator_78 h))) (fun _ => fv_fX10_moveOperator_78 h))
theorem fv_fX10_moveOperator_52 {σ0 : zSt} {σ : zSt} {x1 : Int32} {x2 : Int32} {s0 : Int32} {s1 : Int32} (h : (zQ [3, 5, 7, 9, 10, 11, 12, 15, 17, 19, 21, 23, 25, 27, 28, 29, 30, 32, 34, 36, 40, 42, 44, 45] [] [5, 38, 46, 48] []) σ0 σ) : zpc (fX10_moveOperator_52 σ x1 x2 s0 s1) (fun r => (zQ [3, 5, 7, 9, 10, 11, 12, 15, 17, 19, 21, 23, 25, 27, 28, 29, 30, 32, 34, 36, 40, 42, 44, 45] [] [5, 38, 46, 48] []) σ0 (r)) := by
  unfold fX10_moveOperator_52
  exact zpc_ck (zpc_bs (zQ.wi h rfl) (fun σ9 hσ9 => fv_fX10_moveOperator_53 hσ9))
theorem fv_fX10_moveOperator_13 {σ0 : zSt} {σ : zSt} {x1 : Int32} {x2 : Int32} {s0 : Int32} (h : (zQ [3, 5, 7, 9, 10, 11, 12, 15, 17, 19, 21, 23, 25, 27, 28, 29, 30, 32, 34, 36, 40, 42, 44, 45] [] [5, 38, 46, 48] []) σ0 σ) : zpc (fX10_moveOperator_13 σ x1 x2 s0) (fun r => (zQ [3, 5, 7, 9, 10, 11, 12, 15, 17, 19, 21, 23, 25, 27, 28, 29, 30, 32, 34, 36, 40, 42, 44, 45] [] [5, 38, 46, 48] []) σ0 (r)) := by
  unfold fX10_moveOperator_13
  exact zpc_ck (zpc_if (fun _ => fv_fX10_moveOperator_53 h) (fun _ => zpc_ck (zpc_bs (zQ.wi h rfl) (fun σ10 hσ10 => zpc_if (fun _ => fv_fX10_moveOperator_52 hσ10) (fun _ => fv_fX10_moveOperator_52 hσ10)))))
theorem fv_fX10_moveOperator {σ0 : zSt} {σ : zSt} {x1 : Int32} {x2 : Int32} (h : (zQ [3, 5, 7, 9, 10, 11, 12, 15, 17, 19, 21, 23, 25, 27, 28, 29, 30, 32, 34, 36, 40, 42, 44, 45] [] [5, 38, 46, 48] []) σ0 σ) : zpc (fX10_moveOperator σ x1 x2) (fun r => (zQ [3, 5, 7, 9, 10, 11, 12, 15, 17, 19, 21, 23, 25, 27, 28, 29, 30, 32, 34, 36, 40, 42, 44, 45] [] [5, 38, 46, 48] []) σ0 (r)) := by
  unfold fX10_moveOperator
  exact zpc_bi (fv_fX10_isOn h) (fun σ11 v12 hσ11 => zpc_if (fun _ => fv_fX10_moveOperator_13 hσ11) (fun _ => fv_fX10_moveOperator_13 hσ11))
theorem fv_fX10_makeNext_136 {σ0 : zSt} {k41 : zSt → Int32 → Int32 → Option (zSt)} (hk41 : ∀ (y0 : zSt) (y1 : Int32) (y2 : Int32), (zQ [3, 5, 7, 9, 10, 11, 12, 15, 17, 19, 21, 23, 25, 27, 28, 29, 30, 32, 34, 36, 40, 42, 44, 45] [] [5, 38, 46, 48] []) σ0 y0 → zpc (k41 y0 y1 y2) (fun r => (zQ [3, 5, 7, 9, 10, 11, 12, 15, 17, 19, 21, 23, 25, 27, 28, 29, 30, 32, 34, 36, 40, 42, 44, 45] [] [5, 38, 46, 48] []) σ0 (r))) {σ : zSt} {x2 : Int32} {s0 : Int32} {s1 : Int32} {s2 : Int32} (h : (zQ [3, 5, 7, 9, 10, 11, 12, 15, 17, 19, 21, 23, 25, 27, 28, 29, 30, 32, 34, 36, 40, 42, 44, 45] [] [5, 38, 46, 48] []) σ0 σ) : zpc (fX10_makeNext_136 k41 σ x2 s0 s1 s2) (fun r => (zQ [3, 5, 7, 9, 10, 11, 12, 15, 17, 19, 21, 23, 25, 27, 28, 29, 30, 32, 34, 36, 40, 42, 44, 45] [] [5, 38, 46, 48] []) σ0 (r)) := by
  unfold fX10_makeNext_136
  exact zpc_bv (fun v1 _ => zpc_bv (fun v2 _ => hk41 _ _ _ h))
theorem fv_fX10_makeNext_135 {σ0 : zSt} {k41 : zSt → Int32 → Int32 → Option (zSt)} (hk41 : ∀ (y0 : zSt) (y1 : Int32) (y2 : Int32), (zQ [3, 5, 7, 9, 10, 11, 12, 15, 17, 19, 21, 23, 25, 27, 28, 29, 30, 32, 34, 36, 40, 42, 44, 45] [] [5, 38, 46, 48] []) σ0 y0 → zpc (k41 y0 y1 y2) (fun r => (zQ [3, 5, 7, 9, 10, 11, 12, 15, 17, 19, 21, 23, 25, 27, 28, 29, 30, 32, 34, 36, 40, 42, 44, 45] [] [5, 38, 46, 48] []) σ0 (r))) {σ : zSt} {x2 : Int32} {s0 : Int32} {s1 : Int32} (h : (zQ [3, 5, 7, 9, 10, 11, 12, 15, 17, 19, 21, 23, 25, 27, 28, 29, 30, 32, 34, 36, 40, 42, 44, 45] [] [5, 38, 46, 48] []) σ0 σ) : zpc (fX10_makeNext_135 k41 σ x2 s0 s1) (fun r => (zQ [3, 5, 7, 9, 10, 11, 12, 15, 17, 19, 21, 23, 25, 27, 28, 29, 30, 32, 34, 36, 40, 42, 44, 45] [] [5, 38, 46, 48] []) σ0 (r)) := by
  unfold fX10_makeNext_135
  exact fv_fX10_makeNext_136 hk41 h
theorem fv_fX10_makeNext_101 {σ0 : zSt} {k41 : zSt → Int32 → Int32 → Option (zSt)} (hk41 : ∀ (y0 : zSt) (y1 : Int32) (y2 : Int32), (zQ [3, 5, 7, 9, 10, 11, 12, 15, 17, 19, 21, 23, 25, 27, 28, 29, 30, 32, 34, 36, 40, 42, 44, 45] [] [5, 38, 46, 48] []) σ0 y0 → zpc (k41 y0 y1 y2) (fun r => (zQ [3, 5, 7, 9, 10, 11, 12, 15, 17, 19, 21, 23, 25, 27, 28, 29, 30, 32, 34, 36, 40, 42, 44, 45] [] [5, 38, 46, 48] []) σ0 (r))) {σ : zSt} {x1 : Int32} {x2 : Int32} {x3 : Int32} {s0 : Int32} (h : (zQ [3, 5, 7, 9, 10, 11, 12, 15, 17, 19, 21, 23, 25, 27, 28, 29, 30, 32, 34, 36, 40, 42, 44, 45] [] [5, 38, 46, 48] []) σ0 σ) : zpc (fX10_makeNext_101 k41 σ x1 x2 x3 s0) (fun r => (zQ [3, 5, 7, 9, 10, 11, 12, 15, 17, 19, 21, 23, 25, 27, 28, 29, 30, 32, 34, 36, 40, 42, 44, 45] [] [5, 38, 46, 48] []) σ0 (r)) := by
  unfold fX10_makeNext_101
  exact zpc_ck (zpc_if (fun _ => fv_fX10_makeNext_135 hk41 h) (fun _ => zpc_if (fun _ => fv_fX10_makeNext_135 hk41 h) (fun _ => fv_fX10_makeNext_136 hk41 h)))
theorem fv_fX10_makeNext_100 {σ0 : zSt} {k41 : zSt → Int32 → Int32 → Option (zSt)} (hk41 : ∀ (y0 : zSt) (y1 : Int32) (y2 : Int32), (zQ [3, 5, 7, 9, 10, 11, 12, 15, 17, 19, 21, 23, 25, 27, 28, 29, 30, 32, 34, 36, 40, 42, 44, 45] [] [5, 38, 46, 48] []) σ0 y0 → zpc (k41 y0 y1 y2) (fun r => (zQ [3, 5, 7, 9, 10, 11, 12, 15, 17, 19, 21, 23, 25, 27, 28, 29, 30, 32, 34, 36, 40, 42, 44, 45] [] [5, 38, 46, 48] []) σ0 (r))) {σ : zSt} {x1 : Int32} {x2 : Int32} {x3 : Int32} (h : (zQ [3, 5, 7, 9, 10, 11, 12, 15, 17, 19, 21, 23, 25, 27, 28, 29, 30, 32, 34, 36, 40, 42, 44, 45] [] [5, 38, 46, 48] []) σ0 σ) : zpc (fX10_makeNext_100 k41 σ x1 x2 x3) (fun r => (zQ [3, 5, 7, 9, 10, 11, 12, 15, 17, 19, 21, 23, 25, 27, 28, 29, 30, 32, 34, 36, 40, 42, 44, 45] [] [5, 38, 46, 48] []) σ0 (r)) := by
  unfold fX10_makeNext_100
  exact fv_fX10_makeNext_101 hk41 h
theorem fv_fX10_makeNext_174 {σ0 : zSt} {σ : zSt} {x1 : Int32} {s0 : Int32} {s1 : Int32} (h : (zQ [3, 5, 7, 9, 10, 11, 12, 15, 17, 19, 21, 23, 25, 27, 28, 29, 30, 32, 34, 36, 40, 42, 44, 45] [] [5, 38, 46, 48] []) σ0 σ) : zpc (fX10_makeNext_174 σ x1 s0 s1) (fun r => (zQ [3, 5, 7, 9, 10, 11, 12, 15, 17, 19, 21, 23, 25, 27, 28, 29, 30, 32, 34, 36, 40, 42, 44, 45] [] [5, 38, 46, 48] []) σ0 (r)) := by
  unfold fX10_makeNext_174
  exact zpc_ck (zpc_bs (zQ.wi h rfl) (fun σ3 hσ3 => zpc_ck (zpc_bs (zQ.wi hσ3 rfl) (fun σ4 hσ4 => zpc_some hσ4))))
theorem fv_fX10_makeNext_41_body {σ0 : zSt} {k41 : zSt → Int32 → Int32 → Option (zSt)} (hk41 : ∀ (y0 : zSt) (y1 : Int32) (y2 : Int32), (zQ [3, 5, 7, 9, 10, 11, 12, 15, 17, 19, 21, 23, 25, 27, 28, 29, 30, 32, 34, 36, 40, 42, 44, 45] [] [5, 38, 46, 48] []) σ0 y0 → zpc (k41 y0 y1 y2) (fun r => (zQ [3, 5, 7, 9, 10, 11, 12, 15, 17, 19, 21, 23, 25, 27, 28, 29, 30, 32, 34, 36, 40, 42, 44, 45] [] [5, 38, 46, 48] []) σ0 (r))) {σ : zSt} {x1 : Int32} {x2 : Int32} (h : (zQ [3, 5, 7, 9, 10, 11, 12, 15, 17, 19, 21, 23, 25, 27, 28, 29, 30, 32, 34, 36, 40, 42, 44, 45] [] [5, 38, 46, 48] []) σ0 σ) : zpc (fX10_makeNext_41_body k41 σ x1 x2) (fun r => (zQ [3, 5, 7, 9, 10, 11, 12, 15, 17, 19, 21, 23, 25, 27, 28, 29, 30, 32, 34, 36, 40, 42, 44, 45] [] [5, 38, 46, 48] []) σ0 (r)) := by
  unfold fX10_makeNext_41_body
  exact zpc_if (fun _ => zpc_ck (zpc_bv (fun v5 _ => zpc_if (fun _ => fv_fX10_makeNext_174 h) (fun _ => fv_fX10_makeNext_174 h)))) (fun _ => zpc_bu (fv_fX10_takeChannel h) (fun σ6 hσ6 => zpc_bv (fun v7 _ => zpc_bu (fv_fX10_moveOperator hσ6) (fun σ8 hσ8 => zpc_bu (fv_fX10_moveOperator hσ8) (fun σ9 hσ9 => zpc_if (fun _ => fv_fX10_makeNext_100 hk41 hσ9) (fun _ => zpc_if (fun _ => fv_fX10_makeNext_100 hk41 hσ9) (fun _ => zpc_ck (fv_fX10_makeNext_101 hk41 hσ9))))))))
theorem fv_fX10_makeNext_41 {σ0 : zSt} : ∀ (n : Nat) (y0 : zSt) (y1 : Int32) (y2 : Int32), (zQ [3, 5, 7, 9, 10, 11, 12, 15, 17, 19, 21, 23, 25, 27, 28, 29, 30, 32, 34, 36, 40, 42, 44, 45] [] [5, 38, 46, 48] []) σ0 y0 → zpc (fX10_makeNext_41 n y0 y1 y2) (fun r => (zQ [3, 5, 7, 9, 10, 11, 12, 15, 17, 19, 21, 23, 25, 27, 28, 29, 30, 32, 34, 36, 40, 42, 44, 45] [] [5, 38, 46, 48] []) σ0 (r)) := by
  intro n
  induction n with
  | zero => intro y0 y1 y2 h; exact zpc_none
  | succ n ih => intro y0 y1 y2 h; exact fv_fX10_makeNext_41_body ih h
theorem fv_fX10_makeNext_30 {σ0 : zSt} {σ : zSt} {s0 : Int32} (h : (zQ [3, 5, 7, 9, 10, 11, 12, 15, 17, 19, 21, 23, 25, 27, 28, 29, 30, 32, 34, 36, 40, 42, 44, 45] [] [5, 38, 46, 48] []) σ0 σ) : zpc (fX10_makeNext_30 σ s0) (fun r => (zQ [3, 5, 7, 9, 10, 11, 12, 15, 17, 19, 21, 23, 25, 27, 28, 29, 30, 32, 34, 36, 40, 42, 44, 45] [] [5, 38, 46, 48] []) σ0 (r)) := by
  unfold fX10_makeNext_30
  exact zpc_ck (zpc_bs (zQ.wi h rfl) (fun σ10 hσ10 => zpc_bu (fv_fX10_takeOwnPatch hσ10) (fun σ11 hσ11 => fv_fX10_makeNext_41 _ _ _ _ hσ11)))
theorem fv_fX10_makeNext {σ0 : zSt} {σ : zSt} (h : (zQ [3, 5, 7, 9, 10, 11, 12, 15, 17, 19, 21, 23, 25, 27, 28, 29, 30, 32, 34, 36, 40, 42, 44, 45] [] [5, 38, 46, 48] []) σ0 σ) : zpc (fX10_makeNext σ) (fun r => (zQ [3, 5, 7, 9, 10, 11, 12, 15, 17, 19, 21, 23, 25, 27, 28, 29, 30, 32, 34, 36, 40, 42, 44, 45] [] [5, 38, 46, 48] []) σ0 (r)) := by
  unfold fX10_makeNext
  exact zpc_ck (zpc_ck (zpc_bs (zQ.wi h rfl) (fun σ12 hσ12 => zpc_ck (zpc_if (fun _ => fv_fX10_makeNext_30 hσ12) (fun _ => fv_fX10_makeNext_30 hσ12)))))
theorem fv_fX10_heard_24 {σ0 : zSt} {σ : zSt} {s0 : Int32} (h : (zQ [3, 5, 7, 9, 10, 11, 12, 15, 17, 19, 21, 23, 25, 27, 28, 29, 30, 32, 34, 36, 40, 42, 44, 45] [] [5, 38, 46, 48] []) σ0 σ) : zpc (fX10_heard_24 σ s0) (fun r => (zQ [3, 5, 7, 9, 10, 11, 12, 15, 17, 19, 21, 23, 25, 27, 28, 29, 30, 32, 34, 36, 40, 42, 44, 45] [] [5, 38, 46, 48] []) σ0 (r.1)) := by
  unfold fX10_heard_24
  exact zpc_some h
theorem fv_fX10_heard {σ0 : zSt} {σ : zSt} (h : (zQ [3, 5, 7, 9, 10, 11, 12, 15, 17, 19, 21, 23, 25, 27, 28, 29, 30, 32, 34, 36, 40, 42, 44, 45] [] [5, 38, 46, 48] []) σ0 σ) : zpc (fX10_heard σ) (fun r => (zQ [3, 5, 7, 9, 10, 11, 12, 15, 17, 19, 21, 23, 25, 27, 28, 29, 30, 32, 34, 36, 40, 42, 44, 45] [] [5, 38, 46, 48] []) σ0 (r.1)) := by
  unfold fX10_heard
  exact zpc_ck (zpc_if (fun _ => zpc_ck (fv_fX10_heard_24 h)) (fun _ => fv_fX10_heard_24 h))
theorem fv_fX6_add_k12_56 {σ0 : zSt} {σ : zSt} (h : (zQ [3, 5, 7, 9, 10, 11, 12, 15, 17, 19, 21, 23, 25, 27, 28, 29, 30, 32, 34, 36, 40, 42, 44, 45] [] [5, 38, 46, 48] []) σ0 σ) : zpc (fX6_add_k12_56 σ) (fun r => (zQ [3, 5, 7, 9, 10, 11, 12, 15, 17, 19, 21, 23, 25, 27, 28, 29, 30, 32, 34, 36, 40, 42, 44, 45] [] [5, 38, 46, 48] []) σ0 (r)) := by
  unfold fX6_add_k12_56
  exact zpc_some h
theorem fv_fX6_add_k12 {σ0 : zSt} {σ : zSt} {x1 : Int64} (h : (zQ [3, 5, 7, 9, 10, 11, 12, 15, 17, 19, 21, 23, 25, 27, 28, 29, 30, 32, 34, 36, 40, 42, 44, 45] [] [5, 38, 46, 48] []) σ0 σ) : zpc (fX6_add_k12 σ x1) (fun r => (zQ [3, 5, 7, 9, 10, 11, 12, 15, 17, 19, 21, 23, 25, 27, 28, 29, 30, 32, 34, 36, 40, 42, 44, 45] [] [5, 38, 46, 48] []) σ0 (r)) := by
  unfold fX6_add_k12
  exact zpc_ck (zpc_bs (zQ.wl h rfl) (fun σ1 hσ1 => zpc_if (fun _ => zpc_bs (zQ.wi hσ1 rfl) (fun σ2 hσ2 => fv_fX6_add_k12_56 hσ2)) (fun _ => zpc_bs (zQ.wi hσ1 rfl) (fun σ3 hσ3 => fv_fX6_add_k12_56 hσ3))))
theorem fv_fX0_addMix {σ0 : zSt} {σ : zSt} (h : (zQ [3, 5, 7, 9, 10, 11, 12, 15, 17, 19, 21, 23, 25, 27, 28, 29, 30, 32, 34, 36, 40, 42, 44, 45] [] [5, 38, 46, 48] []) σ0 σ) : zpc (fX0_addMix σ) (fun r => (zQ [3, 5, 7, 9, 10, 11, 12, 15, 17, 19, 21, 23, 25, 27, 28, 29, 30, 32, 34, 36, 40, 42, 44, 45] [] [5, 38, 46, 48] []) σ0 (r)) := by
  unfold fX0_addMix
  exact zpc_ck (zpc_bv (fun v1 _ => zpc_ck (zpc_ck (zpc_bi (fv_fX10_heard h) (fun σ2 v3 hσ2 => zpc_bv (fun v4 _ => zpc_ck (zpc_ck (zpc_bi (fv_fX10_heard hσ2) (fun σ5 v6 hσ5 => zpc_bv (fun v7 _ => zpc_bu (fv_fX6_add_k12 hσ5) (fun σ8 hσ8 => zpc_ck (zpc_bs (zQ.wl hσ8 rfl) (fun σ9 hσ9 => zpc_ck (zpc_bs (zQ.wl hσ9 rfl) (fun σ10 hσ10 => zpc_ck (zpc_bs (zQ.wl hσ10 rfl) (fun σ11 hσ11 => zpc_some hσ11)))))))))))))))))
theorem fv_fX0_pass_105_body {σ0 : zSt} {k105 : zSt → Int64 → Int64 → Option (zSt)} (hk105 : ∀ (y0 : zSt) (y1 : Int64) (y2 : Int64), (zQ [3, 5, 7, 9, 10, 11, 12, 15, 17, 19, 21, 23, 25, 27, 28, 29, 30, 32, 34, 36, 40, 42, 44, 45] [] [5, 38, 46, 48] []) σ0 y0 → zpc (k105 y0 y1 y2) (fun r => (zQ [3, 5, 7, 9, 10, 11, 12, 15, 17, 19, 21, 23, 25, 27, 28, 29, 30, 32, 34, 36, 40, 42, 44, 45] [] [5, 38, 46, 48] []) σ0 (r))) {σ : zSt} {x4 : Int64} {x6 : Int64} (h : (zQ [3, 5, 7, 9, 10, 11, 12, 15, 17, 19, 21, 23, 25, 27, 28, 29, 30, 32, 34, 36, 40, 42, 44, 45] [] [5, 38, 46, 48] []) σ0 σ) : zpc (fX0_pass_105_body k105 σ x4 x6) (fun r => (zQ [3, 5, 7, 9, 10, 11, 12, 15, 17, 19, 21, 23, 25, 27, 28, 29, 30, 32, 34, 36, 40, 42, 44, 45] [] [5, 38, 46, 48] []) σ0 (r)) := by
  unfold fX0_pass_105_body
  exact zpc_ck (zpc_if (fun _ => zpc_some h) (fun _ => zpc_bu (fv_fX0_addMix h) (fun σ1 hσ1 => zpc_bv (fun v2 _ => hk105 _ _ _ hσ1))))
theorem fv_fX0_pass_105 {σ0 : zSt} : ∀ (n : Nat) (y0 : zSt) (y1 : Int64) (y2 : Int64), (zQ [3, 5, 7, 9, 10, 11, 12, 15, 17, 19, 21, 23, 25, 27, 28, 29, 30, 32, 34, 36, 40, 42, 44, 45] [] [5, 38, 46, 48] []) σ0 y0 → zpc (fX0_pass_105 n y0 y1 y2) (fun r => (zQ [3, 5, 7, 9, 10, 11, 12, 15, 17, 19, 21, 23, 25, 27, 28, 29, 30, 32, 34, 36, 40, 42, 44, 45] [] [5, 38, 46, 48] []) σ0 (r)) := by
  intro n
  induction n with
  | zero => intro y0 y1 y2 h; exact zpc_none
  | succ n ih => intro y0 y1 y2 h; exact fv_fX0_pass_105_body ih h
theorem fv_fX0_pass_70_body {σ0 : zSt} {k70 : zSt → Int64 → Int64 → Int64 → Option (zSt)} (hk70 : ∀ (y0 : zSt) (y1 : Int64) (y2 : Int64) (y3 : Int64), (zQ [3, 5, 7, 9, 10, 11, 12, 15, 17, 19, 21, 23, 25, 27, 28, 29, 30, 32, 34, 36, 40, 42, 44, 45] [] [5, 38, 46, 48] []) σ0 y0 → zpc (k70 y0 y1 y2 y3) (fun r => (zQ [3, 5, 7, 9, 10, 11, 12, 15, 17, 19, 21, 23, 25, 27, 28, 29, 30, 32, 34, 36, 40, 42, 44, 45] [] [5, 38, 46, 48] []) σ0 (r))) {σ : zSt} {x2 : Int64} {x4 : Int64} {x6 : Int64} (h : (zQ [3, 5, 7, 9, 10, 11, 12, 15, 17, 19, 21, 23, 25, 27, 28, 29, 30, 32, 34, 36, 40, 42, 44, 45] [] [5, 38, 46, 48] []) σ0 σ) : zpc (fX0_pass_70_body k70 σ x2 x4 x6) (fun r => (zQ [3, 5, 7, 9, 10, 11, 12, 15, 17, 19, 21, 23, 25, 27, 28, 29, 30, 32, 34, 36, 40, 42, 44, 45] [] [5, 38, 46, 48] []) σ0 (r)) := by
  unfold fX0_pass_70_body
  exact zpc_ck (zpc_if (fun _ => zpc_ck (zpc_bv (fun v3 _ => fv_fX0_pass_105 _ _ _ _ h))) (fun _ => zpc_bu (fv_fX10_makeNext h) (fun σ4 hσ4 => zpc_bv (fun v5 _ => hk70 _ _ _ _ hσ4))))
theorem fv_fX0_pass_70 {σ0 : zSt} : ∀ (n : Nat) (y0 : zSt) (y1 : Int64) (y2 : Int64) (y3 : Int64), (zQ [3, 5, 7, 9, 10, 11, 12, 15, 17, 19, 21, 23, 25, 27, 28, 29, 30, 32, 34, 36, 40, 42, 44, 45] [] [5, 38, 46, 48] []) σ0 y0 → zpc (fX0_pass_70 n y0 y1 y2 y3) (fun r => (zQ [3, 5, 7, 9, 10, 11, 12, 15, 17, 19, 21, 23, 25, 27, 28, 29, 30, 32, 34, 36, 40, 42, 44, 45] [] [5, 38, 46, 48] []) σ0 (r)) := by
  intro n
  induction n with
  | zero => intro y0 y1 y2 y3 h; exact zpc_none
  | succ n ih => intro y0 y1 y2 y3 h; exact fv_fX0_pass_70_body ih h
theorem fv_fX0_pass_38_body {σ0 : zSt} {k38 : zSt → Int64 → Int64 → Int64 → Option (zSt)} (hk38 : ∀ (y0 : zSt) (y1 : Int64) (y2 : Int64) (y3 : Int64), (zQ [3, 5, 7, 9, 10, 11, 12, 15, 17, 19, 21, 23, 25, 27, 28, 29, 30, 32, 34, 36, 40, 42, 44, 45] [] [5, 38, 46, 48] []) σ0 y0 → zpc (k38 y0 y1 y2 y3) (fun r => (zQ [3, 5, 7, 9, 10, 11, 12, 15, 17, 19, 21, 23, 25, 27, 28, 29, 30, 32, 34, 36, 40, 42, 44, 45] [] [5, 38, 46, 48] []) σ0 (r))) {σ : zSt} {x2 : Int64} {x4 : Int64} {x6 : Int64} (h : (zQ [3, 5, 7, 9, 10, 11, 12, 15, 17, 19, 21, 23, 25, 27, 28, 29, 30, 32, 34, 36, 40, 42, 44, 45] [] [5, 38, 46, 48] []) σ0 σ) : zpc (fX0_pass_38_body k38 σ x2 x4 x6) (fun r => (zQ [3, 5, 7, 9, 10, 11, 12, 15, 17, 19, 21, 23, 25, 27, 28, 29, 30, 32, 34, 36, 40, 42, 44, 45] [] [5, 38, 46, 48] []) σ0 (r)) := by
  unfold fX0_pass_38_body
  exact zpc_ck (zpc_if (fun _ => zpc_ck (zpc_bv (fun v6 _ => fv_fX0_pass_70 _ _ _ _ _ h))) (fun _ => zpc_bu (fv_fX0_addSample h) (fun σ7 hσ7 => zpc_bv (fun v8 _ => hk38 _ _ _ _ hσ7))))
theorem fv_fX0_pass_38 {σ0 : zSt} : ∀ (n : Nat) (y0 : zSt) (y1 : Int64) (y2 : Int64) (y3 : Int64), (zQ [3, 5, 7, 9, 10, 11, 12, 15, 17, 19, 21, 23, 25, 27, 28, 29, 30, 32, 34, 36, 40, 42, 44, 45] [] [5, 38, 46, 48] []) σ0 y0 → zpc (fX0_pass_38 n y0 y1 y2 y3) (fun r => (zQ [3, 5, 7, 9, 10, 11, 12, 15, 17, 19, 21, 23, 25, 27, 28, 29, 30, 32, 34, 36, 40, 42, 44, 45] [] [5, 38, 46, 48] []) σ0 (r)) := by
  intro n
  induction n with
  | zero => intro y0 y1 y2 y3 h; exact zpc_none
  | succ n ih => intro y0 y1 y2 y3 h; exact fv_fX0_pass_38_body ih h
theorem fv_fX0_pass {σ0 : zSt} {σ : zSt} {x1 : Int32} (h : (zQ [3, 5, 7, 9, 10, 11, 12, 15, 17, 19, 21, 23, 25, 27, 28, 29, 30, 32, 34, 36, 40, 42, 44, 45] [] [5, 38, 46, 48] []) σ0 σ) : zpc (fX0_pass σ x1) (fun r => (zQ [3, 5, 7, 9, 10, 11, 12, 15, 17, 19, 21, 23, 25, 27, 28, 29, 30, 32, 34, 36, 40, 42, 44, 45] [] [5, 38, 46, 48] []) σ0 (r)) := by
  unfold fX0_pass
  exact zpc_ck (zpc_bv (fun v9 _ => zpc_bv (fun v10 _ => zpc_ck (zpc_bs (zQ.wl h rfl) (fun σ11 hσ11 => zpc_ck (zpc_ck (zpc_bs (zQ.wl hσ11 rfl) (fun σ12 hσ12 => zpc_ck (zpc_bv (fun v13 _ => fv_fX0_pass_38 _ _ _ _ _ hσ12))))))))))
theorem fv_fX1_noteStep {σ0 : zSt} {σ : zSt} {x1 : Int32} (h : (zQ [3, 5, 7, 9, 10, 11, 12, 15, 17, 19, 21, 23, 25, 27, 28, 29, 30, 32, 34, 36, 40, 42, 44, 45] [] [5, 38, 46, 48] []) σ0 σ) : zpc (fX1_noteStep σ x1) (fun r => (zQ [3, 5, 7, 9, 10, 11, 12, 15, 17, 19, 21, 23, 25, 27, 28, 29, 30, 32, 34, 36, 40, 42, 44, 45] [] [5, 38, 46, 48] []) σ0 (r)) := by
  unfold fX1_noteStep
  exact zpc_ck (zpc_bs (zQ.wi h rfl) (fun σ1 hσ1 => zpc_bs (zQ.wi hσ1 rfl) (fun σ2 hσ2 => zpc_some hσ2)))
theorem fv_fX1_stepBack_30 {σ0 : zSt} {σ : zSt} {s0 : Int32} (h : (zQ [3, 5, 7, 9, 10, 11, 12, 15, 17, 19, 21, 23, 25, 27, 28, 29, 30, 32, 34, 36, 40, 42, 44, 45] [] [5, 38, 46, 48] []) σ0 σ) : zpc (fX1_stepBack_30 σ s0) (fun r => (zQ [3, 5, 7, 9, 10, 11, 12, 15, 17, 19, 21, 23, 25, 27, 28, 29, 30, 32, 34, 36, 40, 42, 44, 45] [] [5, 38, 46, 48] []) σ0 (r.1)) := by
  unfold fX1_stepBack_30
  exact zpc_some h
theorem fv_fX1_stepBack_10 {σ0 : zSt} {σ : zSt} (h : (zQ [3, 5, 7, 9, 10, 11, 12, 15, 17, 19, 21, 23, 25, 27, 28, 29, 30, 32, 34, 36, 40, 42, 44, 45] [] [5, 38, 46, 48] []) σ0 σ) : zpc (fX1_stepBack_10 σ) (fun r => (zQ [3, 5, 7, 9, 10, 11, 12, 15, 17, 19, 21, 23, 25, 27, 28, 29, 30, 32, 34, 36, 40, 42, 44, 45] [] [5, 38, 46, 48] []) σ0 (r.1)) := by
  unfold fX1_stepBack_10
  exact fv_fX1_stepBack_30 h
theorem fv_fX1_stepBack {σ0 : zSt} {σ : zSt} {x1 : Int32} (h : (zQ [3, 5, 7, 9, 10, 11, 12, 15, 17, 19, 21, 23, 25, 27, 28, 29, 30, 32, 34, 36, 40, 42, 44, 45] [] [5, 38, 46, 48] []) σ0 σ) : zpc (fX1_stepBack σ x1) (fun r => (zQ [3, 5, 7, 9, 10, 11, 12, 15, 17, 19, 21, 23, 25, 27, 28, 29, 30, 32, 34, 36, 40, 42, 44, 45] [] [5, 38, 46, 48] []) σ0 (r.1)) := by
  unfold fX1_stepBack
  exact zpc_if (fun _ => fv_fX1_stepBack_10 h) (fun _ => zpc_if (fun _ => zpc_ck (fv_fX1_stepBack_30 h)) (fun _ => fv_fX1_stepBack_10 h))
theorem fv_fX1_stopCount {σ0 : zSt} {σ : zSt} (h : (zQ [3, 5, 7, 9, 10, 11, 12, 15, 17, 19, 21, 23, 25, 27, 28, 29, 30, 32, 34, 36, 40, 42, 44, 45] [] [5, 38, 46, 48] []) σ0 σ) : zpc (fX1_stopCount σ) (fun r => (zQ [3, 5, 7, 9, 10, 11, 12, 15, 17, 19, 21, 23, 25, 27, 28, 29, 30, 32, 34, 36, 40, 42, 44, 45] [] [5, 38, 46, 48] []) σ0 (r.1)) := by
  unfold fX1_stopCount
  exact zpc_ck (zpc_some h)
theorem fv_fX1_placeOfStop_37 {σ0 : zSt} {σ : zSt} (h : (zQ [3, 5, 7, 9, 10, 11, 12, 15, 17, 19, 21, 23, 25, 27, 28, 29, 30, 32, 34, 36, 40, 42, 44, 45] [] [5, 38, 46, 48] []) σ0 σ) : zpc (fX1_placeOfStop_37 σ) (fun r => (zQ [3, 5, 7, 9, 10, 11, 12, 15, 17, 19, 21, 23, 25, 27, 28, 29, 30, 32, 34, 36, 40, 42, 44, 45] [] [5, 38, 46, 48] []) σ0 (r.1)) := by
  unfold fX1_placeOfStop_37
  exact zpc_some h
theorem fv_fX1_placeOfStop_2_body {σ0 : zSt} {k2 : zSt → Int32 → Int32 → Option (zSt × Int32)} (hk2 : ∀ (y0 : zSt) (y1 : Int32) (y2 : Int32), (zQ [3, 5, 7, 9, 10, 11, 12, 15, 17, 19, 21, 23, 25, 27, 28, 29, 30, 32, 34, 36, 40, 42, 44, 45] [] [5, 38, 46, 48] []) σ0 y0 → zpc (k2 y0 y1 y2) (fun r => (zQ [3, 5, 7, 9, 10, 11, 12, 15, 17, 19, 21, 23, 25, 27, 28, 29, 30, 32, 34, 36, 40, 42, 44, 45] [] [5, 38, 46, 48] []) σ0 (r.1))) {σ : zSt} {x1 : Int32} {x2 : Int32} (h : (zQ [3, 5, 7, 9, 10, 11, 12, 15, 17, 19, 21, 23, 25, 27, 28, 29, 30, 32, 34, 36, 40, 42, 44, 45] [] [5, 38, 46, 48] []) σ0 σ) : zpc (fX1_placeOfStop_2_body k2 σ x1 x2) (fun r => (zQ [3, 5, 7, 9, 10, 11, 12, 15, 17, 19, 21, 23, 25, 27, 28, 29, 30, 32, 34, 36, 40, 42, 44, 45] [] [5, 38, 46, 48] []) σ0 (r.1)) := by
  unfold fX1_placeOfStop_2_body
  exact zpc_if (fun _ => fv_fX1_placeOfStop_37 h) (fun _ => zpc_ck (zpc_if (fun _ => fv_fX1_placeOfStop_37 h) (fun _ => zpc_ck (zpc_if (fun _ => zpc_some h) (fun _ => zpc_bv (fun v1 _ => hk2 _ _ _ h))))))
theorem fv_fX1_placeOfStop_2 {σ0 : zSt} : ∀ (n : Nat) (y0 : zSt) (y1 : Int32) (y2 : Int32), (zQ [3, 5, 7, 9, 10, 11, 12, 15, 17, 19, 21, 23, 25, 27, 28, 29, 30, 32, 34, 36, 40, 42, 44, 45] [] [5, 38, 46, 48] []) σ0 y0 → zpc (fX1_placeOfStop_2 n y0 y1 y2) (fun r => (zQ [3, 5, 7, 9, 10, 11, 12, 15, 17, 19, 21, 23, 25, 27, 28, 29, 30, 32, 34, 36, 40, 42, 44, 45] [] [5, 38, 46, 48] []) σ0 (r.1)) := by
  intro n
  induction n with
  | zero => intro y0 y1 y2 h; exact zpc_none
  | succ n ih => intro y0 y1 y2 h; exact fv_fX1_placeOfStop_2_body ih h
theorem fv_fX1_placeOfStop {σ0 : zSt} {σ : zSt} {x1 : Int32} (h : (zQ [3, 5, 7, 9, 10, 11, 12, 15, 17, 19, 21, 23, 25, 27, 28, 29, 30, 32, 34, 36, 40, 42, 44, 45] [] [5, 38, 46, 48] []) σ0 σ) : zpc (fX1_placeOfStop σ x1) (fun r => (zQ [3, 5, 7, 9, 10, 11, 12, 15, 17, 19, 21, 23, 25, 27, 28, 29, 30, 32, 34, 36, 40, 42, 44, 45] [] [5, 38, 46, 48] []) σ0 (r.1)) := by
  unfold fX1_placeOfStop
  exact fv_fX1_placeOfStop_2 _ _ _ _ h
theorem fv_fX1_isStop_13 {σ0 : zSt} {σ : zSt} {s0 : Int32} (h : (zQ [3, 5, 7, 9, 10, 11, 12, 15, 17, 19, 21, 23, 25, 27, 28, 29, 30, 32, 34, 36, 40, 42, 44, 45] [] [5, 38, 46, 48] []) σ0 σ) : zpc (fX1_isStop_13 σ s0) (fun r => (zQ [3, 5, 7, 9, 10, 11, 12, 15, 17, 19, 21, 23, 25, 27, 28, 29, 30, 32, 34, 36, 40, 42, 44, 45] [] [5, 38, 46, 48] []) σ0 (r.1)) := by
  unfold fX1_isStop_13
  exact zpc_ck (zpc_some h)
theorem fv_fX1_isStop {σ0 : zSt} {σ : zSt} {x1 : Int32} (h : (zQ [3, 5, 7, 9, 10, 11, 12, 15, 17, 19, 21, 23, 25, 27, 28, 29, 30, 32, 34, 36, 40, 42, 44, 45] [] [5, 38, 46, 48] []) σ0 σ) : zpc (fX1_isStop σ x1) (fun r => (zQ [3, 5, 7, 9, 10, 11, 12, 15, 17, 19, 21, 23, 25, 27, 28, 29, 30, 32, 34, 36, 40, 42, 44, 45] [] [5, 38, 46, 48] []) σ0 (r.1)) := by
  unfold fX1_isStop
  exact zpc_bi (fv_fX1_placeOfStop h) (fun σ1 v2 hσ1 => zpc_if (fun _ => fv_fX1_isStop_13 hσ1) (fun _ => fv_fX1_isStop_13 hσ1))
theorem fv_fX1_stopsBeside_20 {σ0 : zSt} {σ : zSt} {s0 : Int32} {s1 : Int32} (h : (zQ [3, 5, 7, 9, 10, 11, 12, 15, 17, 19, 21, 23, 25, 27, 28, 29, 30, 32, 34, 36, 40, 42, 44, 45] [] [5, 38, 46, 48] []) σ0 σ) : zpc (fX1_stopsBeside_20 σ s0 s1) (fun r => (zQ [3, 5, 7, 9, 10, 11, 12, 15, 17, 19, 21, 23, 25, 27, 28, 29, 30, 32, 34, 36, 40, 42, 44, 45] [] [5, 38, 46, 48] []) σ0 (r.1)) := by
  unfold fX1_stopsBeside_20
  exact zpc_some h
theorem fv_fX1_stopsBeside {σ0 : zSt} {σ : zSt} {x1 : Int32} (h : (zQ [3, 5, 7, 9, 10, 11, 12, 15, 17, 19, 21, 23, 25, 27, 28, 29, 30, 32, 34, 36, 40, 42, 44, 45] [] [5, 38, 46, 48] []) σ0 σ) : zpc (fX1_stopsBeside σ x1) (fun r => (zQ [3, 5, 7, 9, 10, 11, 12, 15, 17, 19, 21, 23, 25, 27, 28, 29, 30, 32, 34, 36, 40, 42, 44, 45] [] [5, 38, 46, 48] []) σ0 (r.1)) := by
  unfold fX1_stopsBeside
  exact zpc_ck (zpc_bi (fv_fX1_isStop h) (fun σ1 v2 hσ1 => zpc_if (fun _ => fv_fX1_stopsBeside_20 hσ1) (fun _ => fv_fX1_stopsBeside_20 hσ1)))
theorem fv_fX1_changeStop_87 {σ0 : zSt} {σ : zSt} (h : (zQ [3, 5, 7, 9, 10, 11, 12, 15, 17, 19, 21, 23, 25, 27, 28, 29, 30, 32, 34, 36, 40, 42, 44, 45] [] [5, 38, 46, 48] []) σ0 σ) : zpc (fX1_changeStop_87 σ) (fun r => (zQ [3, 5, 7, 9, 10, 11, 12, 15, 17, 19, 21, 23, 25, 27, 28, 29, 30, 32, 34, 36, 40, 42, 44, 45] [] [5, 38, 46, 48] []) σ0 (r.1)) := by
  unfold fX1_changeStop_87
  exact zpc_ck (zpc_some h)
theorem fv_fX1_changeStop_50 {σ0 : zSt} {σ : zSt} {x2 : Int32} {x3 : Int32} {x4 : Int32} (h : (zQ [3, 5, 7, 9, 10, 11, 12, 15, 17, 19, 21, 23, 25, 27, 28, 29, 30, 32, 34, 36, 40, 42, 44, 45] [] [5, 38, 46, 48] []) σ0 σ) : zpc (fX1_changeStop_50 σ x2 x3 x4) (fun r => (zQ [3, 5, 7, 9, 10, 11, 12, 15, 17, 19, 21, 23, 25, 27, 28, 29, 30, 32, 34, 36, 40, 42, 44, 45] [] [5, 38, 46, 48] []) σ0 (r.1)) := by
  unfold fX1_changeStop_50
  exact zpc_if (fun _ => zpc_if (fun _ => fv_fX1_changeStop_87 h) (fun _ => zpc_ck (zpc_ck (zpc_bs (zQ.wi h rfl) (fun σ1 hσ1 => zpc_ck (zpc_bs (zQ.wi hσ1 rfl) (fun σ2 hσ2 => fv_fX1_changeStop_87 hσ2))))))) (fun _ => fv_fX1_changeStop_87 h)
theorem fv_fX1_changeStop {σ0 : zSt} {σ : zSt} {x1 : Int32} {x2 : Int32} (h : (zQ [3, 5, 7, 9, 10, 11, 12, 15, 17, 19, 21, 23, 25, 27, 28, 29, 30, 32, 34, 36, 40, 42, 44, 45] [] [5, 38, 46, 48] []) σ0 σ) : zpc (fX1_changeStop σ x1 x2) (fun r => (zQ [3, 5, 7, 9, 10, 11, 12, 15, 17, 19, 21, 23, 25, 27, 28, 29, 30, 32, 34, 36, 40, 42, 44, 45] [] [5, 38, 46, 48] []) σ0 (r.1)) := by
  unfold fX1_changeStop
  exact zpc_ck (zpc_bv (fun v3 _ => zpc_bi (fv_fX1_placeOfStop h) (fun σ4 v5 hσ4 => zpc_if (fun _ => fv_fX1_changeStop_50 hσ4) (fun _ => zpc_if (fun _ => fv_fX1_changeStop_50 hσ4) (fun _ => zpc_if (fun _ => fv_fX1_changeStop_50 hσ4) (fun _ => zpc_ck (zpc_bs (zQ.wi hσ4 rfl) (fun σ6 hσ6 => zpc_ck (zpc_bs (zQ.wi hσ6 rfl) (fun σ7 hσ7 => fv_fX1_changeStop_87 hσ7))))))))))
theorem fv_fX1_plansWaiting {σ0 : zSt} {σ : zSt} (h : (zQ [3, 5, 7, 9, 10, 11, 12, 15, 17, 19, 21, 23, 25, 27, 28, 29, 30, 32, 34, 36, 40, 42, 44, 45] [] [5, 38, 46, 48] []) σ0 σ) : zpc (fX1_plansWaiting σ) (fun r => (zQ [3, 5, 7, 9, 10, 11, 12, 15, 17, 19, 21, 23, 25, 27, 28, 29, 30, 32, 34, 36, 40, 42, 44, 45] [] [5, 38, 46, 48] []) σ0 (r.1)) := by
  unfold fX1_plansWaiting
  exact zpc_ck (zpc_some h)
theorem fv_fX1_placeOfPlan {σ0 : zSt} {σ : zSt} {x1 : Int32} (h : (zQ [3, 5, 7, 9, 10, 11, 12, 15, 17, 19, 21, 23, 25, 27, 28, 29, 30, 32, 34, 36, 40, 42, 44, 45] [] [5, 38, 46, 48] []) σ0 σ) : zpc (fX1_placeOfPlan σ x1) (fun r => (zQ [3, 5, 7, 9, 10, 11, 12, 15, 17, 19, 21, 23, 25, 27, 28, 29, 30, 32, 34, 36, 40, 42, 44, 45] [] [5, 38, 46, 48] []) σ0 (r.1)) := by
  unfold fX1_placeOfPlan
  exact zpc_ck (zpc_some h)
theorem fv_fX1_leastPlan_34 {σ0 : zSt} {σ : zSt} {s0 : Int32} (h : (zQ [3, 5, 7, 9, 10, 11, 12, 15, 17, 19, 21, 23, 25, 27, 28, 29, 30, 32, 34, 36, 40, 42, 44, 45] [] [5, 38, 46, 48] []) σ0 σ) : zpc (fX1_leastPlan_34 σ s0) (fun r => (zQ [3, 5, 7, 9, 10, 11, 12, 15, 17, 19, 21, 23, 25, 27, 28, 29, 30, 32, 34, 36, 40, 42, 44, 45] [] [5, 38, 46, 48] []) σ0 (r.1)) := by
  unfold fX1_leastPlan_34
  exact zpc_some h
theorem fv_fX1_leastPlan {σ0 : zSt} {σ : zSt} (h : (zQ [3, 5, 7, 9, 10, 11, 12, 15, 17, 19, 21, 23, 25, 27, 28, 29, 30, 32, 34, 36, 40, 42, 44, 45] [] [5, 38, 46, 48] []) σ0 σ) : zpc (fX1_leastPlan σ) (fun r => (zQ [3, 5, 7, 9, 10, 11, 12, 15, 17, 19, 21, 23, 25, 27, 28, 29, 30, 32, 34, 36, 40, 42, 44, 45] [] [5, 38, 46, 48] []) σ0 (r.1)) := by
  unfold fX1_leastPlan
  exact zpc_ck (zpc_if (fun _ => fv_fX1_leastPlan_34 h) (fun _ => zpc_ck (zpc_bi (fv_fX1_placeOfPlan h) (fun σ1 v2 hσ1 => zpc_ck (fv_fX1_leastPlan_34 hσ1)))))
theorem fv_fX1_addPlan {σ0 : zSt} {σ : zSt} {x1 : Int32} {x2 : Int32} {x3 : Int32} (h : (zQ [3, 5, 7, 9, 10, 11, 12, 15, 17, 19, 21, 23, 25, 27, 28, 29, 30, 32, 34, 36, 40, 42, 44, 45] [] [5, 38, 46, 48] []) σ0 σ) : zpc (fX1_addPlan σ x1 x2 x3) (fun r => (zQ [3, 5, 7, 9, 10, 11, 12, 15, 17, 19, 21, 23, 25, 27, 28, 29, 30, 32, 34, 36, 40, 42, 44, 45] [] [5, 38, 46, 48] []) σ0 (r.1)) := by
  unfold fX1_addPlan
  exact zpc_ck (zpc_bi (fv_fX1_placeOfPlan h) (fun σ1 v2 hσ1 => zpc_ck (zpc_bs (zQ.wi hσ1 rfl) (fun σ3 hσ3 => zpc_ck (zpc_bs (zQ.wi hσ3 rfl) (fun σ4 hσ4 => zpc_ck (zpc_bs (zQ.wi hσ4 rfl) (fun σ5 hσ5 => zpc_ck (zpc_ck (zpc_bs (zQ.wi hσ5 rfl) (fun σ6 hσ6 => zpc_ck (zpc_some hσ6))))))))))))
theorem fv_fX4_holdButtons {σ0 : zSt} {σ : zSt} {x1 : Int32} {x2 : Int32} (h : (zQ [3, 5, 7, 9, 10, 11, 12, 15, 17, 19, 21, 23, 25, 27, 28, 29, 30, 32, 34, 36, 40, 42, 44, 45] [] [5, 38, 46, 48] []) σ0 σ) : zpc (fX4_holdButtons σ x1 x2) (fun r => (zQ [3, 5, 7, 9, 10, 11, 12, 15, 17, 19, 21, 23, 25, 27, 28, 29, 30, 32, 34, 36, 40, 42, 44, 45] [] [5, 38, 46, 48] []) σ0 (r)) := by
  unfold fX4_holdButtons
  exact zpc_ck (zpc_bs (zQ.wi h rfl) (fun σ1 hσ1 => zpc_some hσ1))
theorem fv_fX1_carryOutPlans_107 {σ0 : zSt} {σ : zSt} (h : (zQ [3, 5, 7, 9, 10, 11, 12, 15, 17, 19, 21, 23, 25, 27, 28, 29, 30, 32, 34, 36, 40, 42, 44, 45] [] [5, 38, 46, 48] []) σ0 σ) : zpc (fX1_carryOutPlans_107 σ) (fun r => (zQ [3, 5, 7, 9, 10, 11, 12, 15, 17, 19, 21, 23, 25, 27, 28, 29, 30, 32, 34, 36, 40, 42, 44, 45] [] [5, 38, 46, 48] []) σ0 (r)) := by
  unfold fX1_carryOutPlans_107
  exact zpc_some h
theorem fv_fX1_carryOutPlans_3_body {σ0 : zSt} {k3 : zSt → Int64 → Int32 → Option (zSt)} (hk3 : ∀ (y0 : zSt) (y1 : Int64) (y2 : Int32), (zQ [3, 5, 7, 9, 10, 11, 12, 15, 17, 19, 21, 23, 25, 27, 28, 29, 30, 32, 34, 36, 40, 42, 44, 45] [] [5, 38, 46, 48] []) σ0 y0 → zpc (k3 y0 y1 y2) (fun r => (zQ [3, 5, 7, 9, 10, 11, 12, 15, 17, 19, 21, 23, 25, 27, 28, 29, 30, 32, 34, 36, 40, 42, 44, 45] [] [5, 38, 46, 48] []) σ0 (r))) {σ : zSt} {x1 : Int64} {x4 : Int32} (h : (zQ [3, 5, 7, 9, 10, 11, 12, 15, 17, 19, 21, 23, 25, 27, 28, 29, 30, 32, 34, 36, 40, 42, 44, 45] [] [5, 38, 46, 48] []) σ0 σ) : zpc (fX1_carryOutPlans_3_body k3 σ x1 x4) (fun r => (zQ [3, 5, 7, 9, 10, 11, 12, 15, 17, 19, 21, 23, 25, 27, 28, 29, 30, 32, 34, 36, 40, 42, 44, 45] [] [5, 38, 46, 48] []) σ0 (r)) := by
  unfold fX1_carryOutPlans_3_body
  exact zpc_if (fun _ => fv_fX1_carryOutPlans_107 h) (fun _ => zpc_ck (zpc_if (fun _ => fv_fX1_carryOutPlans_107 h) (fun _ => zpc_bi (fv_fX1_placeOfPlan h) (fun σ1 v2 hσ1 => zpc_ck (zpc_if (fun _ => zpc_ck (zpc_ck (zpc_bu (fv_fX4_holdButtons hσ1) (fun σ3 hσ3 => zpc_ck (zpc_ck (zpc_bs (zQ.wi hσ3 rfl) (fun σ4 hσ4 => zpc_ck (zpc_ck (zpc_bs (zQ.wi hσ4 rfl) (fun σ5 hσ5 => zpc_bv (fun v6 _ => hk3 _ _ _ hσ5))))))))))) (fun _ => fv_fX1_carryOutPlans_107 hσ1))))))
theorem fv_fX1_carryOutPlans_3 {σ0 : zSt} : ∀ (n : Nat) (y0 : zSt) (y1 : Int64) (y2 : Int32), (zQ [3, 5, 7, 9, 10, 11, 12, 15, 17, 19, 21, 23, 25, 27, 28, 29, 30, 32, 34, 36, 40, 42, 44, 45] [] [5, 38, 46, 48] []) σ0 y0 → zpc (fX1_carryOutPlans_3 n y0 y1 y2) (fun r => (zQ [3, 5, 7, 9, 10, 11, 12, 15, 17, 19, 21, 23, 25, 27, 28, 29, 30, 32, 34, 36, 40, 42, 44, 45] [] [5, 38, 46, 48] []) σ0 (r)) := by
  intro n
  induction n with
  | zero => intro y0 y1 y2 h; exact zpc_none
  | succ n ih => intro y0 y1 y2 h; exact fv_fX1_carryOutPlans_3_body ih h
theorem fv_fX1_carryOutPlans {σ0 : zSt} {σ : zSt} {x1 : Int64} (h : (zQ [3, 5, 7, 9, 10, 11, 12, 15, 17, 19, 21, 23, 25, 27, 28, 29, 30, 32, 34, 36, 40, 42, 44, 45] [] [5, 38, 46, 48] []) σ0 σ) : zpc (fX1_carryOutPlans σ x1) (fun r => (zQ [3, 5, 7, 9, 10, 11, 12, 15, 17, 19, 21, 23, 25, 27, 28, 29, 30, 32, 34, 36, 40, 42, 44, 45] [] [5, 38, 46, 48] []) σ0 (r)) := by
  unfold fX1_carryOutPlans
  exact fv_fX1_carryOutPlans_3 _ _ _ _ h
theorem fv_fX2_romByte_29 {σ0 : zSt} {σ : zSt} {s0 : Int32} (h : (zQ [3, 5, 7, 9, 10, 11, 12, 15, 17, 19, 21, 23, 25, 27, 28, 29, 30, 32, 34, 36, 40, 42, 44, 45] [] [5, 38, 46, 48] []) σ0 σ) : zpc (fX2_romByte_29 σ s0) (fun r => (zQ [3, 5, 7, 9, 10, 11, 12, 15, 17, 19, 21, 23, 25, 27, 28, 29, 30, 32, 34, 36, 40, 42, 44, 45] [] [5, 38, 46, 48] []) σ0 (r.1)) := by
  unfold fX2_romByte_29
  exact zpc_some h
theorem fv_fX2_romByte_26 {σ0 : zSt} {σ : zSt} (h : (zQ [3, 5, 7, 9, 10, 11, 12, 15, 17, 19, 21, 23, 25, 27, 28, 29, 30, 32, 34, 36, 40, 42, 44, 45] [] [5, 38, 46, 48] []) σ0 σ) : zpc (fX2_romByte_26 σ) (fun r => (zQ [3, 5, 7, 9, 10, 11, 12, 15, 17, 19, 21, 23, 25, 27, 28, 29, 30, 32, 34, 36, 40, 42, 44, 45] [] [5, 38, 46, 48] []) σ0 (r.1)) := by
  unfold fX2_romByte_26
  exact fv_fX2_romByte_29 h
theorem fv_fX2_romByte {σ0 : zSt} {σ : zSt} {x1 : Int32} (h : (zQ [3, 5, 7, 9, 10, 11, 12, 15, 17, 19, 21, 23, 25, 27, 28, 29, 30, 32, 34, 36, 40, 42, 44, 45] [] [5, 38, 46, 48] []) σ0 σ) : zpc (fX2_romByte σ x1) (fun r => (zQ [3, 5, 7, 9, 10, 11, 12, 15, 17, 19, 21, 23, 25, 27, 28, 29, 30, 32, 34, 36, 40, 42, 44, 45] [] [5, 38, 46, 48] []) σ0 (r.1)) := by
  unfold fX2_romByte
  exact zpc_if (fun _ => fv_fX2_romByte_26 h) (fun _ => zpc_if (fun _ => fv_fX2_romByte_26 h) (fun _ => zpc_ck (fv_fX2_romByte_29 h)))
theorem fv_fX2_romWord {σ0 : zSt} {σ : zSt} {x1 : Int32} (h : (zQ [3, 5, 7, 9, 10, 11, 12, 15, 17, 19, 21, 23, 25, 27, 28, 29, 30, 32, 34, 36, 40, 42, 44, 45] [] [5, 38, 46, 48] []) σ0 σ) : zpc (fX2_romWord σ x1) (fun r => (zQ [3, 5, 7, 9, 10, 11, 12, 15, 17, 19, 21, 23, 25, 27, 28, 29, 30, 32, 34, 36, 40, 42, 44, 45] [] [5, 38, 46, 48] []) σ0 (r.1)) := by
  unfold fX2_romWord
  exact zpc_bi (fv_fX2_romByte h) (fun σ1 v2 hσ1 => zpc_bi (fv_fX2_romByte hσ1) (fun σ3 v4 hσ3 => zpc_some hσ3))
theorem fv_fX2_sumOfCard_77 {σ0 : zSt} {σ : zSt} {x2 : Int32} (h : (zQ [3, 5, 7, 9, 10, 11, 12, 15, 17, 19, 21, 23, 25, 27, 28, 29, 30, 32, 34, 36, 40, 42, 44, 45] [] [5, 38, 46, 48] []) σ0 σ) : zpc (fX2_sumOfCard_77 σ x2) (fun r => (zQ [3, 5, 7, 9, 10, 11, 12, 15, 17, 19, 21, 23, 25, 27, 28, 29, 30, 32, 34, 36, 40, 42, 44, 45] [] [5, 38, 46, 48] []) σ0 (r.1)) := by
  unfold fX2_sumOfCard_77
  exact zpc_some h
theorem fv_fX2_sumOfCard_55_body {σ0 : zSt} {k55 : zSt → Int32 → Int32 → Option (zSt × Int32)} (hk55 : ∀ (y0 : zSt) (y1 : Int32) (y2 : Int32), (zQ [3, 5, 7, 9, 10, 11, 12, 15, 17, 19, 21, 23, 25, 27, 28, 29, 30, 32, 34, 36, 40, 42, 44, 45] [] [5, 38, 46, 48] []) σ0 y0 → zpc (k55 y0 y1 y2) (fun r => (zQ [3, 5, 7, 9, 10, 11, 12, 15, 17, 19, 21, 23, 25, 27, 28, 29, 30, 32, 34, 36, 40, 42, 44, 45] [] [5, 38, 46, 48] []) σ0 (r.1))) {σ : zSt} {x2 : Int32} {x3 : Int32} (h : (zQ [3, 5, 7, 9, 10, 11, 12, 15, 17, 19, 21, 23, 25, 27, 28, 29, 30, 32, 34, 36, 40, 42, 44, 45] [] [5, 38, 46, 48] []) σ0 σ) : zpc (fX2_sumOfCard_55_body k55 σ x2 x3) (fun r => (zQ [3, 5, 7, 9, 10, 11, 12, 15, 17, 19, 21, 23, 25, 27, 28, 29, 30, 32, 34, 36, 40, 42, 44, 45] [] [5, 38, 46, 48] []) σ0 (r.1)) := by
  unfold fX2_sumOfCard_55_body
  exact zpc_if (fun _ => fv_fX2_sumOfCard_77 h) (fun _ => zpc_bi (fv_fX2_romByte h) (fun σ1 v2 hσ1 => zpc_bv (fun v3 _ => zpc_bv (fun v4 _ => hk55 _ _ _ hσ1))))
theorem fv_fX2_sumOfCard_55 {σ0 : zSt} : ∀ (n : Nat) (y0 : zSt) (y1 : Int32) (y2 : Int32), (zQ [3, 5, 7, 9, 10, 11, 12, 15, 17, 19, 21, 23, 25, 27, 28, 29, 30, 32, 34, 36, 40, 42, 44, 45] [] [5, 38, 46, 48] []) σ0 y0 → zpc (fX2_sumOfCard_55 n y0 y1 y2) (fun r => (zQ [3, 5, 7, 9, 10, 11, 12, 15, 17, 19, 21, 23, 25, 27, 28, 29, 30, 32, 34, 36, 40, 42, 44, 45] [] [5, 38, 46, 48] []) σ0 (r.1)) := by
  intro n
  induction n with
  | zero => intro y0 y1 y2 h; exact zpc_none
  | succ n ih => intro y0 y1 y2 h; exact fv_fX2_sumOfCard_55_body ih h
theorem fv_fX2_sumOfCard_52 {σ0 : zSt} {σ : zSt} {x2 : Int32} (h : (zQ [3, 5, 7, 9, 10, 11, 12, 15, 17, 19, 21, 23, 25, 27, 28, 29, 30, 32, 34, 36, 40, 42, 44, 45] [] [5, 38, 46, 48] []) σ0 σ) : zpc (fX2_sumOfCard_52 σ x2) (fun r => (zQ [3, 5, 7, 9, 10, 11, 12, 15, 17, 19, 21, 23, 25, 27, 28, 29, 30, 32, 34, 36, 40, 42, 44, 45] [] [5, 38, 46, 48] []) σ0 (r.1)) := by
  unfold fX2_sumOfCard_52
  exact fv_fX2_sumOfCard_55 _ _ _ _ h
theorem fv_fX2_sumOfCard_19_body {σ0 : zSt} {k19 : zSt → Int32 → Int32 → Int32 → Option (zSt × Int32)} (hk19 : ∀ (y0 : zSt) (y1 : Int32) (y2 : Int32) (y3 : Int32), (zQ [3, 5, 7, 9, 10, 11, 12, 15, 17, 19, 21, 23, 25, 27, 28, 29, 30, 32, 34, 36, 40, 42, 44, 45] [] [5, 38, 46, 48] []) σ0 y0 → zpc (k19 y0 y1 y2 y3) (fun r => (zQ [3, 5, 7, 9, 10, 11, 12, 15, 17, 19, 21, 23, 25, 27, 28, 29, 30, 32, 34, 36, 40, 42, 44, 45] [] [5, 38, 46, 48] []) σ0 (r.1))) {σ : zSt} {x1 : Int32} {x2 : Int32} {x3 : Int32} (h : (zQ [3, 5, 7, 9, 10, 11, 12, 15, 17, 19, 21, 23, 25, 27, 28, 29, 30, 32, 34, 36, 40, 42, 44, 45] [] [5, 38, 46, 48] []) σ0 σ) : zpc (fX2_sumOfCard_19_body k19 σ x1 x2 x3) (fun r => (zQ [3, 5, 7, 9, 10, 11, 12, 15, 17, 19, 21, 23, 25, 27, 28, 29, 30, 32, 34, 36, 40, 42, 44, 45] [] [5, 38, 46, 48] []) σ0 (r.1)) := by
  unfold fX2_sumOfCard_19_body
  exact zpc_if (fun _ => zpc_if (fun _ => fv_fX2_sumOfCard_52 h) (fun _ => zpc_if (fun _ => fv_fX2_sumOfCard_77 h) (fun _ => fv_fX2_sumOfCard_52 h))) (fun _ => zpc_bi (fv_fX2_romByte h) (fun σ5 v6 hσ5 => zpc_bv (fun v7 _ => zpc_bv (fun v8 _ => hk19 _ _ _ _ hσ5))))
theorem fv_fX2_sumOfCard_19 {σ0 : zSt} : ∀ (n : Nat) (y0 : zSt) (y1 : Int32) (y2 : Int32) (y3 : Int32), (zQ [3, 5, 7, 9, 10, 11, 12, 15, 17, 19, 21, 23, 25, 27, 28, 29, 30, 32, 34, 36, 40, 42, 44, 45] [] [5, 38, 46, 48] []) σ0 y0 → zpc (fX2_sumOfCard_19 n y0 y1 y2 y3) (fun r => (zQ [3, 5, 7, 9, 10, 11, 12, 15, 17, 19, 21, 23, 25, 27, 28, 29, 30, 32, 34, 36, 40, 42, 44, 45] [] [5, 38, 46, 48] []) σ0 (r.1)) := by
  intro n
  induction n with
  | zero => intro y0 y1 y2 y3 h; exact zpc_none
  | succ n ih => intro y0 y1 y2 y3 h; exact fv_fX2_sumOfCard_19_body ih h
theorem fv_fX2_sumOfCard {σ0 : zSt} {σ : zSt} (h : (zQ [3, 5, 7, 9, 10, 11, 12, 15, 17, 19, 21, 23, 25, 27, 28, 29, 30, 32, 34, 36, 40, 42, 44, 45] [] [5, 38, 46, 48] []) σ0 σ) : zpc (fX2_sumOfCard σ) (fun r => (zQ [3, 5, 7, 9, 10, 11, 12, 15, 17, 19, 21, 23, 25, 27, 28, 29, 30, 32, 34, 36, 40, 42, 44, 45] [] [5, 38, 46, 48] []) σ0 (r.1)) := by
  unfold fX2_sumOfCard
  exact zpc_bi (fv_fX2_romByte h) (fun σ9 v10 hσ9 => zpc_bv (fun v11 _ => fv_fX2_sumOfCard_19 _ _ _ _ _ hσ9))
theorem fv_fX2_decimal {σ0 : zSt} {σ : zSt} {x1 : Int32} (h : (zQ [3, 5, 7, 9, 10, 11, 12, 15, 17, 19, 21, 23, 25, 27, 28, 29, 30, 32, 34, 36, 40, 42, 44, 45] [] [5, 38, 46, 48] []) σ0 σ) : zpc (fX2_decimal σ x1) (fun r => (zQ [3, 5, 7, 9, 10, 11, 12, 15, 17, 19, 21, 23, 25, 27, 28, 29, 30, 32, 34, 36, 40, 42, 44, 45] [] [5, 38, 46, 48] []) σ0 (r.1)) := by
  unfold fX2_decimal
  exact zpc_bi (fv_fX2_romByte h) (fun σ1 v2 hσ1 => zpc_some hσ1)
theorem fv_fX2_aboutCard_14 {σ0 : zSt} {σ : zSt} {x1 : Int32} (h : (zQ [3, 5, 7, 9, 10, 11, 12, 15, 17, 19, 21, 23, 25, 27, 28, 29, 30, 32, 34, 36, 40, 42, 44, 45] [] [5, 38, 46, 48] []) σ0 σ) : zpc (fX2_aboutCard_14 σ x1) (fun r => (zQ [3, 5, 7, 9, 10, 11, 12, 15, 17, 19, 21, 23, 25, 27, 28, 29, 30, 32, 34, 36, 40, 42, 44, 45] [] [5, 38, 46, 48] []) σ0 (r.1)) := by
  unfold fX2_aboutCard_14
  exact zpc_if (fun _ => zpc_some h) (fun _ => zpc_if (fun _ => zpc_some h) (fun _ => zpc_if (fun _ => zpc_some h) (fun _ => zpc_if (fun _ => zpc_bi (fv_fX2_decimal h) (fun σ1 v2 hσ1 => zpc_bi (fv_fX2_decimal hσ1) (fun σ3 v4 hσ3 => zpc_bi (fv_fX2_romByte hσ3) (fun σ5 v6 hσ5 => zpc_some hσ5)))) (fun _ => zpc_if (fun _ => zpc_bi (fv_fX2_romByte h) (fun σ7 v8 hσ7 => zpc_some hσ7)) (fun _ => zpc_if (fun _ => zpc_bi (fv_fX2_romByte h) (fun σ9 v10 hσ9 => zpc_some hσ9)) (fun _ => zpc_if (fun _ => zpc_bi (fv_fX2_romWord h) (fun σ11 v12 hσ11 => zpc_some hσ11)) (fun _ => zpc_bi (fv_fX2_sumOfCard h) (fun σ13 v14 hσ13 => zpc_some hσ13))))))))
theorem fv_fX2_aboutCard {σ0 : zSt} {σ : zSt} {x1 : Int32} (h : (zQ [3, 5, 7, 9, 10, 11, 12, 15, 17, 19, 21, 23, 25, 27, 28, 29, 30, 32, 34, 36, 40, 42, 44, 45] [] [5, 38, 46, 48] []) σ0 σ) : zpc (fX2_aboutCard σ x1) (fun r => (zQ [3, 5, 7, 9, 10, 11, 12, 15, 17, 19, 21, 23, 25, 27, 28, 29, 30, 32, 34, 36, 40, 42, 44, 45] [] [5, 38, 46, 48] []) σ0 (r.1)) := by
  unfold fX2_aboutCard
  exact zpc_if (fun _ => fv_fX2_aboutCard_14 h) (fun _ => zpc_if (fun _ => fv_fX2_aboutCard_14 h) (fun _ => zpc_some h))
theorem fv_fX2_cardSize {σ0 : zSt} {σ : zSt} (h : (zQ [3, 5, 7, 9, 10, 11, 12, 15, 17, 19, 21, 23, 25, 27, 28, 29, 30, 32, 34, 36, 40, 42, 44, 45] [] [5, 38, 46, 48] []) σ0 σ) : zpc (fX2_cardSize σ) (fun r => (zQ [3, 5, 7, 9, 10, 11, 12, 15, 17, 19, 21, 23, 25, 27, 28, 29, 30, 32, 34, 36, 40, 42, 44, 45] [] [5, 38, 46, 48] []) σ0 (r.1)) := by
  unfold fX2_cardSize
  exact zpc_some h
theorem fv_fX2_page {σ0 : zSt} {σ : zSt} {x1 : Int32} (h : (zQ [3, 5, 7, 9, 10, 11, 12, 15, 17, 19, 21, 23, 25, 27, 28, 29, 30, 32, 34, 36, 40, 42, 44, 45] [] [5, 38, 46, 48] []) σ0 σ) : zpc (fX2_page σ x1) (fun r => (zQ [3, 5, 7, 9, 10, 11, 12, 15, 17, 19, 21, 23, 25, 27, 28, 29, 30, 32, 34, 36, 40, 42, 44, 45] [] [5, 38, 46, 48] []) σ0 (r.1)) := by
  unfold fX2_page
  exact zpc_ck (zpc_some h)
theorem fv_fX2_batteryIsIn_25 {σ0 : zSt} {σ : zSt} {s0 : Int32} (h : (zQ [3, 5, 7, 9, 10, 11, 12, 15, 17, 19, 21, 23, 25, 27, 28, 29, 30, 32, 34, 36, 40, 42, 44, 45] [] [5, 38, 46, 48] []) σ0 σ) : zpc (fX2_batteryIsIn_25 σ s0) (fun r => (zQ [3, 5, 7, 9, 10, 11, 12, 15, 17, 19, 21, 23, 25, 27, 28, 29, 30, 32, 34, 36, 40, 42, 44, 45] [] [5, 38, 46, 48] []) σ0 (r.1)) := by
  unfold fX2_batteryIsIn_25
  exact zpc_ck (zpc_some h)
theorem fv_fX2_batteryIsIn_24 {σ0 : zSt} {σ : zSt} (h : (zQ [3, 5, 7, 9, 10, 11, 12, 15, 17, 19, 21, 23, 25, 27, 28, 29, 30, 32, 34, 36, 40, 42, 44, 45] [] [5, 38, 46, 48] []) σ0 σ) : zpc (fX2_batteryIsIn_24 σ) (fun r => (zQ [3, 5, 7, 9, 10, 11, 12, 15, 17, 19, 21, 23, 25, 27, 28, 29, 30, 32, 34, 36, 40, 42, 44, 45] [] [5, 38, 46, 48] []) σ0 (r.1)) := by
  unfold fX2_batteryIsIn_24
  exact fv_fX2_batteryIsIn_25 h
theorem fv_fX2_batteryIsIn {σ0 : zSt} {σ : zSt} (h : (zQ [3, 5, 7, 9, 10, 11, 12, 15, 17, 19, 21, 23, 25, 27, 28, 29, 30, 32, 34, 36, 40, 42, 44, 45] [] [5, 38, 46, 48] []) σ0 σ) : zpc (fX2_batteryIsIn σ) (fun r => (zQ [3, 5, 7, 9, 10, 11, 12, 15, 17, 19, 21, 23, 25, 27, 28, 29, 30, 32, 34, 36, 40, 42, 44, 45] [] [5, 38, 46, 48] []) σ0 (r.1)) := by
  unfold fX2_batteryIsIn
  exact zpc_if (fun _ => zpc_ck (zpc_if (fun _ => fv_fX2_batteryIsIn_24 h) (fun _ => fv_fX2_batteryIsIn_25 h))) (fun _ => fv_fX2_batteryIsIn_24 h)
theorem fv_fX2_batteryPlace {σ0 : zSt} {σ : zSt} {x1 : Int32} (h : (zQ [3, 5, 7, 9, 10, 11, 12, 15, 17, 19, 21, 23, 25, 27, 28, 29, 30, 32, 34, 36, 40, 42, 44, 45] [] [5, 38, 46, 48] []) σ0 σ) : zpc (fX2_batteryPlace σ x1) (fun r => (zQ [3, 5, 7, 9, 10, 11, 12, 15, 17, 19, 21, 23, 25, 27, 28, 29, 30, 32, 34, 36, 40, 42, 44, 45] [] [5, 38, 46, 48] []) σ0 (r.1)) := by
  unfold fX2_batteryPlace
  exact zpc_ck (zpc_some h)
theorem fv_fX2_read_169 {σ0 : zSt} {σ : zSt} {s0 : Int32} (h : (zQ [3, 5, 7, 9, 10, 11, 12, 15, 17, 19, 21, 23, 25, 27, 28, 29, 30, 32, 34, 36, 40, 42, 44, 45] [] [5, 38, 46, 48] []) σ0 σ) : zpc (fX2_read_169 σ s0) (fun r => (zQ [3, 5, 7, 9, 10, 11, 12, 15, 17, 19, 21, 23, 25, 27, 28, 29, 30, 32, 34, 36, 40, 42, 44, 45] [] [5, 38, 46, 48] []) σ0 (r.1)) := by
  unfold fX2_read_169
  exact zpc_some h
theorem fv_fX2_read_144 {σ0 : zSt} {σ : zSt} {x3 : Int32} (h : (zQ [3, 5, 7, 9, 10, 11, 12, 15, 17, 19, 21, 23, 25, 27, 28, 29, 30, 32, 34, 36, 40, 42, 44, 45] [] [5, 38, 46, 48] []) σ0 σ) : zpc (fX2_read_144 σ x3) (fun r => (zQ [3, 5, 7, 9, 10, 11, 12, 15, 17, 19, 21, 23, 25, 27, 28, 29, 30, 32, 34, 36, 40, 42, 44, 45] [] [5, 38, 46, 48] []) σ0 (r.1)) := by
  unfold fX2_read_144
  exact zpc_if (fun _ => fv_fX2_read_169 h) (fun _ => zpc_ck (fv_fX2_read_169 h))
theorem fv_fX2_read_126 {σ0 : zSt} {σ : zSt} {x2 : Int32} {x6 : Int32} (h : (zQ [3, 5, 7, 9, 10, 11, 12, 15, 17, 19, 21, 23, 25, 27, 28, 29, 30, 32, 34, 36, 40, 42, 44, 45] [] [5, 38, 46, 48] []) σ0 σ) : zpc (fX2_read_126 σ x2 x6) (fun r => (zQ [3, 5, 7, 9, 10, 11, 12, 15, 17, 19, 21, 23, 25, 27, 28, 29, 30, 32, 34, 36, 40, 42, 44, 45] [] [5, 38, 46, 48] []) σ0 (r.1)) := by
  unfold fX2_read_126
  exact zpc_ck (zpc_bv (fun v1 _ => fv_fX2_read_144 h))
theorem fv_fX2_read_106 {σ0 : zSt} {σ : zSt} {x2 : Int32} {s0 : Int32} (h : (zQ [3, 5, 7, 9, 10, 11, 12, 15, 17, 19, 21, 23, 25, 27, 28, 29, 30, 32, 34, 36, 40, 42, 44, 45] [] [5, 38, 46, 48] []) σ0 σ) : zpc (fX2_read_106 σ x2 s0) (fun r => (zQ [3, 5, 7, 9, 10, 11, 12, 15, 17, 19, 21, 23, 25, 27, 28, 29, 30, 32, 34, 36, 40, 42, 44, 45] [] [5, 38, 46, 48] []) σ0 (r.1)) := by
  unfold fX2_read_106
  exact zpc_if (fun _ => zpc_if (fun _ => fv_fX2_read_126 h) (fun _ => fv_fX2_read_126 h)) (fun _ => fv_fX2_read_126 h)
theorem fv_fX2_read_87 {σ0 : zSt} {σ : zSt} {x2 : Int32} {x4 : Int32} {s0 : Int32} (h : (zQ [3, 5, 7, 9, 10, 11, 12, 15, 17, 19, 21, 23, 25, 27, 28, 29, 30, 32, 34, 36, 40, 42, 44, 45] [] [5, 38, 46, 48] []) σ0 σ) : zpc (fX2_read_87 σ x2 x4 s0) (fun r => (zQ [3, 5, 7, 9, 10, 11, 12, 15, 17, 19, 21, 23, 25, 27, 28, 29, 30, 32, 34, 36, 40, 42, 44, 45] [] [5, 38, 46, 48] []) σ0 (r.1)) := by
  unfold fX2_read_87
  exact zpc_if (fun _ => zpc_ck (fv_fX2_read_106 h)) (fun _ => fv_fX2_read_106 h)
theorem fv_fX2_read_86 {σ0 : zSt} {σ : zSt} {x2 : Int32} {x4 : Int32} (h : (zQ [3, 5, 7, 9, 10, 11, 12, 15, 17, 19, 21, 23, 25, 27, 28, 29, 30, 32, 34, 36, 40, 42, 44, 45] [] [5, 38, 46, 48] []) σ0 σ) : zpc (fX2_read_86 σ x2 x4) (fun r => (zQ [3, 5, 7, 9, 10, 11, 12, 15, 17, 19, 21, 23, 25, 27, 28, 29, 30, 32, 34, 36, 40, 42, 44, 45] [] [5, 38, 46, 48] []) σ0 (r.1)) := by
  unfold fX2_read_86
  exact fv_fX2_read_87 h
theorem fv_fX2_read_62 {σ0 : zSt} {σ : zSt} {x2 : Int32} (h : (zQ [3, 5, 7, 9, 10, 11, 12, 15, 17, 19, 21, 23, 25, 27, 28, 29, 30, 32, 34, 36, 40, 42, 44, 45] [] [5, 38, 46, 48] []) σ0 σ) : zpc (fX2_read_62 σ x2) (fun r => (zQ [3, 5, 7, 9, 10, 11, 12, 15, 17, 19, 21, 23, 25, 27, 28, 29, 30, 32, 34, 36, 40, 42, 44, 45] [] [5, 38, 46, 48] []) σ0 (r.1)) := by
  unfold fX2_read_62
  exact zpc_bv (fun v2 _ => zpc_if (fun _ => zpc_if (fun _ => fv_fX2_read_86 h) (fun _ => fv_fX2_read_87 h)) (fun _ => fv_fX2_read_86 h))
theorem fv_fX2_read {σ0 : zSt} {σ : zSt} {x1 : Int32} (h : (zQ [3, 5, 7, 9, 10, 11, 12, 15, 17, 19, 21, 23, 25, 27, 28, 29, 30, 32, 34, 36, 40, 42, 44, 45] [] [5, 38, 46, 48] []) σ0 σ) : zpc (fX2_read σ x1) (fun r => (zQ [3, 5, 7, 9, 10, 11, 12, 15, 17, 19, 21, 23, 25, 27, 28, 29, 30, 32, 34, 36, 40, 42, 44, 45] [] [5, 38, 46, 48] []) σ0 (r.1)) := by
  unfold fX2_read
  exact zpc_bv (fun v3 _ => zpc_if (fun _ => zpc_if (fun _ => fv_fX2_read_144 h) (fun _ => zpc_if (fun _ => fv_fX2_read_144 h) (fun _ => zpc_if (fun _ => fv_fX2_read_62 h) (fun _ => zpc_bi (fv_fX2_batteryIsIn h) (fun σ4 v5 hσ4 => zpc_if (fun _ => fv_fX2_read_62 hσ4) (fun _ => zpc_bi (fv_fX2_batteryPlace hσ4) (fun σ6 v7 hσ6 => zpc_ck (zpc_some hσ6)))))))) (fun _ => zpc_ck (zpc_some h)))
theorem fv_fX2_write_151 {σ0 : zSt} {σ : zSt} (h : (zQ [3, 5, 7, 9, 10, 11, 12, 15, 17, 19, 21, 23, 25, 27, 28, 29, 30, 32, 34, 36, 40, 42, 44, 45] [] [5, 38, 46, 48] []) σ0 σ) : zpc (fX2_write_151 σ) (fun r => (zQ [3, 5, 7, 9, 10, 11, 12, 15, 17, 19, 21, 23, 25, 27, 28, 29, 30, 32, 34, 36, 40, 42, 44, 45] [] [5, 38, 46, 48] []) σ0 (r)) := by
  unfold fX2_write_151
  exact zpc_some h
theorem fv_fX2_write_54 {σ0 : zSt} {σ : zSt} {x2 : Int32} {s0 : Int32} (h : (zQ [3, 5, 7, 9, 10, 11, 12, 15, 17, 19, 21, 23, 25, 27, 28, 29, 30, 32, 34, 36, 40, 42, 44, 45] [] [5, 38, 46, 48] []) σ0 σ) : zpc (fX2_write_54 σ x2 s0) (fun r => (zQ [3, 5, 7, 9, 10, 11, 12, 15, 17, 19, 21, 23, 25, 27, 28, 29, 30, 32, 34, 36, 40, 42, 44, 45] [] [5, 38, 46, 48] []) σ0 (r)) := by
  unfold fX2_write_54
  exact zpc_ck (zpc_bs (zQ.wi h rfl) (fun σ1 hσ1 => fv_fX2_write_151 hσ1))
theorem fv_fX2_write_130 {σ0 : zSt} {σ : zSt} {x2 : Int32} {x3 : Int32} (h : (zQ [3, 5, 7, 9, 10, 11, 12, 15, 17, 19, 21, 23, 25, 27, 28, 29, 30, 32, 34, 36, 40, 42, 44, 45] [] [5, 38, 46, 48] []) σ0 σ) : zpc (fX2_write_130 σ x2 x3) (fun r => (zQ [3, 5, 7, 9, 10, 11, 12, 15, 17, 19, 21, 23, 25, 27, 28, 29, 30, 32, 34, 36, 40, 42, 44, 45] [] [5, 38, 46, 48] []) σ0 (r)) := by
  unfold fX2_write_130
  exact zpc_if (fun _ => zpc_if (fun _ => zpc_ck (zpc_bs (zQ.wi h rfl) (fun σ2 hσ2 => fv_fX2_write_151 hσ2))) (fun _ => fv_fX2_write_151 h)) (fun _ => fv_fX2_write_151 h)
theorem fv_fX2_write_117 {σ0 : zSt} {σ : zSt} {x2 : Int32} {x3 : Int32} (h : (zQ [3, 5, 7, 9, 10, 11, 12, 15, 17, 19, 21, 23, 25, 27, 28, 29, 30, 32, 34, 36, 40, 42, 44, 45] [] [5, 38, 46, 48] []) σ0 σ) : zpc (fX2_write_117 σ x2 x3) (fun r => (zQ [3, 5, 7, 9, 10, 11, 12, 15, 17, 19, 21, 23, 25, 27, 28, 29, 30, 32, 34, 36, 40, 42, 44, 45] [] [5, 38, 46, 48] []) σ0 (r)) := by
  unfold fX2_write_117
  exact zpc_ck (zpc_bs (zQ.wi h rfl) (fun σ3 hσ3 => fv_fX2_write_151 hσ3))
theorem fv_fX2_write_22 {σ0 : zSt} {σ : zSt} {x2 : Int32} {x3 : Int32} (h : (zQ [3, 5, 7, 9, 10, 11, 12, 15, 17, 19, 21, 23, 25, 27, 28, 29, 30, 32, 34, 36, 40, 42, 44, 45] [] [5, 38, 46, 48] []) σ0 σ) : zpc (fX2_write_22 σ x2 x3) (fun r => (zQ [3, 5, 7, 9, 10, 11, 12, 15, 17, 19, 21, 23, 25, 27, 28, 29, 30, 32, 34, 36, 40, 42, 44, 45] [] [5, 38, 46, 48] []) σ0 (r)) := by
  unfold fX2_write_22
  exact zpc_if (fun _ => zpc_if (fun _ => zpc_if (fun _ => fv_fX2_write_151 h) (fun _ => zpc_if (fun _ => fv_fX2_write_151 h) (fun _ => zpc_bi (fv_fX2_batteryIsIn h) (fun σ4 v5 hσ4 => zpc_if (fun _ => fv_fX2_write_151 hσ4) (fun _ => zpc_bi (fv_fX2_batteryPlace hσ4) (fun σ6 v7 hσ6 => zpc_ck (zpc_bs (zQ.wi hσ6 rfl) (fun σ8 hσ8 => fv_fX2_write_151 hσ8)))))))) (fun _ => zpc_if (fun _ => fv_fX2_write_54 h) (fun _ => fv_fX2_write_54 h))) (fun _ => zpc_if (fun _ => zpc_if (fun _ => fv_fX2_write_117 h) (fun _ => zpc_if (fun _ => fv_fX2_write_117 h) (fun _ => zpc_if (fun _ => fv_fX2_write_117 h) (fun _ => fv_fX2_write_130 h)))) (fun _ => fv_fX2_write_130 h))
theorem fv_fX2_write {σ0 : zSt} {σ : zSt} {x1 : Int32} {x2 : Int32} (h : (zQ [3, 5, 7, 9, 10, 11, 12, 15, 17, 19, 21, 23, 25, 27, 28, 29, 30, 32, 34, 36, 40, 42, 44, 45] [] [5, 38, 46, 48] []) σ0 σ) : zpc (fX2_write σ x1 x2) (fun r => (zQ [3, 5, 7, 9, 10, 11, 12, 15, 17, 19, 21, 23, 25, 27, 28, 29, 30, 32, 34, 36, 40, 42, 44, 45] [] [5, 38, 46, 48] []) σ0 (r)) := by
  unfold fX2_write
  exact zpc_bv (fun v9 _ => zpc_if (fun _ => fv_fX2_write_22 h) (fun _ => zpc_ck (zpc_bs (zQ.wi h rfl) (fun σ10 hσ10 => fv_fX2_write_22 hσ10))))
theorem fv_fX2_batteryByte {σ0 : zSt} {σ : zSt} {x1 : Int32} (h : (zQ [3, 5, 7, 9, 10, 11, 12, 15, 17, 19, 21, 23, 25, 27, 28, 29, 30, 32, 34, 36, 40, 42, 44, 45] [] [5, 38, 46, 48] []) σ0 σ) : zpc (fX2_batteryByte σ x1) (fun r => (zQ [3, 5, 7, 9, 10, 11, 12, 15, 17, 19, 21, 23, 25, 27, 28, 29, 30, 32, 34, 36, 40, 42, 44, 45] [] [5, 38, 46, 48] []) σ0 (r.1)) := by
  unfold fX2_batteryByte
  exact zpc_ck (zpc_some h)
theorem fv_fJ7_fill_53178_k17_5_body {σ0 : zSt} {k5 : zSt → Int32 → Int32 → Int32 → Option (zSt)} (hk5 : ∀ (y0 : zSt) (y1 : Int32) (y2 : Int32) (y3 : Int32), (zQ [3, 5, 7, 9, 10, 11, 12, 15, 17, 19, 21, 23, 25, 27, 28, 29, 30, 32, 34, 36, 40, 42, 44, 45] [] [5, 38, 46, 48] []) σ0 y0 → zpc (k5 y0 y1 y2 y3) (fun r => (zQ [3, 5, 7, 9, 10, 11, 12, 15, 17, 19, 21, 23, 25, 27, 28, 29, 30, 32, 34, 36, 40, 42, 44, 45] [] [5, 38, 46, 48] []) σ0 (r))) {σ : zSt} {x1 : Int32} {x2 : Int32} {x3 : Int32} (h : (zQ [3, 5, 7, 9, 10, 11, 12, 15, 17, 19, 21, 23, 25, 27, 28, 29, 30, 32, 34, 36, 40, 42, 44, 45] [] [5, 38, 46, 48] []) σ0 σ) : zpc (fJ7_fill_53178_k17_5_body k5 σ x1 x2 x3) (fun r => (zQ [3, 5, 7, 9, 10, 11, 12, 15, 17, 19, 21, 23, 25, 27, 28, 29, 30, 32, 34, 36, 40, 42, 44, 45] [] [5, 38, 46, 48] []) σ0 (r)) := by
  unfold fJ7_fill_53178_k17_5_body
  exact zpc_if (fun _ => zpc_some h) (fun _ => zpc_ck (zpc_bs (zQ.wi h rfl) (fun σ1 hσ1 => zpc_bv (fun v2 _ => hk5 _ _ _ _ hσ1))))
theorem fv_fJ7_fill_53178_k17_5 {σ0 : zSt} : ∀ (n : Nat) (y0 : zSt) (y1 : Int32) (y2 : Int32) (y3 : Int32), (zQ [3, 5, 7, 9, 10, 11, 12, 15, 17, 19, 21, 23, 25, 27, 28, 29, 30, 32, 34, 36, 40, 42, 44, 45] [] [5, 38, 46, 48] []) σ0 y0 → zpc (fJ7_fill_53178_k17_5 n y0 y1 y2 y3) (fun r => (zQ [3, 5, 7, 9, 10, 11, 12, 15, 17, 19, 21, 23, 25, 27, 28, 29, 30, 32, 34, 36, 40, 42, 44, 45] [] [5, 38, 46, 48] []) σ0 (r)) := by
  intro n
  induction n with
  | zero => intro y0 y1 y2 y3 h; exact zpc_none
  | succ n ih => intro y0 y1 y2 y3 h; exact fv_fJ7_fill_53178_k17_5_body ih h
theorem fv_fJ7_fill_53178_k17 {σ0 : zSt} {σ : zSt} {x1 : Int32} (h : (zQ [3, 5, 7, 9, 10, 11, 12, 15, 17, 19, 21, 23, 25, 27, 28, 29, 30, 32, 34, 36, 40, 42, 44, 45] [] [5, 38, 46, 48] []) σ0 σ) : zpc (fJ7_fill_53178_k17 σ x1) (fun r => (zQ [3, 5, 7, 9, 10, 11, 12, 15, 17, 19, 21, 23, 25, 27, 28, 29, 30, 32, 34, 36, 40, 42, 44, 45] [] [5, 38, 46, 48] []) σ0 (r)) := by
  unfold fJ7_fill_53178_k17
  exact fv_fJ7_fill_53178_k17_5 _ _ _ _ _ h
theorem fv_fX2_clearBattery {σ0 : zSt} {σ : zSt} (h : (zQ [3, 5, 7, 9, 10, 11, 12, 15, 17, 19, 21, 23, 25, 27, 28, 29, 30, 32, 34, 36, 40, 42, 44, 45] [] [5, 38, 46, 48] []) σ0 σ) : zpc (fX2_clearBattery σ) (fun r => (zQ [3, 5, 7, 9, 10, 11, 12, 15, 17, 19, 21, 23, 25, 27, 28, 29, 30, 32, 34, 36, 40, 42, 44, 45] [] [5, 38, 46, 48] []) σ0 (r)) := by
  unfold fX2_clearBattery
  exact zpc_bu (fv_fJ7_fill_53178_k17 h) (fun σ1 hσ1 => zpc_some hσ1)
theorem fv_fX2_clearPages_32 {σ0 : zSt} {σ : zSt} {s0 : Int32} {s1 : Int32} (h : (zQ [3, 5, 7, 9, 10, 11, 12, 15, 17, 19, 21, 23, 25, 27, 28, 29, 30, 32, 34, 36, 40, 42, 44, 45] [] [5, 38, 46, 48] []) σ0 σ) : zpc (fX2_clearPages_32 σ s0 s1) (fun r => (zQ [3, 5, 7, 9, 10, 11, 12, 15, 17, 19, 21, 23, 25, 27, 28, 29, 30, 32, 34, 36, 40, 42, 44, 45] [] [5, 38, 46, 48] []) σ0 (r)) := by
  unfold fX2_clearPages_32
  exact zpc_ck (zpc_bs (zQ.wi h rfl) (fun σ1 hσ1 => zpc_ck (zpc_bs (zQ.wi hσ1 rfl) (fun σ2 hσ2 => zpc_some hσ2))))
theorem fv_fX2_clearPages {σ0 : zSt} {σ : zSt} (h : (zQ [3, 5, 7, 9, 10, 11, 12, 15, 17, 19, 21, 23, 25, 27, 28, 29, 30, 32, 34, 36, 40, 42, 44, 45] [] [5, 38, 46, 48] []) σ0 σ) : zpc (fX2_clearPages σ) (fun r => (zQ [3, 5, 7, 9, 10, 11, 12, 15, 17, 19, 21, 23, 25, 27, 28, 29, 30, 32, 34, 36, 40, 42, 44, 45] [] [5, 38, 46, 48] []) σ0 (r)) := by
  unfold fX2_clearPages
  exact zpc_ck (zpc_bs (zQ.wi h rfl) (fun σ3 hσ3 => zpc_ck (zpc_bs (zQ.wi hσ3 rfl) (fun σ4 hσ4 => zpc_if (fun _ => fv_fX2_clearPages_32 hσ4) (fun _ => fv_fX2_clearPages_32 hσ4)))))
theorem fv_fX3_width_16 {σ0 : zSt} {σ : zSt} {s0 : Int32} (h : (zQ [3, 5, 7, 9, 10, 11, 12, 15, 17, 19, 21, 23, 25, 27, 28, 29, 30, 32, 34, 36, 40, 42, 44, 45] [] [5, 38, 46, 48] []) σ0 σ) : zpc (fX3_width_16 σ s0) (fun r => (zQ [3, 5, 7, 9, 10, 11, 12, 15, 17, 19, 21, 23, 25, 27, 28, 29, 30, 32, 34, 36, 40, 42, 44, 45] [] [5, 38, 46, 48] []) σ0 (r.1)) := by
  unfold fX3_width_16
  exact zpc_some h
theorem fv_fX3_width {σ0 : zSt} {σ : zSt} (h : (zQ [3, 5, 7, 9, 10, 11, 12, 15, 17, 19, 21, 23, 25, 27, 28, 29, 30, 32, 34, 36, 40, 42, 44, 45] [] [5, 38, 46, 48] []) σ0 σ) : zpc (fX3_width σ) (fun r => (zQ [3, 5, 7, 9, 10, 11, 12, 15, 17, 19, 21, 23, 25, 27, 28, 29, 30, 32, 34, 36, 40, 42, 44, 45] [] [5, 38, 46, 48] []) σ0 (r.1)) := by
  unfold fX3_width
  exact zpc_if (fun _ => fv_fX3_width_16 h) (fun _ => fv_fX3_width_16 h)
theorem fv_fX9_height {σ0 : zSt} {σ : zSt} (h : (zQ [3, 5, 7, 9, 10, 11, 12, 15, 17, 19, 21, 23, 25, 27, 28, 29, 30, 32, 34, 36, 40, 42, 44, 45] [] [5, 38, 46, 48] []) σ0 σ) : zpc (fX9_height σ) (fun r => (zQ [3, 5, 7, 9, 10, 11, 12, 15, 17, 19, 21, 23, 25, 27, 28, 29, 30, 32, 34, 36, 40, 42, 44, 45] [] [5, 38, 46, 48] []) σ0 (r.1)) := by
  unfold fX9_height
  exact zpc_ck (zpc_if (fun _ => zpc_ck (zpc_if (fun _ => zpc_some h) (fun _ => zpc_if (fun _ => zpc_some h) (fun _ => zpc_some h)))) (fun _ => zpc_some h))
theorem fv_fX3_height_20 {σ0 : zSt} {σ : zSt} {s0 : Int32} (h : (zQ [3, 5, 7, 9, 10, 11, 12, 15, 17, 19, 21, 23, 25, 27, 28, 29, 30, 32, 34, 36, 40, 42, 44, 45] [] [5, 38, 46, 48] []) σ0 σ) : zpc (fX3_height_20 σ s0) (fun r => (zQ [3, 5, 7, 9, 10, 11, 12, 15, 17, 19, 21, 23, 25, 27, 28, 29, 30, 32, 34, 36, 40, 42, 44, 45] [] [5, 38, 46, 48] []) σ0 (r.1)) := by
  unfold fX3_height_20
  exact zpc_some h
theorem fv_fX3_height {σ0 : zSt} {σ : zSt} (h : (zQ [3, 5, 7, 9, 10, 11, 12, 15, 17, 19, 21, 23, 25, 27, 28, 29, 30, 32, 34, 36, 40, 42, 44, 45] [] [5, 38, 46, 48] []) σ0 σ) : zpc (fX3_height σ) (fun r => (zQ [3, 5, 7, 9, 10, 11, 12, 15, 17, 19, 21, 23, 25, 27, 28, 29, 30, 32, 34, 36, 40, 42, 44, 45] [] [5, 38, 46, 48] []) σ0 (r.1)) := by
  unfold fX3_height
  exact zpc_if (fun _ => zpc_bi (fv_fX9_height h) (fun σ1 v2 hσ1 => fv_fX3_height_20 hσ1)) (fun _ => fv_fX3_height_20 h)
theorem fv_fX3_placeOf_26 {σ0 : zSt} {σ : zSt} {s0 : Int32} (h : (zQ [3, 5, 7, 9, 10, 11, 12, 15, 17, 19, 21, 23, 25, 27, 28, 29, 30, 32, 34, 36, 40, 42, 44, 45] [] [5, 38, 46, 48] []) σ0 σ) : zpc (fX3_placeOf_26 σ s0) (fun r => (zQ [3, 5, 7, 9, 10, 11, 12, 15, 17, 19, 21, 23, 25, 27, 28, 29, 30, 32, 34, 36, 40, 42, 44, 45] [] [5, 38, 46, 48] []) σ0 (r.1)) := by
  unfold fX3_placeOf_26
  exact zpc_some h
theorem fv_fX3_placeOf {σ0 : zSt} {σ : zSt} {x1 : Int32} (h : (zQ [3, 5, 7, 9, 10, 11, 12, 15, 17, 19, 21, 23, 25, 27, 28, 29, 30, 32, 34, 36, 40, 42, 44, 45] [] [5, 38, 46, 48] []) σ0 σ) : zpc (fX3_placeOf σ x1) (fun r => (zQ [3, 5, 7, 9, 10, 11, 12, 15, 17, 19, 21, 23, 25, 27, 28, 29, 30, 32, 34, 36, 40, 42, 44, 45] [] [5, 38, 46, 48] []) σ0 (r.1)) := by
  unfold fX3_placeOf
  exact zpc_if (fun _ => fv_fX3_placeOf_26 h) (fun _ => fv_fX3_placeOf_26 h)
theorem fv_fX3_dotAt_31 {σ0 : zSt} {σ : zSt} {s0 : Int32} (h : (zQ [3, 5, 7, 9, 10, 11, 12, 15, 17, 19, 21, 23, 25, 27, 28, 29, 30, 32, 34, 36, 40, 42, 44, 45] [] [5, 38, 46, 48] []) σ0 σ) : zpc (fX3_dotAt_31 σ s0) (fun r => (zQ [3, 5, 7, 9, 10, 11, 12, 15, 17, 19, 21, 23, 25, 27, 28, 29, 30, 32, 34, 36, 40, 42, 44, 45] [] [5, 38, 46, 48] []) σ0 (r.1)) := by
  unfold fX3_dotAt_31
  exact zpc_some h
theorem fv_fX3_dotAt_30 {σ0 : zSt} {σ : zSt} (h : (zQ [3, 5, 7, 9, 10, 11, 12, 15, 17, 19, 21, 23, 25, 27, 28, 29, 30, 32, 34, 36, 40, 42, 44, 45] [] [5, 38, 46, 48] []) σ0 σ) : zpc (fX3_dotAt_30 σ) (fun r => (zQ [3, 5, 7, 9, 10, 11, 12, 15, 17, 19, 21, 23, 25, 27, 28, 29, 30, 32, 34, 36, 40, 42, 44, 45] [] [5, 38, 46, 48] []) σ0 (r.1)) := by
  unfold fX3_dotAt_30
  exact fv_fX3_dotAt_31 h
theorem fv_fX3_dotAt {σ0 : zSt} {σ : zSt} {x1 : Int32} {x2 : Int32} (h : (zQ [3, 5, 7, 9, 10, 11, 12, 15, 17, 19, 21, 23, 25, 27, 28, 29, 30, 32, 34, 36, 40, 42, 44, 45] [] [5, 38, 46, 48] []) σ0 σ) : zpc (fX3_dotAt σ x1 x2) (fun r => (zQ [3, 5, 7, 9, 10, 11, 12, 15, 17, 19, 21, 23, 25, 27, 28, 29, 30, 32, 34, 36, 40, 42, 44, 45] [] [5, 38, 46, 48] []) σ0 (r.1)) := by
  unfold fX3_dotAt
  exact zpc_bi (fv_fX3_placeOf h) (fun σ1 v2 hσ1 => zpc_bv (fun v3 _ => zpc_if (fun _ => fv_fX3_dotAt_30 hσ1) (fun _ => zpc_if (fun _ => fv_fX3_dotAt_30 hσ1) (fun _ => zpc_ck (fv_fX3_dotAt_31 hσ1)))))
theorem fv_fX3_sumOfLine_31_body {σ0 : zSt} {k31 : zSt → Int32 → Int32 → Int32 → Option (zSt × Int32)} (hk31 : ∀ (y0 : zSt) (y1 : Int32) (y2 : Int32) (y3 : Int32), (zQ [3, 5, 7, 9, 10, 11, 12, 15, 17, 19, 21, 23, 25, 27, 28, 29, 30, 32, 34, 36, 40, 42, 44, 45] [] [5, 38, 46, 48] []) σ0 y0 → zpc (k31 y0 y1 y2 y3) (fun r => (zQ [3, 5, 7, 9, 10, 11, 12, 15, 17, 19, 21, 23, 25, 27, 28, 29, 30, 32, 34, 36, 40, 42, 44, 45] [] [5, 38, 46, 48] []) σ0 (r.1))) {σ : zSt} {x2 : Int32} {x4 : Int32} {x5 : Int32} (h : (zQ [3, 5, 7, 9, 10, 11, 12, 15, 17, 19, 21, 23, 25, 27, 28, 29, 30, 32, 34, 36, 40, 42, 44, 45] [] [5, 38, 46, 48] []) σ0 σ) : zpc (fX3_sumOfLine_31_body k31 σ x2 x4 x5) (fun r => (zQ [3, 5, 7, 9, 10, 11, 12, 15, 17, 19, 21, 23, 25, 27, 28, 29, 30, 32, 34, 36, 40, 42, 44, 45] [] [5, 38, 46, 48] []) σ0 (r.1)) := by
  unfold fX3_sumOfLine_31_body
  exact zpc_if (fun _ => zpc_some h) (fun _ => zpc_ck (zpc_bv (fun v1 _ => zpc_bv (fun v2 _ => hk31 _ _ _ _ h))))
theorem fv_fX3_sumOfLine_31 {σ0 : zSt} : ∀ (n : Nat) (y0 : zSt) (y1 : Int32) (y2 : Int32) (y3 : Int32), (zQ [3, 5, 7, 9, 10, 11, 12, 15, 17, 19, 21, 23, 25, 27, 28, 29, 30, 32, 34, 36, 40, 42, 44, 45] [] [5, 38, 46, 48] []) σ0 y0 → zpc (fX3_sumOfLine_31 n y0 y1 y2 y3) (fun r => (zQ [3, 5, 7, 9, 10, 11, 12, 15, 17, 19, 21, 23, 25, 27, 28, 29, 30, 32, 34, 36, 40, 42, 44, 45] [] [5, 38, 46, 48] []) σ0 (r.1)) := by
  intro n
  induction n with
  | zero => intro y0 y1 y2 y3 h; exact zpc_none
  | succ n ih => intro y0 y1 y2 y3 h; exact fv_fX3_sumOfLine_31_body ih h
theorem fv_fX3_sumOfLine {σ0 : zSt} {σ : zSt} {x1 : Int32} (h : (zQ [3, 5, 7, 9, 10, 11, 12, 15, 17, 19, 21, 23, 25, 27, 28, 29, 30, 32, 34, 36, 40, 42, 44, 45] [] [5, 38, 46, 48] []) σ0 σ) : zpc (fX3_sumOfLine σ x1) (fun r => (zQ [3, 5, 7, 9, 10, 11, 12, 15, 17, 19, 21, 23, 25, 27, 28, 29, 30, 32, 34, 36, 40, 42, 44, 45] [] [5, 38, 46, 48] []) σ0 (r.1)) := by
  unfold fX3_sumOfLine
  exact zpc_bi (fv_fX3_placeOf h) (fun σ3 v4 hσ3 => zpc_bi (fv_fX3_width hσ3) (fun σ5 v6 hσ5 => zpc_bv (fun v7 _ => zpc_bv (fun v8 _ => fv_fX3_sumOfLine_31 _ _ _ _ _ hσ5))))
theorem fv_fX9_held_20 {σ0 : zSt} {σ : zSt} {s0 : Int32} (h : (zQ [3, 5, 7, 9, 10, 11, 12, 15, 17, 19, 21, 23, 25, 27, 28, 29, 30, 32, 34, 36, 40, 42, 44, 45] [] [5, 38, 46, 48] []) σ0 σ) : zpc (fX9_held_20 σ s0) (fun r => (zQ [3, 5, 7, 9, 10, 11, 12, 15, 17, 19, 21, 23, 25, 27, 28, 29, 30, 32, 34, 36, 40, 42, 44, 45] [] [5, 38, 46, 48] []) σ0 (r.1)) := by
  unfold fX9_held_20
  exact zpc_some h
theorem fv_fX9_held_19 {σ0 : zSt} {σ : zSt} (h : (zQ [3, 5, 7, 9, 10, 11, 12, 15, 17, 19, 21, 23, 25, 27, 28, 29, 30, 32, 34, 36, 40, 42, 44, 45] [] [5, 38, 46, 48] []) σ0 σ) : zpc (fX9_held_19 σ) (fun r => (zQ [3, 5, 7, 9, 10, 11, 12, 15, 17, 19, 21, 23, 25, 27, 28, 29, 30, 32, 34, 36, 40, 42, 44, 45] [] [5, 38, 46, 48] []) σ0 (r.1)) := by
  unfold fX9_held_19
  exact fv_fX9_held_20 h
theorem fv_fX9_held {σ0 : zSt} {σ : zSt} {x1 : Int32} (h : (zQ [3, 5, 7, 9, 10, 11, 12, 15, 17, 19, 21, 23, 25, 27, 28, 29, 30, 32, 34, 36, 40, 42, 44, 45] [] [5, 38, 46, 48] []) σ0 σ) : zpc (fX9_held σ x1) (fun r => (zQ [3, 5, 7, 9, 10, 11, 12, 15, 17, 19, 21, 23, 25, 27, 28, 29, 30, 32, 34, 36, 40, 42, 44, 45] [] [5, 38, 46, 48] []) σ0 (r.1)) := by
  unfold fX9_held
  exact zpc_if (fun _ => fv_fX9_held_19 h) (fun _ => zpc_if (fun _ => fv_fX9_held_19 h) (fun _ => zpc_ck (fv_fX9_held_20 h)))
theorem fv_fX9_mode_57 {σ0 : zSt} {σ : zSt} {s0 : Int32} (h : (zQ [3, 5, 7, 9, 10, 11, 12, 15, 17, 19, 21, 23, 25, 27, 28, 29, 30, 32, 34, 36, 40, 42, 44, 45] [] [5, 38, 46, 48] []) σ0 σ) : zpc (fX9_mode_57 σ s0) (fun r => (zQ [3, 5, 7, 9, 10, 11, 12, 15, 17, 19, 21, 23, 25, 27, 28, 29, 30, 32, 34, 36, 40, 42, 44, 45] [] [5, 38, 46, 48] []) σ0 (r.1)) := by
  unfold fX9_mode_57
  exact zpc_some h
theorem fv_fX9_mode {σ0 : zSt} {σ : zSt} (h : (zQ [3, 5, 7, 9, 10, 11, 12, 15, 17, 19, 21, 23, 25, 27, 28, 29, 30, 32, 34, 36, 40, 42, 44, 45] [] [5, 38, 46, 48] []) σ0 σ) : zpc (fX9_mode σ) (fun r => (zQ [3, 5, 7, 9, 10, 11, 12, 15, 17, 19, 21, 23, 25, 27, 28, 29, 30, 32, 34, 36, 40, 42, 44, 45] [] [5, 38, 46, 48] []) σ0 (r.1)) := by
  unfold fX9_mode
  exact zpc_ck (zpc_if (fun _ => zpc_ck (zpc_if (fun _ => zpc_ck (zpc_if (fun _ => zpc_ck (zpc_if (fun _ => fv_fX9_mode_57 h) (fun _ => fv_fX9_mode_57 h))) (fun _ => zpc_some h))) (fun _ => zpc_some h))) (fun _ => zpc_some h))
theorem fv_fJ7_fill_53178_k27_5_body {σ0 : zSt} {k5 : zSt → Int32 → Int32 → Int32 → Option (zSt)} (hk5 : ∀ (y0 : zSt) (y1 : Int32) (y2 : Int32) (y3 : Int32), (zQ [3, 5, 7, 9, 10, 11, 12, 15, 17, 19, 21, 23, 25, 27, 28, 29, 30, 32, 34, 36, 40, 42, 44, 45] [] [5, 38, 46, 48] []) σ0 y0 → zpc (k5 y0 y1 y2 y3) (fun r => (zQ [3, 5, 7, 9, 10, 11, 12, 15, 17, 19, 21, 23, 25, 27, 28, 29, 30, 32, 34, 36, 40, 42, 44, 45] [] [5, 38, 46, 48] []) σ0 (r))) {σ : zSt} {x1 : Int32} {x2 : Int32} {x3 : Int32} (h : (zQ [3, 5, 7, 9, 10, 11, 12, 15, 17, 19, 21, 23, 25, 27, 28, 29, 30, 32, 34, 36, 40, 42, 44, 45] [] [5, 38, 46, 48] []) σ0 σ) : zpc (fJ7_fill_53178_k27_5_body k5 σ x1 x2 x3) (fun r => (zQ [3, 5, 7, 9, 10, 11, 12, 15, 17, 19, 21, 23, 25, 27, 28, 29, 30, 32, 34, 36, 40, 42, 44, 45] [] [5, 38, 46, 48] []) σ0 (r)) := by
  unfold fJ7_fill_53178_k27_5_body
  exact zpc_if (fun _ => zpc_some h) (fun _ => zpc_ck (zpc_bs (zQ.wi h rfl) (fun σ1 hσ1 => zpc_bv (fun v2 _ => hk5 _ _ _ _ hσ1))))
theorem fv_fJ7_fill_53178_k27_5 {σ0 : zSt} : ∀ (n : Nat) (y0 : zSt) (y1 : Int32) (y2 : Int32) (y3 : Int32), (zQ [3, 5, 7, 9, 10, 11, 12, 15, 17, 19, 21, 23, 25, 27, 28, 29, 30, 32, 34, 36, 40, 42, 44, 45] [] [5, 38, 46, 48] []) σ0 y0 → zpc (fJ7_fill_53178_k27_5 n y0 y1 y2 y3) (fun r => (zQ [3, 5, 7, 9, 10, 11, 12, 15, 17, 19, 21, 23, 25, 27, 28, 29, 30, 32, 34, 36, 40, 42, 44, 45] [] [5, 38, 46, 48] []) σ0 (r)) := by
  intro n
  induction n with
  | zero => intro y0 y1 y2 y3 h; exact zpc_none
  | succ n ih => intro y0 y1 y2 y3 h; exact fv_fJ7_fill_53178_k27_5_body ih h
theorem fv_fJ7_fill_53178_k27 {σ0 : zSt} {σ : zSt} {x1 : Int32} (h : (zQ [3, 5, 7, 9, 10, 11, 12, 15, 17, 19, 21, 23, 25, 27, 28, 29, 30, 32, 34, 36, 40, 42, 44, 45] [] [5, 38, 46, 48] []) σ0 σ) : zpc (fJ7_fill_53178_k27 σ x1) (fun r => (zQ [3, 5, 7, 9, 10, 11, 12, 15, 17, 19, 21, 23, 25, 27, 28, 29, 30, 32, 34, 36, 40, 42, 44, 45] [] [5, 38, 46, 48] []) σ0 (r)) := by
  unfold fJ7_fill_53178_k27
  exact fv_fJ7_fill_53178_k27_5 _ _ _ _ _ h
theorem fv_fX3_mixColours_130 {σ0 : zSt} {k2 : zSt → Int32 → Int32 → Option (zSt)} (hk2 : ∀ (y0 : zSt) (y1 : Int32) (y2 : Int32), (zQ [3, 5, 7, 9, 10, 11, 12, 15, 17, 19, 21, 23, 25, 27, 28, 29, 30, 32, 34, 36, 40, 42, 44, 45] [] [5, 38, 46, 48] []) σ0 y0 → zpc (k2 y0 y1 y2) (fun r => (zQ [3, 5, 7, 9, 10, 11, 12, 15, 17, 19, 21, 23, 25, 27, 28, 29, 30, 32, 34, 36, 40, 42, 44, 45] [] [5, 38, 46, 48] []) σ0 (r))) {σ : zSt} {x1 : Int32} {x2 : Int32} (h : (zQ [3, 5, 7, 9, 10, 11, 12, 15, 17, 19, 21, 23, 25, 27, 28, 29, 30, 32, 34, 36, 40, 42, 44, 45] [] [5, 38, 46, 48] []) σ0 σ) : zpc (fX3_mixColours_130 k2 σ x1 x2) (fun r => (zQ [3, 5, 7, 9, 10, 11, 12, 15, 17, 19, 21, 23, 25, 27, 28, 29, 30, 32, 34, 36, 40, 42, 44, 45] [] [5, 38, 46, 48] []) σ0 (r)) := by
  unfold fX3_mixColours_130
  exact zpc_bv (fun v1 _ => hk2 _ _ _ h)
theorem fv_fX3_mixColours_78 {σ0 : zSt} {k2 : zSt → Int32 → Int32 → Option (zSt)} (hk2 : ∀ (y0 : zSt) (y1 : Int32) (y2 : Int32), (zQ [3, 5, 7, 9, 10, 11, 12, 15, 17, 19, 21, 23, 25, 27, 28, 29, 30, 32, 34, 36, 40, 42, 44, 45] [] [5, 38, 46, 48] []) σ0 y0 → zpc (k2 y0 y1 y2) (fun r => (zQ [3, 5, 7, 9, 10, 11, 12, 15, 17, 19, 21, 23, 25, 27, 28, 29, 30, 32, 34, 36, 40, 42, 44, 45] [] [5, 38, 46, 48] []) σ0 (r))) {σ : zSt} {x1 : Int32} {x2 : Int32} {s0 : Int32} {s1 : Int32} (h : (zQ [3, 5, 7, 9, 10, 11, 12, 15, 17, 19, 21, 23, 25, 27, 28, 29, 30, 32, 34, 36, 40, 42, 44, 45] [] [5, 38, 46, 48] []) σ0 σ) : zpc (fX3_mixColours_78 k2 σ x1 x2 s0 s1) (fun r => (zQ [3, 5, 7, 9, 10, 11, 12, 15, 17, 19, 21, 23, 25, 27, 28, 29, 30, 32, 34, 36, 40, 42, 44, 45] [] [5, 38, 46, 48] []) σ0 (r)) := by
  unfold fX3_mixColours_78
  exact zpc_ck (zpc_bs (zQ.wi h rfl) (fun σ2 hσ2 => fv_fX3_mixColours_130 hk2 hσ2))
theorem fv_fX3_mixColours_129 {σ0 : zSt} {k2 : zSt → Int32 → Int32 → Option (zSt)} (hk2 : ∀ (y0 : zSt) (y1 : Int32) (y2 : Int32), (zQ [3, 5, 7, 9, 10, 11, 12, 15, 17, 19, 21, 23, 25, 27, 28, 29, 30, 32, 34, 36, 40, 42, 44, 45] [] [5, 38, 46, 48] []) σ0 y0 → zpc (k2 y0 y1 y2) (fun r => (zQ [3, 5, 7, 9, 10, 11, 12, 15, 17, 19, 21, 23, 25, 27, 28, 29, 30, 32, 34, 36, 40, 42, 44, 45] [] [5, 38, 46, 48] []) σ0 (r))) {σ : zSt} {x1 : Int32} {x2 : Int32} {s0 : Int32} {s1 : Int32} (h : (zQ [3, 5, 7, 9, 10, 11, 12, 15, 17, 19, 21, 23, 25, 27, 28, 29, 30, 32, 34, 36, 40, 42, 44, 45] [] [5, 38, 46, 48] []) σ0 σ) : zpc (fX3_mixColours_129 k2 σ x1 x2 s0 s1) (fun r => (zQ [3, 5, 7, 9, 10, 11, 12, 15, 17, 19, 21, 23, 25, 27, 28, 29, 30, 32, 34, 36, 40, 42, 44, 45] [] [5, 38, 46, 48] []) σ0 (r)) := by
  unfold fX3_mixColours_129
  exact zpc_ck (zpc_bs (zQ.wi h rfl) (fun σ3 hσ3 => fv_fX3_mixColours_130 hk2 hσ3))
theorem fv_fX3_mixColours_2_body {σ0 : zSt} {k2 : zSt → Int32 → Int32 → Option (zSt)} (hk2 : ∀ (y0 : zSt) (y1 : Int32) (y2 : Int32), (zQ [3, 5, 7, 9, 10, 11, 12, 15, 17, 19, 21, 23, 25, 27, 28, 29, 30, 32, 34, 36, 40, 42, 44, 45] [] [5, 38, 46, 48] []) σ0 y0 → zpc (k2 y0 y1 y2) (fun r => (zQ [3, 5, 7, 9, 10, 11, 12, 15, 17, 19, 21, 23, 25, 27, 28, 29, 30, 32, 34, 36, 40, 42, 44, 45] [] [5, 38, 46, 48] []) σ0 (r))) {σ : zSt} {x1 : Int32} {x2 : Int32} (h : (zQ [3, 5, 7, 9, 10, 11, 12, 15, 17, 19, 21, 23, 25, 27, 28, 29, 30, 32, 34, 36, 40, 42, 44, 45] [] [5, 38, 46, 48] []) σ0 σ) : zpc (fX3_mixColours_2_body k2 σ x1 x2) (fun r => (zQ [3, 5, 7, 9, 10, 11, 12, 15, 17, 19, 21, 23, 25, 27, 28, 29, 30, 32, 34, 36, 40, 42, 44, 45] [] [5, 38, 46, 48] []) σ0 (r)) := by
  unfold fX3_mixColours_2_body
  exact zpc_if (fun _ => zpc_some h) (fun _ => zpc_if (fun _ => zpc_if (fun _ => zpc_bi (fv_fX9_held h) (fun σ5 v6 hσ5 => fv_fX3_mixColours_78 hk2 hσ5)) (fun _ => zpc_bi (fv_fX9_held h) (fun σ7 v8 hσ7 => zpc_bi (fv_fX9_held hσ7) (fun σ9 v10 hσ9 => fv_fX3_mixColours_78 hk2 hσ9)))) (fun _ => zpc_ck (zpc_bv (fun v4 _ => zpc_if (fun _ => fv_fX3_mixColours_129 hk2 h) (fun _ => fv_fX3_mixColours_129 hk2 h)))))
theorem fv_fX3_mixColours_2 {σ0 : zSt} : ∀ (n : Nat) (y0 : zSt) (y1 : Int32) (y2 : Int32), (zQ [3, 5, 7, 9, 10, 11, 12, 15, 17, 19, 21, 23, 25, 27, 28, 29, 30, 32, 34, 36, 40, 42, 44, 45] [] [5, 38, 46, 48] []) σ0 y0 → zpc (fX3_mixColours_2 n y0 y1 y2) (fun r => (zQ [3, 5, 7, 9, 10, 11, 12, 15, 17, 19, 21, 23, 25, 27, 28, 29, 30, 32, 34, 36, 40, 42, 44, 45] [] [5, 38, 46, 48] []) σ0 (r)) := by
  intro n
  induction n with
  | zero => intro y0 y1 y2 h; exact zpc_none
  | succ n ih => intro y0 y1 y2 h; exact fv_fX3_mixColours_2_body ih h
theorem fv_fX3_mixColours {σ0 : zSt} {σ : zSt} {x1 : Int32} (h : (zQ [3, 5, 7, 9, 10, 11, 12, 15, 17, 19, 21, 23, 25, 27, 28, 29, 30, 32, 34, 36, 40, 42, 44, 45] [] [5, 38, 46, 48] []) σ0 σ) : zpc (fX3_mixColours σ x1) (fun r => (zQ [3, 5, 7, 9, 10, 11, 12, 15, 17, 19, 21, 23, 25, 27, 28, 29, 30, 32, 34, 36, 40, 42, 44, 45] [] [5, 38, 46, 48] []) σ0 (r)) := by
  unfold fX3_mixColours
  exact fv_fX3_mixColours_2 _ _ _ _ h
theorem fv_fX9_vramByte {σ0 : zSt} {σ : zSt} {x1 : Int32} (h : (zQ [3, 5, 7, 9, 10, 11, 12, 15, 17, 19, 21, 23, 25, 27, 28, 29, 30, 32, 34, 36, 40, 42, 44, 45] [] [5, 38, 46, 48] []) σ0 σ) : zpc (fX9_vramByte σ x1) (fun r => (zQ [3, 5, 7, 9, 10, 11, 12, 15, 17, 19, 21, 23, 25, 27, 28, 29, 30, 32, 34, 36, 40, 42, 44, 45] [] [5, 38, 46, 48] []) σ0 (r.1)) := by
  unfold fX9_vramByte
  exact zpc_ck (zpc_some h)
theorem fv_fX3_takePlanes {σ0 : zSt} {σ : zSt} {x1 : Int32} (h : (zQ [3, 5, 7, 9, 10, 11, 12, 15, 17, 19, 21, 23, 25, 27, 28, 29, 30, 32, 34, 36, 40, 42, 44, 45] [] [5, 38, 46, 48] []) σ0 σ) : zpc (fX3_takePlanes σ x1) (fun r => (zQ [3, 5, 7, 9, 10, 11, 12, 15, 17, 19, 21, 23, 25, 27, 28, 29, 30, 32, 34, 36, 40, 42, 44, 45] [] [5, 38, 46, 48] []) σ0 (r)) := by
  unfold fX3_takePlanes
  exact zpc_bi (fv_fX9_vramByte h) (fun σ1 v2 hσ1 => zpc_bi (fv_fX9_vramByte hσ1) (fun σ3 v4 hσ3 => zpc_bi (fv_fX9_vramByte hσ3) (fun σ5 v6 hσ5 => zpc_bi (fv_fX9_vramByte hσ5) (fun σ7 v8 hσ7 => zpc_bs (zQ.wi hσ7 rfl) (fun σ9 hσ9 => zpc_some hσ9)))))
theorem fv_fX3_takeTile_60 {σ0 : zSt} {σ : zSt} {s0 : Int32} (h : (zQ [3, 5, 7, 9, 10, 11, 12, 15, 17, 19, 21, 23, 25, 27, 28, 29, 30, 32, 34, 36, 40, 42, 44, 45] [] [5, 38, 46, 48] []) σ0 σ) : zpc (fX3_takeTile_60 σ s0) (fun r => (zQ [3, 5, 7, 9, 10, 11, 12, 15, 17, 19, 21, 23, 25, 27, 28, 29, 30, 32, 34, 36, 40, 42, 44, 45] [] [5, 38, 46, 48] []) σ0 (r)) := by
  unfold fX3_takeTile_60
  exact zpc_bu (fv_fX3_takePlanes h) (fun σ1 hσ1 => zpc_some hσ1)
theorem fv_fX3_takeTile {σ0 : zSt} {σ : zSt} {x1 : Int32} {x2 : Int32} (h : (zQ [3, 5, 7, 9, 10, 11, 12, 15, 17, 19, 21, 23, 25, 27, 28, 29, 30, 32, 34, 36, 40, 42, 44, 45] [] [5, 38, 46, 48] []) σ0 σ) : zpc (fX3_takeTile σ x1 x2) (fun r => (zQ [3, 5, 7, 9, 10, 11, 12, 15, 17, 19, 21, 23, 25, 27, 28, 29, 30, 32, 34, 36, 40, 42, 44, 45] [] [5, 38, 46, 48] []) σ0 (r)) := by
  unfold fX3_takeTile
  exact zpc_bv (fun v2 _ => zpc_bi (fv_fX9_vramByte h) (fun σ3 v4 hσ3 => zpc_bi (fv_fX9_vramByte hσ3) (fun σ5 v6 hσ5 => zpc_bs (zQ.wi hσ5 rfl) (fun σ7 hσ7 => zpc_if (fun _ => fv_fX3_takeTile_60 hσ7) (fun _ => fv_fX3_takeTile_60 hσ7)))))
theorem fv_fX3_numberIn {σ0 : zSt} {σ : zSt} {x0 : Int32} {x1 : Int32} (h : (zQ [3, 5, 7, 9, 10, 11, 12, 15, 17, 19, 21, 23, 25, 27, 28, 29, 30, 32, 34, 36, 40, 42, 44, 45] [] [5, 38, 46, 48] []) σ0 σ) : zpc (fX3_numberIn σ x0 x1) (fun r => (zQ [3, 5, 7, 9, 10, 11, 12, 15, 17, 19, 21, 23, 25, 27, 28, 29, 30, 32, 34, 36, 40, 42, 44, 45] [] [5, 38, 46, 48] []) σ0 (r.1)) := by
  unfold fX3_numberIn
  exact zpc_bv (fun v1 _ => zpc_some h)
theorem fv_fX3_drawTiles_316 {σ0 : zSt} {k143 : zSt → Int32 → Int32 → Int32 → Int32 → Int32 → Int32 → Option (zSt)} (hk143 : ∀ (y0 : zSt) (y1 : Int32) (y2 : Int32) (y3 : Int32) (y4 : Int32) (y5 : Int32) (y6 : Int32), (zQ [3, 5, 7, 9, 10, 11, 12, 15, 17, 19, 21, 23, 25, 27, 28, 29, 30, 32, 34, 36, 40, 42, 44, 45] [] [5, 38, 46, 48] []) σ0 y0 → zpc (k143 y0 y1 y2 y3 y4 y5 y6) (fun r => (zQ [3, 5, 7, 9, 10, 11, 12, 15, 17, 19, 21, 23, 25, 27, 28, 29, 30, 32, 34, 36, 40, 42, 44, 45] [] [5, 38, 46, 48] []) σ0 (r))) {σ : zSt} {x1 : Int32} {x5 : Int32} {x6 : Int32} {x7 : Int32} {x8 : Int32} {x9 : Int32} {s0 : Int32} {s1 : Int32} {s2 : Int32} (h : (zQ [3, 5, 7, 9, 10, 11, 12, 15, 17, 19, 21, 23, 25, 27, 28, 29, 30, 32, 34, 36, 40, 42, 44, 45] [] [5, 38, 46, 48] []) σ0 σ) : zpc (fX3_drawTiles_316 k143 σ x1 x5 x6 x7 x8 x9 s0 s1 s2) (fun r => (zQ [3, 5, 7, 9, 10, 11, 12, 15, 17, 19, 21, 23, 25, 27, 28, 29, 30, 32, 34, 36, 40, 42, 44, 45] [] [5, 38, 46, 48] []) σ0 (r)) := by
  unfold fX3_drawTiles_316
  exact zpc_ck (zpc_bs (zQ.wi h rfl) (fun σ1 hσ1 => zpc_bv (fun v2 _ => hk143 _ _ _ _ _ _ _ hσ1)))
theorem fv_fX3_drawTiles_303 {σ0 : zSt} {k143 : zSt → Int32 → Int32 → Int32 → Int32 → Int32 → Int32 → Option (zSt)} (hk143 : ∀ (y0 : zSt) (y1 : Int32) (y2 : Int32) (y3 : Int32) (y4 : Int32) (y5 : Int32) (y6 : Int32), (zQ [3, 5, 7, 9, 10, 11, 12, 15, 17, 19, 21, 23, 25, 27, 28, 29, 30, 32, 34, 36, 40, 42, 44, 45] [] [5, 38, 46, 48] []) σ0 y0 → zpc (k143 y0 y1 y2 y3 y4 y5 y6) (fun r => (zQ [3, 5, 7, 9, 10, 11, 12, 15, 17, 19, 21, 23, 25, 27, 28, 29, 30, 32, 34, 36, 40, 42, 44, 45] [] [5, 38, 46, 48] []) σ0 (r))) {σ : zSt} {x1 : Int32} {x5 : Int32} {x6 : Int32} {x7 : Int32} {x8 : Int32} {x9 : Int32} {x13 : Int32} {s0 : Int32} {s1 : Int32} {s2 : Int32} (h : (zQ [3, 5, 7, 9, 10, 11, 12, 15, 17, 19, 21, 23, 25, 27, 28, 29, 30, 32, 34, 36, 40, 42, 44, 45] [] [5, 38, 46, 48] []) σ0 σ) : zpc (fX3_drawTiles_303 k143 σ x1 x5 x6 x7 x8 x9 x13 s0 s1 s2) (fun r => (zQ [3, 5, 7, 9, 10, 11, 12, 15, 17, 19, 21, 23, 25, 27, 28, 29, 30, 32, 34, 36, 40, 42, 44, 45] [] [5, 38, 46, 48] []) σ0 (r)) := by
  unfold fX3_drawTiles_303
  exact zpc_if (fun _ => fv_fX3_drawTiles_316 hk143 h) (fun _ => fv_fX3_drawTiles_316 hk143 h)
theorem fv_fX3_drawTiles_276 {σ0 : zSt} {k143 : zSt → Int32 → Int32 → Int32 → Int32 → Int32 → Int32 → Option (zSt)} (hk143 : ∀ (y0 : zSt) (y1 : Int32) (y2 : Int32) (y3 : Int32) (y4 : Int32) (y5 : Int32) (y6 : Int32), (zQ [3, 5, 7, 9, 10, 11, 12, 15, 17, 19, 21, 23, 25, 27, 28, 29, 30, 32, 34, 36, 40, 42, 44, 45] [] [5, 38, 46, 48] []) σ0 y0 → zpc (k143 y0 y1 y2 y3 y4 y5 y6) (fun r => (zQ [3, 5, 7, 9, 10, 11, 12, 15, 17, 19, 21, 23, 25, 27, 28, 29, 30, 32, 34, 36, 40, 42, 44, 45] [] [5, 38, 46, 48] []) σ0 (r))) {σ : zSt} {x1 : Int32} {x5 : Int32} {x6 : Int32} {x7 : Int32} {x8 : Int32} {x9 : Int32} {x12 : Int32} {s0 : Int32} (h : (zQ [3, 5, 7, 9, 10, 11, 12, 15, 17, 19, 21, 23, 25, 27, 28, 29, 30, 32, 34, 36, 40, 42, 44, 45] [] [5, 38, 46, 48] []) σ0 σ) : zpc (fX3_drawTiles_276 k143 σ x1 x5 x6 x7 x8 x9 x12 s0) (fun r => (zQ [3, 5, 7, 9, 10, 11, 12, 15, 17, 19, 21, 23, 25, 27, 28, 29, 30, 32, 34, 36, 40, 42, 44, 45] [] [5, 38, 46, 48] []) σ0 (r)) := by
  unfold fX3_drawTiles_276
  exact zpc_if (fun _ => fv_fX3_drawTiles_303 hk143 h) (fun _ => fv_fX3_drawTiles_303 hk143 h)
theorem fv_fX3_drawTiles_275 {σ0 : zSt} {k143 : zSt → Int32 → Int32 → Int32 → Int32 → Int32 → Int32 → Option (zSt)} (hk143 : ∀ (y0 : zSt) (y1 : Int32) (y2 : Int32) (y3 : Int32) (y4 : Int32) (y5 : Int32) (y6 : Int32), (zQ [3, 5, 7, 9, 10, 11, 12, 15, 17, 19, 21, 23, 25, 27, 28, 29, 30, 32, 34, 36, 40, 42, 44, 45] [] [5, 38, 46, 48] []) σ0 y0 → zpc (k143 y0 y1 y2 y3 y4 y5 y6) (fun r => (zQ [3, 5, 7, 9, 10, 11, 12, 15, 17, 19, 21, 23, 25, 27, 28, 29, 30, 32, 34, 36, 40, 42, 44, 45] [] [5, 38, 46, 48] []) σ0 (r))) {σ : zSt} {x1 : Int32} {x5 : Int32} {x6 : Int32} {x7 : Int32} {x8 : Int32} {x9 : Int32} {x12 : Int32} (h : (zQ [3, 5, 7, 9, 10, 11, 12, 15, 17, 19, 21, 23, 25, 27, 28, 29, 30, 32, 34, 36, 40, 42, 44, 45] [] [5, 38, 46, 48] []) σ0 σ) : zpc (fX3_drawTiles_275 k143 σ x1 x5 x6 x7 x8 x9 x12) (fun r => (zQ [3, 5, 7, 9, 10, 11, 12, 15, 17, 19, 21, 23, 25, 27, 28, 29, 30, 32, 34, 36, 40, 42, 44, 45] [] [5, 38, 46, 48] []) σ0 (r)) := by
  unfold fX3_drawTiles_275
  exact fv_fX3_drawTiles_276 hk143 h
theorem fv_fX3_drawTiles_242 {σ0 : zSt} {k143 : zSt → Int32 → Int32 → Int32 → Int32 → Int32 → Int32 → Option (zSt)} (hk143 : ∀ (y0 : zSt) (y1 : Int32) (y2 : Int32) (y3 : Int32) (y4 : Int32) (y5 : Int32) (y6 : Int32), (zQ [3, 5, 7, 9, 10, 11, 12, 15, 17, 19, 21, 23, 25, 27, 28, 29, 30, 32, 34, 36, 40, 42, 44, 45] [] [5, 38, 46, 48] []) σ0 y0 → zpc (k143 y0 y1 y2 y3 y4 y5 y6) (fun r => (zQ [3, 5, 7, 9, 10, 11, 12, 15, 17, 19, 21, 23, 25, 27, 28, 29, 30, 32, 34, 36, 40, 42, 44, 45] [] [5, 38, 46, 48] []) σ0 (r))) {σ : zSt} {x1 : Int32} {x5 : Int32} {x6 : Int32} {x7 : Int32} {x8 : Int32} {x9 : Int32} {s0 : Int32} (h : (zQ [3, 5, 7, 9, 10, 11, 12, 15, 17, 19, 21, 23, 25, 27, 28, 29, 30, 32, 34, 36, 40, 42, 44, 45] [] [5, 38, 46, 48] []) σ0 σ) : zpc (fX3_drawTiles_242 k143 σ x1 x5 x6 x7 x8 x9 s0) (fun r => (zQ [3, 5, 7, 9, 10, 11, 12, 15, 17, 19, 21, 23, 25, 27, 28, 29, 30, 32, 34, 36, 40, 42, 44, 45] [] [5, 38, 46, 48] []) σ0 (r)) := by
  unfold fX3_drawTiles_242
  exact zpc_bi (fv_fX3_numberIn h) (fun σ3 v4 hσ3 => zpc_if (fun _ => fv_fX3_drawTiles_275 hk143 hσ3) (fun _ => zpc_if (fun _ => fv_fX3_drawTiles_275 hk143 hσ3) (fun _ => fv_fX3_drawTiles_276 hk143 hσ3)))
theorem fv_fX3_drawTiles_215 {σ0 : zSt} {k143 : zSt → Int32 → Int32 → Int32 → Int32 → Int32 → Int32 → Option (zSt)} (hk143 : ∀ (y0 : zSt) (y1 : Int32) (y2 : Int32) (y3 : Int32) (y4 : Int32) (y5 : Int32) (y6 : Int32), (zQ [3, 5, 7, 9, 10, 11, 12, 15, 17, 19, 21, 23, 25, 27, 28, 29, 30, 32, 34, 36, 40, 42, 44, 45] [] [5, 38, 46, 48] []) σ0 y0 → zpc (k143 y0 y1 y2 y3 y4 y5 y6) (fun r => (zQ [3, 5, 7, 9, 10, 11, 12, 15, 17, 19, 21, 23, 25, 27, 28, 29, 30, 32, 34, 36, 40, 42, 44, 45] [] [5, 38, 46, 48] []) σ0 (r))) {σ : zSt} {x1 : Int32} {x5 : Int32} {x6 : Int32} {x7 : Int32} {x8 : Int32} {x9 : Int32} {x10 : Int32} (h : (zQ [3, 5, 7, 9, 10, 11, 12, 15, 17, 19, 21, 23, 25, 27, 28, 29, 30, 32, 34, 36, 40, 42, 44, 45] [] [5, 38, 46, 48] []) σ0 σ) : zpc (fX3_drawTiles_215 k143 σ x1 x5 x6 x7 x8 x9 x10) (fun r => (zQ [3, 5, 7, 9, 10, 11, 12, 15, 17, 19, 21, 23, 25, 27, 28, 29, 30, 32, 34, 36, 40, 42, 44, 45] [] [5, 38, 46, 48] []) σ0 (r)) := by
  unfold fX3_drawTiles_215
  exact zpc_if (fun _ => fv_fX3_drawTiles_242 hk143 h) (fun _ => fv_fX3_drawTiles_242 hk143 h)
theorem fv_fX3_drawTiles_212 {σ0 : zSt} {k143 : zSt → Int32 → Int32 → Int32 → Int32 → Int32 → Int32 → Option (zSt)} (hk143 : ∀ (y0 : zSt) (y1 : Int32) (y2 : Int32) (y3 : Int32) (y4 : Int32) (y5 : Int32) (y6 : Int32), (zQ [3, 5, 7, 9, 10, 11, 12, 15, 17, 19, 21, 23, 25, 27, 28, 29, 30, 32, 34, 36, 40, 42, 44, 45] [] [5, 38, 46, 48] []) σ0 y0 → zpc (k143 y0 y1 y2 y3 y4 y5 y6) (fun r => (zQ [3, 5, 7, 9, 10, 11, 12, 15, 17, 19, 21, 23, 25, 27, 28, 29, 30, 32, 34, 36, 40, 42, 44, 45] [] [5, 38, 46, 48] []) σ0 (r))) {σ : zSt} {x1 : Int32} {x5 : Int32} {x6 : Int32} {x7 : Int32} {x8 : Int32} {x9 : Int32} {x10 : Int32} {s0 : Int32} {s1 : Int32} (h : (zQ [3, 5, 7, 9, 10, 11, 12, 15, 17, 19, 21, 23, 25, 27, 28, 29, 30, 32, 34, 36, 40, 42, 44, 45] [] [5, 38, 46, 48] []) σ0 σ) : zpc (fX3_drawTiles_212 k143 σ x1 x5 x6 x7 x8 x9 x10 s0 s1) (fun r => (zQ [3, 5, 7, 9, 10, 11, 12, 15, 17, 19, 21, 23, 25, 27, 28, 29, 30, 32, 34, 36, 40, 42, 44, 45] [] [5, 38, 46, 48] []) σ0 (r)) := by
  unfold fX3_drawTiles_212
  exact zpc_bu (fv_fX3_takeTile h) (fun σ5 hσ5 => fv_fX3_drawTiles_215 hk143 hσ5)
theorem fv_fX3_drawTiles_210 {σ0 : zSt} {k143 : zSt → Int32 → Int32 → Int32 → Int32 → Int32 → Int32 → Option (zSt)} (hk143 : ∀ (y0 : zSt) (y1 : Int32) (y2 : Int32) (y3 : Int32) (y4 : Int32) (y5 : Int32) (y6 : Int32), (zQ [3, 5, 7, 9, 10, 11, 12, 15, 17, 19, 21, 23, 25, 27, 28, 29, 30, 32, 34, 36, 40, 42, 44, 45] [] [5, 38, 46, 48] []) σ0 y0 → zpc (k143 y0 y1 y2 y3 y4 y5 y6) (fun r => (zQ [3, 5, 7, 9, 10, 11, 12, 15, 17, 19, 21, 23, 25, 27, 28, 29, 30, 32, 34, 36, 40, 42, 44, 45] [] [5, 38, 46, 48] []) σ0 (r))) {σ : zSt} {x1 : Int32} {x5 : Int32} {x6 : Int32} {x7 : Int32} {x8 : Int32} {x9 : Int32} {x10 : Int32} {s0 : Int32} (h : (zQ [3, 5, 7, 9, 10, 11, 12, 15, 17, 19, 21, 23, 25, 27, 28, 29, 30, 32, 34, 36, 40, 42, 44, 45] [] [5, 38, 46, 48] []) σ0 σ) : zpc (fX3_drawTiles_210 k143 σ x1 x5 x6 x7 x8 x9 x10 s0) (fun r => (zQ [3, 5, 7, 9, 10, 11, 12, 15, 17, 19, 21, 23, 25, 27, 28, 29, 30, 32, 34, 36, 40, 42, 44, 45] [] [5, 38, 46, 48] []) σ0 (r)) := by
  unfold fX3_drawTiles_210
  exact fv_fX3_drawTiles_212 hk143 h
theorem fv_fX3_drawTiles_183 {σ0 : zSt} {k143 : zSt → Int32 → Int32 → Int32 → Int32 → Int32 → Int32 → Option (zSt)} (hk143 : ∀ (y0 : zSt) (y1 : Int32) (y2 : Int32) (y3 : Int32) (y4 : Int32) (y5 : Int32) (y6 : Int32), (zQ [3, 5, 7, 9, 10, 11, 12, 15, 17, 19, 21, 23, 25, 27, 28, 29, 30, 32, 34, 36, 40, 42, 44, 45] [] [5, 38, 46, 48] []) σ0 y0 → zpc (k143 y0 y1 y2 y3 y4 y5 y6) (fun r => (zQ [3, 5, 7, 9, 10, 11, 12, 15, 17, 19, 21, 23, 25, 27, 28, 29, 30, 32, 34, 36, 40, 42, 44, 45] [] [5, 38, 46, 48] []) σ0 (r))) {σ : zSt} {x1 : Int32} {x5 : Int32} {x6 : Int32} {x7 : Int32} {x8 : Int32} {x9 : Int32} {x10 : Int32} (h : (zQ [3, 5, 7, 9, 10, 11, 12, 15, 17, 19, 21, 23, 25, 27, 28, 29, 30, 32, 34, 36, 40, 42, 44, 45] [] [5, 38, 46, 48] []) σ0 σ) : zpc (fX3_drawTiles_183 k143 σ x1 x5 x6 x7 x8 x9 x10) (fun r => (zQ [3, 5, 7, 9, 10, 11, 12, 15, 17, 19, 21, 23, 25, 27, 28, 29, 30, 32, 34, 36, 40, 42, 44, 45] [] [5, 38, 46, 48] []) σ0 (r)) := by
  unfold fX3_drawTiles_183
  exact zpc_if (fun _ => fv_fX3_drawTiles_210 hk143 h) (fun _ => zpc_if (fun _ => fv_fX3_drawTiles_210 hk143 h) (fun _ => fv_fX3_drawTiles_212 hk143 h))
theorem fv_fX3_drawTiles_143_body {σ0 : zSt} {k143 : zSt → Int32 → Int32 → Int32 → Int32 → Int32 → Int32 → Option (zSt)} (hk143 : ∀ (y0 : zSt) (y1 : Int32) (y2 : Int32) (y3 : Int32) (y4 : Int32) (y5 : Int32) (y6 : Int32), (zQ [3, 5, 7, 9, 10, 11, 12, 15, 17, 19, 21, 23, 25, 27, 28, 29, 30, 32, 34, 36, 40, 42, 44, 45] [] [5, 38, 46, 48] []) σ0 y0 → zpc (k143 y0 y1 y2 y3 y4 y5 y6) (fun r => (zQ [3, 5, 7, 9, 10, 11, 12, 15, 17, 19, 21, 23, 25, 27, 28, 29, 30, 32, 34, 36, 40, 42, 44, 45] [] [5, 38, 46, 48] []) σ0 (r))) {σ : zSt} {x1 : Int32} {x5 : Int32} {x6 : Int32} {x7 : Int32} {x8 : Int32} {x9 : Int32} (h : (zQ [3, 5, 7, 9, 10, 11, 12, 15, 17, 19, 21, 23, 25, 27, 28, 29, 30, 32, 34, 36, 40, 42, 44, 45] [] [5, 38, 46, 48] []) σ0 σ) : zpc (fX3_drawTiles_143_body k143 σ x1 x5 x6 x7 x8 x9) (fun r => (zQ [3, 5, 7, 9, 10, 11, 12, 15, 17, 19, 21, 23, 25, 27, 28, 29, 30, 32, 34, 36, 40, 42, 44, 45] [] [5, 38, 46, 48] []) σ0 (r)) := by
  unfold fX3_drawTiles_143_body
  exact zpc_if (fun _ => zpc_some h) (fun _ => zpc_bv (fun v6 _ => zpc_if (fun _ => fv_fX3_drawTiles_183 hk143 h) (fun _ => zpc_if (fun _ => fv_fX3_drawTiles_183 hk143 h) (fun _ => zpc_if (fun _ => fv_fX3_drawTiles_183 hk143 h) (fun _ => fv_fX3_drawTiles_215 hk143 h)))))
theorem fv_fX3_drawTiles_143 {σ0 : zSt} : ∀ (n : Nat) (y0 : zSt) (y1 : Int32) (y2 : Int32) (y3 : Int32) (y4 : Int32) (y5 : Int32) (y6 : Int32), (zQ [3, 5, 7, 9, 10, 11, 12, 15, 17, 19, 21, 23, 25, 27, 28, 29, 30, 32, 34, 36, 40, 42, 44, 45] [] [5, 38, 46, 48] []) σ0 y0 → zpc (fX3_drawTiles_143 n y0 y1 y2 y3 y4 y5 y6) (fun r => (zQ [3, 5, 7, 9, 10, 11, 12, 15, 17, 19, 21, 23, 25, 27, 28, 29, 30, 32, 34, 36, 40, 42, 44, 45] [] [5, 38, 46, 48] []) σ0 (r)) := by
  intro n
  induction n with
  | zero => intro y0 y1 y2 y3 y4 y5 y6 h; exact zpc_none
  | succ n ih => intro y0 y1 y2 y3 y4 y5 y6 h; exact fv_fX3_drawTiles_143_body ih h
theorem fv_fX3_drawTiles_138 {σ0 : zSt} {σ : zSt} {x1 : Int32} {x5 : Int32} {x6 : Int32} {x7 : Int32} {s0 : Int32} (h : (zQ [3, 5, 7, 9, 10, 11, 12, 15, 17, 19, 21, 23, 25, 27, 28, 29, 30, 32, 34, 36, 40, 42, 44, 45] [] [5, 38, 46, 48] []) σ0 σ) : zpc (fX3_drawTiles_138 σ x1 x5 x6 x7 s0) (fun r => (zQ [3, 5, 7, 9, 10, 11, 12, 15, 17, 19, 21, 23, 25, 27, 28, 29, 30, 32, 34, 36, 40, 42, 44, 45] [] [5, 38, 46, 48] []) σ0 (r)) := by
  unfold fX3_drawTiles_138
  exact fv_fX3_drawTiles_143 _ _ _ _ _ _ _ _ h
theorem fv_fX3_drawTiles_122 {σ0 : zSt} {σ : zSt} {x1 : Int32} {x3 : Int32} {x5 : Int32} {x6 : Int32} {s0 : Int32} {s1 : Int32} (h : (zQ [3, 5, 7, 9, 10, 11, 12, 15, 17, 19, 21, 23, 25, 27, 28, 29, 30, 32, 34, 36, 40, 42, 44, 45] [] [5, 38, 46, 48] []) σ0 σ) : zpc (fX3_drawTiles_122 σ x1 x3 x5 x6 s0 s1) (fun r => (zQ [3, 5, 7, 9, 10, 11, 12, 15, 17, 19, 21, 23, 25, 27, 28, 29, 30, 32, 34, 36, 40, 42, 44, 45] [] [5, 38, 46, 48] []) σ0 (r)) := by
  unfold fX3_drawTiles_122
  exact zpc_ck (zpc_bv (fun v7 _ => zpc_if (fun _ => fv_fX3_drawTiles_138 h) (fun _ => fv_fX3_drawTiles_138 h)))
theorem fv_fX3_drawTiles_96 {σ0 : zSt} {σ : zSt} {x1 : Int32} {x2 : Int32} {x3 : Int32} {x5 : Int32} {s0 : Int32} (h : (zQ [3, 5, 7, 9, 10, 11, 12, 15, 17, 19, 21, 23, 25, 27, 28, 29, 30, 32, 34, 36, 40, 42, 44, 45] [] [5, 38, 46, 48] []) σ0 σ) : zpc (fX3_drawTiles_96 σ x1 x2 x3 x5 s0) (fun r => (zQ [3, 5, 7, 9, 10, 11, 12, 15, 17, 19, 21, 23, 25, 27, 28, 29, 30, 32, 34, 36, 40, 42, 44, 45] [] [5, 38, 46, 48] []) σ0 (r)) := by
  unfold fX3_drawTiles_96
  exact zpc_bi (fv_fX9_held h) (fun σ8 v9 hσ8 => zpc_if (fun _ => fv_fX3_drawTiles_122 hσ8) (fun _ => fv_fX3_drawTiles_122 hσ8))
theorem fv_fX3_drawTiles_87 {σ0 : zSt} {σ : zSt} {x1 : Int32} {x2 : Int32} {x3 : Int32} {x5 : Int32} (h : (zQ [3, 5, 7, 9, 10, 11, 12, 15, 17, 19, 21, 23, 25, 27, 28, 29, 30, 32, 34, 36, 40, 42, 44, 45] [] [5, 38, 46, 48] []) σ0 σ) : zpc (fX3_drawTiles_87 σ x1 x2 x3 x5) (fun r => (zQ [3, 5, 7, 9, 10, 11, 12, 15, 17, 19, 21, 23, 25, 27, 28, 29, 30, 32, 34, 36, 40, 42, 44, 45] [] [5, 38, 46, 48] []) σ0 (r)) := by
  unfold fX3_drawTiles_87
  exact zpc_bi (fv_fX9_held h) (fun σ10 v11 hσ10 => fv_fX3_drawTiles_96 hσ10)
theorem fv_fX3_drawTiles_68 {σ0 : zSt} {σ : zSt} {x1 : Int32} {x2 : Int32} {x3 : Int32} {s0 : Int32} (h : (zQ [3, 5, 7, 9, 10, 11, 12, 15, 17, 19, 21, 23, 25, 27, 28, 29, 30, 32, 34, 36, 40, 42, 44, 45] [] [5, 38, 46, 48] []) σ0 σ) : zpc (fX3_drawTiles_68 σ x1 x2 x3 s0) (fun r => (zQ [3, 5, 7, 9, 10, 11, 12, 15, 17, 19, 21, 23, 25, 27, 28, 29, 30, 32, 34, 36, 40, 42, 44, 45] [] [5, 38, 46, 48] []) σ0 (r)) := by
  unfold fX3_drawTiles_68
  exact zpc_if (fun _ => fv_fX3_drawTiles_87 h) (fun _ => zpc_if (fun _ => fv_fX3_drawTiles_87 h) (fun _ => fv_fX3_drawTiles_96 h))
theorem fv_fX3_drawTiles_18 {σ0 : zSt} {σ : zSt} {x1 : Int32} {s0 : Int32} (h : (zQ [3, 5, 7, 9, 10, 11, 12, 15, 17, 19, 21, 23, 25, 27, 28, 29, 30, 32, 34, 36, 40, 42, 44, 45] [] [5, 38, 46, 48] []) σ0 σ) : zpc (fX3_drawTiles_18 σ x1 s0) (fun r => (zQ [3, 5, 7, 9, 10, 11, 12, 15, 17, 19, 21, 23, 25, 27, 28, 29, 30, 32, 34, 36, 40, 42, 44, 45] [] [5, 38, 46, 48] []) σ0 (r)) := by
  unfold fX3_drawTiles_18
  exact zpc_bi (fv_fX9_held h) (fun σ12 v13 hσ12 => zpc_bi (fv_fX9_held hσ12) (fun σ14 v15 hσ14 => zpc_if (fun _ => fv_fX3_drawTiles_68 hσ14) (fun _ => fv_fX3_drawTiles_68 hσ14)))
theorem fv_fX3_drawTiles {σ0 : zSt} {σ : zSt} {x1 : Int32} (h : (zQ [3, 5, 7, 9, 10, 11, 12, 15, 17, 19, 21, 23, 25, 27, 28, 29, 30, 32, 34, 36, 40, 42, 44, 45] [] [5, 38, 46, 48] []) σ0 σ) : zpc (fX3_drawTiles σ x1) (fun r => (zQ [3, 5, 7, 9, 10, 11, 12, 15, 17, 19, 21, 23, 25, 27, 28, 29, 30, 32, 34, 36, 40, 42, 44, 45] [] [5, 38, 46, 48] []) σ0 (r)) := by
  unfold fX3_drawTiles
  exact zpc_bi (fv_fX9_height h) (fun σ16 v17 hσ16 => zpc_if (fun _ => fv_fX3_drawTiles_18 hσ16) (fun _ => fv_fX3_drawTiles_18 hσ16))
theorem fv_fJ7_fill_53178_k28_5_body {σ0 : zSt} {k5 : zSt → Int32 → Int32 → Int32 → Option (zSt)} (hk5 : ∀ (y0 : zSt) (y1 : Int32) (y2 : Int32) (y3 : Int32), (zQ [3, 5, 7, 9, 10, 11, 12, 15, 17, 19, 21, 23, 25, 27, 28, 29, 30, 32, 34, 36, 40, 42, 44, 45] [] [5, 38, 46, 48] []) σ0 y0 → zpc (k5 y0 y1 y2 y3) (fun r => (zQ [3, 5, 7, 9, 10, 11, 12, 15, 17, 19, 21, 23, 25, 27, 28, 29, 30, 32, 34, 36, 40, 42, 44, 45] [] [5, 38, 46, 48] []) σ0 (r))) {σ : zSt} {x1 : Int32} {x2 : Int32} {x3 : Int32} (h : (zQ [3, 5, 7, 9, 10, 11, 12, 15, 17, 19, 21, 23, 25, 27, 28, 29, 30, 32, 34, 36, 40, 42, 44, 45] [] [5, 38, 46, 48] []) σ0 σ) : zpc (fJ7_fill_53178_k28_5_body k5 σ x1 x2 x3) (fun r => (zQ [3, 5, 7, 9, 10, 11, 12, 15, 17, 19, 21, 23, 25, 27, 28, 29, 30, 32, 34, 36, 40, 42, 44, 45] [] [5, 38, 46, 48] []) σ0 (r)) := by
  unfold fJ7_fill_53178_k28_5_body
  exact zpc_if (fun _ => zpc_some h) (fun _ => zpc_ck (zpc_bs (zQ.wi h rfl) (fun σ1 hσ1 => zpc_bv (fun v2 _ => hk5 _ _ _ _ hσ1))))
theorem fv_fJ7_fill_53178_k28_5 {σ0 : zSt} : ∀ (n : Nat) (y0 : zSt) (y1 : Int32) (y2 : Int32) (y3 : Int32), (zQ [3, 5, 7, 9, 10, 11, 12, 15, 17, 19, 21, 23, 25, 27, 28, 29, 30, 32, 34, 36, 40, 42, 44, 45] [] [5, 38, 46, 48] []) σ0 y0 → zpc (fJ7_fill_53178_k28_5 n y0 y1 y2 y3) (fun r => (zQ [3, 5, 7, 9, 10, 11, 12, 15, 17, 19, 21, 23, 25, 27, 28, 29, 30, 32, 34, 36, 40, 42, 44, 45] [] [5, 38, 46, 48] []) σ0 (r)) := by
  intro n
  induction n with
  | zero => intro y0 y1 y2 y3 h; exact zpc_none
  | succ n ih => intro y0 y1 y2 y3 h; exact fv_fJ7_fill_53178_k28_5_body ih h
theorem fv_fJ7_fill_53178_k28 {σ0 : zSt} {σ : zSt} {x1 : Int32} (h : (zQ [3, 5, 7, 9, 10, 11, 12, 15, 17, 19, 21, 23, 25, 27, 28, 29, 30, 32, 34, 36, 40, 42, 44, 45] [] [5, 38, 46, 48] []) σ0 σ) : zpc (fJ7_fill_53178_k28 σ x1) (fun r => (zQ [3, 5, 7, 9, 10, 11, 12, 15, 17, 19, 21, 23, 25, 27, 28, 29, 30, 32, 34, 36, 40, 42, 44, 45] [] [5, 38, 46, 48] []) σ0 (r)) := by
  unfold fJ7_fill_53178_k28
  exact fv_fJ7_fill_53178_k28_5 _ _ _ _ _ h
theorem fv_fX3_rowOfSprite_56 {σ0 : zSt} {σ : zSt} {s0 : Int32} (h : (zQ [3, 5, 7, 9, 10, 11, 12, 15, 17, 19, 21, 23, 25, 27, 28, 29, 30, 32, 34, 36, 40, 42, 44, 45] [] [5, 38, 46, 48] []) σ0 σ) : zpc (fX3_rowOfSprite_56 σ s0) (fun r => (zQ [3, 5, 7, 9, 10, 11, 12, 15, 17, 19, 21, 23, 25, 27, 28, 29, 30, 32, 34, 36, 40, 42, 44, 45] [] [5, 38, 46, 48] []) σ0 (r.1)) := by
  unfold fX3_rowOfSprite_56
  exact zpc_some h
theorem fv_fX3_rowOfSprite_47 {σ0 : zSt} {σ : zSt} {x4 : Int32} {s0 : Int32} {s1 : Int32} (h : (zQ [3, 5, 7, 9, 10, 11, 12, 15, 17, 19, 21, 23, 25, 27, 28, 29, 30, 32, 34, 36, 40, 42, 44, 45] [] [5, 38, 46, 48] []) σ0 σ) : zpc (fX3_rowOfSprite_47 σ x4 s0 s1) (fun r => (zQ [3, 5, 7, 9, 10, 11, 12, 15, 17, 19, 21, 23, 25, 27, 28, 29, 30, 32, 34, 36, 40, 42, 44, 45] [] [5, 38, 46, 48] []) σ0 (r.1)) := by
  unfold fX3_rowOfSprite_47
  exact zpc_if (fun _ => fv_fX3_rowOfSprite_56 h) (fun _ => fv_fX3_rowOfSprite_56 h)
theorem fv_fX3_rowOfSprite_32 {σ0 : zSt} {σ : zSt} {x3 : Int32} {x4 : Int32} (h : (zQ [3, 5, 7, 9, 10, 11, 12, 15, 17, 19, 21, 23, 25, 27, 28, 29, 30, 32, 34, 36, 40, 42, 44, 45] [] [5, 38, 46, 48] []) σ0 σ) : zpc (fX3_rowOfSprite_32 σ x3 x4) (fun r => (zQ [3, 5, 7, 9, 10, 11, 12, 15, 17, 19, 21, 23, 25, 27, 28, 29, 30, 32, 34, 36, 40, 42, 44, 45] [] [5, 38, 46, 48] []) σ0 (r.1)) := by
  unfold fX3_rowOfSprite_32
  exact zpc_if (fun _ => fv_fX3_rowOfSprite_47 h) (fun _ => fv_fX3_rowOfSprite_47 h)
theorem fv_fX3_rowOfSprite {σ0 : zSt} {σ : zSt} {x1 : Int32} {x2 : Int32} (h : (zQ [3, 5, 7, 9, 10, 11, 12, 15, 17, 19, 21, 23, 25, 27, 28, 29, 30, 32, 34, 36, 40, 42, 44, 45] [] [5, 38, 46, 48] []) σ0 σ) : zpc (fX3_rowOfSprite σ x1 x2) (fun r => (zQ [3, 5, 7, 9, 10, 11, 12, 15, 17, 19, 21, 23, 25, 27, 28, 29, 30, 32, 34, 36, 40, 42, 44, 45] [] [5, 38, 46, 48] []) σ0 (r.1)) := by
  unfold fX3_rowOfSprite
  exact zpc_bi (fv_fX9_held h) (fun σ1 v2 hσ1 => zpc_bv (fun v3 _ => zpc_if (fun _ => fv_fX3_rowOfSprite_32 hσ1) (fun _ => zpc_bv (fun v4 _ => fv_fX3_rowOfSprite_32 hσ1))))
theorem fv_fX9_mark {σ0 : zSt} {σ : zSt} {x1 : Int32} (h : (zQ [3, 5, 7, 9, 10, 11, 12, 15, 17, 19, 21, 23, 25, 27, 28, 29, 30, 32, 34, 36, 40, 42, 44, 45] [] [5, 38, 46, 48] []) σ0 σ) : zpc (fX9_mark σ x1) (fun r => (zQ [3, 5, 7, 9, 10, 11, 12, 15, 17, 19, 21, 23, 25, 27, 28, 29, 30, 32, 34, 36, 40, 42, 44, 45] [] [5, 38, 46, 48] []) σ0 (r)) := by
  unfold fX9_mark
  exact zpc_ck (zpc_ck (zpc_bs (zQ.wi h rfl) (fun σ1 hσ1 => zpc_some hσ1)))
theorem fv_fX3_drawSprite_190 {σ0 : zSt} {k111 : zSt → Int32 → Int32 → Int32 → Option (zSt)} (hk111 : ∀ (y0 : zSt) (y1 : Int32) (y2 : Int32) (y3 : Int32), (zQ [3, 5, 7, 9, 10, 11, 12, 15, 17, 19, 21, 23, 25, 27, 28, 29, 30, 32, 34, 36, 40, 42, 44, 45] [] [5, 38, 46, 48] []) σ0 y0 → zpc (k111 y0 y1 y2 y3) (fun r => (zQ [3, 5, 7, 9, 10, 11, 12, 15, 17, 19, 21, 23, 25, 27, 28, 29, 30, 32, 34, 36, 40, 42, 44, 45] [] [5, 38, 46, 48] []) σ0 (r))) {σ : zSt} {x3 : Int32} {x6 : Int32} {x7 : Int32} (h : (zQ [3, 5, 7, 9, 10, 11, 12, 15, 17, 19, 21, 23, 25, 27, 28, 29, 30, 32, 34, 36, 40, 42, 44, 45] [] [5, 38, 46, 48] []) σ0 σ) : zpc (fX3_drawSprite_190 k111 σ x3 x6 x7) (fun r => (zQ [3, 5, 7, 9, 10, 11, 12, 15, 17, 19, 21, 23, 25, 27, 28, 29, 30, 32, 34, 36, 40, 42, 44, 45] [] [5, 38, 46, 48] []) σ0 (r)) := by
  unfold fX3_drawSprite_190
  exact zpc_bv (fun v1 _ => hk111 _ _ _ _ h)
theorem fv_fX3_drawSprite_111_body {σ0 : zSt} {k111 : zSt → Int32 → Int32 → Int32 → Option (zSt)} (hk111 : ∀ (y0 : zSt) (y1 : Int32) (y2 : Int32) (y3 : Int32), (zQ [3, 5, 7, 9, 10, 11, 12, 15, 17, 19, 21, 23, 25, 27, 28, 29, 30, 32, 34, 36, 40, 42, 44, 45] [] [5, 38, 46, 48] []) σ0 y0 → zpc (k111 y0 y1 y2 y3) (fun r => (zQ [3, 5, 7, 9, 10, 11, 12, 15, 17, 19, 21, 23, 25, 27, 28, 29, 30, 32, 34, 36, 40, 42, 44, 45] [] [5, 38, 46, 48] []) σ0 (r))) {σ : zSt} {x3 : Int32} {x6 : Int32} {x7 : Int32} (h : (zQ [3, 5, 7, 9, 10, 11, 12, 15, 17, 19, 21, 23, 25, 27, 28, 29, 30, 32, 34, 36, 40, 42, 44, 45] [] [5, 38, 46, 48] []) σ0 σ) : zpc (fX3_drawSprite_111_body k111 σ x3 x6 x7) (fun r => (zQ [3, 5, 7, 9, 10, 11, 12, 15, 17, 19, 21, 23, 25, 27, 28, 29, 30, 32, 34, 36, 40, 42, 44, 45] [] [5, 38, 46, 48] []) σ0 (r)) := by
  unfold fX3_drawSprite_111_body
  exact zpc_if (fun _ => zpc_some h) (fun _ => zpc_bv (fun v2 _ => zpc_bi (fv_fX3_numberIn h) (fun σ3 v4 hσ3 => zpc_if (fun _ => fv_fX3_drawSprite_190 hk111 hσ3) (fun _ => zpc_if (fun _ => fv_fX3_drawSprite_190 hk111 hσ3) (fun _ => zpc_if (fun _ => fv_fX3_drawSprite_190 hk111 hσ3) (fun _ => zpc_ck (zpc_if (fun _ => zpc_ck (zpc_bs (zQ.wi hσ3 rfl) (fun σ5 hσ5 => fv_fX3_drawSprite_190 hk111 hσ5))) (fun _ => zpc_bu (fv_fX9_mark hσ3) (fun σ6 hσ6 => fv_fX3_drawSprite_190 hk111 hσ6)))))))))
theorem fv_fX3_drawSprite_111 {σ0 : zSt} : ∀ (n : Nat) (y0 : zSt) (y1 : Int32) (y2 : Int32) (y3 : Int32), (zQ [3, 5, 7, 9, 10, 11, 12, 15, 17, 19, 21, 23, 25, 27, 28, 29, 30, 32, 34, 36, 40, 42, 44, 45] [] [5, 38, 46, 48] []) σ0 y0 → zpc (fX3_drawSprite_111 n y0 y1 y2 y3) (fun r => (zQ [3, 5, 7, 9, 10, 11, 12, 15, 17, 19, 21, 23, 25, 27, 28, 29, 30, 32, 34, 36, 40, 42, 44, 45] [] [5, 38, 46, 48] []) σ0 (r)) := by
  intro n
  induction n with
  | zero => intro y0 y1 y2 y3 h; exact zpc_none
  | succ n ih => intro y0 y1 y2 y3 h; exact fv_fX3_drawSprite_111_body ih h
theorem fv_fX3_drawSprite_100 {σ0 : zSt} {σ : zSt} {x2 : Int32} {x3 : Int32} {x6 : Int32} {s0 : Int32} {s1 : Int32} (h : (zQ [3, 5, 7, 9, 10, 11, 12, 15, 17, 19, 21, 23, 25, 27, 28, 29, 30, 32, 34, 36, 40, 42, 44, 45] [] [5, 38, 46, 48] []) σ0 σ) : zpc (fX3_drawSprite_100 σ x2 x3 x6 s0 s1) (fun r => (zQ [3, 5, 7, 9, 10, 11, 12, 15, 17, 19, 21, 23, 25, 27, 28, 29, 30, 32, 34, 36, 40, 42, 44, 45] [] [5, 38, 46, 48] []) σ0 (r)) := by
  unfold fX3_drawSprite_100
  exact zpc_bu (fv_fX3_takePlanes h) (fun σ7 hσ7 => fv_fX3_drawSprite_111 _ _ _ _ _ hσ7)
theorem fv_fX3_drawSprite_61 {σ0 : zSt} {σ : zSt} {x2 : Int32} {x3 : Int32} {s0 : Int32} {s1 : Int32} (h : (zQ [3, 5, 7, 9, 10, 11, 12, 15, 17, 19, 21, 23, 25, 27, 28, 29, 30, 32, 34, 36, 40, 42, 44, 45] [] [5, 38, 46, 48] []) σ0 σ) : zpc (fX3_drawSprite_61 σ x2 x3 s0 s1) (fun r => (zQ [3, 5, 7, 9, 10, 11, 12, 15, 17, 19, 21, 23, 25, 27, 28, 29, 30, 32, 34, 36, 40, 42, 44, 45] [] [5, 38, 46, 48] []) σ0 (r)) := by
  unfold fX3_drawSprite_61
  exact zpc_bv (fun v8 _ => zpc_bi (fv_fX9_held h) (fun σ9 v10 hσ9 => zpc_bv (fun v11 _ => zpc_if (fun _ => fv_fX3_drawSprite_100 hσ9) (fun _ => fv_fX3_drawSprite_100 hσ9))))
theorem fv_fX3_drawSprite_28 {σ0 : zSt} {σ : zSt} {x1 : Int32} {x2 : Int32} {s0 : Int32} {s1 : Int32} (h : (zQ [3, 5, 7, 9, 10, 11, 12, 15, 17, 19, 21, 23, 25, 27, 28, 29, 30, 32, 34, 36, 40, 42, 44, 45] [] [5, 38, 46, 48] []) σ0 σ) : zpc (fX3_drawSprite_28 σ x1 x2 s0 s1) (fun r => (zQ [3, 5, 7, 9, 10, 11, 12, 15, 17, 19, 21, 23, 25, 27, 28, 29, 30, 32, 34, 36, 40, 42, 44, 45] [] [5, 38, 46, 48] []) σ0 (r)) := by
  unfold fX3_drawSprite_28
  exact zpc_bv (fun v12 _ => zpc_bi (fv_fX9_vramByte h) (fun σ13 v14 hσ13 => zpc_bi (fv_fX9_held hσ13) (fun σ15 v16 hσ15 => zpc_if (fun _ => fv_fX3_drawSprite_61 hσ15) (fun _ => fv_fX3_drawSprite_61 hσ15))))
theorem fv_fX3_drawSprite {σ0 : zSt} {σ : zSt} {x1 : Int32} {x2 : Int32} (h : (zQ [3, 5, 7, 9, 10, 11, 12, 15, 17, 19, 21, 23, 25, 27, 28, 29, 30, 32, 34, 36, 40, 42, 44, 45] [] [5, 38, 46, 48] []) σ0 σ) : zpc (fX3_drawSprite σ x1 x2) (fun r => (zQ [3, 5, 7, 9, 10, 11, 12, 15, 17, 19, 21, 23, 25, 27, 28, 29, 30, 32, 34, 36, 40, 42, 44, 45] [] [5, 38, 46, 48] []) σ0 (r)) := by
  unfold fX3_drawSprite
  exact zpc_bi (fv_fX9_vramByte h) (fun σ17 v18 hσ17 => zpc_bi (fv_fX9_held hσ17) (fun σ19 v20 hσ19 => zpc_if (fun _ => fv_fX3_drawSprite_28 hσ19) (fun _ => fv_fX3_drawSprite_28 hσ19)))
theorem fv_fX3_drawSprites_196 {σ0 : zSt} {k147 : zSt → Int32 → Option (zSt)} (hk147 : ∀ (y0 : zSt) (y1 : Int32), (zQ [3, 5, 7, 9, 10, 11, 12, 15, 17, 19, 21, 23, 25, 27, 28, 29, 30, 32, 34, 36, 40, 42, 44, 45] [] [5, 38, 46, 48] []) σ0 y0 → zpc (k147 y0 y1) (fun r => (zQ [3, 5, 7, 9, 10, 11, 12, 15, 17, 19, 21, 23, 25, 27, 28, 29, 30, 32, 34, 36, 40, 42, 44, 45] [] [5, 38, 46, 48] []) σ0 (r))) {σ : zSt} {x5 : Int32} (h : (zQ [3, 5, 7, 9, 10, 11, 12, 15, 17, 19, 21, 23, 25, 27, 28, 29, 30, 32, 34, 36, 40, 42, 44, 45] [] [5, 38, 46, 48] []) σ0 σ) : zpc (fX3_drawSprites_196 k147 σ x5) (fun r => (zQ [3, 5, 7, 9, 10, 11, 12, 15, 17, 19, 21, 23, 25, 27, 28, 29, 30, 32, 34, 36, 40, 42, 44, 45] [] [5, 38, 46, 48] []) σ0 (r)) := by
  unfold fX3_drawSprites_196
  exact zpc_bv (fun v1 _ => hk147 _ _ h)
theorem fv_fX3_drawSprites_147_body {σ0 : zSt} {k147 : zSt → Int32 → Option (zSt)} (hk147 : ∀ (y0 : zSt) (y1 : Int32), (zQ [3, 5, 7, 9, 10, 11, 12, 15, 17, 19, 21, 23, 25, 27, 28, 29, 30, 32, 34, 36, 40, 42, 44, 45] [] [5, 38, 46, 48] []) σ0 y0 → zpc (k147 y0 y1) (fun r => (zQ [3, 5, 7, 9, 10, 11, 12, 15, 17, 19, 21, 23, 25, 27, 28, 29, 30, 32, 34, 36, 40, 42, 44, 45] [] [5, 38, 46, 48] []) σ0 (r))) {σ : zSt} {x5 : Int32} (h : (zQ [3, 5, 7, 9, 10, 11, 12, 15, 17, 19, 21, 23, 25, 27, 28, 29, 30, 32, 34, 36, 40, 42, 44, 45] [] [5, 38, 46, 48] []) σ0 σ) : zpc (fX3_drawSprites_147_body k147 σ x5) (fun r => (zQ [3, 5, 7, 9, 10, 11, 12, 15, 17, 19, 21, 23, 25, 27, 28, 29, 30, 32, 34, 36, 40, 42, 44, 45] [] [5, 38, 46, 48] []) σ0 (r)) := by
  unfold fX3_drawSprites_147_body
  exact zpc_if (fun _ => zpc_some h) (fun _ => zpc_ck (zpc_if (fun _ => fv_fX3_drawSprites_196 hk147 h) (fun _ => zpc_ck (zpc_if (fun _ => zpc_ck (zpc_ck (zpc_bs (zQ.wi h rfl) (fun σ2 hσ2 => fv_fX3_drawSprites_196 hk147 hσ2)))) (fun _ => fv_fX3_drawSprites_196 hk147 h)))))
theorem fv_fX3_drawSprites_147 {σ0 : zSt} : ∀ (n : Nat) (y0 : zSt) (y1 : Int32), (zQ [3, 5, 7, 9, 10, 11, 12, 15, 17, 19, 21, 23, 25, 27, 28, 29, 30, 32, 34, 36, 40, 42, 44, 45] [] [5, 38, 46, 48] []) σ0 y0 → zpc (fX3_drawSprites_147 n y0 y1) (fun r => (zQ [3, 5, 7, 9, 10, 11, 12, 15, 17, 19, 21, 23, 25, 27, 28, 29, 30, 32, 34, 36, 40, 42, 44, 45] [] [5, 38, 46, 48] []) σ0 (r)) := by
  intro n
  induction n with
  | zero => intro y0 y1 h; exact zpc_none
  | succ n ih => intro y0 y1 h; exact fv_fX3_drawSprites_147_body ih h
theorem fv_fX3_drawSprites_144 {σ0 : zSt} {σ : zSt} (h : (zQ [3, 5, 7, 9, 10, 11, 12, 15, 17, 19, 21, 23, 25, 27, 28, 29, 30, 32, 34, 36, 40, 42, 44, 45] [] [5, 38, 46, 48] []) σ0 σ) : zpc (fX3_drawSprites_144 σ) (fun r => (zQ [3, 5, 7, 9, 10, 11, 12, 15, 17, 19, 21, 23, 25, 27, 28, 29, 30, 32, 34, 36, 40, 42, 44, 45] [] [5, 38, 46, 48] []) σ0 (r)) := by
  unfold fX3_drawSprites_144
  exact fv_fX3_drawSprites_147 _ _ _ h
theorem fv_fX3_drawSprites_138 {σ0 : zSt} {k51 : zSt → Int32 → Int32 → Int32 → Int32 → Int32 → Option (zSt)} (hk51 : ∀ (y0 : zSt) (y1 : Int32) (y2 : Int32) (y3 : Int32) (y4 : Int32) (y5 : Int32), (zQ [3, 5, 7, 9, 10, 11, 12, 15, 17, 19, 21, 23, 25, 27, 28, 29, 30, 32, 34, 36, 40, 42, 44, 45] [] [5, 38, 46, 48] []) σ0 y0 → zpc (k51 y0 y1 y2 y3 y4 y5) (fun r => (zQ [3, 5, 7, 9, 10, 11, 12, 15, 17, 19, 21, 23, 25, 27, 28, 29, 30, 32, 34, 36, 40, 42, 44, 45] [] [5, 38, 46, 48] []) σ0 (r))) {σ : zSt} {x1 : Int32} {x2 : Int32} {x3 : Int32} {x4 : Int32} {x5 : Int32} (h : (zQ [3, 5, 7, 9, 10, 11, 12, 15, 17, 19, 21, 23, 25, 27, 28, 29, 30, 32, 34, 36, 40, 42, 44, 45] [] [5, 38, 46, 48] []) σ0 σ) : zpc (fX3_drawSprites_138 k51 σ x1 x2 x3 x4 x5) (fun r => (zQ [3, 5, 7, 9, 10, 11, 12, 15, 17, 19, 21, 23, 25, 27, 28, 29, 30, 32, 34, 36, 40, 42, 44, 45] [] [5, 38, 46, 48] []) σ0 (r)) := by
  unfold fX3_drawSprites_138
  exact zpc_bv (fun v3 _ => hk51 _ _ _ _ _ _ h)
theorem fv_fX3_drawSprites_86 {σ0 : zSt} {k51 : zSt → Int32 → Int32 → Int32 → Int32 → Int32 → Option (zSt)} (hk51 : ∀ (y0 : zSt) (y1 : Int32) (y2 : Int32) (y3 : Int32) (y4 : Int32) (y5 : Int32), (zQ [3, 5, 7, 9, 10, 11, 12, 15, 17, 19, 21, 23, 25, 27, 28, 29, 30, 32, 34, 36, 40, 42, 44, 45] [] [5, 38, 46, 48] []) σ0 y0 → zpc (k51 y0 y1 y2 y3 y4 y5) (fun r => (zQ [3, 5, 7, 9, 10, 11, 12, 15, 17, 19, 21, 23, 25, 27, 28, 29, 30, 32, 34, 36, 40, 42, 44, 45] [] [5, 38, 46, 48] []) σ0 (r))) {σ : zSt} {x1 : Int32} {x2 : Int32} {x3 : Int32} {x4 : Int32} {x5 : Int32} {x6 : Int32} (h : (zQ [3, 5, 7, 9, 10, 11, 12, 15, 17, 19, 21, 23, 25, 27, 28, 29, 30, 32, 34, 36, 40, 42, 44, 45] [] [5, 38, 46, 48] []) σ0 σ) : zpc (fX3_drawSprites_86 k51 σ x1 x2 x3 x4 x5 x6) (fun r => (zQ [3, 5, 7, 9, 10, 11, 12, 15, 17, 19, 21, 23, 25, 27, 28, 29, 30, 32, 34, 36, 40, 42, 44, 45] [] [5, 38, 46, 48] []) σ0 (r)) := by
  unfold fX3_drawSprites_86
  exact zpc_bi (fv_fX3_rowOfSprite h) (fun σ4 v5 hσ4 => zpc_if (fun _ => fv_fX3_drawSprites_138 hk51 hσ4) (fun _ => zpc_bv (fun v6 _ => zpc_if (fun _ => zpc_bu (fv_fX3_drawSprite hσ4) (fun σ7 hσ7 => fv_fX3_drawSprites_138 hk51 hσ7)) (fun _ => zpc_bu (fv_fX9_mark hσ4) (fun σ8 hσ8 => fv_fX3_drawSprites_144 hσ8)))))
theorem fv_fX3_drawSprites_51_body {σ0 : zSt} {k51 : zSt → Int32 → Int32 → Int32 → Int32 → Int32 → Option (zSt)} (hk51 : ∀ (y0 : zSt) (y1 : Int32) (y2 : Int32) (y3 : Int32) (y4 : Int32) (y5 : Int32), (zQ [3, 5, 7, 9, 10, 11, 12, 15, 17, 19, 21, 23, 25, 27, 28, 29, 30, 32, 34, 36, 40, 42, 44, 45] [] [5, 38, 46, 48] []) σ0 y0 → zpc (k51 y0 y1 y2 y3 y4 y5) (fun r => (zQ [3, 5, 7, 9, 10, 11, 12, 15, 17, 19, 21, 23, 25, 27, 28, 29, 30, 32, 34, 36, 40, 42, 44, 45] [] [5, 38, 46, 48] []) σ0 (r))) {σ : zSt} {x1 : Int32} {x2 : Int32} {x3 : Int32} {x4 : Int32} {x5 : Int32} (h : (zQ [3, 5, 7, 9, 10, 11, 12, 15, 17, 19, 21, 23, 25, 27, 28, 29, 30, 32, 34, 36, 40, 42, 44, 45] [] [5, 38, 46, 48] []) σ0 σ) : zpc (fX3_drawSprites_51_body k51 σ x1 x2 x3 x4 x5) (fun r => (zQ [3, 5, 7, 9, 10, 11, 12, 15, 17, 19, 21, 23, 25, 27, 28, 29, 30, 32, 34, 36, 40, 42, 44, 45] [] [5, 38, 46, 48] []) σ0 (r)) := by
  unfold fX3_drawSprites_51_body
  exact zpc_if (fun _ => fv_fX3_drawSprites_144 h) (fun _ => zpc_bi (fv_fX9_vramByte h) (fun σ9 v10 hσ9 => zpc_if (fun _ => fv_fX3_drawSprites_86 hk51 hσ9) (fun _ => zpc_if (fun _ => fv_fX3_drawSprites_144 hσ9) (fun _ => fv_fX3_drawSprites_86 hk51 hσ9))))
theorem fv_fX3_drawSprites_51 {σ0 : zSt} : ∀ (n : Nat) (y0 : zSt) (y1 : Int32) (y2 : Int32) (y3 : Int32) (y4 : Int32) (y5 : Int32), (zQ [3, 5, 7, 9, 10, 11, 12, 15, 17, 19, 21, 23, 25, 27, 28, 29, 30, 32, 34, 36, 40, 42, 44, 45] [] [5, 38, 46, 48] []) σ0 y0 → zpc (fX3_drawSprites_51 n y0 y1 y2 y3 y4 y5) (fun r => (zQ [3, 5, 7, 9, 10, 11, 12, 15, 17, 19, 21, 23, 25, 27, 28, 29, 30, 32, 34, 36, 40, 42, 44, 45] [] [5, 38, 46, 48] []) σ0 (r)) := by
  intro n
  induction n with
  | zero => intro y0 y1 y2 y3 y4 y5 h; exact zpc_none
  | succ n ih => intro y0 y1 y2 y3 y4 y5 h; exact fv_fX3_drawSprites_51_body ih h
theorem fv_fX3_drawSprites_44 {σ0 : zSt} {σ : zSt} {x1 : Int32} {x2 : Int32} {s0 : Int32} (h : (zQ [3, 5, 7, 9, 10, 11, 12, 15, 17, 19, 21, 23, 25, 27, 28, 29, 30, 32, 34, 36, 40, 42, 44, 45] [] [5, 38, 46, 48] []) σ0 σ) : zpc (fX3_drawSprites_44 σ x1 x2 s0) (fun r => (zQ [3, 5, 7, 9, 10, 11, 12, 15, 17, 19, 21, 23, 25, 27, 28, 29, 30, 32, 34, 36, 40, 42, 44, 45] [] [5, 38, 46, 48] []) σ0 (r)) := by
  unfold fX3_drawSprites_44
  exact fv_fX3_drawSprites_51 _ _ _ _ _ _ _ h
theorem fv_fX3_drawSprites {σ0 : zSt} {σ : zSt} {x1 : Int32} (h : (zQ [3, 5, 7, 9, 10, 11, 12, 15, 17, 19, 21, 23, 25, 27, 28, 29, 30, 32, 34, 36, 40, 42, 44, 45] [] [5, 38, 46, 48] []) σ0 σ) : zpc (fX3_drawSprites σ x1) (fun r => (zQ [3, 5, 7, 9, 10, 11, 12, 15, 17, 19, 21, 23, 25, 27, 28, 29, 30, 32, 34, 36, 40, 42, 44, 45] [] [5, 38, 46, 48] []) σ0 (r)) := by
  unfold fX3_drawSprites
  exact zpc_bu (fv_fJ7_fill_53178_k28 h) (fun σ11 hσ11 => zpc_bi (fv_fX9_held hσ11) (fun σ12 v13 hσ12 => zpc_bv (fun v14 _ => zpc_bi (fv_fX9_height hσ12) (fun σ15 v16 hσ15 => zpc_if (fun _ => fv_fX3_drawSprites_44 hσ15) (fun _ => fv_fX3_drawSprites_44 hσ15)))))
theorem fv_fJ7_rangeCheck_23922 {σ0 : zSt} {σ : zSt} {x0 : Int32} {x1 : Int32} {x2 : Int32} (h : (zQ [3, 5, 7, 9, 10, 11, 12, 15, 17, 19, 21, 23, 25, 27, 28, 29, 30, 32, 34, 36, 40, 42, 44, 45] [] [5, 38, 46, 48] []) σ0 σ) : zpc (fJ7_rangeCheck_23922 σ x0 x1 x2) (fun r => (zQ [3, 5, 7, 9, 10, 11, 12, 15, 17, 19, 21, 23, 25, 27, 28, 29, 30, 32, 34, 36, 40, 42, 44, 45] [] [5, 38, 46, 48] []) σ0 (r)) := by
  unfold fJ7_rangeCheck_23922
  exact zpc_if (fun _ => zpc_if (fun _ => zpc_if (fun _ => zpc_some h) (fun _ => zpc_none)) (fun _ => zpc_none)) (fun _ => zpc_none)
theorem fv_fJ7_fill_fda19_k27_10_body {σ0 : zSt} {k10 : zSt → Int32 → Int32 → Int32 → Option (zSt)} (hk10 : ∀ (y0 : zSt) (y1 : Int32) (y2 : Int32) (y3 : Int32), (zQ [3, 5, 7, 9, 10, 11, 12, 15, 17, 19, 21, 23, 25, 27, 28, 29, 30, 32, 34, 36, 40, 42, 44, 45] [] [5, 38, 46, 48] []) σ0 y0 → zpc (k10 y0 y1 y2 y3) (fun r => (zQ [3, 5, 7, 9, 10, 11, 12, 15, 17, 19, 21, 23, 25, 27, 28, 29, 30, 32, 34, 36, 40, 42, 44, 45] [] [5, 38, 46, 48] []) σ0 (r))) {σ : zSt} {x2 : Int32} {x3 : Int32} {x4 : Int32} (h : (zQ [3, 5, 7, 9, 10, 11, 12, 15, 17, 19, 21, 23, 25, 27, 28, 29, 30, 32, 34, 36, 40, 42, 44, 45] [] [5, 38, 46, 48] []) σ0 σ) : zpc (fJ7_fill_fda19_k27_10_body k10 σ x2 x3 x4) (fun r => (zQ [3, 5, 7, 9, 10, 11, 12, 15, 17, 19, 21, 23, 25, 27, 28, 29, 30, 32, 34, 36, 40, 42, 44, 45] [] [5, 38, 46, 48] []) σ0 (r)) := by
  unfold fJ7_fill_fda19_k27_10_body
  exact zpc_if (fun _ => zpc_some h) (fun _ => zpc_ck (zpc_bs (zQ.wi h rfl) (fun σ1 hσ1 => zpc_bv (fun v2 _ => hk10 _ _ _ _ hσ1))))
theorem fv_fJ7_fill_fda19_k27_10 {σ0 : zSt} : ∀ (n : Nat) (y0 : zSt) (y1 : Int32) (y2 : Int32) (y3 : Int32), (zQ [3, 5, 7, 9, 10, 11, 12, 15, 17, 19, 21, 23, 25, 27, 28, 29, 30, 32, 34, 36, 40, 42, 44, 45] [] [5, 38, 46, 48] []) σ0 y0 → zpc (fJ7_fill_fda19_k27_10 n y0 y1 y2 y3) (fun r => (zQ [3, 5, 7, 9, 10, 11, 12, 15, 17, 19, 21, 23, 25, 27, 28, 29, 30, 32, 34, 36, 40, 42, 44, 45] [] [5, 38, 46, 48] []) σ0 (r)) := by
  intro n
  induction n with
  | zero => intro y0 y1 y2 y3 h; exact zpc_none
  | succ n ih => intro y0 y1 y2 y3 h; exact fv_fJ7_fill_fda19_k27_10_body ih h
theorem fv_fJ7_fill_fda19_k27 {σ0 : zSt} {σ : zSt} {x1 : Int32} {x2 : Int32} {x3 : Int32} (h : (zQ [3, 5, 7, 9, 10, 11, 12, 15, 17, 19, 21, 23, 25, 27, 28, 29, 30, 32, 34, 36, 40, 42, 44, 45] [] [5, 38, 46, 48] []) σ0 σ) : zpc (fJ7_fill_fda19_k27 σ x1 x2 x3) (fun r => (zQ [3, 5, 7, 9, 10, 11, 12, 15, 17, 19, 21, 23, 25, 27, 28, 29, 30, 32, 34, 36, 40, 42, 44, 45] [] [5, 38, 46, 48] []) σ0 (r)) := by
  unfold fJ7_fill_fda19_k27
  exact zpc_bu (fv_fJ7_rangeCheck_23922 h) (fun σ3 hσ3 => fv_fJ7_fill_fda19_k27_10 _ _ _ _ _ hσ3)
theorem fv_fX3_patternAt {σ0 : zSt} {σ : zSt} {x1 : Int32} {x2 : Int32} (h : (zQ [3, 5, 7, 9, 10, 11, 12, 15, 17, 19, 21, 23, 25, 27, 28, 29, 30, 32, 34, 36, 40, 42, 44, 45] [] [5, 38, 46, 48] []) σ0 σ) : zpc (fX3_patternAt σ x1 x2) (fun r => (zQ [3, 5, 7, 9, 10, 11, 12, 15, 17, 19, 21, 23, 25, 27, 28, 29, 30, 32, 34, 36, 40, 42, 44, 45] [] [5, 38, 46, 48] []) σ0 (r.1)) := by
  unfold fX3_patternAt
  exact zpc_bi (fv_fX9_held h) (fun σ1 v2 hσ1 => zpc_bi (fv_fX9_vramByte hσ1) (fun σ3 v4 hσ3 => zpc_some hσ3))
theorem fv_fX3_drawText_101 {σ0 : zSt} {k21 : zSt → Int32 → Int32 → Int32 → Int32 → Option (zSt)} (hk21 : ∀ (y0 : zSt) (y1 : Int32) (y2 : Int32) (y3 : Int32) (y4 : Int32), (zQ [3, 5, 7, 9, 10, 11, 12, 15, 17, 19, 21, 23, 25, 27, 28, 29, 30, 32, 34, 36, 40, 42, 44, 45] [] [5, 38, 46, 48] []) σ0 y0 → zpc (k21 y0 y1 y2 y3 y4) (fun r => (zQ [3, 5, 7, 9, 10, 11, 12, 15, 17, 19, 21, 23, 25, 27, 28, 29, 30, 32, 34, 36, 40, 42, 44, 45] [] [5, 38, 46, 48] []) σ0 (r))) {k56 : zSt → Int32 → Int32 → Int32 → Int32 → Int32 → Int32 → Option (zSt)} (hk56 : ∀ (y0 : zSt) (y1 : Int32) (y2 : Int32) (y3 : Int32) (y4 : Int32) (y5 : Int32) (y6 : Int32), (zQ [3, 5, 7, 9, 10, 11, 12, 15, 17, 19, 21, 23, 25, 27, 28, 29, 30, 32, 34, 36, 40, 42, 44, 45] [] [5, 38, 46, 48] []) σ0 y0 → zpc (k56 y0 y1 y2 y3 y4 y5 y6) (fun r => (zQ [3, 5, 7, 9, 10, 11, 12, 15, 17, 19, 21, 23, 25, 27, 28, 29, 30, 32, 34, 36, 40, 42, 44, 45] [] [5, 38, 46, 48] []) σ0 (r))) {σ : zSt} {x1 : Int32} {x2 : Int32} {x3 : Int32} {x4 : Int32} {x5 : Int32} {x6 : Int32} {s0 : Int32} {s1 : Int32} (h : (zQ [3, 5, 7, 9, 10, 11, 12, 15, 17, 19, 21, 23, 25, 27, 28, 29, 30, 32, 34, 36, 40, 42, 44, 45] [] [5, 38, 46, 48] []) σ0 σ) : zpc (fX3_drawText_101 k21 k56 σ x1 x2 x3 x4 x5 x6 s0 s1) (fun r => (zQ [3, 5, 7, 9, 10, 11, 12, 15, 17, 19, 21, 23, 25, 27, 28, 29, 30, 32, 34, 36, 40, 42, 44, 45] [] [5, 38, 46, 48] []) σ0 (r)) := by
  unfold fX3_drawText_101
  exact zpc_ck (zpc_bs (zQ.wi h rfl) (fun σ1 hσ1 => zpc_bv (fun v2 _ => hk56 _ _ _ _ _ _ _ hσ1)))
theorem fv_fX3_drawText_56_body {σ0 : zSt} {k21 : zSt → Int32 → Int32 → Int32 → Int32 → Option (zSt)} (hk21 : ∀ (y0 : zSt) (y1 : Int32) (y2 : Int32) (y3 : Int32) (y4 : Int32), (zQ [3, 5, 7, 9, 10, 11, 12, 15, 17, 19, 21, 23, 25, 27, 28, 29, 30, 32, 34, 36, 40, 42, 44, 45] [] [5, 38, 46, 48] []) σ0 y0 → zpc (k21 y0 y1 y2 y3 y4) (fun r => (zQ [3, 5, 7, 9, 10, 11, 12, 15, 17, 19, 21, 23, 25, 27, 28, 29, 30, 32, 34, 36, 40, 42, 44, 45] [] [5, 38, 46, 48] []) σ0 (r))) {k56 : zSt → Int32 → Int32 → Int32 → Int32 → Int32 → Int32 → Option (zSt)} (hk56 : ∀ (y0 : zSt) (y1 : Int32) (y2 : Int32) (y3 : Int32) (y4 : Int32) (y5 : Int32) (y6 : Int32), (zQ [3, 5, 7, 9, 10, 11, 12, 15, 17, 19, 21, 23, 25, 27, 28, 29, 30, 32, 34, 36, 40, 42, 44, 45] [] [5, 38, 46, 48] []) σ0 y0 → zpc (k56 y0 y1 y2 y3 y4 y5 y6) (fun r => (zQ [3, 5, 7, 9, 10, 11, 12, 15, 17, 19, 21, 23, 25, 27, 28, 29, 30, 32, 34, 36, 40, 42, 44, 45] [] [5, 38, 46, 48] []) σ0 (r))) {σ : zSt} {x1 : Int32} {x2 : Int32} {x3 : Int32} {x4 : Int32} {x5 : Int32} {x6 : Int32} (h : (zQ [3, 5, 7, 9, 10, 11, 12, 15, 17, 19, 21, 23, 25, 27, 28, 29, 30, 32, 34, 36, 40, 42, 44, 45] [] [5, 38, 46, 48] []) σ0 σ) : zpc (fX3_drawText_56_body k21 k56 σ x1 x2 x3 x4 x5 x6) (fun r => (zQ [3, 5, 7, 9, 10, 11, 12, 15, 17, 19, 21, 23, 25, 27, 28, 29, 30, 32, 34, 36, 40, 42, 44, 45] [] [5, 38, 46, 48] []) σ0 (r)) := by
  unfold fX3_drawText_56_body
  exact zpc_if (fun _ => zpc_bv (fun v3 _ => hk21 _ _ _ _ _ h)) (fun _ => zpc_if (fun _ => fv_fX3_drawText_101 hk21 hk56 h) (fun _ => fv_fX3_drawText_101 hk21 hk56 h))
theorem fv_fX3_drawText_56 {σ0 : zSt} {k21 : zSt → Int32 → Int32 → Int32 → Int32 → Option (zSt)} (hk21 : ∀ (y0 : zSt) (y1 : Int32) (y2 : Int32) (y3 : Int32) (y4 : Int32), (zQ [3, 5, 7, 9, 10, 11, 12, 15, 17, 19, 21, 23, 25, 27, 28, 29, 30, 32, 34, 36, 40, 42, 44, 45] [] [5, 38, 46, 48] []) σ0 y0 → zpc (k21 y0 y1 y2 y3 y4) (fun r => (zQ [3, 5, 7, 9, 10, 11, 12, 15, 17, 19, 21, 23, 25, 27, 28, 29, 30, 32, 34, 36, 40, 42, 44, 45] [] [5, 38, 46, 48] []) σ0 (r))) : ∀ (n : Nat) (y0 : zSt) (y1 : Int32) (y2 : Int32) (y3 : Int32) (y4 : Int32) (y5 : Int32) (y6 : Int32), (zQ [3, 5, 7, 9, 10, 11, 12, 15, 17, 19, 21, 23, 25, 27, 28, 29, 30, 32, 34, 36, 40, 42, 44, 45] [] [5, 38, 46, 48] []) σ0 y0 → zpc (fX3_drawText_56 k21 n y0 y1 y2 y3 y4 y5 y6) (fun r => (zQ [3, 5, 7, 9, 10, 11, 12, 15, 17, 19, 21, 23, 25, 27, 28, 29, 30, 32, 34, 36, 40, 42, 44, 45] [] [5, 38, 46, 48] []) σ0 (r)) := by
  intro n
  induction n with
  | zero => intro y0 y1 y2 y3 y4 y5 y6 h; exact zpc_none
  | succ n ih => intro y0 y1 y2 y3 y4 y5 y6 h; exact fv_fX3_drawText_56_body hk21 ih h
theorem fv_fX3_drawText_21_body {σ0 : zSt} {k21 : zSt → Int32 → Int32 → Int32 → Int32 → Option (zSt)} (hk21 : ∀ (y0 : zSt) (y1 : Int32) (y2 : Int32) (y3 : Int32) (y4 : Int32), (zQ [3, 5, 7, 9, 10, 11, 12, 15, 17, 19, 21, 23, 25, 27, 28, 29, 30, 32, 34, 36, 40, 42, 44, 45] [] [5, 38, 46, 48] []) σ0 y0 → zpc (k21 y0 y1 y2 y3 y4) (fun r => (zQ [3, 5, 7, 9, 10, 11, 12, 15, 17, 19, 21, 23, 25, 27, 28, 29, 30, 32, 34, 36, 40, 42, 44, 45] [] [5, 38, 46, 48] []) σ0 (r))) {σ : zSt} {x1 : Int32} {x2 : Int32} {x3 : Int32} {x4 : Int32} (h : (zQ [3, 5, 7, 9, 10, 11, 12, 15, 17, 19, 21, 23, 25, 27, 28, 29, 30, 32, 34, 36, 40, 42, 44, 45] [] [5, 38, 46, 48] []) σ0 σ) : zpc (fX3_drawText_21_body k21 σ x1 x2 x3 x4) (fun r => (zQ [3, 5, 7, 9, 10, 11, 12, 15, 17, 19, 21, 23, 25, 27, 28, 29, 30, 32, 34, 36, 40, 42, 44, 45] [] [5, 38, 46, 48] []) σ0 (r)) := by
  unfold fX3_drawText_21_body
  exact zpc_if (fun _ => zpc_some h) (fun _ => zpc_bi (fv_fX9_vramByte h) (fun σ4 v5 hσ4 => zpc_bi (fv_fX3_patternAt hσ4) (fun σ6 v7 hσ6 => fv_fX3_drawText_56 hk21 _ _ _ _ _ _ _ _ hσ6)))
theorem fv_fX3_drawText_21 {σ0 : zSt} : ∀ (n : Nat) (y0 : zSt) (y1 : Int32) (y2 : Int32) (y3 : Int32) (y4 : Int32), (zQ [3, 5, 7, 9, 10, 11, 12, 15, 17, 19, 21, 23, 25, 27, 28, 29, 30, 32, 34, 36, 40, 42, 44, 45] [] [5, 38, 46, 48] []) σ0 y0 → zpc (fX3_drawText_21 n y0 y1 y2 y3 y4) (fun r => (zQ [3, 5, 7, 9, 10, 11, 12, 15, 17, 19, 21, 23, 25, 27, 28, 29, 30, 32, 34, 36, 40, 42, 44, 45] [] [5, 38, 46, 48] []) σ0 (r)) := by
  intro n
  induction n with
  | zero => intro y0 y1 y2 y3 y4 h; exact zpc_none
  | succ n ih => intro y0 y1 y2 y3 y4 h; exact fv_fX3_drawText_21_body ih h
theorem fv_fX3_drawText {σ0 : zSt} {σ : zSt} {x1 : Int32} {x2 : Int32} (h : (zQ [3, 5, 7, 9, 10, 11, 12, 15, 17, 19, 21, 23, 25, 27, 28, 29, 30, 32, 34, 36, 40, 42, 44, 45] [] [5, 38, 46, 48] []) σ0 σ) : zpc (fX3_drawText σ x1 x2) (fun r => (zQ [3, 5, 7, 9, 10, 11, 12, 15, 17, 19, 21, 23, 25, 27, 28, 29, 30, 32, 34, 36, 40, 42, 44, 45] [] [5, 38, 46, 48] []) σ0 (r)) := by
  unfold fX3_drawText
  exact zpc_bi (fv_fX9_held h) (fun σ8 v9 hσ8 => zpc_bu (fv_fJ7_fill_53178_k27 hσ8) (fun σ10 hσ10 => fv_fX3_drawText_21 _ _ _ _ _ _ hσ10))
theorem fv_fX3_drawPattern_57 {σ0 : zSt} {σ : zSt} (h : (zQ [3, 5, 7, 9, 10, 11, 12, 15, 17, 19, 21, 23, 25, 27, 28, 29, 30, 32, 34, 36, 40, 42, 44, 45] [] [5, 38, 46, 48] []) σ0 σ) : zpc (fX3_drawPattern_57 σ) (fun r => (zQ [3, 5, 7, 9, 10, 11, 12, 15, 17, 19, 21, 23, 25, 27, 28, 29, 30, 32, 34, 36, 40, 42, 44, 45] [] [5, 38, 46, 48] []) σ0 (r)) := by
  unfold fX3_drawPattern_57
  exact zpc_some h
theorem fv_fX3_drawPattern_50 {σ0 : zSt} {k3 : zSt → Int32 → Int32 → Int32 → Int32 → Option (zSt)} (hk3 : ∀ (y0 : zSt) (y1 : Int32) (y2 : Int32) (y3 : Int32) (y4 : Int32), (zQ [3, 5, 7, 9, 10, 11, 12, 15, 17, 19, 21, 23, 25, 27, 28, 29, 30, 32, 34, 36, 40, 42, 44, 45] [] [5, 38, 46, 48] []) σ0 y0 → zpc (k3 y0 y1 y2 y3 y4) (fun r => (zQ [3, 5, 7, 9, 10, 11, 12, 15, 17, 19, 21, 23, 25, 27, 28, 29, 30, 32, 34, 36, 40, 42, 44, 45] [] [5, 38, 46, 48] []) σ0 (r))) {σ : zSt} {x1 : Int32} {x2 : Int32} {x3 : Int32} {x4 : Int32} {s0 : Int32} {s1 : Int32} (h : (zQ [3, 5, 7, 9, 10, 11, 12, 15, 17, 19, 21, 23, 25, 27, 28, 29, 30, 32, 34, 36, 40, 42, 44, 45] [] [5, 38, 46, 48] []) σ0 σ) : zpc (fX3_drawPattern_50 k3 σ x1 x2 x3 x4 s0 s1) (fun r => (zQ [3, 5, 7, 9, 10, 11, 12, 15, 17, 19, 21, 23, 25, 27, 28, 29, 30, 32, 34, 36, 40, 42, 44, 45] [] [5, 38, 46, 48] []) σ0 (r)) := by
  unfold fX3_drawPattern_50
  exact zpc_ck (zpc_bs (zQ.wi h rfl) (fun σ1 hσ1 => zpc_bv (fun v2 _ => hk3 _ _ _ _ _ hσ1)))
theorem fv_fX3_drawPattern_3_body {σ0 : zSt} {k3 : zSt → Int32 → Int32 → Int32 → Int32 → Option (zSt)} (hk3 : ∀ (y0 : zSt) (y1 : Int32) (y2 : Int32) (y3 : Int32) (y4 : Int32), (zQ [3, 5, 7, 9, 10, 11, 12, 15, 17, 19, 21, 23, 25, 27, 28, 29, 30, 32, 34, 36, 40, 42, 44, 45] [] [5, 38, 46, 48] []) σ0 y0 → zpc (k3 y0 y1 y2 y3 y4) (fun r => (zQ [3, 5, 7, 9, 10, 11, 12, 15, 17, 19, 21, 23, 25, 27, 28, 29, 30, 32, 34, 36, 40, 42, 44, 45] [] [5, 38, 46, 48] []) σ0 (r))) {σ : zSt} {x1 : Int32} {x2 : Int32} {x3 : Int32} {x4 : Int32} (h : (zQ [3, 5, 7, 9, 10, 11, 12, 15, 17, 19, 21, 23, 25, 27, 28, 29, 30, 32, 34, 36, 40, 42, 44, 45] [] [5, 38, 46, 48] []) σ0 σ) : zpc (fX3_drawPattern_3_body k3 σ x1 x2 x3 x4) (fun r => (zQ [3, 5, 7, 9, 10, 11, 12, 15, 17, 19, 21, 23, 25, 27, 28, 29, 30, 32, 34, 36, 40, 42, 44, 45] [] [5, 38, 46, 48] []) σ0 (r)) := by
  unfold fX3_drawPattern_3_body
  exact zpc_if (fun _ => fv_fX3_drawPattern_57 h) (fun _ => zpc_if (fun _ => fv_fX3_drawPattern_57 h) (fun _ => zpc_if (fun _ => fv_fX3_drawPattern_50 hk3 h) (fun _ => fv_fX3_drawPattern_50 hk3 h)))
theorem fv_fX3_drawPattern_3 {σ0 : zSt} : ∀ (n : Nat) (y0 : zSt) (y1 : Int32) (y2 : Int32) (y3 : Int32) (y4 : Int32), (zQ [3, 5, 7, 9, 10, 11, 12, 15, 17, 19, 21, 23, 25, 27, 28, 29, 30, 32, 34, 36, 40, 42, 44, 45] [] [5, 38, 46, 48] []) σ0 y0 → zpc (fX3_drawPattern_3 n y0 y1 y2 y3 y4) (fun r => (zQ [3, 5, 7, 9, 10, 11, 12, 15, 17, 19, 21, 23, 25, 27, 28, 29, 30, 32, 34, 36, 40, 42, 44, 45] [] [5, 38, 46, 48] []) σ0 (r)) := by
  intro n
  induction n with
  | zero => intro y0 y1 y2 y3 y4 h; exact zpc_none
  | succ n ih => intro y0 y1 y2 y3 y4 h; exact fv_fX3_drawPattern_3_body ih h
theorem fv_fX3_drawPattern {σ0 : zSt} {σ : zSt} {x1 : Int32} {x2 : Int32} {x3 : Int32} (h : (zQ [3, 5, 7, 9, 10, 11, 12, 15, 17, 19, 21, 23, 25, 27, 28, 29, 30, 32, 34, 36, 40, 42, 44, 45] [] [5, 38, 46, 48] []) σ0 σ) : zpc (fX3_drawPattern σ x1 x2 x3) (fun r => (zQ [3, 5, 7, 9, 10, 11, 12, 15, 17, 19, 21, 23, 25, 27, 28, 29, 30, 32, 34, 36, 40, 42, 44, 45] [] [5, 38, 46, 48] []) σ0 (r)) := by
  unfold fX3_drawPattern
  exact fv_fX3_drawPattern_3 _ _ _ _ _ _ h
theorem fv_fX3_drawBlocks {σ0 : zSt} {σ : zSt} {x1 : Int32} {x2 : Int32} {x3 : Int32} (h : (zQ [3, 5, 7, 9, 10, 11, 12, 15, 17, 19, 21, 23, 25, 27, 28, 29, 30, 32, 34, 36, 40, 42, 44, 45] [] [5, 38, 46, 48] []) σ0 σ) : zpc (fX3_drawBlocks σ x1 x2 x3) (fun r => (zQ [3, 5, 7, 9, 10, 11, 12, 15, 17, 19, 21, 23, 25, 27, 28, 29, 30, 32, 34, 36, 40, 42, 44, 45] [] [5, 38, 46, 48] []) σ0 (r)) := by
  unfold fX3_drawBlocks
  exact zpc_bi (fv_fX9_held h) (fun σ1 v2 hσ1 => zpc_bv (fun v3 _ => zpc_bi (fv_fX9_vramByte hσ1) (fun σ4 v5 hσ4 => zpc_bu (fv_fX3_drawPattern hσ4) (fun σ6 hσ6 => zpc_some hσ6))))
theorem fv_fX3_drawThird {σ0 : zSt} {σ : zSt} {x1 : Int32} {x2 : Int32} {x3 : Int32} (h : (zQ [3, 5, 7, 9, 10, 11, 12, 15, 17, 19, 21, 23, 25, 27, 28, 29, 30, 32, 34, 36, 40, 42, 44, 45] [] [5, 38, 46, 48] []) σ0 σ) : zpc (fX3_drawThird σ x1 x2 x3) (fun r => (zQ [3, 5, 7, 9, 10, 11, 12, 15, 17, 19, 21, 23, 25, 27, 28, 29, 30, 32, 34, 36, 40, 42, 44, 45] [] [5, 38, 46, 48] []) σ0 (r)) := by
  unfold fX3_drawThird
  exact zpc_bi (fv_fX9_held h) (fun σ1 v2 hσ1 => zpc_bi (fv_fX9_held hσ1) (fun σ3 v4 hσ3 => zpc_bv (fun v5 _ => zpc_bv (fun v6 _ => zpc_bi (fv_fX9_vramByte hσ3) (fun σ7 v8 hσ7 => zpc_bi (fv_fX9_vramByte hσ7) (fun σ9 v10 hσ9 => zpc_bu (fv_fX3_drawPattern hσ9) (fun σ11 hσ11 => zpc_some hσ11)))))))
theorem fv_fX3_drawOld_165 {σ0 : zSt} {k31 : zSt → Int32 → Int32 → Int32 → Int32 → Option (zSt)} (hk31 : ∀ (y0 : zSt) (y1 : Int32) (y2 : Int32) (y3 : Int32) (y4 : Int32), (zQ [3, 5, 7, 9, 10, 11, 12, 15, 17, 19, 21, 23, 25, 27, 28, 29, 30, 32, 34, 36, 40, 42, 44, 45] [] [5, 38, 46, 48] []) σ0 y0 → zpc (k31 y0 y1 y2 y3 y4) (fun r => (zQ [3, 5, 7, 9, 10, 11, 12, 15, 17, 19, 21, 23, 25, 27, 28, 29, 30, 32, 34, 36, 40, 42, 44, 45] [] [5, 38, 46, 48] []) σ0 (r))) {σ : zSt} {x1 : Int32} {x2 : Int32} {x3 : Int32} {x4 : Int32} (h : (zQ [3, 5, 7, 9, 10, 11, 12, 15, 17, 19, 21, 23, 25, 27, 28, 29, 30, 32, 34, 36, 40, 42, 44, 45] [] [5, 38, 46, 48] []) σ0 σ) : zpc (fX3_drawOld_165 k31 σ x1 x2 x3 x4) (fun r => (zQ [3, 5, 7, 9, 10, 11, 12, 15, 17, 19, 21, 23, 25, 27, 28, 29, 30, 32, 34, 36, 40, 42, 44, 45] [] [5, 38, 46, 48] []) σ0 (r)) := by
  unfold fX3_drawOld_165
  exact zpc_bv (fun v1 _ => hk31 _ _ _ _ _ h)
theorem fv_fX3_drawOld_31_body {σ0 : zSt} {k31 : zSt → Int32 → Int32 → Int32 → Int32 → Option (zSt)} (hk31 : ∀ (y0 : zSt) (y1 : Int32) (y2 : Int32) (y3 : Int32) (y4 : Int32), (zQ [3, 5, 7, 9, 10, 11, 12, 15, 17, 19, 21, 23, 25, 27, 28, 29, 30, 32, 34, 36, 40, 42, 44, 45] [] [5, 38, 46, 48] []) σ0 y0 → zpc (k31 y0 y1 y2 y3 y4) (fun r => (zQ [3, 5, 7, 9, 10, 11, 12, 15, 17, 19, 21, 23, 25, 27, 28, 29, 30, 32, 34, 36, 40, 42, 44, 45] [] [5, 38, 46, 48] []) σ0 (r))) {σ : zSt} {x1 : Int32} {x2 : Int32} {x3 : Int32} {x4 : Int32} (h : (zQ [3, 5, 7, 9, 10, 11, 12, 15, 17, 19, 21, 23, 25, 27, 28, 29, 30, 32, 34, 36, 40, 42, 44, 45] [] [5, 38, 46, 48] []) σ0 σ) : zpc (fX3_drawOld_31_body k31 σ x1 x2 x3 x4) (fun r => (zQ [3, 5, 7, 9, 10, 11, 12, 15, 17, 19, 21, 23, 25, 27, 28, 29, 30, 32, 34, 36, 40, 42, 44, 45] [] [5, 38, 46, 48] []) σ0 (r)) := by
  unfold fX3_drawOld_31_body
  exact zpc_if (fun _ => zpc_some h) (fun _ => zpc_bi (fv_fX9_vramByte h) (fun σ2 v3 hσ2 => zpc_if (fun _ => zpc_bi (fv_fX3_patternAt hσ2) (fun σ4 v5 hσ4 => zpc_bi (fv_fX9_held hσ4) (fun σ6 v7 hσ6 => zpc_bi (fv_fX9_vramByte hσ6) (fun σ8 v9 hσ8 => zpc_bu (fv_fX3_drawPattern hσ8) (fun σ10 hσ10 => fv_fX3_drawOld_165 hk31 hσ10))))) (fun _ => zpc_if (fun _ => zpc_bu (fv_fX3_drawThird hσ2) (fun σ11 hσ11 => fv_fX3_drawOld_165 hk31 hσ11)) (fun _ => zpc_bu (fv_fX3_drawBlocks hσ2) (fun σ12 hσ12 => fv_fX3_drawOld_165 hk31 hσ12)))))
theorem fv_fX3_drawOld_31 {σ0 : zSt} : ∀ (n : Nat) (y0 : zSt) (y1 : Int32) (y2 : Int32) (y3 : Int32) (y4 : Int32), (zQ [3, 5, 7, 9, 10, 11, 12, 15, 17, 19, 21, 23, 25, 27, 28, 29, 30, 32, 34, 36, 40, 42, 44, 45] [] [5, 38, 46, 48] []) σ0 y0 → zpc (fX3_drawOld_31 n y0 y1 y2 y3 y4) (fun r => (zQ [3, 5, 7, 9, 10, 11, 12, 15, 17, 19, 21, 23, 25, 27, 28, 29, 30, 32, 34, 36, 40, 42, 44, 45] [] [5, 38, 46, 48] []) σ0 (r)) := by
  intro n
  induction n with
  | zero => intro y0 y1 y2 y3 y4 h; exact zpc_none
  | succ n ih => intro y0 y1 y2 y3 y4 h; exact fv_fX3_drawOld_31_body ih h
theorem fv_fX3_drawOld {σ0 : zSt} {σ : zSt} {x1 : Int32} {x2 : Int32} (h : (zQ [3, 5, 7, 9, 10, 11, 12, 15, 17, 19, 21, 23, 25, 27, 28, 29, 30, 32, 34, 36, 40, 42, 44, 45] [] [5, 38, 46, 48] []) σ0 σ) : zpc (fX3_drawOld σ x1 x2) (fun r => (zQ [3, 5, 7, 9, 10, 11, 12, 15, 17, 19, 21, 23, 25, 27, 28, 29, 30, 32, 34, 36, 40, 42, 44, 45] [] [5, 38, 46, 48] []) σ0 (r)) := by
  unfold fX3_drawOld
  exact zpc_bi (fv_fX9_held h) (fun σ13 v14 hσ13 => zpc_bv (fun v15 _ => zpc_if (fun _ => zpc_bu (fv_fX3_drawText hσ13) (fun σ16 hσ16 => zpc_some hσ16)) (fun _ => fv_fX3_drawOld_31 _ _ _ _ _ _ hσ13)))
theorem fv_fX9_markFifth_39 {σ0 : zSt} {σ : zSt} (h : (zQ [3, 5, 7, 9, 10, 11, 12, 15, 17, 19, 21, 23, 25, 27, 28, 29, 30, 32, 34, 36, 40, 42, 44, 45] [] [5, 38, 46, 48] []) σ0 σ) : zpc (fX9_markFifth_39 σ) (fun r => (zQ [3, 5, 7, 9, 10, 11, 12, 15, 17, 19, 21, 23, 25, 27, 28, 29, 30, 32, 34, 36, 40, 42, 44, 45] [] [5, 38, 46, 48] []) σ0 (r)) := by
  unfold fX9_markFifth_39
  exact zpc_some h
theorem fv_fX9_markFifth {σ0 : zSt} {σ : zSt} {x1 : Int32} (h : (zQ [3, 5, 7, 9, 10, 11, 12, 15, 17, 19, 21, 23, 25, 27, 28, 29, 30, 32, 34, 36, 40, 42, 44, 45] [] [5, 38, 46, 48] []) σ0 σ) : zpc (fX9_markFifth σ x1) (fun r => (zQ [3, 5, 7, 9, 10, 11, 12, 15, 17, 19, 21, 23, 25, 27, 28, 29, 30, 32, 34, 36, 40, 42, 44, 45] [] [5, 38, 46, 48] []) σ0 (r)) := by
  unfold fX9_markFifth
  exact zpc_ck (zpc_if (fun _ => zpc_ck (zpc_ck (zpc_bs (zQ.wi h rfl) (fun σ1 hσ1 => fv_fX9_markFifth_39 hσ1)))) (fun _ => fv_fX9_markFifth_39 h))
theorem fv_fX3_takeDot_41 {σ0 : zSt} {σ : zSt} (h : (zQ [3, 5, 7, 9, 10, 11, 12, 15, 17, 19, 21, 23, 25, 27, 28, 29, 30, 32, 34, 36, 40, 42, 44, 45] [] [5, 38, 46, 48] []) σ0 σ) : zpc (fX3_takeDot_41 σ) (fun r => (zQ [3, 5, 7, 9, 10, 11, 12, 15, 17, 19, 21, 23, 25, 27, 28, 29, 30, 32, 34, 36, 40, 42, 44, 45] [] [5, 38, 46, 48] []) σ0 (r)) := by
  unfold fX3_takeDot_41
  exact zpc_some h
theorem fv_fX3_takeDot_18 {σ0 : zSt} {σ : zSt} {x1 : Int32} {x2 : Int32} (h : (zQ [3, 5, 7, 9, 10, 11, 12, 15, 17, 19, 21, 23, 25, 27, 28, 29, 30, 32, 34, 36, 40, 42, 44, 45] [] [5, 38, 46, 48] []) σ0 σ) : zpc (fX3_takeDot_18 σ x1 x2) (fun r => (zQ [3, 5, 7, 9, 10, 11, 12, 15, 17, 19, 21, 23, 25, 27, 28, 29, 30, 32, 34, 36, 40, 42, 44, 45] [] [5, 38, 46, 48] []) σ0 (r)) := by
  unfold fX3_takeDot_18
  exact zpc_ck (zpc_if (fun _ => zpc_ck (zpc_bs (zQ.wi h rfl) (fun σ1 hσ1 => fv_fX3_takeDot_41 hσ1))) (fun _ => fv_fX3_takeDot_41 h))
theorem fv_fX3_takeDot {σ0 : zSt} {σ : zSt} {x1 : Int32} {x2 : Int32} (h : (zQ [3, 5, 7, 9, 10, 11, 12, 15, 17, 19, 21, 23, 25, 27, 28, 29, 30, 32, 34, 36, 40, 42, 44, 45] [] [5, 38, 46, 48] []) σ0 σ) : zpc (fX3_takeDot σ x1 x2) (fun r => (zQ [3, 5, 7, 9, 10, 11, 12, 15, 17, 19, 21, 23, 25, 27, 28, 29, 30, 32, 34, 36, 40, 42, 44, 45] [] [5, 38, 46, 48] []) σ0 (r)) := by
  unfold fX3_takeDot
  exact zpc_ck (zpc_if (fun _ => fv_fX3_takeDot_18 h) (fun _ => zpc_bu (fv_fX9_mark h) (fun σ2 hσ2 => fv_fX3_takeDot_18 hσ2)))
theorem fv_fX3_drawOldSprite_224 {σ0 : zSt} {k158 : zSt → Int32 → Int32 → Int32 → Int32 → Int32 → Int32 → Option (zSt)} (hk158 : ∀ (y0 : zSt) (y1 : Int32) (y2 : Int32) (y3 : Int32) (y4 : Int32) (y5 : Int32) (y6 : Int32), (zQ [3, 5, 7, 9, 10, 11, 12, 15, 17, 19, 21, 23, 25, 27, 28, 29, 30, 32, 34, 36, 40, 42, 44, 45] [] [5, 38, 46, 48] []) σ0 y0 → zpc (k158 y0 y1 y2 y3 y4 y5 y6) (fun r => (zQ [3, 5, 7, 9, 10, 11, 12, 15, 17, 19, 21, 23, 25, 27, 28, 29, 30, 32, 34, 36, 40, 42, 44, 45] [] [5, 38, 46, 48] []) σ0 (r))) {σ : zSt} {x3 : Int32} {x4 : Int32} {x7 : Int32} {x8 : Int32} {x10 : Int32} {x11 : Int32} (h : (zQ [3, 5, 7, 9, 10, 11, 12, 15, 17, 19, 21, 23, 25, 27, 28, 29, 30, 32, 34, 36, 40, 42, 44, 45] [] [5, 38, 46, 48] []) σ0 σ) : zpc (fX3_drawOldSprite_224 k158 σ x3 x4 x7 x8 x10 x11) (fun r => (zQ [3, 5, 7, 9, 10, 11, 12, 15, 17, 19, 21, 23, 25, 27, 28, 29, 30, 32, 34, 36, 40, 42, 44, 45] [] [5, 38, 46, 48] []) σ0 (r)) := by
  unfold fX3_drawOldSprite_224
  exact zpc_bv (fun v1 _ => hk158 _ _ _ _ _ _ _ h)
theorem fv_fX3_drawOldSprite_172 {σ0 : zSt} {k158 : zSt → Int32 → Int32 → Int32 → Int32 → Int32 → Int32 → Option (zSt)} (hk158 : ∀ (y0 : zSt) (y1 : Int32) (y2 : Int32) (y3 : Int32) (y4 : Int32) (y5 : Int32) (y6 : Int32), (zQ [3, 5, 7, 9, 10, 11, 12, 15, 17, 19, 21, 23, 25, 27, 28, 29, 30, 32, 34, 36, 40, 42, 44, 45] [] [5, 38, 46, 48] []) σ0 y0 → zpc (k158 y0 y1 y2 y3 y4 y5 y6) (fun r => (zQ [3, 5, 7, 9, 10, 11, 12, 15, 17, 19, 21, 23, 25, 27, 28, 29, 30, 32, 34, 36, 40, 42, 44, 45] [] [5, 38, 46, 48] []) σ0 (r))) {σ : zSt} {x3 : Int32} {x4 : Int32} {x7 : Int32} {x8 : Int32} {x10 : Int32} {x11 : Int32} {s0 : Int32} {s1 : Int32} (h : (zQ [3, 5, 7, 9, 10, 11, 12, 15, 17, 19, 21, 23, 25, 27, 28, 29, 30, 32, 34, 36, 40, 42, 44, 45] [] [5, 38, 46, 48] []) σ0 σ) : zpc (fX3_drawOldSprite_172 k158 σ x3 x4 x7 x8 x10 x11 s0 s1) (fun r => (zQ [3, 5, 7, 9, 10, 11, 12, 15, 17, 19, 21, 23, 25, 27, 28, 29, 30, 32, 34, 36, 40, 42, 44, 45] [] [5, 38, 46, 48] []) σ0 (r)) := by
  unfold fX3_drawOldSprite_172
  exact zpc_if (fun _ => zpc_some h) (fun _ => zpc_bv (fun v2 _ => zpc_if (fun _ => fv_fX3_drawOldSprite_224 hk158 h) (fun _ => zpc_if (fun _ => fv_fX3_drawOldSprite_224 hk158 h) (fun _ => zpc_if (fun _ => fv_fX3_drawOldSprite_224 hk158 h) (fun _ => zpc_bu (fv_fX3_takeDot h) (fun σ3 hσ3 => fv_fX3_drawOldSprite_224 hk158 hσ3))))))
theorem fv_fX3_drawOldSprite_158_body {σ0 : zSt} {k158 : zSt → Int32 → Int32 → Int32 → Int32 → Int32 → Int32 → Option (zSt)} (hk158 : ∀ (y0 : zSt) (y1 : Int32) (y2 : Int32) (y3 : Int32) (y4 : Int32) (y5 : Int32) (y6 : Int32), (zQ [3, 5, 7, 9, 10, 11, 12, 15, 17, 19, 21, 23, 25, 27, 28, 29, 30, 32, 34, 36, 40, 42, 44, 45] [] [5, 38, 46, 48] []) σ0 y0 → zpc (k158 y0 y1 y2 y3 y4 y5 y6) (fun r => (zQ [3, 5, 7, 9, 10, 11, 12, 15, 17, 19, 21, 23, 25, 27, 28, 29, 30, 32, 34, 36, 40, 42, 44, 45] [] [5, 38, 46, 48] []) σ0 (r))) {σ : zSt} {x3 : Int32} {x4 : Int32} {x7 : Int32} {x8 : Int32} {x10 : Int32} {x11 : Int32} (h : (zQ [3, 5, 7, 9, 10, 11, 12, 15, 17, 19, 21, 23, 25, 27, 28, 29, 30, 32, 34, 36, 40, 42, 44, 45] [] [5, 38, 46, 48] []) σ0 σ) : zpc (fX3_drawOldSprite_158_body k158 σ x3 x4 x7 x8 x10 x11) (fun r => (zQ [3, 5, 7, 9, 10, 11, 12, 15, 17, 19, 21, 23, 25, 27, 28, 29, 30, 32, 34, 36, 40, 42, 44, 45] [] [5, 38, 46, 48] []) σ0 (r)) := by
  unfold fX3_drawOldSprite_158_body
  exact zpc_if (fun _ => fv_fX3_drawOldSprite_172 hk158 h) (fun _ => fv_fX3_drawOldSprite_172 hk158 h)
theorem fv_fX3_drawOldSprite_158 {σ0 : zSt} : ∀ (n : Nat) (y0 : zSt) (y1 : Int32) (y2 : Int32) (y3 : Int32) (y4 : Int32) (y5 : Int32) (y6 : Int32), (zQ [3, 5, 7, 9, 10, 11, 12, 15, 17, 19, 21, 23, 25, 27, 28, 29, 30, 32, 34, 36, 40, 42, 44, 45] [] [5, 38, 46, 48] []) σ0 y0 → zpc (fX3_drawOldSprite_158 n y0 y1 y2 y3 y4 y5 y6) (fun r => (zQ [3, 5, 7, 9, 10, 11, 12, 15, 17, 19, 21, 23, 25, 27, 28, 29, 30, 32, 34, 36, 40, 42, 44, 45] [] [5, 38, 46, 48] []) σ0 (r)) := by
  intro n
  induction n with
  | zero => intro y0 y1 y2 y3 y4 y5 y6 h; exact zpc_none
  | succ n ih => intro y0 y1 y2 y3 y4 y5 y6 h; exact fv_fX3_drawOldSprite_158_body ih h
theorem fv_fX3_drawOldSprite_152 {σ0 : zSt} {σ : zSt} {x3 : Int32} {x4 : Int32} {x7 : Int32} {x8 : Int32} {s0 : Int32} {s1 : Int32} (h : (zQ [3, 5, 7, 9, 10, 11, 12, 15, 17, 19, 21, 23, 25, 27, 28, 29, 30, 32, 34, 36, 40, 42, 44, 45] [] [5, 38, 46, 48] []) σ0 σ) : zpc (fX3_drawOldSprite_152 σ x3 x4 x7 x8 s0 s1) (fun r => (zQ [3, 5, 7, 9, 10, 11, 12, 15, 17, 19, 21, 23, 25, 27, 28, 29, 30, 32, 34, 36, 40, 42, 44, 45] [] [5, 38, 46, 48] []) σ0 (r)) := by
  unfold fX3_drawOldSprite_152
  exact zpc_bv (fun v4 _ => fv_fX3_drawOldSprite_158 _ _ _ _ _ _ _ _ h)
theorem fv_fX3_drawOldSprite_113 {σ0 : zSt} {σ : zSt} {x2 : Int32} {x3 : Int32} {x4 : Int32} {x7 : Int32} {x8 : Int32} {s0 : Int32} {s1 : Int32} {s2 : Int32} (h : (zQ [3, 5, 7, 9, 10, 11, 12, 15, 17, 19, 21, 23, 25, 27, 28, 29, 30, 32, 34, 36, 40, 42, 44, 45] [] [5, 38, 46, 48] []) σ0 σ) : zpc (fX3_drawOldSprite_113 σ x2 x3 x4 x7 x8 s0 s1 s2) (fun r => (zQ [3, 5, 7, 9, 10, 11, 12, 15, 17, 19, 21, 23, 25, 27, 28, 29, 30, 32, 34, 36, 40, 42, 44, 45] [] [5, 38, 46, 48] []) σ0 (r)) := by
  unfold fX3_drawOldSprite_113
  exact zpc_bv (fun v5 _ => zpc_bi (fv_fX9_vramByte h) (fun σ6 v7 hσ6 => zpc_if (fun _ => fv_fX3_drawOldSprite_152 hσ6) (fun _ => zpc_bi (fv_fX9_vramByte hσ6) (fun σ8 v9 hσ8 => fv_fX3_drawOldSprite_152 hσ8))))
theorem fv_fX3_drawOldSprite_78 {σ0 : zSt} {σ : zSt} {x2 : Int32} {x3 : Int32} {x4 : Int32} {x5 : Int32} {x7 : Int32} {s0 : Int32} (h : (zQ [3, 5, 7, 9, 10, 11, 12, 15, 17, 19, 21, 23, 25, 27, 28, 29, 30, 32, 34, 36, 40, 42, 44, 45] [] [5, 38, 46, 48] []) σ0 σ) : zpc (fX3_drawOldSprite_78 σ x2 x3 x4 x5 x7 s0) (fun r => (zQ [3, 5, 7, 9, 10, 11, 12, 15, 17, 19, 21, 23, 25, 27, 28, 29, 30, 32, 34, 36, 40, 42, 44, 45] [] [5, 38, 46, 48] []) σ0 (r)) := by
  unfold fX3_drawOldSprite_78
  exact zpc_bi (fv_fX9_held h) (fun σ10 v11 hσ10 => zpc_if (fun _ => fv_fX3_drawOldSprite_113 hσ10) (fun _ => fv_fX3_drawOldSprite_113 hσ10))
theorem fv_fX3_drawOldSprite_35 {σ0 : zSt} {σ : zSt} {x1 : Int32} {x2 : Int32} {x3 : Int32} {s0 : Int32} {s1 : Int32} (h : (zQ [3, 5, 7, 9, 10, 11, 12, 15, 17, 19, 21, 23, 25, 27, 28, 29, 30, 32, 34, 36, 40, 42, 44, 45] [] [5, 38, 46, 48] []) σ0 σ) : zpc (fX3_drawOldSprite_35 σ x1 x2 x3 s0 s1) (fun r => (zQ [3, 5, 7, 9, 10, 11, 12, 15, 17, 19, 21, 23, 25, 27, 28, 29, 30, 32, 34, 36, 40, 42, 44, 45] [] [5, 38, 46, 48] []) σ0 (r)) := by
  unfold fX3_drawOldSprite_35
  exact zpc_bv (fun v12 _ => zpc_bi (fv_fX9_vramByte h) (fun σ13 v14 hσ13 => zpc_bi (fv_fX9_held hσ13) (fun σ15 v16 hσ15 => zpc_bv (fun v17 _ => zpc_if (fun _ => fv_fX3_drawOldSprite_78 hσ15) (fun _ => fv_fX3_drawOldSprite_78 hσ15)))))
theorem fv_fX3_drawOldSprite {σ0 : zSt} {σ : zSt} {x1 : Int32} {x2 : Int32} (h : (zQ [3, 5, 7, 9, 10, 11, 12, 15, 17, 19, 21, 23, 25, 27, 28, 29, 30, 32, 34, 36, 40, 42, 44, 45] [] [5, 38, 46, 48] []) σ0 σ) : zpc (fX3_drawOldSprite σ x1 x2) (fun r => (zQ [3, 5, 7, 9, 10, 11, 12, 15, 17, 19, 21, 23, 25, 27, 28, 29, 30, 32, 34, 36, 40, 42, 44, 45] [] [5, 38, 46, 48] []) σ0 (r)) := by
  unfold fX3_drawOldSprite
  exact zpc_bi (fv_fX9_vramByte h) (fun σ18 v19 hσ18 => zpc_bi (fv_fX9_vramByte hσ18) (fun σ20 v21 hσ20 => zpc_if (fun _ => fv_fX3_drawOldSprite_35 hσ20) (fun _ => fv_fX3_drawOldSprite_35 hσ20)))
theorem fv_fX3_drawOldSprites_155 {σ0 : zSt} {k117 : zSt → Int32 → Option (zSt)} (hk117 : ∀ (y0 : zSt) (y1 : Int32), (zQ [3, 5, 7, 9, 10, 11, 12, 15, 17, 19, 21, 23, 25, 27, 28, 29, 30, 32, 34, 36, 40, 42, 44, 45] [] [5, 38, 46, 48] []) σ0 y0 → zpc (k117 y0 y1) (fun r => (zQ [3, 5, 7, 9, 10, 11, 12, 15, 17, 19, 21, 23, 25, 27, 28, 29, 30, 32, 34, 36, 40, 42, 44, 45] [] [5, 38, 46, 48] []) σ0 (r))) {σ : zSt} {x4 : Int32} (h : (zQ [3, 5, 7, 9, 10, 11, 12, 15, 17, 19, 21, 23, 25, 27, 28, 29, 30, 32, 34, 36, 40, 42, 44, 45] [] [5, 38, 46, 48] []) σ0 σ) : zpc (fX3_drawOldSprites_155 k117 σ x4) (fun r => (zQ [3, 5, 7, 9, 10, 11, 12, 15, 17, 19, 21, 23, 25, 27, 28, 29, 30, 32, 34, 36, 40, 42, 44, 45] [] [5, 38, 46, 48] []) σ0 (r)) := by
  unfold fX3_drawOldSprites_155
  exact zpc_bv (fun v1 _ => hk117 _ _ h)
theorem fv_fX3_drawOldSprites_117_body {σ0 : zSt} {k117 : zSt → Int32 → Option (zSt)} (hk117 : ∀ (y0 : zSt) (y1 : Int32), (zQ [3, 5, 7, 9, 10, 11, 12, 15, 17, 19, 21, 23, 25, 27, 28, 29, 30, 32, 34, 36, 40, 42, 44, 45] [] [5, 38, 46, 48] []) σ0 y0 → zpc (k117 y0 y1) (fun r => (zQ [3, 5, 7, 9, 10, 11, 12, 15, 17, 19, 21, 23, 25, 27, 28, 29, 30, 32, 34, 36, 40, 42, 44, 45] [] [5, 38, 46, 48] []) σ0 (r))) {σ : zSt} {x4 : Int32} (h : (zQ [3, 5, 7, 9, 10, 11, 12, 15, 17, 19, 21, 23, 25, 27, 28, 29, 30, 32, 34, 36, 40, 42, 44, 45] [] [5, 38, 46, 48] []) σ0 σ) : zpc (fX3_drawOldSprites_117_body k117 σ x4) (fun r => (zQ [3, 5, 7, 9, 10, 11, 12, 15, 17, 19, 21, 23, 25, 27, 28, 29, 30, 32, 34, 36, 40, 42, 44, 45] [] [5, 38, 46, 48] []) σ0 (r)) := by
  unfold fX3_drawOldSprites_117_body
  exact zpc_if (fun _ => zpc_some h) (fun _ => zpc_ck (zpc_if (fun _ => fv_fX3_drawOldSprites_155 hk117 h) (fun _ => zpc_ck (zpc_ck (zpc_bs (zQ.wi h rfl) (fun σ2 hσ2 => fv_fX3_drawOldSprites_155 hk117 hσ2))))))
theorem fv_fX3_drawOldSprites_117 {σ0 : zSt} : ∀ (n : Nat) (y0 : zSt) (y1 : Int32), (zQ [3, 5, 7, 9, 10, 11, 12, 15, 17, 19, 21, 23, 25, 27, 28, 29, 30, 32, 34, 36, 40, 42, 44, 45] [] [5, 38, 46, 48] []) σ0 y0 → zpc (fX3_drawOldSprites_117 n y0 y1) (fun r => (zQ [3, 5, 7, 9, 10, 11, 12, 15, 17, 19, 21, 23, 25, 27, 28, 29, 30, 32, 34, 36, 40, 42, 44, 45] [] [5, 38, 46, 48] []) σ0 (r)) := by
  intro n
  induction n with
  | zero => intro y0 y1 h; exact zpc_none
  | succ n ih => intro y0 y1 h; exact fv_fX3_drawOldSprites_117_body ih h
theorem fv_fX3_drawOldSprites_114 {σ0 : zSt} {σ : zSt} (h : (zQ [3, 5, 7, 9, 10, 11, 12, 15, 17, 19, 21, 23, 25, 27, 28, 29, 30, 32, 34, 36, 40, 42, 44, 45] [] [5, 38, 46, 48] []) σ0 σ) : zpc (fX3_drawOldSprites_114 σ) (fun r => (zQ [3, 5, 7, 9, 10, 11, 12, 15, 17, 19, 21, 23, 25, 27, 28, 29, 30, 32, 34, 36, 40, 42, 44, 45] [] [5, 38, 46, 48] []) σ0 (r)) := by
  unfold fX3_drawOldSprites_114
  exact fv_fX3_drawOldSprites_117 _ _ _ h
theorem fv_fX3_drawOldSprites_108 {σ0 : zSt} {k29 : zSt → Int32 → Int32 → Int32 → Int32 → Option (zSt)} (hk29 : ∀ (y0 : zSt) (y1 : Int32) (y2 : Int32) (y3 : Int32) (y4 : Int32), (zQ [3, 5, 7, 9, 10, 11, 12, 15, 17, 19, 21, 23, 25, 27, 28, 29, 30, 32, 34, 36, 40, 42, 44, 45] [] [5, 38, 46, 48] []) σ0 y0 → zpc (k29 y0 y1 y2 y3 y4) (fun r => (zQ [3, 5, 7, 9, 10, 11, 12, 15, 17, 19, 21, 23, 25, 27, 28, 29, 30, 32, 34, 36, 40, 42, 44, 45] [] [5, 38, 46, 48] []) σ0 (r))) {σ : zSt} {x1 : Int32} {x2 : Int32} {x3 : Int32} {x4 : Int32} (h : (zQ [3, 5, 7, 9, 10, 11, 12, 15, 17, 19, 21, 23, 25, 27, 28, 29, 30, 32, 34, 36, 40, 42, 44, 45] [] [5, 38, 46, 48] []) σ0 σ) : zpc (fX3_drawOldSprites_108 k29 σ x1 x2 x3 x4) (fun r => (zQ [3, 5, 7, 9, 10, 11, 12, 15, 17, 19, 21, 23, 25, 27, 28, 29, 30, 32, 34, 36, 40, 42, 44, 45] [] [5, 38, 46, 48] []) σ0 (r)) := by
  unfold fX3_drawOldSprites_108
  exact zpc_bv (fun v3 _ => hk29 _ _ _ _ _ h)
theorem fv_fX3_drawOldSprites_29_body {σ0 : zSt} {k29 : zSt → Int32 → Int32 → Int32 → Int32 → Option (zSt)} (hk29 : ∀ (y0 : zSt) (y1 : Int32) (y2 : Int32) (y3 : Int32) (y4 : Int32), (zQ [3, 5, 7, 9, 10, 11, 12, 15, 17, 19, 21, 23, 25, 27, 28, 29, 30, 32, 34, 36, 40, 42, 44, 45] [] [5, 38, 46, 48] []) σ0 y0 → zpc (k29 y0 y1 y2 y3 y4) (fun r => (zQ [3, 5, 7, 9, 10, 11, 12, 15, 17, 19, 21, 23, 25, 27, 28, 29, 30, 32, 34, 36, 40, 42, 44, 45] [] [5, 38, 46, 48] []) σ0 (r))) {σ : zSt} {x1 : Int32} {x2 : Int32} {x3 : Int32} {x4 : Int32} (h : (zQ [3, 5, 7, 9, 10, 11, 12, 15, 17, 19, 21, 23, 25, 27, 28, 29, 30, 32, 34, 36, 40, 42, 44, 45] [] [5, 38, 46, 48] []) σ0 σ) : zpc (fX3_drawOldSprites_29_body k29 σ x1 x2 x3 x4) (fun r => (zQ [3, 5, 7, 9, 10, 11, 12, 15, 17, 19, 21, 23, 25, 27, 28, 29, 30, 32, 34, 36, 40, 42, 44, 45] [] [5, 38, 46, 48] []) σ0 (r)) := by
  unfold fX3_drawOldSprites_29_body
  exact zpc_if (fun _ => fv_fX3_drawOldSprites_114 h) (fun _ => zpc_bv (fun v4 _ => zpc_bi (fv_fX9_vramByte h) (fun σ5 v6 hσ5 => zpc_if (fun _ => fv_fX3_drawOldSprites_114 hσ5) (fun _ => zpc_bi (fv_fX3_rowOfSprite hσ5) (fun σ7 v8 hσ7 => zpc_if (fun _ => fv_fX3_drawOldSprites_108 hk29 hσ7) (fun _ => zpc_bv (fun v9 _ => zpc_if (fun _ => zpc_bu (fv_fX3_drawOldSprite hσ7) (fun σ10 hσ10 => fv_fX3_drawOldSprites_108 hk29 hσ10)) (fun _ => zpc_bu (fv_fX9_markFifth hσ7) (fun σ11 hσ11 => fv_fX3_drawOldSprites_114 hσ11)))))))))
theorem fv_fX3_drawOldSprites_29 {σ0 : zSt} : ∀ (n : Nat) (y0 : zSt) (y1 : Int32) (y2 : Int32) (y3 : Int32) (y4 : Int32), (zQ [3, 5, 7, 9, 10, 11, 12, 15, 17, 19, 21, 23, 25, 27, 28, 29, 30, 32, 34, 36, 40, 42, 44, 45] [] [5, 38, 46, 48] []) σ0 y0 → zpc (fX3_drawOldSprites_29 n y0 y1 y2 y3 y4) (fun r => (zQ [3, 5, 7, 9, 10, 11, 12, 15, 17, 19, 21, 23, 25, 27, 28, 29, 30, 32, 34, 36, 40, 42, 44, 45] [] [5, 38, 46, 48] []) σ0 (r)) := by
  intro n
  induction n with
  | zero => intro y0 y1 y2 y3 y4 h; exact zpc_none
  | succ n ih => intro y0 y1 y2 y3 y4 h; exact fv_fX3_drawOldSprites_29_body ih h
theorem fv_fX3_drawOldSprites {σ0 : zSt} {σ : zSt} {x1 : Int32} (h : (zQ [3, 5, 7, 9, 10, 11, 12, 15, 17, 19, 21, 23, 25, 27, 28, 29, 30, 32, 34, 36, 40, 42, 44, 45] [] [5, 38, 46, 48] []) σ0 σ) : zpc (fX3_drawOldSprites σ x1) (fun r => (zQ [3, 5, 7, 9, 10, 11, 12, 15, 17, 19, 21, 23, 25, 27, 28, 29, 30, 32, 34, 36, 40, 42, 44, 45] [] [5, 38, 46, 48] []) σ0 (r)) := by
  unfold fX3_drawOldSprites
  exact zpc_bu (fv_fJ7_fill_53178_k28 h) (fun σ12 hσ12 => zpc_bi (fv_fX9_held hσ12) (fun σ13 v14 hσ13 => zpc_bv (fun v15 _ => fv_fX3_drawOldSprites_29 _ _ _ _ _ _ hσ13)))
theorem fv_fX3_fillBack_25 {σ0 : zSt} {k2 : zSt → Int32 → Int32 → Option (zSt)} (hk2 : ∀ (y0 : zSt) (y1 : Int32) (y2 : Int32), (zQ [3, 5, 7, 9, 10, 11, 12, 15, 17, 19, 21, 23, 25, 27, 28, 29, 30, 32, 34, 36, 40, 42, 44, 45] [] [5, 38, 46, 48] []) σ0 y0 → zpc (k2 y0 y1 y2) (fun r => (zQ [3, 5, 7, 9, 10, 11, 12, 15, 17, 19, 21, 23, 25, 27, 28, 29, 30, 32, 34, 36, 40, 42, 44, 45] [] [5, 38, 46, 48] []) σ0 (r))) {σ : zSt} {x1 : Int32} {x2 : Int32} (h : (zQ [3, 5, 7, 9, 10, 11, 12, 15, 17, 19, 21, 23, 25, 27, 28, 29, 30, 32, 34, 36, 40, 42, 44, 45] [] [5, 38, 46, 48] []) σ0 σ) : zpc (fX3_fillBack_25 k2 σ x1 x2) (fun r => (zQ [3, 5, 7, 9, 10, 11, 12, 15, 17, 19, 21, 23, 25, 27, 28, 29, 30, 32, 34, 36, 40, 42, 44, 45] [] [5, 38, 46, 48] []) σ0 (r)) := by
  unfold fX3_fillBack_25
  exact zpc_bv (fun v1 _ => hk2 _ _ _ h)
theorem fv_fX3_fillBack_2_body {σ0 : zSt} {k2 : zSt → Int32 → Int32 → Option (zSt)} (hk2 : ∀ (y0 : zSt) (y1 : Int32) (y2 : Int32), (zQ [3, 5, 7, 9, 10, 11, 12, 15, 17, 19, 21, 23, 25, 27, 28, 29, 30, 32, 34, 36, 40, 42, 44, 45] [] [5, 38, 46, 48] []) σ0 y0 → zpc (k2 y0 y1 y2) (fun r => (zQ [3, 5, 7, 9, 10, 11, 12, 15, 17, 19, 21, 23, 25, 27, 28, 29, 30, 32, 34, 36, 40, 42, 44, 45] [] [5, 38, 46, 48] []) σ0 (r))) {σ : zSt} {x1 : Int32} {x2 : Int32} (h : (zQ [3, 5, 7, 9, 10, 11, 12, 15, 17, 19, 21, 23, 25, 27, 28, 29, 30, 32, 34, 36, 40, 42, 44, 45] [] [5, 38, 46, 48] []) σ0 σ) : zpc (fX3_fillBack_2_body k2 σ x1 x2) (fun r => (zQ [3, 5, 7, 9, 10, 11, 12, 15, 17, 19, 21, 23, 25, 27, 28, 29, 30, 32, 34, 36, 40, 42, 44, 45] [] [5, 38, 46, 48] []) σ0 (r)) := by
  unfold fX3_fillBack_2_body
  exact zpc_if (fun _ => zpc_some h) (fun _ => zpc_ck (zpc_if (fun _ => zpc_ck (zpc_bs (zQ.wi h rfl) (fun σ2 hσ2 => fv_fX3_fillBack_25 hk2 hσ2))) (fun _ => fv_fX3_fillBack_25 hk2 h)))
theorem fv_fX3_fillBack_2 {σ0 : zSt} : ∀ (n : Nat) (y0 : zSt) (y1 : Int32) (y2 : Int32), (zQ [3, 5, 7, 9, 10, 11, 12, 15, 17, 19, 21, 23, 25, 27, 28, 29, 30, 32, 34, 36, 40, 42, 44, 45] [] [5, 38, 46, 48] []) σ0 y0 → zpc (fX3_fillBack_2 n y0 y1 y2) (fun r => (zQ [3, 5, 7, 9, 10, 11, 12, 15, 17, 19, 21, 23, 25, 27, 28, 29, 30, 32, 34, 36, 40, 42, 44, 45] [] [5, 38, 46, 48] []) σ0 (r)) := by
  intro n
  induction n with
  | zero => intro y0 y1 y2 h; exact zpc_none
  | succ n ih => intro y0 y1 y2 h; exact fv_fX3_fillBack_2_body ih h
theorem fv_fX3_fillBack {σ0 : zSt} {σ : zSt} {x1 : Int32} (h : (zQ [3, 5, 7, 9, 10, 11, 12, 15, 17, 19, 21, 23, 25, 27, 28, 29, 30, 32, 34, 36, 40, 42, 44, 45] [] [5, 38, 46, 48] []) σ0 σ) : zpc (fX3_fillBack σ x1) (fun r => (zQ [3, 5, 7, 9, 10, 11, 12, 15, 17, 19, 21, 23, 25, 27, 28, 29, 30, 32, 34, 36, 40, 42, 44, 45] [] [5, 38, 46, 48] []) σ0 (r)) := by
  unfold fX3_fillBack
  exact fv_fX3_fillBack_2 _ _ _ _ h
theorem fv_fX3_draw_21 {σ0 : zSt} {σ : zSt} (h : (zQ [3, 5, 7, 9, 10, 11, 12, 15, 17, 19, 21, 23, 25, 27, 28, 29, 30, 32, 34, 36, 40, 42, 44, 45] [] [5, 38, 46, 48] []) σ0 σ) : zpc (fX3_draw_21 σ) (fun r => (zQ [3, 5, 7, 9, 10, 11, 12, 15, 17, 19, 21, 23, 25, 27, 28, 29, 30, 32, 34, 36, 40, 42, 44, 45] [] [5, 38, 46, 48] []) σ0 (r)) := by
  unfold fX3_draw_21
  exact zpc_some h
theorem fv_fX3_draw_152_body {σ0 : zSt} {k152 : zSt → Int32 → Int32 → Option (zSt)} (hk152 : ∀ (y0 : zSt) (y1 : Int32) (y2 : Int32), (zQ [3, 5, 7, 9, 10, 11, 12, 15, 17, 19, 21, 23, 25, 27, 28, 29, 30, 32, 34, 36, 40, 42, 44, 45] [] [5, 38, 46, 48] []) σ0 y0 → zpc (k152 y0 y1 y2) (fun r => (zQ [3, 5, 7, 9, 10, 11, 12, 15, 17, 19, 21, 23, 25, 27, 28, 29, 30, 32, 34, 36, 40, 42, 44, 45] [] [5, 38, 46, 48] []) σ0 (r))) {σ : zSt} {x1 : Int32} {x4 : Int32} (h : (zQ [3, 5, 7, 9, 10, 11, 12, 15, 17, 19, 21, 23, 25, 27, 28, 29, 30, 32, 34, 36, 40, 42, 44, 45] [] [5, 38, 46, 48] []) σ0 σ) : zpc (fX3_draw_152_body k152 σ x1 x4) (fun r => (zQ [3, 5, 7, 9, 10, 11, 12, 15, 17, 19, 21, 23, 25, 27, 28, 29, 30, 32, 34, 36, 40, 42, 44, 45] [] [5, 38, 46, 48] []) σ0 (r)) := by
  unfold fX3_draw_152_body
  exact zpc_if (fun _ => zpc_some h) (fun _ => zpc_ck (zpc_ck (zpc_ck (zpc_bs (zQ.wi h rfl) (fun σ1 hσ1 => zpc_bv (fun v2 _ => hk152 _ _ _ hσ1))))))
theorem fv_fX3_draw_152 {σ0 : zSt} : ∀ (n : Nat) (y0 : zSt) (y1 : Int32) (y2 : Int32), (zQ [3, 5, 7, 9, 10, 11, 12, 15, 17, 19, 21, 23, 25, 27, 28, 29, 30, 32, 34, 36, 40, 42, 44, 45] [] [5, 38, 46, 48] []) σ0 y0 → zpc (fX3_draw_152 n y0 y1 y2) (fun r => (zQ [3, 5, 7, 9, 10, 11, 12, 15, 17, 19, 21, 23, 25, 27, 28, 29, 30, 32, 34, 36, 40, 42, 44, 45] [] [5, 38, 46, 48] []) σ0 (r)) := by
  intro n
  induction n with
  | zero => intro y0 y1 y2 h; exact zpc_none
  | succ n ih => intro y0 y1 y2 h; exact fv_fX3_draw_152_body ih h
theorem fv_fX3_draw_144 {σ0 : zSt} {σ : zSt} {x1 : Int32} {x2 : Int32} (h : (zQ [3, 5, 7, 9, 10, 11, 12, 15, 17, 19, 21, 23, 25, 27, 28, 29, 30, 32, 34, 36, 40, 42, 44, 45] [] [5, 38, 46, 48] []) σ0 σ) : zpc (fX3_draw_144 σ x1 x2) (fun r => (zQ [3, 5, 7, 9, 10, 11, 12, 15, 17, 19, 21, 23, 25, 27, 28, 29, 30, 32, 34, 36, 40, 42, 44, 45] [] [5, 38, 46, 48] []) σ0 (r)) := by
  unfold fX3_draw_144
  exact zpc_bu (fv_fX3_mixColours h) (fun σ3 hσ3 => fv_fX3_draw_152 _ _ _ _ hσ3)
theorem fv_fX3_draw_139 {σ0 : zSt} {σ : zSt} {x1 : Int32} {x2 : Int32} {x3 : Int32} (h : (zQ [3, 5, 7, 9, 10, 11, 12, 15, 17, 19, 21, 23, 25, 27, 28, 29, 30, 32, 34, 36, 40, 42, 44, 45] [] [5, 38, 46, 48] []) σ0 σ) : zpc (fX3_draw_139 σ x1 x2 x3) (fun r => (zQ [3, 5, 7, 9, 10, 11, 12, 15, 17, 19, 21, 23, 25, 27, 28, 29, 30, 32, 34, 36, 40, 42, 44, 45] [] [5, 38, 46, 48] []) σ0 (r)) := by
  unfold fX3_draw_139
  exact zpc_bu (fv_fX3_fillBack h) (fun σ4 hσ4 => fv_fX3_draw_144 hσ4)
theorem fv_fX3_draw_41 {σ0 : zSt} {σ : zSt} {x1 : Int32} {x2 : Int32} {s0 : Int32} (h : (zQ [3, 5, 7, 9, 10, 11, 12, 15, 17, 19, 21, 23, 25, 27, 28, 29, 30, 32, 34, 36, 40, 42, 44, 45] [] [5, 38, 46, 48] []) σ0 σ) : zpc (fX3_draw_41 σ x1 x2 s0) (fun r => (zQ [3, 5, 7, 9, 10, 11, 12, 15, 17, 19, 21, 23, 25, 27, 28, 29, 30, 32, 34, 36, 40, 42, 44, 45] [] [5, 38, 46, 48] []) σ0 (r)) := by
  unfold fX3_draw_41
  exact zpc_bi (fv_fX9_held h) (fun σ5 v6 hσ5 => zpc_bv (fun v7 _ => zpc_bi (fv_fX9_held hσ5) (fun σ8 v9 hσ8 => zpc_if (fun _ => zpc_bu (fv_fJ7_fill_53178_k27 hσ8) (fun σ17 hσ17 => fv_fX3_draw_144 hσ17)) (fun _ => zpc_if (fun _ => zpc_bu (fv_fX3_drawTiles hσ8) (fun σ12 hσ12 => zpc_bu (fv_fX3_drawSprites hσ12) (fun σ13 hσ13 => zpc_bi (fv_fX9_held hσ13) (fun σ14 v15 hσ14 => zpc_if (fun _ => fv_fX3_draw_144 hσ14) (fun _ => zpc_bu (fv_fJ7_fill_fda19_k27 hσ14) (fun σ16 hσ16 => fv_fX3_draw_144 hσ16)))))) (fun _ => zpc_bu (fv_fX3_drawOld hσ8) (fun σ10 hσ10 => zpc_if (fun _ => fv_fX3_draw_139 hσ10) (fun _ => zpc_bu (fv_fX3_drawOldSprites hσ10) (fun σ11 hσ11 => fv_fX3_draw_139 hσ11))))))))
theorem fv_fX3_draw {σ0 : zSt} {σ : zSt} (h : (zQ [3, 5, 7, 9, 10, 11, 12, 15, 17, 19, 21, 23, 25, 27, 28, 29, 30, 32, 34, 36, 40, 42, 44, 45] [] [5, 38, 46, 48] []) σ0 σ) : zpc (fX3_draw σ) (fun r => (zQ [3, 5, 7, 9, 10, 11, 12, 15, 17, 19, 21, 23, 25, 27, 28, 29, 30, 32, 34, 36, 40, 42, 44, 45] [] [5, 38, 46, 48] []) σ0 (r)) := by
  unfold fX3_draw
  exact zpc_bi (fv_fX9_held h) (fun σ18 v19 hσ18 => zpc_if (fun _ => fv_fX3_draw_21 hσ18) (fun _ => zpc_if (fun _ => zpc_bi (fv_fX9_mode hσ18) (fun σ20 v21 hσ20 => zpc_if (fun _ => fv_fX3_draw_41 hσ20) (fun _ => fv_fX3_draw_41 hσ20))) (fun _ => fv_fX3_draw_21 hσ18)))
theorem fv_fX4_clear {σ0 : zSt} {σ : zSt} (h : (zQ [3, 5, 7, 9, 10, 11, 12, 15, 17, 19, 21, 23, 25, 27, 28, 29, 30, 32, 34, 36, 40, 42, 44, 45] [] [5, 38, 46, 48] []) σ0 σ) : zpc (fX4_clear σ) (fun r => (zQ [3, 5, 7, 9, 10, 11, 12, 15, 17, 19, 21, 23, 25, 27, 28, 29, 30, 32, 34, 36, 40, 42, 44, 45] [] [5, 38, 46, 48] []) σ0 (r)) := by
  unfold fX4_clear
  exact zpc_ck (zpc_bs (zQ.wi h rfl) (fun σ1 hσ1 => zpc_ck (zpc_bs (zQ.wi hσ1 rfl) (fun σ2 hσ2 => zpc_ck (zpc_bs (zQ.wi hσ2 rfl) (fun σ3 hσ3 => zpc_ck (zpc_bs (zQ.wi hσ3 rfl) (fun σ4 hσ4 => zpc_ck (zpc_bs (zQ.wi hσ4 rfl) (fun σ5 hσ5 => zpc_ck (zpc_bs (zQ.wi hσ5 rfl) (fun σ6 hσ6 => zpc_ck (zpc_bs (zQ.wi hσ6 rfl) (fun σ7 hσ7 => zpc_some hσ7))))))))))))))
theorem fv_fX4_value_20 {σ0 : zSt} {σ : zSt} {s0 : Int32} (h : (zQ [3, 5, 7, 9, 10, 11, 12, 15, 17, 19, 21, 23, 25, 27, 28, 29, 30, 32, 34, 36, 40, 42, 44, 45] [] [5, 38, 46, 48] []) σ0 σ) : zpc (fX4_value_20 σ s0) (fun r => (zQ [3, 5, 7, 9, 10, 11, 12, 15, 17, 19, 21, 23, 25, 27, 28, 29, 30, 32, 34, 36, 40, 42, 44, 45] [] [5, 38, 46, 48] []) σ0 (r.1)) := by
  unfold fX4_value_20
  exact zpc_some h
theorem fv_fX4_value_19 {σ0 : zSt} {σ : zSt} (h : (zQ [3, 5, 7, 9, 10, 11, 12, 15, 17, 19, 21, 23, 25, 27, 28, 29, 30, 32, 34, 36, 40, 42, 44, 45] [] [5, 38, 46, 48] []) σ0 σ) : zpc (fX4_value_19 σ) (fun r => (zQ [3, 5, 7, 9, 10, 11, 12, 15, 17, 19, 21, 23, 25, 27, 28, 29, 30, 32, 34, 36, 40, 42, 44, 45] [] [5, 38, 46, 48] []) σ0 (r.1)) := by
  unfold fX4_value_19
  exact fv_fX4_value_20 h
theorem fv_fX4_value {σ0 : zSt} {σ : zSt} {x1 : Int32} (h : (zQ [3, 5, 7, 9, 10, 11, 12, 15, 17, 19, 21, 23, 25, 27, 28, 29, 30, 32, 34, 36, 40, 42, 44, 45] [] [5, 38, 46, 48] []) σ0 σ) : zpc (fX4_value σ x1) (fun r => (zQ [3, 5, 7, 9, 10, 11, 12, 15, 17, 19, 21, 23, 25, 27, 28, 29, 30, 32, 34, 36, 40, 42, 44, 45] [] [5, 38, 46, 48] []) σ0 (r.1)) := by
  unfold fX4_value
  exact zpc_if (fun _ => fv_fX4_value_19 h) (fun _ => zpc_if (fun _ => fv_fX4_value_19 h) (fun _ => zpc_ck (fv_fX4_value_20 h)))
theorem fv_fX4_canPress_24 {σ0 : zSt} {σ : zSt} {s0 : Int32} (h : (zQ [3, 5, 7, 9, 10, 11, 12, 15, 17, 19, 21, 23, 25, 27, 28, 29, 30, 32, 34, 36, 40, 42, 44, 45] [] [5, 38, 46, 48] []) σ0 σ) : zpc (fX4_canPress_24 σ s0) (fun r => (zQ [3, 5, 7, 9, 10, 11, 12, 15, 17, 19, 21, 23, 25, 27, 28, 29, 30, 32, 34, 36, 40, 42, 44, 45] [] [5, 38, 46, 48] []) σ0 (r.1)) := by
  unfold fX4_canPress_24
  exact zpc_ck (zpc_some h)
theorem fv_fX4_canPress_23 {σ0 : zSt} {σ : zSt} (h : (zQ [3, 5, 7, 9, 10, 11, 12, 15, 17, 19, 21, 23, 25, 27, 28, 29, 30, 32, 34, 36, 40, 42, 44, 45] [] [5, 38, 46, 48] []) σ0 σ) : zpc (fX4_canPress_23 σ) (fun r => (zQ [3, 5, 7, 9, 10, 11, 12, 15, 17, 19, 21, 23, 25, 27, 28, 29, 30, 32, 34, 36, 40, 42, 44, 45] [] [5, 38, 46, 48] []) σ0 (r.1)) := by
  unfold fX4_canPress_23
  exact fv_fX4_canPress_24 h
theorem fv_fX4_canPress {σ0 : zSt} {σ : zSt} {x0 : Int32} {x1 : Int32} (h : (zQ [3, 5, 7, 9, 10, 11, 12, 15, 17, 19, 21, 23, 25, 27, 28, 29, 30, 32, 34, 36, 40, 42, 44, 45] [] [5, 38, 46, 48] []) σ0 σ) : zpc (fX4_canPress σ x0 x1) (fun r => (zQ [3, 5, 7, 9, 10, 11, 12, 15, 17, 19, 21, 23, 25, 27, 28, 29, 30, 32, 34, 36, 40, 42, 44, 45] [] [5, 38, 46, 48] []) σ0 (r.1)) := by
  unfold fX4_canPress
  exact zpc_if (fun _ => fv_fX4_canPress_23 h) (fun _ => zpc_if (fun _ => fv_fX4_canPress_23 h) (fun _ => zpc_if (fun _ => fv_fX4_canPress_23 h) (fun _ => zpc_if (fun _ => fv_fX4_canPress_23 h) (fun _ => fv_fX4_canPress_24 h))))
theorem fv_fX4_holdStart_15 {σ0 : zSt} {σ : zSt} {s0 : Int32} {s1 : Int32} (h : (zQ [3, 5, 7, 9, 10, 11, 12, 15, 17, 19, 21, 23, 25, 27, 28, 29, 30, 32, 34, 36, 40, 42, 44, 45] [] [5, 38, 46, 48] []) σ0 σ) : zpc (fX4_holdStart_15 σ s0 s1) (fun r => (zQ [3, 5, 7, 9, 10, 11, 12, 15, 17, 19, 21, 23, 25, 27, 28, 29, 30, 32, 34, 36, 40, 42, 44, 45] [] [5, 38, 46, 48] []) σ0 (r)) := by
  unfold fX4_holdStart_15
  exact zpc_ck (zpc_bs (zQ.wi h rfl) (fun σ1 hσ1 => zpc_some hσ1))
theorem fv_fX4_holdStart {σ0 : zSt} {σ : zSt} {x1 : Int32} (h : (zQ [3, 5, 7, 9, 10, 11, 12, 15, 17, 19, 21, 23, 25, 27, 28, 29, 30, 32, 34, 36, 40, 42, 44, 45] [] [5, 38, 46, 48] []) σ0 σ) : zpc (fX4_holdStart σ x1) (fun r => (zQ [3, 5, 7, 9, 10, 11, 12, 15, 17, 19, 21, 23, 25, 27, 28, 29, 30, 32, 34, 36, 40, 42, 44, 45] [] [5, 38, 46, 48] []) σ0 (r)) := by
  unfold fX4_holdStart
  exact zpc_if (fun _ => fv_fX4_holdStart_15 h) (fun _ => fv_fX4_holdStart_15 h)
theorem fv_fX4_lines_52 {σ0 : zSt} {σ : zSt} {x2 : Int32} {s0 : Int32} (h : (zQ [3, 5, 7, 9, 10, 11, 12, 15, 17, 19, 21, 23, 25, 27, 28, 29, 30, 32, 34, 36, 40, 42, 44, 45] [] [5, 38, 46, 48] []) σ0 σ) : zpc (fX4_lines_52 σ x2 s0) (fun r => (zQ [3, 5, 7, 9, 10, 11, 12, 15, 17, 19, 21, 23, 25, 27, 28, 29, 30, 32, 34, 36, 40, 42, 44, 45] [] [5, 38, 46, 48] []) σ0 (r.1)) := by
  unfold fX4_lines_52
  exact zpc_some h
theorem fv_fX4_lines_28 {σ0 : zSt} {σ : zSt} {x1 : Int32} {s0 : Int32} (h : (zQ [3, 5, 7, 9, 10, 11, 12, 15, 17, 19, 21, 23, 25, 27, 28, 29, 30, 32, 34, 36, 40, 42, 44, 45] [] [5, 38, 46, 48] []) σ0 σ) : zpc (fX4_lines_28 σ x1 s0) (fun r => (zQ [3, 5, 7, 9, 10, 11, 12, 15, 17, 19, 21, 23, 25, 27, 28, 29, 30, 32, 34, 36, 40, 42, 44, 45] [] [5, 38, 46, 48] []) σ0 (r.1)) := by
  unfold fX4_lines_28
  exact zpc_if (fun _ => fv_fX4_lines_52 h) (fun _ => zpc_ck (fv_fX4_lines_52 h))
theorem fv_fX4_lines {σ0 : zSt} {σ : zSt} (h : (zQ [3, 5, 7, 9, 10, 11, 12, 15, 17, 19, 21, 23, 25, 27, 28, 29, 30, 32, 34, 36, 40, 42, 44, 45] [] [5, 38, 46, 48] []) σ0 σ) : zpc (fX4_lines σ) (fun r => (zQ [3, 5, 7, 9, 10, 11, 12, 15, 17, 19, 21, 23, 25, 27, 28, 29, 30, 32, 34, 36, 40, 42, 44, 45] [] [5, 38, 46, 48] []) σ0 (r.1)) := by
  unfold fX4_lines
  exact zpc_ck (zpc_bv (fun v1 _ => zpc_if (fun _ => fv_fX4_lines_28 h) (fun _ => zpc_ck (fv_fX4_lines_28 h))))
theorem fv_fX9_hCount_27 {σ0 : zSt} {σ : zSt} {s0 : Int32} (h : (zQ [3, 5, 7, 9, 10, 11, 12, 15, 17, 19, 21, 23, 25, 27, 28, 29, 30, 32, 34, 36, 40, 42, 44, 45] [] [5, 38, 46, 48] []) σ0 σ) : zpc (fX9_hCount_27 σ s0) (fun r => (zQ [3, 5, 7, 9, 10, 11, 12, 15, 17, 19, 21, 23, 25, 27, 28, 29, 30, 32, 34, 36, 40, 42, 44, 45] [] [5, 38, 46, 48] []) σ0 (r.1)) := by
  unfold fX9_hCount_27
  exact zpc_some h
theorem fv_fX9_hCount {σ0 : zSt} {σ : zSt} (h : (zQ [3, 5, 7, 9, 10, 11, 12, 15, 17, 19, 21, 23, 25, 27, 28, 29, 30, 32, 34, 36, 40, 42, 44, 45] [] [5, 38, 46, 48] []) σ0 σ) : zpc (fX9_hCount σ) (fun r => (zQ [3, 5, 7, 9, 10, 11, 12, 15, 17, 19, 21, 23, 25, 27, 28, 29, 30, 32, 34, 36, 40, 42, 44, 45] [] [5, 38, 46, 48] []) σ0 (r.1)) := by
  unfold fX9_hCount
  exact zpc_ck (zpc_ck (zpc_bv (fun v1 _ => zpc_if (fun _ => fv_fX9_hCount_27 h) (fun _ => fv_fX9_hCount_27 h))))
theorem fv_fX4_changeLines_37 {σ0 : zSt} {σ : zSt} (h : (zQ [3, 5, 7, 9, 10, 11, 12, 15, 17, 19, 21, 23, 25, 27, 28, 29, 30, 32, 34, 36, 40, 42, 44, 45] [] [5, 38, 46, 48] []) σ0 σ) : zpc (fX4_changeLines_37 σ) (fun r => (zQ [3, 5, 7, 9, 10, 11, 12, 15, 17, 19, 21, 23, 25, 27, 28, 29, 30, 32, 34, 36, 40, 42, 44, 45] [] [5, 38, 46, 48] []) σ0 (r)) := by
  unfold fX4_changeLines_37
  exact zpc_some h
theorem fv_fX4_changeLines {σ0 : zSt} {σ : zSt} {x1 : Int32} {x2 : Int32} (h : (zQ [3, 5, 7, 9, 10, 11, 12, 15, 17, 19, 21, 23, 25, 27, 28, 29, 30, 32, 34, 36, 40, 42, 44, 45] [] [5, 38, 46, 48] []) σ0 σ) : zpc (fX4_changeLines σ x1 x2) (fun r => (zQ [3, 5, 7, 9, 10, 11, 12, 15, 17, 19, 21, 23, 25, 27, 28, 29, 30, 32, 34, 36, 40, 42, 44, 45] [] [5, 38, 46, 48] []) σ0 (r)) := by
  unfold fX4_changeLines
  exact zpc_bi (fv_fX4_lines h) (fun σ1 v2 hσ1 => zpc_ck (zpc_bs (zQ.wi hσ1 rfl) (fun σ3 hσ3 => zpc_bi (fv_fX4_lines hσ3) (fun σ4 v5 hσ4 => zpc_if (fun _ => fv_fX4_changeLines_37 hσ4) (fun _ => zpc_bi (fv_fX9_hCount hσ4) (fun σ6 v7 hσ6 => zpc_ck (zpc_bs (zQ.wi hσ6 rfl) (fun σ8 hσ8 => fv_fX4_changeLines_37 hσ8))))))))
theorem fv_fX4_moveLine_16 {σ0 : zSt} {σ : zSt} {s0 : Int32} {s1 : Int32} (h : (zQ [3, 5, 7, 9, 10, 11, 12, 15, 17, 19, 21, 23, 25, 27, 28, 29, 30, 32, 34, 36, 40, 42, 44, 45] [] [5, 38, 46, 48] []) σ0 σ) : zpc (fX4_moveLine_16 σ s0 s1) (fun r => (zQ [3, 5, 7, 9, 10, 11, 12, 15, 17, 19, 21, 23, 25, 27, 28, 29, 30, 32, 34, 36, 40, 42, 44, 45] [] [5, 38, 46, 48] []) σ0 (r)) := by
  unfold fX4_moveLine_16
  exact zpc_bu (fv_fX4_changeLines h) (fun σ1 hσ1 => zpc_some hσ1)
theorem fv_fX4_moveLine {σ0 : zSt} {σ : zSt} {x1 : Int32} {x2 : Int32} (h : (zQ [3, 5, 7, 9, 10, 11, 12, 15, 17, 19, 21, 23, 25, 27, 28, 29, 30, 32, 34, 36, 40, 42, 44, 45] [] [5, 38, 46, 48] []) σ0 σ) : zpc (fX4_moveLine σ x1 x2) (fun r => (zQ [3, 5, 7, 9, 10, 11, 12, 15, 17, 19, 21, 23, 25, 27, 28, 29, 30, 32, 34, 36, 40, 42, 44, 45] [] [5, 38, 46, 48] []) σ0 (r)) := by
  unfold fX4_moveLine
  exact zpc_if (fun _ => fv_fX4_moveLine_16 h) (fun _ => fv_fX4_moveLine_16 h)
theorem fv_fX10_value_11 {σ0 : zSt} {σ : zSt} (h : (zQ [3, 5, 7, 9, 10, 11, 12, 15, 17, 19, 21, 23, 25, 27, 28, 29, 30, 32, 34, 36, 40, 42, 44, 45] [] [5, 38, 46, 48] []) σ0 σ) : zpc (fX10_value_11 σ) (fun r => (zQ [3, 5, 7, 9, 10, 11, 12, 15, 17, 19, 21, 23, 25, 27, 28, 29, 30, 32, 34, 36, 40, 42, 44, 45] [] [5, 38, 46, 48] []) σ0 (r.1)) := by
  unfold fX10_value_11
  exact zpc_some h
theorem fv_fX10_value_38 {σ0 : zSt} {σ : zSt} {s0 : Int32} (h : (zQ [3, 5, 7, 9, 10, 11, 12, 15, 17, 19, 21, 23, 25, 27, 28, 29, 30, 32, 34, 36, 40, 42, 44, 45] [] [5, 38, 46, 48] []) σ0 σ) : zpc (fX10_value_38 σ s0) (fun r => (zQ [3, 5, 7, 9, 10, 11, 12, 15, 17, 19, 21, 23, 25, 27, 28, 29, 30, 32, 34, 36, 40, 42, 44, 45] [] [5, 38, 46, 48] []) σ0 (r.1)) := by
  unfold fX10_value_38
  exact zpc_some h
theorem fv_fX10_value {σ0 : zSt} {σ : zSt} {x1 : Int32} (h : (zQ [3, 5, 7, 9, 10, 11, 12, 15, 17, 19, 21, 23, 25, 27, 28, 29, 30, 32, 34, 36, 40, 42, 44, 45] [] [5, 38, 46, 48] []) σ0 σ) : zpc (fX10_value σ x1) (fun r => (zQ [3, 5, 7, 9, 10, 11, 12, 15, 17, 19, 21, 23, 25, 27, 28, 29, 30, 32, 34, 36, 40, 42, 44, 45] [] [5, 38, 46, 48] []) σ0 (r.1)) := by
  unfold fX10_value
  exact zpc_if (fun _ => fv_fX10_value_11 h) (fun _ => zpc_if (fun _ => zpc_if (fun _ => zpc_ck (fv_fX10_value_38 h)) (fun _ => zpc_ck (fv_fX10_value_38 h))) (fun _ => fv_fX10_value_11 h))
theorem fv_fX4_readEvenPads_56 {σ0 : zSt} {σ : zSt} {s0 : Int32} (h : (zQ [3, 5, 7, 9, 10, 11, 12, 15, 17, 19, 21, 23, 25, 27, 28, 29, 30, 32, 34, 36, 40, 42, 44, 45] [] [5, 38, 46, 48] []) σ0 σ) : zpc (fX4_readEvenPads_56 σ s0) (fun r => (zQ [3, 5, 7, 9, 10, 11, 12, 15, 17, 19, 21, 23, 25, 27, 28, 29, 30, 32, 34, 36, 40, 42, 44, 45] [] [5, 38, 46, 48] []) σ0 (r.1)) := by
  unfold fX4_readEvenPads_56
  exact zpc_some h
theorem fv_fX4_readEvenPads {σ0 : zSt} {σ : zSt} (h : (zQ [3, 5, 7, 9, 10, 11, 12, 15, 17, 19, 21, 23, 25, 27, 28, 29, 30, 32, 34, 36, 40, 42, 44, 45] [] [5, 38, 46, 48] []) σ0 σ) : zpc (fX4_readEvenPads σ) (fun r => (zQ [3, 5, 7, 9, 10, 11, 12, 15, 17, 19, 21, 23, 25, 27, 28, 29, 30, 32, 34, 36, 40, 42, 44, 45] [] [5, 38, 46, 48] []) σ0 (r.1)) := by
  unfold fX4_readEvenPads
  exact zpc_ck (zpc_ck (zpc_bv (fun v1 _ => zpc_ck (zpc_if (fun _ => zpc_ck (fv_fX4_readEvenPads_56 h)) (fun _ => fv_fX4_readEvenPads_56 h)))))
theorem fv_fX4_readOddPads_57 {σ0 : zSt} {σ : zSt} {s0 : Int32} (h : (zQ [3, 5, 7, 9, 10, 11, 12, 15, 17, 19, 21, 23, 25, 27, 28, 29, 30, 32, 34, 36, 40, 42, 44, 45] [] [5, 38, 46, 48] []) σ0 σ) : zpc (fX4_readOddPads_57 σ s0) (fun r => (zQ [3, 5, 7, 9, 10, 11, 12, 15, 17, 19, 21, 23, 25, 27, 28, 29, 30, 32, 34, 36, 40, 42, 44, 45] [] [5, 38, 46, 48] []) σ0 (r.1)) := by
  unfold fX4_readOddPads_57
  exact zpc_some h
theorem fv_fX4_readOddPads {σ0 : zSt} {σ : zSt} (h : (zQ [3, 5, 7, 9, 10, 11, 12, 15, 17, 19, 21, 23, 25, 27, 28, 29, 30, 32, 34, 36, 40, 42, 44, 45] [] [5, 38, 46, 48] []) σ0 σ) : zpc (fX4_readOddPads σ) (fun r => (zQ [3, 5, 7, 9, 10, 11, 12, 15, 17, 19, 21, 23, 25, 27, 28, 29, 30, 32, 34, 36, 40, 42, 44, 45] [] [5, 38, 46, 48] []) σ0 (r.1)) := by
  unfold fX4_readOddPads
  exact zpc_ck (zpc_bi (fv_fX4_lines h) (fun σ1 v2 hσ1 => zpc_bv (fun v3 _ => zpc_ck (zpc_if (fun _ => zpc_ck (fv_fX4_readOddPads_57 hσ1)) (fun _ => fv_fX4_readOddPads_57 hσ1)))))
theorem fv_fX9_readAhead {σ0 : zSt} {σ : zSt} (h : (zQ [3, 5, 7, 9, 10, 11, 12, 15, 17, 19, 21, 23, 25, 27, 28, 29, 30, 32, 34, 36, 40, 42, 44, 45] [] [5, 38, 46, 48] []) σ0 σ) : zpc (fX9_readAhead σ) (fun r => (zQ [3, 5, 7, 9, 10, 11, 12, 15, 17, 19, 21, 23, 25, 27, 28, 29, 30, 32, 34, 36, 40, 42, 44, 45] [] [5, 38, 46, 48] []) σ0 (r)) := by
  unfold fX9_readAhead
  exact zpc_ck (zpc_ck (zpc_ck (zpc_bs (zQ.wi h rfl) (fun σ1 hσ1 => zpc_ck (zpc_ck (zpc_bs (zQ.wi hσ1 rfl) (fun σ2 hσ2 => zpc_some hσ2)))))))
theorem fv_fX9_readData {σ0 : zSt} {σ : zSt} (h : (zQ [3, 5, 7, 9, 10, 11, 12, 15, 17, 19, 21, 23, 25, 27, 28, 29, 30, 32, 34, 36, 40, 42, 44, 45] [] [5, 38, 46, 48] []) σ0 σ) : zpc (fX9_readData σ) (fun r => (zQ [3, 5, 7, 9, 10, 11, 12, 15, 17, 19, 21, 23, 25, 27, 28, 29, 30, 32, 34, 36, 40, 42, 44, 45] [] [5, 38, 46, 48] []) σ0 (r.1)) := by
  unfold fX9_readData
  exact zpc_ck (zpc_bv (fun v1 _ => zpc_ck (zpc_bs (zQ.wi h rfl) (fun σ2 hσ2 => zpc_bu (fv_fX9_readAhead hσ2) (fun σ3 hσ3 => zpc_some hσ3)))))
theorem fv_fX9_readStatus {σ0 : zSt} {σ : zSt} (h : (zQ [3, 5, 7, 9, 10, 11, 12, 15, 17, 19, 21, 23, 25, 27, 28, 29, 30, 32, 34, 36, 40, 42, 44, 45] [] [5, 38, 46, 48] []) σ0 σ) : zpc (fX9_readStatus σ) (fun r => (zQ [3, 5, 7, 9, 10, 11, 12, 15, 17, 19, 21, 23, 25, 27, 28, 29, 30, 32, 34, 36, 40, 42, 44, 45] [] [5, 38, 46, 48] []) σ0 (r.1)) := by
  unfold fX9_readStatus
  exact zpc_ck (zpc_bv (fun v1 _ => zpc_ck (zpc_bs (zQ.wi h rfl) (fun σ2 hσ2 => zpc_ck (zpc_bs (zQ.wi hσ2 rfl) (fun σ3 hσ3 => zpc_ck (zpc_bs (zQ.wi hσ3 rfl) (fun σ4 hσ4 => zpc_some hσ4))))))))
theorem fv_fX9_vCount_137 {σ0 : zSt} {σ : zSt} {s0 : Int32} (h : (zQ [3, 5, 7, 9, 10, 11, 12, 15, 17, 19, 21, 23, 25, 27, 28, 29, 30, 32, 34, 36, 40, 42, 44, 45] [] [5, 38, 46, 48] []) σ0 σ) : zpc (fX9_vCount_137 σ s0) (fun r => (zQ [3, 5, 7, 9, 10, 11, 12, 15, 17, 19, 21, 23, 25, 27, 28, 29, 30, 32, 34, 36, 40, 42, 44, 45] [] [5, 38, 46, 48] []) σ0 (r.1)) := by
  unfold fX9_vCount_137
  exact zpc_some h
theorem fv_fX9_vCount_136 {σ0 : zSt} {σ : zSt} {s0 : Int32} {s1 : Int32} (h : (zQ [3, 5, 7, 9, 10, 11, 12, 15, 17, 19, 21, 23, 25, 27, 28, 29, 30, 32, 34, 36, 40, 42, 44, 45] [] [5, 38, 46, 48] []) σ0 σ) : zpc (fX9_vCount_136 σ s0 s1) (fun r => (zQ [3, 5, 7, 9, 10, 11, 12, 15, 17, 19, 21, 23, 25, 27, 28, 29, 30, 32, 34, 36, 40, 42, 44, 45] [] [5, 38, 46, 48] []) σ0 (r.1)) := by
  unfold fX9_vCount_136
  exact fv_fX9_vCount_137 h
theorem fv_fX9_vCount_97 {σ0 : zSt} {σ : zSt} {x2 : Int32} {x3 : Int32} (h : (zQ [3, 5, 7, 9, 10, 11, 12, 15, 17, 19, 21, 23, 25, 27, 28, 29, 30, 32, 34, 36, 40, 42, 44, 45] [] [5, 38, 46, 48] []) σ0 σ) : zpc (fX9_vCount_97 σ x2 x3) (fun r => (zQ [3, 5, 7, 9, 10, 11, 12, 15, 17, 19, 21, 23, 25, 27, 28, 29, 30, 32, 34, 36, 40, 42, 44, 45] [] [5, 38, 46, 48] []) σ0 (r.1)) := by
  unfold fX9_vCount_97
  exact zpc_ck (zpc_if (fun _ => zpc_ck (zpc_if (fun _ => fv_fX9_vCount_136 h) (fun _ => fv_fX9_vCount_136 h))) (fun _ => zpc_ck (fv_fX9_vCount_137 h)))
theorem fv_fX9_vCount_96 {σ0 : zSt} {σ : zSt} {x2 : Int32} {s0 : Int32} (h : (zQ [3, 5, 7, 9, 10, 11, 12, 15, 17, 19, 21, 23, 25, 27, 28, 29, 30, 32, 34, 36, 40, 42, 44, 45] [] [5, 38, 46, 48] []) σ0 σ) : zpc (fX9_vCount_96 σ x2 s0) (fun r => (zQ [3, 5, 7, 9, 10, 11, 12, 15, 17, 19, 21, 23, 25, 27, 28, 29, 30, 32, 34, 36, 40, 42, 44, 45] [] [5, 38, 46, 48] []) σ0 (r.1)) := by
  unfold fX9_vCount_96
  exact fv_fX9_vCount_97 h
theorem fv_fX9_vCount_78 {σ0 : zSt} {σ : zSt} {x2 : Int32} {s0 : Int32} (h : (zQ [3, 5, 7, 9, 10, 11, 12, 15, 17, 19, 21, 23, 25, 27, 28, 29, 30, 32, 34, 36, 40, 42, 44, 45] [] [5, 38, 46, 48] []) σ0 σ) : zpc (fX9_vCount_78 σ x2 s0) (fun r => (zQ [3, 5, 7, 9, 10, 11, 12, 15, 17, 19, 21, 23, 25, 27, 28, 29, 30, 32, 34, 36, 40, 42, 44, 45] [] [5, 38, 46, 48] []) σ0 (r.1)) := by
  unfold fX9_vCount_78
  exact fv_fX9_vCount_97 h
theorem fv_fX9_vCount_61 {σ0 : zSt} {σ : zSt} {x2 : Int32} {s0 : Int32} (h : (zQ [3, 5, 7, 9, 10, 11, 12, 15, 17, 19, 21, 23, 25, 27, 28, 29, 30, 32, 34, 36, 40, 42, 44, 45] [] [5, 38, 46, 48] []) σ0 σ) : zpc (fX9_vCount_61 σ x2 s0) (fun r => (zQ [3, 5, 7, 9, 10, 11, 12, 15, 17, 19, 21, 23, 25, 27, 28, 29, 30, 32, 34, 36, 40, 42, 44, 45] [] [5, 38, 46, 48] []) σ0 (r.1)) := by
  unfold fX9_vCount_61
  exact fv_fX9_vCount_97 h
theorem fv_fX9_vCount_20 {σ0 : zSt} {σ : zSt} {x1 : Int32} {s0 : Int32} (h : (zQ [3, 5, 7, 9, 10, 11, 12, 15, 17, 19, 21, 23, 25, 27, 28, 29, 30, 32, 34, 36, 40, 42, 44, 45] [] [5, 38, 46, 48] []) σ0 σ) : zpc (fX9_vCount_20 σ x1 s0) (fun r => (zQ [3, 5, 7, 9, 10, 11, 12, 15, 17, 19, 21, 23, 25, 27, 28, 29, 30, 32, 34, 36, 40, 42, 44, 45] [] [5, 38, 46, 48] []) σ0 (r.1)) := by
  unfold fX9_vCount_20
  exact zpc_if (fun _ => zpc_if (fun _ => fv_fX9_vCount_61 h) (fun _ => fv_fX9_vCount_61 h)) (fun _ => zpc_if (fun _ => zpc_if (fun _ => fv_fX9_vCount_78 h) (fun _ => fv_fX9_vCount_78 h)) (fun _ => zpc_if (fun _ => fv_fX9_vCount_96 h) (fun _ => fv_fX9_vCount_96 h)))
theorem fv_fX9_vCount {σ0 : zSt} {σ : zSt} (h : (zQ [3, 5, 7, 9, 10, 11, 12, 15, 17, 19, 21, 23, 25, 27, 28, 29, 30, 32, 34, 36, 40, 42, 44, 45] [] [5, 38, 46, 48] []) σ0 σ) : zpc (fX9_vCount σ) (fun r => (zQ [3, 5, 7, 9, 10, 11, 12, 15, 17, 19, 21, 23, 25, 27, 28, 29, 30, 32, 34, 36, 40, 42, 44, 45] [] [5, 38, 46, 48] []) σ0 (r.1)) := by
  unfold fX9_vCount
  exact zpc_bi (fv_fX9_height h) (fun σ1 v2 hσ1 => zpc_if (fun _ => fv_fX9_vCount_20 hσ1) (fun _ => fv_fX9_vCount_20 hσ1))
theorem fv_fX4_readHandy_23 {σ0 : zSt} {σ : zSt} {s0 : Int32} (h : (zQ [3, 5, 7, 9, 10, 11, 12, 15, 17, 19, 21, 23, 25, 27, 28, 29, 30, 32, 34, 36, 40, 42, 44, 45] [] [5, 38, 46, 48] []) σ0 σ) : zpc (fX4_readHandy_23 σ s0) (fun r => (zQ [3, 5, 7, 9, 10, 11, 12, 15, 17, 19, 21, 23, 25, 27, 28, 29, 30, 32, 34, 36, 40, 42, 44, 45] [] [5, 38, 46, 48] []) σ0 (r.1)) := by
  unfold fX4_readHandy_23
  exact zpc_some h
theorem fv_fX4_readHandy_46 {σ0 : zSt} {σ : zSt} {s0 : Int32} (h : (zQ [3, 5, 7, 9, 10, 11, 12, 15, 17, 19, 21, 23, 25, 27, 28, 29, 30, 32, 34, 36, 40, 42, 44, 45] [] [5, 38, 46, 48] []) σ0 σ) : zpc (fX4_readHandy_46 σ s0) (fun r => (zQ [3, 5, 7, 9, 10, 11, 12, 15, 17, 19, 21, 23, 25, 27, 28, 29, 30, 32, 34, 36, 40, 42, 44, 45] [] [5, 38, 46, 48] []) σ0 (r.1)) := by
  unfold fX4_readHandy_46
  exact zpc_some h
theorem fv_fX4_readHandy_43 {σ0 : zSt} {σ : zSt} (h : (zQ [3, 5, 7, 9, 10, 11, 12, 15, 17, 19, 21, 23, 25, 27, 28, 29, 30, 32, 34, 36, 40, 42, 44, 45] [] [5, 38, 46, 48] []) σ0 σ) : zpc (fX4_readHandy_43 σ) (fun r => (zQ [3, 5, 7, 9, 10, 11, 12, 15, 17, 19, 21, 23, 25, 27, 28, 29, 30, 32, 34, 36, 40, 42, 44, 45] [] [5, 38, 46, 48] []) σ0 (r.1)) := by
  unfold fX4_readHandy_43
  exact fv_fX4_readHandy_46 h
theorem fv_fX4_readHandy {σ0 : zSt} {σ : zSt} {x1 : Int32} (h : (zQ [3, 5, 7, 9, 10, 11, 12, 15, 17, 19, 21, 23, 25, 27, 28, 29, 30, 32, 34, 36, 40, 42, 44, 45] [] [5, 38, 46, 48] []) σ0 σ) : zpc (fX4_readHandy σ x1) (fun r => (zQ [3, 5, 7, 9, 10, 11, 12, 15, 17, 19, 21, 23, 25, 27, 28, 29, 30, 32, 34, 36, 40, 42, 44, 45] [] [5, 38, 46, 48] []) σ0 (r.1)) := by
  unfold fX4_readHandy
  exact zpc_if (fun _ => zpc_ck (zpc_if (fun _ => fv_fX4_readHandy_23 h) (fun _ => fv_fX4_readHandy_23 h))) (fun _ => zpc_if (fun _ => fv_fX4_readHandy_43 h) (fun _ => zpc_if (fun _ => fv_fX4_readHandy_43 h) (fun _ => zpc_ck (fv_fX4_readHandy_46 h))))
theorem fv_fX4_read_146 {σ0 : zSt} {σ : zSt} {s0 : Int32} (h : (zQ [3, 5, 7, 9, 10, 11, 12, 15, 17, 19, 21, 23, 25, 27, 28, 29, 30, 32, 34, 36, 40, 42, 44, 45] [] [5, 38, 46, 48] []) σ0 σ) : zpc (fX4_read_146 σ s0) (fun r => (zQ [3, 5, 7, 9, 10, 11, 12, 15, 17, 19, 21, 23, 25, 27, 28, 29, 30, 32, 34, 36, 40, 42, 44, 45] [] [5, 38, 46, 48] []) σ0 (r.1)) := by
  unfold fX4_read_146
  exact zpc_some h
theorem fv_fX4_read_131 {σ0 : zSt} {σ : zSt} {x2 : Int32} (h : (zQ [3, 5, 7, 9, 10, 11, 12, 15, 17, 19, 21, 23, 25, 27, 28, 29, 30, 32, 34, 36, 40, 42, 44, 45] [] [5, 38, 46, 48] []) σ0 σ) : zpc (fX4_read_131 σ x2) (fun r => (zQ [3, 5, 7, 9, 10, 11, 12, 15, 17, 19, 21, 23, 25, 27, 28, 29, 30, 32, 34, 36, 40, 42, 44, 45] [] [5, 38, 46, 48] []) σ0 (r.1)) := by
  unfold fX4_read_131
  exact zpc_if (fun _ => zpc_bi (fv_fX4_readOddPads h) (fun σ1 v2 hσ1 => fv_fX4_read_146 hσ1)) (fun _ => zpc_bi (fv_fX4_readEvenPads h) (fun σ3 v4 hσ3 => fv_fX4_read_146 hσ3))
theorem fv_fX4_read_106 {σ0 : zSt} {σ : zSt} {s0 : Int32} (h : (zQ [3, 5, 7, 9, 10, 11, 12, 15, 17, 19, 21, 23, 25, 27, 28, 29, 30, 32, 34, 36, 40, 42, 44, 45] [] [5, 38, 46, 48] []) σ0 σ) : zpc (fX4_read_106 σ s0) (fun r => (zQ [3, 5, 7, 9, 10, 11, 12, 15, 17, 19, 21, 23, 25, 27, 28, 29, 30, 32, 34, 36, 40, 42, 44, 45] [] [5, 38, 46, 48] []) σ0 (r.1)) := by
  unfold fX4_read_106
  exact zpc_some h
theorem fv_fX4_read_84 {σ0 : zSt} {σ : zSt} {s0 : Int32} (h : (zQ [3, 5, 7, 9, 10, 11, 12, 15, 17, 19, 21, 23, 25, 27, 28, 29, 30, 32, 34, 36, 40, 42, 44, 45] [] [5, 38, 46, 48] []) σ0 σ) : zpc (fX4_read_84 σ s0) (fun r => (zQ [3, 5, 7, 9, 10, 11, 12, 15, 17, 19, 21, 23, 25, 27, 28, 29, 30, 32, 34, 36, 40, 42, 44, 45] [] [5, 38, 46, 48] []) σ0 (r.1)) := by
  unfold fX4_read_84
  exact zpc_some h
theorem fv_fX4_read_62 {σ0 : zSt} {σ : zSt} {s0 : Int32} (h : (zQ [3, 5, 7, 9, 10, 11, 12, 15, 17, 19, 21, 23, 25, 27, 28, 29, 30, 32, 34, 36, 40, 42, 44, 45] [] [5, 38, 46, 48] []) σ0 σ) : zpc (fX4_read_62 σ s0) (fun r => (zQ [3, 5, 7, 9, 10, 11, 12, 15, 17, 19, 21, 23, 25, 27, 28, 29, 30, 32, 34, 36, 40, 42, 44, 45] [] [5, 38, 46, 48] []) σ0 (r.1)) := by
  unfold fX4_read_62
  exact zpc_some h
theorem fv_fX4_read_11 {σ0 : zSt} {σ : zSt} {x1 : Int32} {s0 : Int32} (h : (zQ [3, 5, 7, 9, 10, 11, 12, 15, 17, 19, 21, 23, 25, 27, 28, 29, 30, 32, 34, 36, 40, 42, 44, 45] [] [5, 38, 46, 48] []) σ0 σ) : zpc (fX4_read_11 σ x1 s0) (fun r => (zQ [3, 5, 7, 9, 10, 11, 12, 15, 17, 19, 21, 23, 25, 27, 28, 29, 30, 32, 34, 36, 40, 42, 44, 45] [] [5, 38, 46, 48] []) σ0 (r.1)) := by
  unfold fX4_read_11
  exact zpc_if (fun _ => zpc_if (fun _ => fv_fX4_read_62 h) (fun _ => zpc_bi (fv_fX4_readHandy h) (fun σ5 v6 hσ5 => fv_fX4_read_62 hσ5))) (fun _ => zpc_if (fun _ => zpc_if (fun _ => zpc_ck (fv_fX4_read_84 h)) (fun _ => zpc_bi (fv_fX9_vCount h) (fun σ7 v8 hσ7 => fv_fX4_read_84 hσ7))) (fun _ => zpc_if (fun _ => zpc_if (fun _ => zpc_bi (fv_fX9_readStatus h) (fun σ9 v10 hσ9 => fv_fX4_read_106 hσ9)) (fun _ => zpc_bi (fv_fX9_readData h) (fun σ11 v12 hσ11 => fv_fX4_read_106 hσ11))) (fun _ => zpc_if (fun _ => zpc_if (fun _ => zpc_bi (fv_fX10_value h) (fun σ13 v14 hσ13 => zpc_some hσ13)) (fun _ => fv_fX4_read_131 h)) (fun _ => fv_fX4_read_131 h))))
theorem fv_fX4_read {σ0 : zSt} {σ : zSt} {x1 : Int32} (h : (zQ [3, 5, 7, 9, 10, 11, 12, 15, 17, 19, 21, 23, 25, 27, 28, 29, 30, 32, 34, 36, 40, 42, 44, 45] [] [5, 38, 46, 48] []) σ0 σ) : zpc (fX4_read σ x1) (fun r => (zQ [3, 5, 7, 9, 10, 11, 12, 15, 17, 19, 21, 23, 25, 27, 28, 29, 30, 32, 34, 36, 40, 42, 44, 45] [] [5, 38, 46, 48] []) σ0 (r.1)) := by
  unfold fX4_read
  exact zpc_if (fun _ => fv_fX4_read_11 h) (fun _ => fv_fX4_read_11 h)
theorem fv_fX10_take_57 {σ0 : zSt} {σ : zSt} (h : (zQ [3, 5, 7, 9, 10, 11, 12, 15, 17, 19, 21, 23, 25, 27, 28, 29, 30, 32, 34, 36, 40, 42, 44, 45] [] [5, 38, 46, 48] []) σ0 σ) : zpc (fX10_take_57 σ) (fun r => (zQ [3, 5, 7, 9, 10, 11, 12, 15, 17, 19, 21, 23, 25, 27, 28, 29, 30, 32, 34, 36, 40, 42, 44, 45] [] [5, 38, 46, 48] []) σ0 (r)) := by
  unfold fX10_take_57
  exact zpc_some h
theorem fv_fX10_take {σ0 : zSt} {σ : zSt} {x1 : Int32} {x2 : Int32} (h : (zQ [3, 5, 7, 9, 10, 11, 12, 15, 17, 19, 21, 23, 25, 27, 28, 29, 30, 32, 34, 36, 40, 42, 44, 45] [] [5, 38, 46, 48] []) σ0 σ) : zpc (fX10_take σ x1 x2) (fun r => (zQ [3, 5, 7, 9, 10, 11, 12, 15, 17, 19, 21, 23, 25, 27, 28, 29, 30, 32, 34, 36, 40, 42, 44, 45] [] [5, 38, 46, 48] []) σ0 (r)) := by
  unfold fX10_take
  exact zpc_if (fun _ => zpc_ck (zpc_bs (zQ.wi h rfl) (fun σ3 hσ3 => fv_fX10_take_57 hσ3))) (fun _ => zpc_if (fun _ => zpc_ck (zpc_ck (zpc_bs (zQ.wi h rfl) (fun σ2 hσ2 => fv_fX10_take_57 hσ2)))) (fun _ => zpc_ck (zpc_bs (zQ.wi h rfl) (fun σ1 hσ1 => fv_fX10_take_57 hσ1))))
theorem fv_fX9_writeColour_72 {σ0 : zSt} {σ : zSt} (h : (zQ [3, 5, 7, 9, 10, 11, 12, 15, 17, 19, 21, 23, 25, 27, 28, 29, 30, 32, 34, 36, 40, 42, 44, 45] [] [5, 38, 46, 48] []) σ0 σ) : zpc (fX9_writeColour_72 σ) (fun r => (zQ [3, 5, 7, 9, 10, 11, 12, 15, 17, 19, 21, 23, 25, 27, 28, 29, 30, 32, 34, 36, 40, 42, 44, 45] [] [5, 38, 46, 48] []) σ0 (r)) := by
  unfold fX9_writeColour_72
  exact zpc_some h
theorem fv_fX9_writeColour {σ0 : zSt} {σ : zSt} {x1 : Int32} {x2 : Int32} (h : (zQ [3, 5, 7, 9, 10, 11, 12, 15, 17, 19, 21, 23, 25, 27, 28, 29, 30, 32, 34, 36, 40, 42, 44, 45] [] [5, 38, 46, 48] []) σ0 σ) : zpc (fX9_writeColour σ x1 x2) (fun r => (zQ [3, 5, 7, 9, 10, 11, 12, 15, 17, 19, 21, 23, 25, 27, 28, 29, 30, 32, 34, 36, 40, 42, 44, 45] [] [5, 38, 46, 48] []) σ0 (r)) := by
  unfold fX9_writeColour
  exact zpc_if (fun _ => zpc_ck (zpc_bs (zQ.wi h rfl) (fun σ4 hσ4 => fv_fX9_writeColour_72 hσ4))) (fun _ => zpc_if (fun _ => zpc_ck (zpc_bs (zQ.wi h rfl) (fun σ3 hσ3 => fv_fX9_writeColour_72 hσ3))) (fun _ => zpc_ck (zpc_ck (zpc_bs (zQ.wi h rfl) (fun σ1 hσ1 => zpc_ck (zpc_bs (zQ.wi hσ1 rfl) (fun σ2 hσ2 => fv_fX9_writeColour_72 hσ2)))))))
theorem fv_fX9_writeData_69 {σ0 : zSt} {σ : zSt} (h : (zQ [3, 5, 7, 9, 10, 11, 12, 15, 17, 19, 21, 23, 25, 27, 28, 29, 30, 32, 34, 36, 40, 42, 44, 45] [] [5, 38, 46, 48] []) σ0 σ) : zpc (fX9_writeData_69 σ) (fun r => (zQ [3, 5, 7, 9, 10, 11, 12, 15, 17, 19, 21, 23, 25, 27, 28, 29, 30, 32, 34, 36, 40, 42, 44, 45] [] [5, 38, 46, 48] []) σ0 (r)) := by
  unfold fX9_writeData_69
  exact zpc_some h
theorem fv_fX9_writeData {σ0 : zSt} {σ : zSt} {x1 : Int32} (h : (zQ [3, 5, 7, 9, 10, 11, 12, 15, 17, 19, 21, 23, 25, 27, 28, 29, 30, 32, 34, 36, 40, 42, 44, 45] [] [5, 38, 46, 48] []) σ0 σ) : zpc (fX9_writeData σ x1) (fun r => (zQ [3, 5, 7, 9, 10, 11, 12, 15, 17, 19, 21, 23, 25, 27, 28, 29, 30, 32, 34, 36, 40, 42, 44, 45] [] [5, 38, 46, 48] []) σ0 (r)) := by
  unfold fX9_writeData
  exact zpc_ck (zpc_bv (fun v1 _ => zpc_ck (zpc_bs (zQ.wi h rfl) (fun σ2 hσ2 => zpc_ck (zpc_bs (zQ.wi hσ2 rfl) (fun σ3 hσ3 => zpc_ck (zpc_bs (zQ.wi hσ3 rfl) (fun σ4 hσ4 => zpc_ck (zpc_if (fun _ => zpc_bu (fv_fX9_writeColour hσ4) (fun σ6 hσ6 => fv_fX9_writeData_69 hσ6)) (fun _ => zpc_ck (zpc_bs (zQ.wi hσ4 rfl) (fun σ5 hσ5 => fv_fX9_writeData_69 hσ5))))))))))))
theorem fv_fX9_writeControl_141 {σ0 : zSt} {σ : zSt} (h : (zQ [3, 5, 7, 9, 10, 11, 12, 15, 17, 19, 21, 23, 25, 27, 28, 29, 30, 32, 34, 36, 40, 42, 44, 45] [] [5, 38, 46, 48] []) σ0 σ) : zpc (fX9_writeControl_141 σ) (fun r => (zQ [3, 5, 7, 9, 10, 11, 12, 15, 17, 19, 21, 23, 25, 27, 28, 29, 30, 32, 34, 36, 40, 42, 44, 45] [] [5, 38, 46, 48] []) σ0 (r)) := by
  unfold fX9_writeControl_141
  exact zpc_some h
theorem fv_fX9_writeControl {σ0 : zSt} {σ : zSt} {x1 : Int32} (h : (zQ [3, 5, 7, 9, 10, 11, 12, 15, 17, 19, 21, 23, 25, 27, 28, 29, 30, 32, 34, 36, 40, 42, 44, 45] [] [5, 38, 46, 48] []) σ0 σ) : zpc (fX9_writeControl σ x1) (fun r => (zQ [3, 5, 7, 9, 10, 11, 12, 15, 17, 19, 21, 23, 25, 27, 28, 29, 30, 32, 34, 36, 40, 42, 44, 45] [] [5, 38, 46, 48] []) σ0 (r)) := by
  unfold fX9_writeControl
  exact zpc_ck (zpc_if (fun _ => zpc_ck (zpc_ck (zpc_bs (zQ.wi h rfl) (fun σ6 hσ6 => zpc_ck (zpc_bs (zQ.wi hσ6 rfl) (fun σ7 hσ7 => zpc_some hσ7)))))) (fun _ => zpc_ck (zpc_bs (zQ.wi h rfl) (fun σ1 hσ1 => zpc_ck (zpc_ck (zpc_bs (zQ.wi hσ1 rfl) (fun σ2 hσ2 => zpc_ck (zpc_bs (zQ.wi hσ2 rfl) (fun σ3 hσ3 => zpc_ck (zpc_if (fun _ => zpc_bu (fv_fX9_readAhead hσ3) (fun σ5 hσ5 => fv_fX9_writeControl_141 hσ5)) (fun _ => zpc_ck (zpc_if (fun _ => zpc_if (fun _ => fv_fX9_writeControl_141 hσ3) (fun _ => zpc_ck (zpc_ck (zpc_bs (zQ.wi hσ3 rfl) (fun σ4 hσ4 => fv_fX9_writeControl_141 hσ4))))) (fun _ => fv_fX9_writeControl_141 hσ3)))))))))))))
theorem fv_fX7_take_155 {σ0 : zSt} {σ : zSt} (h : (zQ [3, 5, 7, 9, 10, 11, 12, 15, 17, 19, 21, 23, 25, 27, 28, 29, 30, 32, 34, 36, 40, 42, 44, 45] [] [5, 38, 46, 48] []) σ0 σ) : zpc (fX7_take_155 σ) (fun r => (zQ [3, 5, 7, 9, 10, 11, 12, 15, 17, 19, 21, 23, 25, 27, 28, 29, 30, 32, 34, 36, 40, 42, 44, 45] [] [5, 38, 46, 48] []) σ0 (r)) := by
  unfold fX7_take_155
  exact zpc_some h
theorem fv_fX7_take_30 {σ0 : zSt} {σ : zSt} {x1 : Int32} {x2 : Int32} (h : (zQ [3, 5, 7, 9, 10, 11, 12, 15, 17, 19, 21, 23, 25, 27, 28, 29, 30, 32, 34, 36, 40, 42, 44, 45] [] [5, 38, 46, 48] []) σ0 σ) : zpc (fX7_take_30 σ x1 x2) (fun r => (zQ [3, 5, 7, 9, 10, 11, 12, 15, 17, 19, 21, 23, 25, 27, 28, 29, 30, 32, 34, 36, 40, 42, 44, 45] [] [5, 38, 46, 48] []) σ0 (r)) := by
  unfold fX7_take_30
  exact zpc_ck (zpc_bv (fun v1 _ => zpc_ck (zpc_if (fun _ => zpc_ck (zpc_bs (zQ.wi h rfl) (fun σ6 hσ6 => fv_fX7_take_155 hσ6))) (fun _ => zpc_if (fun _ => zpc_ck (zpc_bs (zQ.wi h rfl) (fun σ4 hσ4 => zpc_ck (zpc_bs (zQ.wi hσ4 rfl) (fun σ5 hσ5 => fv_fX7_take_155 hσ5))))) (fun _ => zpc_if (fun _ => zpc_ck (zpc_ck (zpc_bs (zQ.wi h rfl) (fun σ2 hσ2 => fv_fX7_take_155 hσ2)))) (fun _ => zpc_ck (zpc_ck (zpc_bs (zQ.wi h rfl) (fun σ3 hσ3 => fv_fX7_take_155 hσ3)))))))))
theorem fv_fX7_take_12 {σ0 : zSt} {σ : zSt} {x1 : Int32} {s0 : Int32} (h : (zQ [3, 5, 7, 9, 10, 11, 12, 15, 17, 19, 21, 23, 25, 27, 28, 29, 30, 32, 34, 36, 40, 42, 44, 45] [] [5, 38, 46, 48] []) σ0 σ) : zpc (fX7_take_12 σ x1 s0) (fun r => (zQ [3, 5, 7, 9, 10, 11, 12, 15, 17, 19, 21, 23, 25, 27, 28, 29, 30, 32, 34, 36, 40, 42, 44, 45] [] [5, 38, 46, 48] []) σ0 (r)) := by
  unfold fX7_take_12
  exact zpc_if (fun _ => fv_fX7_take_30 h) (fun _ => zpc_ck (zpc_bs (zQ.wi h rfl) (fun σ7 hσ7 => fv_fX7_take_30 hσ7)))
theorem fv_fX7_take {σ0 : zSt} {σ : zSt} {x1 : Int32} (h : (zQ [3, 5, 7, 9, 10, 11, 12, 15, 17, 19, 21, 23, 25, 27, 28, 29, 30, 32, 34, 36, 40, 42, 44, 45] [] [5, 38, 46, 48] []) σ0 σ) : zpc (fX7_take σ x1) (fun r => (zQ [3, 5, 7, 9, 10, 11, 12, 15, 17, 19, 21, 23, 25, 27, 28, 29, 30, 32, 34, 36, 40, 42, 44, 45] [] [5, 38, 46, 48] []) σ0 (r)) := by
  unfold fX7_take
  exact zpc_if (fun _ => fv_fX7_take_12 h) (fun _ => fv_fX7_take_12 h)
theorem fv_fX7_takeStereo {σ0 : zSt} {σ : zSt} {x1 : Int32} (h : (zQ [3, 5, 7, 9, 10, 11, 12, 15, 17, 19, 21, 23, 25, 27, 28, 29, 30, 32, 34, 36, 40, 42, 44, 45] [] [5, 38, 46, 48] []) σ0 σ) : zpc (fX7_takeStereo σ x1) (fun r => (zQ [3, 5, 7, 9, 10, 11, 12, 15, 17, 19, 21, 23, 25, 27, 28, 29, 30, 32, 34, 36, 40, 42, 44, 45] [] [5, 38, 46, 48] []) σ0 (r)) := by
  unfold fX7_takeStereo
  exact zpc_ck (zpc_bs (zQ.wi h rfl) (fun σ1 hσ1 => zpc_some hσ1))
theorem fv_fX4_writeHandy_34 {σ0 : zSt} {σ : zSt} (h : (zQ [3, 5, 7, 9, 10, 11, 12, 15, 17, 19, 21, 23, 25, 27, 28, 29, 30, 32, 34, 36, 40, 42, 44, 45] [] [5, 38, 46, 48] []) σ0 σ) : zpc (fX4_writeHandy_34 σ) (fun r => (zQ [3, 5, 7, 9, 10, 11, 12, 15, 17, 19, 21, 23, 25, 27, 28, 29, 30, 32, 34, 36, 40, 42, 44, 45] [] [5, 38, 46, 48] []) σ0 (r)) := by
  unfold fX4_writeHandy_34
  exact zpc_some h
theorem fv_fX4_writeHandy {σ0 : zSt} {σ : zSt} {x1 : Int32} {x2 : Int32} (h : (zQ [3, 5, 7, 9, 10, 11, 12, 15, 17, 19, 21, 23, 25, 27, 28, 29, 30, 32, 34, 36, 40, 42, 44, 45] [] [5, 38, 46, 48] []) σ0 σ) : zpc (fX4_writeHandy σ x1 x2) (fun r => (zQ [3, 5, 7, 9, 10, 11, 12, 15, 17, 19, 21, 23, 25, 27, 28, 29, 30, 32, 34, 36, 40, 42, 44, 45] [] [5, 38, 46, 48] []) σ0 (r)) := by
  unfold fX4_writeHandy
  exact zpc_if (fun _ => zpc_bu (fv_fX7_takeStereo h) (fun σ2 hσ2 => fv_fX4_writeHandy_34 hσ2)) (fun _ => zpc_if (fun _ => fv_fX4_writeHandy_34 h) (fun _ => zpc_if (fun _ => fv_fX4_writeHandy_34 h) (fun _ => zpc_ck (zpc_bs (zQ.wi h rfl) (fun σ1 hσ1 => fv_fX4_writeHandy_34 hσ1)))))
theorem fv_fX4_write_151 {σ0 : zSt} {σ : zSt} (h : (zQ [3, 5, 7, 9, 10, 11, 12, 15, 17, 19, 21, 23, 25, 27, 28, 29, 30, 32, 34, 36, 40, 42, 44, 45] [] [5, 38, 46, 48] []) σ0 σ) : zpc (fX4_write_151 σ) (fun r => (zQ [3, 5, 7, 9, 10, 11, 12, 15, 17, 19, 21, 23, 25, 27, 28, 29, 30, 32, 34, 36, 40, 42, 44, 45] [] [5, 38, 46, 48] []) σ0 (r)) := by
  unfold fX4_write_151
  exact zpc_some h
theorem fv_fX4_write_71 {σ0 : zSt} {σ : zSt} {x2 : Int32} {x3 : Int32} (h : (zQ [3, 5, 7, 9, 10, 11, 12, 15, 17, 19, 21, 23, 25, 27, 28, 29, 30, 32, 34, 36, 40, 42, 44, 45] [] [5, 38, 46, 48] []) σ0 σ) : zpc (fX4_write_71 σ x2 x3) (fun r => (zQ [3, 5, 7, 9, 10, 11, 12, 15, 17, 19, 21, 23, 25, 27, 28, 29, 30, 32, 34, 36, 40, 42, 44, 45] [] [5, 38, 46, 48] []) σ0 (r)) := by
  unfold fX4_write_71
  exact zpc_if (fun _ => zpc_bu (fv_fX4_changeLines h) (fun σ1 hσ1 => fv_fX4_write_151 hσ1)) (fun _ => fv_fX4_write_151 h)
theorem fv_fX4_write_11 {σ0 : zSt} {σ : zSt} {x1 : Int32} {x2 : Int32} {s0 : Int32} (h : (zQ [3, 5, 7, 9, 10, 11, 12, 15, 17, 19, 21, 23, 25, 27, 28, 29, 30, 32, 34, 36, 40, 42, 44, 45] [] [5, 38, 46, 48] []) σ0 σ) : zpc (fX4_write_11 σ x1 x2 s0) (fun r => (zQ [3, 5, 7, 9, 10, 11, 12, 15, 17, 19, 21, 23, 25, 27, 28, 29, 30, 32, 34, 36, 40, 42, 44, 45] [] [5, 38, 46, 48] []) σ0 (r)) := by
  unfold fX4_write_11
  exact zpc_if (fun _ => zpc_if (fun _ => fv_fX4_write_71 h) (fun _ => zpc_if (fun _ => fv_fX4_write_71 h) (fun _ => zpc_if (fun _ => fv_fX4_write_71 h) (fun _ => zpc_bu (fv_fX4_writeHandy h) (fun σ2 hσ2 => fv_fX4_write_151 hσ2))))) (fun _ => zpc_if (fun _ => zpc_bu (fv_fX7_take h) (fun σ3 hσ3 => fv_fX4_write_151 hσ3)) (fun _ => zpc_if (fun _ => zpc_if (fun _ => zpc_bu (fv_fX9_writeControl h) (fun σ4 hσ4 => fv_fX4_write_151 hσ4)) (fun _ => zpc_bu (fv_fX9_writeData h) (fun σ5 hσ5 => fv_fX4_write_151 hσ5))) (fun _ => zpc_if (fun _ => zpc_if (fun _ => fv_fX4_write_151 h) (fun _ => zpc_if (fun _ => fv_fX4_write_151 h) (fun _ => zpc_bu (fv_fX10_take h) (fun σ6 hσ6 => fv_fX4_write_151 hσ6)))) (fun _ => fv_fX4_write_151 h))))
theorem fv_fX4_write {σ0 : zSt} {σ : zSt} {x1 : Int32} {x2 : Int32} (h : (zQ [3, 5, 7, 9, 10, 11, 12, 15, 17, 19, 21, 23, 25, 27, 28, 29, 30, 32, 34, 36, 40, 42, 44, 45] [] [5, 38, 46, 48] []) σ0 σ) : zpc (fX4_write σ x1 x2) (fun r => (zQ [3, 5, 7, 9, 10, 11, 12, 15, 17, 19, 21, 23, 25, 27, 28, 29, 30, 32, 34, 36, 40, 42, 44, 45] [] [5, 38, 46, 48] []) σ0 (r)) := by
  unfold fX4_write
  exact zpc_if (fun _ => fv_fX4_write_11 h) (fun _ => fv_fX4_write_11 h)
theorem fv_fJ7_fill_53178_k36_5_body {σ0 : zSt} {k5 : zSt → Int32 → Int32 → Int32 → Option (zSt)} (hk5 : ∀ (y0 : zSt) (y1 : Int32) (y2 : Int32) (y3 : Int32), (zQ [3, 5, 7, 9, 10, 11, 12, 15, 17, 19, 21, 23, 25, 27, 28, 29, 30, 32, 34, 36, 40, 42, 44, 45] [] [5, 38, 46, 48] []) σ0 y0 → zpc (k5 y0 y1 y2 y3) (fun r => (zQ [3, 5, 7, 9, 10, 11, 12, 15, 17, 19, 21, 23, 25, 27, 28, 29, 30, 32, 34, 36, 40, 42, 44, 45] [] [5, 38, 46, 48] []) σ0 (r))) {σ : zSt} {x1 : Int32} {x2 : Int32} {x3 : Int32} (h : (zQ [3, 5, 7, 9, 10, 11, 12, 15, 17, 19, 21, 23, 25, 27, 28, 29, 30, 32, 34, 36, 40, 42, 44, 45] [] [5, 38, 46, 48] []) σ0 σ) : zpc (fJ7_fill_53178_k36_5_body k5 σ x1 x2 x3) (fun r => (zQ [3, 5, 7, 9, 10, 11, 12, 15, 17, 19, 21, 23, 25, 27, 28, 29, 30, 32, 34, 36, 40, 42, 44, 45] [] [5, 38, 46, 48] []) σ0 (r)) := by
  unfold fJ7_fill_53178_k36_5_body
  exact zpc_if (fun _ => zpc_some h) (fun _ => zpc_ck (zpc_bs (zQ.wi h rfl) (fun σ1 hσ1 => zpc_bv (fun v2 _ => hk5 _ _ _ _ hσ1))))
theorem fv_fJ7_fill_53178_k36_5 {σ0 : zSt} : ∀ (n : Nat) (y0 : zSt) (y1 : Int32) (y2 : Int32) (y3 : Int32), (zQ [3, 5, 7, 9, 10, 11, 12, 15, 17, 19, 21, 23, 25, 27, 28, 29, 30, 32, 34, 36, 40, 42, 44, 45] [] [5, 38, 46, 48] []) σ0 y0 → zpc (fJ7_fill_53178_k36_5 n y0 y1 y2 y3) (fun r => (zQ [3, 5, 7, 9, 10, 11, 12, 15, 17, 19, 21, 23, 25, 27, 28, 29, 30, 32, 34, 36, 40, 42, 44, 45] [] [5, 38, 46, 48] []) σ0 (r)) := by
  intro n
  induction n with
  | zero => intro y0 y1 y2 y3 h; exact zpc_none
  | succ n ih => intro y0 y1 y2 y3 h; exact fv_fJ7_fill_53178_k36_5_body ih h
theorem fv_fJ7_fill_53178_k36 {σ0 : zSt} {σ : zSt} {x1 : Int32} (h : (zQ [3, 5, 7, 9, 10, 11, 12, 15, 17, 19, 21, 23, 25, 27, 28, 29, 30, 32, 34, 36, 40, 42, 44, 45] [] [5, 38, 46, 48] []) σ0 σ) : zpc (fJ7_fill_53178_k36 σ x1) (fun r => (zQ [3, 5, 7, 9, 10, 11, 12, 15, 17, 19, 21, 23, 25, 27, 28, 29, 30, 32, 34, 36, 40, 42, 44, 45] [] [5, 38, 46, 48] []) σ0 (r)) := by
  unfold fJ7_fill_53178_k36
  exact fv_fJ7_fill_53178_k36_5 _ _ _ _ _ h
theorem fv_fX5_clear {σ0 : zSt} {σ : zSt} (h : (zQ [3, 5, 7, 9, 10, 11, 12, 15, 17, 19, 21, 23, 25, 27, 28, 29, 30, 32, 34, 36, 40, 42, 44, 45] [] [5, 38, 46, 48] []) σ0 σ) : zpc (fX5_clear σ) (fun r => (zQ [3, 5, 7, 9, 10, 11, 12, 15, 17, 19, 21, 23, 25, 27, 28, 29, 30, 32, 34, 36, 40, 42, 44, 45] [] [5, 38, 46, 48] []) σ0 (r)) := by
  unfold fX5_clear
  exact zpc_bu (fv_fJ7_fill_53178_k36 h) (fun σ1 hσ1 => zpc_ck (zpc_bs (zQ.wi hσ1 rfl) (fun σ2 hσ2 => zpc_some hσ2)))
theorem fv_fX5_value_20 {σ0 : zSt} {σ : zSt} {s0 : Int32} (h : (zQ [3, 5, 7, 9, 10, 11, 12, 15, 17, 19, 21, 23, 25, 27, 28, 29, 30, 32, 34, 36, 40, 42, 44, 45] [] [5, 38, 46, 48] []) σ0 σ) : zpc (fX5_value_20 σ s0) (fun r => (zQ [3, 5, 7, 9, 10, 11, 12, 15, 17, 19, 21, 23, 25, 27, 28, 29, 30, 32, 34, 36, 40, 42, 44, 45] [] [5, 38, 46, 48] []) σ0 (r.1)) := by
  unfold fX5_value_20
  exact zpc_some h
theorem fv_fX5_value_19 {σ0 : zSt} {σ : zSt} (h : (zQ [3, 5, 7, 9, 10, 11, 12, 15, 17, 19, 21, 23, 25, 27, 28, 29, 30, 32, 34, 36, 40, 42, 44, 45] [] [5, 38, 46, 48] []) σ0 σ) : zpc (fX5_value_19 σ) (fun r => (zQ [3, 5, 7, 9, 10, 11, 12, 15, 17, 19, 21, 23, 25, 27, 28, 29, 30, 32, 34, 36, 40, 42, 44, 45] [] [5, 38, 46, 48] []) σ0 (r.1)) := by
  unfold fX5_value_19
  exact fv_fX5_value_20 h
theorem fv_fX5_value {σ0 : zSt} {σ : zSt} {x1 : Int32} (h : (zQ [3, 5, 7, 9, 10, 11, 12, 15, 17, 19, 21, 23, 25, 27, 28, 29, 30, 32, 34, 36, 40, 42, 44, 45] [] [5, 38, 46, 48] []) σ0 σ) : zpc (fX5_value σ x1) (fun r => (zQ [3, 5, 7, 9, 10, 11, 12, 15, 17, 19, 21, 23, 25, 27, 28, 29, 30, 32, 34, 36, 40, 42, 44, 45] [] [5, 38, 46, 48] []) σ0 (r.1)) := by
  unfold fX5_value
  exact zpc_if (fun _ => fv_fX5_value_19 h) (fun _ => zpc_if (fun _ => fv_fX5_value_19 h) (fun _ => zpc_ck (fv_fX5_value_20 h)))
theorem fv_fX5_change_10 {σ0 : zSt} {σ : zSt} (h : (zQ [3, 5, 7, 9, 10, 11, 12, 15, 17, 19, 21, 23, 25, 27, 28, 29, 30, 32, 34, 36, 40, 42, 44, 45] [] [5, 38, 46, 48] []) σ0 σ) : zpc (fX5_change_10 σ) (fun r => (zQ [3, 5, 7, 9, 10, 11, 12, 15, 17, 19, 21, 23, 25, 27, 28, 29, 30, 32, 34, 36, 40, 42, 44, 45] [] [5, 38, 46, 48] []) σ0 (r)) := by
  unfold fX5_change_10
  exact zpc_some h
theorem fv_fX5_change_81 {σ0 : zSt} {σ : zSt} (h : (zQ [3, 5, 7, 9, 10, 11, 12, 15, 17, 19, 21, 23, 25, 27, 28, 29, 30, 32, 34, 36, 40, 42, 44, 45] [] [5, 38, 46, 48] []) σ0 σ) : zpc (fX5_change_81 σ) (fun r => (zQ [3, 5, 7, 9, 10, 11, 12, 15, 17, 19, 21, 23, 25, 27, 28, 29, 30, 32, 34, 36, 40, 42, 44, 45] [] [5, 38, 46, 48] []) σ0 (r)) := by
  unfold fX5_change_81
  exact zpc_some h
theorem fv_fX5_change_80 {σ0 : zSt} {σ : zSt} {s0 : Int32} {s1 : Int32} (h : (zQ [3, 5, 7, 9, 10, 11, 12, 15, 17, 19, 21, 23, 25, 27, 28, 29, 30, 32, 34, 36, 40, 42, 44, 45] [] [5, 38, 46, 48] []) σ0 σ) : zpc (fX5_change_80 σ s0 s1) (fun r => (zQ [3, 5, 7, 9, 10, 11, 12, 15, 17, 19, 21, 23, 25, 27, 28, 29, 30, 32, 34, 36, 40, 42, 44, 45] [] [5, 38, 46, 48] []) σ0 (r)) := by
  unfold fX5_change_80
  exact zpc_ck (zpc_bs (zQ.wi h rfl) (fun σ1 hσ1 => fv_fX5_change_81 hσ1))
theorem fv_fX5_change_75 {σ0 : zSt} {σ : zSt} {x2 : Int32} {s0 : Int32} (h : (zQ [3, 5, 7, 9, 10, 11, 12, 15, 17, 19, 21, 23, 25, 27, 28, 29, 30, 32, 34, 36, 40, 42, 44, 45] [] [5, 38, 46, 48] []) σ0 σ) : zpc (fX5_change_75 σ x2 s0) (fun r => (zQ [3, 5, 7, 9, 10, 11, 12, 15, 17, 19, 21, 23, 25, 27, 28, 29, 30, 32, 34, 36, 40, 42, 44, 45] [] [5, 38, 46, 48] []) σ0 (r)) := by
  unfold fX5_change_75
  exact fv_fX5_change_80 h
theorem fv_fX5_change {σ0 : zSt} {σ : zSt} {x1 : Int32} {x2 : Int32} (h : (zQ [3, 5, 7, 9, 10, 11, 12, 15, 17, 19, 21, 23, 25, 27, 28, 29, 30, 32, 34, 36, 40, 42, 44, 45] [] [5, 38, 46, 48] []) σ0 σ) : zpc (fX5_change σ x1 x2) (fun r => (zQ [3, 5, 7, 9, 10, 11, 12, 15, 17, 19, 21, 23, 25, 27, 28, 29, 30, 32, 34, 36, 40, 42, 44, 45] [] [5, 38, 46, 48] []) σ0 (r)) := by
  unfold fX5_change
  exact zpc_if (fun _ => fv_fX5_change_10 h) (fun _ => zpc_if (fun _ => zpc_if (fun _ => zpc_ck (zpc_bs (zQ.wi h rfl) (fun σ3 hσ3 => fv_fX5_change_81 hσ3))) (fun _ => zpc_if (fun _ => zpc_if (fun _ => fv_fX5_change_75 h) (fun _ => zpc_if (fun _ => fv_fX5_change_75 h) (fun _ => fv_fX5_change_80 h))) (fun _ => zpc_ck (zpc_bs (zQ.wi h rfl) (fun σ2 hσ2 => fv_fX5_change_81 hσ2))))) (fun _ => fv_fX5_change_10 h))
theorem fv_fX5_askForPause {σ0 : zSt} {σ : zSt} (h : (zQ [3, 5, 7, 9, 10, 11, 12, 15, 17, 19, 21, 23, 25, 27, 28, 29, 30, 32, 34, 36, 40, 42, 44, 45] [] [5, 38, 46, 48] []) σ0 σ) : zpc (fX5_askForPause σ) (fun r => (zQ [3, 5, 7, 9, 10, 11, 12, 15, 17, 19, 21, 23, 25, 27, 28, 29, 30, 32, 34, 36, 40, 42, 44, 45] [] [5, 38, 46, 48] []) σ0 (r)) := by
  unfold fX5_askForPause
  exact zpc_ck (zpc_bs (zQ.wi h rfl) (fun σ1 hσ1 => zpc_some hσ1))
theorem fv_fX5_growR {σ0 : zSt} {σ : zSt} (h : (zQ [3, 5, 7, 9, 10, 11, 12, 15, 17, 19, 21, 23, 25, 27, 28, 29, 30, 32, 34, 36, 40, 42, 44, 45] [] [5, 38, 46, 48] []) σ0 σ) : zpc (fX5_growR σ) (fun r => (zQ [3, 5, 7, 9, 10, 11, 12, 15, 17, 19, 21, 23, 25, 27, 28, 29, 30, 32, 34, 36, 40, 42, 44, 45] [] [5, 38, 46, 48] []) σ0 (r)) := by
  unfold fX5_growR
  exact zpc_ck (zpc_ck (zpc_ck (zpc_bs (zQ.wi h rfl) (fun σ1 hσ1 => zpc_some hσ1))))
theorem fv_fX5_push {σ0 : zSt} {σ : zSt} {x1 : Int32} (h : (zQ [3, 5, 7, 9, 10, 11, 12, 15, 17, 19, 21, 23, 25, 27, 28, 29, 30, 32, 34, 36, 40, 42, 44, 45] [] [5, 38, 46, 48] []) σ0 σ) : zpc (fX5_push σ x1) (fun r => (zQ [3, 5, 7, 9, 10, 11, 12, 15, 17, 19, 21, 23, 25, 27, 28, 29, 30, 32, 34, 36, 40, 42, 44, 45] [] [5, 38, 46, 48] []) σ0 (r)) := by
  unfold fX5_push
  exact zpc_ck (zpc_bu (fv_fX2_write h) (fun σ1 hσ1 => zpc_ck (zpc_bu (fv_fX2_write hσ1) (fun σ2 hσ2 => zpc_ck (zpc_ck (zpc_bs (zQ.wi hσ2 rfl) (fun σ3 hσ3 => zpc_some hσ3)))))))
theorem fv_fX5_goTo {σ0 : zSt} {σ : zSt} {x1 : Int32} (h : (zQ [3, 5, 7, 9, 10, 11, 12, 15, 17, 19, 21, 23, 25, 27, 28, 29, 30, 32, 34, 36, 40, 42, 44, 45] [] [5, 38, 46, 48] []) σ0 σ) : zpc (fX5_goTo σ x1) (fun r => (zQ [3, 5, 7, 9, 10, 11, 12, 15, 17, 19, 21, 23, 25, 27, 28, 29, 30, 32, 34, 36, 40, 42, 44, 45] [] [5, 38, 46, 48] []) σ0 (r)) := by
  unfold fX5_goTo
  exact zpc_ck (zpc_bs (zQ.wi h rfl) (fun σ1 hσ1 => zpc_ck (zpc_bs (zQ.wi hσ1 rfl) (fun σ2 hσ2 => zpc_some hσ2))))
theorem fv_fX5_breakOff {σ0 : zSt} {σ : zSt} {x1 : Int32} (h : (zQ [3, 5, 7, 9, 10, 11, 12, 15, 17, 19, 21, 23, 25, 27, 28, 29, 30, 32, 34, 36, 40, 42, 44, 45] [] [5, 38, 46, 48] []) σ0 σ) : zpc (fX5_breakOff σ x1) (fun r => (zQ [3, 5, 7, 9, 10, 11, 12, 15, 17, 19, 21, 23, 25, 27, 28, 29, 30, 32, 34, 36, 40, 42, 44, 45] [] [5, 38, 46, 48] []) σ0 (r)) := by
  unfold fX5_breakOff
  exact zpc_bu (fv_fX5_growR h) (fun σ1 hσ1 => zpc_ck (zpc_bs (zQ.wi hσ1 rfl) (fun σ2 hσ2 => zpc_ck (zpc_bu (fv_fX5_push hσ2) (fun σ3 hσ3 => zpc_bu (fv_fX5_goTo hσ3) (fun σ4 hσ4 => zpc_some hσ4))))))
theorem fv_fX5_readWord {σ0 : zSt} {σ : zSt} {x1 : Int32} (h : (zQ [3, 5, 7, 9, 10, 11, 12, 15, 17, 19, 21, 23, 25, 27, 28, 29, 30, 32, 34, 36, 40, 42, 44, 45] [] [5, 38, 46, 48] []) σ0 σ) : zpc (fX5_readWord σ x1) (fun r => (zQ [3, 5, 7, 9, 10, 11, 12, 15, 17, 19, 21, 23, 25, 27, 28, 29, 30, 32, 34, 36, 40, 42, 44, 45] [] [5, 38, 46, 48] []) σ0 (r.1)) := by
  unfold fX5_readWord
  exact zpc_bi (fv_fX2_read h) (fun σ1 v2 hσ1 => zpc_bi (fv_fX2_read hσ1) (fun σ3 v4 hσ3 => zpc_some hσ3))
theorem fv_fX5_answerCalls_82 {σ0 : zSt} {σ : zSt} (h : (zQ [3, 5, 7, 9, 10, 11, 12, 15, 17, 19, 21, 23, 25, 27, 28, 29, 30, 32, 34, 36, 40, 42, 44, 45] [] [5, 38, 46, 48] []) σ0 σ) : zpc (fX5_answerCalls_82 σ) (fun r => (zQ [3, 5, 7, 9, 10, 11, 12, 15, 17, 19, 21, 23, 25, 27, 28, 29, 30, 32, 34, 36, 40, 42, 44, 45] [] [5, 38, 46, 48] []) σ0 (r.1)) := by
  unfold fX5_answerCalls_82
  exact zpc_some h
theorem fv_fX5_answerCalls_64 {σ0 : zSt} {σ : zSt} {x1 : Int32} {x2 : Int32} (h : (zQ [3, 5, 7, 9, 10, 11, 12, 15, 17, 19, 21, 23, 25, 27, 28, 29, 30, 32, 34, 36, 40, 42, 44, 45] [] [5, 38, 46, 48] []) σ0 σ) : zpc (fX5_answerCalls_64 σ x1 x2) (fun r => (zQ [3, 5, 7, 9, 10, 11, 12, 15, 17, 19, 21, 23, 25, 27, 28, 29, 30, 32, 34, 36, 40, 42, 44, 45] [] [5, 38, 46, 48] []) σ0 (r.1)) := by
  unfold fX5_answerCalls_64
  exact zpc_if (fun _ => fv_fX5_answerCalls_82 h) (fun _ => zpc_if (fun _ => fv_fX5_answerCalls_82 h) (fun _ => zpc_ck (zpc_if (fun _ => fv_fX5_answerCalls_82 h) (fun _ => zpc_ck (zpc_bs (zQ.wi h rfl) (fun σ1 hσ1 => zpc_ck (zpc_bs (zQ.wi hσ1 rfl) (fun σ2 hσ2 => zpc_ck (zpc_if (fun _ => zpc_ck (zpc_bi (fv_fX5_readWord hσ2) (fun σ4 v5 hσ4 => zpc_bu (fv_fX5_breakOff hσ4) (fun σ6 hσ6 => zpc_some hσ6)))) (fun _ => zpc_bu (fv_fX5_breakOff hσ2) (fun σ3 hσ3 => zpc_some hσ3)))))))))))
theorem fv_fX5_answerCalls_15 {σ0 : zSt} {σ : zSt} {x1 : Int32} {s0 : Int32} (h : (zQ [3, 5, 7, 9, 10, 11, 12, 15, 17, 19, 21, 23, 25, 27, 28, 29, 30, 32, 34, 36, 40, 42, 44, 45] [] [5, 38, 46, 48] []) σ0 σ) : zpc (fX5_answerCalls_15 σ x1 s0) (fun r => (zQ [3, 5, 7, 9, 10, 11, 12, 15, 17, 19, 21, 23, 25, 27, 28, 29, 30, 32, 34, 36, 40, 42, 44, 45] [] [5, 38, 46, 48] []) σ0 (r.1)) := by
  unfold fX5_answerCalls_15
  exact zpc_ck (zpc_bs (zQ.wi h rfl) (fun σ7 hσ7 => zpc_if (fun _ => fv_fX5_answerCalls_64 hσ7) (fun _ => zpc_ck (zpc_if (fun _ => zpc_ck (zpc_bs (zQ.wi hσ7 rfl) (fun σ8 hσ8 => zpc_ck (zpc_bs (zQ.wi hσ8 rfl) (fun σ9 hσ9 => zpc_bu (fv_fX5_breakOff hσ9) (fun σ10 hσ10 => zpc_some hσ10)))))) (fun _ => fv_fX5_answerCalls_64 hσ7)))))
theorem fv_fX5_answerCalls {σ0 : zSt} {σ : zSt} {x1 : Int32} (h : (zQ [3, 5, 7, 9, 10, 11, 12, 15, 17, 19, 21, 23, 25, 27, 28, 29, 30, 32, 34, 36, 40, 42, 44, 45] [] [5, 38, 46, 48] []) σ0 σ) : zpc (fX5_answerCalls σ x1) (fun r => (zQ [3, 5, 7, 9, 10, 11, 12, 15, 17, 19, 21, 23, 25, 27, 28, 29, 30, 32, 34, 36, 40, 42, 44, 45] [] [5, 38, 46, 48] []) σ0 (r.1)) := by
  unfold fX5_answerCalls
  exact zpc_ck (zpc_if (fun _ => fv_fX5_answerCalls_15 h) (fun _ => fv_fX5_answerCalls_15 h))
theorem fv_fX5_pairAt {σ0 : zSt} {σ : zSt} {x1 : Int32} (h : (zQ [3, 5, 7, 9, 10, 11, 12, 15, 17, 19, 21, 23, 25, 27, 28, 29, 30, 32, 34, 36, 40, 42, 44, 45] [] [5, 38, 46, 48] []) σ0 σ) : zpc (fX5_pairAt σ x1) (fun r => (zQ [3, 5, 7, 9, 10, 11, 12, 15, 17, 19, 21, 23, 25, 27, 28, 29, 30, 32, 34, 36, 40, 42, 44, 45] [] [5, 38, 46, 48] []) σ0 (r.1)) := by
  unfold fX5_pairAt
  exact zpc_ck (zpc_ck (zpc_some h))
theorem fv_fX5_fetch {σ0 : zSt} {σ : zSt} (h : (zQ [3, 5, 7, 9, 10, 11, 12, 15, 17, 19, 21, 23, 25, 27, 28, 29, 30, 32, 34, 36, 40, 42, 44, 45] [] [5, 38, 46, 48] []) σ0 σ) : zpc (fX5_fetch σ) (fun r => (zQ [3, 5, 7, 9, 10, 11, 12, 15, 17, 19, 21, 23, 25, 27, 28, 29, 30, 32, 34, 36, 40, 42, 44, 45] [] [5, 38, 46, 48] []) σ0 (r.1)) := by
  unfold fX5_fetch
  exact zpc_ck (zpc_bi (fv_fX2_read h) (fun σ1 v2 hσ1 => zpc_ck (zpc_ck (zpc_bs (zQ.wi hσ1 rfl) (fun σ3 hσ3 => zpc_some hσ3)))))
theorem fv_fX5_fetchOp {σ0 : zSt} {σ : zSt} (h : (zQ [3, 5, 7, 9, 10, 11, 12, 15, 17, 19, 21, 23, 25, 27, 28, 29, 30, 32, 34, 36, 40, 42, 44, 45] [] [5, 38, 46, 48] []) σ0 σ) : zpc (fX5_fetchOp σ) (fun r => (zQ [3, 5, 7, 9, 10, 11, 12, 15, 17, 19, 21, 23, 25, 27, 28, 29, 30, 32, 34, 36, 40, 42, 44, 45] [] [5, 38, 46, 48] []) σ0 (r.1)) := by
  unfold fX5_fetchOp
  exact zpc_bu (fv_fX5_growR h) (fun σ1 hσ1 => zpc_bi (fv_fX5_fetch hσ1) (fun σ2 v3 hσ2 => zpc_some hσ2))
theorem fv_fX5_askBit_38 {σ0 : zSt} {σ : zSt} {x3 : Int32} {s0 : Int32} {s1 : Int32} {s2 : Int32} (h : (zQ [3, 5, 7, 9, 10, 11, 12, 15, 17, 19, 21, 23, 25, 27, 28, 29, 30, 32, 34, 36, 40, 42, 44, 45] [] [5, 38, 46, 48] []) σ0 σ) : zpc (fX5_askBit_38 σ x3 s0 s1 s2) (fun r => (zQ [3, 5, 7, 9, 10, 11, 12, 15, 17, 19, 21, 23, 25, 27, 28, 29, 30, 32, 34, 36, 40, 42, 44, 45] [] [5, 38, 46, 48] []) σ0 (r)) := by
  unfold fX5_askBit_38
  exact zpc_ck (zpc_bs (zQ.wi h rfl) (fun σ1 hσ1 => zpc_some hσ1))
theorem fv_fX5_askBit {σ0 : zSt} {σ : zSt} {x1 : Int32} {x2 : Int32} {x3 : Int32} (h : (zQ [3, 5, 7, 9, 10, 11, 12, 15, 17, 19, 21, 23, 25, 27, 28, 29, 30, 32, 34, 36, 40, 42, 44, 45] [] [5, 38, 46, 48] []) σ0 σ) : zpc (fX5_askBit σ x1 x2 x3) (fun r => (zQ [3, 5, 7, 9, 10, 11, 12, 15, 17, 19, 21, 23, 25, 27, 28, 29, 30, 32, 34, 36, 40, 42, 44, 45] [] [5, 38, 46, 48] []) σ0 (r)) := by
  unfold fX5_askBit
  exact zpc_bv (fun v2 _ => zpc_ck (zpc_if (fun _ => fv_fX5_askBit_38 h) (fun _ => fv_fX5_askBit_38 h)))
theorem fv_fX5_by_15 {σ0 : zSt} {σ : zSt} {s0 : Int32} {s1 : Int32} (h : (zQ [3, 5, 7, 9, 10, 11, 12, 15, 17, 19, 21, 23, 25, 27, 28, 29, 30, 32, 34, 36, 40, 42, 44, 45] [] [5, 38, 46, 48] []) σ0 σ) : zpc (fX5_by_15 σ s0 s1) (fun r => (zQ [3, 5, 7, 9, 10, 11, 12, 15, 17, 19, 21, 23, 25, 27, 28, 29, 30, 32, 34, 36, 40, 42, 44, 45] [] [5, 38, 46, 48] []) σ0 (r.1)) := by
  unfold fX5_by_15
  exact zpc_some h
theorem fv_fX5_by {σ0 : zSt} {σ : zSt} {x0 : Int32} (h : (zQ [3, 5, 7, 9, 10, 11, 12, 15, 17, 19, 21, 23, 25, 27, 28, 29, 30, 32, 34, 36, 40, 42, 44, 45] [] [5, 38, 46, 48] []) σ0 σ) : zpc (fX5_by σ x0) (fun r => (zQ [3, 5, 7, 9, 10, 11, 12, 15, 17, 19, 21, 23, 25, 27, 28, 29, 30, 32, 34, 36, 40, 42, 44, 45] [] [5, 38, 46, 48] []) σ0 (r.1)) := by
  unfold fX5_by
  exact zpc_if (fun _ => fv_fX5_by_15 h) (fun _ => fv_fX5_by_15 h)
theorem fv_fJ6_bitCount_0f7a4 {σ0 : zSt} {σ : zSt} {x0 : Int32} (h : (zQ [3, 5, 7, 9, 10, 11, 12, 15, 17, 19, 21, 23, 25, 27, 28, 29, 30, 32, 34, 36, 40, 42, 44, 45] [] [5, 38, 46, 48] []) σ0 σ) : zpc (fJ6_bitCount_0f7a4 σ x0) (fun r => (zQ [3, 5, 7, 9, 10, 11, 12, 15, 17, 19, 21, 23, 25, 27, 28, 29, 30, 32, 34, 36, 40, 42, 44, 45] [] [5, 38, 46, 48] []) σ0 (r.1)) := by
  unfold fJ6_bitCount_0f7a4
  exact zpc_bv (fun v1 _ => zpc_bv (fun v2 _ => zpc_bv (fun v3 _ => zpc_bv (fun v4 _ => zpc_bv (fun v5 _ => zpc_some h)))))
theorem fv_fX5_parity_14 {σ0 : zSt} {σ : zSt} {s0 : Int32} (h : (zQ [3, 5, 7, 9, 10, 11, 12, 15, 17, 19, 21, 23, 25, 27, 28, 29, 30, 32, 34, 36, 40, 42, 44, 45] [] [5, 38, 46, 48] []) σ0 σ) : zpc (fX5_parity_14 σ s0) (fun r => (zQ [3, 5, 7, 9, 10, 11, 12, 15, 17, 19, 21, 23, 25, 27, 28, 29, 30, 32, 34, 36, 40, 42, 44, 45] [] [5, 38, 46, 48] []) σ0 (r.1)) := by
  unfold fX5_parity_14
  exact zpc_some h
theorem fv_fX5_parity {σ0 : zSt} {σ : zSt} {x0 : Int32} (h : (zQ [3, 5, 7, 9, 10, 11, 12, 15, 17, 19, 21, 23, 25, 27, 28, 29, 30, 32, 34, 36, 40, 42, 44, 45] [] [5, 38, 46, 48] []) σ0 σ) : zpc (fX5_parity σ x0) (fun r => (zQ [3, 5, 7, 9, 10, 11, 12, 15, 17, 19, 21, 23, 25, 27, 28, 29, 30, 32, 34, 36, 40, 42, 44, 45] [] [5, 38, 46, 48] []) σ0 (r.1)) := by
  unfold fX5_parity
  exact zpc_bi (fv_fJ6_bitCount_0f7a4 h) (fun σ1 v2 hσ1 => zpc_if (fun _ => fv_fX5_parity_14 hσ1) (fun _ => fv_fX5_parity_14 hσ1))
theorem fv_fX5_turn_136 {σ0 : zSt} {σ : zSt} {x4 : Int32} {s0 : Int32} (h : (zQ [3, 5, 7, 9, 10, 11, 12, 15, 17, 19, 21, 23, 25, 27, 28, 29, 30, 32, 34, 36, 40, 42, 44, 45] [] [5, 38, 46, 48] []) σ0 σ) : zpc (fX5_turn_136 σ x4 s0) (fun r => (zQ [3, 5, 7, 9, 10, 11, 12, 15, 17, 19, 21, 23, 25, 27, 28, 29, 30, 32, 34, 36, 40, 42, 44, 45] [] [5, 38, 46, 48] []) σ0 (r.1)) := by
  unfold fX5_turn_136
  exact zpc_bi (fv_fX5_by h) (fun σ1 v2 hσ1 => zpc_bi (fv_fX5_parity hσ1) (fun σ3 v4 hσ3 => zpc_ck (zpc_bs (zQ.wi hσ3 rfl) (fun σ5 hσ5 => zpc_some hσ5))))
theorem fv_fX5_turn_110 {σ0 : zSt} {σ : zSt} {x2 : Int32} {x3 : Int32} {x4 : Int32} {x5 : Int32} (h : (zQ [3, 5, 7, 9, 10, 11, 12, 15, 17, 19, 21, 23, 25, 27, 28, 29, 30, 32, 34, 36, 40, 42, 44, 45] [] [5, 38, 46, 48] []) σ0 σ) : zpc (fX5_turn_110 σ x2 x3 x4 x5) (fun r => (zQ [3, 5, 7, 9, 10, 11, 12, 15, 17, 19, 21, 23, 25, 27, 28, 29, 30, 32, 34, 36, 40, 42, 44, 45] [] [5, 38, 46, 48] []) σ0 (r.1)) := by
  unfold fX5_turn_110
  exact zpc_if (fun _ => fv_fX5_turn_136 h) (fun _ => fv_fX5_turn_136 h)
theorem fv_fX5_turn_72 {σ0 : zSt} {σ : zSt} {x2 : Int32} {x3 : Int32} {x4 : Int32} (h : (zQ [3, 5, 7, 9, 10, 11, 12, 15, 17, 19, 21, 23, 25, 27, 28, 29, 30, 32, 34, 36, 40, 42, 44, 45] [] [5, 38, 46, 48] []) σ0 σ) : zpc (fX5_turn_72 σ x2 x3 x4) (fun r => (zQ [3, 5, 7, 9, 10, 11, 12, 15, 17, 19, 21, 23, 25, 27, 28, 29, 30, 32, 34, 36, 40, 42, 44, 45] [] [5, 38, 46, 48] []) σ0 (r.1)) := by
  unfold fX5_turn_72
  exact fv_fX5_turn_110 h
theorem fv_fX5_turn_79 {σ0 : zSt} {σ : zSt} {x2 : Int32} {x3 : Int32} {x4 : Int32} (h : (zQ [3, 5, 7, 9, 10, 11, 12, 15, 17, 19, 21, 23, 25, 27, 28, 29, 30, 32, 34, 36, 40, 42, 44, 45] [] [5, 38, 46, 48] []) σ0 σ) : zpc (fX5_turn_79 σ x2 x3 x4) (fun r => (zQ [3, 5, 7, 9, 10, 11, 12, 15, 17, 19, 21, 23, 25, 27, 28, 29, 30, 32, 34, 36, 40, 42, 44, 45] [] [5, 38, 46, 48] []) σ0 (r.1)) := by
  unfold fX5_turn_79
  exact zpc_ck (zpc_bv (fun v6 _ => fv_fX5_turn_110 h))
theorem fv_fX5_turn_107 {σ0 : zSt} {σ : zSt} {x2 : Int32} {x3 : Int32} {x4 : Int32} (h : (zQ [3, 5, 7, 9, 10, 11, 12, 15, 17, 19, 21, 23, 25, 27, 28, 29, 30, 32, 34, 36, 40, 42, 44, 45] [] [5, 38, 46, 48] []) σ0 σ) : zpc (fX5_turn_107 σ x2 x3 x4) (fun r => (zQ [3, 5, 7, 9, 10, 11, 12, 15, 17, 19, 21, 23, 25, 27, 28, 29, 30, 32, 34, 36, 40, 42, 44, 45] [] [5, 38, 46, 48] []) σ0 (r.1)) := by
  unfold fX5_turn_107
  exact fv_fX5_turn_110 h
theorem fv_fX5_turn_26 {σ0 : zSt} {σ : zSt} {x1 : Int32} {x2 : Int32} {x3 : Int32} {s0 : Int32} (h : (zQ [3, 5, 7, 9, 10, 11, 12, 15, 17, 19, 21, 23, 25, 27, 28, 29, 30, 32, 34, 36, 40, 42, 44, 45] [] [5, 38, 46, 48] []) σ0 σ) : zpc (fX5_turn_26 σ x1 x2 x3 s0) (fun r => (zQ [3, 5, 7, 9, 10, 11, 12, 15, 17, 19, 21, 23, 25, 27, 28, 29, 30, 32, 34, 36, 40, 42, 44, 45] [] [5, 38, 46, 48] []) σ0 (r.1)) := by
  unfold fX5_turn_26
  exact zpc_if (fun _ => fv_fX5_turn_72 h) (fun _ => zpc_if (fun _ => fv_fX5_turn_72 h) (fun _ => zpc_if (fun _ => fv_fX5_turn_79 h) (fun _ => zpc_if (fun _ => fv_fX5_turn_79 h) (fun _ => zpc_if (fun _ => fv_fX5_turn_107 h) (fun _ => zpc_if (fun _ => zpc_bv (fun v7 _ => fv_fX5_turn_110 h)) (fun _ => zpc_if (fun _ => fv_fX5_turn_110 h) (fun _ => fv_fX5_turn_107 h)))))))
theorem fv_fX5_turn_11 {σ0 : zSt} {σ : zSt} {x1 : Int32} {x2 : Int32} {s0 : Int32} (h : (zQ [3, 5, 7, 9, 10, 11, 12, 15, 17, 19, 21, 23, 25, 27, 28, 29, 30, 32, 34, 36, 40, 42, 44, 45] [] [5, 38, 46, 48] []) σ0 σ) : zpc (fX5_turn_11 σ x1 x2 s0) (fun r => (zQ [3, 5, 7, 9, 10, 11, 12, 15, 17, 19, 21, 23, 25, 27, 28, 29, 30, 32, 34, 36, 40, 42, 44, 45] [] [5, 38, 46, 48] []) σ0 (r.1)) := by
  unfold fX5_turn_11
  exact zpc_if (fun _ => fv_fX5_turn_26 h) (fun _ => fv_fX5_turn_26 h)
theorem fv_fX5_turn {σ0 : zSt} {σ : zSt} {x1 : Int32} {x2 : Int32} (h : (zQ [3, 5, 7, 9, 10, 11, 12, 15, 17, 19, 21, 23, 25, 27, 28, 29, 30, 32, 34, 36, 40, 42, 44, 45] [] [5, 38, 46, 48] []) σ0 σ) : zpc (fX5_turn σ x1 x2) (fun r => (zQ [3, 5, 7, 9, 10, 11, 12, 15, 17, 19, 21, 23, 25, 27, 28, 29, 30, 32, 34, 36, 40, 42, 44, 45] [] [5, 38, 46, 48] []) σ0 (r.1)) := by
  unfold fX5_turn
  exact zpc_if (fun _ => fv_fX5_turn_11 h) (fun _ => fv_fX5_turn_11 h)
theorem fv_fX5_turned {σ0 : zSt} {σ : zSt} {x1 : Int32} {x2 : Int32} (h : (zQ [3, 5, 7, 9, 10, 11, 12, 15, 17, 19, 21, 23, 25, 27, 28, 29, 30, 32, 34, 36, 40, 42, 44, 45] [] [5, 38, 46, 48] []) σ0 σ) : zpc (fX5_turned σ x1 x2) (fun r => (zQ [3, 5, 7, 9, 10, 11, 12, 15, 17, 19, 21, 23, 25, 27, 28, 29, 30, 32, 34, 36, 40, 42, 44, 45] [] [5, 38, 46, 48] []) σ0 (r.1)) := by
  unfold fX5_turned
  exact zpc_bv (fun v1 _ => zpc_if (fun _ => zpc_bi (fv_fX5_turn h) (fun σ2 v3 hσ2 => zpc_some hσ2)) (fun _ => zpc_if (fun _ => zpc_some h) (fun _ => zpc_some h)))
theorem fv_fX5_putPairHalf_69 {σ0 : zSt} {σ : zSt} (h : (zQ [3, 5, 7, 9, 10, 11, 12, 15, 17, 19, 21, 23, 25, 27, 28, 29, 30, 32, 34, 36, 40, 42, 44, 45] [] [5, 38, 46, 48] []) σ0 σ) : zpc (fX5_putPairHalf_69 σ) (fun r => (zQ [3, 5, 7, 9, 10, 11, 12, 15, 17, 19, 21, 23, 25, 27, 28, 29, 30, 32, 34, 36, 40, 42, 44, 45] [] [5, 38, 46, 48] []) σ0 (r)) := by
  unfold fX5_putPairHalf_69
  exact zpc_some h
theorem fv_fX5_putPairHalf_68 {σ0 : zSt} {σ : zSt} {s0 : Int32} {s1 : Int32} (h : (zQ [3, 5, 7, 9, 10, 11, 12, 15, 17, 19, 21, 23, 25, 27, 28, 29, 30, 32, 34, 36, 40, 42, 44, 45] [] [5, 38, 46, 48] []) σ0 σ) : zpc (fX5_putPairHalf_68 σ s0 s1) (fun r => (zQ [3, 5, 7, 9, 10, 11, 12, 15, 17, 19, 21, 23, 25, 27, 28, 29, 30, 32, 34, 36, 40, 42, 44, 45] [] [5, 38, 46, 48] []) σ0 (r)) := by
  unfold fX5_putPairHalf_68
  exact zpc_ck (zpc_bs (zQ.wi h rfl) (fun σ1 hσ1 => fv_fX5_putPairHalf_69 hσ1))
theorem fv_fX5_putPairHalf {σ0 : zSt} {σ : zSt} {x1 : Int32} {x2 : Int32} (h : (zQ [3, 5, 7, 9, 10, 11, 12, 15, 17, 19, 21, 23, 25, 27, 28, 29, 30, 32, 34, 36, 40, 42, 44, 45] [] [5, 38, 46, 48] []) σ0 σ) : zpc (fX5_putPairHalf σ x1 x2) (fun r => (zQ [3, 5, 7, 9, 10, 11, 12, 15, 17, 19, 21, 23, 25, 27, 28, 29, 30, 32, 34, 36, 40, 42, 44, 45] [] [5, 38, 46, 48] []) σ0 (r)) := by
  unfold fX5_putPairHalf
  exact zpc_if (fun _ => zpc_ck (zpc_bs (zQ.wi h rfl) (fun σ2 hσ2 => fv_fX5_putPairHalf_69 hσ2))) (fun _ => zpc_if (fun _ => zpc_ck (fv_fX5_putPairHalf_68 h)) (fun _ => zpc_ck (fv_fX5_putPairHalf_68 h)))
theorem fv_fX5_putOne_88 {σ0 : zSt} {σ : zSt} (h : (zQ [3, 5, 7, 9, 10, 11, 12, 15, 17, 19, 21, 23, 25, 27, 28, 29, 30, 32, 34, 36, 40, 42, 44, 45] [] [5, 38, 46, 48] []) σ0 σ) : zpc (fX5_putOne_88 σ) (fun r => (zQ [3, 5, 7, 9, 10, 11, 12, 15, 17, 19, 21, 23, 25, 27, 28, 29, 30, 32, 34, 36, 40, 42, 44, 45] [] [5, 38, 46, 48] []) σ0 (r)) := by
  unfold fX5_putOne_88
  exact zpc_some h
theorem fv_fX5_putOne {σ0 : zSt} {σ : zSt} {x1 : Int32} {x2 : Int32} (h : (zQ [3, 5, 7, 9, 10, 11, 12, 15, 17, 19, 21, 23, 25, 27, 28, 29, 30, 32, 34, 36, 40, 42, 44, 45] [] [5, 38, 46, 48] []) σ0 σ) : zpc (fX5_putOne σ x1 x2) (fun r => (zQ [3, 5, 7, 9, 10, 11, 12, 15, 17, 19, 21, 23, 25, 27, 28, 29, 30, 32, 34, 36, 40, 42, 44, 45] [] [5, 38, 46, 48] []) σ0 (r)) := by
  unfold fX5_putOne
  exact zpc_if (fun _ => zpc_bu (fv_fX5_putPairHalf h) (fun σ1 hσ1 => fv_fX5_putOne_88 hσ1)) (fun _ => zpc_if (fun _ => zpc_bu (fv_fX5_putPairHalf h) (fun σ2 hσ2 => fv_fX5_putOne_88 hσ2)) (fun _ => zpc_if (fun _ => zpc_bu (fv_fX2_write h) (fun σ3 hσ3 => fv_fX5_putOne_88 hσ3)) (fun _ => zpc_if (fun _ => zpc_ck (zpc_bs (zQ.wi h rfl) (fun σ4 hσ4 => fv_fX5_putOne_88 hσ4))) (fun _ => zpc_ck (zpc_bs (zQ.wi h rfl) (fun σ5 hσ5 => fv_fX5_putOne_88 hσ5))))))
theorem fv_fX5_turnBeside_128 {σ0 : zSt} {σ : zSt} (h : (zQ [3, 5, 7, 9, 10, 11, 12, 15, 17, 19, 21, 23, 25, 27, 28, 29, 30, 32, 34, 36, 40, 42, 44, 45] [] [5, 38, 46, 48] []) σ0 σ) : zpc (fX5_turnBeside_128 σ) (fun r => (zQ [3, 5, 7, 9, 10, 11, 12, 15, 17, 19, 21, 23, 25, 27, 28, 29, 30, 32, 34, 36, 40, 42, 44, 45] [] [5, 38, 46, 48] []) σ0 (r.1)) := by
  unfold fX5_turnBeside_128
  exact zpc_some h
theorem fv_fX5_turnBeside {σ0 : zSt} {σ : zSt} (h : (zQ [3, 5, 7, 9, 10, 11, 12, 15, 17, 19, 21, 23, 25, 27, 28, 29, 30, 32, 34, 36, 40, 42, 44, 45] [] [5, 38, 46, 48] []) σ0 σ) : zpc (fX5_turnBeside σ) (fun r => (zQ [3, 5, 7, 9, 10, 11, 12, 15, 17, 19, 21, 23, 25, 27, 28, 29, 30, 32, 34, 36, 40, 42, 44, 45] [] [5, 38, 46, 48] []) σ0 (r.1)) := by
  unfold fX5_turnBeside
  exact zpc_ck (zpc_bi (fv_fX5_fetch h) (fun σ1 v2 hσ1 => zpc_ck (zpc_bs (zQ.wi hσ1 rfl) (fun σ3 hσ3 => zpc_ck (zpc_bs (zQ.wi hσ3 rfl) (fun σ4 hσ4 => zpc_bs (zQ.wi hσ4 rfl) (fun σ5 hσ5 => zpc_bi (fv_fX5_fetch hσ5) (fun σ6 v7 hσ6 => zpc_bi (fv_fX2_read hσ6) (fun σ8 v9 hσ8 => zpc_if (fun _ => zpc_ck (zpc_bu (fv_fX5_askBit hσ8) (fun σ14 hσ14 => zpc_some hσ14))) (fun _ => zpc_bi (fv_fX5_turned hσ8) (fun σ10 v11 hσ10 => zpc_bu (fv_fX2_write hσ10) (fun σ12 hσ12 => zpc_if (fun _ => fv_fX5_turnBeside_128 hσ12) (fun _ => zpc_bu (fv_fX5_putOne hσ12) (fun σ13 hσ13 => fv_fX5_turnBeside_128 hσ13))))))))))))))
theorem fv_fX5_meansPlace_97 {σ0 : zSt} {σ : zSt} {s0 : Int32} (h : (zQ [3, 5, 7, 9, 10, 11, 12, 15, 17, 19, 21, 23, 25, 27, 28, 29, 30, 32, 34, 36, 40, 42, 44, 45] [] [5, 38, 46, 48] []) σ0 σ) : zpc (fX5_meansPlace_97 σ s0) (fun r => (zQ [3, 5, 7, 9, 10, 11, 12, 15, 17, 19, 21, 23, 25, 27, 28, 29, 30, 32, 34, 36, 40, 42, 44, 45] [] [5, 38, 46, 48] []) σ0 (r.1)) := by
  unfold fX5_meansPlace_97
  exact zpc_ck (zpc_some h)
theorem fv_fX5_meansPlace_86 {σ0 : zSt} {σ : zSt} {s0 : Int32} (h : (zQ [3, 5, 7, 9, 10, 11, 12, 15, 17, 19, 21, 23, 25, 27, 28, 29, 30, 32, 34, 36, 40, 42, 44, 45] [] [5, 38, 46, 48] []) σ0 σ) : zpc (fX5_meansPlace_86 σ s0) (fun r => (zQ [3, 5, 7, 9, 10, 11, 12, 15, 17, 19, 21, 23, 25, 27, 28, 29, 30, 32, 34, 36, 40, 42, 44, 45] [] [5, 38, 46, 48] []) σ0 (r.1)) := by
  unfold fX5_meansPlace_86
  exact zpc_ck (zpc_some h)
theorem fv_fX5_meansPlace_85 {σ0 : zSt} {σ : zSt} (h : (zQ [3, 5, 7, 9, 10, 11, 12, 15, 17, 19, 21, 23, 25, 27, 28, 29, 30, 32, 34, 36, 40, 42, 44, 45] [] [5, 38, 46, 48] []) σ0 σ) : zpc (fX5_meansPlace_85 σ) (fun r => (zQ [3, 5, 7, 9, 10, 11, 12, 15, 17, 19, 21, 23, 25, 27, 28, 29, 30, 32, 34, 36, 40, 42, 44, 45] [] [5, 38, 46, 48] []) σ0 (r.1)) := by
  unfold fX5_meansPlace_85
  exact fv_fX5_meansPlace_86 h
theorem fv_fX5_meansPlace_29 {σ0 : zSt} {σ : zSt} {x0 : Int32} {x1 : Int32} {s0 : Int32} (h : (zQ [3, 5, 7, 9, 10, 11, 12, 15, 17, 19, 21, 23, 25, 27, 28, 29, 30, 32, 34, 36, 40, 42, 44, 45] [] [5, 38, 46, 48] []) σ0 σ) : zpc (fX5_meansPlace_29 σ x0 x1 s0) (fun r => (zQ [3, 5, 7, 9, 10, 11, 12, 15, 17, 19, 21, 23, 25, 27, 28, 29, 30, 32, 34, 36, 40, 42, 44, 45] [] [5, 38, 46, 48] []) σ0 (r.1)) := by
  unfold fX5_meansPlace_29
  exact zpc_if (fun _ => zpc_if (fun _ => fv_fX5_meansPlace_85 h) (fun _ => zpc_if (fun _ => fv_fX5_meansPlace_85 h) (fun _ => zpc_if (fun _ => fv_fX5_meansPlace_85 h) (fun _ => fv_fX5_meansPlace_86 h)))) (fun _ => zpc_if (fun _ => zpc_if (fun _ => fv_fX5_meansPlace_97 h) (fun _ => fv_fX5_meansPlace_97 h)) (fun _ => zpc_if (fun _ => zpc_ck (zpc_some h)) (fun _ => zpc_ck (zpc_some h))))
theorem fv_fX5_meansPlace_14 {σ0 : zSt} {σ : zSt} {x0 : Int32} {s0 : Int32} (h : (zQ [3, 5, 7, 9, 10, 11, 12, 15, 17, 19, 21, 23, 25, 27, 28, 29, 30, 32, 34, 36, 40, 42, 44, 45] [] [5, 38, 46, 48] []) σ0 σ) : zpc (fX5_meansPlace_14 σ x0 s0) (fun r => (zQ [3, 5, 7, 9, 10, 11, 12, 15, 17, 19, 21, 23, 25, 27, 28, 29, 30, 32, 34, 36, 40, 42, 44, 45] [] [5, 38, 46, 48] []) σ0 (r.1)) := by
  unfold fX5_meansPlace_14
  exact zpc_if (fun _ => fv_fX5_meansPlace_29 h) (fun _ => fv_fX5_meansPlace_29 h)
theorem fv_fX5_meansPlace {σ0 : zSt} {σ : zSt} {x0 : Int32} (h : (zQ [3, 5, 7, 9, 10, 11, 12, 15, 17, 19, 21, 23, 25, 27, 28, 29, 30, 32, 34, 36, 40, 42, 44, 45] [] [5, 38, 46, 48] []) σ0 σ) : zpc (fX5_meansPlace σ x0) (fun r => (zQ [3, 5, 7, 9, 10, 11, 12, 15, 17, 19, 21, 23, 25, 27, 28, 29, 30, 32, 34, 36, 40, 42, 44, 45] [] [5, 38, 46, 48] []) σ0 (r.1)) := by
  unfold fX5_meansPlace
  exact zpc_if (fun _ => fv_fX5_meansPlace_14 h) (fun _ => fv_fX5_meansPlace_14 h)
theorem fv_fX5_takePlace_64 {σ0 : zSt} {σ : zSt} {s0 : Int32} (h : (zQ [3, 5, 7, 9, 10, 11, 12, 15, 17, 19, 21, 23, 25, 27, 28, 29, 30, 32, 34, 36, 40, 42, 44, 45] [] [5, 38, 46, 48] []) σ0 σ) : zpc (fX5_takePlace_64 σ s0) (fun r => (zQ [3, 5, 7, 9, 10, 11, 12, 15, 17, 19, 21, 23, 25, 27, 28, 29, 30, 32, 34, 36, 40, 42, 44, 45] [] [5, 38, 46, 48] []) σ0 (r.1)) := by
  unfold fX5_takePlace_64
  exact zpc_some h
theorem fv_fX5_takePlace {σ0 : zSt} {σ : zSt} {x1 : Int32} (h : (zQ [3, 5, 7, 9, 10, 11, 12, 15, 17, 19, 21, 23, 25, 27, 28, 29, 30, 32, 34, 36, 40, 42, 44, 45] [] [5, 38, 46, 48] []) σ0 σ) : zpc (fX5_takePlace σ x1) (fun r => (zQ [3, 5, 7, 9, 10, 11, 12, 15, 17, 19, 21, 23, 25, 27, 28, 29, 30, 32, 34, 36, 40, 42, 44, 45] [] [5, 38, 46, 48] []) σ0 (r.1)) := by
  unfold fX5_takePlace
  exact zpc_bi (fv_fX5_meansPlace h) (fun σ1 v2 hσ1 => zpc_if (fun _ => zpc_some hσ1) (fun _ => zpc_ck (zpc_bi (fv_fX5_fetch hσ1) (fun σ3 v4 hσ3 => zpc_ck (zpc_bs (zQ.wi hσ3 rfl) (fun σ5 hσ5 => zpc_ck (zpc_bs (zQ.wi hσ5 rfl) (fun σ6 hσ6 => zpc_bs (zQ.wi hσ6 rfl) (fun σ7 hσ7 => zpc_if (fun _ => fv_fX5_takePlace_64 hσ7) (fun _ => fv_fX5_takePlace_64 hσ7))))))))))
theorem fv_fX5_one_96 {σ0 : zSt} {σ : zSt} {s0 : Int32} (h : (zQ [3, 5, 7, 9, 10, 11, 12, 15, 17, 19, 21, 23, 25, 27, 28, 29, 30, 32, 34, 36, 40, 42, 44, 45] [] [5, 38, 46, 48] []) σ0 σ) : zpc (fX5_one_96 σ s0) (fun r => (zQ [3, 5, 7, 9, 10, 11, 12, 15, 17, 19, 21, 23, 25, 27, 28, 29, 30, 32, 34, 36, 40, 42, 44, 45] [] [5, 38, 46, 48] []) σ0 (r.1)) := by
  unfold fX5_one_96
  exact zpc_some h
theorem fv_fX5_one_63 {σ0 : zSt} {σ : zSt} {s0 : Int32} (h : (zQ [3, 5, 7, 9, 10, 11, 12, 15, 17, 19, 21, 23, 25, 27, 28, 29, 30, 32, 34, 36, 40, 42, 44, 45] [] [5, 38, 46, 48] []) σ0 σ) : zpc (fX5_one_63 σ s0) (fun r => (zQ [3, 5, 7, 9, 10, 11, 12, 15, 17, 19, 21, 23, 25, 27, 28, 29, 30, 32, 34, 36, 40, 42, 44, 45] [] [5, 38, 46, 48] []) σ0 (r.1)) := by
  unfold fX5_one_63
  exact zpc_some h
theorem fv_fX5_one {σ0 : zSt} {σ : zSt} {x1 : Int32} (h : (zQ [3, 5, 7, 9, 10, 11, 12, 15, 17, 19, 21, 23, 25, 27, 28, 29, 30, 32, 34, 36, 40, 42, 44, 45] [] [5, 38, 46, 48] []) σ0 σ) : zpc (fX5_one σ x1) (fun r => (zQ [3, 5, 7, 9, 10, 11, 12, 15, 17, 19, 21, 23, 25, 27, 28, 29, 30, 32, 34, 36, 40, 42, 44, 45] [] [5, 38, 46, 48] []) σ0 (r.1)) := by
  unfold fX5_one
  exact zpc_if (fun _ => zpc_if (fun _ => zpc_ck (fv_fX5_one_63 h)) (fun _ => zpc_ck (fv_fX5_one_63 h))) (fun _ => zpc_if (fun _ => zpc_if (fun _ => zpc_ck (fv_fX5_one_96 h)) (fun _ => zpc_ck (fv_fX5_one_96 h))) (fun _ => zpc_if (fun _ => zpc_bi (fv_fX2_read h) (fun σ1 v2 hσ1 => zpc_some hσ1)) (fun _ => zpc_if (fun _ => zpc_ck (zpc_some h)) (fun _ => zpc_ck (zpc_some h)))))
theorem fv_fX5_turns_63 {σ0 : zSt} {σ : zSt} {s0 : Int32} (h : (zQ [3, 5, 7, 9, 10, 11, 12, 15, 17, 19, 21, 23, 25, 27, 28, 29, 30, 32, 34, 36, 40, 42, 44, 45] [] [5, 38, 46, 48] []) σ0 σ) : zpc (fX5_turns_63 σ s0) (fun r => (zQ [3, 5, 7, 9, 10, 11, 12, 15, 17, 19, 21, 23, 25, 27, 28, 29, 30, 32, 34, 36, 40, 42, 44, 45] [] [5, 38, 46, 48] []) σ0 (r.1)) := by
  unfold fX5_turns_63
  exact zpc_some h
theorem fv_fX5_turns_47 {σ0 : zSt} {σ : zSt} {x2 : Int32} {s0 : Int32} {s1 : Int32} {s2 : Int32} (h : (zQ [3, 5, 7, 9, 10, 11, 12, 15, 17, 19, 21, 23, 25, 27, 28, 29, 30, 32, 34, 36, 40, 42, 44, 45] [] [5, 38, 46, 48] []) σ0 σ) : zpc (fX5_turns_47 σ x2 s0 s1 s2) (fun r => (zQ [3, 5, 7, 9, 10, 11, 12, 15, 17, 19, 21, 23, 25, 27, 28, 29, 30, 32, 34, 36, 40, 42, 44, 45] [] [5, 38, 46, 48] []) σ0 (r.1)) := by
  unfold fX5_turns_47
  exact zpc_bu (fv_fX5_askBit h) (fun σ1 hσ1 => zpc_if (fun _ => fv_fX5_turns_63 hσ1) (fun _ => fv_fX5_turns_63 hσ1))
theorem fv_fX5_turns_88 {σ0 : zSt} {σ : zSt} {s0 : Int32} (h : (zQ [3, 5, 7, 9, 10, 11, 12, 15, 17, 19, 21, 23, 25, 27, 28, 29, 30, 32, 34, 36, 40, 42, 44, 45] [] [5, 38, 46, 48] []) σ0 σ) : zpc (fX5_turns_88 σ s0) (fun r => (zQ [3, 5, 7, 9, 10, 11, 12, 15, 17, 19, 21, 23, 25, 27, 28, 29, 30, 32, 34, 36, 40, 42, 44, 45] [] [5, 38, 46, 48] []) σ0 (r.1)) := by
  unfold fX5_turns_88
  exact zpc_some h
theorem fv_fX5_turns {σ0 : zSt} {σ : zSt} {x1 : Int32} (h : (zQ [3, 5, 7, 9, 10, 11, 12, 15, 17, 19, 21, 23, 25, 27, 28, 29, 30, 32, 34, 36, 40, 42, 44, 45] [] [5, 38, 46, 48] []) σ0 σ) : zpc (fX5_turns σ x1) (fun r => (zQ [3, 5, 7, 9, 10, 11, 12, 15, 17, 19, 21, 23, 25, 27, 28, 29, 30, 32, 34, 36, 40, 42, 44, 45] [] [5, 38, 46, 48] []) σ0 (r.1)) := by
  unfold fX5_turns
  exact zpc_bv (fun v2 _ => zpc_bi (fv_fX5_one h) (fun σ3 v4 hσ3 => zpc_if (fun _ => zpc_if (fun _ => zpc_ck (fv_fX5_turns_47 hσ3)) (fun _ => fv_fX5_turns_47 hσ3)) (fun _ => zpc_bi (fv_fX5_turned hσ3) (fun σ5 v6 hσ5 => zpc_bu (fv_fX5_putOne hσ5) (fun σ7 hσ7 => zpc_if (fun _ => fv_fX5_turns_88 hσ7) (fun _ => fv_fX5_turns_88 hσ7))))))
theorem fv_fX5_putPairAt {σ0 : zSt} {σ : zSt} {x1 : Int32} {x2 : Int32} (h : (zQ [3, 5, 7, 9, 10, 11, 12, 15, 17, 19, 21, 23, 25, 27, 28, 29, 30, 32, 34, 36, 40, 42, 44, 45] [] [5, 38, 46, 48] []) σ0 σ) : zpc (fX5_putPairAt σ x1 x2) (fun r => (zQ [3, 5, 7, 9, 10, 11, 12, 15, 17, 19, 21, 23, 25, 27, 28, 29, 30, 32, 34, 36, 40, 42, 44, 45] [] [5, 38, 46, 48] []) σ0 (r)) := by
  unfold fX5_putPairAt
  exact zpc_ck (zpc_bs (zQ.wi h rfl) (fun σ1 hσ1 => zpc_ck (zpc_bs (zQ.wi hσ1 rfl) (fun σ2 hσ2 => zpc_some hσ2))))
theorem fv_fX5_tellOfPort_34 {σ0 : zSt} {σ : zSt} {x2 : Int32} {s0 : Int32} {s1 : Int32} {s2 : Int32} (h : (zQ [3, 5, 7, 9, 10, 11, 12, 15, 17, 19, 21, 23, 25, 27, 28, 29, 30, 32, 34, 36, 40, 42, 44, 45] [] [5, 38, 46, 48] []) σ0 σ) : zpc (fX5_tellOfPort_34 σ x2 s0 s1 s2) (fun r => (zQ [3, 5, 7, 9, 10, 11, 12, 15, 17, 19, 21, 23, 25, 27, 28, 29, 30, 32, 34, 36, 40, 42, 44, 45] [] [5, 38, 46, 48] []) σ0 (r)) := by
  unfold fX5_tellOfPort_34
  exact zpc_ck (zpc_bi (fv_fX5_parity h) (fun σ1 v2 hσ1 => zpc_ck (zpc_bs (zQ.wi hσ1 rfl) (fun σ3 hσ3 => zpc_some hσ3))))
theorem fv_fX5_tellOfPort {σ0 : zSt} {σ : zSt} {x1 : Int32} {x2 : Int32} (h : (zQ [3, 5, 7, 9, 10, 11, 12, 15, 17, 19, 21, 23, 25, 27, 28, 29, 30, 32, 34, 36, 40, 42, 44, 45] [] [5, 38, 46, 48] []) σ0 σ) : zpc (fX5_tellOfPort σ x1 x2) (fun r => (zQ [3, 5, 7, 9, 10, 11, 12, 15, 17, 19, 21, 23, 25, 27, 28, 29, 30, 32, 34, 36, 40, 42, 44, 45] [] [5, 38, 46, 48] []) σ0 (r)) := by
  unfold fX5_tellOfPort
  exact zpc_ck (zpc_bi (fv_fX5_by h) (fun σ4 v5 hσ4 => zpc_if (fun _ => fv_fX5_tellOfPort_34 hσ4) (fun _ => fv_fX5_tellOfPort_34 hσ4)))
theorem fv_fX5_giveOne_105 {σ0 : zSt} {σ : zSt} {s0 : Int32} (h : (zQ [3, 5, 7, 9, 10, 11, 12, 15, 17, 19, 21, 23, 25, 27, 28, 29, 30, 32, 34, 36, 40, 42, 44, 45] [] [5, 38, 46, 48] []) σ0 σ) : zpc (fX5_giveOne_105 σ s0) (fun r => (zQ [3, 5, 7, 9, 10, 11, 12, 15, 17, 19, 21, 23, 25, 27, 28, 29, 30, 32, 34, 36, 40, 42, 44, 45] [] [5, 38, 46, 48] []) σ0 (r.1)) := by
  unfold fX5_giveOne_105
  exact zpc_ck (zpc_some h)
theorem fv_fX5_giveOne {σ0 : zSt} {σ : zSt} {x1 : Int32} (h : (zQ [3, 5, 7, 9, 10, 11, 12, 15, 17, 19, 21, 23, 25, 27, 28, 29, 30, 32, 34, 36, 40, 42, 44, 45] [] [5, 38, 46, 48] []) σ0 σ) : zpc (fX5_giveOne σ x1) (fun r => (zQ [3, 5, 7, 9, 10, 11, 12, 15, 17, 19, 21, 23, 25, 27, 28, 29, 30, 32, 34, 36, 40, 42, 44, 45] [] [5, 38, 46, 48] []) σ0 (r.1)) := by
  unfold fX5_giveOne
  exact zpc_bi (fv_fX5_pairAt h) (fun σ1 v2 hσ1 => zpc_bi (fv_fX2_read hσ1) (fun σ3 v4 hσ3 => zpc_ck (zpc_ck (zpc_bs (zQ.wi hσ3 rfl) (fun σ5 hσ5 => zpc_ck (zpc_bu (fv_fX4_write hσ5) (fun σ6 hσ6 => zpc_bi (fv_fX5_pairAt hσ6) (fun σ7 v8 hσ7 => zpc_bu (fv_fX5_putPairAt hσ7) (fun σ9 hσ9 => zpc_bi (fv_fX5_pairAt hσ9) (fun σ10 v11 hσ10 => zpc_ck (zpc_bs (zQ.wi hσ10 rfl) (fun σ12 hσ12 => zpc_ck (zpc_bu (fv_fX5_tellOfPort hσ12) (fun σ13 hσ13 => zpc_ck (zpc_if (fun _ => fv_fX5_giveOne_105 hσ13) (fun _ => fv_fX5_giveOne_105 hσ13))))))))))))))))
theorem fv_fX5_takeOne_110 {σ0 : zSt} {σ : zSt} {s0 : Int32} (h : (zQ [3, 5, 7, 9, 10, 11, 12, 15, 17, 19, 21, 23, 25, 27, 28, 29, 30, 32, 34, 36, 40, 42, 44, 45] [] [5, 38, 46, 48] []) σ0 σ) : zpc (fX5_takeOne_110 σ s0) (fun r => (zQ [3, 5, 7, 9, 10, 11, 12, 15, 17, 19, 21, 23, 25, 27, 28, 29, 30, 32, 34, 36, 40, 42, 44, 45] [] [5, 38, 46, 48] []) σ0 (r.1)) := by
  unfold fX5_takeOne_110
  exact zpc_ck (zpc_some h)
theorem fv_fX5_takeOne {σ0 : zSt} {σ : zSt} {x1 : Int32} (h : (zQ [3, 5, 7, 9, 10, 11, 12, 15, 17, 19, 21, 23, 25, 27, 28, 29, 30, 32, 34, 36, 40, 42, 44, 45] [] [5, 38, 46, 48] []) σ0 σ) : zpc (fX5_takeOne σ x1) (fun r => (zQ [3, 5, 7, 9, 10, 11, 12, 15, 17, 19, 21, 23, 25, 27, 28, 29, 30, 32, 34, 36, 40, 42, 44, 45] [] [5, 38, 46, 48] []) σ0 (r.1)) := by
  unfold fX5_takeOne
  exact zpc_bi (fv_fX5_pairAt h) (fun σ1 v2 hσ1 => zpc_ck (zpc_bs (zQ.wi hσ1 rfl) (fun σ3 hσ3 => zpc_ck (zpc_bi (fv_fX4_read hσ3) (fun σ4 v5 hσ4 => zpc_ck (zpc_ck (zpc_bs (zQ.wi hσ4 rfl) (fun σ6 hσ6 => zpc_bi (fv_fX5_pairAt hσ6) (fun σ7 v8 hσ7 => zpc_bu (fv_fX2_write hσ7) (fun σ9 hσ9 => zpc_bi (fv_fX5_pairAt hσ9) (fun σ10 v11 hσ10 => zpc_bu (fv_fX5_putPairAt hσ10) (fun σ12 hσ12 => zpc_ck (zpc_bu (fv_fX5_tellOfPort hσ12) (fun σ13 hσ13 => zpc_ck (zpc_if (fun _ => fv_fX5_takeOne_110 hσ13) (fun _ => fv_fX5_takeOne_110 hσ13))))))))))))))))
theorem fv_fX5_compareOne_184 {σ0 : zSt} {σ : zSt} {s0 : Int32} (h : (zQ [3, 5, 7, 9, 10, 11, 12, 15, 17, 19, 21, 23, 25, 27, 28, 29, 30, 32, 34, 36, 40, 42, 44, 45] [] [5, 38, 46, 48] []) σ0 σ) : zpc (fX5_compareOne_184 σ s0) (fun r => (zQ [3, 5, 7, 9, 10, 11, 12, 15, 17, 19, 21, 23, 25, 27, 28, 29, 30, 32, 34, 36, 40, 42, 44, 45] [] [5, 38, 46, 48] []) σ0 (r.1)) := by
  unfold fX5_compareOne_184
  exact zpc_ck (zpc_some h)
theorem fv_fX5_compareOne_183 {σ0 : zSt} {σ : zSt} (h : (zQ [3, 5, 7, 9, 10, 11, 12, 15, 17, 19, 21, 23, 25, 27, 28, 29, 30, 32, 34, 36, 40, 42, 44, 45] [] [5, 38, 46, 48] []) σ0 σ) : zpc (fX5_compareOne_183 σ) (fun r => (zQ [3, 5, 7, 9, 10, 11, 12, 15, 17, 19, 21, 23, 25, 27, 28, 29, 30, 32, 34, 36, 40, 42, 44, 45] [] [5, 38, 46, 48] []) σ0 (r.1)) := by
  unfold fX5_compareOne_183
  exact fv_fX5_compareOne_184 h
theorem fv_fX5_compareOne_166 {σ0 : zSt} {σ : zSt} {x3 : Int32} {x5 : Int32} {s0 : Int32} {s1 : Int32} {s2 : Int32} (h : (zQ [3, 5, 7, 9, 10, 11, 12, 15, 17, 19, 21, 23, 25, 27, 28, 29, 30, 32, 34, 36, 40, 42, 44, 45] [] [5, 38, 46, 48] []) σ0 σ) : zpc (fX5_compareOne_166 σ x3 x5 s0 s1 s2) (fun r => (zQ [3, 5, 7, 9, 10, 11, 12, 15, 17, 19, 21, 23, 25, 27, 28, 29, 30, 32, 34, 36, 40, 42, 44, 45] [] [5, 38, 46, 48] []) σ0 (r.1)) := by
  unfold fX5_compareOne_166
  exact zpc_ck (zpc_bs (zQ.wi h rfl) (fun σ1 hσ1 => zpc_if (fun _ => fv_fX5_compareOne_183 hσ1) (fun _ => zpc_if (fun _ => fv_fX5_compareOne_183 hσ1) (fun _ => fv_fX5_compareOne_184 hσ1))))
theorem fv_fX5_compareOne_139 {σ0 : zSt} {σ : zSt} {x3 : Int32} {x4 : Int32} {x5 : Int32} {x6 : Int32} {s0 : Int32} {s1 : Int32} {s2 : Int32} (h : (zQ [3, 5, 7, 9, 10, 11, 12, 15, 17, 19, 21, 23, 25, 27, 28, 29, 30, 32, 34, 36, 40, 42, 44, 45] [] [5, 38, 46, 48] []) σ0 σ) : zpc (fX5_compareOne_139 σ x3 x4 x5 x6 s0 s1 s2) (fun r => (zQ [3, 5, 7, 9, 10, 11, 12, 15, 17, 19, 21, 23, 25, 27, 28, 29, 30, 32, 34, 36, 40, 42, 44, 45] [] [5, 38, 46, 48] []) σ0 (r.1)) := by
  unfold fX5_compareOne_139
  exact zpc_if (fun _ => fv_fX5_compareOne_166 h) (fun _ => fv_fX5_compareOne_166 h)
theorem fv_fX5_compareOne_100 {σ0 : zSt} {σ : zSt} {x3 : Int32} {x4 : Int32} {s0 : Int32} (h : (zQ [3, 5, 7, 9, 10, 11, 12, 15, 17, 19, 21, 23, 25, 27, 28, 29, 30, 32, 34, 36, 40, 42, 44, 45] [] [5, 38, 46, 48] []) σ0 σ) : zpc (fX5_compareOne_100 σ x3 x4 s0) (fun r => (zQ [3, 5, 7, 9, 10, 11, 12, 15, 17, 19, 21, 23, 25, 27, 28, 29, 30, 32, 34, 36, 40, 42, 44, 45] [] [5, 38, 46, 48] []) σ0 (r.1)) := by
  unfold fX5_compareOne_100
  exact zpc_bv (fun v2 _ => zpc_ck (zpc_if (fun _ => fv_fX5_compareOne_139 h) (fun _ => fv_fX5_compareOne_139 h)))
theorem fv_fX5_compareOne {σ0 : zSt} {σ : zSt} {x1 : Int32} (h : (zQ [3, 5, 7, 9, 10, 11, 12, 15, 17, 19, 21, 23, 25, 27, 28, 29, 30, 32, 34, 36, 40, 42, 44, 45] [] [5, 38, 46, 48] []) σ0 σ) : zpc (fX5_compareOne σ x1) (fun r => (zQ [3, 5, 7, 9, 10, 11, 12, 15, 17, 19, 21, 23, 25, 27, 28, 29, 30, 32, 34, 36, 40, 42, 44, 45] [] [5, 38, 46, 48] []) σ0 (r.1)) := by
  unfold fX5_compareOne
  exact zpc_bi (fv_fX5_pairAt h) (fun σ3 v4 hσ3 => zpc_bi (fv_fX2_read hσ3) (fun σ5 v6 hσ5 => zpc_ck (zpc_bv (fun v7 _ => zpc_ck (zpc_bv (fun v8 _ => zpc_bi (fv_fX5_pairAt hσ5) (fun σ9 v10 hσ9 => zpc_bu (fv_fX5_putPairAt hσ9) (fun σ11 hσ11 => zpc_bi (fv_fX5_pairAt hσ11) (fun σ12 v13 hσ12 => zpc_bu (fv_fX5_putPairAt hσ12) (fun σ14 hσ14 => zpc_ck (zpc_ck (zpc_bs (zQ.wi hσ14 rfl) (fun σ15 hσ15 => zpc_bi (fv_fX5_pairAt hσ15) (fun σ16 v17 hσ16 => zpc_if (fun _ => fv_fX5_compareOne_100 hσ16) (fun _ => fv_fX5_compareOne_100 hσ16)))))))))))))))
theorem fv_fX5_copyOne_126 {σ0 : zSt} {σ : zSt} {x3 : Int32} {s0 : Int32} {s1 : Int32} {s2 : Int32} (h : (zQ [3, 5, 7, 9, 10, 11, 12, 15, 17, 19, 21, 23, 25, 27, 28, 29, 30, 32, 34, 36, 40, 42, 44, 45] [] [5, 38, 46, 48] []) σ0 σ) : zpc (fX5_copyOne_126 σ x3 s0 s1 s2) (fun r => (zQ [3, 5, 7, 9, 10, 11, 12, 15, 17, 19, 21, 23, 25, 27, 28, 29, 30, 32, 34, 36, 40, 42, 44, 45] [] [5, 38, 46, 48] []) σ0 (r.1)) := by
  unfold fX5_copyOne_126
  exact zpc_ck (zpc_bs (zQ.wi h rfl) (fun σ1 hσ1 => zpc_ck (zpc_some hσ1)))
theorem fv_fX5_copyOne_78 {σ0 : zSt} {σ : zSt} {x2 : Int32} {s0 : Int32} (h : (zQ [3, 5, 7, 9, 10, 11, 12, 15, 17, 19, 21, 23, 25, 27, 28, 29, 30, 32, 34, 36, 40, 42, 44, 45] [] [5, 38, 46, 48] []) σ0 σ) : zpc (fX5_copyOne_78 σ x2 s0) (fun r => (zQ [3, 5, 7, 9, 10, 11, 12, 15, 17, 19, 21, 23, 25, 27, 28, 29, 30, 32, 34, 36, 40, 42, 44, 45] [] [5, 38, 46, 48] []) σ0 (r.1)) := by
  unfold fX5_copyOne_78
  exact zpc_ck (zpc_bv (fun v2 _ => zpc_ck (zpc_if (fun _ => fv_fX5_copyOne_126 h) (fun _ => fv_fX5_copyOne_126 h))))
theorem fv_fX5_copyOne {σ0 : zSt} {σ : zSt} {x1 : Int32} (h : (zQ [3, 5, 7, 9, 10, 11, 12, 15, 17, 19, 21, 23, 25, 27, 28, 29, 30, 32, 34, 36, 40, 42, 44, 45] [] [5, 38, 46, 48] []) σ0 σ) : zpc (fX5_copyOne σ x1) (fun r => (zQ [3, 5, 7, 9, 10, 11, 12, 15, 17, 19, 21, 23, 25, 27, 28, 29, 30, 32, 34, 36, 40, 42, 44, 45] [] [5, 38, 46, 48] []) σ0 (r.1)) := by
  unfold fX5_copyOne
  exact zpc_bi (fv_fX5_pairAt h) (fun σ3 v4 hσ3 => zpc_bi (fv_fX2_read hσ3) (fun σ5 v6 hσ5 => zpc_bi (fv_fX5_pairAt hσ5) (fun σ7 v8 hσ7 => zpc_bu (fv_fX2_write hσ7) (fun σ9 hσ9 => zpc_bi (fv_fX5_pairAt hσ9) (fun σ10 v11 hσ10 => zpc_bu (fv_fX5_putPairAt hσ10) (fun σ12 hσ12 => zpc_bi (fv_fX5_pairAt hσ12) (fun σ13 v14 hσ13 => zpc_bu (fv_fX5_putPairAt hσ13) (fun σ15 hσ15 => zpc_bi (fv_fX5_pairAt hσ15) (fun σ16 v17 hσ16 => zpc_bu (fv_fX5_putPairAt hσ16) (fun σ18 hσ18 => zpc_bi (fv_fX5_pairAt hσ18) (fun σ19 v20 hσ19 => zpc_if (fun _ => fv_fX5_copyOne_78 hσ19) (fun _ => fv_fX5_copyOne_78 hσ19))))))))))))
theorem fv_fX5_block_88 {σ0 : zSt} {σ : zSt} (h : (zQ [3, 5, 7, 9, 10, 11, 12, 15, 17, 19, 21, 23, 25, 27, 28, 29, 30, 32, 34, 36, 40, 42, 44, 45] [] [5, 38, 46, 48] []) σ0 σ) : zpc (fX5_block_88 σ) (fun r => (zQ [3, 5, 7, 9, 10, 11, 12, 15, 17, 19, 21, 23, 25, 27, 28, 29, 30, 32, 34, 36, 40, 42, 44, 45] [] [5, 38, 46, 48] []) σ0 (r.1)) := by
  unfold fX5_block_88
  exact zpc_some h
theorem fv_fX5_block_135 {σ0 : zSt} {σ : zSt} (h : (zQ [3, 5, 7, 9, 10, 11, 12, 15, 17, 19, 21, 23, 25, 27, 28, 29, 30, 32, 34, 36, 40, 42, 44, 45] [] [5, 38, 46, 48] []) σ0 σ) : zpc (fX5_block_135 σ) (fun r => (zQ [3, 5, 7, 9, 10, 11, 12, 15, 17, 19, 21, 23, 25, 27, 28, 29, 30, 32, 34, 36, 40, 42, 44, 45] [] [5, 38, 46, 48] []) σ0 (r.1)) := by
  unfold fX5_block_135
  exact zpc_some h
theorem fv_fX5_block_77 {σ0 : zSt} {σ : zSt} {x1 : Int32} {x3 : Int32} (h : (zQ [3, 5, 7, 9, 10, 11, 12, 15, 17, 19, 21, 23, 25, 27, 28, 29, 30, 32, 34, 36, 40, 42, 44, 45] [] [5, 38, 46, 48] []) σ0 σ) : zpc (fX5_block_77 σ x1 x3) (fun r => (zQ [3, 5, 7, 9, 10, 11, 12, 15, 17, 19, 21, 23, 25, 27, 28, 29, 30, 32, 34, 36, 40, 42, 44, 45] [] [5, 38, 46, 48] []) σ0 (r.1)) := by
  unfold fX5_block_77
  exact zpc_if (fun _ => fv_fX5_block_88 h) (fun _ => zpc_if (fun _ => fv_fX5_block_88 h) (fun _ => zpc_ck (zpc_ck (zpc_bs (zQ.wi h rfl) (fun σ1 hσ1 => zpc_if (fun _ => zpc_ck (zpc_ck (zpc_bs (zQ.wi hσ1 rfl) (fun σ2 hσ2 => fv_fX5_block_135 hσ2)))) (fun _ => fv_fX5_block_135 hσ1))))))
theorem fv_fX5_block_12 {σ0 : zSt} {σ : zSt} {x1 : Int32} {s0 : Int32} (h : (zQ [3, 5, 7, 9, 10, 11, 12, 15, 17, 19, 21, 23, 25, 27, 28, 29, 30, 32, 34, 36, 40, 42, 44, 45] [] [5, 38, 46, 48] []) σ0 σ) : zpc (fX5_block_12 σ x1 s0) (fun r => (zQ [3, 5, 7, 9, 10, 11, 12, 15, 17, 19, 21, 23, 25, 27, 28, 29, 30, 32, 34, 36, 40, 42, 44, 45] [] [5, 38, 46, 48] []) σ0 (r.1)) := by
  unfold fX5_block_12
  exact zpc_if (fun _ => zpc_bi (fv_fX5_copyOne h) (fun σ3 v4 hσ3 => fv_fX5_block_77 hσ3)) (fun _ => zpc_if (fun _ => zpc_bi (fv_fX5_compareOne h) (fun σ5 v6 hσ5 => fv_fX5_block_77 hσ5)) (fun _ => zpc_if (fun _ => zpc_bi (fv_fX5_takeOne h) (fun σ7 v8 hσ7 => fv_fX5_block_77 hσ7)) (fun _ => zpc_bi (fv_fX5_giveOne h) (fun σ9 v10 hσ9 => fv_fX5_block_77 hσ9))))
theorem fv_fX5_block {σ0 : zSt} {σ : zSt} {x1 : Int32} (h : (zQ [3, 5, 7, 9, 10, 11, 12, 15, 17, 19, 21, 23, 25, 27, 28, 29, 30, 32, 34, 36, 40, 42, 44, 45] [] [5, 38, 46, 48] []) σ0 σ) : zpc (fX5_block σ x1) (fun r => (zQ [3, 5, 7, 9, 10, 11, 12, 15, 17, 19, 21, 23, 25, 27, 28, 29, 30, 32, 34, 36, 40, 42, 44, 45] [] [5, 38, 46, 48] []) σ0 (r.1)) := by
  unfold fX5_block
  exact zpc_if (fun _ => fv_fX5_block_12 h) (fun _ => fv_fX5_block_12 h)
theorem fv_fX5_turnDigits_102 {σ0 : zSt} {σ : zSt} {s0 : Int32} {s1 : Int32} {s2 : Int32} (h : (zQ [3, 5, 7, 9, 10, 11, 12, 15, 17, 19, 21, 23, 25, 27, 28, 29, 30, 32, 34, 36, 40, 42, 44, 45] [] [5, 38, 46, 48] []) σ0 σ) : zpc (fX5_turnDigits_102 σ s0 s1 s2) (fun r => (zQ [3, 5, 7, 9, 10, 11, 12, 15, 17, 19, 21, 23, 25, 27, 28, 29, 30, 32, 34, 36, 40, 42, 44, 45] [] [5, 38, 46, 48] []) σ0 (r)) := by
  unfold fX5_turnDigits_102
  exact zpc_ck (zpc_bs (zQ.wi h rfl) (fun σ1 hσ1 => zpc_ck (zpc_ck (zpc_bi (fv_fX5_by hσ1) (fun σ2 v3 hσ2 => zpc_ck (zpc_bi (fv_fX5_parity hσ2) (fun σ4 v5 hσ4 => zpc_ck (zpc_bs (zQ.wi hσ4 rfl) (fun σ6 hσ6 => zpc_some hσ6)))))))))
theorem fv_fX5_turnDigits_70 {σ0 : zSt} {σ : zSt} {x1 : Int32} {x3 : Int32} {s0 : Int32} {s1 : Int32} (h : (zQ [3, 5, 7, 9, 10, 11, 12, 15, 17, 19, 21, 23, 25, 27, 28, 29, 30, 32, 34, 36, 40, 42, 44, 45] [] [5, 38, 46, 48] []) σ0 σ) : zpc (fX5_turnDigits_70 σ x1 x3 s0 s1) (fun r => (zQ [3, 5, 7, 9, 10, 11, 12, 15, 17, 19, 21, 23, 25, 27, 28, 29, 30, 32, 34, 36, 40, 42, 44, 45] [] [5, 38, 46, 48] []) σ0 (r)) := by
  unfold fX5_turnDigits_70
  exact zpc_bu (fv_fX2_write h) (fun σ7 hσ7 => zpc_ck (zpc_if (fun _ => fv_fX5_turnDigits_102 hσ7) (fun _ => fv_fX5_turnDigits_102 hσ7)))
theorem fv_fX5_turnDigits {σ0 : zSt} {σ : zSt} {x1 : Int32} (h : (zQ [3, 5, 7, 9, 10, 11, 12, 15, 17, 19, 21, 23, 25, 27, 28, 29, 30, 32, 34, 36, 40, 42, 44, 45] [] [5, 38, 46, 48] []) σ0 σ) : zpc (fX5_turnDigits σ x1) (fun r => (zQ [3, 5, 7, 9, 10, 11, 12, 15, 17, 19, 21, 23, 25, 27, 28, 29, 30, 32, 34, 36, 40, 42, 44, 45] [] [5, 38, 46, 48] []) σ0 (r)) := by
  unfold fX5_turnDigits
  exact zpc_bi (fv_fX5_pairAt h) (fun σ8 v9 hσ8 => zpc_bi (fv_fX2_read hσ8) (fun σ10 v11 hσ10 => zpc_ck (zpc_bv (fun v12 _ => zpc_ck (zpc_bs (zQ.wi hσ10 rfl) (fun σ13 hσ13 => zpc_if (fun _ => fv_fX5_turnDigits_70 hσ13) (fun _ => fv_fX5_turnDigits_70 hσ13)))))))
theorem fv_fX5_moreOfA_139 {σ0 : zSt} {σ : zSt} {s0 : Int32} {s1 : Int32} {s2 : Int32} (h : (zQ [3, 5, 7, 9, 10, 11, 12, 15, 17, 19, 21, 23, 25, 27, 28, 29, 30, 32, 34, 36, 40, 42, 44, 45] [] [5, 38, 46, 48] []) σ0 σ) : zpc (fX5_moreOfA_139 σ s0 s1 s2) (fun r => (zQ [3, 5, 7, 9, 10, 11, 12, 15, 17, 19, 21, 23, 25, 27, 28, 29, 30, 32, 34, 36, 40, 42, 44, 45] [] [5, 38, 46, 48] []) σ0 (r.1)) := by
  unfold fX5_moreOfA_139
  exact zpc_ck (zpc_bs (zQ.wi h rfl) (fun σ1 hσ1 => zpc_some hσ1))
theorem fv_fX5_moreOfA_99 {σ0 : zSt} {σ : zSt} {s0 : Int32} {s1 : Int32} (h : (zQ [3, 5, 7, 9, 10, 11, 12, 15, 17, 19, 21, 23, 25, 27, 28, 29, 30, 32, 34, 36, 40, 42, 44, 45] [] [5, 38, 46, 48] []) σ0 σ) : zpc (fX5_moreOfA_99 σ s0 s1) (fun r => (zQ [3, 5, 7, 9, 10, 11, 12, 15, 17, 19, 21, 23, 25, 27, 28, 29, 30, 32, 34, 36, 40, 42, 44, 45] [] [5, 38, 46, 48] []) σ0 (r.1)) := by
  unfold fX5_moreOfA_99
  exact zpc_ck (zpc_bs (zQ.wi h rfl) (fun σ2 hσ2 => zpc_ck (zpc_ck (zpc_bi (fv_fX5_by hσ2) (fun σ3 v4 hσ3 => zpc_ck (zpc_if (fun _ => fv_fX5_moreOfA_139 hσ3) (fun _ => fv_fX5_moreOfA_139 hσ3)))))))
theorem fv_fX5_moreOfA_72 {σ0 : zSt} {σ : zSt} {x1 : Int32} (h : (zQ [3, 5, 7, 9, 10, 11, 12, 15, 17, 19, 21, 23, 25, 27, 28, 29, 30, 32, 34, 36, 40, 42, 44, 45] [] [5, 38, 46, 48] []) σ0 σ) : zpc (fX5_moreOfA_72 σ x1) (fun r => (zQ [3, 5, 7, 9, 10, 11, 12, 15, 17, 19, 21, 23, 25, 27, 28, 29, 30, 32, 34, 36, 40, 42, 44, 45] [] [5, 38, 46, 48] []) σ0 (r.1)) := by
  unfold fX5_moreOfA_72
  exact zpc_if (fun _ => zpc_ck (fv_fX5_moreOfA_99 h)) (fun _ => zpc_ck (fv_fX5_moreOfA_99 h))
theorem fv_fX5_moreOfA_155 {σ0 : zSt} {σ : zSt} {s0 : Int32} (h : (zQ [3, 5, 7, 9, 10, 11, 12, 15, 17, 19, 21, 23, 25, 27, 28, 29, 30, 32, 34, 36, 40, 42, 44, 45] [] [5, 38, 46, 48] []) σ0 σ) : zpc (fX5_moreOfA_155 σ s0) (fun r => (zQ [3, 5, 7, 9, 10, 11, 12, 15, 17, 19, 21, 23, 25, 27, 28, 29, 30, 32, 34, 36, 40, 42, 44, 45] [] [5, 38, 46, 48] []) σ0 (r.1)) := by
  unfold fX5_moreOfA_155
  exact zpc_bu (fv_fX5_turnDigits h) (fun σ5 hσ5 => zpc_some hσ5)
theorem fv_fX5_moreOfA_144 {σ0 : zSt} {σ : zSt} {x1 : Int32} (h : (zQ [3, 5, 7, 9, 10, 11, 12, 15, 17, 19, 21, 23, 25, 27, 28, 29, 30, 32, 34, 36, 40, 42, 44, 45] [] [5, 38, 46, 48] []) σ0 σ) : zpc (fX5_moreOfA_144 σ x1) (fun r => (zQ [3, 5, 7, 9, 10, 11, 12, 15, 17, 19, 21, 23, 25, 27, 28, 29, 30, 32, 34, 36, 40, 42, 44, 45] [] [5, 38, 46, 48] []) σ0 (r.1)) := by
  unfold fX5_moreOfA_144
  exact zpc_if (fun _ => fv_fX5_moreOfA_155 h) (fun _ => fv_fX5_moreOfA_155 h)
theorem fv_fX5_moreOfA {σ0 : zSt} {σ : zSt} {x1 : Int32} (h : (zQ [3, 5, 7, 9, 10, 11, 12, 15, 17, 19, 21, 23, 25, 27, 28, 29, 30, 32, 34, 36, 40, 42, 44, 45] [] [5, 38, 46, 48] []) σ0 σ) : zpc (fX5_moreOfA σ x1) (fun r => (zQ [3, 5, 7, 9, 10, 11, 12, 15, 17, 19, 21, 23, 25, 27, 28, 29, 30, 32, 34, 36, 40, 42, 44, 45] [] [5, 38, 46, 48] []) σ0 (r.1)) := by
  unfold fX5_moreOfA
  exact zpc_if (fun _ => zpc_ck (zpc_ck (zpc_bs (zQ.wi h rfl) (fun σ6 hσ6 => zpc_some hσ6)))) (fun _ => zpc_if (fun _ => zpc_ck (zpc_ck (zpc_bs (zQ.wi h rfl) (fun σ7 hσ7 => zpc_some hσ7)))) (fun _ => zpc_if (fun _ => fv_fX5_moreOfA_72 h) (fun _ => zpc_if (fun _ => fv_fX5_moreOfA_72 h) (fun _ => zpc_if (fun _ => fv_fX5_moreOfA_144 h) (fun _ => zpc_if (fun _ => fv_fX5_moreOfA_144 h) (fun _ => zpc_some h))))))
theorem fv_fX5_pop {σ0 : zSt} {σ : zSt} (h : (zQ [3, 5, 7, 9, 10, 11, 12, 15, 17, 19, 21, 23, 25, 27, 28, 29, 30, 32, 34, 36, 40, 42, 44, 45] [] [5, 38, 46, 48] []) σ0 σ) : zpc (fX5_pop σ) (fun r => (zQ [3, 5, 7, 9, 10, 11, 12, 15, 17, 19, 21, 23, 25, 27, 28, 29, 30, 32, 34, 36, 40, 42, 44, 45] [] [5, 38, 46, 48] []) σ0 (r.1)) := by
  unfold fX5_pop
  exact zpc_ck (zpc_bi (fv_fX2_read h) (fun σ1 v2 hσ1 => zpc_ck (zpc_bi (fv_fX2_read hσ1) (fun σ3 v4 hσ3 => zpc_bv (fun v5 _ => zpc_ck (zpc_ck (zpc_bs (zQ.wi hσ3 rfl) (fun σ6 hσ6 => zpc_some hσ6))))))))
theorem fv_fX5_difference_72 {σ0 : zSt} {σ : zSt} {x5 : Int32} {s0 : Int32} {s1 : Int32} {s2 : Int32} (h : (zQ [3, 5, 7, 9, 10, 11, 12, 15, 17, 19, 21, 23, 25, 27, 28, 29, 30, 32, 34, 36, 40, 42, 44, 45] [] [5, 38, 46, 48] []) σ0 σ) : zpc (fX5_difference_72 σ x5 s0 s1 s2) (fun r => (zQ [3, 5, 7, 9, 10, 11, 12, 15, 17, 19, 21, 23, 25, 27, 28, 29, 30, 32, 34, 36, 40, 42, 44, 45] [] [5, 38, 46, 48] []) σ0 (r.1)) := by
  unfold fX5_difference_72
  exact zpc_ck (zpc_bs (zQ.wi h rfl) (fun σ1 hσ1 => zpc_some hσ1))
theorem fv_fX5_difference_59 {σ0 : zSt} {σ : zSt} {x4 : Int32} {x5 : Int32} {s0 : Int32} {s1 : Int32} {s2 : Int32} (h : (zQ [3, 5, 7, 9, 10, 11, 12, 15, 17, 19, 21, 23, 25, 27, 28, 29, 30, 32, 34, 36, 40, 42, 44, 45] [] [5, 38, 46, 48] []) σ0 σ) : zpc (fX5_difference_59 σ x4 x5 s0 s1 s2) (fun r => (zQ [3, 5, 7, 9, 10, 11, 12, 15, 17, 19, 21, 23, 25, 27, 28, 29, 30, 32, 34, 36, 40, 42, 44, 45] [] [5, 38, 46, 48] []) σ0 (r.1)) := by
  unfold fX5_difference_59
  exact zpc_if (fun _ => fv_fX5_difference_72 h) (fun _ => fv_fX5_difference_72 h)
theorem fv_fX5_difference {σ0 : zSt} {σ : zSt} {x1 : Int32} {x2 : Int32} {x3 : Int32} (h : (zQ [3, 5, 7, 9, 10, 11, 12, 15, 17, 19, 21, 23, 25, 27, 28, 29, 30, 32, 34, 36, 40, 42, 44, 45] [] [5, 38, 46, 48] []) σ0 σ) : zpc (fX5_difference σ x1 x2 x3) (fun r => (zQ [3, 5, 7, 9, 10, 11, 12, 15, 17, 19, 21, 23, 25, 27, 28, 29, 30, 32, 34, 36, 40, 42, 44, 45] [] [5, 38, 46, 48] []) σ0 (r.1)) := by
  unfold fX5_difference
  exact zpc_bv (fun v2 _ => zpc_bv (fun v3 _ => zpc_bv (fun v4 _ => zpc_bi (fv_fX5_by h) (fun σ5 v6 hσ5 => zpc_if (fun _ => fv_fX5_difference_59 hσ5) (fun _ => fv_fX5_difference_59 hσ5)))))
theorem fv_fX5_fetchWord {σ0 : zSt} {σ : zSt} (h : (zQ [3, 5, 7, 9, 10, 11, 12, 15, 17, 19, 21, 23, 25, 27, 28, 29, 30, 32, 34, 36, 40, 42, 44, 45] [] [5, 38, 46, 48] []) σ0 σ) : zpc (fX5_fetchWord σ) (fun r => (zQ [3, 5, 7, 9, 10, 11, 12, 15, 17, 19, 21, 23, 25, 27, 28, 29, 30, 32, 34, 36, 40, 42, 44, 45] [] [5, 38, 46, 48] []) σ0 (r.1)) := by
  unfold fX5_fetchWord
  exact zpc_ck (zpc_bi (fv_fX2_read h) (fun σ1 v2 hσ1 => zpc_ck (zpc_bi (fv_fX2_read hσ1) (fun σ3 v4 hσ3 => zpc_bv (fun v5 _ => zpc_ck (zpc_ck (zpc_bs (zQ.wi hσ3 rfl) (fun σ6 hσ6 => zpc_some hσ6))))))))
theorem fv_fX5_hl_27 {σ0 : zSt} {σ : zSt} {s0 : Int32} (h : (zQ [3, 5, 7, 9, 10, 11, 12, 15, 17, 19, 21, 23, 25, 27, 28, 29, 30, 32, 34, 36, 40, 42, 44, 45] [] [5, 38, 46, 48] []) σ0 σ) : zpc (fX5_hl_27 σ s0) (fun r => (zQ [3, 5, 7, 9, 10, 11, 12, 15, 17, 19, 21, 23, 25, 27, 28, 29, 30, 32, 34, 36, 40, 42, 44, 45] [] [5, 38, 46, 48] []) σ0 (r.1)) := by
  unfold fX5_hl_27
  exact zpc_some h
theorem fv_fX5_hl {σ0 : zSt} {σ : zSt} (h : (zQ [3, 5, 7, 9, 10, 11, 12, 15, 17, 19, 21, 23, 25, 27, 28, 29, 30, 32, 34, 36, 40, 42, 44, 45] [] [5, 38, 46, 48] []) σ0 σ) : zpc (fX5_hl σ) (fun r => (zQ [3, 5, 7, 9, 10, 11, 12, 15, 17, 19, 21, 23, 25, 27, 28, 29, 30, 32, 34, 36, 40, 42, 44, 45] [] [5, 38, 46, 48] []) σ0 (r.1)) := by
  unfold fX5_hl
  exact zpc_if (fun _ => zpc_bi (fv_fX5_pairAt h) (fun σ1 v2 hσ1 => fv_fX5_hl_27 hσ1)) (fun _ => zpc_ck (fv_fX5_hl_27 h))
theorem fv_fX5_pair {σ0 : zSt} {σ : zSt} {x1 : Int32} (h : (zQ [3, 5, 7, 9, 10, 11, 12, 15, 17, 19, 21, 23, 25, 27, 28, 29, 30, 32, 34, 36, 40, 42, 44, 45] [] [5, 38, 46, 48] []) σ0 σ) : zpc (fX5_pair σ x1) (fun r => (zQ [3, 5, 7, 9, 10, 11, 12, 15, 17, 19, 21, 23, 25, 27, 28, 29, 30, 32, 34, 36, 40, 42, 44, 45] [] [5, 38, 46, 48] []) σ0 (r.1)) := by
  unfold fX5_pair
  exact zpc_if (fun _ => zpc_bi (fv_fX5_pairAt h) (fun σ1 v2 hσ1 => zpc_some hσ1)) (fun _ => zpc_if (fun _ => zpc_bi (fv_fX5_pairAt h) (fun σ3 v4 hσ3 => zpc_some hσ3)) (fun _ => zpc_if (fun _ => zpc_bi (fv_fX5_hl h) (fun σ5 v6 hσ5 => zpc_some hσ5)) (fun _ => zpc_ck (zpc_some h))))
theorem fv_fX5_writeWord {σ0 : zSt} {σ : zSt} {x1 : Int32} {x2 : Int32} (h : (zQ [3, 5, 7, 9, 10, 11, 12, 15, 17, 19, 21, 23, 25, 27, 28, 29, 30, 32, 34, 36, 40, 42, 44, 45] [] [5, 38, 46, 48] []) σ0 σ) : zpc (fX5_writeWord σ x1 x2) (fun r => (zQ [3, 5, 7, 9, 10, 11, 12, 15, 17, 19, 21, 23, 25, 27, 28, 29, 30, 32, 34, 36, 40, 42, 44, 45] [] [5, 38, 46, 48] []) σ0 (r)) := by
  unfold fX5_writeWord
  exact zpc_bu (fv_fX2_write h) (fun σ1 hσ1 => zpc_bu (fv_fX2_write hσ1) (fun σ2 hσ2 => zpc_some hσ2))
theorem fv_fX5_putHl_32 {σ0 : zSt} {σ : zSt} (h : (zQ [3, 5, 7, 9, 10, 11, 12, 15, 17, 19, 21, 23, 25, 27, 28, 29, 30, 32, 34, 36, 40, 42, 44, 45] [] [5, 38, 46, 48] []) σ0 σ) : zpc (fX5_putHl_32 σ) (fun r => (zQ [3, 5, 7, 9, 10, 11, 12, 15, 17, 19, 21, 23, 25, 27, 28, 29, 30, 32, 34, 36, 40, 42, 44, 45] [] [5, 38, 46, 48] []) σ0 (r)) := by
  unfold fX5_putHl_32
  exact zpc_some h
theorem fv_fX5_putHl {σ0 : zSt} {σ : zSt} {x1 : Int32} (h : (zQ [3, 5, 7, 9, 10, 11, 12, 15, 17, 19, 21, 23, 25, 27, 28, 29, 30, 32, 34, 36, 40, 42, 44, 45] [] [5, 38, 46, 48] []) σ0 σ) : zpc (fX5_putHl σ x1) (fun r => (zQ [3, 5, 7, 9, 10, 11, 12, 15, 17, 19, 21, 23, 25, 27, 28, 29, 30, 32, 34, 36, 40, 42, 44, 45] [] [5, 38, 46, 48] []) σ0 (r)) := by
  unfold fX5_putHl
  exact zpc_if (fun _ => zpc_bu (fv_fX5_putPairAt h) (fun σ2 hσ2 => fv_fX5_putHl_32 hσ2)) (fun _ => zpc_ck (zpc_bs (zQ.wi h rfl) (fun σ1 hσ1 => fv_fX5_putHl_32 hσ1)))
theorem fv_fX5_putPair_65 {σ0 : zSt} {σ : zSt} (h : (zQ [3, 5, 7, 9, 10, 11, 12, 15, 17, 19, 21, 23, 25, 27, 28, 29, 30, 32, 34, 36, 40, 42, 44, 45] [] [5, 38, 46, 48] []) σ0 σ) : zpc (fX5_putPair_65 σ) (fun r => (zQ [3, 5, 7, 9, 10, 11, 12, 15, 17, 19, 21, 23, 25, 27, 28, 29, 30, 32, 34, 36, 40, 42, 44, 45] [] [5, 38, 46, 48] []) σ0 (r)) := by
  unfold fX5_putPair_65
  exact zpc_some h
theorem fv_fX5_putPair {σ0 : zSt} {σ : zSt} {x1 : Int32} {x2 : Int32} (h : (zQ [3, 5, 7, 9, 10, 11, 12, 15, 17, 19, 21, 23, 25, 27, 28, 29, 30, 32, 34, 36, 40, 42, 44, 45] [] [5, 38, 46, 48] []) σ0 σ) : zpc (fX5_putPair σ x1 x2) (fun r => (zQ [3, 5, 7, 9, 10, 11, 12, 15, 17, 19, 21, 23, 25, 27, 28, 29, 30, 32, 34, 36, 40, 42, 44, 45] [] [5, 38, 46, 48] []) σ0 (r)) := by
  unfold fX5_putPair
  exact zpc_if (fun _ => zpc_bu (fv_fX5_putPairAt h) (fun σ1 hσ1 => fv_fX5_putPair_65 hσ1)) (fun _ => zpc_if (fun _ => zpc_bu (fv_fX5_putPairAt h) (fun σ2 hσ2 => fv_fX5_putPair_65 hσ2)) (fun _ => zpc_if (fun _ => zpc_bu (fv_fX5_putHl h) (fun σ3 hσ3 => fv_fX5_putPair_65 hσ3)) (fun _ => zpc_ck (zpc_bs (zQ.wi h rfl) (fun σ4 hσ4 => fv_fX5_putPair_65 hσ4)))))
theorem fv_fX5_farPair_51 {σ0 : zSt} {σ : zSt} (h : (zQ [3, 5, 7, 9, 10, 11, 12, 15, 17, 19, 21, 23, 25, 27, 28, 29, 30, 32, 34, 36, 40, 42, 44, 45] [] [5, 38, 46, 48] []) σ0 σ) : zpc (fX5_farPair_51 σ) (fun r => (zQ [3, 5, 7, 9, 10, 11, 12, 15, 17, 19, 21, 23, 25, 27, 28, 29, 30, 32, 34, 36, 40, 42, 44, 45] [] [5, 38, 46, 48] []) σ0 (r.1)) := by
  unfold fX5_farPair_51
  exact zpc_some h
theorem fv_fX5_farPair {σ0 : zSt} {σ : zSt} {x1 : Int32} (h : (zQ [3, 5, 7, 9, 10, 11, 12, 15, 17, 19, 21, 23, 25, 27, 28, 29, 30, 32, 34, 36, 40, 42, 44, 45] [] [5, 38, 46, 48] []) σ0 σ) : zpc (fX5_farPair σ x1) (fun r => (zQ [3, 5, 7, 9, 10, 11, 12, 15, 17, 19, 21, 23, 25, 27, 28, 29, 30, 32, 34, 36, 40, 42, 44, 45] [] [5, 38, 46, 48] []) σ0 (r.1)) := by
  unfold fX5_farPair
  exact zpc_bi (fv_fX5_fetchWord h) (fun σ1 v2 hσ1 => zpc_ck (zpc_bs (zQ.wi hσ1 rfl) (fun σ3 hσ3 => zpc_if (fun _ => zpc_bi (fv_fX5_pair hσ3) (fun σ7 v8 hσ7 => zpc_bu (fv_fX5_writeWord hσ7) (fun σ9 hσ9 => fv_fX5_farPair_51 hσ9))) (fun _ => zpc_bi (fv_fX5_readWord hσ3) (fun σ4 v5 hσ4 => zpc_bu (fv_fX5_putPair hσ4) (fun σ6 hσ6 => fv_fX5_farPair_51 hσ6))))))
theorem fv_fX5_putWide_44 {σ0 : zSt} {σ : zSt} {x1 : Int32} {x2 : Int32} {x3 : Int32} {s0 : Int32} {s1 : Int32} {s2 : Int32} (h : (zQ [3, 5, 7, 9, 10, 11, 12, 15, 17, 19, 21, 23, 25, 27, 28, 29, 30, 32, 34, 36, 40, 42, 44, 45] [] [5, 38, 46, 48] []) σ0 σ) : zpc (fX5_putWide_44 σ x1 x2 x3 s0 s1 s2) (fun r => (zQ [3, 5, 7, 9, 10, 11, 12, 15, 17, 19, 21, 23, 25, 27, 28, 29, 30, 32, 34, 36, 40, 42, 44, 45] [] [5, 38, 46, 48] []) σ0 (r)) := by
  unfold fX5_putWide_44
  exact zpc_ck (zpc_bs (zQ.wi h rfl) (fun σ1 hσ1 => zpc_some hσ1))
theorem fv_fX5_putWide {σ0 : zSt} {σ : zSt} {x1 : Int32} {x2 : Int32} {x3 : Int32} (h : (zQ [3, 5, 7, 9, 10, 11, 12, 15, 17, 19, 21, 23, 25, 27, 28, 29, 30, 32, 34, 36, 40, 42, 44, 45] [] [5, 38, 46, 48] []) σ0 σ) : zpc (fX5_putWide σ x1 x2 x3) (fun r => (zQ [3, 5, 7, 9, 10, 11, 12, 15, 17, 19, 21, 23, 25, 27, 28, 29, 30, 32, 34, 36, 40, 42, 44, 45] [] [5, 38, 46, 48] []) σ0 (r)) := by
  unfold fX5_putWide
  exact zpc_ck (zpc_bs (zQ.wi h rfl) (fun σ2 hσ2 => zpc_bu (fv_fX5_putHl hσ2) (fun σ3 hσ3 => zpc_if (fun _ => fv_fX5_putWide_44 hσ3) (fun _ => fv_fX5_putWide_44 hσ3))))
theorem fv_fX5_takePair_63 {σ0 : zSt} {σ : zSt} {s0 : Int32} {s1 : Int32} {s2 : Int32} (h : (zQ [3, 5, 7, 9, 10, 11, 12, 15, 17, 19, 21, 23, 25, 27, 28, 29, 30, 32, 34, 36, 40, 42, 44, 45] [] [5, 38, 46, 48] []) σ0 σ) : zpc (fX5_takePair_63 σ s0 s1 s2) (fun r => (zQ [3, 5, 7, 9, 10, 11, 12, 15, 17, 19, 21, 23, 25, 27, 28, 29, 30, 32, 34, 36, 40, 42, 44, 45] [] [5, 38, 46, 48] []) σ0 (r.1)) := by
  unfold fX5_takePair_63
  exact zpc_ck (zpc_bs (zQ.wi h rfl) (fun σ1 hσ1 => zpc_some hσ1))
theorem fv_fX5_takePair {σ0 : zSt} {σ : zSt} {x1 : Int32} (h : (zQ [3, 5, 7, 9, 10, 11, 12, 15, 17, 19, 21, 23, 25, 27, 28, 29, 30, 32, 34, 36, 40, 42, 44, 45] [] [5, 38, 46, 48] []) σ0 σ) : zpc (fX5_takePair σ x1) (fun r => (zQ [3, 5, 7, 9, 10, 11, 12, 15, 17, 19, 21, 23, 25, 27, 28, 29, 30, 32, 34, 36, 40, 42, 44, 45] [] [5, 38, 46, 48] []) σ0 (r.1)) := by
  unfold fX5_takePair
  exact zpc_bi (fv_fX5_hl h) (fun σ2 v3 hσ2 => zpc_bi (fv_fX5_pair hσ2) (fun σ4 v5 hσ4 => zpc_ck (zpc_bv (fun v6 _ => zpc_bu (fv_fX5_putWide hσ4) (fun σ7 hσ7 => zpc_bv (fun v8 _ => zpc_ck (zpc_if (fun _ => fv_fX5_takePair_63 hσ7) (fun _ => fv_fX5_takePair_63 hσ7))))))))
theorem fv_fX5_addPairAndCarry_65 {σ0 : zSt} {σ : zSt} {s0 : Int32} {s1 : Int32} {s2 : Int32} (h : (zQ [3, 5, 7, 9, 10, 11, 12, 15, 17, 19, 21, 23, 25, 27, 28, 29, 30, 32, 34, 36, 40, 42, 44, 45] [] [5, 38, 46, 48] []) σ0 σ) : zpc (fX5_addPairAndCarry_65 σ s0 s1 s2) (fun r => (zQ [3, 5, 7, 9, 10, 11, 12, 15, 17, 19, 21, 23, 25, 27, 28, 29, 30, 32, 34, 36, 40, 42, 44, 45] [] [5, 38, 46, 48] []) σ0 (r.1)) := by
  unfold fX5_addPairAndCarry_65
  exact zpc_ck (zpc_bs (zQ.wi h rfl) (fun σ1 hσ1 => zpc_some hσ1))
theorem fv_fX5_addPairAndCarry {σ0 : zSt} {σ : zSt} {x1 : Int32} (h : (zQ [3, 5, 7, 9, 10, 11, 12, 15, 17, 19, 21, 23, 25, 27, 28, 29, 30, 32, 34, 36, 40, 42, 44, 45] [] [5, 38, 46, 48] []) σ0 σ) : zpc (fX5_addPairAndCarry σ x1) (fun r => (zQ [3, 5, 7, 9, 10, 11, 12, 15, 17, 19, 21, 23, 25, 27, 28, 29, 30, 32, 34, 36, 40, 42, 44, 45] [] [5, 38, 46, 48] []) σ0 (r.1)) := by
  unfold fX5_addPairAndCarry
  exact zpc_bi (fv_fX5_hl h) (fun σ2 v3 hσ2 => zpc_bi (fv_fX5_pair hσ2) (fun σ4 v5 hσ4 => zpc_ck (zpc_bv (fun v6 _ => zpc_bu (fv_fX5_putWide hσ4) (fun σ7 hσ7 => zpc_bv (fun v8 _ => zpc_ck (zpc_if (fun _ => fv_fX5_addPairAndCarry_65 hσ7) (fun _ => fv_fX5_addPairAndCarry_65 hσ7))))))))
theorem fv_fX5_takeFromPort_26 {σ0 : zSt} {σ : zSt} {x2 : Int32} (h : (zQ [3, 5, 7, 9, 10, 11, 12, 15, 17, 19, 21, 23, 25, 27, 28, 29, 30, 32, 34, 36, 40, 42, 44, 45] [] [5, 38, 46, 48] []) σ0 σ) : zpc (fX5_takeFromPort_26 σ x2) (fun r => (zQ [3, 5, 7, 9, 10, 11, 12, 15, 17, 19, 21, 23, 25, 27, 28, 29, 30, 32, 34, 36, 40, 42, 44, 45] [] [5, 38, 46, 48] []) σ0 (r)) := by
  unfold fX5_takeFromPort_26
  exact zpc_ck (zpc_bi (fv_fX5_by h) (fun σ1 v2 hσ1 => zpc_bi (fv_fX5_parity hσ1) (fun σ3 v4 hσ3 => zpc_ck (zpc_bs (zQ.wi hσ3 rfl) (fun σ5 hσ5 => zpc_some hσ5)))))
theorem fv_fX5_takeFromPort {σ0 : zSt} {σ : zSt} {x1 : Int32} (h : (zQ [3, 5, 7, 9, 10, 11, 12, 15, 17, 19, 21, 23, 25, 27, 28, 29, 30, 32, 34, 36, 40, 42, 44, 45] [] [5, 38, 46, 48] []) σ0 σ) : zpc (fX5_takeFromPort σ x1) (fun r => (zQ [3, 5, 7, 9, 10, 11, 12, 15, 17, 19, 21, 23, 25, 27, 28, 29, 30, 32, 34, 36, 40, 42, 44, 45] [] [5, 38, 46, 48] []) σ0 (r)) := by
  unfold fX5_takeFromPort
  exact zpc_ck (zpc_bi (fv_fX4_read h) (fun σ6 v7 hσ6 => zpc_if (fun _ => fv_fX5_takeFromPort_26 hσ6) (fun _ => zpc_bu (fv_fX5_putOne hσ6) (fun σ8 hσ8 => fv_fX5_takeFromPort_26 hσ8))))
theorem fv_fX5_behindEd_160 {σ0 : zSt} {σ : zSt} {s0 : Int32} (h : (zQ [3, 5, 7, 9, 10, 11, 12, 15, 17, 19, 21, 23, 25, 27, 28, 29, 30, 32, 34, 36, 40, 42, 44, 45] [] [5, 38, 46, 48] []) σ0 σ) : zpc (fX5_behindEd_160 σ s0) (fun r => (zQ [3, 5, 7, 9, 10, 11, 12, 15, 17, 19, 21, 23, 25, 27, 28, 29, 30, 32, 34, 36, 40, 42, 44, 45] [] [5, 38, 46, 48] []) σ0 (r.1)) := by
  unfold fX5_behindEd_160
  exact zpc_some h
theorem fv_fX5_behindEd_131 {σ0 : zSt} {σ : zSt} {s0 : Int32} {s1 : Int32} (h : (zQ [3, 5, 7, 9, 10, 11, 12, 15, 17, 19, 21, 23, 25, 27, 28, 29, 30, 32, 34, 36, 40, 42, 44, 45] [] [5, 38, 46, 48] []) σ0 σ) : zpc (fX5_behindEd_131 σ s0 s1) (fun r => (zQ [3, 5, 7, 9, 10, 11, 12, 15, 17, 19, 21, 23, 25, 27, 28, 29, 30, 32, 34, 36, 40, 42, 44, 45] [] [5, 38, 46, 48] []) σ0 (r.1)) := by
  unfold fX5_behindEd_131
  exact zpc_bu (fv_fX4_write h) (fun σ1 hσ1 => zpc_some hσ1)
theorem fv_fX5_behindEd {σ0 : zSt} {σ : zSt} {x1 : Int32} (h : (zQ [3, 5, 7, 9, 10, 11, 12, 15, 17, 19, 21, 23, 25, 27, 28, 29, 30, 32, 34, 36, 40, 42, 44, 45] [] [5, 38, 46, 48] []) σ0 σ) : zpc (fX5_behindEd σ x1) (fun r => (zQ [3, 5, 7, 9, 10, 11, 12, 15, 17, 19, 21, 23, 25, 27, 28, 29, 30, 32, 34, 36, 40, 42, 44, 45] [] [5, 38, 46, 48] []) σ0 (r.1)) := by
  unfold fX5_behindEd
  exact zpc_if (fun _ => zpc_bv (fun v2 _ => zpc_if (fun _ => zpc_bi (fv_fX5_pairAt h) (fun σ3 v4 hσ3 => zpc_ck (zpc_bs (zQ.wi hσ3 rfl) (fun σ5 hσ5 => zpc_bu (fv_fX5_takeFromPort hσ5) (fun σ6 hσ6 => zpc_some hσ6))))) (fun _ => zpc_if (fun _ => zpc_bi (fv_fX5_pairAt h) (fun σ7 v8 hσ7 => zpc_ck (zpc_bs (zQ.wi hσ7 rfl) (fun σ9 hσ9 => zpc_ck (zpc_if (fun _ => fv_fX5_behindEd_131 hσ9) (fun _ => zpc_bi (fv_fX5_one hσ9) (fun σ10 v11 hσ10 => fv_fX5_behindEd_131 hσ10))))))) (fun _ => zpc_if (fun _ => zpc_if (fun _ => zpc_bi (fv_fX5_takePair h) (fun σ14 v15 hσ14 => fv_fX5_behindEd_160 hσ14)) (fun _ => zpc_bi (fv_fX5_addPairAndCarry h) (fun σ12 v13 hσ12 => fv_fX5_behindEd_160 hσ12))) (fun _ => zpc_if (fun _ => zpc_bi (fv_fX5_farPair h) (fun σ16 v17 hσ16 => zpc_some hσ16)) (fun _ => zpc_if (fun _ => zpc_ck (zpc_bi (fv_fX5_difference h) (fun σ18 v19 hσ18 => zpc_ck (zpc_bs (zQ.wi hσ18 rfl) (fun σ20 hσ20 => zpc_some hσ20))))) (fun _ => zpc_if (fun _ => zpc_bi (fv_fX5_pop h) (fun σ21 v22 hσ21 => zpc_bu (fv_fX5_goTo hσ21) (fun σ23 hσ23 => zpc_ck (zpc_ck (zpc_bs (zQ.wi hσ23 rfl) (fun σ24 hσ24 => zpc_some hσ24)))))) (fun _ => zpc_if (fun _ => zpc_ck (zpc_bs (zQ.wi h rfl) (fun σ25 hσ25 => zpc_some hσ25))) (fun _ => zpc_bi (fv_fX5_moreOfA h) (fun σ26 v27 hσ26 => zpc_some hσ26)))))))))) (fun _ => zpc_some h)
theorem fv_fX5_exchange_211 {σ0 : zSt} {σ : zSt} {x1 : Int32} (h : (zQ [3, 5, 7, 9, 10, 11, 12, 15, 17, 19, 21, 23, 25, 27, 28, 29, 30, 32, 34, 36, 40, 42, 44, 45] [] [5, 38, 46, 48] []) σ0 σ) : zpc (fX5_exchange_211 σ x1) (fun r => (zQ [3, 5, 7, 9, 10, 11, 12, 15, 17, 19, 21, 23, 25, 27, 28, 29, 30, 32, 34, 36, 40, 42, 44, 45] [] [5, 38, 46, 48] []) σ0 (r.1)) := by
  unfold fX5_exchange_211
  exact zpc_ck (zpc_bs (zQ.wi h rfl) (fun σ1 hσ1 => zpc_ck (zpc_bs (zQ.wi hσ1 rfl) (fun σ2 hσ2 => zpc_ck (zpc_bs (zQ.wi hσ2 rfl) (fun σ3 hσ3 => zpc_some hσ3))))))
theorem fv_fX5_exchange {σ0 : zSt} {σ : zSt} {x1 : Int32} (h : (zQ [3, 5, 7, 9, 10, 11, 12, 15, 17, 19, 21, 23, 25, 27, 28, 29, 30, 32, 34, 36, 40, 42, 44, 45] [] [5, 38, 46, 48] []) σ0 σ) : zpc (fX5_exchange σ x1) (fun r => (zQ [3, 5, 7, 9, 10, 11, 12, 15, 17, 19, 21, 23, 25, 27, 28, 29, 30, 32, 34, 36, 40, 42, 44, 45] [] [5, 38, 46, 48] []) σ0 (r.1)) := by
  unfold fX5_exchange
  exact zpc_if (fun _ => zpc_bi (fv_fX5_fetchWord h) (fun σ4 v5 hσ4 => zpc_bu (fv_fX5_goTo hσ4) (fun σ6 hσ6 => zpc_some hσ6))) (fun _ => zpc_if (fun _ => fv_fX5_exchange_211 h) (fun _ => zpc_if (fun _ => zpc_bi (fv_fX5_fetch h) (fun σ7 v8 hσ7 => zpc_ck (zpc_bu (fv_fX4_write hσ7) (fun σ9 hσ9 => zpc_ck (zpc_ck (zpc_bs (zQ.wi hσ9 rfl) (fun σ10 hσ10 => zpc_some hσ10))))))) (fun _ => zpc_if (fun _ => zpc_bi (fv_fX5_fetch h) (fun σ11 v12 hσ11 => zpc_ck (zpc_ck (zpc_bs (zQ.wi hσ11 rfl) (fun σ13 hσ13 => zpc_bi (fv_fX4_read hσ13) (fun σ14 v15 hσ14 => zpc_ck (zpc_bs (zQ.wi hσ14 rfl) (fun σ16 hσ16 => zpc_some hσ16)))))))) (fun _ => zpc_if (fun _ => zpc_ck (zpc_bi (fv_fX5_readWord h) (fun σ17 v18 hσ17 => zpc_ck (zpc_bi (fv_fX5_hl hσ17) (fun σ19 v20 hσ19 => zpc_bu (fv_fX5_writeWord hσ19) (fun σ21 hσ21 => zpc_bu (fv_fX5_putHl hσ21) (fun σ22 hσ22 => zpc_ck (zpc_bs (zQ.wi hσ22 rfl) (fun σ23 hσ23 => zpc_some hσ23))))))))) (fun _ => zpc_if (fun _ => zpc_bi (fv_fX5_pairAt h) (fun σ24 v25 hσ24 => zpc_bi (fv_fX5_pairAt hσ24) (fun σ26 v27 hσ26 => zpc_bu (fv_fX5_putPairAt hσ26) (fun σ28 hσ28 => zpc_bu (fv_fX5_putPairAt hσ28) (fun σ29 hσ29 => zpc_some hσ29))))) (fun _ => fv_fX5_exchange_211 h))))))
theorem fv_fX5_sum_61 {σ0 : zSt} {σ : zSt} {x4 : Int32} {x5 : Int32} {s0 : Int32} {s1 : Int32} {s2 : Int32} (h : (zQ [3, 5, 7, 9, 10, 11, 12, 15, 17, 19, 21, 23, 25, 27, 28, 29, 30, 32, 34, 36, 40, 42, 44, 45] [] [5, 38, 46, 48] []) σ0 σ) : zpc (fX5_sum_61 σ x4 x5 s0 s1 s2) (fun r => (zQ [3, 5, 7, 9, 10, 11, 12, 15, 17, 19, 21, 23, 25, 27, 28, 29, 30, 32, 34, 36, 40, 42, 44, 45] [] [5, 38, 46, 48] []) σ0 (r.1)) := by
  unfold fX5_sum_61
  exact zpc_ck (zpc_bs (zQ.wi h rfl) (fun σ1 hσ1 => zpc_some hσ1))
theorem fv_fX5_sum {σ0 : zSt} {σ : zSt} {x1 : Int32} {x2 : Int32} {x3 : Int32} (h : (zQ [3, 5, 7, 9, 10, 11, 12, 15, 17, 19, 21, 23, 25, 27, 28, 29, 30, 32, 34, 36, 40, 42, 44, 45] [] [5, 38, 46, 48] []) σ0 σ) : zpc (fX5_sum σ x1 x2 x3) (fun r => (zQ [3, 5, 7, 9, 10, 11, 12, 15, 17, 19, 21, 23, 25, 27, 28, 29, 30, 32, 34, 36, 40, 42, 44, 45] [] [5, 38, 46, 48] []) σ0 (r.1)) := by
  unfold fX5_sum
  exact zpc_bv (fun v2 _ => zpc_bv (fun v3 _ => zpc_bv (fun v4 _ => zpc_bi (fv_fX5_by h) (fun σ5 v6 hσ5 => zpc_if (fun _ => fv_fX5_sum_61 hσ5) (fun _ => fv_fX5_sum_61 hσ5)))))
theorem fv_fX5_doWith_292 {σ0 : zSt} {σ : zSt} (h : (zQ [3, 5, 7, 9, 10, 11, 12, 15, 17, 19, 21, 23, 25, 27, 28, 29, 30, 32, 34, 36, 40, 42, 44, 45] [] [5, 38, 46, 48] []) σ0 σ) : zpc (fX5_doWith_292 σ) (fun r => (zQ [3, 5, 7, 9, 10, 11, 12, 15, 17, 19, 21, 23, 25, 27, 28, 29, 30, 32, 34, 36, 40, 42, 44, 45] [] [5, 38, 46, 48] []) σ0 (r)) := by
  unfold fX5_doWith_292
  exact zpc_some h
theorem fv_fX5_doWith {σ0 : zSt} {σ : zSt} {x1 : Int32} {x2 : Int32} (h : (zQ [3, 5, 7, 9, 10, 11, 12, 15, 17, 19, 21, 23, 25, 27, 28, 29, 30, 32, 34, 36, 40, 42, 44, 45] [] [5, 38, 46, 48] []) σ0 σ) : zpc (fX5_doWith σ x1 x2) (fun r => (zQ [3, 5, 7, 9, 10, 11, 12, 15, 17, 19, 21, 23, 25, 27, 28, 29, 30, 32, 34, 36, 40, 42, 44, 45] [] [5, 38, 46, 48] []) σ0 (r)) := by
  unfold fX5_doWith
  exact zpc_if (fun _ => zpc_ck (zpc_bi (fv_fX5_sum h) (fun σ1 v2 hσ1 => zpc_ck (zpc_bs (zQ.wi hσ1 rfl) (fun σ3 hσ3 => fv_fX5_doWith_292 hσ3))))) (fun _ => zpc_if (fun _ => zpc_ck (zpc_ck (zpc_bi (fv_fX5_sum h) (fun σ4 v5 hσ4 => zpc_ck (zpc_bs (zQ.wi hσ4 rfl) (fun σ6 hσ6 => fv_fX5_doWith_292 hσ6)))))) (fun _ => zpc_if (fun _ => zpc_ck (zpc_bi (fv_fX5_difference h) (fun σ7 v8 hσ7 => zpc_ck (zpc_bs (zQ.wi hσ7 rfl) (fun σ9 hσ9 => fv_fX5_doWith_292 hσ9))))) (fun _ => zpc_if (fun _ => zpc_ck (zpc_ck (zpc_bi (fv_fX5_difference h) (fun σ10 v11 hσ10 => zpc_ck (zpc_bs (zQ.wi hσ10 rfl) (fun σ12 hσ12 => fv_fX5_doWith_292 hσ12)))))) (fun _ => zpc_if (fun _ => zpc_ck (zpc_ck (zpc_bs (zQ.wi h rfl) (fun σ13 hσ13 => zpc_ck (zpc_bi (fv_fX5_by hσ13) (fun σ14 v15 hσ14 => zpc_ck (zpc_bi (fv_fX5_parity hσ14) (fun σ16 v17 hσ16 => zpc_ck (zpc_bs (zQ.wi hσ16 rfl) (fun σ18 hσ18 => fv_fX5_doWith_292 hσ18)))))))))) (fun _ => zpc_if (fun _ => zpc_ck (zpc_ck (zpc_bs (zQ.wi h rfl) (fun σ19 hσ19 => zpc_ck (zpc_bi (fv_fX5_by hσ19) (fun σ20 v21 hσ20 => zpc_ck (zpc_bi (fv_fX5_parity hσ20) (fun σ22 v23 hσ22 => zpc_ck (zpc_bs (zQ.wi hσ22 rfl) (fun σ24 hσ24 => fv_fX5_doWith_292 hσ24)))))))))) (fun _ => zpc_if (fun _ => zpc_ck (zpc_ck (zpc_bs (zQ.wi h rfl) (fun σ25 hσ25 => zpc_ck (zpc_bi (fv_fX5_by hσ25) (fun σ26 v27 hσ26 => zpc_ck (zpc_bi (fv_fX5_parity hσ26) (fun σ28 v29 hσ28 => zpc_ck (zpc_bs (zQ.wi hσ28 rfl) (fun σ30 hσ30 => fv_fX5_doWith_292 hσ30)))))))))) (fun _ => zpc_ck (zpc_bi (fv_fX5_difference h) (fun σ31 v32 hσ31 => zpc_ck (zpc_ck (zpc_bs (zQ.wi hσ31 rfl) (fun σ33 hσ33 => fv_fX5_doWith_292 hσ33))))))))))))
theorem fv_fX5_callIf {σ0 : zSt} {σ : zSt} {x1 : Int32} (h : (zQ [3, 5, 7, 9, 10, 11, 12, 15, 17, 19, 21, 23, 25, 27, 28, 29, 30, 32, 34, 36, 40, 42, 44, 45] [] [5, 38, 46, 48] []) σ0 σ) : zpc (fX5_callIf σ x1) (fun r => (zQ [3, 5, 7, 9, 10, 11, 12, 15, 17, 19, 21, 23, 25, 27, 28, 29, 30, 32, 34, 36, 40, 42, 44, 45] [] [5, 38, 46, 48] []) σ0 (r.1)) := by
  unfold fX5_callIf
  exact zpc_bi (fv_fX5_fetchWord h) (fun σ1 v2 hσ1 => zpc_ck (zpc_bs (zQ.wi hσ1 rfl) (fun σ3 hσ3 => zpc_if (fun _ => zpc_some hσ3) (fun _ => zpc_ck (zpc_bu (fv_fX5_push hσ3) (fun σ4 hσ4 => zpc_ck (zpc_bs (zQ.wi hσ4 rfl) (fun σ5 hσ5 => zpc_some hσ5))))))))
theorem fv_fX5_holds_44 {σ0 : zSt} {σ : zSt} {s0 : Int32} (h : (zQ [3, 5, 7, 9, 10, 11, 12, 15, 17, 19, 21, 23, 25, 27, 28, 29, 30, 32, 34, 36, 40, 42, 44, 45] [] [5, 38, 46, 48] []) σ0 σ) : zpc (fX5_holds_44 σ s0) (fun r => (zQ [3, 5, 7, 9, 10, 11, 12, 15, 17, 19, 21, 23, 25, 27, 28, 29, 30, 32, 34, 36, 40, 42, 44, 45] [] [5, 38, 46, 48] []) σ0 (r.1)) := by
  unfold fX5_holds_44
  exact zpc_ck (zpc_some h)
theorem fv_fX5_holds_36 {σ0 : zSt} {σ : zSt} {s0 : Int32} {s1 : Int32} (h : (zQ [3, 5, 7, 9, 10, 11, 12, 15, 17, 19, 21, 23, 25, 27, 28, 29, 30, 32, 34, 36, 40, 42, 44, 45] [] [5, 38, 46, 48] []) σ0 σ) : zpc (fX5_holds_36 σ s0 s1) (fun r => (zQ [3, 5, 7, 9, 10, 11, 12, 15, 17, 19, 21, 23, 25, 27, 28, 29, 30, 32, 34, 36, 40, 42, 44, 45] [] [5, 38, 46, 48] []) σ0 (r.1)) := by
  unfold fX5_holds_36
  exact zpc_if (fun _ => fv_fX5_holds_44 h) (fun _ => fv_fX5_holds_44 h)
theorem fv_fX5_holds_24 {σ0 : zSt} {σ : zSt} {x1 : Int32} {s0 : Int32} (h : (zQ [3, 5, 7, 9, 10, 11, 12, 15, 17, 19, 21, 23, 25, 27, 28, 29, 30, 32, 34, 36, 40, 42, 44, 45] [] [5, 38, 46, 48] []) σ0 σ) : zpc (fX5_holds_24 σ x1 s0) (fun r => (zQ [3, 5, 7, 9, 10, 11, 12, 15, 17, 19, 21, 23, 25, 27, 28, 29, 30, 32, 34, 36, 40, 42, 44, 45] [] [5, 38, 46, 48] []) σ0 (r.1)) := by
  unfold fX5_holds_24
  exact zpc_if (fun _ => fv_fX5_holds_36 h) (fun _ => fv_fX5_holds_36 h)
theorem fv_fX5_holds {σ0 : zSt} {σ : zSt} {x1 : Int32} (h : (zQ [3, 5, 7, 9, 10, 11, 12, 15, 17, 19, 21, 23, 25, 27, 28, 29, 30, 32, 34, 36, 40, 42, 44, 45] [] [5, 38, 46, 48] []) σ0 σ) : zpc (fX5_holds σ x1) (fun r => (zQ [3, 5, 7, 9, 10, 11, 12, 15, 17, 19, 21, 23, 25, 27, 28, 29, 30, 32, 34, 36, 40, 42, 44, 45] [] [5, 38, 46, 48] []) σ0 (r.1)) := by
  unfold fX5_holds
  exact zpc_ck (zpc_ck (zpc_if (fun _ => fv_fX5_holds_24 h) (fun _ => fv_fX5_holds_24 h)))
theorem fv_fX5_popPair_25 {σ0 : zSt} {σ : zSt} (h : (zQ [3, 5, 7, 9, 10, 11, 12, 15, 17, 19, 21, 23, 25, 27, 28, 29, 30, 32, 34, 36, 40, 42, 44, 45] [] [5, 38, 46, 48] []) σ0 σ) : zpc (fX5_popPair_25 σ) (fun r => (zQ [3, 5, 7, 9, 10, 11, 12, 15, 17, 19, 21, 23, 25, 27, 28, 29, 30, 32, 34, 36, 40, 42, 44, 45] [] [5, 38, 46, 48] []) σ0 (r.1)) := by
  unfold fX5_popPair_25
  exact zpc_some h
theorem fv_fX5_popPair {σ0 : zSt} {σ : zSt} {x1 : Int32} (h : (zQ [3, 5, 7, 9, 10, 11, 12, 15, 17, 19, 21, 23, 25, 27, 28, 29, 30, 32, 34, 36, 40, 42, 44, 45] [] [5, 38, 46, 48] []) σ0 σ) : zpc (fX5_popPair σ x1) (fun r => (zQ [3, 5, 7, 9, 10, 11, 12, 15, 17, 19, 21, 23, 25, 27, 28, 29, 30, 32, 34, 36, 40, 42, 44, 45] [] [5, 38, 46, 48] []) σ0 (r.1)) := by
  unfold fX5_popPair
  exact zpc_bi (fv_fX5_pop h) (fun σ1 v2 hσ1 => zpc_if (fun _ => zpc_bu (fv_fX5_putPairAt hσ1) (fun σ4 hσ4 => fv_fX5_popPair_25 hσ4)) (fun _ => zpc_bu (fv_fX5_putPair hσ1) (fun σ3 hσ3 => fv_fX5_popPair_25 hσ3)))
theorem fv_fX5_changeWithOther {σ0 : zSt} {σ : zSt} {x1 : Int32} (h : (zQ [3, 5, 7, 9, 10, 11, 12, 15, 17, 19, 21, 23, 25, 27, 28, 29, 30, 32, 34, 36, 40, 42, 44, 45] [] [5, 38, 46, 48] []) σ0 σ) : zpc (fX5_changeWithOther σ x1) (fun r => (zQ [3, 5, 7, 9, 10, 11, 12, 15, 17, 19, 21, 23, 25, 27, 28, 29, 30, 32, 34, 36, 40, 42, 44, 45] [] [5, 38, 46, 48] []) σ0 (r)) := by
  unfold fX5_changeWithOther
  exact zpc_ck (zpc_bv (fun v1 _ => zpc_ck (zpc_ck (zpc_bs (zQ.wi h rfl) (fun σ2 hσ2 => zpc_ck (zpc_bs (zQ.wi hσ2 rfl) (fun σ3 hσ3 => zpc_some hσ3)))))))
theorem fv_fX5_leave_41_body {σ0 : zSt} {k41 : zSt → Int32 → Option (zSt × Int32)} (hk41 : ∀ (y0 : zSt) (y1 : Int32), (zQ [3, 5, 7, 9, 10, 11, 12, 15, 17, 19, 21, 23, 25, 27, 28, 29, 30, 32, 34, 36, 40, 42, 44, 45] [] [5, 38, 46, 48] []) σ0 y0 → zpc (k41 y0 y1) (fun r => (zQ [3, 5, 7, 9, 10, 11, 12, 15, 17, 19, 21, 23, 25, 27, 28, 29, 30, 32, 34, 36, 40, 42, 44, 45] [] [5, 38, 46, 48] []) σ0 (r.1))) {σ : zSt} {x2 : Int32} (h : (zQ [3, 5, 7, 9, 10, 11, 12, 15, 17, 19, 21, 23, 25, 27, 28, 29, 30, 32, 34, 36, 40, 42, 44, 45] [] [5, 38, 46, 48] []) σ0 σ) : zpc (fX5_leave_41_body k41 σ x2) (fun r => (zQ [3, 5, 7, 9, 10, 11, 12, 15, 17, 19, 21, 23, 25, 27, 28, 29, 30, 32, 34, 36, 40, 42, 44, 45] [] [5, 38, 46, 48] []) σ0 (r.1)) := by
  unfold fX5_leave_41_body
  exact zpc_if (fun _ => zpc_some h) (fun _ => zpc_bu (fv_fX5_changeWithOther h) (fun σ1 hσ1 => zpc_bv (fun v2 _ => hk41 _ _ hσ1)))
theorem fv_fX5_leave_41 {σ0 : zSt} : ∀ (n : Nat) (y0 : zSt) (y1 : Int32), (zQ [3, 5, 7, 9, 10, 11, 12, 15, 17, 19, 21, 23, 25, 27, 28, 29, 30, 32, 34, 36, 40, 42, 44, 45] [] [5, 38, 46, 48] []) σ0 y0 → zpc (fX5_leave_41 n y0 y1) (fun r => (zQ [3, 5, 7, 9, 10, 11, 12, 15, 17, 19, 21, 23, 25, 27, 28, 29, 30, 32, 34, 36, 40, 42, 44, 45] [] [5, 38, 46, 48] []) σ0 (r.1)) := by
  intro n
  induction n with
  | zero => intro y0 y1 h; exact zpc_none
  | succ n ih => intro y0 y1 h; exact fv_fX5_leave_41_body ih h
theorem fv_fX5_leave {σ0 : zSt} {σ : zSt} {x1 : Int32} (h : (zQ [3, 5, 7, 9, 10, 11, 12, 15, 17, 19, 21, 23, 25, 27, 28, 29, 30, 32, 34, 36, 40, 42, 44, 45] [] [5, 38, 46, 48] []) σ0 σ) : zpc (fX5_leave σ x1) (fun r => (zQ [3, 5, 7, 9, 10, 11, 12, 15, 17, 19, 21, 23, 25, 27, 28, 29, 30, 32, 34, 36, 40, 42, 44, 45] [] [5, 38, 46, 48] []) σ0 (r.1)) := by
  unfold fX5_leave
  exact zpc_if (fun _ => zpc_bi (fv_fX5_pop h) (fun σ3 v4 hσ3 => zpc_bu (fv_fX5_goTo hσ3) (fun σ5 hσ5 => zpc_some hσ5))) (fun _ => zpc_if (fun _ => fv_fX5_leave_41 _ _ _ h) (fun _ => zpc_if (fun _ => zpc_bi (fv_fX5_hl h) (fun σ6 v7 hσ6 => zpc_ck (zpc_bs (zQ.wi hσ6 rfl) (fun σ8 hσ8 => zpc_some hσ8)))) (fun _ => zpc_bi (fv_fX5_hl h) (fun σ9 v10 hσ9 => zpc_ck (zpc_bs (zQ.wi hσ9 rfl) (fun σ11 hσ11 => zpc_some hσ11))))))
theorem fv_fX5_lastQuarter_196 {σ0 : zSt} {σ : zSt} {x2 : Int32} (h : (zQ [3, 5, 7, 9, 10, 11, 12, 15, 17, 19, 21, 23, 25, 27, 28, 29, 30, 32, 34, 36, 40, 42, 44, 45] [] [5, 38, 46, 48] []) σ0 σ) : zpc (fX5_lastQuarter_196 σ x2) (fun r => (zQ [3, 5, 7, 9, 10, 11, 12, 15, 17, 19, 21, 23, 25, 27, 28, 29, 30, 32, 34, 36, 40, 42, 44, 45] [] [5, 38, 46, 48] []) σ0 (r.1)) := by
  unfold fX5_lastQuarter_196
  exact zpc_ck (zpc_bu (fv_fX5_push h) (fun σ1 hσ1 => zpc_bu (fv_fX5_goTo hσ1) (fun σ2 hσ2 => zpc_some hσ2)))
theorem fv_fX5_lastQuarter_178 {σ0 : zSt} {σ : zSt} {s0 : Int32} (h : (zQ [3, 5, 7, 9, 10, 11, 12, 15, 17, 19, 21, 23, 25, 27, 28, 29, 30, 32, 34, 36, 40, 42, 44, 45] [] [5, 38, 46, 48] []) σ0 σ) : zpc (fX5_lastQuarter_178 σ s0) (fun r => (zQ [3, 5, 7, 9, 10, 11, 12, 15, 17, 19, 21, 23, 25, 27, 28, 29, 30, 32, 34, 36, 40, 42, 44, 45] [] [5, 38, 46, 48] []) σ0 (r.1)) := by
  unfold fX5_lastQuarter_178
  exact zpc_bu (fv_fX5_push h) (fun σ3 hσ3 => zpc_some hσ3)
theorem fv_fX5_lastQuarter_130 {σ0 : zSt} {σ : zSt} (h : (zQ [3, 5, 7, 9, 10, 11, 12, 15, 17, 19, 21, 23, 25, 27, 28, 29, 30, 32, 34, 36, 40, 42, 44, 45] [] [5, 38, 46, 48] []) σ0 σ) : zpc (fX5_lastQuarter_130 σ) (fun r => (zQ [3, 5, 7, 9, 10, 11, 12, 15, 17, 19, 21, 23, 25, 27, 28, 29, 30, 32, 34, 36, 40, 42, 44, 45] [] [5, 38, 46, 48] []) σ0 (r.1)) := by
  unfold fX5_lastQuarter_130
  exact zpc_some h
theorem fv_fX5_lastQuarter_96 {σ0 : zSt} {σ : zSt} {s0 : Int32} (h : (zQ [3, 5, 7, 9, 10, 11, 12, 15, 17, 19, 21, 23, 25, 27, 28, 29, 30, 32, 34, 36, 40, 42, 44, 45] [] [5, 38, 46, 48] []) σ0 σ) : zpc (fX5_lastQuarter_96 σ s0) (fun r => (zQ [3, 5, 7, 9, 10, 11, 12, 15, 17, 19, 21, 23, 25, 27, 28, 29, 30, 32, 34, 36, 40, 42, 44, 45] [] [5, 38, 46, 48] []) σ0 (r.1)) := by
  unfold fX5_lastQuarter_96
  exact zpc_some h
theorem fv_fX5_lastQuarter {σ0 : zSt} {σ : zSt} {x1 : Int32} (h : (zQ [3, 5, 7, 9, 10, 11, 12, 15, 17, 19, 21, 23, 25, 27, 28, 29, 30, 32, 34, 36, 40, 42, 44, 45] [] [5, 38, 46, 48] []) σ0 σ) : zpc (fX5_lastQuarter σ x1) (fun r => (zQ [3, 5, 7, 9, 10, 11, 12, 15, 17, 19, 21, 23, 25, 27, 28, 29, 30, 32, 34, 36, 40, 42, 44, 45] [] [5, 38, 46, 48] []) σ0 (r.1)) := by
  unfold fX5_lastQuarter
  exact zpc_bv (fun v4 _ => zpc_if (fun _ => zpc_bi (fv_fX5_holds h) (fun σ5 v6 hσ5 => zpc_if (fun _ => zpc_some hσ5) (fun _ => zpc_bi (fv_fX5_pop hσ5) (fun σ7 v8 hσ7 => zpc_bu (fv_fX5_goTo hσ7) (fun σ9 hσ9 => zpc_some hσ9))))) (fun _ => zpc_if (fun _ => zpc_if (fun _ => zpc_bi (fv_fX5_popPair h) (fun σ12 v13 hσ12 => fv_fX5_lastQuarter_96 hσ12)) (fun _ => zpc_bi (fv_fX5_leave h) (fun σ10 v11 hσ10 => fv_fX5_lastQuarter_96 hσ10))) (fun _ => zpc_if (fun _ => zpc_bi (fv_fX5_fetchWord h) (fun σ14 v15 hσ14 => zpc_ck (zpc_bs (zQ.wi hσ14 rfl) (fun σ16 hσ16 => zpc_bi (fv_fX5_holds hσ16) (fun σ17 v18 hσ17 => zpc_if (fun _ => fv_fX5_lastQuarter_130 hσ17) (fun _ => zpc_ck (zpc_ck (zpc_bs (zQ.wi hσ17 rfl) (fun σ19 hσ19 => fv_fX5_lastQuarter_130 hσ19))))))))) (fun _ => zpc_if (fun _ => fv_fX5_lastQuarter_196 h) (fun _ => zpc_if (fun _ => zpc_bi (fv_fX5_holds h) (fun σ20 v21 hσ20 => zpc_bi (fv_fX5_callIf hσ20) (fun σ22 v23 hσ22 => zpc_some hσ22))) (fun _ => zpc_if (fun _ => zpc_if (fun _ => zpc_bi (fv_fX5_callIf h) (fun σ28 v29 hσ28 => zpc_some hσ28)) (fun _ => zpc_if (fun _ => zpc_bi (fv_fX5_pairAt h) (fun σ26 v27 hσ26 => fv_fX5_lastQuarter_178 hσ26)) (fun _ => zpc_bi (fv_fX5_pair h) (fun σ24 v25 hσ24 => fv_fX5_lastQuarter_178 hσ24)))) (fun _ => zpc_if (fun _ => zpc_bi (fv_fX5_fetch h) (fun σ30 v31 hσ30 => zpc_bu (fv_fX5_doWith hσ30) (fun σ32 hσ32 => zpc_some hσ32))) (fun _ => fv_fX5_lastQuarter_196 h))))))))
theorem fv_fX5_doWithRegister_33 {σ0 : zSt} {σ : zSt} {s0 : Int32} (h : (zQ [3, 5, 7, 9, 10, 11, 12, 15, 17, 19, 21, 23, 25, 27, 28, 29, 30, 32, 34, 36, 40, 42, 44, 45] [] [5, 38, 46, 48] []) σ0 σ) : zpc (fX5_doWithRegister_33 σ s0) (fun r => (zQ [3, 5, 7, 9, 10, 11, 12, 15, 17, 19, 21, 23, 25, 27, 28, 29, 30, 32, 34, 36, 40, 42, 44, 45] [] [5, 38, 46, 48] []) σ0 (r.1)) := by
  unfold fX5_doWithRegister_33
  exact zpc_some h
theorem fv_fX5_doWithRegister {σ0 : zSt} {σ : zSt} {x1 : Int32} (h : (zQ [3, 5, 7, 9, 10, 11, 12, 15, 17, 19, 21, 23, 25, 27, 28, 29, 30, 32, 34, 36, 40, 42, 44, 45] [] [5, 38, 46, 48] []) σ0 σ) : zpc (fX5_doWithRegister σ x1) (fun r => (zQ [3, 5, 7, 9, 10, 11, 12, 15, 17, 19, 21, 23, 25, 27, 28, 29, 30, 32, 34, 36, 40, 42, 44, 45] [] [5, 38, 46, 48] []) σ0 (r.1)) := by
  unfold fX5_doWithRegister
  exact zpc_bi (fv_fX5_one h) (fun σ1 v2 hσ1 => zpc_bu (fv_fX5_doWith hσ1) (fun σ3 hσ3 => zpc_if (fun _ => fv_fX5_doWithRegister_33 hσ3) (fun _ => fv_fX5_doWithRegister_33 hσ3)))
theorem fv_fX5_move_56 {σ0 : zSt} {σ : zSt} {s0 : Int32} (h : (zQ [3, 5, 7, 9, 10, 11, 12, 15, 17, 19, 21, 23, 25, 27, 28, 29, 30, 32, 34, 36, 40, 42, 44, 45] [] [5, 38, 46, 48] []) σ0 σ) : zpc (fX5_move_56 σ s0) (fun r => (zQ [3, 5, 7, 9, 10, 11, 12, 15, 17, 19, 21, 23, 25, 27, 28, 29, 30, 32, 34, 36, 40, 42, 44, 45] [] [5, 38, 46, 48] []) σ0 (r.1)) := by
  unfold fX5_move_56
  exact zpc_some h
theorem fv_fX5_move_50 {σ0 : zSt} {σ : zSt} (h : (zQ [3, 5, 7, 9, 10, 11, 12, 15, 17, 19, 21, 23, 25, 27, 28, 29, 30, 32, 34, 36, 40, 42, 44, 45] [] [5, 38, 46, 48] []) σ0 σ) : zpc (fX5_move_50 σ) (fun r => (zQ [3, 5, 7, 9, 10, 11, 12, 15, 17, 19, 21, 23, 25, 27, 28, 29, 30, 32, 34, 36, 40, 42, 44, 45] [] [5, 38, 46, 48] []) σ0 (r.1)) := by
  unfold fX5_move_50
  exact fv_fX5_move_56 h
theorem fv_fX5_move {σ0 : zSt} {σ : zSt} {x1 : Int32} (h : (zQ [3, 5, 7, 9, 10, 11, 12, 15, 17, 19, 21, 23, 25, 27, 28, 29, 30, 32, 34, 36, 40, 42, 44, 45] [] [5, 38, 46, 48] []) σ0 σ) : zpc (fX5_move σ x1) (fun r => (zQ [3, 5, 7, 9, 10, 11, 12, 15, 17, 19, 21, 23, 25, 27, 28, 29, 30, 32, 34, 36, 40, 42, 44, 45] [] [5, 38, 46, 48] []) σ0 (r.1)) := by
  unfold fX5_move
  exact zpc_if (fun _ => zpc_ck (zpc_bs (zQ.wi h rfl) (fun σ6 hσ6 => zpc_some hσ6))) (fun _ => zpc_bv (fun v1 _ => zpc_bv (fun v2 _ => zpc_bi (fv_fX5_one h) (fun σ3 v4 hσ3 => zpc_bu (fv_fX5_putOne hσ3) (fun σ5 hσ5 => zpc_if (fun _ => fv_fX5_move_50 hσ5) (fun _ => zpc_if (fun _ => fv_fX5_move_50 hσ5) (fun _ => fv_fX5_move_56 hσ5)))))))
theorem fv_fX5_adjustA_202 {σ0 : zSt} {σ : zSt} {x4 : Int32} {s0 : Int32} {s1 : Int32} {s2 : Int32} (h : (zQ [3, 5, 7, 9, 10, 11, 12, 15, 17, 19, 21, 23, 25, 27, 28, 29, 30, 32, 34, 36, 40, 42, 44, 45] [] [5, 38, 46, 48] []) σ0 σ) : zpc (fX5_adjustA_202 σ x4 s0 s1 s2) (fun r => (zQ [3, 5, 7, 9, 10, 11, 12, 15, 17, 19, 21, 23, 25, 27, 28, 29, 30, 32, 34, 36, 40, 42, 44, 45] [] [5, 38, 46, 48] []) σ0 (r)) := by
  unfold fX5_adjustA_202
  exact zpc_ck (zpc_ck (zpc_bs (zQ.wi h rfl) (fun σ1 hσ1 => zpc_some hσ1)))
theorem fv_fX5_adjustA_161 {σ0 : zSt} {σ : zSt} {x4 : Int32} {x6 : Int32} {s0 : Int32} (h : (zQ [3, 5, 7, 9, 10, 11, 12, 15, 17, 19, 21, 23, 25, 27, 28, 29, 30, 32, 34, 36, 40, 42, 44, 45] [] [5, 38, 46, 48] []) σ0 σ) : zpc (fX5_adjustA_161 σ x4 x6 s0) (fun r => (zQ [3, 5, 7, 9, 10, 11, 12, 15, 17, 19, 21, 23, 25, 27, 28, 29, 30, 32, 34, 36, 40, 42, 44, 45] [] [5, 38, 46, 48] []) σ0 (r)) := by
  unfold fX5_adjustA_161
  exact zpc_bv (fun v2 _ => zpc_ck (zpc_bs (zQ.wi h rfl) (fun σ3 hσ3 => zpc_bi (fv_fX5_by hσ3) (fun σ4 v5 hσ4 => zpc_bi (fv_fX5_parity hσ4) (fun σ6 v7 hσ6 => zpc_if (fun _ => fv_fX5_adjustA_202 hσ6) (fun _ => fv_fX5_adjustA_202 hσ6))))))
theorem fv_fX5_adjustA_134 {σ0 : zSt} {σ : zSt} {x3 : Int32} {x4 : Int32} {x5 : Int32} {s0 : Int32} (h : (zQ [3, 5, 7, 9, 10, 11, 12, 15, 17, 19, 21, 23, 25, 27, 28, 29, 30, 32, 34, 36, 40, 42, 44, 45] [] [5, 38, 46, 48] []) σ0 σ) : zpc (fX5_adjustA_134 σ x3 x4 x5 s0) (fun r => (zQ [3, 5, 7, 9, 10, 11, 12, 15, 17, 19, 21, 23, 25, 27, 28, 29, 30, 32, 34, 36, 40, 42, 44, 45] [] [5, 38, 46, 48] []) σ0 (r)) := by
  unfold fX5_adjustA_134
  exact zpc_if (fun _ => zpc_ck (fv_fX5_adjustA_161 h)) (fun _ => zpc_ck (fv_fX5_adjustA_161 h))
theorem fv_fX5_adjustA_119 {σ0 : zSt} {σ : zSt} {x3 : Int32} {x4 : Int32} {x5 : Int32} (h : (zQ [3, 5, 7, 9, 10, 11, 12, 15, 17, 19, 21, 23, 25, 27, 28, 29, 30, 32, 34, 36, 40, 42, 44, 45] [] [5, 38, 46, 48] []) σ0 σ) : zpc (fX5_adjustA_119 σ x3 x4 x5) (fun r => (zQ [3, 5, 7, 9, 10, 11, 12, 15, 17, 19, 21, 23, 25, 27, 28, 29, 30, 32, 34, 36, 40, 42, 44, 45] [] [5, 38, 46, 48] []) σ0 (r)) := by
  unfold fX5_adjustA_119
  exact fv_fX5_adjustA_134 h
theorem fv_fX5_adjustA_98 {σ0 : zSt} {σ : zSt} {x1 : Int32} {x2 : Int32} {x3 : Int32} {x4 : Int32} {s0 : Int32} {s1 : Int32} (h : (zQ [3, 5, 7, 9, 10, 11, 12, 15, 17, 19, 21, 23, 25, 27, 28, 29, 30, 32, 34, 36, 40, 42, 44, 45] [] [5, 38, 46, 48] []) σ0 σ) : zpc (fX5_adjustA_98 σ x1 x2 x3 x4 s0 s1) (fun r => (zQ [3, 5, 7, 9, 10, 11, 12, 15, 17, 19, 21, 23, 25, 27, 28, 29, 30, 32, 34, 36, 40, 42, 44, 45] [] [5, 38, 46, 48] []) σ0 (r)) := by
  unfold fX5_adjustA_98
  exact zpc_bv (fun v8 _ => zpc_if (fun _ => zpc_if (fun _ => fv_fX5_adjustA_134 h) (fun _ => fv_fX5_adjustA_134 h)) (fun _ => zpc_if (fun _ => fv_fX5_adjustA_119 h) (fun _ => zpc_if (fun _ => fv_fX5_adjustA_119 h) (fun _ => fv_fX5_adjustA_134 h))))
theorem fv_fX5_adjustA_87 {σ0 : zSt} {σ : zSt} {x1 : Int32} {x2 : Int32} {x3 : Int32} {x4 : Int32} {s0 : Int32} (h : (zQ [3, 5, 7, 9, 10, 11, 12, 15, 17, 19, 21, 23, 25, 27, 28, 29, 30, 32, 34, 36, 40, 42, 44, 45] [] [5, 38, 46, 48] []) σ0 σ) : zpc (fX5_adjustA_87 σ x1 x2 x3 x4 s0) (fun r => (zQ [3, 5, 7, 9, 10, 11, 12, 15, 17, 19, 21, 23, 25, 27, 28, 29, 30, 32, 34, 36, 40, 42, 44, 45] [] [5, 38, 46, 48] []) σ0 (r)) := by
  unfold fX5_adjustA_87
  exact zpc_if (fun _ => fv_fX5_adjustA_98 h) (fun _ => fv_fX5_adjustA_98 h)
theorem fv_fX5_adjustA_81 {σ0 : zSt} {σ : zSt} {x1 : Int32} {x2 : Int32} {x3 : Int32} {x4 : Int32} (h : (zQ [3, 5, 7, 9, 10, 11, 12, 15, 17, 19, 21, 23, 25, 27, 28, 29, 30, 32, 34, 36, 40, 42, 44, 45] [] [5, 38, 46, 48] []) σ0 σ) : zpc (fX5_adjustA_81 σ x1 x2 x3 x4) (fun r => (zQ [3, 5, 7, 9, 10, 11, 12, 15, 17, 19, 21, 23, 25, 27, 28, 29, 30, 32, 34, 36, 40, 42, 44, 45] [] [5, 38, 46, 48] []) σ0 (r)) := by
  unfold fX5_adjustA_81
  exact fv_fX5_adjustA_87 h
theorem fv_fX5_adjustA_69 {σ0 : zSt} {σ : zSt} {x1 : Int32} {x2 : Int32} {x3 : Int32} {s0 : Int32} (h : (zQ [3, 5, 7, 9, 10, 11, 12, 15, 17, 19, 21, 23, 25, 27, 28, 29, 30, 32, 34, 36, 40, 42, 44, 45] [] [5, 38, 46, 48] []) σ0 σ) : zpc (fX5_adjustA_69 σ x1 x2 x3 s0) (fun r => (zQ [3, 5, 7, 9, 10, 11, 12, 15, 17, 19, 21, 23, 25, 27, 28, 29, 30, 32, 34, 36, 40, 42, 44, 45] [] [5, 38, 46, 48] []) σ0 (r)) := by
  unfold fX5_adjustA_69
  exact zpc_if (fun _ => fv_fX5_adjustA_81 h) (fun _ => zpc_if (fun _ => fv_fX5_adjustA_87 h) (fun _ => fv_fX5_adjustA_81 h))
theorem fv_fX5_adjustA_44 {σ0 : zSt} {σ : zSt} {x1 : Int32} {x2 : Int32} {s0 : Int32} (h : (zQ [3, 5, 7, 9, 10, 11, 12, 15, 17, 19, 21, 23, 25, 27, 28, 29, 30, 32, 34, 36, 40, 42, 44, 45] [] [5, 38, 46, 48] []) σ0 σ) : zpc (fX5_adjustA_44 σ x1 x2 s0) (fun r => (zQ [3, 5, 7, 9, 10, 11, 12, 15, 17, 19, 21, 23, 25, 27, 28, 29, 30, 32, 34, 36, 40, 42, 44, 45] [] [5, 38, 46, 48] []) σ0 (r)) := by
  unfold fX5_adjustA_44
  exact zpc_ck (zpc_if (fun _ => zpc_ck (fv_fX5_adjustA_69 h)) (fun _ => fv_fX5_adjustA_69 h))
theorem fv_fX5_adjustA_27 {σ0 : zSt} {σ : zSt} {x1 : Int32} {s0 : Int32} (h : (zQ [3, 5, 7, 9, 10, 11, 12, 15, 17, 19, 21, 23, 25, 27, 28, 29, 30, 32, 34, 36, 40, 42, 44, 45] [] [5, 38, 46, 48] []) σ0 σ) : zpc (fX5_adjustA_27 σ x1 s0) (fun r => (zQ [3, 5, 7, 9, 10, 11, 12, 15, 17, 19, 21, 23, 25, 27, 28, 29, 30, 32, 34, 36, 40, 42, 44, 45] [] [5, 38, 46, 48] []) σ0 (r)) := by
  unfold fX5_adjustA_27
  exact zpc_ck (zpc_if (fun _ => fv_fX5_adjustA_44 h) (fun _ => fv_fX5_adjustA_44 h))
theorem fv_fX5_adjustA {σ0 : zSt} {σ : zSt} (h : (zQ [3, 5, 7, 9, 10, 11, 12, 15, 17, 19, 21, 23, 25, 27, 28, 29, 30, 32, 34, 36, 40, 42, 44, 45] [] [5, 38, 46, 48] []) σ0 σ) : zpc (fX5_adjustA σ) (fun r => (zQ [3, 5, 7, 9, 10, 11, 12, 15, 17, 19, 21, 23, 25, 27, 28, 29, 30, 32, 34, 36, 40, 42, 44, 45] [] [5, 38, 46, 48] []) σ0 (r)) := by
  unfold fX5_adjustA
  exact zpc_ck (zpc_bv (fun v9 _ => zpc_ck (zpc_if (fun _ => fv_fX5_adjustA_27 h) (fun _ => fv_fX5_adjustA_27 h))))
theorem fv_fX5_changeA_130 {σ0 : zSt} {σ : zSt} {s0 : Int32} {s1 : Int32} {s2 : Int32} (h : (zQ [3, 5, 7, 9, 10, 11, 12, 15, 17, 19, 21, 23, 25, 27, 28, 29, 30, 32, 34, 36, 40, 42, 44, 45] [] [5, 38, 46, 48] []) σ0 σ) : zpc (fX5_changeA_130 σ s0 s1 s2) (fun r => (zQ [3, 5, 7, 9, 10, 11, 12, 15, 17, 19, 21, 23, 25, 27, 28, 29, 30, 32, 34, 36, 40, 42, 44, 45] [] [5, 38, 46, 48] []) σ0 (r)) := by
  unfold fX5_changeA_130
  exact zpc_ck (zpc_ck (zpc_bs (zQ.wi h rfl) (fun σ1 hσ1 => zpc_some hσ1)))
theorem fv_fX5_changeA {σ0 : zSt} {σ : zSt} {x1 : Int32} (h : (zQ [3, 5, 7, 9, 10, 11, 12, 15, 17, 19, 21, 23, 25, 27, 28, 29, 30, 32, 34, 36, 40, 42, 44, 45] [] [5, 38, 46, 48] []) σ0 σ) : zpc (fX5_changeA σ x1) (fun r => (zQ [3, 5, 7, 9, 10, 11, 12, 15, 17, 19, 21, 23, 25, 27, 28, 29, 30, 32, 34, 36, 40, 42, 44, 45] [] [5, 38, 46, 48] []) σ0 (r)) := by
  unfold fX5_changeA
  exact zpc_ck (zpc_bv (fun v2 _ => zpc_ck (zpc_bv (fun v3 _ => zpc_if (fun _ => zpc_bu (fv_fX5_adjustA h) (fun σ4 hσ4 => zpc_some hσ4)) (fun _ => zpc_if (fun _ => zpc_ck (zpc_ck (zpc_bs (zQ.wi h rfl) (fun σ5 hσ5 => zpc_ck (zpc_ck (zpc_bs (zQ.wi hσ5 rfl) (fun σ6 hσ6 => zpc_some hσ6))))))) (fun _ => zpc_if (fun _ => zpc_ck (zpc_ck (zpc_bs (zQ.wi h rfl) (fun σ7 hσ7 => zpc_some hσ7)))) (fun _ => zpc_if (fun _ => zpc_if (fun _ => fv_fX5_changeA_130 h) (fun _ => fv_fX5_changeA_130 h)) (fun _ => zpc_ck (zpc_bi (fv_fX5_turn h) (fun σ8 v9 hσ8 => zpc_ck (zpc_bs (zQ.wi hσ8 rfl) (fun σ10 hσ10 => zpc_ck (zpc_ck (zpc_bs (zQ.wi hσ10 rfl) (fun σ11 hσ11 => zpc_some hσ11)))))))))))))))
theorem fv_fX5_oneLess_53 {σ0 : zSt} {σ : zSt} {x2 : Int32} {s0 : Int32} {s1 : Int32} {s2 : Int32} (h : (zQ [3, 5, 7, 9, 10, 11, 12, 15, 17, 19, 21, 23, 25, 27, 28, 29, 30, 32, 34, 36, 40, 42, 44, 45] [] [5, 38, 46, 48] []) σ0 σ) : zpc (fX5_oneLess_53 σ x2 s0 s1 s2) (fun r => (zQ [3, 5, 7, 9, 10, 11, 12, 15, 17, 19, 21, 23, 25, 27, 28, 29, 30, 32, 34, 36, 40, 42, 44, 45] [] [5, 38, 46, 48] []) σ0 (r.1)) := by
  unfold fX5_oneLess_53
  exact zpc_ck (zpc_bs (zQ.wi h rfl) (fun σ1 hσ1 => zpc_some hσ1))
theorem fv_fX5_oneLess_41 {σ0 : zSt} {σ : zSt} {x2 : Int32} {s0 : Int32} {s1 : Int32} {s2 : Int32} (h : (zQ [3, 5, 7, 9, 10, 11, 12, 15, 17, 19, 21, 23, 25, 27, 28, 29, 30, 32, 34, 36, 40, 42, 44, 45] [] [5, 38, 46, 48] []) σ0 σ) : zpc (fX5_oneLess_41 σ x2 s0 s1 s2) (fun r => (zQ [3, 5, 7, 9, 10, 11, 12, 15, 17, 19, 21, 23, 25, 27, 28, 29, 30, 32, 34, 36, 40, 42, 44, 45] [] [5, 38, 46, 48] []) σ0 (r.1)) := by
  unfold fX5_oneLess_41
  exact zpc_if (fun _ => fv_fX5_oneLess_53 h) (fun _ => fv_fX5_oneLess_53 h)
theorem fv_fX5_oneLess {σ0 : zSt} {σ : zSt} {x1 : Int32} (h : (zQ [3, 5, 7, 9, 10, 11, 12, 15, 17, 19, 21, 23, 25, 27, 28, 29, 30, 32, 34, 36, 40, 42, 44, 45] [] [5, 38, 46, 48] []) σ0 σ) : zpc (fX5_oneLess σ x1) (fun r => (zQ [3, 5, 7, 9, 10, 11, 12, 15, 17, 19, 21, 23, 25, 27, 28, 29, 30, 32, 34, 36, 40, 42, 44, 45] [] [5, 38, 46, 48] []) σ0 (r.1)) := by
  unfold fX5_oneLess
  exact zpc_bv (fun v2 _ => zpc_ck (zpc_bi (fv_fX5_by h) (fun σ3 v4 hσ3 => zpc_if (fun _ => fv_fX5_oneLess_41 hσ3) (fun _ => fv_fX5_oneLess_41 hσ3))))
theorem fv_fX5_oneMore_52 {σ0 : zSt} {σ : zSt} {x2 : Int32} {s0 : Int32} {s1 : Int32} {s2 : Int32} (h : (zQ [3, 5, 7, 9, 10, 11, 12, 15, 17, 19, 21, 23, 25, 27, 28, 29, 30, 32, 34, 36, 40, 42, 44, 45] [] [5, 38, 46, 48] []) σ0 σ) : zpc (fX5_oneMore_52 σ x2 s0 s1 s2) (fun r => (zQ [3, 5, 7, 9, 10, 11, 12, 15, 17, 19, 21, 23, 25, 27, 28, 29, 30, 32, 34, 36, 40, 42, 44, 45] [] [5, 38, 46, 48] []) σ0 (r.1)) := by
  unfold fX5_oneMore_52
  exact zpc_ck (zpc_bs (zQ.wi h rfl) (fun σ1 hσ1 => zpc_some hσ1))
theorem fv_fX5_oneMore_39 {σ0 : zSt} {σ : zSt} {x2 : Int32} {s0 : Int32} {s1 : Int32} {s2 : Int32} (h : (zQ [3, 5, 7, 9, 10, 11, 12, 15, 17, 19, 21, 23, 25, 27, 28, 29, 30, 32, 34, 36, 40, 42, 44, 45] [] [5, 38, 46, 48] []) σ0 σ) : zpc (fX5_oneMore_39 σ x2 s0 s1 s2) (fun r => (zQ [3, 5, 7, 9, 10, 11, 12, 15, 17, 19, 21, 23, 25, 27, 28, 29, 30, 32, 34, 36, 40, 42, 44, 45] [] [5, 38, 46, 48] []) σ0 (r.1)) := by
  unfold fX5_oneMore_39
  exact zpc_if (fun _ => fv_fX5_oneMore_52 h) (fun _ => fv_fX5_oneMore_52 h)
theorem fv_fX5_oneMore {σ0 : zSt} {σ : zSt} {x1 : Int32} (h : (zQ [3, 5, 7, 9, 10, 11, 12, 15, 17, 19, 21, 23, 25, 27, 28, 29, 30, 32, 34, 36, 40, 42, 44, 45] [] [5, 38, 46, 48] []) σ0 σ) : zpc (fX5_oneMore σ x1) (fun r => (zQ [3, 5, 7, 9, 10, 11, 12, 15, 17, 19, 21, 23, 25, 27, 28, 29, 30, 32, 34, 36, 40, 42, 44, 45] [] [5, 38, 46, 48] []) σ0 (r.1)) := by
  unfold fX5_oneMore
  exact zpc_bv (fun v2 _ => zpc_ck (zpc_bi (fv_fX5_by h) (fun σ3 v4 hσ3 => zpc_if (fun _ => fv_fX5_oneMore_39 hσ3) (fun _ => fv_fX5_oneMore_39 hσ3))))
theorem fv_fX5_far_78 {σ0 : zSt} {σ : zSt} (h : (zQ [3, 5, 7, 9, 10, 11, 12, 15, 17, 19, 21, 23, 25, 27, 28, 29, 30, 32, 34, 36, 40, 42, 44, 45] [] [5, 38, 46, 48] []) σ0 σ) : zpc (fX5_far_78 σ) (fun r => (zQ [3, 5, 7, 9, 10, 11, 12, 15, 17, 19, 21, 23, 25, 27, 28, 29, 30, 32, 34, 36, 40, 42, 44, 45] [] [5, 38, 46, 48] []) σ0 (r.1)) := by
  unfold fX5_far_78
  exact zpc_some h
theorem fv_fX5_far_152 {σ0 : zSt} {σ : zSt} {s0 : Int32} (h : (zQ [3, 5, 7, 9, 10, 11, 12, 15, 17, 19, 21, 23, 25, 27, 28, 29, 30, 32, 34, 36, 40, 42, 44, 45] [] [5, 38, 46, 48] []) σ0 σ) : zpc (fX5_far_152 σ s0) (fun r => (zQ [3, 5, 7, 9, 10, 11, 12, 15, 17, 19, 21, 23, 25, 27, 28, 29, 30, 32, 34, 36, 40, 42, 44, 45] [] [5, 38, 46, 48] []) σ0 (r.1)) := by
  unfold fX5_far_152
  exact zpc_some h
theorem fv_fX5_far_140 {σ0 : zSt} {σ : zSt} {x1 : Int32} (h : (zQ [3, 5, 7, 9, 10, 11, 12, 15, 17, 19, 21, 23, 25, 27, 28, 29, 30, 32, 34, 36, 40, 42, 44, 45] [] [5, 38, 46, 48] []) σ0 σ) : zpc (fX5_far_140 σ x1) (fun r => (zQ [3, 5, 7, 9, 10, 11, 12, 15, 17, 19, 21, 23, 25, 27, 28, 29, 30, 32, 34, 36, 40, 42, 44, 45] [] [5, 38, 46, 48] []) σ0 (r.1)) := by
  unfold fX5_far_140
  exact zpc_if (fun _ => fv_fX5_far_152 h) (fun _ => fv_fX5_far_152 h)
theorem fv_fX5_far_32 {σ0 : zSt} {σ : zSt} {x1 : Int32} {x2 : Int32} {s0 : Int32} (h : (zQ [3, 5, 7, 9, 10, 11, 12, 15, 17, 19, 21, 23, 25, 27, 28, 29, 30, 32, 34, 36, 40, 42, 44, 45] [] [5, 38, 46, 48] []) σ0 σ) : zpc (fX5_far_32 σ x1 x2 s0) (fun r => (zQ [3, 5, 7, 9, 10, 11, 12, 15, 17, 19, 21, 23, 25, 27, 28, 29, 30, 32, 34, 36, 40, 42, 44, 45] [] [5, 38, 46, 48] []) σ0 (r.1)) := by
  unfold fX5_far_32
  exact zpc_ck (zpc_bs (zQ.wi h rfl) (fun σ1 hσ1 => zpc_if (fun _ => zpc_if (fun _ => zpc_bi (fv_fX5_hl hσ1) (fun σ7 v8 hσ7 => zpc_bu (fv_fX5_writeWord hσ7) (fun σ9 hσ9 => fv_fX5_far_78 hσ9))) (fun _ => zpc_bi (fv_fX5_readWord hσ1) (fun σ10 v11 hσ10 => zpc_bu (fv_fX5_putHl hσ10) (fun σ12 hσ12 => fv_fX5_far_78 hσ12)))) (fun _ => zpc_if (fun _ => zpc_ck (zpc_bu (fv_fX2_write hσ1) (fun σ2 hσ2 => zpc_ck (zpc_ck (zpc_bs (zQ.wi hσ2 rfl) (fun σ3 hσ3 => fv_fX5_far_140 hσ3)))))) (fun _ => zpc_bi (fv_fX2_read hσ1) (fun σ4 v5 hσ4 => zpc_ck (zpc_bs (zQ.wi hσ4 rfl) (fun σ6 hσ6 => fv_fX5_far_140 hσ6)))))))
theorem fv_fX5_far_12 {σ0 : zSt} {σ : zSt} {x1 : Int32} {s0 : Int32} (h : (zQ [3, 5, 7, 9, 10, 11, 12, 15, 17, 19, 21, 23, 25, 27, 28, 29, 30, 32, 34, 36, 40, 42, 44, 45] [] [5, 38, 46, 48] []) σ0 σ) : zpc (fX5_far_12 σ x1 s0) (fun r => (zQ [3, 5, 7, 9, 10, 11, 12, 15, 17, 19, 21, 23, 25, 27, 28, 29, 30, 32, 34, 36, 40, 42, 44, 45] [] [5, 38, 46, 48] []) σ0 (r.1)) := by
  unfold fX5_far_12
  exact zpc_if (fun _ => zpc_bi (fv_fX5_fetchWord h) (fun σ13 v14 hσ13 => fv_fX5_far_32 hσ13)) (fun _ => zpc_bi (fv_fX5_pair h) (fun σ15 v16 hσ15 => fv_fX5_far_32 hσ15))
theorem fv_fX5_far {σ0 : zSt} {σ : zSt} {x1 : Int32} (h : (zQ [3, 5, 7, 9, 10, 11, 12, 15, 17, 19, 21, 23, 25, 27, 28, 29, 30, 32, 34, 36, 40, 42, 44, 45] [] [5, 38, 46, 48] []) σ0 σ) : zpc (fX5_far σ x1) (fun r => (zQ [3, 5, 7, 9, 10, 11, 12, 15, 17, 19, 21, 23, 25, 27, 28, 29, 30, 32, 34, 36, 40, 42, 44, 45] [] [5, 38, 46, 48] []) σ0 (r.1)) := by
  unfold fX5_far
  exact zpc_if (fun _ => fv_fX5_far_12 h) (fun _ => fv_fX5_far_12 h)
theorem fv_fX5_loadPair {σ0 : zSt} {σ : zSt} {x1 : Int32} (h : (zQ [3, 5, 7, 9, 10, 11, 12, 15, 17, 19, 21, 23, 25, 27, 28, 29, 30, 32, 34, 36, 40, 42, 44, 45] [] [5, 38, 46, 48] []) σ0 σ) : zpc (fX5_loadPair σ x1) (fun r => (zQ [3, 5, 7, 9, 10, 11, 12, 15, 17, 19, 21, 23, 25, 27, 28, 29, 30, 32, 34, 36, 40, 42, 44, 45] [] [5, 38, 46, 48] []) σ0 (r.1)) := by
  unfold fX5_loadPair
  exact zpc_bi (fv_fX5_fetchWord h) (fun σ1 v2 hσ1 => zpc_bu (fv_fX5_putPair hσ1) (fun σ3 hσ3 => zpc_some hσ3))
theorem fv_fX5_addPair {σ0 : zSt} {σ : zSt} {x1 : Int32} (h : (zQ [3, 5, 7, 9, 10, 11, 12, 15, 17, 19, 21, 23, 25, 27, 28, 29, 30, 32, 34, 36, 40, 42, 44, 45] [] [5, 38, 46, 48] []) σ0 σ) : zpc (fX5_addPair σ x1) (fun r => (zQ [3, 5, 7, 9, 10, 11, 12, 15, 17, 19, 21, 23, 25, 27, 28, 29, 30, 32, 34, 36, 40, 42, 44, 45] [] [5, 38, 46, 48] []) σ0 (r.1)) := by
  unfold fX5_addPair
  exact zpc_bi (fv_fX5_hl h) (fun σ1 v2 hσ1 => zpc_bi (fv_fX5_pair hσ1) (fun σ3 v4 hσ3 => zpc_bv (fun v5 _ => zpc_ck (zpc_bs (zQ.wi hσ3 rfl) (fun σ6 hσ6 => zpc_bu (fv_fX5_putHl hσ6) (fun σ7 hσ7 => zpc_ck (zpc_ck (zpc_bs (zQ.wi hσ7 rfl) (fun σ8 hσ8 => zpc_some hσ8)))))))))
theorem fv_fX5_near_20 {σ0 : zSt} {σ : zSt} (h : (zQ [3, 5, 7, 9, 10, 11, 12, 15, 17, 19, 21, 23, 25, 27, 28, 29, 30, 32, 34, 36, 40, 42, 44, 45] [] [5, 38, 46, 48] []) σ0 σ) : zpc (fX5_near_20 σ) (fun r => (zQ [3, 5, 7, 9, 10, 11, 12, 15, 17, 19, 21, 23, 25, 27, 28, 29, 30, 32, 34, 36, 40, 42, 44, 45] [] [5, 38, 46, 48] []) σ0 (r.1)) := by
  unfold fX5_near_20
  exact zpc_some h
theorem fv_fX5_near_133 {σ0 : zSt} {σ : zSt} {s0 : Int32} {s1 : Int32} (h : (zQ [3, 5, 7, 9, 10, 11, 12, 15, 17, 19, 21, 23, 25, 27, 28, 29, 30, 32, 34, 36, 40, 42, 44, 45] [] [5, 38, 46, 48] []) σ0 σ) : zpc (fX5_near_133 σ s0 s1) (fun r => (zQ [3, 5, 7, 9, 10, 11, 12, 15, 17, 19, 21, 23, 25, 27, 28, 29, 30, 32, 34, 36, 40, 42, 44, 45] [] [5, 38, 46, 48] []) σ0 (r.1)) := by
  unfold fX5_near_133
  exact zpc_some h
theorem fv_fX5_near_123 {σ0 : zSt} {σ : zSt} {x1 : Int32} {s0 : Int32} (h : (zQ [3, 5, 7, 9, 10, 11, 12, 15, 17, 19, 21, 23, 25, 27, 28, 29, 30, 32, 34, 36, 40, 42, 44, 45] [] [5, 38, 46, 48] []) σ0 σ) : zpc (fX5_near_123 σ x1 s0) (fun r => (zQ [3, 5, 7, 9, 10, 11, 12, 15, 17, 19, 21, 23, 25, 27, 28, 29, 30, 32, 34, 36, 40, 42, 44, 45] [] [5, 38, 46, 48] []) σ0 (r.1)) := by
  unfold fX5_near_123
  exact zpc_if (fun _ => fv_fX5_near_133 h) (fun _ => fv_fX5_near_133 h)
theorem fv_fX5_near_112 {σ0 : zSt} {σ : zSt} {x1 : Int32} {x3 : Int32} (h : (zQ [3, 5, 7, 9, 10, 11, 12, 15, 17, 19, 21, 23, 25, 27, 28, 29, 30, 32, 34, 36, 40, 42, 44, 45] [] [5, 38, 46, 48] []) σ0 σ) : zpc (fX5_near_112 σ x1 x3) (fun r => (zQ [3, 5, 7, 9, 10, 11, 12, 15, 17, 19, 21, 23, 25, 27, 28, 29, 30, 32, 34, 36, 40, 42, 44, 45] [] [5, 38, 46, 48] []) σ0 (r.1)) := by
  unfold fX5_near_112
  exact zpc_if (fun _ => fv_fX5_near_123 h) (fun _ => fv_fX5_near_123 h)
theorem fv_fX5_near_92 {σ0 : zSt} {σ : zSt} {x1 : Int32} {x2 : Int32} {x3 : Int32} (h : (zQ [3, 5, 7, 9, 10, 11, 12, 15, 17, 19, 21, 23, 25, 27, 28, 29, 30, 32, 34, 36, 40, 42, 44, 45] [] [5, 38, 46, 48] []) σ0 σ) : zpc (fX5_near_92 σ x1 x2 x3) (fun r => (zQ [3, 5, 7, 9, 10, 11, 12, 15, 17, 19, 21, 23, 25, 27, 28, 29, 30, 32, 34, 36, 40, 42, 44, 45] [] [5, 38, 46, 48] []) σ0 (r.1)) := by
  unfold fX5_near_92
  exact zpc_if (fun _ => fv_fX5_near_112 h) (fun _ => zpc_ck (zpc_bu (fv_fX5_goTo h) (fun σ1 hσ1 => fv_fX5_near_112 hσ1)))
theorem fv_fX5_near_91 {σ0 : zSt} {σ : zSt} {x1 : Int32} {x2 : Int32} {s0 : Int32} (h : (zQ [3, 5, 7, 9, 10, 11, 12, 15, 17, 19, 21, 23, 25, 27, 28, 29, 30, 32, 34, 36, 40, 42, 44, 45] [] [5, 38, 46, 48] []) σ0 σ) : zpc (fX5_near_91 σ x1 x2 s0) (fun r => (zQ [3, 5, 7, 9, 10, 11, 12, 15, 17, 19, 21, 23, 25, 27, 28, 29, 30, 32, 34, 36, 40, 42, 44, 45] [] [5, 38, 46, 48] []) σ0 (r.1)) := by
  unfold fX5_near_91
  exact fv_fX5_near_92 h
theorem fv_fX5_near_53 {σ0 : zSt} {σ : zSt} {x1 : Int32} {x2 : Int32} {s0 : Int32} (h : (zQ [3, 5, 7, 9, 10, 11, 12, 15, 17, 19, 21, 23, 25, 27, 28, 29, 30, 32, 34, 36, 40, 42, 44, 45] [] [5, 38, 46, 48] []) σ0 σ) : zpc (fX5_near_53 σ x1 x2 s0) (fun r => (zQ [3, 5, 7, 9, 10, 11, 12, 15, 17, 19, 21, 23, 25, 27, 28, 29, 30, 32, 34, 36, 40, 42, 44, 45] [] [5, 38, 46, 48] []) σ0 (r.1)) := by
  unfold fX5_near_53
  exact zpc_if (fun _ => zpc_ck (zpc_ck (zpc_bs (zQ.wi h rfl) (fun σ2 hσ2 => zpc_ck (zpc_if (fun _ => fv_fX5_near_91 hσ2) (fun _ => fv_fX5_near_91 hσ2)))))) (fun _ => fv_fX5_near_92 h)
theorem fv_fX5_near_48 {σ0 : zSt} {σ : zSt} {x1 : Int32} {x2 : Int32} (h : (zQ [3, 5, 7, 9, 10, 11, 12, 15, 17, 19, 21, 23, 25, 27, 28, 29, 30, 32, 34, 36, 40, 42, 44, 45] [] [5, 38, 46, 48] []) σ0 σ) : zpc (fX5_near_48 σ x1 x2) (fun r => (zQ [3, 5, 7, 9, 10, 11, 12, 15, 17, 19, 21, 23, 25, 27, 28, 29, 30, 32, 34, 36, 40, 42, 44, 45] [] [5, 38, 46, 48] []) σ0 (r.1)) := by
  unfold fX5_near_48
  exact fv_fX5_near_53 h
theorem fv_fX5_near_52 {σ0 : zSt} {σ : zSt} {x1 : Int32} {x2 : Int32} (h : (zQ [3, 5, 7, 9, 10, 11, 12, 15, 17, 19, 21, 23, 25, 27, 28, 29, 30, 32, 34, 36, 40, 42, 44, 45] [] [5, 38, 46, 48] []) σ0 σ) : zpc (fX5_near_52 σ x1 x2) (fun r => (zQ [3, 5, 7, 9, 10, 11, 12, 15, 17, 19, 21, 23, 25, 27, 28, 29, 30, 32, 34, 36, 40, 42, 44, 45] [] [5, 38, 46, 48] []) σ0 (r.1)) := by
  unfold fX5_near_52
  exact fv_fX5_near_53 h
theorem fv_fX5_near {σ0 : zSt} {σ : zSt} {x1 : Int32} (h : (zQ [3, 5, 7, 9, 10, 11, 12, 15, 17, 19, 21, 23, 25, 27, 28, 29, 30, 32, 34, 36, 40, 42, 44, 45] [] [5, 38, 46, 48] []) σ0 σ) : zpc (fX5_near σ x1) (fun r => (zQ [3, 5, 7, 9, 10, 11, 12, 15, 17, 19, 21, 23, 25, 27, 28, 29, 30, 32, 34, 36, 40, 42, 44, 45] [] [5, 38, 46, 48] []) σ0 (r.1)) := by
  unfold fX5_near
  exact zpc_if (fun _ => zpc_bi (fv_fX5_fetch h) (fun σ3 v4 hσ3 => zpc_bv (fun v5 _ => zpc_if (fun _ => fv_fX5_near_48 hσ3) (fun _ => zpc_if (fun _ => fv_fX5_near_52 hσ3) (fun _ => zpc_bi (fv_fX5_holds hσ3) (fun σ6 v7 hσ6 => zpc_if (fun _ => fv_fX5_near_52 hσ6) (fun _ => fv_fX5_near_48 hσ6))))))) (fun _ => zpc_if (fun _ => zpc_bu (fv_fX5_changeWithOther h) (fun σ8 hσ8 => zpc_bu (fv_fX5_changeWithOther hσ8) (fun σ9 hσ9 => fv_fX5_near_20 hσ9))) (fun _ => fv_fX5_near_20 h))
theorem fv_fX5_firstQuarter_193 {σ0 : zSt} {σ : zSt} {s0 : Int32} (h : (zQ [3, 5, 7, 9, 10, 11, 12, 15, 17, 19, 21, 23, 25, 27, 28, 29, 30, 32, 34, 36, 40, 42, 44, 45] [] [5, 38, 46, 48] []) σ0 σ) : zpc (fX5_firstQuarter_193 σ s0) (fun r => (zQ [3, 5, 7, 9, 10, 11, 12, 15, 17, 19, 21, 23, 25, 27, 28, 29, 30, 32, 34, 36, 40, 42, 44, 45] [] [5, 38, 46, 48] []) σ0 (r.1)) := by
  unfold fX5_firstQuarter_193
  exact zpc_some h
theorem fv_fX5_firstQuarter_170 {σ0 : zSt} {σ : zSt} {s0 : Int32} (h : (zQ [3, 5, 7, 9, 10, 11, 12, 15, 17, 19, 21, 23, 25, 27, 28, 29, 30, 32, 34, 36, 40, 42, 44, 45] [] [5, 38, 46, 48] []) σ0 σ) : zpc (fX5_firstQuarter_170 σ s0) (fun r => (zQ [3, 5, 7, 9, 10, 11, 12, 15, 17, 19, 21, 23, 25, 27, 28, 29, 30, 32, 34, 36, 40, 42, 44, 45] [] [5, 38, 46, 48] []) σ0 (r.1)) := by
  unfold fX5_firstQuarter_170
  exact zpc_some h
theorem fv_fX5_firstQuarter_143 {σ0 : zSt} {σ : zSt} {s0 : Int32} (h : (zQ [3, 5, 7, 9, 10, 11, 12, 15, 17, 19, 21, 23, 25, 27, 28, 29, 30, 32, 34, 36, 40, 42, 44, 45] [] [5, 38, 46, 48] []) σ0 σ) : zpc (fX5_firstQuarter_143 σ s0) (fun r => (zQ [3, 5, 7, 9, 10, 11, 12, 15, 17, 19, 21, 23, 25, 27, 28, 29, 30, 32, 34, 36, 40, 42, 44, 45] [] [5, 38, 46, 48] []) σ0 (r.1)) := by
  unfold fX5_firstQuarter_143
  exact zpc_some h
theorem fv_fX5_firstQuarter_110 {σ0 : zSt} {σ : zSt} {s0 : Int32} {s1 : Int32} {s2 : Int32} (h : (zQ [3, 5, 7, 9, 10, 11, 12, 15, 17, 19, 21, 23, 25, 27, 28, 29, 30, 32, 34, 36, 40, 42, 44, 45] [] [5, 38, 46, 48] []) σ0 σ) : zpc (fX5_firstQuarter_110 σ s0 s1 s2) (fun r => (zQ [3, 5, 7, 9, 10, 11, 12, 15, 17, 19, 21, 23, 25, 27, 28, 29, 30, 32, 34, 36, 40, 42, 44, 45] [] [5, 38, 46, 48] []) σ0 (r.1)) := by
  unfold fX5_firstQuarter_110
  exact zpc_bu (fv_fX5_putPair h) (fun σ1 hσ1 => zpc_some hσ1)
theorem fv_fX5_firstQuarter_81 {σ0 : zSt} {σ : zSt} {s0 : Int32} (h : (zQ [3, 5, 7, 9, 10, 11, 12, 15, 17, 19, 21, 23, 25, 27, 28, 29, 30, 32, 34, 36, 40, 42, 44, 45] [] [5, 38, 46, 48] []) σ0 σ) : zpc (fX5_firstQuarter_81 σ s0) (fun r => (zQ [3, 5, 7, 9, 10, 11, 12, 15, 17, 19, 21, 23, 25, 27, 28, 29, 30, 32, 34, 36, 40, 42, 44, 45] [] [5, 38, 46, 48] []) σ0 (r.1)) := by
  unfold fX5_firstQuarter_81
  exact zpc_some h
theorem fv_fX5_firstQuarter {σ0 : zSt} {σ : zSt} {x1 : Int32} (h : (zQ [3, 5, 7, 9, 10, 11, 12, 15, 17, 19, 21, 23, 25, 27, 28, 29, 30, 32, 34, 36, 40, 42, 44, 45] [] [5, 38, 46, 48] []) σ0 σ) : zpc (fX5_firstQuarter σ x1) (fun r => (zQ [3, 5, 7, 9, 10, 11, 12, 15, 17, 19, 21, 23, 25, 27, 28, 29, 30, 32, 34, 36, 40, 42, 44, 45] [] [5, 38, 46, 48] []) σ0 (r.1)) := by
  unfold fX5_firstQuarter
  exact zpc_bv (fun v2 _ => zpc_if (fun _ => zpc_bi (fv_fX5_near h) (fun σ3 v4 hσ3 => zpc_some hσ3)) (fun _ => zpc_if (fun _ => zpc_if (fun _ => zpc_bi (fv_fX5_loadPair h) (fun σ7 v8 hσ7 => fv_fX5_firstQuarter_81 hσ7)) (fun _ => zpc_bi (fv_fX5_addPair h) (fun σ5 v6 hσ5 => fv_fX5_firstQuarter_81 hσ5))) (fun _ => zpc_if (fun _ => zpc_bi (fv_fX5_far h) (fun σ9 v10 hσ9 => zpc_some hσ9)) (fun _ => zpc_if (fun _ => zpc_bi (fv_fX5_pair h) (fun σ11 v12 hσ11 => zpc_if (fun _ => fv_fX5_firstQuarter_110 hσ11) (fun _ => fv_fX5_firstQuarter_110 hσ11))) (fun _ => zpc_if (fun _ => zpc_bi (fv_fX5_one h) (fun σ13 v14 hσ13 => zpc_bi (fv_fX5_oneMore hσ13) (fun σ15 v16 hσ15 => zpc_bu (fv_fX5_putOne hσ15) (fun σ17 hσ17 => zpc_if (fun _ => fv_fX5_firstQuarter_143 hσ17) (fun _ => fv_fX5_firstQuarter_143 hσ17))))) (fun _ => zpc_if (fun _ => zpc_bi (fv_fX5_one h) (fun σ18 v19 hσ18 => zpc_bi (fv_fX5_oneLess hσ18) (fun σ20 v21 hσ20 => zpc_bu (fv_fX5_putOne hσ20) (fun σ22 hσ22 => zpc_if (fun _ => fv_fX5_firstQuarter_170 hσ22) (fun _ => fv_fX5_firstQuarter_170 hσ22))))) (fun _ => zpc_if (fun _ => zpc_bi (fv_fX5_fetch h) (fun σ23 v24 hσ23 => zpc_bu (fv_fX5_putOne hσ23) (fun σ25 hσ25 => zpc_if (fun _ => fv_fX5_firstQuarter_193 hσ25) (fun _ => fv_fX5_firstQuarter_193 hσ25)))) (fun _ => zpc_bu (fv_fX5_changeA h) (fun σ26 hσ26 => zpc_some hσ26)))))))))
theorem fv_fX5_carryOn_90 {σ0 : zSt} {σ : zSt} (h : (zQ [3, 5, 7, 9, 10, 11, 12, 15, 17, 19, 21, 23, 25, 27, 28, 29, 30, 32, 34, 36, 40, 42, 44, 45] [] [5, 38, 46, 48] []) σ0 σ) : zpc (fX5_carryOn_90 σ) (fun r => (zQ [3, 5, 7, 9, 10, 11, 12, 15, 17, 19, 21, 23, 25, 27, 28, 29, 30, 32, 34, 36, 40, 42, 44, 45] [] [5, 38, 46, 48] []) σ0 (r.1)) := by
  unfold fX5_carryOn_90
  exact zpc_ck (zpc_bs (zQ.wi h rfl) (fun σ1 hσ1 => zpc_some hσ1))
theorem fv_fX5_carryOn_193 {σ0 : zSt} {σ : zSt} {s0 : Int32} (h : (zQ [3, 5, 7, 9, 10, 11, 12, 15, 17, 19, 21, 23, 25, 27, 28, 29, 30, 32, 34, 36, 40, 42, 44, 45] [] [5, 38, 46, 48] []) σ0 σ) : zpc (fX5_carryOn_193 σ s0) (fun r => (zQ [3, 5, 7, 9, 10, 11, 12, 15, 17, 19, 21, 23, 25, 27, 28, 29, 30, 32, 34, 36, 40, 42, 44, 45] [] [5, 38, 46, 48] []) σ0 (r.1)) := by
  unfold fX5_carryOn_193
  exact zpc_some h
theorem fv_fX5_carryOn_275 {σ0 : zSt} {σ : zSt} {s0 : Int32} {s1 : Int32} (h : (zQ [3, 5, 7, 9, 10, 11, 12, 15, 17, 19, 21, 23, 25, 27, 28, 29, 30, 32, 34, 36, 40, 42, 44, 45] [] [5, 38, 46, 48] []) σ0 σ) : zpc (fX5_carryOn_275 σ s0 s1) (fun r => (zQ [3, 5, 7, 9, 10, 11, 12, 15, 17, 19, 21, 23, 25, 27, 28, 29, 30, 32, 34, 36, 40, 42, 44, 45] [] [5, 38, 46, 48] []) σ0 (r.1)) := by
  unfold fX5_carryOn_275
  exact zpc_some h
theorem fv_fX5_carryOn_141 {σ0 : zSt} {σ : zSt} {x1 : Int32} {x2 : Int32} (h : (zQ [3, 5, 7, 9, 10, 11, 12, 15, 17, 19, 21, 23, 25, 27, 28, 29, 30, 32, 34, 36, 40, 42, 44, 45] [] [5, 38, 46, 48] []) σ0 σ) : zpc (fX5_carryOn_141 σ x1 x2) (fun r => (zQ [3, 5, 7, 9, 10, 11, 12, 15, 17, 19, 21, 23, 25, 27, 28, 29, 30, 32, 34, 36, 40, 42, 44, 45] [] [5, 38, 46, 48] []) σ0 (r.1)) := by
  unfold fX5_carryOn_141
  exact zpc_if (fun _ => zpc_bi (fv_fX5_fetchOp h) (fun σ18 v19 hσ18 => zpc_bi (fv_fX5_turns hσ18) (fun σ20 v21 hσ20 => zpc_some hσ20))) (fun _ => zpc_if (fun _ => zpc_bi (fv_fX5_fetchOp h) (fun σ12 v13 hσ12 => zpc_if (fun _ => zpc_bi (fv_fX5_block hσ12) (fun σ16 v17 hσ16 => fv_fX5_carryOn_193 hσ16)) (fun _ => zpc_bi (fv_fX5_behindEd hσ12) (fun σ14 v15 hσ14 => fv_fX5_carryOn_193 hσ14)))) (fun _ => zpc_if (fun _ => zpc_bi (fv_fX5_firstQuarter h) (fun σ2 v3 hσ2 => zpc_some hσ2)) (fun _ => zpc_if (fun _ => zpc_bi (fv_fX5_move h) (fun σ4 v5 hσ4 => zpc_some hσ4)) (fun _ => zpc_if (fun _ => zpc_bi (fv_fX5_doWithRegister h) (fun σ6 v7 hσ6 => zpc_some hσ6)) (fun _ => zpc_if (fun _ => zpc_bi (fv_fX5_exchange h) (fun σ10 v11 hσ10 => fv_fX5_carryOn_275 hσ10)) (fun _ => zpc_bi (fv_fX5_lastQuarter h) (fun σ8 v9 hσ8 => fv_fX5_carryOn_275 hσ8)))))))
theorem fv_fX5_carryOn_115 {σ0 : zSt} {σ : zSt} {s0 : Int32} (h : (zQ [3, 5, 7, 9, 10, 11, 12, 15, 17, 19, 21, 23, 25, 27, 28, 29, 30, 32, 34, 36, 40, 42, 44, 45] [] [5, 38, 46, 48] []) σ0 σ) : zpc (fX5_carryOn_115 σ s0) (fun r => (zQ [3, 5, 7, 9, 10, 11, 12, 15, 17, 19, 21, 23, 25, 27, 28, 29, 30, 32, 34, 36, 40, 42, 44, 45] [] [5, 38, 46, 48] []) σ0 (r.1)) := by
  unfold fX5_carryOn_115
  exact zpc_bs (zQ.wi h rfl) (fun σ22 hσ22 => zpc_bi (fv_fX5_fetchOp hσ22) (fun σ23 v24 hσ23 => zpc_if (fun _ => zpc_bi (fv_fX5_turnBeside hσ23) (fun σ27 v28 hσ27 => zpc_some hσ27)) (fun _ => zpc_bi (fv_fX5_takePlace hσ23) (fun σ25 v26 hσ25 => fv_fX5_carryOn_141 hσ25))))
theorem fv_fX5_carryOn_54 {σ0 : zSt} {σ : zSt} {x1 : Int32} (h : (zQ [3, 5, 7, 9, 10, 11, 12, 15, 17, 19, 21, 23, 25, 27, 28, 29, 30, 32, 34, 36, 40, 42, 44, 45] [] [5, 38, 46, 48] []) σ0 σ) : zpc (fX5_carryOn_54 σ x1) (fun r => (zQ [3, 5, 7, 9, 10, 11, 12, 15, 17, 19, 21, 23, 25, 27, 28, 29, 30, 32, 34, 36, 40, 42, 44, 45] [] [5, 38, 46, 48] []) σ0 (r.1)) := by
  unfold fX5_carryOn_54
  exact zpc_ck (zpc_bi (fv_fX2_read h) (fun σ29 v30 hσ29 => zpc_if (fun _ => fv_fX5_carryOn_90 hσ29) (fun _ => zpc_if (fun _ => fv_fX5_carryOn_90 hσ29) (fun _ => zpc_if (fun _ => fv_fX5_carryOn_90 hσ29) (fun _ => zpc_if (fun _ => fv_fX5_carryOn_115 hσ29) (fun _ => fv_fX5_carryOn_115 hσ29))))))
theorem fv_fX5_carryOn {σ0 : zSt} {σ : zSt} (h : (zQ [3, 5, 7, 9, 10, 11, 12, 15, 17, 19, 21, 23, 25, 27, 28, 29, 30, 32, 34, 36, 40, 42, 44, 45] [] [5, 38, 46, 48] []) σ0 σ) : zpc (fX5_carryOn σ) (fun r => (zQ [3, 5, 7, 9, 10, 11, 12, 15, 17, 19, 21, 23, 25, 27, 28, 29, 30, 32, 34, 36, 40, 42, 44, 45] [] [5, 38, 46, 48] []) σ0 (r.1)) := by
  unfold fX5_carryOn
  exact zpc_ck (zpc_if (fun _ => zpc_bu (fv_fX5_growR h) (fun σ37 hσ37 => zpc_some hσ37)) (fun _ => zpc_bs (zQ.wi h rfl) (fun σ31 hσ31 => zpc_bi (fv_fX5_pairAt hσ31) (fun σ32 v33 hσ32 => zpc_bs (zQ.wi hσ32 rfl) (fun σ34 hσ34 => zpc_bi (fv_fX5_fetchOp hσ34) (fun σ35 v36 hσ35 => zpc_if (fun _ => fv_fX5_carryOn_54 hσ35) (fun _ => zpc_if (fun _ => fv_fX5_carryOn_54 hσ35) (fun _ => fv_fX5_carryOn_141 hσ35))))))))
theorem fv_fX6_size_k11 {σ0 : zSt} {σ : zSt} (h : (zQ [3, 5, 7, 9, 10, 11, 12, 15, 17, 19, 21, 23, 25, 27, 28, 29, 30, 32, 34, 36, 40, 42, 44, 45] [] [5, 38, 46, 48] []) σ0 σ) : zpc (fX6_size_k11 σ) (fun r => (zQ [3, 5, 7, 9, 10, 11, 12, 15, 17, 19, 21, 23, 25, 27, 28, 29, 30, 32, 34, 36, 40, 42, 44, 45] [] [5, 38, 46, 48] []) σ0 (r.1)) := by
  unfold fX6_size_k11
  exact zpc_some h
theorem fv_fX6_size_k12 {σ0 : zSt} {σ : zSt} (h : (zQ [3, 5, 7, 9, 10, 11, 12, 15, 17, 19, 21, 23, 25, 27, 28, 29, 30, 32, 34, 36, 40, 42, 44, 45] [] [5, 38, 46, 48] []) σ0 σ) : zpc (fX6_size_k12 σ) (fun r => (zQ [3, 5, 7, 9, 10, 11, 12, 15, 17, 19, 21, 23, 25, 27, 28, 29, 30, 32, 34, 36, 40, 42, 44, 45] [] [5, 38, 46, 48] []) σ0 (r.1)) := by
  unfold fX6_size_k12
  exact zpc_some h
theorem fv_fX6_takeFirst_k11 {σ0 : zSt} {σ : zSt} (h : (zQ [3, 5, 7, 9, 10, 11, 12, 15, 17, 19, 21, 23, 25, 27, 28, 29, 30, 32, 34, 36, 40, 42, 44, 45] [] [5, 38, 46, 48] []) σ0 σ) : zpc (fX6_takeFirst_k11 σ) (fun r => (zQ [3, 5, 7, 9, 10, 11, 12, 15, 17, 19, 21, 23, 25, 27, 28, 29, 30, 32, 34, 36, 40, 42, 44, 45] [] [5, 38, 46, 48] []) σ0 (r.1)) := by
  unfold fX6_takeFirst_k11
  exact zpc_if (fun _ => zpc_some h) (fun _ => zpc_ck (zpc_bv (fun v1 _ => zpc_bs (zQ.wi h rfl) (fun σ2 hσ2 => zpc_bs (zQ.wi hσ2 rfl) (fun σ3 hσ3 => zpc_some hσ3)))))
theorem fv_fX6_takeFirst_k12 {σ0 : zSt} {σ : zSt} (h : (zQ [3, 5, 7, 9, 10, 11, 12, 15, 17, 19, 21, 23, 25, 27, 28, 29, 30, 32, 34, 36, 40, 42, 44, 45] [] [5, 38, 46, 48] []) σ0 σ) : zpc (fX6_takeFirst_k12 σ) (fun r => (zQ [3, 5, 7, 9, 10, 11, 12, 15, 17, 19, 21, 23, 25, 27, 28, 29, 30, 32, 34, 36, 40, 42, 44, 45] [] [5, 38, 46, 48] []) σ0 (r.1)) := by
  unfold fX6_takeFirst_k12
  exact zpc_if (fun _ => zpc_some h) (fun _ => zpc_ck (zpc_bv (fun v1 _ => zpc_bs (zQ.wi h rfl) (fun σ2 hσ2 => zpc_bs (zQ.wi hσ2 rfl) (fun σ3 hσ3 => zpc_some hσ3)))))
theorem fv_fJ7_fill_53178_k30_5_body {σ0 : zSt} {k5 : zSt → Int32 → Int32 → Int32 → Option (zSt)} (hk5 : ∀ (y0 : zSt) (y1 : Int32) (y2 : Int32) (y3 : Int32), (zQ [3, 5, 7, 9, 10, 11, 12, 15, 17, 19, 21, 23, 25, 27, 28, 29, 30, 32, 34, 36, 40, 42, 44, 45] [] [5, 38, 46, 48] []) σ0 y0 → zpc (k5 y0 y1 y2 y3) (fun r => (zQ [3, 5, 7, 9, 10, 11, 12, 15, 17, 19, 21, 23, 25, 27, 28, 29, 30, 32, 34, 36, 40, 42, 44, 45] [] [5, 38, 46, 48] []) σ0 (r))) {σ : zSt} {x1 : Int32} {x2 : Int32} {x3 : Int32} (h : (zQ [3, 5, 7, 9, 10, 11, 12, 15, 17, 19, 21, 23, 25, 27, 28, 29, 30, 32, 34, 36, 40, 42, 44, 45] [] [5, 38, 46, 48] []) σ0 σ) : zpc (fJ7_fill_53178_k30_5_body k5 σ x1 x2 x3) (fun r => (zQ [3, 5, 7, 9, 10, 11, 12, 15, 17, 19, 21, 23, 25, 27, 28, 29, 30, 32, 34, 36, 40, 42, 44, 45] [] [5, 38, 46, 48] []) σ0 (r)) := by
  unfold fJ7_fill_53178_k30_5_body
  exact zpc_if (fun _ => zpc_some h) (fun _ => zpc_ck (zpc_bs (zQ.wi h rfl) (fun σ1 hσ1 => zpc_bv (fun v2 _ => hk5 _ _ _ _ hσ1))))
theorem fv_fJ7_fill_53178_k30_5 {σ0 : zSt} : ∀ (n : Nat) (y0 : zSt) (y1 : Int32) (y2 : Int32) (y3 : Int32), (zQ [3, 5, 7, 9, 10, 11, 12, 15, 17, 19, 21, 23, 25, 27, 28, 29, 30, 32, 34, 36, 40, 42, 44, 45] [] [5, 38, 46, 48] []) σ0 y0 → zpc (fJ7_fill_53178_k30_5 n y0 y1 y2 y3) (fun r => (zQ [3, 5, 7, 9, 10, 11, 12, 15, 17, 19, 21, 23, 25, 27, 28, 29, 30, 32, 34, 36, 40, 42, 44, 45] [] [5, 38, 46, 48] []) σ0 (r)) := by
  intro n
  induction n with
  | zero => intro y0 y1 y2 y3 h; exact zpc_none
  | succ n ih => intro y0 y1 y2 y3 h; exact fv_fJ7_fill_53178_k30_5_body ih h
theorem fv_fJ7_fill_53178_k30 {σ0 : zSt} {σ : zSt} {x1 : Int32} (h : (zQ [3, 5, 7, 9, 10, 11, 12, 15, 17, 19, 21, 23, 25, 27, 28, 29, 30, 32, 34, 36, 40, 42, 44, 45] [] [5, 38, 46, 48] []) σ0 σ) : zpc (fJ7_fill_53178_k30 σ x1) (fun r => (zQ [3, 5, 7, 9, 10, 11, 12, 15, 17, 19, 21, 23, 25, 27, 28, 29, 30, 32, 34, 36, 40, 42, 44, 45] [] [5, 38, 46, 48] []) σ0 (r)) := by
  unfold fJ7_fill_53178_k30
  exact fv_fJ7_fill_53178_k30_5 _ _ _ _ _ h
theorem fv_fJ7_fill_fda19_k30_10_body {σ0 : zSt} {k10 : zSt → Int32 → Int32 → Int32 → Option (zSt)} (hk10 : ∀ (y0 : zSt) (y1 : Int32) (y2 : Int32) (y3 : Int32), (zQ [3, 5, 7, 9, 10, 11, 12, 15, 17, 19, 21, 23, 25, 27, 28, 29, 30, 32, 34, 36, 40, 42, 44, 45] [] [5, 38, 46, 48] []) σ0 y0 → zpc (k10 y0 y1 y2 y3) (fun r => (zQ [3, 5, 7, 9, 10, 11, 12, 15, 17, 19, 21, 23, 25, 27, 28, 29, 30, 32, 34, 36, 40, 42, 44, 45] [] [5, 38, 46, 48] []) σ0 (r))) {σ : zSt} {x2 : Int32} {x3 : Int32} {x4 : Int32} (h : (zQ [3, 5, 7, 9, 10, 11, 12, 15, 17, 19, 21, 23, 25, 27, 28, 29, 30, 32, 34, 36, 40, 42, 44, 45] [] [5, 38, 46, 48] []) σ0 σ) : zpc (fJ7_fill_fda19_k30_10_body k10 σ x2 x3 x4) (fun r => (zQ [3, 5, 7, 9, 10, 11, 12, 15, 17, 19, 21, 23, 25, 27, 28, 29, 30, 32, 34, 36, 40, 42, 44, 45] [] [5, 38, 46, 48] []) σ0 (r)) := by
  unfold fJ7_fill_fda19_k30_10_body
  exact zpc_if (fun _ => zpc_some h) (fun _ => zpc_ck (zpc_bs (zQ.wi h rfl) (fun σ1 hσ1 => zpc_bv (fun v2 _ => hk10 _ _ _ _ hσ1))))
theorem fv_fJ7_fill_fda19_k30_10 {σ0 : zSt} : ∀ (n : Nat) (y0 : zSt) (y1 : Int32) (y2 : Int32) (y3 : Int32), (zQ [3, 5, 7, 9, 10, 11, 12, 15, 17, 19, 21, 23, 25, 27, 28, 29, 30, 32, 34, 36, 40, 42, 44, 45] [] [5, 38, 46, 48] []) σ0 y0 → zpc (fJ7_fill_fda19_k30_10 n y0 y1 y2 y3) (fun r => (zQ [3, 5, 7, 9, 10, 11, 12, 15, 17, 19, 21, 23, 25, 27, 28, 29, 30, 32, 34, 36, 40, 42, 44, 45] [] [5, 38, 46, 48] []) σ0 (r)) := by
  intro n
  induction n with
  | zero => intro y0 y1 y2 y3 h; exact zpc_none
  | succ n ih => intro y0 y1 y2 y3 h; exact fv_fJ7_fill_fda19_k30_10_body ih h
theorem fv_fJ7_fill_fda19_k30 {σ0 : zSt} {σ : zSt} {x1 : Int32} {x2 : Int32} {x3 : Int32} (h : (zQ [3, 5, 7, 9, 10, 11, 12, 15, 17, 19, 21, 23, 25, 27, 28, 29, 30, 32, 34, 36, 40, 42, 44, 45] [] [5, 38, 46, 48] []) σ0 σ) : zpc (fJ7_fill_fda19_k30 σ x1 x2 x3) (fun r => (zQ [3, 5, 7, 9, 10, 11, 12, 15, 17, 19, 21, 23, 25, 27, 28, 29, 30, 32, 34, 36, 40, 42, 44, 45] [] [5, 38, 46, 48] []) σ0 (r)) := by
  unfold fJ7_fill_fda19_k30
  exact zpc_bu (fv_fJ7_rangeCheck_23922 h) (fun σ3 hσ3 => fv_fJ7_fill_fda19_k30_10 _ _ _ _ _ hσ3)
theorem fv_fX7_clear {σ0 : zSt} {σ : zSt} (h : (zQ [3, 5, 7, 9, 10, 11, 12, 15, 17, 19, 21, 23, 25, 27, 28, 29, 30, 32, 34, 36, 40, 42, 44, 45] [] [5, 38, 46, 48] []) σ0 σ) : zpc (fX7_clear σ) (fun r => (zQ [3, 5, 7, 9, 10, 11, 12, 15, 17, 19, 21, 23, 25, 27, 28, 29, 30, 32, 34, 36, 40, 42, 44, 45] [] [5, 38, 46, 48] []) σ0 (r)) := by
  unfold fX7_clear
  exact zpc_bu (fv_fJ7_fill_53178_k30 h) (fun σ1 hσ1 => zpc_bu (fv_fJ7_fill_fda19_k30 hσ1) (fun σ2 hσ2 => zpc_ck (zpc_bs (zQ.wi hσ2 rfl) (fun σ3 hσ3 => zpc_ck (zpc_bs (zQ.wi hσ3 rfl) (fun σ4 hσ4 => zpc_some hσ4))))))
theorem fv_fX7_value_20 {σ0 : zSt} {σ : zSt} {s0 : Int32} (h : (zQ [3, 5, 7, 9, 10, 11, 12, 15, 17, 19, 21, 23, 25, 27, 28, 29, 30, 32, 34, 36, 40, 42, 44, 45] [] [5, 38, 46, 48] []) σ0 σ) : zpc (fX7_value_20 σ s0) (fun r => (zQ [3, 5, 7, 9, 10, 11, 12, 15, 17, 19, 21, 23, 25, 27, 28, 29, 30, 32, 34, 36, 40, 42, 44, 45] [] [5, 38, 46, 48] []) σ0 (r.1)) := by
  unfold fX7_value_20
  exact zpc_some h
theorem fv_fX7_value_19 {σ0 : zSt} {σ : zSt} (h : (zQ [3, 5, 7, 9, 10, 11, 12, 15, 17, 19, 21, 23, 25, 27, 28, 29, 30, 32, 34, 36, 40, 42, 44, 45] [] [5, 38, 46, 48] []) σ0 σ) : zpc (fX7_value_19 σ) (fun r => (zQ [3, 5, 7, 9, 10, 11, 12, 15, 17, 19, 21, 23, 25, 27, 28, 29, 30, 32, 34, 36, 40, 42, 44, 45] [] [5, 38, 46, 48] []) σ0 (r.1)) := by
  unfold fX7_value_19
  exact fv_fX7_value_20 h
theorem fv_fX7_value {σ0 : zSt} {σ : zSt} {x1 : Int32} (h : (zQ [3, 5, 7, 9, 10, 11, 12, 15, 17, 19, 21, 23, 25, 27, 28, 29, 30, 32, 34, 36, 40, 42, 44, 45] [] [5, 38, 46, 48] []) σ0 σ) : zpc (fX7_value σ x1) (fun r => (zQ [3, 5, 7, 9, 10, 11, 12, 15, 17, 19, 21, 23, 25, 27, 28, 29, 30, 32, 34, 36, 40, 42, 44, 45] [] [5, 38, 46, 48] []) σ0 (r.1)) := by
  unfold fX7_value
  exact zpc_if (fun _ => fv_fX7_value_19 h) (fun _ => zpc_if (fun _ => fv_fX7_value_19 h) (fun _ => zpc_ck (fv_fX7_value_20 h)))
theorem fv_fX8_take {σ0 : zSt} {σ : zSt} (h : (zQ [3, 5, 7, 9, 10, 11, 12, 15, 17, 19, 21, 23, 25, 27, 28, 29, 30, 32, 34, 36, 40, 42, 44, 45] [] [5, 38, 46, 48] []) σ0 σ) : zpc (fX8_take σ) (fun r => (zQ [3, 5, 7, 9, 10, 11, 12, 15, 17, 19, 21, 23, 25, 27, 28, 29, 30, 32, 34, 36, 40, 42, 44, 45] [] [5, 38, 46, 48] []) σ0 (r.1)) := by
  unfold fX8_take
  exact zpc_bi (fv_fX2_read h) (fun σ1 v2 hσ1 => zpc_bs (zQ.wi hσ1 rfl) (fun σ3 hσ3 => zpc_some hσ3))
theorem fv_fX8_putSign_29 {σ0 : zSt} {σ : zSt} (h : (zQ [3, 5, 7, 9, 10, 11, 12, 15, 17, 19, 21, 23, 25, 27, 28, 29, 30, 32, 34, 36, 40, 42, 44, 45] [] [5, 38, 46, 48] []) σ0 σ) : zpc (fX8_putSign_29 σ) (fun r => (zQ [3, 5, 7, 9, 10, 11, 12, 15, 17, 19, 21, 23, 25, 27, 28, 29, 30, 32, 34, 36, 40, 42, 44, 45] [] [5, 38, 46, 48] []) σ0 (r)) := by
  unfold fX8_putSign_29
  exact zpc_some h
theorem fv_fX8_putSign {σ0 : zSt} {σ : zSt} {x1 : Int32} (h : (zQ [3, 5, 7, 9, 10, 11, 12, 15, 17, 19, 21, 23, 25, 27, 28, 29, 30, 32, 34, 36, 40, 42, 44, 45] [] [5, 38, 46, 48] []) σ0 σ) : zpc (fX8_putSign σ x1) (fun r => (zQ [3, 5, 7, 9, 10, 11, 12, 15, 17, 19, 21, 23, 25, 27, 28, 29, 30, 32, 34, 36, 40, 42, 44, 45] [] [5, 38, 46, 48] []) σ0 (r)) := by
  unfold fX8_putSign
  exact zpc_if (fun _ => fv_fX8_putSign_29 h) (fun _ => zpc_ck (zpc_bs (zQ.wi h rfl) (fun σ1 hσ1 => zpc_bs (zQ.wi hσ1 rfl) (fun σ2 hσ2 => fv_fX8_putSign_29 hσ2))))
theorem fv_fX8_putByte {σ0 : zSt} {σ : zSt} {x1 : Int32} (h : (zQ [3, 5, 7, 9, 10, 11, 12, 15, 17, 19, 21, 23, 25, 27, 28, 29, 30, 32, 34, 36, 40, 42, 44, 45] [] [5, 38, 46, 48] []) σ0 σ) : zpc (fX8_putByte σ x1) (fun r => (zQ [3, 5, 7, 9, 10, 11, 12, 15, 17, 19, 21, 23, 25, 27, 28, 29, 30, 32, 34, 36, 40, 42, 44, 45] [] [5, 38, 46, 48] []) σ0 (r)) := by
  unfold fX8_putByte
  exact zpc_ck (zpc_ck (zpc_bu (fv_fX8_putSign h) (fun σ1 hσ1 => zpc_ck (zpc_ck (zpc_bu (fv_fX8_putSign hσ1) (fun σ2 hσ2 => zpc_some hσ2))))))
theorem fv_fX8_putWord {σ0 : zSt} {σ : zSt} {x1 : Int32} (h : (zQ [3, 5, 7, 9, 10, 11, 12, 15, 17, 19, 21, 23, 25, 27, 28, 29, 30, 32, 34, 36, 40, 42, 44, 45] [] [5, 38, 46, 48] []) σ0 σ) : zpc (fX8_putWord σ x1) (fun r => (zQ [3, 5, 7, 9, 10, 11, 12, 15, 17, 19, 21, 23, 25, 27, 28, 29, 30, 32, 34, 36, 40, 42, 44, 45] [] [5, 38, 46, 48] []) σ0 (r)) := by
  unfold fX8_putWord
  exact zpc_bu (fv_fX8_putByte h) (fun σ1 hσ1 => zpc_bu (fv_fX8_putByte hσ1) (fun σ2 hσ2 => zpc_some hσ2))
theorem fv_fX8_putHl_35 {σ0 : zSt} {σ : zSt} {s0 : Int32} (h : (zQ [3, 5, 7, 9, 10, 11, 12, 15, 17, 19, 21, 23, 25, 27, 28, 29, 30, 32, 34, 36, 40, 42, 44, 45] [] [5, 38, 46, 48] []) σ0 σ) : zpc (fX8_putHl_35 σ s0) (fun r => (zQ [3, 5, 7, 9, 10, 11, 12, 15, 17, 19, 21, 23, 25, 27, 28, 29, 30, 32, 34, 36, 40, 42, 44, 45] [] [5, 38, 46, 48] []) σ0 (r)) := by
  unfold fX8_putHl_35
  exact zpc_bu (fv_fX8_putSign h) (fun σ1 hσ1 => zpc_some hσ1)
theorem fv_fX8_putHl_15 {σ0 : zSt} {σ : zSt} {s0 : Int32} (h : (zQ [3, 5, 7, 9, 10, 11, 12, 15, 17, 19, 21, 23, 25, 27, 28, 29, 30, 32, 34, 36, 40, 42, 44, 45] [] [5, 38, 46, 48] []) σ0 σ) : zpc (fX8_putHl_15 σ s0) (fun r => (zQ [3, 5, 7, 9, 10, 11, 12, 15, 17, 19, 21, 23, 25, 27, 28, 29, 30, 32, 34, 36, 40, 42, 44, 45] [] [5, 38, 46, 48] []) σ0 (r)) := by
  unfold fX8_putHl_15
  exact zpc_bu (fv_fX8_putSign h) (fun σ2 hσ2 => zpc_if (fun _ => fv_fX8_putHl_35 hσ2) (fun _ => fv_fX8_putHl_35 hσ2))
theorem fv_fX8_putHl {σ0 : zSt} {σ : zSt} (h : (zQ [3, 5, 7, 9, 10, 11, 12, 15, 17, 19, 21, 23, 25, 27, 28, 29, 30, 32, 34, 36, 40, 42, 44, 45] [] [5, 38, 46, 48] []) σ0 σ) : zpc (fX8_putHl σ) (fun r => (zQ [3, 5, 7, 9, 10, 11, 12, 15, 17, 19, 21, 23, 25, 27, 28, 29, 30, 32, 34, 36, 40, 42, 44, 45] [] [5, 38, 46, 48] []) σ0 (r)) := by
  unfold fX8_putHl
  exact zpc_if (fun _ => fv_fX8_putHl_15 h) (fun _ => fv_fX8_putHl_15 h)
theorem fv_fX8_putPlace_45 {σ0 : zSt} {σ : zSt} {s0 : Int32} (h : (zQ [3, 5, 7, 9, 10, 11, 12, 15, 17, 19, 21, 23, 25, 27, 28, 29, 30, 32, 34, 36, 40, 42, 44, 45] [] [5, 38, 46, 48] []) σ0 σ) : zpc (fX8_putPlace_45 σ s0) (fun r => (zQ [3, 5, 7, 9, 10, 11, 12, 15, 17, 19, 21, 23, 25, 27, 28, 29, 30, 32, 34, 36, 40, 42, 44, 45] [] [5, 38, 46, 48] []) σ0 (r)) := by
  unfold fX8_putPlace_45
  exact zpc_bu (fv_fX8_putByte h) (fun σ1 hσ1 => zpc_bu (fv_fX8_putSign hσ1) (fun σ2 hσ2 => zpc_some hσ2))
theorem fv_fX8_putPlace_25 {σ0 : zSt} {σ : zSt} {x1 : Int32} {s0 : Int32} (h : (zQ [3, 5, 7, 9, 10, 11, 12, 15, 17, 19, 21, 23, 25, 27, 28, 29, 30, 32, 34, 36, 40, 42, 44, 45] [] [5, 38, 46, 48] []) σ0 σ) : zpc (fX8_putPlace_25 σ x1 s0) (fun r => (zQ [3, 5, 7, 9, 10, 11, 12, 15, 17, 19, 21, 23, 25, 27, 28, 29, 30, 32, 34, 36, 40, 42, 44, 45] [] [5, 38, 46, 48] []) σ0 (r)) := by
  unfold fX8_putPlace_25
  exact zpc_bu (fv_fX8_putSign h) (fun σ3 hσ3 => zpc_if (fun _ => fv_fX8_putPlace_45 hσ3) (fun _ => fv_fX8_putPlace_45 hσ3))
theorem fv_fX8_putPlace {σ0 : zSt} {σ : zSt} {x1 : Int32} (h : (zQ [3, 5, 7, 9, 10, 11, 12, 15, 17, 19, 21, 23, 25, 27, 28, 29, 30, 32, 34, 36, 40, 42, 44, 45] [] [5, 38, 46, 48] []) σ0 σ) : zpc (fX8_putPlace σ x1) (fun r => (zQ [3, 5, 7, 9, 10, 11, 12, 15, 17, 19, 21, 23, 25, 27, 28, 29, 30, 32, 34, 36, 40, 42, 44, 45] [] [5, 38, 46, 48] []) σ0 (r)) := by
  unfold fX8_putPlace
  exact zpc_bu (fv_fX8_putSign h) (fun σ4 hσ4 => zpc_bu (fv_fX8_putHl hσ4) (fun σ5 hσ5 => zpc_if (fun _ => fv_fX8_putPlace_25 hσ5) (fun _ => fv_fX8_putPlace_25 hσ5)))
theorem fv_fX8_putName_46 {σ0 : zSt} {k5 : zSt → Nat → Int32 → Int32 → Int32 → Option (zSt)} (hk5 : ∀ (y0 : zSt) (y1 : Nat) (y2 : Int32) (y3 : Int32) (y4 : Int32), (zQ [3, 5, 7, 9, 10, 11, 12, 15, 17, 19, 21, 23, 25, 27, 28, 29, 30, 32, 34, 36, 40, 42, 44, 45] [] [5, 38, 46, 48] []) σ0 y0 → zpc (k5 y0 y1 y2 y3 y4) (fun r => (zQ [3, 5, 7, 9, 10, 11, 12, 15, 17, 19, 21, 23, 25, 27, 28, 29, 30, 32, 34, 36, 40, 42, 44, 45] [] [5, 38, 46, 48] []) σ0 (r))) {σ : zSt} {n1 : Nat} {x2 : Int32} {x3 : Int32} {x4 : Int32} (h : (zQ [3, 5, 7, 9, 10, 11, 12, 15, 17, 19, 21, 23, 25, 27, 28, 29, 30, 32, 34, 36, 40, 42, 44, 45] [] [5, 38, 46, 48] []) σ0 σ) : zpc (fX8_putName_46 k5 σ n1 x2 x3 x4) (fun r => (zQ [3, 5, 7, 9, 10, 11, 12, 15, 17, 19, 21, 23, 25, 27, 28, 29, 30, 32, 34, 36, 40, 42, 44, 45] [] [5, 38, 46, 48] []) σ0 (r)) := by
  unfold fX8_putName_46
  exact zpc_bv (fun v1 _ => hk5 _ _ _ _ _ h)
theorem fv_fX8_putName_5_body {σ0 : zSt} {k5 : zSt → Nat → Int32 → Int32 → Int32 → Option (zSt)} (hk5 : ∀ (y0 : zSt) (y1 : Nat) (y2 : Int32) (y3 : Int32) (y4 : Int32), (zQ [3, 5, 7, 9, 10, 11, 12, 15, 17, 19, 21, 23, 25, 27, 28, 29, 30, 32, 34, 36, 40, 42, 44, 45] [] [5, 38, 46, 48] []) σ0 y0 → zpc (k5 y0 y1 y2 y3 y4) (fun r => (zQ [3, 5, 7, 9, 10, 11, 12, 15, 17, 19, 21, 23, 25, 27, 28, 29, 30, 32, 34, 36, 40, 42, 44, 45] [] [5, 38, 46, 48] []) σ0 (r))) {σ : zSt} {n1 : Nat} {x2 : Int32} {x3 : Int32} {x4 : Int32} (h : (zQ [3, 5, 7, 9, 10, 11, 12, 15, 17, 19, 21, 23, 25, 27, 28, 29, 30, 32, 34, 36, 40, 42, 44, 45] [] [5, 38, 46, 48] []) σ0 σ) : zpc (fX8_putName_5_body k5 σ n1 x2 x3 x4) (fun r => (zQ [3, 5, 7, 9, 10, 11, 12, 15, 17, 19, 21, 23, 25, 27, 28, 29, 30, 32, 34, 36, 40, 42, 44, 45] [] [5, 38, 46, 48] []) σ0 (r)) := by
  unfold fX8_putName_5_body
  exact zpc_ck (zpc_if (fun _ => zpc_some h) (fun _ => zpc_ck (zpc_ck (zpc_if (fun _ => zpc_bv (fun v3 _ => fv_fX8_putName_46 hk5 h)) (fun _ => zpc_if (fun _ => zpc_ck (zpc_ck (zpc_bu (fv_fX8_putSign h) (fun σ2 hσ2 => fv_fX8_putName_46 hk5 hσ2)))) (fun _ => fv_fX8_putName_46 hk5 h))))))
theorem fv_fX8_putName_5 {σ0 : zSt} : ∀ (n : Nat) (y0 : zSt) (y1 : Nat) (y2 : Int32) (y3 : Int32) (y4 : Int32), (zQ [3, 5, 7, 9, 10, 11, 12, 15, 17, 19, 21, 23, 25, 27, 28, 29, 30, 32, 34, 36, 40, 42, 44, 45] [] [5, 38, 46, 48] []) σ0 y0 → zpc (fX8_putName_5 n y0 y1 y2 y3 y4) (fun r => (zQ [3, 5, 7, 9, 10, 11, 12, 15, 17, 19, 21, 23, 25, 27, 28, 29, 30, 32, 34, 36, 40, 42, 44, 45] [] [5, 38, 46, 48] []) σ0 (r)) := by
  intro n
  induction n with
  | zero => intro y0 y1 y2 y3 y4 h; exact zpc_none
  | succ n ih => intro y0 y1 y2 y3 y4 h; exact fv_fX8_putName_5_body ih h
theorem fv_fX8_putName {σ0 : zSt} {σ : zSt} {n1 : Nat} {x2 : Int32} (h : (zQ [3, 5, 7, 9, 10, 11, 12, 15, 17, 19, 21, 23, 25, 27, 28, 29, 30, 32, 34, 36, 40, 42, 44, 45] [] [5, 38, 46, 48] []) σ0 σ) : zpc (fX8_putName σ n1 x2) (fun r => (zQ [3, 5, 7, 9, 10, 11, 12, 15, 17, 19, 21, 23, 25, 27, 28, 29, 30, 32, 34, 36, 40, 42, 44, 45] [] [5, 38, 46, 48] []) σ0 (r)) := by
  unfold fX8_putName
  exact fv_fX8_putName_5 _ _ _ _ _ _ h
theorem fv_fX8_putOne_78 {σ0 : zSt} {σ : zSt} (h : (zQ [3, 5, 7, 9, 10, 11, 12, 15, 17, 19, 21, 23, 25, 27, 28, 29, 30, 32, 34, 36, 40, 42, 44, 45] [] [5, 38, 46, 48] []) σ0 σ) : zpc (fX8_putOne_78 σ) (fun r => (zQ [3, 5, 7, 9, 10, 11, 12, 15, 17, 19, 21, 23, 25, 27, 28, 29, 30, 32, 34, 36, 40, 42, 44, 45] [] [5, 38, 46, 48] []) σ0 (r)) := by
  unfold fX8_putOne_78
  exact zpc_some h
theorem fv_fX8_putOne_71 {σ0 : zSt} {σ : zSt} {x1 : Int32} (h : (zQ [3, 5, 7, 9, 10, 11, 12, 15, 17, 19, 21, 23, 25, 27, 28, 29, 30, 32, 34, 36, 40, 42, 44, 45] [] [5, 38, 46, 48] []) σ0 σ) : zpc (fX8_putOne_71 σ x1) (fun r => (zQ [3, 5, 7, 9, 10, 11, 12, 15, 17, 19, 21, 23, 25, 27, 28, 29, 30, 32, 34, 36, 40, 42, 44, 45] [] [5, 38, 46, 48] []) σ0 (r)) := by
  unfold fX8_putOne_71
  exact zpc_bu (fv_fX8_putName h) (fun σ1 hσ1 => fv_fX8_putOne_78 hσ1)
theorem fv_fX8_putOne_65 {σ0 : zSt} {σ : zSt} {s0 : Int32} (h : (zQ [3, 5, 7, 9, 10, 11, 12, 15, 17, 19, 21, 23, 25, 27, 28, 29, 30, 32, 34, 36, 40, 42, 44, 45] [] [5, 38, 46, 48] []) σ0 σ) : zpc (fX8_putOne_65 σ s0) (fun r => (zQ [3, 5, 7, 9, 10, 11, 12, 15, 17, 19, 21, 23, 25, 27, 28, 29, 30, 32, 34, 36, 40, 42, 44, 45] [] [5, 38, 46, 48] []) σ0 (r)) := by
  unfold fX8_putOne_65
  exact zpc_bu (fv_fX8_putSign h) (fun σ2 hσ2 => fv_fX8_putOne_78 hσ2)
theorem fv_fX8_putOne_34 {σ0 : zSt} {σ : zSt} {x1 : Int32} (h : (zQ [3, 5, 7, 9, 10, 11, 12, 15, 17, 19, 21, 23, 25, 27, 28, 29, 30, 32, 34, 36, 40, 42, 44, 45] [] [5, 38, 46, 48] []) σ0 σ) : zpc (fX8_putOne_34 σ x1) (fun r => (zQ [3, 5, 7, 9, 10, 11, 12, 15, 17, 19, 21, 23, 25, 27, 28, 29, 30, 32, 34, 36, 40, 42, 44, 45] [] [5, 38, 46, 48] []) σ0 (r)) := by
  unfold fX8_putOne_34
  exact zpc_if (fun _ => fv_fX8_putOne_71 h) (fun _ => zpc_if (fun _ => zpc_bu (fv_fX8_putHl h) (fun σ3 hσ3 => zpc_if (fun _ => fv_fX8_putOne_65 hσ3) (fun _ => fv_fX8_putOne_65 hσ3))) (fun _ => fv_fX8_putOne_71 h))
theorem fv_fX8_putOne_24 {σ0 : zSt} {σ : zSt} {x1 : Int32} (h : (zQ [3, 5, 7, 9, 10, 11, 12, 15, 17, 19, 21, 23, 25, 27, 28, 29, 30, 32, 34, 36, 40, 42, 44, 45] [] [5, 38, 46, 48] []) σ0 σ) : zpc (fX8_putOne_24 σ x1) (fun r => (zQ [3, 5, 7, 9, 10, 11, 12, 15, 17, 19, 21, 23, 25, 27, 28, 29, 30, 32, 34, 36, 40, 42, 44, 45] [] [5, 38, 46, 48] []) σ0 (r)) := by
  unfold fX8_putOne_24
  exact zpc_if (fun _ => fv_fX8_putOne_34 h) (fun _ => zpc_if (fun _ => fv_fX8_putOne_34 h) (fun _ => fv_fX8_putOne_71 h))
theorem fv_fX8_putOne {σ0 : zSt} {σ : zSt} {x1 : Int32} (h : (zQ [3, 5, 7, 9, 10, 11, 12, 15, 17, 19, 21, 23, 25, 27, 28, 29, 30, 32, 34, 36, 40, 42, 44, 45] [] [5, 38, 46, 48] []) σ0 σ) : zpc (fX8_putOne σ x1) (fun r => (zQ [3, 5, 7, 9, 10, 11, 12, 15, 17, 19, 21, 23, 25, 27, 28, 29, 30, 32, 34, 36, 40, 42, 44, 45] [] [5, 38, 46, 48] []) σ0 (r)) := by
  unfold fX8_putOne
  exact zpc_if (fun _ => zpc_if (fun _ => fv_fX8_putOne_24 h) (fun _ => zpc_bi (fv_fX8_take h) (fun σ4 v5 hσ4 => zpc_bu (fv_fX8_putPlace hσ4) (fun σ6 hσ6 => fv_fX8_putOne_78 hσ6)))) (fun _ => fv_fX8_putOne_24 h)
theorem fv_fX8_putTurned_59 {σ0 : zSt} {σ : zSt} (h : (zQ [3, 5, 7, 9, 10, 11, 12, 15, 17, 19, 21, 23, 25, 27, 28, 29, 30, 32, 34, 36, 40, 42, 44, 45] [] [5, 38, 46, 48] []) σ0 σ) : zpc (fX8_putTurned_59 σ) (fun r => (zQ [3, 5, 7, 9, 10, 11, 12, 15, 17, 19, 21, 23, 25, 27, 28, 29, 30, 32, 34, 36, 40, 42, 44, 45] [] [5, 38, 46, 48] []) σ0 (r)) := by
  unfold fX8_putTurned_59
  exact zpc_some h
theorem fv_fX8_putTurned {σ0 : zSt} {σ : zSt} (h : (zQ [3, 5, 7, 9, 10, 11, 12, 15, 17, 19, 21, 23, 25, 27, 28, 29, 30, 32, 34, 36, 40, 42, 44, 45] [] [5, 38, 46, 48] []) σ0 σ) : zpc (fX8_putTurned σ) (fun r => (zQ [3, 5, 7, 9, 10, 11, 12, 15, 17, 19, 21, 23, 25, 27, 28, 29, 30, 32, 34, 36, 40, 42, 44, 45] [] [5, 38, 46, 48] []) σ0 (r)) := by
  unfold fX8_putTurned
  exact zpc_if (fun _ => zpc_bu (fv_fX8_putName h) (fun σ4 hσ4 => zpc_some hσ4)) (fun _ => zpc_bu (fv_fX8_putPlace h) (fun σ1 hσ1 => zpc_if (fun _ => fv_fX8_putTurned_59 hσ1) (fun _ => zpc_if (fun _ => fv_fX8_putTurned_59 hσ1) (fun _ => zpc_bu (fv_fX8_putSign hσ1) (fun σ2 hσ2 => zpc_bu (fv_fX8_putName hσ2) (fun σ3 hσ3 => fv_fX8_putTurned_59 hσ3))))))
theorem fv_fX8_putPair_28 {σ0 : zSt} {σ : zSt} (h : (zQ [3, 5, 7, 9, 10, 11, 12, 15, 17, 19, 21, 23, 25, 27, 28, 29, 30, 32, 34, 36, 40, 42, 44, 45] [] [5, 38, 46, 48] []) σ0 σ) : zpc (fX8_putPair_28 σ) (fun r => (zQ [3, 5, 7, 9, 10, 11, 12, 15, 17, 19, 21, 23, 25, 27, 28, 29, 30, 32, 34, 36, 40, 42, 44, 45] [] [5, 38, 46, 48] []) σ0 (r)) := by
  unfold fX8_putPair_28
  exact zpc_some h
theorem fv_fX8_putPair {σ0 : zSt} {σ : zSt} {n1 : Nat} (h : (zQ [3, 5, 7, 9, 10, 11, 12, 15, 17, 19, 21, 23, 25, 27, 28, 29, 30, 32, 34, 36, 40, 42, 44, 45] [] [5, 38, 46, 48] []) σ0 σ) : zpc (fX8_putPair σ n1) (fun r => (zQ [3, 5, 7, 9, 10, 11, 12, 15, 17, 19, 21, 23, 25, 27, 28, 29, 30, 32, 34, 36, 40, 42, 44, 45] [] [5, 38, 46, 48] []) σ0 (r)) := by
  unfold fX8_putPair
  exact zpc_if (fun _ => zpc_bu (fv_fX8_putHl h) (fun σ2 hσ2 => fv_fX8_putPair_28 hσ2)) (fun _ => zpc_bu (fv_fX8_putName h) (fun σ1 hσ1 => fv_fX8_putPair_28 hσ1))
theorem fv_fX8_putMeant_275 {σ0 : zSt} {σ : zSt} (h : (zQ [3, 5, 7, 9, 10, 11, 12, 15, 17, 19, 21, 23, 25, 27, 28, 29, 30, 32, 34, 36, 40, 42, 44, 45] [] [5, 38, 46, 48] []) σ0 σ) : zpc (fX8_putMeant_275 σ) (fun r => (zQ [3, 5, 7, 9, 10, 11, 12, 15, 17, 19, 21, 23, 25, 27, 28, 29, 30, 32, 34, 36, 40, 42, 44, 45] [] [5, 38, 46, 48] []) σ0 (r)) := by
  unfold fX8_putMeant_275
  exact zpc_some h
theorem fv_fX8_putMeant_256 {σ0 : zSt} {σ : zSt} (h : (zQ [3, 5, 7, 9, 10, 11, 12, 15, 17, 19, 21, 23, 25, 27, 28, 29, 30, 32, 34, 36, 40, 42, 44, 45] [] [5, 38, 46, 48] []) σ0 σ) : zpc (fX8_putMeant_256 σ) (fun r => (zQ [3, 5, 7, 9, 10, 11, 12, 15, 17, 19, 21, 23, 25, 27, 28, 29, 30, 32, 34, 36, 40, 42, 44, 45] [] [5, 38, 46, 48] []) σ0 (r)) := by
  unfold fX8_putMeant_256
  exact zpc_bi (fv_fX8_take h) (fun σ1 v2 hσ1 => zpc_bu (fv_fX8_putWord hσ1) (fun σ3 hσ3 => fv_fX8_putMeant_275 hσ3))
theorem fv_fX8_putMeant {σ0 : zSt} {σ : zSt} {x1 : Int32} (h : (zQ [3, 5, 7, 9, 10, 11, 12, 15, 17, 19, 21, 23, 25, 27, 28, 29, 30, 32, 34, 36, 40, 42, 44, 45] [] [5, 38, 46, 48] []) σ0 σ) : zpc (fX8_putMeant σ x1) (fun r => (zQ [3, 5, 7, 9, 10, 11, 12, 15, 17, 19, 21, 23, 25, 27, 28, 29, 30, 32, 34, 36, 40, 42, 44, 45] [] [5, 38, 46, 48] []) σ0 (r)) := by
  unfold fX8_putMeant
  exact zpc_if (fun _ => zpc_bu (fv_fX8_putSign h) (fun σ4 hσ4 => fv_fX8_putMeant_275 hσ4)) (fun _ => zpc_if (fun _ => zpc_bu (fv_fX8_putName h) (fun σ5 hσ5 => fv_fX8_putMeant_275 hσ5)) (fun _ => zpc_if (fun _ => zpc_bu (fv_fX8_putName h) (fun σ6 hσ6 => fv_fX8_putMeant_275 hσ6)) (fun _ => zpc_if (fun _ => fv_fX8_putMeant_256 h) (fun _ => zpc_if (fun _ => fv_fX8_putMeant_256 h) (fun _ => zpc_if (fun _ => fv_fX8_putMeant_256 h) (fun _ => zpc_if (fun _ => fv_fX8_putMeant_256 h) (fun _ => zpc_if (fun _ => fv_fX8_putMeant_256 h) (fun _ => zpc_if (fun _ => zpc_bu (fv_fX8_putHl h) (fun σ7 hσ7 => fv_fX8_putMeant_275 hσ7)) (fun _ => zpc_if (fun _ => fv_fX8_putMeant_256 h) (fun _ => zpc_if (fun _ => fv_fX8_putMeant_256 h) (fun _ => zpc_if (fun _ => fv_fX8_putMeant_256 h) (fun _ => zpc_if (fun _ => zpc_bi (fv_fX8_take h) (fun σ8 v9 hσ8 => zpc_bu (fv_fX8_putByte hσ8) (fun σ10 hσ10 => fv_fX8_putMeant_275 hσ10))) (fun _ => zpc_if (fun _ => fv_fX8_putMeant_256 h) (fun _ => zpc_if (fun _ => zpc_bu (fv_fX8_putPair h) (fun σ11 hσ11 => fv_fX8_putMeant_275 hσ11)) (fun _ => zpc_if (fun _ => zpc_bu (fv_fX8_putPair h) (fun σ12 hσ12 => fv_fX8_putMeant_275 hσ12)) (fun _ => zpc_if (fun _ => fv_fX8_putMeant_256 h) (fun _ => zpc_if (fun _ => fv_fX8_putMeant_256 h) (fun _ => zpc_if (fun _ => zpc_bu (fv_fX8_putTurned h) (fun σ13 hσ13 => fv_fX8_putMeant_275 hσ13)) (fun _ => zpc_if (fun _ => fv_fX8_putMeant_256 h) (fun _ => zpc_if (fun _ => zpc_bu (fv_fX8_putByte h) (fun σ14 hσ14 => fv_fX8_putMeant_275 hσ14)) (fun _ => zpc_if (fun _ => zpc_bi (fv_fX8_take h) (fun σ15 v16 hσ15 => zpc_bi (fv_fX8_take hσ15) (fun σ17 v18 hσ17 => zpc_bu (fv_fX8_putWord hσ17) (fun σ19 hσ19 => fv_fX8_putMeant_275 hσ19)))) (fun _ => zpc_if (fun _ => fv_fX8_putMeant_256 h) (fun _ => zpc_if (fun _ => zpc_bu (fv_fX8_putOne h) (fun σ20 hσ20 => fv_fX8_putMeant_275 hσ20)) (fun _ => zpc_if (fun _ => zpc_bu (fv_fX8_putOne h) (fun σ21 hσ21 => fv_fX8_putMeant_275 hσ21)) (fun _ => fv_fX8_putMeant_256 h)))))))))))))))))))))))))
theorem fv_fX8_put_28 {σ0 : zSt} {k4 : zSt → Nat → Int32 → Int32 → Option (zSt)} (hk4 : ∀ (y0 : zSt) (y1 : Nat) (y2 : Int32) (y3 : Int32), (zQ [3, 5, 7, 9, 10, 11, 12, 15, 17, 19, 21, 23, 25, 27, 28, 29, 30, 32, 34, 36, 40, 42, 44, 45] [] [5, 38, 46, 48] []) σ0 y0 → zpc (k4 y0 y1 y2 y3) (fun r => (zQ [3, 5, 7, 9, 10, 11, 12, 15, 17, 19, 21, 23, 25, 27, 28, 29, 30, 32, 34, 36, 40, 42, 44, 45] [] [5, 38, 46, 48] []) σ0 (r))) {σ : zSt} {n1 : Nat} {x3 : Int32} {s0 : Int32} {s1 : Int32} (h : (zQ [3, 5, 7, 9, 10, 11, 12, 15, 17, 19, 21, 23, 25, 27, 28, 29, 30, 32, 34, 36, 40, 42, 44, 45] [] [5, 38, 46, 48] []) σ0 σ) : zpc (fX8_put_28 k4 σ n1 x3 s0 s1) (fun r => (zQ [3, 5, 7, 9, 10, 11, 12, 15, 17, 19, 21, 23, 25, 27, 28, 29, 30, 32, 34, 36, 40, 42, 44, 45] [] [5, 38, 46, 48] []) σ0 (r)) := by
  unfold fX8_put_28
  exact zpc_bv (fun v1 _ => zpc_bv (fun v2 _ => hk4 _ _ _ _ h))
theorem fv_fX8_put_110 {σ0 : zSt} {k41 : zSt → Nat → Int32 → Int32 → Int32 → Option (zSt)} (hk41 : ∀ (y0 : zSt) (y1 : Nat) (y2 : Int32) (y3 : Int32) (y4 : Int32), (zQ [3, 5, 7, 9, 10, 11, 12, 15, 17, 19, 21, 23, 25, 27, 28, 29, 30, 32, 34, 36, 40, 42, 44, 45] [] [5, 38, 46, 48] []) σ0 y0 → zpc (k41 y0 y1 y2 y3 y4) (fun r => (zQ [3, 5, 7, 9, 10, 11, 12, 15, 17, 19, 21, 23, 25, 27, 28, 29, 30, 32, 34, 36, 40, 42, 44, 45] [] [5, 38, 46, 48] []) σ0 (r))) {σ : zSt} {n1 : Nat} {x2 : Int32} {x3 : Int32} {x4 : Int32} (h : (zQ [3, 5, 7, 9, 10, 11, 12, 15, 17, 19, 21, 23, 25, 27, 28, 29, 30, 32, 34, 36, 40, 42, 44, 45] [] [5, 38, 46, 48] []) σ0 σ) : zpc (fX8_put_110 k41 σ n1 x2 x3 x4) (fun r => (zQ [3, 5, 7, 9, 10, 11, 12, 15, 17, 19, 21, 23, 25, 27, 28, 29, 30, 32, 34, 36, 40, 42, 44, 45] [] [5, 38, 46, 48] []) σ0 (r)) := by
  unfold fX8_put_110
  exact zpc_bv (fun v3 _ => hk41 _ _ _ _ _ h)
theorem fv_fX8_put_104 {σ0 : zSt} {k41 : zSt → Nat → Int32 → Int32 → Int32 → Option (zSt)} (hk41 : ∀ (y0 : zSt) (y1 : Nat) (y2 : Int32) (y3 : Int32) (y4 : Int32), (zQ [3, 5, 7, 9, 10, 11, 12, 15, 17, 19, 21, 23, 25, 27, 28, 29, 30, 32, 34, 36, 40, 42, 44, 45] [] [5, 38, 46, 48] []) σ0 y0 → zpc (k41 y0 y1 y2 y3 y4) (fun r => (zQ [3, 5, 7, 9, 10, 11, 12, 15, 17, 19, 21, 23, 25, 27, 28, 29, 30, 32, 34, 36, 40, 42, 44, 45] [] [5, 38, 46, 48] []) σ0 (r))) {σ : zSt} {n1 : Nat} {x2 : Int32} {x3 : Int32} {x4 : Int32} {x5 : Int32} (h : (zQ [3, 5, 7, 9, 10, 11, 12, 15, 17, 19, 21, 23, 25, 27, 28, 29, 30, 32, 34, 36, 40, 42, 44, 45] [] [5, 38, 46, 48] []) σ0 σ) : zpc (fX8_put_104 k41 σ n1 x2 x3 x4 x5) (fun r => (zQ [3, 5, 7, 9, 10, 11, 12, 15, 17, 19, 21, 23, 25, 27, 28, 29, 30, 32, 34, 36, 40, 42, 44, 45] [] [5, 38, 46, 48] []) σ0 (r)) := by
  unfold fX8_put_104
  exact zpc_bu (fv_fX8_putSign h) (fun σ4 hσ4 => fv_fX8_put_110 hk41 hσ4)
theorem fv_fX8_put_41_body {σ0 : zSt} {k41 : zSt → Nat → Int32 → Int32 → Int32 → Option (zSt)} (hk41 : ∀ (y0 : zSt) (y1 : Nat) (y2 : Int32) (y3 : Int32) (y4 : Int32), (zQ [3, 5, 7, 9, 10, 11, 12, 15, 17, 19, 21, 23, 25, 27, 28, 29, 30, 32, 34, 36, 40, 42, 44, 45] [] [5, 38, 46, 48] []) σ0 y0 → zpc (k41 y0 y1 y2 y3 y4) (fun r => (zQ [3, 5, 7, 9, 10, 11, 12, 15, 17, 19, 21, 23, 25, 27, 28, 29, 30, 32, 34, 36, 40, 42, 44, 45] [] [5, 38, 46, 48] []) σ0 (r))) {σ : zSt} {n1 : Nat} {x2 : Int32} {x3 : Int32} {x4 : Int32} (h : (zQ [3, 5, 7, 9, 10, 11, 12, 15, 17, 19, 21, 23, 25, 27, 28, 29, 30, 32, 34, 36, 40, 42, 44, 45] [] [5, 38, 46, 48] []) σ0 σ) : zpc (fX8_put_41_body k41 σ n1 x2 x3 x4) (fun r => (zQ [3, 5, 7, 9, 10, 11, 12, 15, 17, 19, 21, 23, 25, 27, 28, 29, 30, 32, 34, 36, 40, 42, 44, 45] [] [5, 38, 46, 48] []) σ0 (r)) := by
  unfold fX8_put_41_body
  exact zpc_ck (zpc_if (fun _ => zpc_some h) (fun _ => zpc_ck (zpc_ck (zpc_bv (fun v5 _ => zpc_if (fun _ => zpc_bv (fun v7 _ => fv_fX8_put_110 hk41 h)) (fun _ => zpc_ck (zpc_if (fun _ => zpc_if (fun _ => fv_fX8_put_104 hk41 h) (fun _ => zpc_if (fun _ => fv_fX8_put_104 hk41 h) (fun _ => zpc_bu (fv_fX8_putMeant h) (fun σ6 hσ6 => fv_fX8_put_110 hk41 hσ6)))) (fun _ => fv_fX8_put_110 hk41 h))))))))
theorem fv_fX8_put_41 {σ0 : zSt} : ∀ (n : Nat) (y0 : zSt) (y1 : Nat) (y2 : Int32) (y3 : Int32) (y4 : Int32), (zQ [3, 5, 7, 9, 10, 11, 12, 15, 17, 19, 21, 23, 25, 27, 28, 29, 30, 32, 34, 36, 40, 42, 44, 45] [] [5, 38, 46, 48] []) σ0 y0 → zpc (fX8_put_41 n y0 y1 y2 y3 y4) (fun r => (zQ [3, 5, 7, 9, 10, 11, 12, 15, 17, 19, 21, 23, 25, 27, 28, 29, 30, 32, 34, 36, 40, 42, 44, 45] [] [5, 38, 46, 48] []) σ0 (r)) := by
  intro n
  induction n with
  | zero => intro y0 y1 y2 y3 y4 h; exact zpc_none
  | succ n ih => intro y0 y1 y2 y3 y4 h; exact fv_fX8_put_41_body ih h
theorem fv_fX8_put_4_body {σ0 : zSt} {k4 : zSt → Nat → Int32 → Int32 → Option (zSt)} (hk4 : ∀ (y0 : zSt) (y1 : Nat) (y2 : Int32) (y3 : Int32), (zQ [3, 5, 7, 9, 10, 11, 12, 15, 17, 19, 21, 23, 25, 27, 28, 29, 30, 32, 34, 36, 40, 42, 44, 45] [] [5, 38, 46, 48] []) σ0 y0 → zpc (k4 y0 y1 y2 y3) (fun r => (zQ [3, 5, 7, 9, 10, 11, 12, 15, 17, 19, 21, 23, 25, 27, 28, 29, 30, 32, 34, 36, 40, 42, 44, 45] [] [5, 38, 46, 48] []) σ0 (r))) {σ : zSt} {n1 : Nat} {x2 : Int32} {x3 : Int32} (h : (zQ [3, 5, 7, 9, 10, 11, 12, 15, 17, 19, 21, 23, 25, 27, 28, 29, 30, 32, 34, 36, 40, 42, 44, 45] [] [5, 38, 46, 48] []) σ0 σ) : zpc (fX8_put_4_body k4 σ n1 x2 x3) (fun r => (zQ [3, 5, 7, 9, 10, 11, 12, 15, 17, 19, 21, 23, 25, 27, 28, 29, 30, 32, 34, 36, 40, 42, 44, 45] [] [5, 38, 46, 48] []) σ0 (r)) := by
  unfold fX8_put_4_body
  exact zpc_ck (zpc_if (fun _ => fv_fX8_put_41 _ _ _ _ _ _ h) (fun _ => zpc_ck (zpc_ck (zpc_if (fun _ => fv_fX8_put_28 hk4 h) (fun _ => fv_fX8_put_28 hk4 h)))))
theorem fv_fX8_put_4 {σ0 : zSt} : ∀ (n : Nat) (y0 : zSt) (y1 : Nat) (y2 : Int32) (y3 : Int32), (zQ [3, 5, 7, 9, 10, 11, 12, 15, 17, 19, 21, 23, 25, 27, 28, 29, 30, 32, 34, 36, 40, 42, 44, 45] [] [5, 38, 46, 48] []) σ0 y0 → zpc (fX8_put_4 n y0 y1 y2 y3) (fun r => (zQ [3, 5, 7, 9, 10, 11, 12, 15, 17, 19, 21, 23, 25, 27, 28, 29, 30, 32, 34, 36, 40, 42, 44, 45] [] [5, 38, 46, 48] []) σ0 (r)) := by
  intro n
  induction n with
  | zero => intro y0 y1 y2 y3 h; exact zpc_none
  | succ n ih => intro y0 y1 y2 y3 h; exact fv_fX8_put_4_body ih h
theorem fv_fX8_put {σ0 : zSt} {σ : zSt} {n1 : Nat} (h : (zQ [3, 5, 7, 9, 10, 11, 12, 15, 17, 19, 21, 23, 25, 27, 28, 29, 30, 32, 34, 36, 40, 42, 44, 45] [] [5, 38, 46, 48] []) σ0 σ) : zpc (fX8_put σ n1) (fun r => (zQ [3, 5, 7, 9, 10, 11, 12, 15, 17, 19, 21, 23, 25, 27, 28, 29, 30, 32, 34, 36, 40, 42, 44, 45] [] [5, 38, 46, 48] []) σ0 (r)) := by
  unfold fX8_put
  exact fv_fX8_put_4 _ _ _ _ _ h
theorem fv_fX8_split {σ0 : zSt} {σ : zSt} {x1 : Int32} (h : (zQ [3, 5, 7, 9, 10, 11, 12, 15, 17, 19, 21, 23, 25, 27, 28, 29, 30, 32, 34, 36, 40, 42, 44, 45] [] [5, 38, 46, 48] []) σ0 σ) : zpc (fX8_split σ x1) (fun r => (zQ [3, 5, 7, 9, 10, 11, 12, 15, 17, 19, 21, 23, 25, 27, 28, 29, 30, 32, 34, 36, 40, 42, 44, 45] [] [5, 38, 46, 48] []) σ0 (r)) := by
  unfold fX8_split
  exact zpc_bs (zQ.wi h rfl) (fun σ1 hσ1 => zpc_bs (zQ.wi hσ1 rfl) (fun σ2 hσ2 => zpc_bs (zQ.wi hσ2 rfl) (fun σ3 hσ3 => zpc_some hσ3)))
theorem fv_fX8_turnPatterns {σ0 : zSt} {σ : zSt} (h : (zQ [3, 5, 7, 9, 10, 11, 12, 15, 17, 19, 21, 23, 25, 27, 28, 29, 30, 32, 34, 36, 40, 42, 44, 45] [] [5, 38, 46, 48] []) σ0 σ) : zpc (fX8_turnPatterns σ) (fun r => (zQ [3, 5, 7, 9, 10, 11, 12, 15, 17, 19, 21, 23, 25, 27, 28, 29, 30, 32, 34, 36, 40, 42, 44, 45] [] [5, 38, 46, 48] []) σ0 (r.1)) := by
  unfold fX8_turnPatterns
  exact zpc_if (fun _ => zpc_some h) (fun _ => zpc_if (fun _ => zpc_some h) (fun _ => zpc_if (fun _ => zpc_some h) (fun _ => zpc_some h)))
theorem fv_fX8_blockPatterns_17 {σ0 : zSt} {σ : zSt} {s0 : Int32} (h : (zQ [3, 5, 7, 9, 10, 11, 12, 15, 17, 19, 21, 23, 25, 27, 28, 29, 30, 32, 34, 36, 40, 42, 44, 45] [] [5, 38, 46, 48] []) σ0 σ) : zpc (fX8_blockPatterns_17 σ s0) (fun r => (zQ [3, 5, 7, 9, 10, 11, 12, 15, 17, 19, 21, 23, 25, 27, 28, 29, 30, 32, 34, 36, 40, 42, 44, 45] [] [5, 38, 46, 48] []) σ0 (r.1)) := by
  unfold fX8_blockPatterns_17
  exact zpc_if (fun _ => zpc_some h) (fun _ => zpc_if (fun _ => zpc_some h) (fun _ => zpc_if (fun _ => zpc_some h) (fun _ => zpc_if (fun _ => zpc_some h) (fun _ => zpc_some h))))
theorem fv_fX8_blockPatterns {σ0 : zSt} {σ : zSt} (h : (zQ [3, 5, 7, 9, 10, 11, 12, 15, 17, 19, 21, 23, 25, 27, 28, 29, 30, 32, 34, 36, 40, 42, 44, 45] [] [5, 38, 46, 48] []) σ0 σ) : zpc (fX8_blockPatterns σ) (fun r => (zQ [3, 5, 7, 9, 10, 11, 12, 15, 17, 19, 21, 23, 25, 27, 28, 29, 30, 32, 34, 36, 40, 42, 44, 45] [] [5, 38, 46, 48] []) σ0 (r.1)) := by
  unfold fX8_blockPatterns
  exact zpc_if (fun _ => fv_fX8_blockPatterns_17 h) (fun _ => fv_fX8_blockPatterns_17 h)
theorem fv_fX8_morePatterns_114 {σ0 : zSt} {σ : zSt} {s0 : Nat} (h : (zQ [3, 5, 7, 9, 10, 11, 12, 15, 17, 19, 21, 23, 25, 27, 28, 29, 30, 32, 34, 36, 40, 42, 44, 45] [] [5, 38, 46, 48] []) σ0 σ) : zpc (fX8_morePatterns_114 σ s0) (fun r => (zQ [3, 5, 7, 9, 10, 11, 12, 15, 17, 19, 21, 23, 25, 27, 28, 29, 30, 32, 34, 36, 40, 42, 44, 45] [] [5, 38, 46, 48] []) σ0 (r.1)) := by
  unfold fX8_morePatterns_114
  exact zpc_some h
theorem fv_fX8_morePatterns_89 {σ0 : zSt} {σ : zSt} {s0 : Nat} (h : (zQ [3, 5, 7, 9, 10, 11, 12, 15, 17, 19, 21, 23, 25, 27, 28, 29, 30, 32, 34, 36, 40, 42, 44, 45] [] [5, 38, 46, 48] []) σ0 σ) : zpc (fX8_morePatterns_89 σ s0) (fun r => (zQ [3, 5, 7, 9, 10, 11, 12, 15, 17, 19, 21, 23, 25, 27, 28, 29, 30, 32, 34, 36, 40, 42, 44, 45] [] [5, 38, 46, 48] []) σ0 (r.1)) := by
  unfold fX8_morePatterns_89
  exact zpc_some h
theorem fv_fX8_morePatterns_72 {σ0 : zSt} {σ : zSt} {s0 : Nat} (h : (zQ [3, 5, 7, 9, 10, 11, 12, 15, 17, 19, 21, 23, 25, 27, 28, 29, 30, 32, 34, 36, 40, 42, 44, 45] [] [5, 38, 46, 48] []) σ0 σ) : zpc (fX8_morePatterns_72 σ s0) (fun r => (zQ [3, 5, 7, 9, 10, 11, 12, 15, 17, 19, 21, 23, 25, 27, 28, 29, 30, 32, 34, 36, 40, 42, 44, 45] [] [5, 38, 46, 48] []) σ0 (r.1)) := by
  unfold fX8_morePatterns_72
  exact zpc_some h
theorem fv_fX8_morePatterns {σ0 : zSt} {σ : zSt} (h : (zQ [3, 5, 7, 9, 10, 11, 12, 15, 17, 19, 21, 23, 25, 27, 28, 29, 30, 32, 34, 36, 40, 42, 44, 45] [] [5, 38, 46, 48] []) σ0 σ) : zpc (fX8_morePatterns σ) (fun r => (zQ [3, 5, 7, 9, 10, 11, 12, 15, 17, 19, 21, 23, 25, 27, 28, 29, 30, 32, 34, 36, 40, 42, 44, 45] [] [5, 38, 46, 48] []) σ0 (r.1)) := by
  unfold fX8_morePatterns
  exact zpc_if (fun _ => zpc_if (fun _ => zpc_if (fun _ => fv_fX8_morePatterns_72 h) (fun _ => fv_fX8_morePatterns_72 h)) (fun _ => zpc_if (fun _ => zpc_if (fun _ => fv_fX8_morePatterns_89 h) (fun _ => fv_fX8_morePatterns_89 h)) (fun _ => zpc_if (fun _ => zpc_some h) (fun _ => zpc_if (fun _ => zpc_some h) (fun _ => zpc_if (fun _ => zpc_some h) (fun _ => zpc_if (fun _ => zpc_if (fun _ => fv_fX8_morePatterns_114 h) (fun _ => fv_fX8_morePatterns_114 h)) (fun _ => zpc_if (fun _ => zpc_some h) (fun _ => zpc_some h)))))))) (fun _ => zpc_some h)
theorem fv_fX8_lastPatterns {σ0 : zSt} {σ : zSt} (h : (zQ [3, 5, 7, 9, 10, 11, 12, 15, 17, 19, 21, 23, 25, 27, 28, 29, 30, 32, 34, 36, 40, 42, 44, 45] [] [5, 38, 46, 48] []) σ0 σ) : zpc (fX8_lastPatterns σ) (fun r => (zQ [3, 5, 7, 9, 10, 11, 12, 15, 17, 19, 21, 23, 25, 27, 28, 29, 30, 32, 34, 36, 40, 42, 44, 45] [] [5, 38, 46, 48] []) σ0 (r.1)) := by
  unfold fX8_lastPatterns
  exact zpc_if (fun _ => zpc_some h) (fun _ => zpc_if (fun _ => zpc_some h) (fun _ => zpc_if (fun _ => zpc_some h) (fun _ => zpc_if (fun _ => zpc_some h) (fun _ => zpc_if (fun _ => zpc_some h) (fun _ => zpc_if (fun _ => zpc_some h) (fun _ => zpc_if (fun _ => zpc_some h) (fun _ => zpc_some h)))))))
theorem fv_fX8_firstPatterns {σ0 : zSt} {σ : zSt} (h : (zQ [3, 5, 7, 9, 10, 11, 12, 15, 17, 19, 21, 23, 25, 27, 28, 29, 30, 32, 34, 36, 40, 42, 44, 45] [] [5, 38, 46, 48] []) σ0 σ) : zpc (fX8_firstPatterns σ) (fun r => (zQ [3, 5, 7, 9, 10, 11, 12, 15, 17, 19, 21, 23, 25, 27, 28, 29, 30, 32, 34, 36, 40, 42, 44, 45] [] [5, 38, 46, 48] []) σ0 (r.1)) := by
  unfold fX8_firstPatterns
  exact zpc_if (fun _ => zpc_some h) (fun _ => zpc_if (fun _ => zpc_some h) (fun _ => zpc_if (fun _ => zpc_some h) (fun _ => zpc_if (fun _ => zpc_some h) (fun _ => zpc_if (fun _ => zpc_some h) (fun _ => zpc_if (fun _ => zpc_some h) (fun _ => zpc_if (fun _ => zpc_some h) (fun _ => zpc_some h)))))))
theorem fv_fX8_patternsOf_23 {σ0 : zSt} {σ : zSt} {s0 : Int32} (h : (zQ [3, 5, 7, 9, 10, 11, 12, 15, 17, 19, 21, 23, 25, 27, 28, 29, 30, 32, 34, 36, 40, 42, 44, 45] [] [5, 38, 46, 48] []) σ0 σ) : zpc (fX8_patternsOf_23 σ s0) (fun r => (zQ [3, 5, 7, 9, 10, 11, 12, 15, 17, 19, 21, 23, 25, 27, 28, 29, 30, 32, 34, 36, 40, 42, 44, 45] [] [5, 38, 46, 48] []) σ0 (r.1)) := by
  unfold fX8_patternsOf_23
  exact zpc_bs (zQ.wi h rfl) (fun σ1 hσ1 => zpc_bi (fv_fX8_take hσ1) (fun σ2 v3 hσ2 => zpc_bu (fv_fX8_split hσ2) (fun σ4 hσ4 => zpc_bk (fv_fX8_turnPatterns hσ4) (fun σ5 v6 hσ5 => zpc_some hσ5))))
theorem fv_fX8_patternsOf_73 {σ0 : zSt} {σ : zSt} {s0 : Nat} (h : (zQ [3, 5, 7, 9, 10, 11, 12, 15, 17, 19, 21, 23, 25, 27, 28, 29, 30, 32, 34, 36, 40, 42, 44, 45] [] [5, 38, 46, 48] []) σ0 σ) : zpc (fX8_patternsOf_73 σ s0) (fun r => (zQ [3, 5, 7, 9, 10, 11, 12, 15, 17, 19, 21, 23, 25, 27, 28, 29, 30, 32, 34, 36, 40, 42, 44, 45] [] [5, 38, 46, 48] []) σ0 (r.1)) := by
  unfold fX8_patternsOf_73
  exact zpc_some h
theorem fv_fX8_patternsOf_126 {σ0 : zSt} {σ : zSt} {s0 : Nat} (h : (zQ [3, 5, 7, 9, 10, 11, 12, 15, 17, 19, 21, 23, 25, 27, 28, 29, 30, 32, 34, 36, 40, 42, 44, 45] [] [5, 38, 46, 48] []) σ0 σ) : zpc (fX8_patternsOf_126 σ s0) (fun r => (zQ [3, 5, 7, 9, 10, 11, 12, 15, 17, 19, 21, 23, 25, 27, 28, 29, 30, 32, 34, 36, 40, 42, 44, 45] [] [5, 38, 46, 48] []) σ0 (r.1)) := by
  unfold fX8_patternsOf_126
  exact zpc_some h
theorem fv_fX8_patternsOf {σ0 : zSt} {σ : zSt} {x1 : Int32} (h : (zQ [3, 5, 7, 9, 10, 11, 12, 15, 17, 19, 21, 23, 25, 27, 28, 29, 30, 32, 34, 36, 40, 42, 44, 45] [] [5, 38, 46, 48] []) σ0 σ) : zpc (fX8_patternsOf σ x1) (fun r => (zQ [3, 5, 7, 9, 10, 11, 12, 15, 17, 19, 21, 23, 25, 27, 28, 29, 30, 32, 34, 36, 40, 42, 44, 45] [] [5, 38, 46, 48] []) σ0 (r.1)) := by
  unfold fX8_patternsOf
  exact zpc_if (fun _ => zpc_if (fun _ => fv_fX8_patternsOf_23 h) (fun _ => zpc_bi (fv_fX8_take h) (fun σ19 v20 hσ19 => fv_fX8_patternsOf_23 hσ19))) (fun _ => zpc_if (fun _ => zpc_bi (fv_fX8_take h) (fun σ12 v13 hσ12 => zpc_bu (fv_fX8_split hσ12) (fun σ14 hσ14 => zpc_if (fun _ => zpc_bk (fv_fX8_blockPatterns hσ14) (fun σ17 v18 hσ17 => fv_fX8_patternsOf_73 hσ17)) (fun _ => zpc_bk (fv_fX8_morePatterns hσ14) (fun σ15 v16 hσ15 => fv_fX8_patternsOf_73 hσ15))))) (fun _ => zpc_bu (fv_fX8_split h) (fun σ7 hσ7 => zpc_if (fun _ => zpc_bk (fv_fX8_firstPatterns hσ7) (fun σ8 v9 hσ8 => zpc_some hσ8)) (fun _ => zpc_if (fun _ => zpc_if (fun _ => fv_fX8_patternsOf_126 hσ7) (fun _ => fv_fX8_patternsOf_126 hσ7)) (fun _ => zpc_if (fun _ => zpc_some hσ7) (fun _ => zpc_bk (fv_fX8_lastPatterns hσ7) (fun σ10 v11 hσ10 => zpc_some hσ10)))))))
theorem fv_fX8_write_82 {σ0 : zSt} {σ : zSt} (h : (zQ [3, 5, 7, 9, 10, 11, 12, 15, 17, 19, 21, 23, 25, 27, 28, 29, 30, 32, 34, 36, 40, 42, 44, 45] [] [5, 38, 46, 48] []) σ0 σ) : zpc (fX8_write_82 σ) (fun r => (zQ [3, 5, 7, 9, 10, 11, 12, 15, 17, 19, 21, 23, 25, 27, 28, 29, 30, 32, 34, 36, 40, 42, 44, 45] [] [5, 38, 46, 48] []) σ0 (r.1)) := by
  unfold fX8_write_82
  exact zpc_bu (fv_fX8_put h) (fun σ1 hσ1 => zpc_some hσ1)
theorem fv_fX8_write_124 {σ0 : zSt} {σ : zSt} {x2 : Int32} (h : (zQ [3, 5, 7, 9, 10, 11, 12, 15, 17, 19, 21, 23, 25, 27, 28, 29, 30, 32, 34, 36, 40, 42, 44, 45] [] [5, 38, 46, 48] []) σ0 σ) : zpc (fX8_write_124 σ x2) (fun r => (zQ [3, 5, 7, 9, 10, 11, 12, 15, 17, 19, 21, 23, 25, 27, 28, 29, 30, 32, 34, 36, 40, 42, 44, 45] [] [5, 38, 46, 48] []) σ0 (r.1)) := by
  unfold fX8_write_124
  exact zpc_bk (fv_fX8_patternsOf h) (fun σ2 v3 hσ2 => zpc_bu (fv_fX8_put hσ2) (fun σ4 hσ4 => zpc_some hσ4))
theorem fv_fX8_write_108 {σ0 : zSt} {σ : zSt} {s0 : Int32} (h : (zQ [3, 5, 7, 9, 10, 11, 12, 15, 17, 19, 21, 23, 25, 27, 28, 29, 30, 32, 34, 36, 40, 42, 44, 45] [] [5, 38, 46, 48] []) σ0 σ) : zpc (fX8_write_108 σ s0) (fun r => (zQ [3, 5, 7, 9, 10, 11, 12, 15, 17, 19, 21, 23, 25, 27, 28, 29, 30, 32, 34, 36, 40, 42, 44, 45] [] [5, 38, 46, 48] []) σ0 (r.1)) := by
  unfold fX8_write_108
  exact zpc_bs (zQ.wi h rfl) (fun σ5 hσ5 => zpc_bi (fv_fX8_take hσ5) (fun σ6 v7 hσ6 => zpc_bi (fv_fX5_meansPlace hσ6) (fun σ8 v9 hσ8 => zpc_ck (zpc_bs (zQ.wi hσ8 rfl) (fun σ10 hσ10 => fv_fX8_write_124 hσ10)))))
theorem fv_fX8_write_47 {σ0 : zSt} {σ : zSt} {x2 : Int32} (h : (zQ [3, 5, 7, 9, 10, 11, 12, 15, 17, 19, 21, 23, 25, 27, 28, 29, 30, 32, 34, 36, 40, 42, 44, 45] [] [5, 38, 46, 48] []) σ0 σ) : zpc (fX8_write_47 σ x2) (fun r => (zQ [3, 5, 7, 9, 10, 11, 12, 15, 17, 19, 21, 23, 25, 27, 28, 29, 30, 32, 34, 36, 40, 42, 44, 45] [] [5, 38, 46, 48] []) σ0 (r.1)) := by
  unfold fX8_write_47
  exact zpc_bi (fv_fX2_read h) (fun σ11 v12 hσ11 => zpc_if (fun _ => fv_fX8_write_82 hσ11) (fun _ => zpc_if (fun _ => fv_fX8_write_82 hσ11) (fun _ => zpc_if (fun _ => fv_fX8_write_82 hσ11) (fun _ => zpc_if (fun _ => fv_fX8_write_108 hσ11) (fun _ => fv_fX8_write_108 hσ11)))))
theorem fv_fX8_write {σ0 : zSt} {σ : zSt} {x1 : Int32} (h : (zQ [3, 5, 7, 9, 10, 11, 12, 15, 17, 19, 21, 23, 25, 27, 28, 29, 30, 32, 34, 36, 40, 42, 44, 45] [] [5, 38, 46, 48] []) σ0 σ) : zpc (fX8_write σ x1) (fun r => (zQ [3, 5, 7, 9, 10, 11, 12, 15, 17, 19, 21, 23, 25, 27, 28, 29, 30, 32, 34, 36, 40, 42, 44, 45] [] [5, 38, 46, 48] []) σ0 (r.1)) := by
  unfold fX8_write
  exact zpc_bs (zQ.wi h rfl) (fun σ13 hσ13 => zpc_bs (zQ.wi hσ13 rfl) (fun σ14 hσ14 => zpc_bs (zQ.wi hσ14 rfl) (fun σ15 hσ15 => zpc_bs (zQ.wi hσ15 rfl) (fun σ16 hσ16 => zpc_ck (zpc_bs (zQ.wi hσ16 rfl) (fun σ17 hσ17 => zpc_bi (fv_fX8_take hσ17) (fun σ18 v19 hσ18 => zpc_if (fun _ => fv_fX8_write_47 hσ18) (fun _ => zpc_if (fun _ => fv_fX8_write_47 hσ18) (fun _ => fv_fX8_write_124 hσ18)))))))))
theorem fv_fX8_eightFrom_39 {σ0 : zSt} {k6 : zSt → Int32 → Int64 → Int32 → Option (zSt × Int64)} (hk6 : ∀ (y0 : zSt) (y1 : Int32) (y2 : Int64) (y3 : Int32), (zQ [3, 5, 7, 9, 10, 11, 12, 15, 17, 19, 21, 23, 25, 27, 28, 29, 30, 32, 34, 36, 40, 42, 44, 45] [] [5, 38, 46, 48] []) σ0 y0 → zpc (k6 y0 y1 y2 y3) (fun r => (zQ [3, 5, 7, 9, 10, 11, 12, 15, 17, 19, 21, 23, 25, 27, 28, 29, 30, 32, 34, 36, 40, 42, 44, 45] [] [5, 38, 46, 48] []) σ0 (r.1))) {σ : zSt} {x1 : Int32} {x2 : Int64} {x4 : Int32} {s0 : Int32} (h : (zQ [3, 5, 7, 9, 10, 11, 12, 15, 17, 19, 21, 23, 25, 27, 28, 29, 30, 32, 34, 36, 40, 42, 44, 45] [] [5, 38, 46, 48] []) σ0 σ) : zpc (fX8_eightFrom_39 k6 σ x1 x2 x4 s0) (fun r => (zQ [3, 5, 7, 9, 10, 11, 12, 15, 17, 19, 21, 23, 25, 27, 28, 29, 30, 32, 34, 36, 40, 42, 44, 45] [] [5, 38, 46, 48] []) σ0 (r.1)) := by
  unfold fX8_eightFrom_39
  exact zpc_bv (fun v1 _ => zpc_bv (fun v2 _ => hk6 _ _ _ _ h))
theorem fv_fX8_eightFrom_38 {σ0 : zSt} {k6 : zSt → Int32 → Int64 → Int32 → Option (zSt × Int64)} (hk6 : ∀ (y0 : zSt) (y1 : Int32) (y2 : Int64) (y3 : Int32), (zQ [3, 5, 7, 9, 10, 11, 12, 15, 17, 19, 21, 23, 25, 27, 28, 29, 30, 32, 34, 36, 40, 42, 44, 45] [] [5, 38, 46, 48] []) σ0 y0 → zpc (k6 y0 y1 y2 y3) (fun r => (zQ [3, 5, 7, 9, 10, 11, 12, 15, 17, 19, 21, 23, 25, 27, 28, 29, 30, 32, 34, 36, 40, 42, 44, 45] [] [5, 38, 46, 48] []) σ0 (r.1))) {σ : zSt} {x1 : Int32} {x2 : Int64} {x4 : Int32} (h : (zQ [3, 5, 7, 9, 10, 11, 12, 15, 17, 19, 21, 23, 25, 27, 28, 29, 30, 32, 34, 36, 40, 42, 44, 45] [] [5, 38, 46, 48] []) σ0 σ) : zpc (fX8_eightFrom_38 k6 σ x1 x2 x4) (fun r => (zQ [3, 5, 7, 9, 10, 11, 12, 15, 17, 19, 21, 23, 25, 27, 28, 29, 30, 32, 34, 36, 40, 42, 44, 45] [] [5, 38, 46, 48] []) σ0 (r.1)) := by
  unfold fX8_eightFrom_38
  exact fv_fX8_eightFrom_39 hk6 h
theorem fv_fX8_eightFrom_6_body {σ0 : zSt} {k6 : zSt → Int32 → Int64 → Int32 → Option (zSt × Int64)} (hk6 : ∀ (y0 : zSt) (y1 : Int32) (y2 : Int64) (y3 : Int32), (zQ [3, 5, 7, 9, 10, 11, 12, 15, 17, 19, 21, 23, 25, 27, 28, 29, 30, 32, 34, 36, 40, 42, 44, 45] [] [5, 38, 46, 48] []) σ0 y0 → zpc (k6 y0 y1 y2 y3) (fun r => (zQ [3, 5, 7, 9, 10, 11, 12, 15, 17, 19, 21, 23, 25, 27, 28, 29, 30, 32, 34, 36, 40, 42, 44, 45] [] [5, 38, 46, 48] []) σ0 (r.1))) {σ : zSt} {x1 : Int32} {x2 : Int64} {x4 : Int32} (h : (zQ [3, 5, 7, 9, 10, 11, 12, 15, 17, 19, 21, 23, 25, 27, 28, 29, 30, 32, 34, 36, 40, 42, 44, 45] [] [5, 38, 46, 48] []) σ0 σ) : zpc (fX8_eightFrom_6_body k6 σ x1 x2 x4) (fun r => (zQ [3, 5, 7, 9, 10, 11, 12, 15, 17, 19, 21, 23, 25, 27, 28, 29, 30, 32, 34, 36, 40, 42, 44, 45] [] [5, 38, 46, 48] []) σ0 (r.1)) := by
  unfold fX8_eightFrom_6_body
  exact zpc_if (fun _ => zpc_some h) (fun _ => zpc_if (fun _ => fv_fX8_eightFrom_38 hk6 h) (fun _ => zpc_if (fun _ => fv_fX8_eightFrom_38 hk6 h) (fun _ => zpc_ck (fv_fX8_eightFrom_39 hk6 h))))
theorem fv_fX8_eightFrom_6 {σ0 : zSt} : ∀ (n : Nat) (y0 : zSt) (y1 : Int32) (y2 : Int64) (y3 : Int32), (zQ [3, 5, 7, 9, 10, 11, 12, 15, 17, 19, 21, 23, 25, 27, 28, 29, 30, 32, 34, 36, 40, 42, 44, 45] [] [5, 38, 46, 48] []) σ0 y0 → zpc (fX8_eightFrom_6 n y0 y1 y2 y3) (fun r => (zQ [3, 5, 7, 9, 10, 11, 12, 15, 17, 19, 21, 23, 25, 27, 28, 29, 30, 32, 34, 36, 40, 42, 44, 45] [] [5, 38, 46, 48] []) σ0 (r.1)) := by
  intro n
  induction n with
  | zero => intro y0 y1 y2 y3 h; exact zpc_none
  | succ n ih => intro y0 y1 y2 y3 h; exact fv_fX8_eightFrom_6_body ih h
theorem fv_fX8_eightFrom {σ0 : zSt} {σ : zSt} {x1 : Int32} (h : (zQ [3, 5, 7, 9, 10, 11, 12, 15, 17, 19, 21, 23, 25, 27, 28, 29, 30, 32, 34, 36, 40, 42, 44, 45] [] [5, 38, 46, 48] []) σ0 σ) : zpc (fX8_eightFrom σ x1) (fun r => (zQ [3, 5, 7, 9, 10, 11, 12, 15, 17, 19, 21, 23, 25, 27, 28, 29, 30, 32, 34, 36, 40, 42, 44, 45] [] [5, 38, 46, 48] []) σ0 (r.1)) := by
  unfold fX8_eightFrom
  exact fv_fX8_eightFrom_6 _ _ _ _ _ h
theorem fv_fJ7_fill_53178_k21_5_body {σ0 : zSt} {k5 : zSt → Int32 → Int32 → Int32 → Option (zSt)} (hk5 : ∀ (y0 : zSt) (y1 : Int32) (y2 : Int32) (y3 : Int32), (zQ [3, 5, 7, 9, 10, 11, 12, 15, 17, 19, 21, 23, 25, 27, 28, 29, 30, 32, 34, 36, 40, 42, 44, 45] [] [5, 38, 46, 48] []) σ0 y0 → zpc (k5 y0 y1 y2 y3) (fun r => (zQ [3, 5, 7, 9, 10, 11, 12, 15, 17, 19, 21, 23, 25, 27, 28, 29, 30, 32, 34, 36, 40, 42, 44, 45] [] [5, 38, 46, 48] []) σ0 (r))) {σ : zSt} {x1 : Int32} {x2 : Int32} {x3 : Int32} (h : (zQ [3, 5, 7, 9, 10, 11, 12, 15, 17, 19, 21, 23, 25, 27, 28, 29, 30, 32, 34, 36, 40, 42, 44, 45] [] [5, 38, 46, 48] []) σ0 σ) : zpc (fJ7_fill_53178_k21_5_body k5 σ x1 x2 x3) (fun r => (zQ [3, 5, 7, 9, 10, 11, 12, 15, 17, 19, 21, 23, 25, 27, 28, 29, 30, 32, 34, 36, 40, 42, 44, 45] [] [5, 38, 46, 48] []) σ0 (r)) := by
  unfold fJ7_fill_53178_k21_5_body
  exact zpc_if (fun _ => zpc_some h) (fun _ => zpc_ck (zpc_bs (zQ.wi h rfl) (fun σ1 hσ1 => zpc_bv (fun v2 _ => hk5 _ _ _ _ hσ1))))
theorem fv_fJ7_fill_53178_k21_5 {σ0 : zSt} : ∀ (n : Nat) (y0 : zSt) (y1 : Int32) (y2 : Int32) (y3 : Int32), (zQ [3, 5, 7, 9, 10, 11, 12, 15, 17, 19, 21, 23, 25, 27, 28, 29, 30, 32, 34, 36, 40, 42, 44, 45] [] [5, 38, 46, 48] []) σ0 y0 → zpc (fJ7_fill_53178_k21_5 n y0 y1 y2 y3) (fun r => (zQ [3, 5, 7, 9, 10, 11, 12, 15, 17, 19, 21, 23, 25, 27, 28, 29, 30, 32, 34, 36, 40, 42, 44, 45] [] [5, 38, 46, 48] []) σ0 (r)) := by
  intro n
  induction n with
  | zero => intro y0 y1 y2 y3 h; exact zpc_none
  | succ n ih => intro y0 y1 y2 y3 h; exact fv_fJ7_fill_53178_k21_5_body ih h
theorem fv_fJ7_fill_53178_k21 {σ0 : zSt} {σ : zSt} {x1 : Int32} (h : (zQ [3, 5, 7, 9, 10, 11, 12, 15, 17, 19, 21, 23, 25, 27, 28, 29, 30, 32, 34, 36, 40, 42, 44, 45] [] [5, 38, 46, 48] []) σ0 σ) : zpc (fJ7_fill_53178_k21 σ x1) (fun r => (zQ [3, 5, 7, 9, 10, 11, 12, 15, 17, 19, 21, 23, 25, 27, 28, 29, 30, 32, 34, 36, 40, 42, 44, 45] [] [5, 38, 46, 48] []) σ0 (r)) := by
  unfold fJ7_fill_53178_k21
  exact fv_fJ7_fill_53178_k21_5 _ _ _ _ _ h
theorem fv_fJ7_fill_53178_k23_5_body {σ0 : zSt} {k5 : zSt → Int32 → Int32 → Int32 → Option (zSt)} (hk5 : ∀ (y0 : zSt) (y1 : Int32) (y2 : Int32) (y3 : Int32), (zQ [3, 5, 7, 9, 10, 11, 12, 15, 17, 19, 21, 23, 25, 27, 28, 29, 30, 32, 34, 36, 40, 42, 44, 45] [] [5, 38, 46, 48] []) σ0 y0 → zpc (k5 y0 y1 y2 y3) (fun r => (zQ [3, 5, 7, 9, 10, 11, 12, 15, 17, 19, 21, 23, 25, 27, 28, 29, 30, 32, 34, 36, 40, 42, 44, 45] [] [5, 38, 46, 48] []) σ0 (r))) {σ : zSt} {x1 : Int32} {x2 : Int32} {x3 : Int32} (h : (zQ [3, 5, 7, 9, 10, 11, 12, 15, 17, 19, 21, 23, 25, 27, 28, 29, 30, 32, 34, 36, 40, 42, 44, 45] [] [5, 38, 46, 48] []) σ0 σ) : zpc (fJ7_fill_53178_k23_5_body k5 σ x1 x2 x3) (fun r => (zQ [3, 5, 7, 9, 10, 11, 12, 15, 17, 19, 21, 23, 25, 27, 28, 29, 30, 32, 34, 36, 40, 42, 44, 45] [] [5, 38, 46, 48] []) σ0 (r)) := by
  unfold fJ7_fill_53178_k23_5_body
  exact zpc_if (fun _ => zpc_some h) (fun _ => zpc_ck (zpc_bs (zQ.wi h rfl) (fun σ1 hσ1 => zpc_bv (fun v2 _ => hk5 _ _ _ _ hσ1))))
theorem fv_fJ7_fill_53178_k23_5 {σ0 : zSt} : ∀ (n : Nat) (y0 : zSt) (y1 : Int32) (y2 : Int32) (y3 : Int32), (zQ [3, 5, 7, 9, 10, 11, 12, 15, 17, 19, 21, 23, 25, 27, 28, 29, 30, 32, 34, 36, 40, 42, 44, 45] [] [5, 38, 46, 48] []) σ0 y0 → zpc (fJ7_fill_53178_k23_5 n y0 y1 y2 y3) (fun r => (zQ [3, 5, 7, 9, 10, 11, 12, 15, 17, 19, 21, 23, 25, 27, 28, 29, 30, 32, 34, 36, 40, 42, 44, 45] [] [5, 38, 46, 48] []) σ0 (r)) := by
  intro n
  induction n with
  | zero => intro y0 y1 y2 y3 h; exact zpc_none
  | succ n ih => intro y0 y1 y2 y3 h; exact fv_fJ7_fill_53178_k23_5_body ih h
theorem fv_fJ7_fill_53178_k23 {σ0 : zSt} {σ : zSt} {x1 : Int32} (h : (zQ [3, 5, 7, 9, 10, 11, 12, 15, 17, 19, 21, 23, 25, 27, 28, 29, 30, 32, 34, 36, 40, 42, 44, 45] [] [5, 38, 46, 48] []) σ0 σ) : zpc (fJ7_fill_53178_k23 σ x1) (fun r => (zQ [3, 5, 7, 9, 10, 11, 12, 15, 17, 19, 21, 23, 25, 27, 28, 29, 30, 32, 34, 36, 40, 42, 44, 45] [] [5, 38, 46, 48] []) σ0 (r)) := by
  unfold fJ7_fill_53178_k23
  exact fv_fJ7_fill_53178_k23_5 _ _ _ _ _ h
theorem fv_fX9_clear {σ0 : zSt} {σ : zSt} (h : (zQ [3, 5, 7, 9, 10, 11, 12, 15, 17, 19, 21, 23, 25, 27, 28, 29, 30, 32, 34, 36, 40, 42, 44, 45] [] [5, 38, 46, 48] []) σ0 σ) : zpc (fX9_clear σ) (fun r => (zQ [3, 5, 7, 9, 10, 11, 12, 15, 17, 19, 21, 23, 25, 27, 28, 29, 30, 32, 34, 36, 40, 42, 44, 45] [] [5, 38, 46, 48] []) σ0 (r)) := by
  unfold fX9_clear
  exact zpc_bu (fv_fJ7_fill_53178_k21 h) (fun σ1 hσ1 => zpc_bu (fv_fJ7_fill_53178_k23 hσ1) (fun σ2 hσ2 => zpc_some hσ2))
theorem fv_fX9_has_27 {σ0 : zSt} {σ : zSt} {s0 : Int32} (h : (zQ [3, 5, 7, 9, 10, 11, 12, 15, 17, 19, 21, 23, 25, 27, 28, 29, 30, 32, 34, 36, 40, 42, 44, 45] [] [5, 38, 46, 48] []) σ0 σ) : zpc (fX9_has_27 σ s0) (fun r => (zQ [3, 5, 7, 9, 10, 11, 12, 15, 17, 19, 21, 23, 25, 27, 28, 29, 30, 32, 34, 36, 40, 42, 44, 45] [] [5, 38, 46, 48] []) σ0 (r.1)) := by
  unfold fX9_has_27
  exact zpc_ck (zpc_some h)
theorem fv_fX9_has_26 {σ0 : zSt} {σ : zSt} (h : (zQ [3, 5, 7, 9, 10, 11, 12, 15, 17, 19, 21, 23, 25, 27, 28, 29, 30, 32, 34, 36, 40, 42, 44, 45] [] [5, 38, 46, 48] []) σ0 σ) : zpc (fX9_has_26 σ) (fun r => (zQ [3, 5, 7, 9, 10, 11, 12, 15, 17, 19, 21, 23, 25, 27, 28, 29, 30, 32, 34, 36, 40, 42, 44, 45] [] [5, 38, 46, 48] []) σ0 (r.1)) := by
  unfold fX9_has_26
  exact fv_fX9_has_27 h
theorem fv_fX9_has_22 {σ0 : zSt} {σ : zSt} (h : (zQ [3, 5, 7, 9, 10, 11, 12, 15, 17, 19, 21, 23, 25, 27, 28, 29, 30, 32, 34, 36, 40, 42, 44, 45] [] [5, 38, 46, 48] []) σ0 σ) : zpc (fX9_has_22 σ) (fun r => (zQ [3, 5, 7, 9, 10, 11, 12, 15, 17, 19, 21, 23, 25, 27, 28, 29, 30, 32, 34, 36, 40, 42, 44, 45] [] [5, 38, 46, 48] []) σ0 (r.1)) := by
  unfold fX9_has_22
  exact fv_fX9_has_27 h
theorem fv_fX9_has_10 {σ0 : zSt} {σ : zSt} {x0 : Int32} (h : (zQ [3, 5, 7, 9, 10, 11, 12, 15, 17, 19, 21, 23, 25, 27, 28, 29, 30, 32, 34, 36, 40, 42, 44, 45] [] [5, 38, 46, 48] []) σ0 σ) : zpc (fX9_has_10 σ x0) (fun r => (zQ [3, 5, 7, 9, 10, 11, 12, 15, 17, 19, 21, 23, 25, 27, 28, 29, 30, 32, 34, 36, 40, 42, 44, 45] [] [5, 38, 46, 48] []) σ0 (r.1)) := by
  unfold fX9_has_10
  exact zpc_if (fun _ => fv_fX9_has_26 h) (fun _ => zpc_if (fun _ => fv_fX9_has_26 h) (fun _ => fv_fX9_has_22 h))
theorem fv_fX9_has {σ0 : zSt} {σ : zSt} {x0 : Int32} (h : (zQ [3, 5, 7, 9, 10, 11, 12, 15, 17, 19, 21, 23, 25, 27, 28, 29, 30, 32, 34, 36, 40, 42, 44, 45] [] [5, 38, 46, 48] []) σ0 σ) : zpc (fX9_has σ x0) (fun r => (zQ [3, 5, 7, 9, 10, 11, 12, 15, 17, 19, 21, 23, 25, 27, 28, 29, 30, 32, 34, 36, 40, 42, 44, 45] [] [5, 38, 46, 48] []) σ0 (r.1)) := by
  unfold fX9_has
  exact zpc_if (fun _ => fv_fX9_has_10 h) (fun _ => zpc_if (fun _ => fv_fX9_has_22 h) (fun _ => fv_fX9_has_10 h))
theorem fv_fX9_asks_54 {σ0 : zSt} {σ : zSt} {s0 : Int32} (h : (zQ [3, 5, 7, 9, 10, 11, 12, 15, 17, 19, 21, 23, 25, 27, 28, 29, 30, 32, 34, 36, 40, 42, 44, 45] [] [5, 38, 46, 48] []) σ0 σ) : zpc (fX9_asks_54 σ s0) (fun r => (zQ [3, 5, 7, 9, 10, 11, 12, 15, 17, 19, 21, 23, 25, 27, 28, 29, 30, 32, 34, 36, 40, 42, 44, 45] [] [5, 38, 46, 48] []) σ0 (r.1)) := by
  unfold fX9_asks_54
  exact zpc_ck (zpc_some h)
theorem fv_fX9_asks_53 {σ0 : zSt} {σ : zSt} (h : (zQ [3, 5, 7, 9, 10, 11, 12, 15, 17, 19, 21, 23, 25, 27, 28, 29, 30, 32, 34, 36, 40, 42, 44, 45] [] [5, 38, 46, 48] []) σ0 σ) : zpc (fX9_asks_53 σ) (fun r => (zQ [3, 5, 7, 9, 10, 11, 12, 15, 17, 19, 21, 23, 25, 27, 28, 29, 30, 32, 34, 36, 40, 42, 44, 45] [] [5, 38, 46, 48] []) σ0 (r.1)) := by
  unfold fX9_asks_53
  exact fv_fX9_asks_54 h
theorem fv_fX9_asks_49 {σ0 : zSt} {σ : zSt} (h : (zQ [3, 5, 7, 9, 10, 11, 12, 15, 17, 19, 21, 23, 25, 27, 28, 29, 30, 32, 34, 36, 40, 42, 44, 45] [] [5, 38, 46, 48] []) σ0 σ) : zpc (fX9_asks_49 σ) (fun r => (zQ [3, 5, 7, 9, 10, 11, 12, 15, 17, 19, 21, 23, 25, 27, 28, 29, 30, 32, 34, 36, 40, 42, 44, 45] [] [5, 38, 46, 48] []) σ0 (r.1)) := by
  unfold fX9_asks_49
  exact fv_fX9_asks_54 h
theorem fv_fX9_asks_26 {σ0 : zSt} {σ : zSt} (h : (zQ [3, 5, 7, 9, 10, 11, 12, 15, 17, 19, 21, 23, 25, 27, 28, 29, 30, 32, 34, 36, 40, 42, 44, 45] [] [5, 38, 46, 48] []) σ0 σ) : zpc (fX9_asks_26 σ) (fun r => (zQ [3, 5, 7, 9, 10, 11, 12, 15, 17, 19, 21, 23, 25, 27, 28, 29, 30, 32, 34, 36, 40, 42, 44, 45] [] [5, 38, 46, 48] []) σ0 (r.1)) := by
  unfold fX9_asks_26
  exact zpc_ck (zpc_if (fun _ => fv_fX9_asks_53 h) (fun _ => zpc_ck (zpc_if (fun _ => fv_fX9_asks_49 h) (fun _ => fv_fX9_asks_53 h))))
theorem fv_fX9_asks {σ0 : zSt} {σ : zSt} (h : (zQ [3, 5, 7, 9, 10, 11, 12, 15, 17, 19, 21, 23, 25, 27, 28, 29, 30, 32, 34, 36, 40, 42, 44, 45] [] [5, 38, 46, 48] []) σ0 σ) : zpc (fX9_asks σ) (fun r => (zQ [3, 5, 7, 9, 10, 11, 12, 15, 17, 19, 21, 23, 25, 27, 28, 29, 30, 32, 34, 36, 40, 42, 44, 45] [] [5, 38, 46, 48] []) σ0 (r.1)) := by
  unfold fX9_asks
  exact zpc_ck (zpc_if (fun _ => fv_fX9_asks_26 h) (fun _ => zpc_ck (zpc_if (fun _ => fv_fX9_asks_26 h) (fun _ => fv_fX9_asks_49 h))))
theorem fv_fX9_value_85 {σ0 : zSt} {σ : zSt} {x1 : Int32} (h : (zQ [3, 5, 7, 9, 10, 11, 12, 15, 17, 19, 21, 23, 25, 27, 28, 29, 30, 32, 34, 36, 40, 42, 44, 45] [] [5, 38, 46, 48] []) σ0 σ) : zpc (fX9_value_85 σ x1) (fun r => (zQ [3, 5, 7, 9, 10, 11, 12, 15, 17, 19, 21, 23, 25, 27, 28, 29, 30, 32, 34, 36, 40, 42, 44, 45] [] [5, 38, 46, 48] []) σ0 (r.1)) := by
  unfold fX9_value_85
  exact zpc_bi (fv_fX9_held h) (fun σ1 v2 hσ1 => zpc_some hσ1)
theorem fv_fX9_value_64 {σ0 : zSt} {σ : zSt} {s0 : Int32} (h : (zQ [3, 5, 7, 9, 10, 11, 12, 15, 17, 19, 21, 23, 25, 27, 28, 29, 30, 32, 34, 36, 40, 42, 44, 45] [] [5, 38, 46, 48] []) σ0 σ) : zpc (fX9_value_64 σ s0) (fun r => (zQ [3, 5, 7, 9, 10, 11, 12, 15, 17, 19, 21, 23, 25, 27, 28, 29, 30, 32, 34, 36, 40, 42, 44, 45] [] [5, 38, 46, 48] []) σ0 (r.1)) := by
  unfold fX9_value_64
  exact zpc_some h
theorem fv_fX9_value {σ0 : zSt} {σ : zSt} {x1 : Int32} (h : (zQ [3, 5, 7, 9, 10, 11, 12, 15, 17, 19, 21, 23, 25, 27, 28, 29, 30, 32, 34, 36, 40, 42, 44, 45] [] [5, 38, 46, 48] []) σ0 σ) : zpc (fX9_value σ x1) (fun r => (zQ [3, 5, 7, 9, 10, 11, 12, 15, 17, 19, 21, 23, 25, 27, 28, 29, 30, 32, 34, 36, 40, 42, 44, 45] [] [5, 38, 46, 48] []) σ0 (r.1)) := by
  unfold fX9_value
  exact zpc_if (fun _ => zpc_bi (fv_fX9_asks h) (fun σ3 v4 hσ3 => zpc_if (fun _ => fv_fX9_value_64 hσ3) (fun _ => fv_fX9_value_64 hσ3))) (fun _ => zpc_if (fun _ => fv_fX9_value_85 h) (fun _ => zpc_if (fun _ => fv_fX9_value_85 h) (fun _ => zpc_if (fun _ => fv_fX9_value_85 h) (fun _ => zpc_if (fun _ => fv_fX9_value_85 h) (fun _ => zpc_if (fun _ => zpc_bi (fv_fX9_mode h) (fun σ5 v6 hσ5 => zpc_some hσ5)) (fun _ => zpc_if (fun _ => zpc_bi (fv_fX9_height h) (fun σ7 v8 hσ7 => zpc_some hσ7)) (fun _ => zpc_if (fun _ => zpc_bi (fv_fX9_hCount h) (fun σ9 v10 hσ9 => zpc_some hσ9)) (fun _ => zpc_if (fun _ => zpc_bi (fv_fX9_vCount h) (fun σ11 v12 hσ11 => zpc_some hσ11)) (fun _ => fv_fX9_value_85 h)))))))))
theorem fv_fX9_eightFrom_6_body {σ0 : zSt} {k6 : zSt → Int32 → Int64 → Int32 → Option (zSt × Int64)} (hk6 : ∀ (y0 : zSt) (y1 : Int32) (y2 : Int64) (y3 : Int32), (zQ [3, 5, 7, 9, 10, 11, 12, 15, 17, 19, 21, 23, 25, 27, 28, 29, 30, 32, 34, 36, 40, 42, 44, 45] [] [5, 38, 46, 48] []) σ0 y0 → zpc (k6 y0 y1 y2 y3) (fun r => (zQ [3, 5, 7, 9, 10, 11, 12, 15, 17, 19, 21, 23, 25, 27, 28, 29, 30, 32, 34, 36, 40, 42, 44, 45] [] [5, 38, 46, 48] []) σ0 (r.1))) {σ : zSt} {x1 : Int32} {x2 : Int64} {x4 : Int32} (h : (zQ [3, 5, 7, 9, 10, 11, 12, 15, 17, 19, 21, 23, 25, 27, 28, 29, 30, 32, 34, 36, 40, 42, 44, 45] [] [5, 38, 46, 48] []) σ0 σ) : zpc (fX9_eightFrom_6_body k6 σ x1 x2 x4) (fun r => (zQ [3, 5, 7, 9, 10, 11, 12, 15, 17, 19, 21, 23, 25, 27, 28, 29, 30, 32, 34, 36, 40, 42, 44, 45] [] [5, 38, 46, 48] []) σ0 (r.1)) := by
  unfold fX9_eightFrom_6_body
  exact zpc_if (fun _ => zpc_some h) (fun _ => zpc_ck (zpc_bv (fun v1 _ => zpc_bv (fun v2 _ => hk6 _ _ _ _ h))))
theorem fv_fX9_eightFrom_6 {σ0 : zSt} : ∀ (n : Nat) (y0 : zSt) (y1 : Int32) (y2 : Int64) (y3 : Int32), (zQ [3, 5, 7, 9, 10, 11, 12, 15, 17, 19, 21, 23, 25, 27, 28, 29, 30, 32, 34, 36, 40, 42, 44, 45] [] [5, 38, 46, 48] []) σ0 y0 → zpc (fX9_eightFrom_6 n y0 y1 y2 y3) (fun r => (zQ [3, 5, 7, 9, 10, 11, 12, 15, 17, 19, 21, 23, 25, 27, 28, 29, 30, 32, 34, 36, 40, 42, 44, 45] [] [5, 38, 46, 48] []) σ0 (r.1)) := by
  intro n
  induction n with
  | zero => intro y0 y1 y2 y3 h; exact zpc_none
  | succ n ih => intro y0 y1 y2 y3 h; exact fv_fX9_eightFrom_6_body ih h
theorem fv_fX9_eightFrom {σ0 : zSt} {σ : zSt} {x1 : Int32} (h : (zQ [3, 5, 7, 9, 10, 11, 12, 15, 17, 19, 21, 23, 25, 27, 28, 29, 30, 32, 34, 36, 40, 42, 44, 45] [] [5, 38, 46, 48] []) σ0 σ) : zpc (fX9_eightFrom σ x1) (fun r => (zQ [3, 5, 7, 9, 10, 11, 12, 15, 17, 19, 21, 23, 25, 27, 28, 29, 30, 32, 34, 36, 40, 42, 44, 45] [] [5, 38, 46, 48] []) σ0 (r.1)) := by
  unfold fX9_eightFrom
  exact fv_fX9_eightFrom_6 _ _ _ _ _ h
theorem fv_fX9_passes {σ0 : zSt} {σ : zSt} {x1 : Int32} (h : (zQ [3, 5, 7, 9, 10, 11, 12, 15, 17, 19, 21, 23, 25, 27, 28, 29, 30, 32, 34, 36, 40, 42, 44, 45] [] [5, 38, 46, 48] []) σ0 σ) : zpc (fX9_passes σ x1) (fun r => (zQ [3, 5, 7, 9, 10, 11, 12, 15, 17, 19, 21, 23, 25, 27, 28, 29, 30, 32, 34, 36, 40, 42, 44, 45] [] [5, 38, 46, 48] []) σ0 (r.1)) := by
  unfold fX9_passes
  exact zpc_ck (zpc_ck (zpc_bs (zQ.wi h rfl) (fun σ1 hσ1 => zpc_ck (zpc_if (fun _ => zpc_ck (zpc_ck (zpc_bs (zQ.wi hσ1 rfl) (fun σ2 hσ2 => zpc_ck (zpc_some hσ2))))) (fun _ => zpc_ck (zpc_some hσ1))))))
theorem fv_fX9_goesToNextLine_159 {σ0 : zSt} {σ : zSt} {x2 : Int32} (h : (zQ [3, 5, 7, 9, 10, 11, 12, 15, 17, 19, 21, 23, 25, 27, 28, 29, 30, 32, 34, 36, 40, 42, 44, 45] [] [5, 38, 46, 48] []) σ0 σ) : zpc (fX9_goesToNextLine_159 σ x2) (fun r => (zQ [3, 5, 7, 9, 10, 11, 12, 15, 17, 19, 21, 23, 25, 27, 28, 29, 30, 32, 34, 36, 40, 42, 44, 45] [] [5, 38, 46, 48] []) σ0 (r.1)) := by
  unfold fX9_goesToNextLine_159
  exact zpc_ck (zpc_some h)
theorem fv_fX9_goesToNextLine_133 {σ0 : zSt} {σ : zSt} {x1 : Int32} {x2 : Int32} (h : (zQ [3, 5, 7, 9, 10, 11, 12, 15, 17, 19, 21, 23, 25, 27, 28, 29, 30, 32, 34, 36, 40, 42, 44, 45] [] [5, 38, 46, 48] []) σ0 σ) : zpc (fX9_goesToNextLine_133 σ x1 x2) (fun r => (zQ [3, 5, 7, 9, 10, 11, 12, 15, 17, 19, 21, 23, 25, 27, 28, 29, 30, 32, 34, 36, 40, 42, 44, 45] [] [5, 38, 46, 48] []) σ0 (r.1)) := by
  unfold fX9_goesToNextLine_133
  exact zpc_ck (zpc_if (fun _ => zpc_ck (zpc_ck (zpc_bs (zQ.wi h rfl) (fun σ1 hσ1 => fv_fX9_goesToNextLine_159 hσ1)))) (fun _ => fv_fX9_goesToNextLine_159 h))
theorem fv_fX9_goesToNextLine_106 {σ0 : zSt} {σ : zSt} {x1 : Int32} {s0 : Int32} (h : (zQ [3, 5, 7, 9, 10, 11, 12, 15, 17, 19, 21, 23, 25, 27, 28, 29, 30, 32, 34, 36, 40, 42, 44, 45] [] [5, 38, 46, 48] []) σ0 σ) : zpc (fX9_goesToNextLine_106 σ x1 s0) (fun r => (zQ [3, 5, 7, 9, 10, 11, 12, 15, 17, 19, 21, 23, 25, 27, 28, 29, 30, 32, 34, 36, 40, 42, 44, 45] [] [5, 38, 46, 48] []) σ0 (r.1)) := by
  unfold fX9_goesToNextLine_106
  exact zpc_if (fun _ => fv_fX9_goesToNextLine_133 h) (fun _ => zpc_ck (zpc_bs (zQ.wi h rfl) (fun σ2 hσ2 => zpc_ck (zpc_ck (zpc_bs (zQ.wi hσ2 rfl) (fun σ3 hσ3 => fv_fX9_goesToNextLine_133 hσ3))))))
theorem fv_fX9_goesToNextLine_76 {σ0 : zSt} {σ : zSt} {x1 : Int32} (h : (zQ [3, 5, 7, 9, 10, 11, 12, 15, 17, 19, 21, 23, 25, 27, 28, 29, 30, 32, 34, 36, 40, 42, 44, 45] [] [5, 38, 46, 48] []) σ0 σ) : zpc (fX9_goesToNextLine_76 σ x1) (fun r => (zQ [3, 5, 7, 9, 10, 11, 12, 15, 17, 19, 21, 23, 25, 27, 28, 29, 30, 32, 34, 36, 40, 42, 44, 45] [] [5, 38, 46, 48] []) σ0 (r.1)) := by
  unfold fX9_goesToNextLine_76
  exact zpc_ck (zpc_ck (zpc_bs (zQ.wi h rfl) (fun σ4 hσ4 => zpc_ck (zpc_if (fun _ => fv_fX9_goesToNextLine_106 hσ4) (fun _ => fv_fX9_goesToNextLine_106 hσ4)))))
theorem fv_fX9_goesToNextLine {σ0 : zSt} {σ : zSt} (h : (zQ [3, 5, 7, 9, 10, 11, 12, 15, 17, 19, 21, 23, 25, 27, 28, 29, 30, 32, 34, 36, 40, 42, 44, 45] [] [5, 38, 46, 48] []) σ0 σ) : zpc (fX9_goesToNextLine σ) (fun r => (zQ [3, 5, 7, 9, 10, 11, 12, 15, 17, 19, 21, 23, 25, 27, 28, 29, 30, 32, 34, 36, 40, 42, 44, 45] [] [5, 38, 46, 48] []) σ0 (r.1)) := by
  unfold fX9_goesToNextLine
  exact zpc_bi (fv_fX9_height h) (fun σ5 v6 hσ5 => zpc_ck (zpc_if (fun _ => zpc_ck (zpc_ck (zpc_bs (zQ.wi hσ5 rfl) (fun σ7 hσ7 => zpc_ck (zpc_if (fun _ => fv_fX9_goesToNextLine_76 hσ7) (fun _ => zpc_ck (zpc_ck (zpc_bs (zQ.wi hσ7 rfl) (fun σ8 hσ8 => zpc_ck (zpc_bs (zQ.wi hσ8 rfl) (fun σ9 hσ9 => fv_fX9_goesToNextLine_76 hσ9))))))))))) (fun _ => zpc_ck (zpc_ck (zpc_bs (zQ.wi hσ5 rfl) (fun σ10 hσ10 => fv_fX9_goesToNextLine_76 hσ10))))))
theorem fv_fJ7_fill_53178_k32_5_body {σ0 : zSt} {k5 : zSt → Int32 → Int32 → Int32 → Option (zSt)} (hk5 : ∀ (y0 : zSt) (y1 : Int32) (y2 : Int32) (y3 : Int32), (zQ [3, 5, 7, 9, 10, 11, 12, 15, 17, 19, 21, 23, 25, 27, 28, 29, 30, 32, 34, 36, 40, 42, 44, 45] [] [5, 38, 46, 48] []) σ0 y0 → zpc (k5 y0 y1 y2 y3) (fun r => (zQ [3, 5, 7, 9, 10, 11, 12, 15, 17, 19, 21, 23, 25, 27, 28, 29, 30, 32, 34, 36, 40, 42, 44, 45] [] [5, 38, 46, 48] []) σ0 (r))) {σ : zSt} {x1 : Int32} {x2 : Int32} {x3 : Int32} (h : (zQ [3, 5, 7, 9, 10, 11, 12, 15, 17, 19, 21, 23, 25, 27, 28, 29, 30, 32, 34, 36, 40, 42, 44, 45] [] [5, 38, 46, 48] []) σ0 σ) : zpc (fJ7_fill_53178_k32_5_body k5 σ x1 x2 x3) (fun r => (zQ [3, 5, 7, 9, 10, 11, 12, 15, 17, 19, 21, 23, 25, 27, 28, 29, 30, 32, 34, 36, 40, 42, 44, 45] [] [5, 38, 46, 48] []) σ0 (r)) := by
  unfold fJ7_fill_53178_k32_5_body
  exact zpc_if (fun _ => zpc_some h) (fun _ => zpc_ck (zpc_bs (zQ.wi h rfl) (fun σ1 hσ1 => zpc_bv (fun v2 _ => hk5 _ _ _ _ hσ1))))
theorem fv_fJ7_fill_53178_k32_5 {σ0 : zSt} : ∀ (n : Nat) (y0 : zSt) (y1 : Int32) (y2 : Int32) (y3 : Int32), (zQ [3, 5, 7, 9, 10, 11, 12, 15, 17, 19, 21, 23, 25, 27, 28, 29, 30, 32, 34, 36, 40, 42, 44, 45] [] [5, 38, 46, 48] []) σ0 y0 → zpc (fJ7_fill_53178_k32_5 n y0 y1 y2 y3) (fun r => (zQ [3, 5, 7, 9, 10, 11, 12, 15, 17, 19, 21, 23, 25, 27, 28, 29, 30, 32, 34, 36, 40, 42, 44, 45] [] [5, 38, 46, 48] []) σ0 (r)) := by
  intro n
  induction n with
  | zero => intro y0 y1 y2 y3 h; exact zpc_none
  | succ n ih => intro y0 y1 y2 y3 h; exact fv_fJ7_fill_53178_k32_5_body ih h
theorem fv_fJ7_fill_53178_k32 {σ0 : zSt} {σ : zSt} {x1 : Int32} (h : (zQ [3, 5, 7, 9, 10, 11, 12, 15, 17, 19, 21, 23, 25, 27, 28, 29, 30, 32, 34, 36, 40, 42, 44, 45] [] [5, 38, 46, 48] []) σ0 σ) : zpc (fJ7_fill_53178_k32 σ x1) (fun r => (zQ [3, 5, 7, 9, 10, 11, 12, 15, 17, 19, 21, 23, 25, 27, 28, 29, 30, 32, 34, 36, 40, 42, 44, 45] [] [5, 38, 46, 48] []) σ0 (r)) := by
  unfold fJ7_fill_53178_k32
  exact fv_fJ7_fill_53178_k32_5 _ _ _ _ _ h
theorem fv_fX10_clear_36_body {σ0 : zSt} {k36 : zSt → Int32 → Option (zSt)} (hk36 : ∀ (y0 : zSt) (y1 : Int32), (zQ [3, 5, 7, 9, 10, 11, 12, 15, 17, 19, 21, 23, 25, 27, 28, 29, 30, 32, 34, 36, 40, 42, 44, 45] [] [5, 38, 46, 48] []) σ0 y0 → zpc (k36 y0 y1) (fun r => (zQ [3, 5, 7, 9, 10, 11, 12, 15, 17, 19, 21, 23, 25, 27, 28, 29, 30, 32, 34, 36, 40, 42, 44, 45] [] [5, 38, 46, 48] []) σ0 (r))) {σ : zSt} {x2 : Int32} (h : (zQ [3, 5, 7, 9, 10, 11, 12, 15, 17, 19, 21, 23, 25, 27, 28, 29, 30, 32, 34, 36, 40, 42, 44, 45] [] [5, 38, 46, 48] []) σ0 σ) : zpc (fX10_clear_36_body k36 σ x2) (fun r => (zQ [3, 5, 7, 9, 10, 11, 12, 15, 17, 19, 21, 23, 25, 27, 28, 29, 30, 32, 34, 36, 40, 42, 44, 45] [] [5, 38, 46, 48] []) σ0 (r)) := by
  unfold fX10_clear_36_body
  exact zpc_if (fun _ => zpc_some h) (fun _ => zpc_ck (zpc_bs (zQ.wi h rfl) (fun σ1 hσ1 => zpc_ck (zpc_bs (zQ.wi hσ1 rfl) (fun σ2 hσ2 => zpc_bv (fun v3 _ => hk36 _ _ hσ2))))))
theorem fv_fX10_clear_36 {σ0 : zSt} : ∀ (n : Nat) (y0 : zSt) (y1 : Int32), (zQ [3, 5, 7, 9, 10, 11, 12, 15, 17, 19, 21, 23, 25, 27, 28, 29, 30, 32, 34, 36, 40, 42, 44, 45] [] [5, 38, 46, 48] []) σ0 y0 → zpc (fX10_clear_36 n y0 y1) (fun r => (zQ [3, 5, 7, 9, 10, 11, 12, 15, 17, 19, 21, 23, 25, 27, 28, 29, 30, 32, 34, 36, 40, 42, 44, 45] [] [5, 38, 46, 48] []) σ0 (r)) := by
  intro n
  induction n with
  | zero => intro y0 y1 h; exact zpc_none
  | succ n ih => intro y0 y1 h; exact fv_fX10_clear_36_body ih h
theorem fv_fX10_clear {σ0 : zSt} {σ : zSt} (h : (zQ [3, 5, 7, 9, 10, 11, 12, 15, 17, 19, 21, 23, 25, 27, 28, 29, 30, 32, 34, 36, 40, 42, 44, 45] [] [5, 38, 46, 48] []) σ0 σ) : zpc (fX10_clear σ) (fun r => (zQ [3, 5, 7, 9, 10, 11, 12, 15, 17, 19, 21, 23, 25, 27, 28, 29, 30, 32, 34, 36, 40, 42, 44, 45] [] [5, 38, 46, 48] []) σ0 (r)) := by
  unfold fX10_clear
  exact zpc_ck (zpc_bv (fun v4 _ => zpc_bu (fv_fJ7_fill_53178_k32 h) (fun σ5 hσ5 => zpc_ck (zpc_bs (zQ.wi hσ5 rfl) (fun σ6 hσ6 => zpc_ck (zpc_bs (zQ.wi hσ6 rfl) (fun σ7 hσ7 => fv_fX10_clear_36 _ _ _ hσ7)))))))
theorem fv_fX10_has_37 {σ0 : zSt} {σ : zSt} {s0 : Int32} (h : (zQ [3, 5, 7, 9, 10, 11, 12, 15, 17, 19, 21, 23, 25, 27, 28, 29, 30, 32, 34, 36, 40, 42, 44, 45] [] [5, 38, 46, 48] []) σ0 σ) : zpc (fX10_has_37 σ s0) (fun r => (zQ [3, 5, 7, 9, 10, 11, 12, 15, 17, 19, 21, 23, 25, 27, 28, 29, 30, 32, 34, 36, 40, 42, 44, 45] [] [5, 38, 46, 48] []) σ0 (r.1)) := by
  unfold fX10_has_37
  exact zpc_ck (zpc_some h)
theorem fv_fX10_has_36 {σ0 : zSt} {σ : zSt} (h : (zQ [3, 5, 7, 9, 10, 11, 12, 15, 17, 19, 21, 23, 25, 27, 28, 29, 30, 32, 34, 36, 40, 42, 44, 45] [] [5, 38, 46, 48] []) σ0 σ) : zpc (fX10_has_36 σ) (fun r => (zQ [3, 5, 7, 9, 10, 11, 12, 15, 17, 19, 21, 23, 25, 27, 28, 29, 30, 32, 34, 36, 40, 42, 44, 45] [] [5, 38, 46, 48] []) σ0 (r.1)) := by
  unfold fX10_has_36
  exact fv_fX10_has_37 h
theorem fv_fX10_has_32 {σ0 : zSt} {σ : zSt} (h : (zQ [3, 5, 7, 9, 10, 11, 12, 15, 17, 19, 21, 23, 25, 27, 28, 29, 30, 32, 34, 36, 40, 42, 44, 45] [] [5, 38, 46, 48] []) σ0 σ) : zpc (fX10_has_32 σ) (fun r => (zQ [3, 5, 7, 9, 10, 11, 12, 15, 17, 19, 21, 23, 25, 27, 28, 29, 30, 32, 34, 36, 40, 42, 44, 45] [] [5, 38, 46, 48] []) σ0 (r.1)) := by
  unfold fX10_has_32
  exact fv_fX10_has_37 h
theorem fv_fX10_has_10 {σ0 : zSt} {σ : zSt} {x0 : Int32} (h : (zQ [3, 5, 7, 9, 10, 11, 12, 15, 17, 19, 21, 23, 25, 27, 28, 29, 30, 32, 34, 36, 40, 42, 44, 45] [] [5, 38, 46, 48] []) σ0 σ) : zpc (fX10_has_10 σ x0) (fun r => (zQ [3, 5, 7, 9, 10, 11, 12, 15, 17, 19, 21, 23, 25, 27, 28, 29, 30, 32, 34, 36, 40, 42, 44, 45] [] [5, 38, 46, 48] []) σ0 (r.1)) := by
  unfold fX10_has_10
  exact zpc_if (fun _ => fv_fX10_has_36 h) (fun _ => zpc_if (fun _ => fv_fX10_has_36 h) (fun _ => zpc_if (fun _ => fv_fX10_has_36 h) (fun _ => fv_fX10_has_32 h)))
theorem fv_fX10_has {σ0 : zSt} {σ : zSt} {x0 : Int32} (h : (zQ [3, 5, 7, 9, 10, 11, 12, 15, 17, 19, 21, 23, 25, 27, 28, 29, 30, 32, 34, 36, 40, 42, 44, 45] [] [5, 38, 46, 48] []) σ0 σ) : zpc (fX10_has σ x0) (fun r => (zQ [3, 5, 7, 9, 10, 11, 12, 15, 17, 19, 21, 23, 25, 27, 28, 29, 30, 32, 34, 36, 40, 42, 44, 45] [] [5, 38, 46, 48] []) σ0 (r.1)) := by
  unfold fX10_has
  exact zpc_if (fun _ => fv_fX10_has_10 h) (fun _ => zpc_if (fun _ => fv_fX10_has_32 h) (fun _ => fv_fX10_has_10 h))
theorem fv_fX11_clearAll {σ0 : zSt} {σ : zSt} (h : (zQ [3, 5, 7, 9, 10, 11, 12, 15, 17, 19, 21, 23, 25, 27, 28, 29, 30, 32, 34, 36, 40, 42, 44, 45] [] [5, 38, 46, 48] []) σ0 σ) : zpc (fX11_clearAll σ) (fun r => (zQ [3, 5, 7, 9, 10, 11, 12, 15, 17, 19, 21, 23, 25, 27, 28, 29, 30, 32, 34, 36, 40, 42, 44, 45] [] [5, 38, 46, 48] []) σ0 (r)) := by
  unfold fX11_clearAll
  exact zpc_bu (fv_fX2_clearPages h) (fun σ1 hσ1 => zpc_bu (fv_fX9_clear hσ1) (fun σ2 hσ2 => zpc_bu (fv_fX7_clear hσ2) (fun σ3 hσ3 => zpc_bu (fv_fX10_clear hσ3) (fun σ4 hσ4 => zpc_bu (fv_fX4_clear hσ4) (fun σ5 hσ5 => zpc_bu (fv_fX5_clear hσ5) (fun σ6 hσ6 => zpc_some hσ6))))))
theorem fv_fX11_endLine_62 {σ0 : zSt} {σ : zSt} (h : (zQ [3, 5, 7, 9, 10, 11, 12, 15, 17, 19, 21, 23, 25, 27, 28, 29, 30, 32, 34, 36, 40, 42, 44, 45] [] [5, 38, 46, 48] []) σ0 σ) : zpc (fX11_endLine_62 σ) (fun r => (zQ [3, 5, 7, 9, 10, 11, 12, 15, 17, 19, 21, 23, 25, 27, 28, 29, 30, 32, 34, 36, 40, 42, 44, 45] [] [5, 38, 46, 48] []) σ0 (r)) := by
  unfold fX11_endLine_62
  exact zpc_some h
theorem fv_fX11_endLine_26 {σ0 : zSt} {σ : zSt} (h : (zQ [3, 5, 7, 9, 10, 11, 12, 15, 17, 19, 21, 23, 25, 27, 28, 29, 30, 32, 34, 36, 40, 42, 44, 45] [] [5, 38, 46, 48] []) σ0 σ) : zpc (fX11_endLine_26 σ) (fun r => (zQ [3, 5, 7, 9, 10, 11, 12, 15, 17, 19, 21, 23, 25, 27, 28, 29, 30, 32, 34, 36, 40, 42, 44, 45] [] [5, 38, 46, 48] []) σ0 (r)) := by
  unfold fX11_endLine_26
  exact zpc_bi (fv_fX9_goesToNextLine h) (fun σ1 v2 hσ1 => zpc_if (fun _ => fv_fX11_endLine_62 hσ1) (fun _ => zpc_bu (fv_fX0_countPicture hσ1) (fun σ3 hσ3 => zpc_bll (fv_fX0_count hσ3) (fun σ4 v5 hσ4 => zpc_bu (fv_fX1_carryOutPlans hσ4) (fun σ6 hσ6 => fv_fX11_endLine_62 hσ6)))))
theorem fv_fX11_endLine {σ0 : zSt} {σ : zSt} (h : (zQ [3, 5, 7, 9, 10, 11, 12, 15, 17, 19, 21, 23, 25, 27, 28, 29, 30, 32, 34, 36, 40, 42, 44, 45] [] [5, 38, 46, 48] []) σ0 σ) : zpc (fX11_endLine σ) (fun r => (zQ [3, 5, 7, 9, 10, 11, 12, 15, 17, 19, 21, 23, 25, 27, 28, 29, 30, 32, 34, 36, 40, 42, 44, 45] [] [5, 38, 46, 48] []) σ0 (r)) := by
  unfold fX11_endLine
  exact zpc_bi (fv_fX9_held h) (fun σ7 v8 hσ7 => zpc_bi (fv_fX9_height hσ7) (fun σ9 v10 hσ9 => zpc_if (fun _ => fv_fX11_endLine_26 hσ9) (fun _ => zpc_bu (fv_fX3_draw hσ9) (fun σ11 hσ11 => fv_fX11_endLine_26 hσ11))))
theorem fv_fX11_run_135 {σ0 : zSt} {σ : zSt} {x5 : Int32} (h : (zQ [3, 5, 7, 9, 10, 11, 12, 15, 17, 19, 21, 23, 25, 27, 28, 29, 30, 32, 34, 36, 40, 42, 44, 45] [] [5, 38, 46, 48] []) σ0 σ) : zpc (fX11_run_135 σ x5) (fun r => (zQ [3, 5, 7, 9, 10, 11, 12, 15, 17, 19, 21, 23, 25, 27, 28, 29, 30, 32, 34, 36, 40, 42, 44, 45] [] [5, 38, 46, 48] []) σ0 (r.1)) := by
  unfold fX11_run_135
  exact zpc_some h
theorem fv_fX11_run_120 {σ0 : zSt} {k15 : zSt → Int32 → Int64 → Int32 → Option (zSt × Int32)} (hk15 : ∀ (y0 : zSt) (y1 : Int32) (y2 : Int64) (y3 : Int32), (zQ [3, 5, 7, 9, 10, 11, 12, 15, 17, 19, 21, 23, 25, 27, 28, 29, 30, 32, 34, 36, 40, 42, 44, 45] [] [5, 38, 46, 48] []) σ0 y0 → zpc (k15 y0 y1 y2 y3) (fun r => (zQ [3, 5, 7, 9, 10, 11, 12, 15, 17, 19, 21, 23, 25, 27, 28, 29, 30, 32, 34, 36, 40, 42, 44, 45] [] [5, 38, 46, 48] []) σ0 (r.1))) {σ : zSt} {x1 : Int32} {x3 : Int64} {x5 : Int32} {x7 : Int32} (h : (zQ [3, 5, 7, 9, 10, 11, 12, 15, 17, 19, 21, 23, 25, 27, 28, 29, 30, 32, 34, 36, 40, 42, 44, 45] [] [5, 38, 46, 48] []) σ0 σ) : zpc (fX11_run_120 k15 σ x1 x3 x5 x7) (fun r => (zQ [3, 5, 7, 9, 10, 11, 12, 15, 17, 19, 21, 23, 25, 27, 28, 29, 30, 32, 34, 36, 40, 42, 44, 45] [] [5, 38, 46, 48] []) σ0 (r.1)) := by
  unfold fX11_run_120
  exact zpc_bu (fv_fX0_pass h) (fun σ1 hσ1 => zpc_bv (fun v2 _ => hk15 _ _ _ _ hσ1))
theorem fv_fX11_run_104 {σ0 : zSt} {k15 : zSt → Int32 → Int64 → Int32 → Option (zSt × Int32)} (hk15 : ∀ (y0 : zSt) (y1 : Int32) (y2 : Int64) (y3 : Int32), (zQ [3, 5, 7, 9, 10, 11, 12, 15, 17, 19, 21, 23, 25, 27, 28, 29, 30, 32, 34, 36, 40, 42, 44, 45] [] [5, 38, 46, 48] []) σ0 y0 → zpc (k15 y0 y1 y2 y3) (fun r => (zQ [3, 5, 7, 9, 10, 11, 12, 15, 17, 19, 21, 23, 25, 27, 28, 29, 30, 32, 34, 36, 40, 42, 44, 45] [] [5, 38, 46, 48] []) σ0 (r.1))) {σ : zSt} {x1 : Int32} {x3 : Int64} {x5 : Int32} {x7 : Int32} (h : (zQ [3, 5, 7, 9, 10, 11, 12, 15, 17, 19, 21, 23, 25, 27, 28, 29, 30, 32, 34, 36, 40, 42, 44, 45] [] [5, 38, 46, 48] []) σ0 σ) : zpc (fX11_run_104 k15 σ x1 x3 x5 x7) (fun r => (zQ [3, 5, 7, 9, 10, 11, 12, 15, 17, 19, 21, 23, 25, 27, 28, 29, 30, 32, 34, 36, 40, 42, 44, 45] [] [5, 38, 46, 48] []) σ0 (r.1)) := by
  unfold fX11_run_104
  exact zpc_bi (fv_fX9_passes h) (fun σ3 v4 hσ3 => zpc_if (fun _ => fv_fX11_run_120 hk15 hσ3) (fun _ => zpc_bu (fv_fX11_endLine hσ3) (fun σ5 hσ5 => fv_fX11_run_120 hk15 hσ5)))
theorem fv_fX11_run_65 {σ0 : zSt} {k15 : zSt → Int32 → Int64 → Int32 → Option (zSt × Int32)} (hk15 : ∀ (y0 : zSt) (y1 : Int32) (y2 : Int64) (y3 : Int32), (zQ [3, 5, 7, 9, 10, 11, 12, 15, 17, 19, 21, 23, 25, 27, 28, 29, 30, 32, 34, 36, 40, 42, 44, 45] [] [5, 38, 46, 48] []) σ0 y0 → zpc (k15 y0 y1 y2 y3) (fun r => (zQ [3, 5, 7, 9, 10, 11, 12, 15, 17, 19, 21, 23, 25, 27, 28, 29, 30, 32, 34, 36, 40, 42, 44, 45] [] [5, 38, 46, 48] []) σ0 (r.1))) {σ : zSt} {x1 : Int32} {x3 : Int64} {x5 : Int32} {x6 : Int32} (h : (zQ [3, 5, 7, 9, 10, 11, 12, 15, 17, 19, 21, 23, 25, 27, 28, 29, 30, 32, 34, 36, 40, 42, 44, 45] [] [5, 38, 46, 48] []) σ0 σ) : zpc (fX11_run_65 k15 σ x1 x3 x5 x6) (fun r => (zQ [3, 5, 7, 9, 10, 11, 12, 15, 17, 19, 21, 23, 25, 27, 28, 29, 30, 32, 34, 36, 40, 42, 44, 45] [] [5, 38, 46, 48] []) σ0 (r.1)) := by
  unfold fX11_run_65
  exact zpc_bu (fv_fX1_noteStep h) (fun σ6 hσ6 => zpc_bi (fv_fX9_asks hσ6) (fun σ7 v8 hσ7 => zpc_bi (fv_fX5_answerCalls hσ7) (fun σ9 v10 hσ9 => zpc_if (fun _ => zpc_bi (fv_fX5_carryOn hσ9) (fun σ11 v12 hσ11 => fv_fX11_run_104 hk15 hσ11)) (fun _ => fv_fX11_run_104 hk15 hσ9))))
theorem fv_fX11_run_15_body {σ0 : zSt} {k15 : zSt → Int32 → Int64 → Int32 → Option (zSt × Int32)} (hk15 : ∀ (y0 : zSt) (y1 : Int32) (y2 : Int64) (y3 : Int32), (zQ [3, 5, 7, 9, 10, 11, 12, 15, 17, 19, 21, 23, 25, 27, 28, 29, 30, 32, 34, 36, 40, 42, 44, 45] [] [5, 38, 46, 48] []) σ0 y0 → zpc (k15 y0 y1 y2 y3) (fun r => (zQ [3, 5, 7, 9, 10, 11, 12, 15, 17, 19, 21, 23, 25, 27, 28, 29, 30, 32, 34, 36, 40, 42, 44, 45] [] [5, 38, 46, 48] []) σ0 (r.1))) {σ : zSt} {x1 : Int32} {x3 : Int64} {x5 : Int32} (h : (zQ [3, 5, 7, 9, 10, 11, 12, 15, 17, 19, 21, 23, 25, 27, 28, 29, 30, 32, 34, 36, 40, 42, 44, 45] [] [5, 38, 46, 48] []) σ0 σ) : zpc (fX11_run_15_body k15 σ x1 x3 x5) (fun r => (zQ [3, 5, 7, 9, 10, 11, 12, 15, 17, 19, 21, 23, 25, 27, 28, 29, 30, 32, 34, 36, 40, 42, 44, 45] [] [5, 38, 46, 48] []) σ0 (r.1)) := by
  unfold fX11_run_15_body
  exact zpc_if (fun _ => fv_fX11_run_135 h) (fun _ => zpc_bll (fv_fX0_count h) (fun σ13 v14 hσ13 => zpc_if (fun _ => fv_fX11_run_135 hσ13) (fun _ => zpc_bi (fv_fX5_value hσ13) (fun σ15 v16 hσ15 => zpc_if (fun _ => fv_fX11_run_65 hk15 hσ15) (fun _ => zpc_bi (fv_fX1_isStop hσ15) (fun σ17 v18 hσ17 => zpc_if (fun _ => fv_fX11_run_65 hk15 hσ17) (fun _ => fv_fX11_run_135 hσ17)))))))
theorem fv_fX11_run_15 {σ0 : zSt} : ∀ (n : Nat) (y0 : zSt) (y1 : Int32) (y2 : Int64) (y3 : Int32), (zQ [3, 5, 7, 9, 10, 11, 12, 15, 17, 19, 21, 23, 25, 27, 28, 29, 30, 32, 34, 36, 40, 42, 44, 45] [] [5, 38, 46, 48] []) σ0 y0 → zpc (fX11_run_15 n y0 y1 y2 y3) (fun r => (zQ [3, 5, 7, 9, 10, 11, 12, 15, 17, 19, 21, 23, 25, 27, 28, 29, 30, 32, 34, 36, 40, 42, 44, 45] [] [5, 38, 46, 48] []) σ0 (r.1)) := by
  intro n
  induction n with
  | zero => intro y0 y1 y2 y3 h; exact zpc_none
  | succ n ih => intro y0 y1 y2 y3 h; exact fv_fX11_run_15_body ih h
theorem fv_fX11_run {σ0 : zSt} {σ : zSt} {x1 : Int32} {x2 : Int32} (h : (zQ [3, 5, 7, 9, 10, 11, 12, 15, 17, 19, 21, 23, 25, 27, 28, 29, 30, 32, 34, 36, 40, 42, 44, 45] [] [5, 38, 46, 48] []) σ0 σ) : zpc (fX11_run σ x1 x2) (fun r => (zQ [3, 5, 7, 9, 10, 11, 12, 15, 17, 19, 21, 23, 25, 27, 28, 29, 30, 32, 34, 36, 40, 42, 44, 45] [] [5, 38, 46, 48] []) σ0 (r.1)) := by
  unfold fX11_run
  exact zpc_bll (fv_fX0_count h) (fun σ19 v20 hσ19 => zpc_bv (fun v21 _ => fv_fX11_run_15 _ _ _ _ _ hσ19))
theorem fv_fX11_reset {σ0 : zSt} {σ : zSt} (h : (zQ [3, 5, 7, 9, 10, 11, 12, 15, 17, 19, 21, 23, 25, 27, 28, 29, 30, 32, 34, 36, 40, 42, 44, 45] [] [5, 38, 46, 48] []) σ0 σ) : zpc (fX11_reset σ) (fun r => (zQ [3, 5, 7, 9, 10, 11, 12, 15, 17, 19, 21, 23, 25, 27, 28, 29, 30, 32, 34, 36, 40, 42, 44, 45] [] [5, 38, 46, 48] []) σ0 (r)) := by
  unfold fX11_reset
  exact zpc_bu (fv_fX11_clearAll h) (fun σ1 hσ1 => zpc_some hσ1)
theorem fv_fX11_pause_26 {σ0 : zSt} {σ : zSt} {s0 : Int32} (h : (zQ [3, 5, 7, 9, 10, 11, 12, 15, 17, 19, 21, 23, 25, 27, 28, 29, 30, 32, 34, 36, 40, 42, 44, 45] [] [5, 38, 46, 48] []) σ0 σ) : zpc (fX11_pause_26 σ s0) (fun r => (zQ [3, 5, 7, 9, 10, 11, 12, 15, 17, 19, 21, 23, 25, 27, 28, 29, 30, 32, 34, 36, 40, 42, 44, 45] [] [5, 38, 46, 48] []) σ0 (r.1)) := by
  unfold fX11_pause_26
  exact zpc_ck (zpc_some h)
theorem fv_fX11_pause_14 {σ0 : zSt} {σ : zSt} (h : (zQ [3, 5, 7, 9, 10, 11, 12, 15, 17, 19, 21, 23, 25, 27, 28, 29, 30, 32, 34, 36, 40, 42, 44, 45] [] [5, 38, 46, 48] []) σ0 σ) : zpc (fX11_pause_14 σ) (fun r => (zQ [3, 5, 7, 9, 10, 11, 12, 15, 17, 19, 21, 23, 25, 27, 28, 29, 30, 32, 34, 36, 40, 42, 44, 45] [] [5, 38, 46, 48] []) σ0 (r.1)) := by
  unfold fX11_pause_14
  exact zpc_if (fun _ => fv_fX11_pause_26 h) (fun _ => fv_fX11_pause_26 h)
theorem fv_fX11_pause {σ0 : zSt} {σ : zSt} (h : (zQ [3, 5, 7, 9, 10, 11, 12, 15, 17, 19, 21, 23, 25, 27, 28, 29, 30, 32, 34, 36, 40, 42, 44, 45] [] [5, 38, 46, 48] []) σ0 σ) : zpc (fX11_pause σ) (fun r => (zQ [3, 5, 7, 9, 10, 11, 12, 15, 17, 19, 21, 23, 25, 27, 28, 29, 30, 32, 34, 36, 40, 42, 44, 45] [] [5, 38, 46, 48] []) σ0 (r.1)) := by
  unfold fX11_pause
  exact zpc_if (fun _ => zpc_bu (fv_fX5_askForPause h) (fun σ1 hσ1 => fv_fX11_pause_14 hσ1)) (fun _ => fv_fX11_pause_14 h)
theorem fv_fX11_start {σ0 : zSt} {σ : zSt} {x1 : Int32} (h : (zQ [3, 5, 7, 9, 10, 11, 12, 15, 17, 19, 21, 23, 25, 27, 28, 29, 30, 32, 34, 36, 40, 42, 44, 45] [] [5, 38, 46, 48] []) σ0 σ) : zpc (fX11_start σ x1) (fun r => (zQ [3, 5, 7, 9, 10, 11, 12, 15, 17, 19, 21, 23, 25, 27, 28, 29, 30, 32, 34, 36, 40, 42, 44, 45] [] [5, 38, 46, 48] []) σ0 (r)) := by
  unfold fX11_start
  exact zpc_bu (fv_fX4_holdStart h) (fun σ1 hσ1 => zpc_some hσ1)
theorem fv_fX11_tell {σ0 : zSt} {σ : zSt} {x1 : Int32} (h : (zQ [3, 5, 7, 9, 10, 11, 12, 15, 17, 19, 21, 23, 25, 27, 28, 29, 30, 32, 34, 36, 40, 42, 44, 45] [] [5, 38, 46, 48] []) σ0 σ) : zpc (fX11_tell σ x1) (fun r => (zQ [3, 5, 7, 9, 10, 11, 12, 15, 17, 19, 21, 23, 25, 27, 28, 29, 30, 32, 34, 36, 40, 42, 44, 45] [] [5, 38, 46, 48] []) σ0 (r.1)) := by
  unfold fX11_tell
  exact zpc_bi (fv_fX8_write h) (fun σ1 v2 hσ1 => zpc_some hσ1)
theorem fv_fX11_peek {σ0 : zSt} {σ : zSt} {x1 : Int32} (h : (zQ [3, 5, 7, 9, 10, 11, 12, 15, 17, 19, 21, 23, 25, 27, 28, 29, 30, 32, 34, 36, 40, 42, 44, 45] [] [5, 38, 46, 48] []) σ0 σ) : zpc (fX11_peek σ x1) (fun r => (zQ [3, 5, 7, 9, 10, 11, 12, 15, 17, 19, 21, 23, 25, 27, 28, 29, 30, 32, 34, 36, 40, 42, 44, 45] [] [5, 38, 46, 48] []) σ0 (r.1)) := by
  unfold fX11_peek
  exact zpc_bi (fv_fX2_read h) (fun σ1 v2 hσ1 => zpc_some hσ1)
theorem fv_fX11_poke {σ0 : zSt} {σ : zSt} {x1 : Int32} {x2 : Int32} (h : (zQ [3, 5, 7, 9, 10, 11, 12, 15, 17, 19, 21, 23, 25, 27, 28, 29, 30, 32, 34, 36, 40, 42, 44, 45] [] [5, 38, 46, 48] []) σ0 σ) : zpc (fX11_poke σ x1 x2) (fun r => (zQ [3, 5, 7, 9, 10, 11, 12, 15, 17, 19, 21, 23, 25, 27, 28, 29, 30, 32, 34, 36, 40, 42, 44, 45] [] [5, 38, 46, 48] []) σ0 (r)) := by
  unfold fX11_poke
  exact zpc_bu (fv_fX2_write h) (fun σ1 hσ1 => zpc_some hσ1)
theorem fv_fX11_in {σ0 : zSt} {σ : zSt} {x1 : Int32} (h : (zQ [3, 5, 7, 9, 10, 11, 12, 15, 17, 19, 21, 23, 25, 27, 28, 29, 30, 32, 34, 36, 40, 42, 44, 45] [] [5, 38, 46, 48] []) σ0 σ) : zpc (fX11_in σ x1) (fun r => (zQ [3, 5, 7, 9, 10, 11, 12, 15, 17, 19, 21, 23, 25, 27, 28, 29, 30, 32, 34, 36, 40, 42, 44, 45] [] [5, 38, 46, 48] []) σ0 (r.1)) := by
  unfold fX11_in
  exact zpc_bi (fv_fX4_read h) (fun σ1 v2 hσ1 => zpc_some hσ1)
theorem fv_fX11_out {σ0 : zSt} {σ : zSt} {x1 : Int32} {x2 : Int32} (h : (zQ [3, 5, 7, 9, 10, 11, 12, 15, 17, 19, 21, 23, 25, 27, 28, 29, 30, 32, 34, 36, 40, 42, 44, 45] [] [5, 38, 46, 48] []) σ0 σ) : zpc (fX11_out σ x1 x2) (fun r => (zQ [3, 5, 7, 9, 10, 11, 12, 15, 17, 19, 21, 23, 25, 27, 28, 29, 30, 32, 34, 36, 40, 42, 44, 45] [] [5, 38, 46, 48] []) σ0 (r)) := by
  unfold fX11_out
  exact zpc_bu (fv_fX4_write h) (fun σ1 hσ1 => zpc_some hσ1)
theorem fv_fX11_wipe {σ0 : zSt} {σ : zSt} (h : (zQ [3, 5, 7, 9, 10, 11, 12, 15, 17, 19, 21, 23, 25, 27, 28, 29, 30, 32, 34, 36, 40, 42, 44, 45] [] [5, 38, 46, 48] []) σ0 σ) : zpc (fX11_wipe σ) (fun r => (zQ [3, 5, 7, 9, 10, 11, 12, 15, 17, 19, 21, 23, 25, 27, 28, 29, 30, 32, 34, 36, 40, 42, 44, 45] [] [5, 38, 46, 48] []) σ0 (r)) := by
  unfold fX11_wipe
  exact zpc_bu (fv_fX2_clearBattery h) (fun σ1 hσ1 => zpc_some hσ1)
theorem fv_fX11_video {σ0 : zSt} {σ : zSt} {x1 : Int32} (h : (zQ [3, 5, 7, 9, 10, 11, 12, 15, 17, 19, 21, 23, 25, 27, 28, 29, 30, 32, 34, 36, 40, 42, 44, 45] [] [5, 38, 46, 48] []) σ0 σ) : zpc (fX11_video σ x1) (fun r => (zQ [3, 5, 7, 9, 10, 11, 12, 15, 17, 19, 21, 23, 25, 27, 28, 29, 30, 32, 34, 36, 40, 42, 44, 45] [] [5, 38, 46, 48] []) σ0 (r.1)) := by
  unfold fX11_video
  exact zpc_bll (fv_fX9_eightFrom h) (fun σ1 v2 hσ1 => zpc_some hσ1)
theorem fv_fX11_trace {σ0 : zSt} {σ : zSt} {x1 : Int32} (h : (zQ [3, 5, 7, 9, 10, 11, 12, 15, 17, 19, 21, 23, 25, 27, 28, 29, 30, 32, 34, 36, 40, 42, 44, 45] [] [5, 38, 46, 48] []) σ0 σ) : zpc (fX11_trace σ x1) (fun r => (zQ [3, 5, 7, 9, 10, 11, 12, 15, 17, 19, 21, 23, 25, 27, 28, 29, 30, 32, 34, 36, 40, 42, 44, 45] [] [5, 38, 46, 48] []) σ0 (r.1)) := by
  unfold fX11_trace
  exact zpc_bi (fv_fX1_stepBack h) (fun σ1 v2 hσ1 => zpc_some hσ1)
theorem fv_fX11_card_10 {σ0 : zSt} {σ : zSt} (h : (zQ [3, 5, 7, 9, 10, 11, 12, 15, 17, 19, 21, 23, 25, 27, 28, 29, 30, 32, 34, 36, 40, 42, 44, 45] [] [5, 38, 46, 48] []) σ0 σ) : zpc (fX11_card_10 σ) (fun r => (zQ [3, 5, 7, 9, 10, 11, 12, 15, 17, 19, 21, 23, 25, 27, 28, 29, 30, 32, 34, 36, 40, 42, 44, 45] [] [5, 38, 46, 48] []) σ0 (zRis r)) := by
  unfold fX11_card_10
  exact zpc_some h
theorem fv_fX11_card {σ0 : zSt} {σ : zSt} {x1 : Int32} (h : (zQ [3, 5, 7, 9, 10, 11, 12, 15, 17, 19, 21, 23, 25, 27, 28, 29, 30, 32, 34, 36, 40, 42, 44, 45] [] [5, 38, 46, 48] []) σ0 σ) : zpc (fX11_card σ x1) (fun r => (zQ [3, 5, 7, 9, 10, 11, 12, 15, 17, 19, 21, 23, 25, 27, 28, 29, 30, 32, 34, 36, 40, 42, 44, 45] [] [5, 38, 46, 48] []) σ0 (zRis r)) := by
  unfold fX11_card
  exact zpc_if (fun _ => fv_fX11_card_10 h) (fun _ => zpc_if (fun _ => zpc_bi (fv_fX2_aboutCard h) (fun σ1 v2 hσ1 => zpc_some hσ1)) (fun _ => fv_fX11_card_10 h))
theorem fv_fX11_step_12 {σ0 : zSt} {σ : zSt} (h : (zQ [3, 5, 7, 9, 10, 11, 12, 15, 17, 19, 21, 23, 25, 27, 28, 29, 30, 32, 34, 36, 40, 42, 44, 45] [] [5, 38, 46, 48] []) σ0 σ) : zpc (fX11_step_12 σ) (fun r => (zQ [3, 5, 7, 9, 10, 11, 12, 15, 17, 19, 21, 23, 25, 27, 28, 29, 30, 32, 34, 36, 40, 42, 44, 45] [] [5, 38, 46, 48] []) σ0 (zRis r)) := by
  unfold fX11_step_12
  exact zpc_some h
theorem fv_fX11_step {σ0 : zSt} {σ : zSt} {x1 : Int32} (h : (zQ [3, 5, 7, 9, 10, 11, 12, 15, 17, 19, 21, 23, 25, 27, 28, 29, 30, 32, 34, 36, 40, 42, 44, 45] [] [5, 38, 46, 48] []) σ0 σ) : zpc (fX11_step σ x1) (fun r => (zQ [3, 5, 7, 9, 10, 11, 12, 15, 17, 19, 21, 23, 25, 27, 28, 29, 30, 32, 34, 36, 40, 42, 44, 45] [] [5, 38, 46, 48] []) σ0 (zRis r)) := by
  unfold fX11_step
  exact zpc_if (fun _ => fv_fX11_step_12 h) (fun _ => zpc_if (fun _ => zpc_bi (fv_fX11_run h) (fun σ1 v2 hσ1 => zpc_some hσ1)) (fun _ => fv_fX11_step_12 h))
theorem fv_fX11_picture_10 {σ0 : zSt} {σ : zSt} (h : (zQ [3, 5, 7, 9, 10, 11, 12, 15, 17, 19, 21, 23, 25, 27, 28, 29, 30, 32, 34, 36, 40, 42, 44, 45] [] [5, 38, 46, 48] []) σ0 σ) : zpc (fX11_picture_10 σ) (fun r => (zQ [3, 5, 7, 9, 10, 11, 12, 15, 17, 19, 21, 23, 25, 27, 28, 29, 30, 32, 34, 36, 40, 42, 44, 45] [] [5, 38, 46, 48] []) σ0 (zRis r)) := by
  unfold fX11_picture_10
  exact zpc_some h
theorem fv_fX11_picture {σ0 : zSt} {σ : zSt} {x1 : Int32} (h : (zQ [3, 5, 7, 9, 10, 11, 12, 15, 17, 19, 21, 23, 25, 27, 28, 29, 30, 32, 34, 36, 40, 42, 44, 45] [] [5, 38, 46, 48] []) σ0 σ) : zpc (fX11_picture σ x1) (fun r => (zQ [3, 5, 7, 9, 10, 11, 12, 15, 17, 19, 21, 23, 25, 27, 28, 29, 30, 32, 34, 36, 40, 42, 44, 45] [] [5, 38, 46, 48] []) σ0 (zRis r)) := by
  unfold fX11_picture
  exact zpc_if (fun _ => fv_fX11_picture_10 h) (fun _ => zpc_if (fun _ => zpc_bi (fv_fX11_run h) (fun σ1 v2 hσ1 => zpc_some hσ1)) (fun _ => fv_fX11_picture_10 h))
theorem fv_fX11_press {σ0 : zSt} {σ : zSt} {x1 : Int32} {x2 : Int32} (h : (zQ [3, 5, 7, 9, 10, 11, 12, 15, 17, 19, 21, 23, 25, 27, 28, 29, 30, 32, 34, 36, 40, 42, 44, 45] [] [5, 38, 46, 48] []) σ0 σ) : zpc (fX11_press σ x1 x2) (fun r => (zQ [3, 5, 7, 9, 10, 11, 12, 15, 17, 19, 21, 23, 25, 27, 28, 29, 30, 32, 34, 36, 40, 42, 44, 45] [] [5, 38, 46, 48] []) σ0 (zRus r)) := by
  unfold fX11_press
  exact zpc_bi (fv_fX4_canPress h) (fun σ1 v2 hσ1 => zpc_if (fun _ => zpc_some hσ1) (fun _ => zpc_bu (fv_fX4_holdButtons hσ1) (fun σ3 hσ3 => zpc_some hσ3)))
theorem fv_fX11_line_9 {σ0 : zSt} {σ : zSt} (h : (zQ [3, 5, 7, 9, 10, 11, 12, 15, 17, 19, 21, 23, 25, 27, 28, 29, 30, 32, 34, 36, 40, 42, 44, 45] [] [5, 38, 46, 48] []) σ0 σ) : zpc (fX11_line_9 σ) (fun r => (zQ [3, 5, 7, 9, 10, 11, 12, 15, 17, 19, 21, 23, 25, 27, 28, 29, 30, 32, 34, 36, 40, 42, 44, 45] [] [5, 38, 46, 48] []) σ0 (zRus r)) := by
  unfold fX11_line_9
  exact zpc_some h
theorem fv_fX11_line {σ0 : zSt} {σ : zSt} {x1 : Int32} {x2 : Int32} (h : (zQ [3, 5, 7, 9, 10, 11, 12, 15, 17, 19, 21, 23, 25, 27, 28, 29, 30, 32, 34, 36, 40, 42, 44, 45] [] [5, 38, 46, 48] []) σ0 σ) : zpc (fX11_line σ x1 x2) (fun r => (zQ [3, 5, 7, 9, 10, 11, 12, 15, 17, 19, 21, 23, 25, 27, 28, 29, 30, 32, 34, 36, 40, 42, 44, 45] [] [5, 38, 46, 48] []) σ0 (zRus r)) := by
  unfold fX11_line
  exact zpc_if (fun _ => fv_fX11_line_9 h) (fun _ => zpc_if (fun _ => zpc_bu (fv_fX4_moveLine h) (fun σ1 hσ1 => zpc_some hσ1)) (fun _ => fv_fX11_line_9 h))
theorem fv_fX11_plan_19 {σ0 : zSt} {σ : zSt} (h : (zQ [3, 5, 7, 9, 10, 11, 12, 15, 17, 19, 21, 23, 25, 27, 28, 29, 30, 32, 34, 36, 40, 42, 44, 45] [] [5, 38, 46, 48] []) σ0 σ) : zpc (fX11_plan_19 σ) (fun r => (zQ [3, 5, 7, 9, 10, 11, 12, 15, 17, 19, 21, 23, 25, 27, 28, 29, 30, 32, 34, 36, 40, 42, 44, 45] [] [5, 38, 46, 48] []) σ0 (zRis r)) := by
  unfold fX11_plan_19
  exact zpc_some h
theorem fv_fX11_plan {σ0 : zSt} {σ : zSt} {x1 : Int32} {x2 : Int32} {x3 : Int32} (h : (zQ [3, 5, 7, 9, 10, 11, 12, 15, 17, 19, 21, 23, 25, 27, 28, 29, 30, 32, 34, 36, 40, 42, 44, 45] [] [5, 38, 46, 48] []) σ0 σ) : zpc (fX11_plan σ x1 x2 x3) (fun r => (zQ [3, 5, 7, 9, 10, 11, 12, 15, 17, 19, 21, 23, 25, 27, 28, 29, 30, 32, 34, 36, 40, 42, 44, 45] [] [5, 38, 46, 48] []) σ0 (zRis r)) := by
  unfold fX11_plan
  exact zpc_bi (fv_fX1_leastPlan h) (fun σ1 v2 hσ1 => zpc_if (fun _ => fv_fX11_plan_19 hσ1) (fun _ => zpc_bi (fv_fX4_canPress hσ1) (fun σ3 v4 hσ3 => zpc_if (fun _ => fv_fX11_plan_19 hσ3) (fun _ => zpc_bi (fv_fX1_plansWaiting hσ3) (fun σ5 v6 hσ5 => zpc_if (fun _ => zpc_bi (fv_fX1_addPlan hσ5) (fun σ7 v8 hσ7 => zpc_some hσ7)) (fun _ => zpc_some hσ5))))))
theorem fv_fX11_text_15 {σ0 : zSt} {σ : zSt} (h : (zQ [3, 5, 7, 9, 10, 11, 12, 15, 17, 19, 21, 23, 25, 27, 28, 29, 30, 32, 34, 36, 40, 42, 44, 45] [] [5, 38, 46, 48] []) σ0 σ) : zpc (fX11_text_15 σ) (fun r => (zQ [3, 5, 7, 9, 10, 11, 12, 15, 17, 19, 21, 23, 25, 27, 28, 29, 30, 32, 34, 36, 40, 42, 44, 45] [] [5, 38, 46, 48] []) σ0 (zRls r)) := by
  unfold fX11_text_15
  exact zpc_some h
theorem fv_fX11_text {σ0 : zSt} {σ : zSt} {x1 : Int32} (h : (zQ [3, 5, 7, 9, 10, 11, 12, 15, 17, 19, 21, 23, 25, 27, 28, 29, 30, 32, 34, 36, 40, 42, 44, 45] [] [5, 38, 46, 48] []) σ0 σ) : zpc (fX11_text σ x1) (fun r => (zQ [3, 5, 7, 9, 10, 11, 12, 15, 17, 19, 21, 23, 25, 27, 28, 29, 30, 32, 34, 36, 40, 42, 44, 45] [] [5, 38, 46, 48] []) σ0 (zRls r)) := by
  unfold fX11_text
  exact zpc_if (fun _ => fv_fX11_text_15 h) (fun _ => zpc_if (fun _ => zpc_bll (fv_fX8_eightFrom h) (fun σ1 v2 hσ1 => zpc_some hσ1)) (fun _ => fv_fX11_text_15 h))
theorem fv_fX11_stop_10 {σ0 : zSt} {σ : zSt} (h : (zQ [3, 5, 7, 9, 10, 11, 12, 15, 17, 19, 21, 23, 25, 27, 28, 29, 30, 32, 34, 36, 40, 42, 44, 45] [] [5, 38, 46, 48] []) σ0 σ) : zpc (fX11_stop_10 σ) (fun r => (zQ [3, 5, 7, 9, 10, 11, 12, 15, 17, 19, 21, 23, 25, 27, 28, 29, 30, 32, 34, 36, 40, 42, 44, 45] [] [5, 38, 46, 48] []) σ0 (zRis r)) := by
  unfold fX11_stop_10
  exact zpc_some h
theorem fv_fX11_stop {σ0 : zSt} {σ : zSt} {x1 : Int32} {x2 : Int32} (h : (zQ [3, 5, 7, 9, 10, 11, 12, 15, 17, 19, 21, 23, 25, 27, 28, 29, 30, 32, 34, 36, 40, 42, 44, 45] [] [5, 38, 46, 48] []) σ0 σ) : zpc (fX11_stop σ x1 x2) (fun r => (zQ [3, 5, 7, 9, 10, 11, 12, 15, 17, 19, 21, 23, 25, 27, 28, 29, 30, 32, 34, 36, 40, 42, 44, 45] [] [5, 38, 46, 48] []) σ0 (zRis r)) := by
  unfold fX11_stop
  exact zpc_if (fun _ => fv_fX11_stop_10 h) (fun _ => zpc_if (fun _ => zpc_bi (fv_fX1_stopsBeside h) (fun σ1 v2 hσ1 => zpc_if (fun _ => zpc_bi (fv_fX1_changeStop hσ1) (fun σ3 v4 hσ3 => zpc_some hσ3)) (fun _ => zpc_some hσ1))) (fun _ => fv_fX11_stop_10 h))
theorem fv_fX11_register_10 {σ0 : zSt} {σ : zSt} (h : (zQ [3, 5, 7, 9, 10, 11, 12, 15, 17, 19, 21, 23, 25, 27, 28, 29, 30, 32, 34, 36, 40, 42, 44, 45] [] [5, 38, 46, 48] []) σ0 σ) : zpc (fX11_register_10 σ) (fun r => (zQ [3, 5, 7, 9, 10, 11, 12, 15, 17, 19, 21, 23, 25, 27, 28, 29, 30, 32, 34, 36, 40, 42, 44, 45] [] [5, 38, 46, 48] []) σ0 (zRis r)) := by
  unfold fX11_register_10
  exact zpc_some h
theorem fv_fX11_register {σ0 : zSt} {σ : zSt} {x1 : Int32} (h : (zQ [3, 5, 7, 9, 10, 11, 12, 15, 17, 19, 21, 23, 25, 27, 28, 29, 30, 32, 34, 36, 40, 42, 44, 45] [] [5, 38, 46, 48] []) σ0 σ) : zpc (fX11_register σ x1) (fun r => (zQ [3, 5, 7, 9, 10, 11, 12, 15, 17, 19, 21, 23, 25, 27, 28, 29, 30, 32, 34, 36, 40, 42, 44, 45] [] [5, 38, 46, 48] []) σ0 (zRis r)) := by
  unfold fX11_register
  exact zpc_if (fun _ => fv_fX11_register_10 h) (fun _ => zpc_if (fun _ => zpc_bi (fv_fX5_value h) (fun σ1 v2 hσ1 => zpc_some hσ1)) (fun _ => fv_fX11_register_10 h))
theorem fv_fX11_set_10 {σ0 : zSt} {σ : zSt} (h : (zQ [3, 5, 7, 9, 10, 11, 12, 15, 17, 19, 21, 23, 25, 27, 28, 29, 30, 32, 34, 36, 40, 42, 44, 45] [] [5, 38, 46, 48] []) σ0 σ) : zpc (fX11_set_10 σ) (fun r => (zQ [3, 5, 7, 9, 10, 11, 12, 15, 17, 19, 21, 23, 25, 27, 28, 29, 30, 32, 34, 36, 40, 42, 44, 45] [] [5, 38, 46, 48] []) σ0 (zRus r)) := by
  unfold fX11_set_10
  exact zpc_some h
theorem fv_fX11_set {σ0 : zSt} {σ : zSt} {x1 : Int32} {x2 : Int32} (h : (zQ [3, 5, 7, 9, 10, 11, 12, 15, 17, 19, 21, 23, 25, 27, 28, 29, 30, 32, 34, 36, 40, 42, 44, 45] [] [5, 38, 46, 48] []) σ0 σ) : zpc (fX11_set σ x1 x2) (fun r => (zQ [3, 5, 7, 9, 10, 11, 12, 15, 17, 19, 21, 23, 25, 27, 28, 29, 30, 32, 34, 36, 40, 42, 44, 45] [] [5, 38, 46, 48] []) σ0 (zRus r)) := by
  unfold fX11_set
  exact zpc_if (fun _ => fv_fX11_set_10 h) (fun _ => zpc_if (fun _ => zpc_bu (fv_fX5_change h) (fun σ1 hσ1 => zpc_some hσ1)) (fun _ => fv_fX11_set_10 h))
theorem fv_fX11_battery_11 {σ0 : zSt} {σ : zSt} (h : (zQ [3, 5, 7, 9, 10, 11, 12, 15, 17, 19, 21, 23, 25, 27, 28, 29, 30, 32, 34, 36, 40, 42, 44, 45] [] [5, 38, 46, 48] []) σ0 σ) : zpc (fX11_battery_11 σ) (fun r => (zQ [3, 5, 7, 9, 10, 11, 12, 15, 17, 19, 21, 23, 25, 27, 28, 29, 30, 32, 34, 36, 40, 42, 44, 45] [] [5, 38, 46, 48] []) σ0 (zRis r)) := by
  unfold fX11_battery_11
  exact zpc_some h
theorem fv_fX11_battery {σ0 : zSt} {σ : zSt} {x1 : Int32} (h : (zQ [3, 5, 7, 9, 10, 11, 12, 15, 17, 19, 21, 23, 25, 27, 28, 29, 30, 32, 34, 36, 40, 42, 44, 45] [] [5, 38, 46, 48] []) σ0 σ) : zpc (fX11_battery σ x1) (fun r => (zQ [3, 5, 7, 9, 10, 11, 12, 15, 17, 19, 21, 23, 25, 27, 28, 29, 30, 32, 34, 36, 40, 42, 44, 45] [] [5, 38, 46, 48] []) σ0 (zRis r)) := by
  unfold fX11_battery
  exact zpc_if (fun _ => fv_fX11_battery_11 h) (fun _ => zpc_if (fun _ => zpc_bi (fv_fX2_batteryByte h) (fun σ1 v2 hσ1 => zpc_some hσ1)) (fun _ => fv_fX11_battery_11 h))
theorem fv_fX11_chip {σ0 : zSt} {σ : zSt} {x1 : Int32} (h : (zQ [3, 5, 7, 9, 10, 11, 12, 15, 17, 19, 21, 23, 25, 27, 28, 29, 30, 32, 34, 36, 40, 42, 44, 45] [] [5, 38, 46, 48] []) σ0 σ) : zpc (fX11_chip σ x1) (fun r => (zQ [3, 5, 7, 9, 10, 11, 12, 15, 17, 19, 21, 23, 25, 27, 28, 29, 30, 32, 34, 36, 40, 42, 44, 45] [] [5, 38, 46, 48] []) σ0 (zRis r)) := by
  unfold fX11_chip
  exact zpc_bi (fv_fX9_has h) (fun σ1 v2 hσ1 => zpc_if (fun _ => zpc_some hσ1) (fun _ => zpc_bi (fv_fX9_value hσ1) (fun σ3 v4 hσ3 => zpc_some hσ3)))
theorem fv_fX11_dot_30 {σ0 : zSt} {σ : zSt} (h : (zQ [3, 5, 7, 9, 10, 11, 12, 15, 17, 19, 21, 23, 25, 27, 28, 29, 30, 32, 34, 36, 40, 42, 44, 45] [] [5, 38, 46, 48] []) σ0 σ) : zpc (fX11_dot_30 σ) (fun r => (zQ [3, 5, 7, 9, 10, 11, 12, 15, 17, 19, 21, 23, 25, 27, 28, 29, 30, 32, 34, 36, 40, 42, 44, 45] [] [5, 38, 46, 48] []) σ0 (zRis r)) := by
  unfold fX11_dot_30
  exact zpc_some h
theorem fv_fX11_dot {σ0 : zSt} {σ : zSt} {x1 : Int32} {x2 : Int32} (h : (zQ [3, 5, 7, 9, 10, 11, 12, 15, 17, 19, 21, 23, 25, 27, 28, 29, 30, 32, 34, 36, 40, 42, 44, 45] [] [5, 38, 46, 48] []) σ0 σ) : zpc (fX11_dot σ x1 x2) (fun r => (zQ [3, 5, 7, 9, 10, 11, 12, 15, 17, 19, 21, 23, 25, 27, 28, 29, 30, 32, 34, 36, 40, 42, 44, 45] [] [5, 38, 46, 48] []) σ0 (zRis r)) := by
  unfold fX11_dot
  exact zpc_if (fun _ => fv_fX11_dot_30 h) (fun _ => zpc_bi (fv_fX3_width h) (fun σ1 v2 hσ1 => zpc_if (fun _ => fv_fX11_dot_30 hσ1) (fun _ => zpc_if (fun _ => fv_fX11_dot_30 hσ1) (fun _ => zpc_bi (fv_fX3_height hσ1) (fun σ3 v4 hσ3 => zpc_if (fun _ => zpc_bi (fv_fX3_dotAt hσ3) (fun σ5 v6 hσ5 => zpc_some hσ5)) (fun _ => fv_fX11_dot_30 hσ3))))))
theorem fv_fX11_row_15 {σ0 : zSt} {σ : zSt} (h : (zQ [3, 5, 7, 9, 10, 11, 12, 15, 17, 19, 21, 23, 25, 27, 28, 29, 30, 32, 34, 36, 40, 42, 44, 45] [] [5, 38, 46, 48] []) σ0 σ) : zpc (fX11_row_15 σ) (fun r => (zQ [3, 5, 7, 9, 10, 11, 12, 15, 17, 19, 21, 23, 25, 27, 28, 29, 30, 32, 34, 36, 40, 42, 44, 45] [] [5, 38, 46, 48] []) σ0 (zRis r)) := by
  unfold fX11_row_15
  exact zpc_some h
theorem fv_fX11_row {σ0 : zSt} {σ : zSt} {x1 : Int32} (h : (zQ [3, 5, 7, 9, 10, 11, 12, 15, 17, 19, 21, 23, 25, 27, 28, 29, 30, 32, 34, 36, 40, 42, 44, 45] [] [5, 38, 46, 48] []) σ0 σ) : zpc (fX11_row σ x1) (fun r => (zQ [3, 5, 7, 9, 10, 11, 12, 15, 17, 19, 21, 23, 25, 27, 28, 29, 30, 32, 34, 36, 40, 42, 44, 45] [] [5, 38, 46, 48] []) σ0 (zRis r)) := by
  unfold fX11_row
  exact zpc_if (fun _ => fv_fX11_row_15 h) (fun _ => zpc_bi (fv_fX3_height h) (fun σ1 v2 hσ1 => zpc_if (fun _ => zpc_bi (fv_fX3_sumOfLine hσ1) (fun σ3 v4 hσ3 => zpc_some hσ3)) (fun _ => fv_fX11_row_15 hσ1)))
theorem fv_fX11_hear {σ0 : zSt} {σ : zSt} (h : (zQ [3, 5, 7, 9, 10, 11, 12, 15, 17, 19, 21, 23, 25, 27, 28, 29, 30, 32, 34, 36, 40, 42, 44, 45] [] [5, 38, 46, 48] []) σ0 σ) : zpc (fX11_hear σ) (fun r => (zQ [3, 5, 7, 9, 10, 11, 12, 15, 17, 19, 21, 23, 25, 27, 28, 29, 30, 32, 34, 36, 40, 42, 44, 45] [] [5, 38, 46, 48] []) σ0 (zRls r)) := by
  unfold fX11_hear
  exact zpc_bi (fv_fX6_size_k11 h) (fun σ1 v2 hσ1 => zpc_if (fun _ => zpc_some hσ1) (fun _ => zpc_bll (fv_fX6_takeFirst_k11 hσ1) (fun σ3 v4 hσ3 => zpc_some hσ3)))
theorem fv_fX11_mix {σ0 : zSt} {σ : zSt} (h : (zQ [3, 5, 7, 9, 10, 11, 12, 15, 17, 19, 21, 23, 25, 27, 28, 29, 30, 32, 34, 36, 40, 42, 44, 45] [] [5, 38, 46, 48] []) σ0 σ) : zpc (fX11_mix σ) (fun r => (zQ [3, 5, 7, 9, 10, 11, 12, 15, 17, 19, 21, 23, 25, 27, 28, 29, 30, 32, 34, 36, 40, 42, 44, 45] [] [5, 38, 46, 48] []) σ0 (zRls r)) := by
  unfold fX11_mix
  exact zpc_bi (fv_fX6_size_k12 h) (fun σ1 v2 hσ1 => zpc_if (fun _ => zpc_some hσ1) (fun _ => zpc_bll (fv_fX6_takeFirst_k12 hσ1) (fun σ3 v4 hσ3 => zpc_some hσ3)))
theorem fv_fX11_wave {σ0 : zSt} {σ : zSt} {x1 : Int32} (h : (zQ [3, 5, 7, 9, 10, 11, 12, 15, 17, 19, 21, 23, 25, 27, 28, 29, 30, 32, 34, 36, 40, 42, 44, 45] [] [5, 38, 46, 48] []) σ0 σ) : zpc (fX11_wave σ x1) (fun r => (zQ [3, 5, 7, 9, 10, 11, 12, 15, 17, 19, 21, 23, 25, 27, 28, 29, 30, 32, 34, 36, 40, 42, 44, 45] [] [5, 38, 46, 48] []) σ0 (zRis r)) := by
  unfold fX11_wave
  exact zpc_bi (fv_fX10_has h) (fun σ1 v2 hσ1 => zpc_if (fun _ => zpc_some hσ1) (fun _ => zpc_bi (fv_fX10_value hσ1) (fun σ3 v4 hσ3 => zpc_some hσ3)))
theorem fv_fX11_sound_10 {σ0 : zSt} {σ : zSt} (h : (zQ [3, 5, 7, 9, 10, 11, 12, 15, 17, 19, 21, 23, 25, 27, 28, 29, 30, 32, 34, 36, 40, 42, 44, 45] [] [5, 38, 46, 48] []) σ0 σ) : zpc (fX11_sound_10 σ) (fun r => (zQ [3, 5, 7, 9, 10, 11, 12, 15, 17, 19, 21, 23, 25, 27, 28, 29, 30, 32, 34, 36, 40, 42, 44, 45] [] [5, 38, 46, 48] []) σ0 (zRis r)) := by
  unfold fX11_sound_10
  exact zpc_some h
theorem fv_fX11_sound {σ0 : zSt} {σ : zSt} {x1 : Int32} (h : (zQ [3, 5, 7, 9, 10, 11, 12, 15, 17, 19, 21, 23, 25, 27, 28, 29, 30, 32, 34, 36, 40, 42, 44, 45] [] [5, 38, 46, 48] []) σ0 σ) : zpc (fX11_sound σ x1) (fun r => (zQ [3, 5, 7, 9, 10, 11, 12, 15, 17, 19, 21, 23, 25, 27, 28, 29, 30, 32, 34, 36, 40, 42, 44, 45] [] [5, 38, 46, 48] []) σ0 (zRis r)) := by
  unfold fX11_sound
  exact zpc_if (fun _ => fv_fX11_sound_10 h) (fun _ => zpc_if (fun _ => zpc_bi (fv_fX7_value h) (fun σ1 v2 hσ1 => zpc_some hσ1)) (fun _ => fv_fX11_sound_10 h))
theorem fv_fX11_look_10 {σ0 : zSt} {σ : zSt} (h : (zQ [3, 5, 7, 9, 10, 11, 12, 15, 17, 19, 21, 23, 25, 27, 28, 29, 30, 32, 34, 36, 40, 42, 44, 45] [] [5, 38, 46, 48] []) σ0 σ) : zpc (fX11_look_10 σ) (fun r => (zQ [3, 5, 7, 9, 10, 11, 12, 15, 17, 19, 21, 23, 25, 27, 28, 29, 30, 32, 34, 36, 40, 42, 44, 45] [] [5, 38, 46, 48] []) σ0 (zRls r)) := by
  unfold fX11_look_10
  exact zpc_some h
theorem fv_fX11_look_193 {σ0 : zSt} {σ : zSt} {x1 : Int32} (h : (zQ [3, 5, 7, 9, 10, 11, 12, 15, 17, 19, 21, 23, 25, 27, 28, 29, 30, 32, 34, 36, 40, 42, 44, 45] [] [5, 38, 46, 48] []) σ0 σ) : zpc (fX11_look_193 σ x1) (fun r => (zQ [3, 5, 7, 9, 10, 11, 12, 15, 17, 19, 21, 23, 25, 27, 28, 29, 30, 32, 34, 36, 40, 42, 44, 45] [] [5, 38, 46, 48] []) σ0 (zRls r)) := by
  unfold fX11_look_193
  exact zpc_bi (fv_fX2_page h) (fun σ1 v2 hσ1 => zpc_some hσ1)
theorem fv_fX11_look_250 {σ0 : zSt} {σ : zSt} {s0 : Int64} (h : (zQ [3, 5, 7, 9, 10, 11, 12, 15, 17, 19, 21, 23, 25, 27, 28, 29, 30, 32, 34, 36, 40, 42, 44, 45] [] [5, 38, 46, 48] []) σ0 σ) : zpc (fX11_look_250 σ s0) (fun r => (zQ [3, 5, 7, 9, 10, 11, 12, 15, 17, 19, 21, 23, 25, 27, 28, 29, 30, 32, 34, 36, 40, 42, 44, 45] [] [5, 38, 46, 48] []) σ0 (zRls r)) := by
  unfold fX11_look_250
  exact zpc_some h
theorem fv_fX11_look {σ0 : zSt} {σ : zSt} {x1 : Int32} (h : (zQ [3, 5, 7, 9, 10, 11, 12, 15, 17, 19, 21, 23, 25, 27, 28, 29, 30, 32, 34, 36, 40, 42, 44, 45] [] [5, 38, 46, 48] []) σ0 σ) : zpc (fX11_look σ x1) (fun r => (zQ [3, 5, 7, 9, 10, 11, 12, 15, 17, 19, 21, 23, 25, 27, 28, 29, 30, 32, 34, 36, 40, 42, 44, 45] [] [5, 38, 46, 48] []) σ0 (zRls r)) := by
  unfold fX11_look
  exact zpc_if (fun _ => fv_fX11_look_10 h) (fun _ => zpc_if (fun _ => zpc_if (fun _ => zpc_bll (fv_fX0_count h) (fun σ3 v4 hσ3 => zpc_some hσ3)) (fun _ => zpc_if (fun _ => zpc_bll (fv_fX0_count h) (fun σ5 v6 hσ5 => zpc_some hσ5)) (fun _ => zpc_if (fun _ => zpc_bll (fv_fX0_count h) (fun σ7 v8 hσ7 => zpc_some hσ7)) (fun _ => zpc_if (fun _ => zpc_bi (fv_fX6_size_k11 h) (fun σ9 v10 hσ9 => zpc_some hσ9)) (fun _ => zpc_if (fun _ => zpc_bll (fv_fX0_count h) (fun σ11 v12 hσ11 => zpc_some hσ11)) (fun _ => zpc_if (fun _ => zpc_some h) (fun _ => zpc_if (fun _ => zpc_bi (fv_fX1_stopCount h) (fun σ13 v14 hσ13 => zpc_some hσ13)) (fun _ => zpc_if (fun _ => zpc_bi (fv_fX2_cardSize h) (fun σ15 v16 hσ15 => zpc_some hσ15)) (fun _ => zpc_if (fun _ => zpc_bi (fv_fX2_page h) (fun σ17 v18 hσ17 => zpc_some hσ17)) (fun _ => zpc_if (fun _ => fv_fX11_look_193 h) (fun _ => zpc_if (fun _ => fv_fX11_look_193 h) (fun _ => zpc_if (fun _ => fv_fX11_look_193 h) (fun _ => zpc_if (fun _ => zpc_bi (fv_fX5_value h) (fun σ19 v20 hσ19 => zpc_some hσ19)) (fun _ => zpc_if (fun _ => zpc_bi (fv_fX4_value h) (fun σ21 v22 hσ21 => zpc_some hσ21)) (fun _ => zpc_if (fun _ => zpc_bi (fv_fX4_value h) (fun σ23 v24 hσ23 => zpc_some hσ23)) (fun _ => zpc_if (fun _ => zpc_if (fun _ => fv_fX11_look_250 h) (fun _ => fv_fX11_look_250 h)) (fun _ => zpc_if (fun _ => zpc_bi (fv_fX1_plansWaiting h) (fun σ25 v26 hσ25 => zpc_some hσ25)) (fun _ => zpc_if (fun _ => zpc_bi (fv_fX6_size_k12 h) (fun σ27 v28 hσ27 => zpc_some hσ27)) (fun _ => zpc_some h))))))))))))))))))) (fun _ => fv_fX11_look_10 h))
theorem fV_fX12_fails_10 {σ0 : zSt} {σ : zSt} {x1 : Int32} {s0 : Int32} (h : (zQ [3, 5, 6, 7, 8, 9, 21, 22, 23, 24, 25, 26] [(0, 0, 0), (0, 31, 33), (0, 39, 49)] [4, 10, 11] [(0, 30, 30)]) σ0 σ) : zpc (fX12_fails_10 σ x1 s0) (fun r => (zQ [3, 5, 6, 7, 8, 9, 21, 22, 23, 24, 25, 26] [(0, 0, 0), (0, 31, 33), (0, 39, 49)] [4, 10, 11] [(0, 30, 30)]) σ0 (r.1)) := by
  unfold fX12_fails_10
  exact zpc_bs (zQ.wi h rfl) (fun σ1 hσ1 => zpc_ck (zpc_some hσ1))
theorem fV_fX12_fails {σ0 : zSt} {σ : zSt} {x1 : Int32} {x2 : Int32} (h : (zQ [3, 5, 6, 7, 8, 9, 21, 22, 23, 24, 25, 26] [(0, 0, 0), (0, 31, 33), (0, 39, 49)] [4, 10, 11] [(0, 30, 30)]) σ0 σ) : zpc (fX12_fails σ x1 x2) (fun r => (zQ [3, 5, 6, 7, 8, 9, 21, 22, 23, 24, 25, 26] [(0, 0, 0), (0, 31, 33), (0, 39, 49)] [4, 10, 11] [(0, 30, 30)]) σ0 (r.1)) := by
  unfold fX12_fails
  exact zpc_if (fun _ => fV_fX12_fails_10 h) (fun _ => fV_fX12_fails_10 h)
theorem fV_fX12_within_18 {σ0 : zSt} {σ : zSt} {s0 : Int32} (h : (zQ [3, 5, 6, 7, 8, 9, 21, 22, 23, 24, 25, 26] [(0, 0, 0), (0, 31, 33), (0, 39, 49)] [4, 10, 11] [(0, 30, 30)]) σ0 σ) : zpc (fX12_within_18 σ s0) (fun r => (zQ [3, 5, 6, 7, 8, 9, 21, 22, 23, 24, 25, 26] [(0, 0, 0), (0, 31, 33), (0, 39, 49)] [4, 10, 11] [(0, 30, 30)]) σ0 (r.1)) := by
  unfold fX12_within_18
  exact zpc_ck (zpc_some h)
theorem fV_fX12_within_17 {σ0 : zSt} {σ : zSt} (h : (zQ [3, 5, 6, 7, 8, 9, 21, 22, 23, 24, 25, 26] [(0, 0, 0), (0, 31, 33), (0, 39, 49)] [4, 10, 11] [(0, 30, 30)]) σ0 σ) : zpc (fX12_within_17 σ) (fun r => (zQ [3, 5, 6, 7, 8, 9, 21, 22, 23, 24, 25, 26] [(0, 0, 0), (0, 31, 33), (0, 39, 49)] [4, 10, 11] [(0, 30, 30)]) σ0 (r.1)) := by
  unfold fX12_within_17
  exact fV_fX12_within_18 h
theorem fV_fX12_within {σ0 : zSt} {σ : zSt} {x0 : Int64} {x2 : Int64} {x4 : Int64} (h : (zQ [3, 5, 6, 7, 8, 9, 21, 22, 23, 24, 25, 26] [(0, 0, 0), (0, 31, 33), (0, 39, 49)] [4, 10, 11] [(0, 30, 30)]) σ0 σ) : zpc (fX12_within σ x0 x2 x4) (fun r => (zQ [3, 5, 6, 7, 8, 9, 21, 22, 23, 24, 25, 26] [(0, 0, 0), (0, 31, 33), (0, 39, 49)] [4, 10, 11] [(0, 30, 30)]) σ0 (r.1)) := by
  unfold fX12_within
  exact zpc_if (fun _ => fV_fX12_within_17 h) (fun _ => zpc_if (fun _ => fV_fX12_within_17 h) (fun _ => fV_fX12_within_18 h))
theorem fV_fX12_bytesAt_7_body {σ0 : zSt} {k7 : zSt → Int32 → Int32 → Int32 → Option (zSt × Int32)} (hk7 : ∀ (y0 : zSt) (y1 : Int32) (y2 : Int32) (y3 : Int32), (zQ [3, 5, 6, 7, 8, 9, 21, 22, 23, 24, 25, 26] [(0, 0, 0), (0, 31, 33), (0, 39, 49)] [4, 10, 11] [(0, 30, 30)]) σ0 y0 → zpc (k7 y0 y1 y2 y3) (fun r => (zQ [3, 5, 6, 7, 8, 9, 21, 22, 23, 24, 25, 26] [(0, 0, 0), (0, 31, 33), (0, 39, 49)] [4, 10, 11] [(0, 30, 30)]) σ0 (r.1))) {σ : zSt} {x1 : Int32} {x3 : Int32} {x4 : Int32} (h : (zQ [3, 5, 6, 7, 8, 9, 21, 22, 23, 24, 25, 26] [(0, 0, 0), (0, 31, 33), (0, 39, 49)] [4, 10, 11] [(0, 30, 30)]) σ0 σ) : zpc (fX12_bytesAt_7_body k7 σ x1 x3 x4) (fun r => (zQ [3, 5, 6, 7, 8, 9, 21, 22, 23, 24, 25, 26] [(0, 0, 0), (0, 31, 33), (0, 39, 49)] [4, 10, 11] [(0, 30, 30)]) σ0 (r.1)) := by
  unfold fX12_bytesAt_7_body
  exact zpc_if (fun _ => zpc_some h) (fun _ => zpc_ck (zpc_bv (fun v1 _ => zpc_bv (fun v2 _ => hk7 _ _ _ _ h))))
theorem fV_fX12_bytesAt_7 {σ0 : zSt} : ∀ (n : Nat) (y0 : zSt) (y1 : Int32) (y2 : Int32) (y3 : Int32), (zQ [3, 5, 6, 7, 8, 9, 21, 22, 23, 24, 25, 26] [(0, 0, 0), (0, 31, 33), (0, 39, 49)] [4, 10, 11] [(0, 30, 30)]) σ0 y0 → zpc (fX12_bytesAt_7 n y0 y1 y2 y3) (fun r => (zQ [3, 5, 6, 7, 8, 9, 21, 22, 23, 24, 25, 26] [(0, 0, 0), (0, 31, 33), (0, 39, 49)] [4, 10, 11] [(0, 30, 30)]) σ0 (r.1)) := by
  intro n
  induction n with
  | zero => intro y0 y1 y2 y3 h; exact zpc_none
  | succ n ih => intro y0 y1 y2 y3 h; exact fV_fX12_bytesAt_7_body ih h
theorem fV_fX12_bytesAt {σ0 : zSt} {σ : zSt} {x1 : Int32} {x2 : Int32} (h : (zQ [3, 5, 6, 7, 8, 9, 21, 22, 23, 24, 25, 26] [(0, 0, 0), (0, 31, 33), (0, 39, 49)] [4, 10, 11] [(0, 30, 30)]) σ0 σ) : zpc (fX12_bytesAt σ x1 x2) (fun r => (zQ [3, 5, 6, 7, 8, 9, 21, 22, 23, 24, 25, 26] [(0, 0, 0), (0, 31, 33), (0, 39, 49)] [4, 10, 11] [(0, 30, 30)]) σ0 (r.1)) := by
  unfold fX12_bytesAt
  exact zpc_bv (fun v3 _ => fV_fX12_bytesAt_7 _ _ _ _ _ h)
theorem fV_fX12_anew_236 {σ0 : zSt} {k196 : zSt → Int32 → Option (zSt)} (hk196 : ∀ (y0 : zSt) (y1 : Int32), (zQ [3, 5, 6, 7, 8, 9, 21, 22, 23, 24, 25, 26] [(0, 0, 0), (0, 31, 33), (0, 39, 49)] [4, 10, 11] [(0, 30, 30)]) σ0 y0 → zpc (k196 y0 y1) (fun r => (zQ [3, 5, 6, 7, 8, 9, 21, 22, 23, 24, 25, 26] [(0, 0, 0), (0, 31, 33), (0, 39, 49)] [4, 10, 11] [(0, 30, 30)]) σ0 (r))) {σ : zSt} {x1 : Int32} {s0 : Int32} {s1 : Int32} (h : (zQ [3, 5, 6, 7, 8, 9, 21, 22, 23, 24, 25, 26] [(0, 0, 0), (0, 31, 33), (0, 39, 49)] [4, 10, 11] [(0, 30, 30)]) σ0 σ) : zpc (fX12_anew_236 k196 σ x1 s0 s1) (fun r => (zQ [3, 5, 6, 7, 8, 9, 21, 22, 23, 24, 25, 26] [(0, 0, 0), (0, 31, 33), (0, 39, 49)] [4, 10, 11] [(0, 30, 30)]) σ0 (r)) := by
  unfold fX12_anew_236
  exact zpc_ck (zpc_bs (zQ.wi h rfl) (fun σ1 hσ1 => zpc_bv (fun v2 _ => hk196 _ _ hσ1)))
theorem fV_fX12_anew_267_body {σ0 : zSt} {k267 : zSt → Int32 → Option (zSt)} (hk267 : ∀ (y0 : zSt) (y1 : Int32), (zQ [3, 5, 6, 7, 8, 9, 21, 22, 23, 24, 25, 26] [(0, 0, 0), (0, 31, 33), (0, 39, 49)] [4, 10, 11] [(0, 30, 30)]) σ0 y0 → zpc (k267 y0 y1) (fun r => (zQ [3, 5, 6, 7, 8, 9, 21, 22, 23, 24, 25, 26] [(0, 0, 0), (0, 31, 33), (0, 39, 49)] [4, 10, 11] [(0, 30, 30)]) σ0 (r))) {σ : zSt} {x1 : Int32} (h : (zQ [3, 5, 6, 7, 8, 9, 21, 22, 23, 24, 25, 26] [(0, 0, 0), (0, 31, 33), (0, 39, 49)] [4, 10, 11] [(0, 30, 30)]) σ0 σ) : zpc (fX12_anew_267_body k267 σ x1) (fun r => (zQ [3, 5, 6, 7, 8, 9, 21, 22, 23, 24, 25, 26] [(0, 0, 0), (0, 31, 33), (0, 39, 49)] [4, 10, 11] [(0, 30, 30)]) σ0 (r)) := by
  unfold fX12_anew_267_body
  exact zpc_if (fun _ => zpc_some h) (fun _ => zpc_ck (zpc_bs (zQ.wi h rfl) (fun σ3 hσ3 => zpc_bv (fun v4 _ => hk267 _ _ hσ3))))
theorem fV_fX12_anew_267 {σ0 : zSt} : ∀ (n : Nat) (y0 : zSt) (y1 : Int32), (zQ [3, 5, 6, 7, 8, 9, 21, 22, 23, 24, 25, 26] [(0, 0, 0), (0, 31, 33), (0, 39, 49)] [4, 10, 11] [(0, 30, 30)]) σ0 y0 → zpc (fX12_anew_267 n y0 y1) (fun r => (zQ [3, 5, 6, 7, 8, 9, 21, 22, 23, 24, 25, 26] [(0, 0, 0), (0, 31, 33), (0, 39, 49)] [4, 10, 11] [(0, 30, 30)]) σ0 (r)) := by
  intro n
  induction n with
  | zero => intro y0 y1 h; exact zpc_none
  | succ n ih => intro y0 y1 h; exact fV_fX12_anew_267_body ih h
theorem fV_fX12_anew_245_body {σ0 : zSt} {k245 : zSt → Int32 → Option (zSt)} (hk245 : ∀ (y0 : zSt) (y1 : Int32), (zQ [3, 5, 6, 7, 8, 9, 21, 22, 23, 24, 25, 26] [(0, 0, 0), (0, 31, 33), (0, 39, 49)] [4, 10, 11] [(0, 30, 30)]) σ0 y0 → zpc (k245 y0 y1) (fun r => (zQ [3, 5, 6, 7, 8, 9, 21, 22, 23, 24, 25, 26] [(0, 0, 0), (0, 31, 33), (0, 39, 49)] [4, 10, 11] [(0, 30, 30)]) σ0 (r))) {σ : zSt} {x1 : Int32} (h : (zQ [3, 5, 6, 7, 8, 9, 21, 22, 23, 24, 25, 26] [(0, 0, 0), (0, 31, 33), (0, 39, 49)] [4, 10, 11] [(0, 30, 30)]) σ0 σ) : zpc (fX12_anew_245_body k245 σ x1) (fun r => (zQ [3, 5, 6, 7, 8, 9, 21, 22, 23, 24, 25, 26] [(0, 0, 0), (0, 31, 33), (0, 39, 49)] [4, 10, 11] [(0, 30, 30)]) σ0 (r)) := by
  unfold fX12_anew_245_body
  exact zpc_if (fun _ => fV_fX12_anew_267 _ _ _ h) (fun _ => zpc_ck (zpc_bs (zQ.wi h rfl) (fun σ5 hσ5 => zpc_bv (fun v6 _ => hk245 _ _ hσ5))))
theorem fV_fX12_anew_245 {σ0 : zSt} : ∀ (n : Nat) (y0 : zSt) (y1 : Int32), (zQ [3, 5, 6, 7, 8, 9, 21, 22, 23, 24, 25, 26] [(0, 0, 0), (0, 31, 33), (0, 39, 49)] [4, 10, 11] [(0, 30, 30)]) σ0 y0 → zpc (fX12_anew_245 n y0 y1) (fun r => (zQ [3, 5, 6, 7, 8, 9, 21, 22, 23, 24, 25, 26] [(0, 0, 0), (0, 31, 33), (0, 39, 49)] [4, 10, 11] [(0, 30, 30)]) σ0 (r)) := by
  intro n
  induction n with
  | zero => intro y0 y1 h; exact zpc_none
  | succ n ih => intro y0 y1 h; exact fV_fX12_anew_245_body ih h
theorem fV_fX12_anew_196_body {σ0 : zSt} {k196 : zSt → Int32 → Option (zSt)} (hk196 : ∀ (y0 : zSt) (y1 : Int32), (zQ [3, 5, 6, 7, 8, 9, 21, 22, 23, 24, 25, 26] [(0, 0, 0), (0, 31, 33), (0, 39, 49)] [4, 10, 11] [(0, 30, 30)]) σ0 y0 → zpc (k196 y0 y1) (fun r => (zQ [3, 5, 6, 7, 8, 9, 21, 22, 23, 24, 25, 26] [(0, 0, 0), (0, 31, 33), (0, 39, 49)] [4, 10, 11] [(0, 30, 30)]) σ0 (r))) {σ : zSt} {x1 : Int32} (h : (zQ [3, 5, 6, 7, 8, 9, 21, 22, 23, 24, 25, 26] [(0, 0, 0), (0, 31, 33), (0, 39, 49)] [4, 10, 11] [(0, 30, 30)]) σ0 σ) : zpc (fX12_anew_196_body k196 σ x1) (fun r => (zQ [3, 5, 6, 7, 8, 9, 21, 22, 23, 24, 25, 26] [(0, 0, 0), (0, 31, 33), (0, 39, 49)] [4, 10, 11] [(0, 30, 30)]) σ0 (r)) := by
  unfold fX12_anew_196_body
  exact zpc_if (fun _ => fV_fX12_anew_245 _ _ _ h) (fun _ => zpc_ck (zpc_if (fun _ => fV_fX12_anew_236 hk196 h) (fun _ => zpc_ck (zpc_if (fun _ => fV_fX12_anew_236 hk196 h) (fun _ => fV_fX12_anew_236 hk196 h)))))
theorem fV_fX12_anew_196 {σ0 : zSt} : ∀ (n : Nat) (y0 : zSt) (y1 : Int32), (zQ [3, 5, 6, 7, 8, 9, 21, 22, 23, 24, 25, 26] [(0, 0, 0), (0, 31, 33), (0, 39, 49)] [4, 10, 11] [(0, 30, 30)]) σ0 y0 → zpc (fX12_anew_196 n y0 y1) (fun r => (zQ [3, 5, 6, 7, 8, 9, 21, 22, 23, 24, 25, 26] [(0, 0, 0), (0, 31, 33), (0, 39, 49)] [4, 10, 11] [(0, 30, 30)]) σ0 (r)) := by
  intro n
  induction n with
  | zero => intro y0 y1 h; exact zpc_none
  | succ n ih => intro y0 y1 h; exact fV_fX12_anew_196_body ih h
theorem fV_fX12_anew_165_body {σ0 : zSt} {k165 : zSt → Int32 → Option (zSt)} (hk165 : ∀ (y0 : zSt) (y1 : Int32), (zQ [3, 5, 6, 7, 8, 9, 21, 22, 23, 24, 25, 26] [(0, 0, 0), (0, 31, 33), (0, 39, 49)] [4, 10, 11] [(0, 30, 30)]) σ0 y0 → zpc (k165 y0 y1) (fun r => (zQ [3, 5, 6, 7, 8, 9, 21, 22, 23, 24, 25, 26] [(0, 0, 0), (0, 31, 33), (0, 39, 49)] [4, 10, 11] [(0, 30, 30)]) σ0 (r))) {σ : zSt} {x1 : Int32} (h : (zQ [3, 5, 6, 7, 8, 9, 21, 22, 23, 24, 25, 26] [(0, 0, 0), (0, 31, 33), (0, 39, 49)] [4, 10, 11] [(0, 30, 30)]) σ0 σ) : zpc (fX12_anew_165_body k165 σ x1) (fun r => (zQ [3, 5, 6, 7, 8, 9, 21, 22, 23, 24, 25, 26] [(0, 0, 0), (0, 31, 33), (0, 39, 49)] [4, 10, 11] [(0, 30, 30)]) σ0 (r)) := by
  unfold fX12_anew_165_body
  exact zpc_if (fun _ => zpc_ck (zpc_bs (zQ.wi h rfl) (fun σ7 hσ7 => fV_fX12_anew_196 _ _ _ hσ7))) (fun _ => zpc_ck (zpc_bs (zQ.wi h rfl) (fun σ8 hσ8 => zpc_bv (fun v9 _ => hk165 _ _ hσ8))))
theorem fV_fX12_anew_165 {σ0 : zSt} : ∀ (n : Nat) (y0 : zSt) (y1 : Int32), (zQ [3, 5, 6, 7, 8, 9, 21, 22, 23, 24, 25, 26] [(0, 0, 0), (0, 31, 33), (0, 39, 49)] [4, 10, 11] [(0, 30, 30)]) σ0 y0 → zpc (fX12_anew_165 n y0 y1) (fun r => (zQ [3, 5, 6, 7, 8, 9, 21, 22, 23, 24, 25, 26] [(0, 0, 0), (0, 31, 33), (0, 39, 49)] [4, 10, 11] [(0, 30, 30)]) σ0 (r)) := by
  intro n
  induction n with
  | zero => intro y0 y1 h; exact zpc_none
  | succ n ih => intro y0 y1 h; exact fV_fX12_anew_165_body ih h
theorem fV_fX12_anew_131_body {σ0 : zSt} {k131 : zSt → Int32 → Option (zSt)} (hk131 : ∀ (y0 : zSt) (y1 : Int32), (zQ [3, 5, 6, 7, 8, 9, 21, 22, 23, 24, 25, 26] [(0, 0, 0), (0, 31, 33), (0, 39, 49)] [4, 10, 11] [(0, 30, 30)]) σ0 y0 → zpc (k131 y0 y1) (fun r => (zQ [3, 5, 6, 7, 8, 9, 21, 22, 23, 24, 25, 26] [(0, 0, 0), (0, 31, 33), (0, 39, 49)] [4, 10, 11] [(0, 30, 30)]) σ0 (r))) {σ : zSt} {x1 : Int32} (h : (zQ [3, 5, 6, 7, 8, 9, 21, 22, 23, 24, 25, 26] [(0, 0, 0), (0, 31, 33), (0, 39, 49)] [4, 10, 11] [(0, 30, 30)]) σ0 σ) : zpc (fX12_anew_131_body k131 σ x1) (fun r => (zQ [3, 5, 6, 7, 8, 9, 21, 22, 23, 24, 25, 26] [(0, 0, 0), (0, 31, 33), (0, 39, 49)] [4, 10, 11] [(0, 30, 30)]) σ0 (r)) := by
  unfold fX12_anew_131_body
  exact zpc_if (fun _ => zpc_ck (zpc_bs (zQ.wi h rfl) (fun σ10 hσ10 => fV_fX12_anew_165 _ _ _ hσ10))) (fun _ => zpc_ck (zpc_bs (zQ.wi h rfl) (fun σ11 hσ11 => zpc_bv (fun v12 _ => hk131 _ _ hσ11))))
theorem fV_fX12_anew_131 {σ0 : zSt} : ∀ (n : Nat) (y0 : zSt) (y1 : Int32), (zQ [3, 5, 6, 7, 8, 9, 21, 22, 23, 24, 25, 26] [(0, 0, 0), (0, 31, 33), (0, 39, 49)] [4, 10, 11] [(0, 30, 30)]) σ0 y0 → zpc (fX12_anew_131 n y0 y1) (fun r => (zQ [3, 5, 6, 7, 8, 9, 21, 22, 23, 24, 25, 26] [(0, 0, 0), (0, 31, 33), (0, 39, 49)] [4, 10, 11] [(0, 30, 30)]) σ0 (r)) := by
  intro n
  induction n with
  | zero => intro y0 y1 h; exact zpc_none
  | succ n ih => intro y0 y1 h; exact fV_fX12_anew_131_body ih h
theorem fV_fX12_anew_79 {σ0 : zSt} {σ : zSt} {s0 : Int32} {s1 : Int32} (h : (zQ [3, 5, 6, 7, 8, 9, 21, 22, 23, 24, 25, 26] [(0, 0, 0), (0, 31, 33), (0, 39, 49)] [4, 10, 11] [(0, 30, 30)]) σ0 σ) : zpc (fX12_anew_79 σ s0 s1) (fun r => (zQ [3, 5, 6, 7, 8, 9, 21, 22, 23, 24, 25, 26] [(0, 0, 0), (0, 31, 33), (0, 39, 49)] [4, 10, 11] [(0, 30, 30)]) σ0 (r)) := by
  unfold fX12_anew_79
  exact zpc_ck (zpc_bs (zQ.wi h rfl) (fun σ13 hσ13 => zpc_ck (zpc_bs (zQ.wi hσ13 rfl) (fun σ14 hσ14 => zpc_ck (zpc_bs (zQ.wi hσ14 rfl) (fun σ15 hσ15 => zpc_ck (zpc_bs (zQ.wi hσ15 rfl) (fun σ16 hσ16 => zpc_ck (zpc_bs (zQ.wi hσ16 rfl) (fun σ17 hσ17 => zpc_ck (zpc_bs (zQ.wi hσ17 rfl) (fun σ18 hσ18 => fV_fX12_anew_131 _ _ _ hσ18))))))))))))
theorem fV_fX12_anew_24_body {σ0 : zSt} {k24 : zSt → Int32 → Option (zSt)} (hk24 : ∀ (y0 : zSt) (y1 : Int32), (zQ [3, 5, 6, 7, 8, 9, 21, 22, 23, 24, 25, 26] [(0, 0, 0), (0, 31, 33), (0, 39, 49)] [4, 10, 11] [(0, 30, 30)]) σ0 y0 → zpc (k24 y0 y1) (fun r => (zQ [3, 5, 6, 7, 8, 9, 21, 22, 23, 24, 25, 26] [(0, 0, 0), (0, 31, 33), (0, 39, 49)] [4, 10, 11] [(0, 30, 30)]) σ0 (r))) {σ : zSt} {x1 : Int32} (h : (zQ [3, 5, 6, 7, 8, 9, 21, 22, 23, 24, 25, 26] [(0, 0, 0), (0, 31, 33), (0, 39, 49)] [4, 10, 11] [(0, 30, 30)]) σ0 σ) : zpc (fX12_anew_24_body k24 σ x1) (fun r => (zQ [3, 5, 6, 7, 8, 9, 21, 22, 23, 24, 25, 26] [(0, 0, 0), (0, 31, 33), (0, 39, 49)] [4, 10, 11] [(0, 30, 30)]) σ0 (r)) := by
  unfold fX12_anew_24_body
  exact zpc_if (fun _ => zpc_ck (zpc_bs (zQ.wi h rfl) (fun σ19 hσ19 => zpc_ck (zpc_bs (zQ.wi hσ19 rfl) (fun σ20 hσ20 => zpc_if (fun _ => fV_fX12_anew_79 hσ20) (fun _ => fV_fX12_anew_79 hσ20)))))) (fun _ => zpc_ck (zpc_bs (zQ.wi h rfl) (fun σ21 hσ21 => zpc_bv (fun v22 _ => hk24 _ _ hσ21))))
theorem fV_fX12_anew_24 {σ0 : zSt} : ∀ (n : Nat) (y0 : zSt) (y1 : Int32), (zQ [3, 5, 6, 7, 8, 9, 21, 22, 23, 24, 25, 26] [(0, 0, 0), (0, 31, 33), (0, 39, 49)] [4, 10, 11] [(0, 30, 30)]) σ0 y0 → zpc (fX12_anew_24 n y0 y1) (fun r => (zQ [3, 5, 6, 7, 8, 9, 21, 22, 23, 24, 25, 26] [(0, 0, 0), (0, 31, 33), (0, 39, 49)] [4, 10, 11] [(0, 30, 30)]) σ0 (r)) := by
  intro n
  induction n with
  | zero => intro y0 y1 h; exact zpc_none
  | succ n ih => intro y0 y1 h; exact fV_fX12_anew_24_body ih h
theorem fV_fX12_anew_2_body {σ0 : zSt} {k2 : zSt → Int32 → Option (zSt)} (hk2 : ∀ (y0 : zSt) (y1 : Int32), (zQ [3, 5, 6, 7, 8, 9, 21, 22, 23, 24, 25, 26] [(0, 0, 0), (0, 31, 33), (0, 39, 49)] [4, 10, 11] [(0, 30, 30)]) σ0 y0 → zpc (k2 y0 y1) (fun r => (zQ [3, 5, 6, 7, 8, 9, 21, 22, 23, 24, 25, 26] [(0, 0, 0), (0, 31, 33), (0, 39, 49)] [4, 10, 11] [(0, 30, 30)]) σ0 (r))) {σ : zSt} {x1 : Int32} (h : (zQ [3, 5, 6, 7, 8, 9, 21, 22, 23, 24, 25, 26] [(0, 0, 0), (0, 31, 33), (0, 39, 49)] [4, 10, 11] [(0, 30, 30)]) σ0 σ) : zpc (fX12_anew_2_body k2 σ x1) (fun r => (zQ [3, 5, 6, 7, 8, 9, 21, 22, 23, 24, 25, 26] [(0, 0, 0), (0, 31, 33), (0, 39, 49)] [4, 10, 11] [(0, 30, 30)]) σ0 (r)) := by
  unfold fX12_anew_2_body
  exact zpc_if (fun _ => fV_fX12_anew_24 _ _ _ h) (fun _ => zpc_ck (zpc_bs (zQ.wi h rfl) (fun σ23 hσ23 => zpc_bv (fun v24 _ => hk2 _ _ hσ23))))
theorem fV_fX12_anew_2 {σ0 : zSt} : ∀ (n : Nat) (y0 : zSt) (y1 : Int32), (zQ [3, 5, 6, 7, 8, 9, 21, 22, 23, 24, 25, 26] [(0, 0, 0), (0, 31, 33), (0, 39, 49)] [4, 10, 11] [(0, 30, 30)]) σ0 y0 → zpc (fX12_anew_2 n y0 y1) (fun r => (zQ [3, 5, 6, 7, 8, 9, 21, 22, 23, 24, 25, 26] [(0, 0, 0), (0, 31, 33), (0, 39, 49)] [4, 10, 11] [(0, 30, 30)]) σ0 (r)) := by
  intro n
  induction n with
  | zero => intro y0 y1 h; exact zpc_none
  | succ n ih => intro y0 y1 h; exact fV_fX12_anew_2_body ih h
theorem fV_fX12_anew {σ0 : zSt} {σ : zSt} (h : (zQ [3, 5, 6, 7, 8, 9, 21, 22, 23, 24, 25, 26] [(0, 0, 0), (0, 31, 33), (0, 39, 49)] [4, 10, 11] [(0, 30, 30)]) σ0 σ) : zpc (fX12_anew σ) (fun r => (zQ [3, 5, 6, 7, 8, 9, 21, 22, 23, 24, 25, 26] [(0, 0, 0), (0, 31, 33), (0, 39, 49)] [4, 10, 11] [(0, 30, 30)]) σ0 (r)) := by
  unfold fX12_anew
  exact fV_fX12_anew_2 _ _ _ h
theorem fV_fX12_tens {σ0 : zSt} {σ : zSt} {x1 : Int32} (h : (zQ [3, 5, 6, 7, 8, 9, 21, 22, 23, 24, 25, 26] [(0, 0, 0), (0, 31, 33), (0, 39, 49)] [4, 10, 11] [(0, 30, 30)]) σ0 σ) : zpc (fX12_tens σ x1) (fun r => (zQ [3, 5, 6, 7, 8, 9, 21, 22, 23, 24, 25, 26] [(0, 0, 0), (0, 31, 33), (0, 39, 49)] [4, 10, 11] [(0, 30, 30)]) σ0 (r.1)) := by
  unfold fX12_tens
  exact zpc_ck (zpc_ck (zpc_some h))
theorem fV_fX12_card_59 {σ0 : zSt} {σ : zSt} {s0 : Int32} (h : (zQ [3, 5, 6, 7, 8, 9, 21, 22, 23, 24, 25, 26] [(0, 0, 0), (0, 31, 33), (0, 39, 49)] [4, 10, 11] [(0, 30, 30)]) σ0 σ) : zpc (fX12_card_59 σ s0) (fun r => (zQ [3, 5, 6, 7, 8, 9, 21, 22, 23, 24, 25, 26] [(0, 0, 0), (0, 31, 33), (0, 39, 49)] [4, 10, 11] [(0, 30, 30)]) σ0 (r.1)) := by
  unfold fX12_card_59
  exact zpc_some h
theorem fV_fX12_card_18 {σ0 : zSt} {σ : zSt} {x1 : Int32} {s0 : Int32} (h : (zQ [3, 5, 6, 7, 8, 9, 21, 22, 23, 24, 25, 26] [(0, 0, 0), (0, 31, 33), (0, 39, 49)] [4, 10, 11] [(0, 30, 30)]) σ0 σ) : zpc (fX12_card_18 σ x1 s0) (fun r => (zQ [3, 5, 6, 7, 8, 9, 21, 22, 23, 24, 25, 26] [(0, 0, 0), (0, 31, 33), (0, 39, 49)] [4, 10, 11] [(0, 30, 30)]) σ0 (r.1)) := by
  unfold fX12_card_18
  exact zpc_bi (fV_fX12_fails h) (fun σ1 v2 hσ1 => zpc_if (fun _ => zpc_if (fun _ => zpc_if (fun _ => zpc_if (fun _ => zpc_bi (fV_fX12_tens hσ1) (fun σ3 v4 hσ3 => zpc_bi (fV_fX12_tens hσ3) (fun σ5 v6 hσ5 => zpc_ck (zpc_some hσ5)))) (fun _ => zpc_if (fun _ => zpc_ck (zpc_some hσ1)) (fun _ => zpc_if (fun _ => zpc_ck (zpc_some hσ1)) (fun _ => zpc_if (fun _ => zpc_bi (fV_fX12_bytesAt hσ1) (fun σ7 v8 hσ7 => zpc_some hσ7)) (fun _ => zpc_some hσ1))))) (fun _ => zpc_some hσ1)) (fun _ => zpc_if (fun _ => fV_fX12_card_59 hσ1) (fun _ => zpc_if (fun _ => fV_fX12_card_59 hσ1) (fun _ => fV_fX12_card_59 hσ1)))) (fun _ => zpc_some hσ1))
theorem fV_fX12_card {σ0 : zSt} {σ : zSt} {x1 : Int32} (h : (zQ [3, 5, 6, 7, 8, 9, 21, 22, 23, 24, 25, 26] [(0, 0, 0), (0, 31, 33), (0, 39, 49)] [4, 10, 11] [(0, 30, 30)]) σ0 σ) : zpc (fX12_card σ x1) (fun r => (zQ [3, 5, 6, 7, 8, 9, 21, 22, 23, 24, 25, 26] [(0, 0, 0), (0, 31, 33), (0, 39, 49)] [4, 10, 11] [(0, 30, 30)]) σ0 (r.1)) := by
  unfold fX12_card
  exact zpc_bi (fV_fX12_within h) (fun σ9 v10 hσ9 => zpc_if (fun _ => fV_fX12_card_18 hσ9) (fun _ => fV_fX12_card_18 hσ9))
theorem fV_fX12_ofBank {σ0 : zSt} {σ : zSt} {x1 : Int32} {x2 : Int32} (h : (zQ [3, 5, 6, 7, 8, 9, 21, 22, 23, 24, 25, 26] [(0, 0, 0), (0, 31, 33), (0, 39, 49)] [4, 10, 11] [(0, 30, 30)]) σ0 σ) : zpc (fX12_ofBank σ x1 x2) (fun r => (zQ [3, 5, 6, 7, 8, 9, 21, 22, 23, 24, 25, 26] [(0, 0, 0), (0, 31, 33), (0, 39, 49)] [4, 10, 11] [(0, 30, 30)]) σ0 (r.1)) := by
  unfold fX12_ofBank
  exact zpc_ck (zpc_ck (zpc_ck (zpc_some h)))
theorem fV_fX12_isBattery_38 {σ0 : zSt} {σ : zSt} {s0 : Int32} (h : (zQ [3, 5, 6, 7, 8, 9, 21, 22, 23, 24, 25, 26] [(0, 0, 0), (0, 31, 33), (0, 39, 49)] [4, 10, 11] [(0, 30, 30)]) σ0 σ) : zpc (fX12_isBattery_38 σ s0) (fun r => (zQ [3, 5, 6, 7, 8, 9, 21, 22, 23, 24, 25, 26] [(0, 0, 0), (0, 31, 33), (0, 39, 49)] [4, 10, 11] [(0, 30, 30)]) σ0 (r.1)) := by
  unfold fX12_isBattery_38
  exact zpc_ck (zpc_some h)
theorem fV_fX12_isBattery_37 {σ0 : zSt} {σ : zSt} (h : (zQ [3, 5, 6, 7, 8, 9, 21, 22, 23, 24, 25, 26] [(0, 0, 0), (0, 31, 33), (0, 39, 49)] [4, 10, 11] [(0, 30, 30)]) σ0 σ) : zpc (fX12_isBattery_37 σ) (fun r => (zQ [3, 5, 6, 7, 8, 9, 21, 22, 23, 24, 25, 26] [(0, 0, 0), (0, 31, 33), (0, 39, 49)] [4, 10, 11] [(0, 30, 30)]) σ0 (r.1)) := by
  unfold fX12_isBattery_37
  exact fV_fX12_isBattery_38 h
theorem fV_fX12_isBattery {σ0 : zSt} {σ : zSt} {x1 : Int32} (h : (zQ [3, 5, 6, 7, 8, 9, 21, 22, 23, 24, 25, 26] [(0, 0, 0), (0, 31, 33), (0, 39, 49)] [4, 10, 11] [(0, 30, 30)]) σ0 σ) : zpc (fX12_isBattery σ x1) (fun r => (zQ [3, 5, 6, 7, 8, 9, 21, 22, 23, 24, 25, 26] [(0, 0, 0), (0, 31, 33), (0, 39, 49)] [4, 10, 11] [(0, 30, 30)]) σ0 (r.1)) := by
  unfold fX12_isBattery
  exact zpc_if (fun _ => zpc_ck (zpc_if (fun _ => fV_fX12_isBattery_37 h) (fun _ => zpc_if (fun _ => fV_fX12_isBattery_37 h) (fun _ => zpc_if (fun _ => fV_fX12_isBattery_37 h) (fun _ => fV_fX12_isBattery_38 h))))) (fun _ => fV_fX12_isBattery_37 h)
theorem fV_fX12_batteryAt_23 {σ0 : zSt} {σ : zSt} {s0 : Int32} {s1 : Int32} (h : (zQ [3, 5, 6, 7, 8, 9, 21, 22, 23, 24, 25, 26] [(0, 0, 0), (0, 31, 33), (0, 39, 49)] [4, 10, 11] [(0, 30, 30)]) σ0 σ) : zpc (fX12_batteryAt_23 σ s0 s1) (fun r => (zQ [3, 5, 6, 7, 8, 9, 21, 22, 23, 24, 25, 26] [(0, 0, 0), (0, 31, 33), (0, 39, 49)] [4, 10, 11] [(0, 30, 30)]) σ0 (r.1)) := by
  unfold fX12_batteryAt_23
  exact zpc_some h
theorem fV_fX12_batteryAt {σ0 : zSt} {σ : zSt} {x1 : Int32} (h : (zQ [3, 5, 6, 7, 8, 9, 21, 22, 23, 24, 25, 26] [(0, 0, 0), (0, 31, 33), (0, 39, 49)] [4, 10, 11] [(0, 30, 30)]) σ0 σ) : zpc (fX12_batteryAt σ x1) (fun r => (zQ [3, 5, 6, 7, 8, 9, 21, 22, 23, 24, 25, 26] [(0, 0, 0), (0, 31, 33), (0, 39, 49)] [4, 10, 11] [(0, 30, 30)]) σ0 (r.1)) := by
  unfold fX12_batteryAt
  exact zpc_ck (zpc_if (fun _ => fV_fX12_batteryAt_23 h) (fun _ => fV_fX12_batteryAt_23 h))
theorem fV_fX12_read_80 {σ0 : zSt} {σ : zSt} {s0 : Int32} (h : (zQ [3, 5, 6, 7, 8, 9, 21, 22, 23, 24, 25, 26] [(0, 0, 0), (0, 31, 33), (0, 39, 49)] [4, 10, 11] [(0, 30, 30)]) σ0 σ) : zpc (fX12_read_80 σ s0) (fun r => (zQ [3, 5, 6, 7, 8, 9, 21, 22, 23, 24, 25, 26] [(0, 0, 0), (0, 31, 33), (0, 39, 49)] [4, 10, 11] [(0, 30, 30)]) σ0 (r.1)) := by
  unfold fX12_read_80
  exact zpc_some h
theorem fV_fX12_read_111 {σ0 : zSt} {σ : zSt} {x2 : Int32} {s0 : Int32} (h : (zQ [3, 5, 6, 7, 8, 9, 21, 22, 23, 24, 25, 26] [(0, 0, 0), (0, 31, 33), (0, 39, 49)] [4, 10, 11] [(0, 30, 30)]) σ0 σ) : zpc (fX12_read_111 σ x2 s0) (fun r => (zQ [3, 5, 6, 7, 8, 9, 21, 22, 23, 24, 25, 26] [(0, 0, 0), (0, 31, 33), (0, 39, 49)] [4, 10, 11] [(0, 30, 30)]) σ0 (r.1)) := by
  unfold fX12_read_111
  exact zpc_bi (fV_fX12_ofBank h) (fun σ1 v2 hσ1 => zpc_some hσ1)
theorem fV_fX12_read_138 {σ0 : zSt} {σ : zSt} {x2 : Int32} (h : (zQ [3, 5, 6, 7, 8, 9, 21, 22, 23, 24, 25, 26] [(0, 0, 0), (0, 31, 33), (0, 39, 49)] [4, 10, 11] [(0, 30, 30)]) σ0 σ) : zpc (fX12_read_138 σ x2) (fun r => (zQ [3, 5, 6, 7, 8, 9, 21, 22, 23, 24, 25, 26] [(0, 0, 0), (0, 31, 33), (0, 39, 49)] [4, 10, 11] [(0, 30, 30)]) σ0 (r.1)) := by
  unfold fX12_read_138
  exact zpc_ck (zpc_ck (zpc_bi (fV_fX12_ofBank h) (fun σ3 v4 hσ3 => zpc_some hσ3)))
theorem fV_fX12_read {σ0 : zSt} {σ : zSt} {x1 : Int32} (h : (zQ [3, 5, 6, 7, 8, 9, 21, 22, 23, 24, 25, 26] [(0, 0, 0), (0, 31, 33), (0, 39, 49)] [4, 10, 11] [(0, 30, 30)]) σ0 σ) : zpc (fX12_read σ x1) (fun r => (zQ [3, 5, 6, 7, 8, 9, 21, 22, 23, 24, 25, 26] [(0, 0, 0), (0, 31, 33), (0, 39, 49)] [4, 10, 11] [(0, 30, 30)]) σ0 (r.1)) := by
  unfold fX12_read
  exact zpc_bv (fun v5 _ => zpc_if (fun _ => zpc_bi (fV_fX12_isBattery h) (fun σ6 v7 hσ6 => zpc_if (fun _ => zpc_if (fun _ => zpc_if (fun _ => fV_fX12_read_80 hσ6) (fun _ => zpc_ck (fV_fX12_read_80 hσ6))) (fun _ => zpc_if (fun _ => zpc_if (fun _ => zpc_ck (fV_fX12_read_111 hσ6)) (fun _ => zpc_ck (fV_fX12_read_111 hσ6))) (fun _ => zpc_if (fun _ => zpc_if (fun _ => fV_fX12_read_138 hσ6) (fun _ => zpc_bi (fV_fX12_ofBank hσ6) (fun σ8 v9 hσ8 => zpc_some hσ8))) (fun _ => fV_fX12_read_138 hσ6)))) (fun _ => zpc_bi (fV_fX12_batteryAt hσ6) (fun σ10 v11 hσ10 => zpc_ck (zpc_some hσ10))))) (fun _ => zpc_ck (zpc_ck (zpc_some h))))
theorem fV_fX12_write_163 {σ0 : zSt} {σ : zSt} (h : (zQ [3, 5, 6, 7, 8, 9, 21, 22, 23, 24, 25, 26] [(0, 0, 0), (0, 31, 33), (0, 39, 49)] [4, 10, 11] [(0, 30, 30)]) σ0 σ) : zpc (fX12_write_163 σ) (fun r => (zQ [3, 5, 6, 7, 8, 9, 21, 22, 23, 24, 25, 26] [(0, 0, 0), (0, 31, 33), (0, 39, 49)] [4, 10, 11] [(0, 30, 30)]) σ0 (r)) := by
  unfold fX12_write_163
  exact zpc_some h
theorem fV_fX12_write_140 {σ0 : zSt} {σ : zSt} {x3 : Int32} {x4 : Int32} (h : (zQ [3, 5, 6, 7, 8, 9, 21, 22, 23, 24, 25, 26] [(0, 0, 0), (0, 31, 33), (0, 39, 49)] [4, 10, 11] [(0, 30, 30)]) σ0 σ) : zpc (fX12_write_140 σ x3 x4) (fun r => (zQ [3, 5, 6, 7, 8, 9, 21, 22, 23, 24, 25, 26] [(0, 0, 0), (0, 31, 33), (0, 39, 49)] [4, 10, 11] [(0, 30, 30)]) σ0 (r)) := by
  unfold fX12_write_140
  exact zpc_if (fun _ => zpc_if (fun _ => zpc_ck (zpc_bs (zQ.wi h rfl) (fun σ1 hσ1 => fV_fX12_write_163 hσ1))) (fun _ => fV_fX12_write_163 h)) (fun _ => fV_fX12_write_163 h)
theorem fV_fX12_write_103 {σ0 : zSt} {σ : zSt} {x3 : Int32} {x4 : Int32} (h : (zQ [3, 5, 6, 7, 8, 9, 21, 22, 23, 24, 25, 26] [(0, 0, 0), (0, 31, 33), (0, 39, 49)] [4, 10, 11] [(0, 30, 30)]) σ0 σ) : zpc (fX12_write_103 σ x3 x4) (fun r => (zQ [3, 5, 6, 7, 8, 9, 21, 22, 23, 24, 25, 26] [(0, 0, 0), (0, 31, 33), (0, 39, 49)] [4, 10, 11] [(0, 30, 30)]) σ0 (r)) := by
  unfold fX12_write_103
  exact zpc_if (fun _ => zpc_if (fun _ => fV_fX12_write_140 h) (fun _ => zpc_ck (zpc_if (fun _ => zpc_ck (zpc_ck (zpc_bs (zQ.wi h rfl) (fun σ2 hσ2 => fV_fX12_write_140 hσ2)))) (fun _ => fV_fX12_write_140 h)))) (fun _ => fV_fX12_write_140 h)
theorem fV_fX12_write_75 {σ0 : zSt} {σ : zSt} {x3 : Int32} {x4 : Int32} (h : (zQ [3, 5, 6, 7, 8, 9, 21, 22, 23, 24, 25, 26] [(0, 0, 0), (0, 31, 33), (0, 39, 49)] [4, 10, 11] [(0, 30, 30)]) σ0 σ) : zpc (fX12_write_75 σ x3 x4) (fun r => (zQ [3, 5, 6, 7, 8, 9, 21, 22, 23, 24, 25, 26] [(0, 0, 0), (0, 31, 33), (0, 39, 49)] [4, 10, 11] [(0, 30, 30)]) σ0 (r)) := by
  unfold fX12_write_75
  exact zpc_if (fun _ => zpc_if (fun _ => fV_fX12_write_103 h) (fun _ => zpc_ck (zpc_bs (zQ.wi h rfl) (fun σ3 hσ3 => fV_fX12_write_103 hσ3)))) (fun _ => fV_fX12_write_103 h)
theorem fV_fX12_write_52 {σ0 : zSt} {σ : zSt} {x3 : Int32} {x4 : Int32} (h : (zQ [3, 5, 6, 7, 8, 9, 21, 22, 23, 24, 25, 26] [(0, 0, 0), (0, 31, 33), (0, 39, 49)] [4, 10, 11] [(0, 30, 30)]) σ0 σ) : zpc (fX12_write_52 σ x3 x4) (fun r => (zQ [3, 5, 6, 7, 8, 9, 21, 22, 23, 24, 25, 26] [(0, 0, 0), (0, 31, 33), (0, 39, 49)] [4, 10, 11] [(0, 30, 30)]) σ0 (r)) := by
  unfold fX12_write_52
  exact zpc_if (fun _ => zpc_if (fun _ => zpc_ck (zpc_bs (zQ.wi h rfl) (fun σ4 hσ4 => fV_fX12_write_75 hσ4))) (fun _ => fV_fX12_write_75 h)) (fun _ => fV_fX12_write_75 h)
theorem fV_fX12_write_31 {σ0 : zSt} {σ : zSt} {x3 : Int32} {x4 : Int32} (h : (zQ [3, 5, 6, 7, 8, 9, 21, 22, 23, 24, 25, 26] [(0, 0, 0), (0, 31, 33), (0, 39, 49)] [4, 10, 11] [(0, 30, 30)]) σ0 σ) : zpc (fX12_write_31 σ x3 x4) (fun r => (zQ [3, 5, 6, 7, 8, 9, 21, 22, 23, 24, 25, 26] [(0, 0, 0), (0, 31, 33), (0, 39, 49)] [4, 10, 11] [(0, 30, 30)]) σ0 (r)) := by
  unfold fX12_write_31
  exact zpc_bi (fV_fX12_isBattery h) (fun σ5 v6 hσ5 => zpc_if (fun _ => fV_fX12_write_52 hσ5) (fun _ => zpc_bi (fV_fX12_batteryAt hσ5) (fun σ7 v8 hσ7 => zpc_ck (zpc_bs (zQ.wi hσ7 rfl) (fun σ9 hσ9 => fV_fX12_write_52 hσ9)))))
theorem fV_fX12_write {σ0 : zSt} {σ : zSt} {x1 : Int32} {x2 : Int32} (h : (zQ [3, 5, 6, 7, 8, 9, 21, 22, 23, 24, 25, 26] [(0, 0, 0), (0, 31, 33), (0, 39, 49)] [4, 10, 11] [(0, 30, 30)]) σ0 σ) : zpc (fX12_write σ x1 x2) (fun r => (zQ [3, 5, 6, 7, 8, 9, 21, 22, 23, 24, 25, 26] [(0, 0, 0), (0, 31, 33), (0, 39, 49)] [4, 10, 11] [(0, 30, 30)]) σ0 (r)) := by
  unfold fX12_write
  exact zpc_bv (fun v10 _ => zpc_bv (fun v11 _ => zpc_if (fun _ => fV_fX12_write_31 h) (fun _ => zpc_ck (zpc_ck (zpc_bs (zQ.wi h rfl) (fun σ12 hσ12 => fV_fX12_write_31 hσ12))))))
theorem fV_fX12_word {σ0 : zSt} {σ : zSt} {x1 : Int32} (h : (zQ [3, 5, 6, 7, 8, 9, 21, 22, 23, 24, 25, 26] [(0, 0, 0), (0, 31, 33), (0, 39, 49)] [4, 10, 11] [(0, 30, 30)]) σ0 σ) : zpc (fX12_word σ x1) (fun r => (zQ [3, 5, 6, 7, 8, 9, 21, 22, 23, 24, 25, 26] [(0, 0, 0), (0, 31, 33), (0, 39, 49)] [4, 10, 11] [(0, 30, 30)]) σ0 (r.1)) := by
  unfold fX12_word
  exact zpc_bi (fV_fX12_read h) (fun σ1 v2 hσ1 => zpc_bi (fV_fX12_read hσ1) (fun σ3 v4 hσ3 => zpc_some hσ3))
theorem fV_fX12_wordTo {σ0 : zSt} {σ : zSt} {x1 : Int32} {x2 : Int32} (h : (zQ [3, 5, 6, 7, 8, 9, 21, 22, 23, 24, 25, 26] [(0, 0, 0), (0, 31, 33), (0, 39, 49)] [4, 10, 11] [(0, 30, 30)]) σ0 σ) : zpc (fX12_wordTo σ x1 x2) (fun r => (zQ [3, 5, 6, 7, 8, 9, 21, 22, 23, 24, 25, 26] [(0, 0, 0), (0, 31, 33), (0, 39, 49)] [4, 10, 11] [(0, 30, 30)]) σ0 (r)) := by
  unfold fX12_wordTo
  exact zpc_bu (fV_fX12_write h) (fun σ1 hσ1 => zpc_bu (fV_fX12_write hσ1) (fun σ2 hσ2 => zpc_some hσ2))
theorem fV_fX12_pair {σ0 : zSt} {σ : zSt} {x1 : Int32} (h : (zQ [3, 5, 6, 7, 8, 9, 21, 22, 23, 24, 25, 26] [(0, 0, 0), (0, 31, 33), (0, 39, 49)] [4, 10, 11] [(0, 30, 30)]) σ0 σ) : zpc (fX12_pair σ x1) (fun r => (zQ [3, 5, 6, 7, 8, 9, 21, 22, 23, 24, 25, 26] [(0, 0, 0), (0, 31, 33), (0, 39, 49)] [4, 10, 11] [(0, 30, 30)]) σ0 (r.1)) := by
  unfold fX12_pair
  exact zpc_ck (zpc_ck (zpc_some h))
theorem fV_fX12_pairTo {σ0 : zSt} {σ : zSt} {x1 : Int32} {x2 : Int32} (h : (zQ [3, 5, 6, 7, 8, 9, 21, 22, 23, 24, 25, 26] [(0, 0, 0), (0, 31, 33), (0, 39, 49)] [4, 10, 11] [(0, 30, 30)]) σ0 σ) : zpc (fX12_pairTo σ x1 x2) (fun r => (zQ [3, 5, 6, 7, 8, 9, 21, 22, 23, 24, 25, 26] [(0, 0, 0), (0, 31, 33), (0, 39, 49)] [4, 10, 11] [(0, 30, 30)]) σ0 (r)) := by
  unfold fX12_pairTo
  exact zpc_ck (zpc_bs (zQ.wi h rfl) (fun σ1 hσ1 => zpc_ck (zpc_bs (zQ.wi hσ1 rfl) (fun σ2 hσ2 => zpc_some hσ2))))
theorem fV_fX12_hl_25 {σ0 : zSt} {σ : zSt} {s0 : Int32} (h : (zQ [3, 5, 6, 7, 8, 9, 21, 22, 23, 24, 25, 26] [(0, 0, 0), (0, 31, 33), (0, 39, 49)] [4, 10, 11] [(0, 30, 30)]) σ0 σ) : zpc (fX12_hl_25 σ s0) (fun r => (zQ [3, 5, 6, 7, 8, 9, 21, 22, 23, 24, 25, 26] [(0, 0, 0), (0, 31, 33), (0, 39, 49)] [4, 10, 11] [(0, 30, 30)]) σ0 (r.1)) := by
  unfold fX12_hl_25
  exact zpc_some h
theorem fV_fX12_hl {σ0 : zSt} {σ : zSt} (h : (zQ [3, 5, 6, 7, 8, 9, 21, 22, 23, 24, 25, 26] [(0, 0, 0), (0, 31, 33), (0, 39, 49)] [4, 10, 11] [(0, 30, 30)]) σ0 σ) : zpc (fX12_hl σ) (fun r => (zQ [3, 5, 6, 7, 8, 9, 21, 22, 23, 24, 25, 26] [(0, 0, 0), (0, 31, 33), (0, 39, 49)] [4, 10, 11] [(0, 30, 30)]) σ0 (r.1)) := by
  unfold fX12_hl
  exact zpc_if (fun _ => zpc_bi (fV_fX12_pair h) (fun σ1 v2 hσ1 => fV_fX12_hl_25 hσ1)) (fun _ => zpc_ck (fV_fX12_hl_25 h))
theorem fV_fX12_hlTo_30 {σ0 : zSt} {σ : zSt} (h : (zQ [3, 5, 6, 7, 8, 9, 21, 22, 23, 24, 25, 26] [(0, 0, 0), (0, 31, 33), (0, 39, 49)] [4, 10, 11] [(0, 30, 30)]) σ0 σ) : zpc (fX12_hlTo_30 σ) (fun r => (zQ [3, 5, 6, 7, 8, 9, 21, 22, 23, 24, 25, 26] [(0, 0, 0), (0, 31, 33), (0, 39, 49)] [4, 10, 11] [(0, 30, 30)]) σ0 (r)) := by
  unfold fX12_hlTo_30
  exact zpc_some h
theorem fV_fX12_hlTo {σ0 : zSt} {σ : zSt} {x1 : Int32} (h : (zQ [3, 5, 6, 7, 8, 9, 21, 22, 23, 24, 25, 26] [(0, 0, 0), (0, 31, 33), (0, 39, 49)] [4, 10, 11] [(0, 30, 30)]) σ0 σ) : zpc (fX12_hlTo σ x1) (fun r => (zQ [3, 5, 6, 7, 8, 9, 21, 22, 23, 24, 25, 26] [(0, 0, 0), (0, 31, 33), (0, 39, 49)] [4, 10, 11] [(0, 30, 30)]) σ0 (r)) := by
  unfold fX12_hlTo
  exact zpc_if (fun _ => zpc_bu (fV_fX12_pairTo h) (fun σ2 hσ2 => fV_fX12_hlTo_30 hσ2)) (fun _ => zpc_ck (zpc_bs (zQ.wi h rfl) (fun σ1 hσ1 => fV_fX12_hlTo_30 hσ1)))
theorem fV_fX12_rp_44 {σ0 : zSt} {σ : zSt} {s0 : Int32} (h : (zQ [3, 5, 6, 7, 8, 9, 21, 22, 23, 24, 25, 26] [(0, 0, 0), (0, 31, 33), (0, 39, 49)] [4, 10, 11] [(0, 30, 30)]) σ0 σ) : zpc (fX12_rp_44 σ s0) (fun r => (zQ [3, 5, 6, 7, 8, 9, 21, 22, 23, 24, 25, 26] [(0, 0, 0), (0, 31, 33), (0, 39, 49)] [4, 10, 11] [(0, 30, 30)]) σ0 (r.1)) := by
  unfold fX12_rp_44
  exact zpc_some h
theorem fV_fX12_rp {σ0 : zSt} {σ : zSt} {x1 : Int32} (h : (zQ [3, 5, 6, 7, 8, 9, 21, 22, 23, 24, 25, 26] [(0, 0, 0), (0, 31, 33), (0, 39, 49)] [4, 10, 11] [(0, 30, 30)]) σ0 σ) : zpc (fX12_rp σ x1) (fun r => (zQ [3, 5, 6, 7, 8, 9, 21, 22, 23, 24, 25, 26] [(0, 0, 0), (0, 31, 33), (0, 39, 49)] [4, 10, 11] [(0, 30, 30)]) σ0 (r.1)) := by
  unfold fX12_rp
  exact zpc_if (fun _ => zpc_bi (fV_fX12_pair h) (fun σ5 v6 hσ5 => fV_fX12_rp_44 hσ5)) (fun _ => zpc_if (fun _ => zpc_bi (fV_fX12_pair h) (fun σ3 v4 hσ3 => fV_fX12_rp_44 hσ3)) (fun _ => zpc_if (fun _ => zpc_bi (fV_fX12_hl h) (fun σ1 v2 hσ1 => fV_fX12_rp_44 hσ1)) (fun _ => zpc_ck (fV_fX12_rp_44 h))))
theorem fV_fX12_rpTo_51 {σ0 : zSt} {σ : zSt} (h : (zQ [3, 5, 6, 7, 8, 9, 21, 22, 23, 24, 25, 26] [(0, 0, 0), (0, 31, 33), (0, 39, 49)] [4, 10, 11] [(0, 30, 30)]) σ0 σ) : zpc (fX12_rpTo_51 σ) (fun r => (zQ [3, 5, 6, 7, 8, 9, 21, 22, 23, 24, 25, 26] [(0, 0, 0), (0, 31, 33), (0, 39, 49)] [4, 10, 11] [(0, 30, 30)]) σ0 (r)) := by
  unfold fX12_rpTo_51
  exact zpc_some h
theorem fV_fX12_rpTo {σ0 : zSt} {σ : zSt} {x1 : Int32} {x2 : Int32} (h : (zQ [3, 5, 6, 7, 8, 9, 21, 22, 23, 24, 25, 26] [(0, 0, 0), (0, 31, 33), (0, 39, 49)] [4, 10, 11] [(0, 30, 30)]) σ0 σ) : zpc (fX12_rpTo σ x1 x2) (fun r => (zQ [3, 5, 6, 7, 8, 9, 21, 22, 23, 24, 25, 26] [(0, 0, 0), (0, 31, 33), (0, 39, 49)] [4, 10, 11] [(0, 30, 30)]) σ0 (r)) := by
  unfold fX12_rpTo
  exact zpc_if (fun _ => zpc_bu (fV_fX12_pairTo h) (fun σ4 hσ4 => fV_fX12_rpTo_51 hσ4)) (fun _ => zpc_if (fun _ => zpc_bu (fV_fX12_pairTo h) (fun σ3 hσ3 => fV_fX12_rpTo_51 hσ3)) (fun _ => zpc_if (fun _ => zpc_bu (fV_fX12_hlTo h) (fun σ2 hσ2 => fV_fX12_rpTo_51 hσ2)) (fun _ => zpc_ck (zpc_bs (zQ.wi h rfl) (fun σ1 hσ1 => fV_fX12_rpTo_51 hσ1)))))
theorem fV_fX12_m_23 {σ0 : zSt} {σ : zSt} {s0 : Int32} (h : (zQ [3, 5, 6, 7, 8, 9, 21, 22, 23, 24, 25, 26] [(0, 0, 0), (0, 31, 33), (0, 39, 49)] [4, 10, 11] [(0, 30, 30)]) σ0 σ) : zpc (fX12_m_23 σ s0) (fun r => (zQ [3, 5, 6, 7, 8, 9, 21, 22, 23, 24, 25, 26] [(0, 0, 0), (0, 31, 33), (0, 39, 49)] [4, 10, 11] [(0, 30, 30)]) σ0 (r.1)) := by
  unfold fX12_m_23
  exact zpc_some h
theorem fV_fX12_m {σ0 : zSt} {σ : zSt} (h : (zQ [3, 5, 6, 7, 8, 9, 21, 22, 23, 24, 25, 26] [(0, 0, 0), (0, 31, 33), (0, 39, 49)] [4, 10, 11] [(0, 30, 30)]) σ0 σ) : zpc (fX12_m σ) (fun r => (zQ [3, 5, 6, 7, 8, 9, 21, 22, 23, 24, 25, 26] [(0, 0, 0), (0, 31, 33), (0, 39, 49)] [4, 10, 11] [(0, 30, 30)]) σ0 (r.1)) := by
  unfold fX12_m
  exact zpc_if (fun _ => zpc_bi (fV_fX12_pair h) (fun σ1 v2 hσ1 => fV_fX12_m_23 hσ1)) (fun _ => zpc_ck (fV_fX12_m_23 h))
theorem fV_fX12_r_74 {σ0 : zSt} {σ : zSt} {x1 : Int32} (h : (zQ [3, 5, 6, 7, 8, 9, 21, 22, 23, 24, 25, 26] [(0, 0, 0), (0, 31, 33), (0, 39, 49)] [4, 10, 11] [(0, 30, 30)]) σ0 σ) : zpc (fX12_r_74 σ x1) (fun r => (zQ [3, 5, 6, 7, 8, 9, 21, 22, 23, 24, 25, 26] [(0, 0, 0), (0, 31, 33), (0, 39, 49)] [4, 10, 11] [(0, 30, 30)]) σ0 (r.1)) := by
  unfold fX12_r_74
  exact zpc_ck (zpc_some h)
theorem fV_fX12_r_73 {σ0 : zSt} {σ : zSt} {s0 : Int32} (h : (zQ [3, 5, 6, 7, 8, 9, 21, 22, 23, 24, 25, 26] [(0, 0, 0), (0, 31, 33), (0, 39, 49)] [4, 10, 11] [(0, 30, 30)]) σ0 σ) : zpc (fX12_r_73 σ s0) (fun r => (zQ [3, 5, 6, 7, 8, 9, 21, 22, 23, 24, 25, 26] [(0, 0, 0), (0, 31, 33), (0, 39, 49)] [4, 10, 11] [(0, 30, 30)]) σ0 (r.1)) := by
  unfold fX12_r_73
  exact zpc_some h
theorem fV_fX12_r {σ0 : zSt} {σ : zSt} {x1 : Int32} (h : (zQ [3, 5, 6, 7, 8, 9, 21, 22, 23, 24, 25, 26] [(0, 0, 0), (0, 31, 33), (0, 39, 49)] [4, 10, 11] [(0, 30, 30)]) σ0 σ) : zpc (fX12_r σ x1) (fun r => (zQ [3, 5, 6, 7, 8, 9, 21, 22, 23, 24, 25, 26] [(0, 0, 0), (0, 31, 33), (0, 39, 49)] [4, 10, 11] [(0, 30, 30)]) σ0 (r.1)) := by
  unfold fX12_r
  exact zpc_if (fun _ => zpc_bi (fV_fX12_m h) (fun σ1 v2 hσ1 => zpc_bi (fV_fX12_read hσ1) (fun σ3 v4 hσ3 => zpc_some hσ3))) (fun _ => zpc_if (fun _ => zpc_ck (zpc_some h)) (fun _ => zpc_if (fun _ => fV_fX12_r_74 h) (fun _ => zpc_if (fun _ => fV_fX12_r_74 h) (fun _ => zpc_if (fun _ => zpc_ck (fV_fX12_r_73 h)) (fun _ => zpc_ck (fV_fX12_r_73 h))))))
theorem fV_fX12_rTo_113 {σ0 : zSt} {σ : zSt} (h : (zQ [3, 5, 6, 7, 8, 9, 21, 22, 23, 24, 25, 26] [(0, 0, 0), (0, 31, 33), (0, 39, 49)] [4, 10, 11] [(0, 30, 30)]) σ0 σ) : zpc (fX12_rTo_113 σ) (fun r => (zQ [3, 5, 6, 7, 8, 9, 21, 22, 23, 24, 25, 26] [(0, 0, 0), (0, 31, 33), (0, 39, 49)] [4, 10, 11] [(0, 30, 30)]) σ0 (r)) := by
  unfold fX12_rTo_113
  exact zpc_some h
theorem fV_fX12_rTo_104 {σ0 : zSt} {σ : zSt} {x1 : Int32} {x3 : Int32} (h : (zQ [3, 5, 6, 7, 8, 9, 21, 22, 23, 24, 25, 26] [(0, 0, 0), (0, 31, 33), (0, 39, 49)] [4, 10, 11] [(0, 30, 30)]) σ0 σ) : zpc (fX12_rTo_104 σ x1 x3) (fun r => (zQ [3, 5, 6, 7, 8, 9, 21, 22, 23, 24, 25, 26] [(0, 0, 0), (0, 31, 33), (0, 39, 49)] [4, 10, 11] [(0, 30, 30)]) σ0 (r)) := by
  unfold fX12_rTo_104
  exact zpc_ck (zpc_bs (zQ.wi h rfl) (fun σ1 hσ1 => fV_fX12_rTo_113 hσ1))
theorem fV_fX12_rTo_100 {σ0 : zSt} {σ : zSt} {s0 : Int32} {s1 : Int32} (h : (zQ [3, 5, 6, 7, 8, 9, 21, 22, 23, 24, 25, 26] [(0, 0, 0), (0, 31, 33), (0, 39, 49)] [4, 10, 11] [(0, 30, 30)]) σ0 σ) : zpc (fX12_rTo_100 σ s0 s1) (fun r => (zQ [3, 5, 6, 7, 8, 9, 21, 22, 23, 24, 25, 26] [(0, 0, 0), (0, 31, 33), (0, 39, 49)] [4, 10, 11] [(0, 30, 30)]) σ0 (r)) := by
  unfold fX12_rTo_100
  exact zpc_ck (zpc_bs (zQ.wi h rfl) (fun σ2 hσ2 => fV_fX12_rTo_113 hσ2))
theorem fV_fX12_rTo {σ0 : zSt} {σ : zSt} {x1 : Int32} {x2 : Int32} (h : (zQ [3, 5, 6, 7, 8, 9, 21, 22, 23, 24, 25, 26] [(0, 0, 0), (0, 31, 33), (0, 39, 49)] [4, 10, 11] [(0, 30, 30)]) σ0 σ) : zpc (fX12_rTo σ x1 x2) (fun r => (zQ [3, 5, 6, 7, 8, 9, 21, 22, 23, 24, 25, 26] [(0, 0, 0), (0, 31, 33), (0, 39, 49)] [4, 10, 11] [(0, 30, 30)]) σ0 (r)) := by
  unfold fX12_rTo
  exact zpc_bv (fun v3 _ => zpc_if (fun _ => zpc_bi (fV_fX12_m h) (fun σ5 v6 hσ5 => zpc_bu (fV_fX12_write hσ5) (fun σ7 hσ7 => fV_fX12_rTo_113 hσ7))) (fun _ => zpc_if (fun _ => zpc_ck (zpc_bs (zQ.wi h rfl) (fun σ4 hσ4 => fV_fX12_rTo_113 hσ4))) (fun _ => zpc_if (fun _ => fV_fX12_rTo_104 h) (fun _ => zpc_if (fun _ => fV_fX12_rTo_104 h) (fun _ => zpc_if (fun _ => zpc_ck (fV_fX12_rTo_100 h)) (fun _ => zpc_ck (fV_fX12_rTo_100 h)))))))
theorem fV_fX12_put_34 {σ0 : zSt} {σ : zSt} {s0 : Int32} {s1 : Int32} (h : (zQ [3, 5, 6, 7, 8, 9, 21, 22, 23, 24, 25, 26] [(0, 0, 0), (0, 31, 33), (0, 39, 49)] [4, 10, 11] [(0, 30, 30)]) σ0 σ) : zpc (fX12_put_34 σ s0 s1) (fun r => (zQ [3, 5, 6, 7, 8, 9, 21, 22, 23, 24, 25, 26] [(0, 0, 0), (0, 31, 33), (0, 39, 49)] [4, 10, 11] [(0, 30, 30)]) σ0 (r)) := by
  unfold fX12_put_34
  exact zpc_ck (zpc_bs (zQ.wi h rfl) (fun σ1 hσ1 => zpc_some hσ1))
theorem fV_fX12_put {σ0 : zSt} {σ : zSt} {x1 : Int32} {x2 : Int32} (h : (zQ [3, 5, 6, 7, 8, 9, 21, 22, 23, 24, 25, 26] [(0, 0, 0), (0, 31, 33), (0, 39, 49)] [4, 10, 11] [(0, 30, 30)]) σ0 σ) : zpc (fX12_put σ x1 x2) (fun r => (zQ [3, 5, 6, 7, 8, 9, 21, 22, 23, 24, 25, 26] [(0, 0, 0), (0, 31, 33), (0, 39, 49)] [4, 10, 11] [(0, 30, 30)]) σ0 (r)) := by
  unfold fX12_put
  exact zpc_if (fun _ => zpc_ck (fV_fX12_put_34 h)) (fun _ => zpc_ck (fV_fX12_put_34 h))
theorem fV_fX12_flag {σ0 : zSt} {σ : zSt} {x1 : Int32} (h : (zQ [3, 5, 6, 7, 8, 9, 21, 22, 23, 24, 25, 26] [(0, 0, 0), (0, 31, 33), (0, 39, 49)] [4, 10, 11] [(0, 30, 30)]) σ0 σ) : zpc (fX12_flag σ x1) (fun r => (zQ [3, 5, 6, 7, 8, 9, 21, 22, 23, 24, 25, 26] [(0, 0, 0), (0, 31, 33), (0, 39, 49)] [4, 10, 11] [(0, 30, 30)]) σ0 (r.1)) := by
  unfold fX12_flag
  exact zpc_ck (zpc_some h)
theorem fV_fX12_xy_31 {σ0 : zSt} {σ : zSt} {s0 : Int32} {s1 : Int32} (h : (zQ [3, 5, 6, 7, 8, 9, 21, 22, 23, 24, 25, 26] [(0, 0, 0), (0, 31, 33), (0, 39, 49)] [4, 10, 11] [(0, 30, 30)]) σ0 σ) : zpc (fX12_xy_31 σ s0 s1) (fun r => (zQ [3, 5, 6, 7, 8, 9, 21, 22, 23, 24, 25, 26] [(0, 0, 0), (0, 31, 33), (0, 39, 49)] [4, 10, 11] [(0, 30, 30)]) σ0 (r)) := by
  unfold fX12_xy_31
  exact zpc_bu (fV_fX12_put h) (fun σ1 hσ1 => zpc_some hσ1)
theorem fV_fX12_xy_14 {σ0 : zSt} {σ : zSt} {x1 : Int32} {s0 : Int32} {s1 : Int32} (h : (zQ [3, 5, 6, 7, 8, 9, 21, 22, 23, 24, 25, 26] [(0, 0, 0), (0, 31, 33), (0, 39, 49)] [4, 10, 11] [(0, 30, 30)]) σ0 σ) : zpc (fX12_xy_14 σ x1 s0 s1) (fun r => (zQ [3, 5, 6, 7, 8, 9, 21, 22, 23, 24, 25, 26] [(0, 0, 0), (0, 31, 33), (0, 39, 49)] [4, 10, 11] [(0, 30, 30)]) σ0 (r)) := by
  unfold fX12_xy_14
  exact zpc_bu (fV_fX12_put h) (fun σ2 hσ2 => zpc_if (fun _ => fV_fX12_xy_31 hσ2) (fun _ => fV_fX12_xy_31 hσ2))
theorem fV_fX12_xy {σ0 : zSt} {σ : zSt} {x1 : Int32} (h : (zQ [3, 5, 6, 7, 8, 9, 21, 22, 23, 24, 25, 26] [(0, 0, 0), (0, 31, 33), (0, 39, 49)] [4, 10, 11] [(0, 30, 30)]) σ0 σ) : zpc (fX12_xy σ x1) (fun r => (zQ [3, 5, 6, 7, 8, 9, 21, 22, 23, 24, 25, 26] [(0, 0, 0), (0, 31, 33), (0, 39, 49)] [4, 10, 11] [(0, 30, 30)]) σ0 (r)) := by
  unfold fX12_xy
  exact zpc_if (fun _ => fV_fX12_xy_14 h) (fun _ => fV_fX12_xy_14 h)
theorem fV_fX12_by_31 {σ0 : zSt} {σ : zSt} {x1 : Int32} {s0 : Int32} {s1 : Int32} (h : (zQ [3, 5, 6, 7, 8, 9, 21, 22, 23, 24, 25, 26] [(0, 0, 0), (0, 31, 33), (0, 39, 49)] [4, 10, 11] [(0, 30, 30)]) σ0 σ) : zpc (fX12_by_31 σ x1 s0 s1) (fun r => (zQ [3, 5, 6, 7, 8, 9, 21, 22, 23, 24, 25, 26] [(0, 0, 0), (0, 31, 33), (0, 39, 49)] [4, 10, 11] [(0, 30, 30)]) σ0 (r)) := by
  unfold fX12_by_31
  exact zpc_bu (fV_fX12_put h) (fun σ1 hσ1 => zpc_bu (fV_fX12_xy hσ1) (fun σ2 hσ2 => zpc_some hσ2))
theorem fV_fX12_by_16 {σ0 : zSt} {σ : zSt} {x1 : Int32} {s0 : Int32} {s1 : Int32} (h : (zQ [3, 5, 6, 7, 8, 9, 21, 22, 23, 24, 25, 26] [(0, 0, 0), (0, 31, 33), (0, 39, 49)] [4, 10, 11] [(0, 30, 30)]) σ0 σ) : zpc (fX12_by_16 σ x1 s0 s1) (fun r => (zQ [3, 5, 6, 7, 8, 9, 21, 22, 23, 24, 25, 26] [(0, 0, 0), (0, 31, 33), (0, 39, 49)] [4, 10, 11] [(0, 30, 30)]) σ0 (r)) := by
  unfold fX12_by_16
  exact zpc_bu (fV_fX12_put h) (fun σ3 hσ3 => zpc_if (fun _ => fV_fX12_by_31 hσ3) (fun _ => fV_fX12_by_31 hσ3))
theorem fV_fX12_by {σ0 : zSt} {σ : zSt} {x1 : Int32} (h : (zQ [3, 5, 6, 7, 8, 9, 21, 22, 23, 24, 25, 26] [(0, 0, 0), (0, 31, 33), (0, 39, 49)] [4, 10, 11] [(0, 30, 30)]) σ0 σ) : zpc (fX12_by σ x1) (fun r => (zQ [3, 5, 6, 7, 8, 9, 21, 22, 23, 24, 25, 26] [(0, 0, 0), (0, 31, 33), (0, 39, 49)] [4, 10, 11] [(0, 30, 30)]) σ0 (r)) := by
  unfold fX12_by
  exact zpc_if (fun _ => fV_fX12_by_16 h) (fun _ => fV_fX12_by_16 h)
theorem fV_fX12_isEven_35 {σ0 : zSt} {σ : zSt} {s0 : Int32} (h : (zQ [3, 5, 6, 7, 8, 9, 21, 22, 23, 24, 25, 26] [(0, 0, 0), (0, 31, 33), (0, 39, 49)] [4, 10, 11] [(0, 30, 30)]) σ0 σ) : zpc (fX12_isEven_35 σ s0) (fun r => (zQ [3, 5, 6, 7, 8, 9, 21, 22, 23, 24, 25, 26] [(0, 0, 0), (0, 31, 33), (0, 39, 49)] [4, 10, 11] [(0, 30, 30)]) σ0 (r.1)) := by
  unfold fX12_isEven_35
  exact zpc_ck (zpc_some h)
theorem fV_fX12_isEven_4_body {σ0 : zSt} {k4 : zSt → Int32 → Int32 → Int32 → Option (zSt × Int32)} (hk4 : ∀ (y0 : zSt) (y1 : Int32) (y2 : Int32) (y3 : Int32), (zQ [3, 5, 6, 7, 8, 9, 21, 22, 23, 24, 25, 26] [(0, 0, 0), (0, 31, 33), (0, 39, 49)] [4, 10, 11] [(0, 30, 30)]) σ0 y0 → zpc (k4 y0 y1 y2 y3) (fun r => (zQ [3, 5, 6, 7, 8, 9, 21, 22, 23, 24, 25, 26] [(0, 0, 0), (0, 31, 33), (0, 39, 49)] [4, 10, 11] [(0, 30, 30)]) σ0 (r.1))) {σ : zSt} {x0 : Int32} {x1 : Int32} {x2 : Int32} (h : (zQ [3, 5, 6, 7, 8, 9, 21, 22, 23, 24, 25, 26] [(0, 0, 0), (0, 31, 33), (0, 39, 49)] [4, 10, 11] [(0, 30, 30)]) σ0 σ) : zpc (fX12_isEven_4_body k4 σ x0 x1 x2) (fun r => (zQ [3, 5, 6, 7, 8, 9, 21, 22, 23, 24, 25, 26] [(0, 0, 0), (0, 31, 33), (0, 39, 49)] [4, 10, 11] [(0, 30, 30)]) σ0 (r.1)) := by
  unfold fX12_isEven_4_body
  exact zpc_if (fun _ => zpc_ck (zpc_if (fun _ => fV_fX12_isEven_35 h) (fun _ => fV_fX12_isEven_35 h))) (fun _ => zpc_bv (fun v1 _ => zpc_bv (fun v2 _ => hk4 _ _ _ _ h)))
theorem fV_fX12_isEven_4 {σ0 : zSt} : ∀ (n : Nat) (y0 : zSt) (y1 : Int32) (y2 : Int32) (y3 : Int32), (zQ [3, 5, 6, 7, 8, 9, 21, 22, 23, 24, 25, 26] [(0, 0, 0), (0, 31, 33), (0, 39, 49)] [4, 10, 11] [(0, 30, 30)]) σ0 y0 → zpc (fX12_isEven_4 n y0 y1 y2 y3) (fun r => (zQ [3, 5, 6, 7, 8, 9, 21, 22, 23, 24, 25, 26] [(0, 0, 0), (0, 31, 33), (0, 39, 49)] [4, 10, 11] [(0, 30, 30)]) σ0 (r.1)) := by
  intro n
  induction n with
  | zero => intro y0 y1 y2 y3 h; exact zpc_none
  | succ n ih => intro y0 y1 y2 y3 h; exact fV_fX12_isEven_4_body ih h
theorem fV_fX12_isEven {σ0 : zSt} {σ : zSt} {x0 : Int32} (h : (zQ [3, 5, 6, 7, 8, 9, 21, 22, 23, 24, 25, 26] [(0, 0, 0), (0, 31, 33), (0, 39, 49)] [4, 10, 11] [(0, 30, 30)]) σ0 σ) : zpc (fX12_isEven σ x0) (fun r => (zQ [3, 5, 6, 7, 8, 9, 21, 22, 23, 24, 25, 26] [(0, 0, 0), (0, 31, 33), (0, 39, 49)] [4, 10, 11] [(0, 30, 30)]) σ0 (r.1)) := by
  unfold fX12_isEven
  exact fV_fX12_isEven_4 _ _ _ _ _ h
theorem fV_fX12_cc_64 {σ0 : zSt} {σ : zSt} {s0 : Int32} (h : (zQ [3, 5, 6, 7, 8, 9, 21, 22, 23, 24, 25, 26] [(0, 0, 0), (0, 31, 33), (0, 39, 49)] [4, 10, 11] [(0, 30, 30)]) σ0 σ) : zpc (fX12_cc_64 σ s0) (fun r => (zQ [3, 5, 6, 7, 8, 9, 21, 22, 23, 24, 25, 26] [(0, 0, 0), (0, 31, 33), (0, 39, 49)] [4, 10, 11] [(0, 30, 30)]) σ0 (r.1)) := by
  unfold fX12_cc_64
  exact zpc_ck (zpc_some h)
theorem fV_fX12_cc_56 {σ0 : zSt} {σ : zSt} {s0 : Int32} {s1 : Int32} (h : (zQ [3, 5, 6, 7, 8, 9, 21, 22, 23, 24, 25, 26] [(0, 0, 0), (0, 31, 33), (0, 39, 49)] [4, 10, 11] [(0, 30, 30)]) σ0 σ) : zpc (fX12_cc_56 σ s0 s1) (fun r => (zQ [3, 5, 6, 7, 8, 9, 21, 22, 23, 24, 25, 26] [(0, 0, 0), (0, 31, 33), (0, 39, 49)] [4, 10, 11] [(0, 30, 30)]) σ0 (r.1)) := by
  unfold fX12_cc_56
  exact zpc_if (fun _ => fV_fX12_cc_64 h) (fun _ => fV_fX12_cc_64 h)
theorem fV_fX12_cc_44 {σ0 : zSt} {σ : zSt} {x1 : Int32} {s0 : Int32} (h : (zQ [3, 5, 6, 7, 8, 9, 21, 22, 23, 24, 25, 26] [(0, 0, 0), (0, 31, 33), (0, 39, 49)] [4, 10, 11] [(0, 30, 30)]) σ0 σ) : zpc (fX12_cc_44 σ x1 s0) (fun r => (zQ [3, 5, 6, 7, 8, 9, 21, 22, 23, 24, 25, 26] [(0, 0, 0), (0, 31, 33), (0, 39, 49)] [4, 10, 11] [(0, 30, 30)]) σ0 (r.1)) := by
  unfold fX12_cc_44
  exact zpc_ck (zpc_if (fun _ => fV_fX12_cc_56 h) (fun _ => fV_fX12_cc_56 h))
theorem fV_fX12_cc_32 {σ0 : zSt} {σ : zSt} {x1 : Int32} {s0 : Int32} (h : (zQ [3, 5, 6, 7, 8, 9, 21, 22, 23, 24, 25, 26] [(0, 0, 0), (0, 31, 33), (0, 39, 49)] [4, 10, 11] [(0, 30, 30)]) σ0 σ) : zpc (fX12_cc_32 σ x1 s0) (fun r => (zQ [3, 5, 6, 7, 8, 9, 21, 22, 23, 24, 25, 26] [(0, 0, 0), (0, 31, 33), (0, 39, 49)] [4, 10, 11] [(0, 30, 30)]) σ0 (r.1)) := by
  unfold fX12_cc_32
  exact zpc_bi (fV_fX12_flag h) (fun σ1 v2 hσ1 => zpc_if (fun _ => fV_fX12_cc_44 hσ1) (fun _ => fV_fX12_cc_44 hσ1))
theorem fV_fX12_cc {σ0 : zSt} {σ : zSt} {x1 : Int32} (h : (zQ [3, 5, 6, 7, 8, 9, 21, 22, 23, 24, 25, 26] [(0, 0, 0), (0, 31, 33), (0, 39, 49)] [4, 10, 11] [(0, 30, 30)]) σ0 σ) : zpc (fX12_cc σ x1) (fun r => (zQ [3, 5, 6, 7, 8, 9, 21, 22, 23, 24, 25, 26] [(0, 0, 0), (0, 31, 33), (0, 39, 49)] [4, 10, 11] [(0, 30, 30)]) σ0 (r.1)) := by
  unfold fX12_cc
  exact zpc_if (fun _ => zpc_if (fun _ => zpc_if (fun _ => fV_fX12_cc_32 h) (fun _ => fV_fX12_cc_32 h)) (fun _ => fV_fX12_cc_32 h)) (fun _ => fV_fX12_cc_32 h)
theorem fV_fX12_push {σ0 : zSt} {σ : zSt} {x1 : Int32} (h : (zQ [3, 5, 6, 7, 8, 9, 21, 22, 23, 24, 25, 26] [(0, 0, 0), (0, 31, 33), (0, 39, 49)] [4, 10, 11] [(0, 30, 30)]) σ0 σ) : zpc (fX12_push σ x1) (fun r => (zQ [3, 5, 6, 7, 8, 9, 21, 22, 23, 24, 25, 26] [(0, 0, 0), (0, 31, 33), (0, 39, 49)] [4, 10, 11] [(0, 30, 30)]) σ0 (r)) := by
  unfold fX12_push
  exact zpc_ck (zpc_ck (zpc_bs (zQ.wi h rfl) (fun σ1 hσ1 => zpc_ck (zpc_bu (fV_fX12_write hσ1) (fun σ2 hσ2 => zpc_ck (zpc_ck (zpc_bs (zQ.wi hσ2 rfl) (fun σ3 hσ3 => zpc_ck (zpc_bu (fV_fX12_write hσ3) (fun σ4 hσ4 => zpc_some hσ4))))))))))
theorem fV_fX12_pop {σ0 : zSt} {σ : zSt} (h : (zQ [3, 5, 6, 7, 8, 9, 21, 22, 23, 24, 25, 26] [(0, 0, 0), (0, 31, 33), (0, 39, 49)] [4, 10, 11] [(0, 30, 30)]) σ0 σ) : zpc (fX12_pop σ) (fun r => (zQ [3, 5, 6, 7, 8, 9, 21, 22, 23, 24, 25, 26] [(0, 0, 0), (0, 31, 33), (0, 39, 49)] [4, 10, 11] [(0, 30, 30)]) σ0 (r.1)) := by
  unfold fX12_pop
  exact zpc_ck (zpc_bi (fV_fX12_read h) (fun σ1 v2 hσ1 => zpc_ck (zpc_ck (zpc_bs (zQ.wi hσ1 rfl) (fun σ3 hσ3 => zpc_ck (zpc_bi (fV_fX12_read hσ3) (fun σ4 v5 hσ4 => zpc_bv (fun v6 _ => zpc_ck (zpc_ck (zpc_bs (zQ.wi hσ4 rfl) (fun σ7 hσ7 => zpc_some hσ7)))))))))))
theorem fV_fX12_grows {σ0 : zSt} {σ : zSt} (h : (zQ [3, 5, 6, 7, 8, 9, 21, 22, 23, 24, 25, 26] [(0, 0, 0), (0, 31, 33), (0, 39, 49)] [4, 10, 11] [(0, 30, 30)]) σ0 σ) : zpc (fX12_grows σ) (fun r => (zQ [3, 5, 6, 7, 8, 9, 21, 22, 23, 24, 25, 26] [(0, 0, 0), (0, 31, 33), (0, 39, 49)] [4, 10, 11] [(0, 30, 30)]) σ0 (r)) := by
  unfold fX12_grows
  exact zpc_ck (zpc_ck (zpc_ck (zpc_bs (zQ.wi h rfl) (fun σ1 hσ1 => zpc_some hσ1))))
theorem fV_fX12_next {σ0 : zSt} {σ : zSt} (h : (zQ [3, 5, 6, 7, 8, 9, 21, 22, 23, 24, 25, 26] [(0, 0, 0), (0, 31, 33), (0, 39, 49)] [4, 10, 11] [(0, 30, 30)]) σ0 σ) : zpc (fX12_next σ) (fun r => (zQ [3, 5, 6, 7, 8, 9, 21, 22, 23, 24, 25, 26] [(0, 0, 0), (0, 31, 33), (0, 39, 49)] [4, 10, 11] [(0, 30, 30)]) σ0 (r.1)) := by
  unfold fX12_next
  exact zpc_ck (zpc_bi (fV_fX12_read h) (fun σ1 v2 hσ1 => zpc_ck (zpc_ck (zpc_bs (zQ.wi hσ1 rfl) (fun σ3 hσ3 => zpc_some hσ3)))))
theorem fV_fX12_fetch {σ0 : zSt} {σ : zSt} (h : (zQ [3, 5, 6, 7, 8, 9, 21, 22, 23, 24, 25, 26] [(0, 0, 0), (0, 31, 33), (0, 39, 49)] [4, 10, 11] [(0, 30, 30)]) σ0 σ) : zpc (fX12_fetch σ) (fun r => (zQ [3, 5, 6, 7, 8, 9, 21, 22, 23, 24, 25, 26] [(0, 0, 0), (0, 31, 33), (0, 39, 49)] [4, 10, 11] [(0, 30, 30)]) σ0 (r.1)) := by
  unfold fX12_fetch
  exact zpc_bi (fV_fX12_next h) (fun σ1 v2 hσ1 => zpc_bu (fV_fX12_grows hσ1) (fun σ3 hσ3 => zpc_some hσ3))
theorem fV_fX12_nextWord {σ0 : zSt} {σ : zSt} (h : (zQ [3, 5, 6, 7, 8, 9, 21, 22, 23, 24, 25, 26] [(0, 0, 0), (0, 31, 33), (0, 39, 49)] [4, 10, 11] [(0, 30, 30)]) σ0 σ) : zpc (fX12_nextWord σ) (fun r => (zQ [3, 5, 6, 7, 8, 9, 21, 22, 23, 24, 25, 26] [(0, 0, 0), (0, 31, 33), (0, 39, 49)] [4, 10, 11] [(0, 30, 30)]) σ0 (r.1)) := by
  unfold fX12_nextWord
  exact zpc_bi (fV_fX12_next h) (fun σ1 v2 hσ1 => zpc_bi (fV_fX12_next hσ1) (fun σ3 v4 hσ3 => zpc_some hσ3))
theorem fV_fX12_signed_16 {σ0 : zSt} {σ : zSt} {s0 : Int32} (h : (zQ [3, 5, 6, 7, 8, 9, 21, 22, 23, 24, 25, 26] [(0, 0, 0), (0, 31, 33), (0, 39, 49)] [4, 10, 11] [(0, 30, 30)]) σ0 σ) : zpc (fX12_signed_16 σ s0) (fun r => (zQ [3, 5, 6, 7, 8, 9, 21, 22, 23, 24, 25, 26] [(0, 0, 0), (0, 31, 33), (0, 39, 49)] [4, 10, 11] [(0, 30, 30)]) σ0 (r.1)) := by
  unfold fX12_signed_16
  exact zpc_some h
theorem fV_fX12_signed {σ0 : zSt} {σ : zSt} {x0 : Int32} (h : (zQ [3, 5, 6, 7, 8, 9, 21, 22, 23, 24, 25, 26] [(0, 0, 0), (0, 31, 33), (0, 39, 49)] [4, 10, 11] [(0, 30, 30)]) σ0 σ) : zpc (fX12_signed σ x0) (fun r => (zQ [3, 5, 6, 7, 8, 9, 21, 22, 23, 24, 25, 26] [(0, 0, 0), (0, 31, 33), (0, 39, 49)] [4, 10, 11] [(0, 30, 30)]) σ0 (r.1)) := by
  unfold fX12_signed
  exact zpc_if (fun _ => fV_fX12_signed_16 h) (fun _ => fV_fX12_signed_16 h)
theorem fV_fX12_call {σ0 : zSt} {σ : zSt} {x1 : Int32} (h : (zQ [3, 5, 6, 7, 8, 9, 21, 22, 23, 24, 25, 26] [(0, 0, 0), (0, 31, 33), (0, 39, 49)] [4, 10, 11] [(0, 30, 30)]) σ0 σ) : zpc (fX12_call σ x1) (fun r => (zQ [3, 5, 6, 7, 8, 9, 21, 22, 23, 24, 25, 26] [(0, 0, 0), (0, 31, 33), (0, 39, 49)] [4, 10, 11] [(0, 30, 30)]) σ0 (r)) := by
  unfold fX12_call
  exact zpc_ck (zpc_bu (fV_fX12_push h) (fun σ1 hσ1 => zpc_ck (zpc_bs (zQ.wi hσ1 rfl) (fun σ2 hσ2 => zpc_ck (zpc_bs (zQ.wi hσ2 rfl) (fun σ3 hσ3 => zpc_some hσ3))))))
theorem fV_fX12_change {σ0 : zSt} {σ : zSt} {x1 : Int32} {x2 : Int32} (h : (zQ [3, 5, 6, 7, 8, 9, 21, 22, 23, 24, 25, 26] [(0, 0, 0), (0, 31, 33), (0, 39, 49)] [4, 10, 11] [(0, 30, 30)]) σ0 σ) : zpc (fX12_change σ x1 x2) (fun r => (zQ [3, 5, 6, 7, 8, 9, 21, 22, 23, 24, 25, 26] [(0, 0, 0), (0, 31, 33), (0, 39, 49)] [4, 10, 11] [(0, 30, 30)]) σ0 (r)) := by
  unfold fX12_change
  exact zpc_ck (zpc_bv (fun v1 _ => zpc_ck (zpc_ck (zpc_bs (zQ.wi h rfl) (fun σ2 hσ2 => zpc_ck (zpc_bs (zQ.wi hσ2 rfl) (fun σ3 hσ3 => zpc_some hσ3)))))))
theorem fV_fX12_bit {σ0 : zSt} {σ : zSt} {x1 : Int32} {x2 : Int32} (h : (zQ [3, 5, 6, 7, 8, 9, 21, 22, 23, 24, 25, 26] [(0, 0, 0), (0, 31, 33), (0, 39, 49)] [4, 10, 11] [(0, 30, 30)]) σ0 σ) : zpc (fX12_bit σ x1 x2) (fun r => (zQ [3, 5, 6, 7, 8, 9, 21, 22, 23, 24, 25, 26] [(0, 0, 0), (0, 31, 33), (0, 39, 49)] [4, 10, 11] [(0, 30, 30)]) σ0 (r.1)) := by
  unfold fX12_bit
  exact zpc_ck (zpc_some h)
theorem fV_fX12_mode_57 {σ0 : zSt} {σ : zSt} {s0 : Int32} (h : (zQ [3, 5, 6, 7, 8, 9, 21, 22, 23, 24, 25, 26] [(0, 0, 0), (0, 31, 33), (0, 39, 49)] [4, 10, 11] [(0, 30, 30)]) σ0 σ) : zpc (fX12_mode_57 σ s0) (fun r => (zQ [3, 5, 6, 7, 8, 9, 21, 22, 23, 24, 25, 26] [(0, 0, 0), (0, 31, 33), (0, 39, 49)] [4, 10, 11] [(0, 30, 30)]) σ0 (r.1)) := by
  unfold fX12_mode_57
  exact zpc_some h
theorem fV_fX12_mode {σ0 : zSt} {σ : zSt} (h : (zQ [3, 5, 6, 7, 8, 9, 21, 22, 23, 24, 25, 26] [(0, 0, 0), (0, 31, 33), (0, 39, 49)] [4, 10, 11] [(0, 30, 30)]) σ0 σ) : zpc (fX12_mode σ) (fun r => (zQ [3, 5, 6, 7, 8, 9, 21, 22, 23, 24, 25, 26] [(0, 0, 0), (0, 31, 33), (0, 39, 49)] [4, 10, 11] [(0, 30, 30)]) σ0 (r.1)) := by
  unfold fX12_mode
  exact zpc_bi (fV_fX12_bit h) (fun σ1 v2 hσ1 => zpc_if (fun _ => fV_fX12_mode_57 hσ1) (fun _ => zpc_bi (fV_fX12_bit hσ1) (fun σ3 v4 hσ3 => zpc_if (fun _ => fV_fX12_mode_57 hσ3) (fun _ => zpc_bi (fV_fX12_bit hσ3) (fun σ5 v6 hσ5 => zpc_if (fun _ => fV_fX12_mode_57 hσ5) (fun _ => zpc_bi (fV_fX12_bit hσ5) (fun σ7 v8 hσ7 => zpc_if (fun _ => fV_fX12_mode_57 hσ7) (fun _ => fV_fX12_mode_57 hσ7))))))))
theorem fV_fX12_height_32 {σ0 : zSt} {σ : zSt} (h : (zQ [3, 5, 6, 7, 8, 9, 21, 22, 23, 24, 25, 26] [(0, 0, 0), (0, 31, 33), (0, 39, 49)] [4, 10, 11] [(0, 30, 30)]) σ0 σ) : zpc (fX12_height_32 σ) (fun r => (zQ [3, 5, 6, 7, 8, 9, 21, 22, 23, 24, 25, 26] [(0, 0, 0), (0, 31, 33), (0, 39, 49)] [4, 10, 11] [(0, 30, 30)]) σ0 (r.1)) := by
  unfold fX12_height_32
  exact zpc_some h
theorem fV_fX12_height_55 {σ0 : zSt} {σ : zSt} {s0 : Int32} (h : (zQ [3, 5, 6, 7, 8, 9, 21, 22, 23, 24, 25, 26] [(0, 0, 0), (0, 31, 33), (0, 39, 49)] [4, 10, 11] [(0, 30, 30)]) σ0 σ) : zpc (fX12_height_55 σ s0) (fun r => (zQ [3, 5, 6, 7, 8, 9, 21, 22, 23, 24, 25, 26] [(0, 0, 0), (0, 31, 33), (0, 39, 49)] [4, 10, 11] [(0, 30, 30)]) σ0 (r.1)) := by
  unfold fX12_height_55
  exact zpc_some h
theorem fV_fX12_height {σ0 : zSt} {σ : zSt} (h : (zQ [3, 5, 6, 7, 8, 9, 21, 22, 23, 24, 25, 26] [(0, 0, 0), (0, 31, 33), (0, 39, 49)] [4, 10, 11] [(0, 30, 30)]) σ0 σ) : zpc (fX12_height σ) (fun r => (zQ [3, 5, 6, 7, 8, 9, 21, 22, 23, 24, 25, 26] [(0, 0, 0), (0, 31, 33), (0, 39, 49)] [4, 10, 11] [(0, 30, 30)]) σ0 (r.1)) := by
  unfold fX12_height
  exact zpc_bi (fV_fX12_mode h) (fun σ1 v2 hσ1 => zpc_if (fun _ => zpc_bi (fV_fX12_bit hσ1) (fun σ3 v4 hσ3 => zpc_if (fun _ => fV_fX12_height_32 hσ3) (fun _ => zpc_bi (fV_fX12_bit hσ3) (fun σ5 v6 hσ5 => zpc_bi (fV_fX12_bit hσ5) (fun σ7 v8 hσ7 => zpc_if (fun _ => fV_fX12_height_32 hσ7) (fun _ => zpc_bi (fV_fX12_bit hσ7) (fun σ9 v10 hσ9 => zpc_if (fun _ => fV_fX12_height_55 hσ9) (fun _ => fV_fX12_height_55 hσ9)))))))) (fun _ => fV_fX12_height_32 hσ1))
theorem fV_fX12_vCount_109 {σ0 : zSt} {σ : zSt} {s0 : Int32} (h : (zQ [3, 5, 6, 7, 8, 9, 21, 22, 23, 24, 25, 26] [(0, 0, 0), (0, 31, 33), (0, 39, 49)] [4, 10, 11] [(0, 30, 30)]) σ0 σ) : zpc (fX12_vCount_109 σ s0) (fun r => (zQ [3, 5, 6, 7, 8, 9, 21, 22, 23, 24, 25, 26] [(0, 0, 0), (0, 31, 33), (0, 39, 49)] [4, 10, 11] [(0, 30, 30)]) σ0 (r.1)) := by
  unfold fX12_vCount_109
  exact zpc_some h
theorem fV_fX12_vCount_108 {σ0 : zSt} {σ : zSt} {s0 : Int32} {s1 : Int32} (h : (zQ [3, 5, 6, 7, 8, 9, 21, 22, 23, 24, 25, 26] [(0, 0, 0), (0, 31, 33), (0, 39, 49)] [4, 10, 11] [(0, 30, 30)]) σ0 σ) : zpc (fX12_vCount_108 σ s0 s1) (fun r => (zQ [3, 5, 6, 7, 8, 9, 21, 22, 23, 24, 25, 26] [(0, 0, 0), (0, 31, 33), (0, 39, 49)] [4, 10, 11] [(0, 30, 30)]) σ0 (r.1)) := by
  unfold fX12_vCount_108
  exact fV_fX12_vCount_109 h
theorem fV_fX12_vCount_82 {σ0 : zSt} {σ : zSt} {x1 : Int32} {s0 : Int32} (h : (zQ [3, 5, 6, 7, 8, 9, 21, 22, 23, 24, 25, 26] [(0, 0, 0), (0, 31, 33), (0, 39, 49)] [4, 10, 11] [(0, 30, 30)]) σ0 σ) : zpc (fX12_vCount_82 σ x1 s0) (fun r => (zQ [3, 5, 6, 7, 8, 9, 21, 22, 23, 24, 25, 26] [(0, 0, 0), (0, 31, 33), (0, 39, 49)] [4, 10, 11] [(0, 30, 30)]) σ0 (r.1)) := by
  unfold fX12_vCount_82
  exact zpc_if (fun _ => zpc_if (fun _ => fV_fX12_vCount_108 h) (fun _ => fV_fX12_vCount_108 h)) (fun _ => fV_fX12_vCount_109 h)
theorem fV_fX12_vCount {σ0 : zSt} {σ : zSt} (h : (zQ [3, 5, 6, 7, 8, 9, 21, 22, 23, 24, 25, 26] [(0, 0, 0), (0, 31, 33), (0, 39, 49)] [4, 10, 11] [(0, 30, 30)]) σ0 σ) : zpc (fX12_vCount σ) (fun r => (zQ [3, 5, 6, 7, 8, 9, 21, 22, 23, 24, 25, 26] [(0, 0, 0), (0, 31, 33), (0, 39, 49)] [4, 10, 11] [(0, 30, 30)]) σ0 (r.1)) := by
  unfold fX12_vCount
  exact zpc_ck (zpc_bv (fun v1 _ => zpc_bi (fV_fX12_height h) (fun σ2 v3 hσ2 => zpc_if (fun _ => zpc_if (fun _ => fV_fX12_vCount_82 hσ2) (fun _ => zpc_if (fun _ => fV_fX12_vCount_82 hσ2) (fun _ => fV_fX12_vCount_82 hσ2))) (fun _ => zpc_if (fun _ => fV_fX12_vCount_82 hσ2) (fun _ => zpc_if (fun _ => fV_fX12_vCount_82 hσ2) (fun _ => fV_fX12_vCount_82 hσ2))))))
theorem fV_fX12_status {σ0 : zSt} {σ : zSt} (h : (zQ [3, 5, 6, 7, 8, 9, 21, 22, 23, 24, 25, 26] [(0, 0, 0), (0, 31, 33), (0, 39, 49)] [4, 10, 11] [(0, 30, 30)]) σ0 σ) : zpc (fX12_status σ) (fun r => (zQ [3, 5, 6, 7, 8, 9, 21, 22, 23, 24, 25, 26] [(0, 0, 0), (0, 31, 33), (0, 39, 49)] [4, 10, 11] [(0, 30, 30)]) σ0 (r.1)) := by
  unfold fX12_status
  exact zpc_ck (zpc_bv (fun v1 _ => zpc_ck (zpc_bs (zQ.wi h rfl) (fun σ2 hσ2 => zpc_ck (zpc_bs (zQ.wi hσ2 rfl) (fun σ3 hσ3 => zpc_ck (zpc_bs (zQ.wi hσ3 rfl) (fun σ4 hσ4 => zpc_some hσ4))))))))
theorem fV_fX12_video8 {σ0 : zSt} {σ : zSt} {x1 : Int32} (h : (zQ [3, 5, 6, 7, 8, 9, 21, 22, 23, 24, 25, 26] [(0, 0, 0), (0, 31, 33), (0, 39, 49)] [4, 10, 11] [(0, 30, 30)]) σ0 σ) : zpc (fX12_video8 σ x1) (fun r => (zQ [3, 5, 6, 7, 8, 9, 21, 22, 23, 24, 25, 26] [(0, 0, 0), (0, 31, 33), (0, 39, 49)] [4, 10, 11] [(0, 30, 30)]) σ0 (r.1)) := by
  unfold fX12_video8
  exact zpc_ck (zpc_some h)
theorem fV_fX12_further {σ0 : zSt} {σ : zSt} (h : (zQ [3, 5, 6, 7, 8, 9, 21, 22, 23, 24, 25, 26] [(0, 0, 0), (0, 31, 33), (0, 39, 49)] [4, 10, 11] [(0, 30, 30)]) σ0 σ) : zpc (fX12_further σ) (fun r => (zQ [3, 5, 6, 7, 8, 9, 21, 22, 23, 24, 25, 26] [(0, 0, 0), (0, 31, 33), (0, 39, 49)] [4, 10, 11] [(0, 30, 30)]) σ0 (r)) := by
  unfold fX12_further
  exact zpc_ck (zpc_ck (zpc_bs (zQ.wi h rfl) (fun σ1 hσ1 => zpc_some hσ1)))
theorem fV_fX12_data {σ0 : zSt} {σ : zSt} (h : (zQ [3, 5, 6, 7, 8, 9, 21, 22, 23, 24, 25, 26] [(0, 0, 0), (0, 31, 33), (0, 39, 49)] [4, 10, 11] [(0, 30, 30)]) σ0 σ) : zpc (fX12_data σ) (fun r => (zQ [3, 5, 6, 7, 8, 9, 21, 22, 23, 24, 25, 26] [(0, 0, 0), (0, 31, 33), (0, 39, 49)] [4, 10, 11] [(0, 30, 30)]) σ0 (r.1)) := by
  unfold fX12_data
  exact zpc_ck (zpc_bv (fun v1 _ => zpc_ck (zpc_bs (zQ.wi h rfl) (fun σ2 hσ2 => zpc_ck (zpc_bi (fV_fX12_video8 hσ2) (fun σ3 v4 hσ3 => zpc_ck (zpc_bs (zQ.wi hσ3 rfl) (fun σ5 hσ5 => zpc_bu (fV_fX12_further hσ5) (fun σ6 hσ6 => zpc_some hσ6)))))))))
theorem fV_fX12_lineAt_45 {σ0 : zSt} {σ : zSt} {s0 : Int32} (h : (zQ [3, 5, 6, 7, 8, 9, 21, 22, 23, 24, 25, 26] [(0, 0, 0), (0, 31, 33), (0, 39, 49)] [4, 10, 11] [(0, 30, 30)]) σ0 σ) : zpc (fX12_lineAt_45 σ s0) (fun r => (zQ [3, 5, 6, 7, 8, 9, 21, 22, 23, 24, 25, 26] [(0, 0, 0), (0, 31, 33), (0, 39, 49)] [4, 10, 11] [(0, 30, 30)]) σ0 (r.1)) := by
  unfold fX12_lineAt_45
  exact zpc_some h
theorem fV_fX12_lineAt {σ0 : zSt} {σ : zSt} {x1 : Int32} (h : (zQ [3, 5, 6, 7, 8, 9, 21, 22, 23, 24, 25, 26] [(0, 0, 0), (0, 31, 33), (0, 39, 49)] [4, 10, 11] [(0, 30, 30)]) σ0 σ) : zpc (fX12_lineAt σ x1) (fun r => (zQ [3, 5, 6, 7, 8, 9, 21, 22, 23, 24, 25, 26] [(0, 0, 0), (0, 31, 33), (0, 39, 49)] [4, 10, 11] [(0, 30, 30)]) σ0 (r.1)) := by
  unfold fX12_lineAt
  exact zpc_ck (zpc_if (fun _ => zpc_ck (fV_fX12_lineAt_45 h)) (fun _ => zpc_ck (fV_fX12_lineAt_45 h)))
theorem fV_fX12_without_20 {σ0 : zSt} {σ : zSt} {s0 : Int32} (h : (zQ [3, 5, 6, 7, 8, 9, 21, 22, 23, 24, 25, 26] [(0, 0, 0), (0, 31, 33), (0, 39, 49)] [4, 10, 11] [(0, 30, 30)]) σ0 σ) : zpc (fX12_without_20 σ s0) (fun r => (zQ [3, 5, 6, 7, 8, 9, 21, 22, 23, 24, 25, 26] [(0, 0, 0), (0, 31, 33), (0, 39, 49)] [4, 10, 11] [(0, 30, 30)]) σ0 (r.1)) := by
  unfold fX12_without_20
  exact zpc_some h
theorem fV_fX12_without {σ0 : zSt} {σ : zSt} {x1 : Int32} {x2 : Int32} {x3 : Int32} (h : (zQ [3, 5, 6, 7, 8, 9, 21, 22, 23, 24, 25, 26] [(0, 0, 0), (0, 31, 33), (0, 39, 49)] [4, 10, 11] [(0, 30, 30)]) σ0 σ) : zpc (fX12_without σ x1 x2 x3) (fun r => (zQ [3, 5, 6, 7, 8, 9, 21, 22, 23, 24, 25, 26] [(0, 0, 0), (0, 31, 33), (0, 39, 49)] [4, 10, 11] [(0, 30, 30)]) σ0 (r.1)) := by
  unfold fX12_without
  exact zpc_if (fun _ => fV_fX12_without_20 h) (fun _ => fV_fX12_without_20 h)
theorem fV_fX12_port_32 {σ0 : zSt} {σ : zSt} (h : (zQ [3, 5, 6, 7, 8, 9, 21, 22, 23, 24, 25, 26] [(0, 0, 0), (0, 31, 33), (0, 39, 49)] [4, 10, 11] [(0, 30, 30)]) σ0 σ) : zpc (fX12_port_32 σ) (fun r => (zQ [3, 5, 6, 7, 8, 9, 21, 22, 23, 24, 25, 26] [(0, 0, 0), (0, 31, 33), (0, 39, 49)] [4, 10, 11] [(0, 30, 30)]) σ0 (r.1)) := by
  unfold fX12_port_32
  exact zpc_some h
theorem fV_fX12_port_73 {σ0 : zSt} {σ : zSt} {s0 : Int32} (h : (zQ [3, 5, 6, 7, 8, 9, 21, 22, 23, 24, 25, 26] [(0, 0, 0), (0, 31, 33), (0, 39, 49)] [4, 10, 11] [(0, 30, 30)]) σ0 σ) : zpc (fX12_port_73 σ s0) (fun r => (zQ [3, 5, 6, 7, 8, 9, 21, 22, 23, 24, 25, 26] [(0, 0, 0), (0, 31, 33), (0, 39, 49)] [4, 10, 11] [(0, 30, 30)]) σ0 (r.1)) := by
  unfold fX12_port_73
  exact zpc_some h
theorem fV_fX12_port_60 {σ0 : zSt} {σ : zSt} {s0 : Int32} {s1 : Int32} (h : (zQ [3, 5, 6, 7, 8, 9, 21, 22, 23, 24, 25, 26] [(0, 0, 0), (0, 31, 33), (0, 39, 49)] [4, 10, 11] [(0, 30, 30)]) σ0 σ) : zpc (fX12_port_60 σ s0 s1) (fun r => (zQ [3, 5, 6, 7, 8, 9, 21, 22, 23, 24, 25, 26] [(0, 0, 0), (0, 31, 33), (0, 39, 49)] [4, 10, 11] [(0, 30, 30)]) σ0 (r.1)) := by
  unfold fX12_port_60
  exact fV_fX12_port_73 h
theorem fV_fX12_port_99 {σ0 : zSt} {σ : zSt} {s0 : Int32} (h : (zQ [3, 5, 6, 7, 8, 9, 21, 22, 23, 24, 25, 26] [(0, 0, 0), (0, 31, 33), (0, 39, 49)] [4, 10, 11] [(0, 30, 30)]) σ0 σ) : zpc (fX12_port_99 σ s0) (fun r => (zQ [3, 5, 6, 7, 8, 9, 21, 22, 23, 24, 25, 26] [(0, 0, 0), (0, 31, 33), (0, 39, 49)] [4, 10, 11] [(0, 30, 30)]) σ0 (r.1)) := by
  unfold fX12_port_99
  exact zpc_some h
theorem fV_fX12_port_122 {σ0 : zSt} {σ : zSt} {s0 : Int32} (h : (zQ [3, 5, 6, 7, 8, 9, 21, 22, 23, 24, 25, 26] [(0, 0, 0), (0, 31, 33), (0, 39, 49)] [4, 10, 11] [(0, 30, 30)]) σ0 σ) : zpc (fX12_port_122 σ s0) (fun r => (zQ [3, 5, 6, 7, 8, 9, 21, 22, 23, 24, 25, 26] [(0, 0, 0), (0, 31, 33), (0, 39, 49)] [4, 10, 11] [(0, 30, 30)]) σ0 (r.1)) := by
  unfold fX12_port_122
  exact zpc_some h
theorem fV_fX12_port_230 {σ0 : zSt} {σ : zSt} {s0 : Int32} (h : (zQ [3, 5, 6, 7, 8, 9, 21, 22, 23, 24, 25, 26] [(0, 0, 0), (0, 31, 33), (0, 39, 49)] [4, 10, 11] [(0, 30, 30)]) σ0 σ) : zpc (fX12_port_230 σ s0) (fun r => (zQ [3, 5, 6, 7, 8, 9, 21, 22, 23, 24, 25, 26] [(0, 0, 0), (0, 31, 33), (0, 39, 49)] [4, 10, 11] [(0, 30, 30)]) σ0 (r.1)) := by
  unfold fX12_port_230
  exact zpc_some h
theorem fV_fX12_port_289 {σ0 : zSt} {σ : zSt} {s0 : Int32} (h : (zQ [3, 5, 6, 7, 8, 9, 21, 22, 23, 24, 25, 26] [(0, 0, 0), (0, 31, 33), (0, 39, 49)] [4, 10, 11] [(0, 30, 30)]) σ0 σ) : zpc (fX12_port_289 σ s0) (fun r => (zQ [3, 5, 6, 7, 8, 9, 21, 22, 23, 24, 25, 26] [(0, 0, 0), (0, 31, 33), (0, 39, 49)] [4, 10, 11] [(0, 30, 30)]) σ0 (r.1)) := by
  unfold fX12_port_289
  exact zpc_some h
theorem fV_fX12_port_147 {σ0 : zSt} {σ : zSt} {x2 : Int32} (h : (zQ [3, 5, 6, 7, 8, 9, 21, 22, 23, 24, 25, 26] [(0, 0, 0), (0, 31, 33), (0, 39, 49)] [4, 10, 11] [(0, 30, 30)]) σ0 σ) : zpc (fX12_port_147 σ x2) (fun r => (zQ [3, 5, 6, 7, 8, 9, 21, 22, 23, 24, 25, 26] [(0, 0, 0), (0, 31, 33), (0, 39, 49)] [4, 10, 11] [(0, 30, 30)]) σ0 (r.1)) := by
  unfold fX12_port_147
  exact zpc_if (fun _ => zpc_ck (zpc_ck (zpc_bv (fun v1 _ => zpc_ck (zpc_if (fun _ => zpc_ck (zpc_bi (fV_fX12_without h) (fun σ2 v3 hσ2 => fV_fX12_port_289 hσ2))) (fun _ => fV_fX12_port_289 h)))))) (fun _ => zpc_ck (zpc_bv (fun v4 _ => zpc_bi (fV_fX12_lineAt h) (fun σ5 v6 hσ5 => zpc_bi (fV_fX12_without hσ5) (fun σ7 v8 hσ7 => zpc_bi (fV_fX12_lineAt hσ7) (fun σ9 v10 hσ9 => zpc_bi (fV_fX12_without hσ9) (fun σ11 v12 hσ11 => zpc_ck (zpc_if (fun _ => zpc_ck (zpc_bi (fV_fX12_without hσ11) (fun σ13 v14 hσ13 => fV_fX12_port_230 hσ13))) (fun _ => fV_fX12_port_230 hσ11)))))))))
theorem fV_fX12_port_12 {σ0 : zSt} {σ : zSt} {x1 : Int32} {s0 : Int32} (h : (zQ [3, 5, 6, 7, 8, 9, 21, 22, 23, 24, 25, 26] [(0, 0, 0), (0, 31, 33), (0, 39, 49)] [4, 10, 11] [(0, 30, 30)]) σ0 σ) : zpc (fX12_port_12 σ x1 s0) (fun r => (zQ [3, 5, 6, 7, 8, 9, 21, 22, 23, 24, 25, 26] [(0, 0, 0), (0, 31, 33), (0, 39, 49)] [4, 10, 11] [(0, 30, 30)]) σ0 (r.1)) := by
  unfold fX12_port_12
  exact zpc_if (fun _ => zpc_if (fun _ => zpc_if (fun _ => zpc_if (fun _ => zpc_if (fun _ => fV_fX12_port_147 h) (fun _ => zpc_ck (zpc_some h))) (fun _ => fV_fX12_port_147 h)) (fun _ => zpc_if (fun _ => zpc_bi (fV_fX12_data h) (fun σ15 v16 hσ15 => fV_fX12_port_122 hσ15)) (fun _ => zpc_bi (fV_fX12_status h) (fun σ17 v18 hσ17 => fV_fX12_port_122 hσ17)))) (fun _ => zpc_if (fun _ => zpc_bi (fV_fX12_vCount h) (fun σ19 v20 hσ19 => fV_fX12_port_99 hσ19)) (fun _ => zpc_ck (fV_fX12_port_99 h)))) (fun _ => zpc_if (fun _ => zpc_if (fun _ => zpc_if (fun _ => zpc_ck (zpc_if (fun _ => fV_fX12_port_60 h) (fun _ => fV_fX12_port_60 h))) (fun _ => zpc_ck (fV_fX12_port_73 h))) (fun _ => fV_fX12_port_32 h)) (fun _ => fV_fX12_port_32 h))
theorem fV_fX12_port {σ0 : zSt} {σ : zSt} {x1 : Int32} (h : (zQ [3, 5, 6, 7, 8, 9, 21, 22, 23, 24, 25, 26] [(0, 0, 0), (0, 31, 33), (0, 39, 49)] [4, 10, 11] [(0, 30, 30)]) σ0 σ) : zpc (fX12_port σ x1) (fun r => (zQ [3, 5, 6, 7, 8, 9, 21, 22, 23, 24, 25, 26] [(0, 0, 0), (0, 31, 33), (0, 39, 49)] [4, 10, 11] [(0, 30, 30)]) σ0 (r.1)) := by
  unfold fX12_port
  exact zpc_ck (zpc_if (fun _ => fV_fX12_port_12 h) (fun _ => fV_fX12_port_12 h))
theorem fV_fX12_hCount_27 {σ0 : zSt} {σ : zSt} {s0 : Int32} (h : (zQ [3, 5, 6, 7, 8, 9, 21, 22, 23, 24, 25, 26] [(0, 0, 0), (0, 31, 33), (0, 39, 49)] [4, 10, 11] [(0, 30, 30)]) σ0 σ) : zpc (fX12_hCount_27 σ s0) (fun r => (zQ [3, 5, 6, 7, 8, 9, 21, 22, 23, 24, 25, 26] [(0, 0, 0), (0, 31, 33), (0, 39, 49)] [4, 10, 11] [(0, 30, 30)]) σ0 (r.1)) := by
  unfold fX12_hCount_27
  exact zpc_some h
theorem fV_fX12_hCount {σ0 : zSt} {σ : zSt} (h : (zQ [3, 5, 6, 7, 8, 9, 21, 22, 23, 24, 25, 26] [(0, 0, 0), (0, 31, 33), (0, 39, 49)] [4, 10, 11] [(0, 30, 30)]) σ0 σ) : zpc (fX12_hCount σ) (fun r => (zQ [3, 5, 6, 7, 8, 9, 21, 22, 23, 24, 25, 26] [(0, 0, 0), (0, 31, 33), (0, 39, 49)] [4, 10, 11] [(0, 30, 30)]) σ0 (r.1)) := by
  unfold fX12_hCount
  exact zpc_ck (zpc_ck (zpc_bv (fun v1 _ => zpc_if (fun _ => fV_fX12_hCount_27 h) (fun _ => fV_fX12_hCount_27 h))))
theorem fV_fX12_noise_141 {σ0 : zSt} {σ : zSt} (h : (zQ [3, 5, 6, 7, 8, 9, 21, 22, 23, 24, 25, 26] [(0, 0, 0), (0, 31, 33), (0, 39, 49)] [4, 10, 11] [(0, 30, 30)]) σ0 σ) : zpc (fX12_noise_141 σ) (fun r => (zQ [3, 5, 6, 7, 8, 9, 21, 22, 23, 24, 25, 26] [(0, 0, 0), (0, 31, 33), (0, 39, 49)] [4, 10, 11] [(0, 30, 30)]) σ0 (r)) := by
  unfold fX12_noise_141
  exact zpc_some h
theorem fV_fX12_noise_140 {σ0 : zSt} {σ : zSt} {s0 : Int32} {s1 : Int32} (h : (zQ [3, 5, 6, 7, 8, 9, 21, 22, 23, 24, 25, 26] [(0, 0, 0), (0, 31, 33), (0, 39, 49)] [4, 10, 11] [(0, 30, 30)]) σ0 σ) : zpc (fX12_noise_140 σ s0 s1) (fun r => (zQ [3, 5, 6, 7, 8, 9, 21, 22, 23, 24, 25, 26] [(0, 0, 0), (0, 31, 33), (0, 39, 49)] [4, 10, 11] [(0, 30, 30)]) σ0 (r)) := by
  unfold fX12_noise_140
  exact zpc_ck (zpc_bs (zQ.wi h rfl) (fun σ1 hσ1 => fV_fX12_noise_141 hσ1))
theorem fV_fX12_noise_19 {σ0 : zSt} {σ : zSt} {x1 : Int32} (h : (zQ [3, 5, 6, 7, 8, 9, 21, 22, 23, 24, 25, 26] [(0, 0, 0), (0, 31, 33), (0, 39, 49)] [4, 10, 11] [(0, 30, 30)]) σ0 σ) : zpc (fX12_noise_19 σ x1) (fun r => (zQ [3, 5, 6, 7, 8, 9, 21, 22, 23, 24, 25, 26] [(0, 0, 0), (0, 31, 33), (0, 39, 49)] [4, 10, 11] [(0, 30, 30)]) σ0 (r)) := by
  unfold fX12_noise_19
  exact zpc_ck (zpc_ck (zpc_bv (fun v2 _ => zpc_ck (zpc_ck (zpc_if (fun _ => zpc_ck (zpc_bs (zQ.wi h rfl) (fun σ5 hσ5 => fV_fX12_noise_141 hσ5))) (fun _ => zpc_if (fun _ => zpc_ck (zpc_bs (zQ.wi h rfl) (fun σ3 hσ3 => zpc_ck (zpc_bs (zQ.wi hσ3 rfl) (fun σ4 hσ4 => fV_fX12_noise_141 hσ4))))) (fun _ => zpc_if (fun _ => zpc_ck (fV_fX12_noise_140 h)) (fun _ => zpc_ck (fV_fX12_noise_140 h)))))))))
theorem fV_fX12_noise {σ0 : zSt} {σ : zSt} {x1 : Int32} (h : (zQ [3, 5, 6, 7, 8, 9, 21, 22, 23, 24, 25, 26] [(0, 0, 0), (0, 31, 33), (0, 39, 49)] [4, 10, 11] [(0, 30, 30)]) σ0 σ) : zpc (fX12_noise σ x1) (fun r => (zQ [3, 5, 6, 7, 8, 9, 21, 22, 23, 24, 25, 26] [(0, 0, 0), (0, 31, 33), (0, 39, 49)] [4, 10, 11] [(0, 30, 30)]) σ0 (r)) := by
  unfold fX12_noise
  exact zpc_if (fun _ => fV_fX12_noise_19 h) (fun _ => zpc_ck (zpc_bs (zQ.wi h rfl) (fun σ6 hσ6 => fV_fX12_noise_19 hσ6)))
theorem fV_fX12_control_162 {σ0 : zSt} {σ : zSt} (h : (zQ [3, 5, 6, 7, 8, 9, 21, 22, 23, 24, 25, 26] [(0, 0, 0), (0, 31, 33), (0, 39, 49)] [4, 10, 11] [(0, 30, 30)]) σ0 σ) : zpc (fX12_control_162 σ) (fun r => (zQ [3, 5, 6, 7, 8, 9, 21, 22, 23, 24, 25, 26] [(0, 0, 0), (0, 31, 33), (0, 39, 49)] [4, 10, 11] [(0, 30, 30)]) σ0 (r)) := by
  unfold fX12_control_162
  exact zpc_some h
theorem fV_fX12_control {σ0 : zSt} {σ : zSt} {x1 : Int32} (h : (zQ [3, 5, 6, 7, 8, 9, 21, 22, 23, 24, 25, 26] [(0, 0, 0), (0, 31, 33), (0, 39, 49)] [4, 10, 11] [(0, 30, 30)]) σ0 σ) : zpc (fX12_control σ x1) (fun r => (zQ [3, 5, 6, 7, 8, 9, 21, 22, 23, 24, 25, 26] [(0, 0, 0), (0, 31, 33), (0, 39, 49)] [4, 10, 11] [(0, 30, 30)]) σ0 (r)) := by
  unfold fX12_control
  exact zpc_ck (zpc_if (fun _ => zpc_ck (zpc_ck (zpc_bs (zQ.wi h rfl) (fun σ9 hσ9 => zpc_ck (zpc_bs (zQ.wi hσ9 rfl) (fun σ10 hσ10 => zpc_some hσ10)))))) (fun _ => zpc_ck (zpc_bs (zQ.wi h rfl) (fun σ1 hσ1 => zpc_ck (zpc_ck (zpc_bs (zQ.wi hσ1 rfl) (fun σ2 hσ2 => zpc_ck (zpc_bs (zQ.wi hσ2 rfl) (fun σ3 hσ3 => zpc_ck (zpc_if (fun _ => zpc_ck (zpc_bi (fV_fX12_video8 hσ3) (fun σ5 v6 hσ5 => zpc_ck (zpc_bs (zQ.wi hσ5 rfl) (fun σ7 hσ7 => zpc_bu (fV_fX12_further hσ7) (fun σ8 hσ8 => fV_fX12_control_162 hσ8)))))) (fun _ => zpc_ck (zpc_if (fun _ => zpc_ck (zpc_if (fun _ => fV_fX12_control_162 hσ3) (fun _ => zpc_ck (zpc_ck (zpc_ck (zpc_bs (zQ.wi hσ3 rfl) (fun σ4 hσ4 => fV_fX12_control_162 hσ4))))))) (fun _ => fV_fX12_control_162 hσ3)))))))))))))
theorem fV_fX12_dataTo_115 {σ0 : zSt} {σ : zSt} (h : (zQ [3, 5, 6, 7, 8, 9, 21, 22, 23, 24, 25, 26] [(0, 0, 0), (0, 31, 33), (0, 39, 49)] [4, 10, 11] [(0, 30, 30)]) σ0 σ) : zpc (fX12_dataTo_115 σ) (fun r => (zQ [3, 5, 6, 7, 8, 9, 21, 22, 23, 24, 25, 26] [(0, 0, 0), (0, 31, 33), (0, 39, 49)] [4, 10, 11] [(0, 30, 30)]) σ0 (r)) := by
  unfold fX12_dataTo_115
  exact zpc_bu (fV_fX12_further h) (fun σ1 hσ1 => zpc_some hσ1)
theorem fV_fX12_dataTo {σ0 : zSt} {σ : zSt} {x1 : Int32} (h : (zQ [3, 5, 6, 7, 8, 9, 21, 22, 23, 24, 25, 26] [(0, 0, 0), (0, 31, 33), (0, 39, 49)] [4, 10, 11] [(0, 30, 30)]) σ0 σ) : zpc (fX12_dataTo σ x1) (fun r => (zQ [3, 5, 6, 7, 8, 9, 21, 22, 23, 24, 25, 26] [(0, 0, 0), (0, 31, 33), (0, 39, 49)] [4, 10, 11] [(0, 30, 30)]) σ0 (r)) := by
  unfold fX12_dataTo
  exact zpc_ck (zpc_bs (zQ.wi h rfl) (fun σ2 hσ2 => zpc_ck (zpc_bs (zQ.wi hσ2 rfl) (fun σ3 hσ3 => zpc_ck (zpc_bv (fun v4 _ => zpc_ck (zpc_if (fun _ => zpc_if (fun _ => zpc_ck (zpc_if (fun _ => zpc_ck (zpc_bs (zQ.wi hσ3 rfl) (fun σ7 hσ7 => fV_fX12_dataTo_115 hσ7))) (fun _ => zpc_ck (zpc_ck (zpc_ck (zpc_bs (zQ.wi hσ3 rfl) (fun σ5 hσ5 => zpc_ck (zpc_ck (zpc_bs (zQ.wi hσ5 rfl) (fun σ6 hσ6 => fV_fX12_dataTo_115 hσ6)))))))))) (fun _ => zpc_ck (zpc_ck (zpc_bs (zQ.wi hσ3 rfl) (fun σ8 hσ8 => fV_fX12_dataTo_115 hσ8))))) (fun _ => zpc_ck (zpc_bs (zQ.wi hσ3 rfl) (fun σ9 hσ9 => fV_fX12_dataTo_115 hσ9))))))))))
theorem fV_fX12_portTo_267 {σ0 : zSt} {σ : zSt} (h : (zQ [3, 5, 6, 7, 8, 9, 21, 22, 23, 24, 25, 26] [(0, 0, 0), (0, 31, 33), (0, 39, 49)] [4, 10, 11] [(0, 30, 30)]) σ0 σ) : zpc (fX12_portTo_267 σ) (fun r => (zQ [3, 5, 6, 7, 8, 9, 21, 22, 23, 24, 25, 26] [(0, 0, 0), (0, 31, 33), (0, 39, 49)] [4, 10, 11] [(0, 30, 30)]) σ0 (r)) := by
  unfold fX12_portTo_267
  exact zpc_some h
theorem fV_fX12_portTo_140 {σ0 : zSt} {σ : zSt} (h : (zQ [3, 5, 6, 7, 8, 9, 21, 22, 23, 24, 25, 26] [(0, 0, 0), (0, 31, 33), (0, 39, 49)] [4, 10, 11] [(0, 30, 30)]) σ0 σ) : zpc (fX12_portTo_140 σ) (fun r => (zQ [3, 5, 6, 7, 8, 9, 21, 22, 23, 24, 25, 26] [(0, 0, 0), (0, 31, 33), (0, 39, 49)] [4, 10, 11] [(0, 30, 30)]) σ0 (r)) := by
  unfold fX12_portTo_140
  exact fV_fX12_portTo_267 h
theorem fV_fX12_portTo_129 {σ0 : zSt} {σ : zSt} (h : (zQ [3, 5, 6, 7, 8, 9, 21, 22, 23, 24, 25, 26] [(0, 0, 0), (0, 31, 33), (0, 39, 49)] [4, 10, 11] [(0, 30, 30)]) σ0 σ) : zpc (fX12_portTo_129 σ) (fun r => (zQ [3, 5, 6, 7, 8, 9, 21, 22, 23, 24, 25, 26] [(0, 0, 0), (0, 31, 33), (0, 39, 49)] [4, 10, 11] [(0, 30, 30)]) σ0 (r)) := by
  unfold fX12_portTo_129
  exact zpc_bi (fV_fX12_hCount h) (fun σ1 v2 hσ1 => zpc_ck (zpc_bs (zQ.wi hσ1 rfl) (fun σ3 hσ3 => fV_fX12_portTo_140 hσ3)))
theorem fV_fX12_portTo_115 {σ0 : zSt} {σ : zSt} {x5 : Int32} (h : (zQ [3, 5, 6, 7, 8, 9, 21, 22, 23, 24, 25, 26] [(0, 0, 0), (0, 31, 33), (0, 39, 49)] [4, 10, 11] [(0, 30, 30)]) σ0 σ) : zpc (fX12_portTo_115 σ x5) (fun r => (zQ [3, 5, 6, 7, 8, 9, 21, 22, 23, 24, 25, 26] [(0, 0, 0), (0, 31, 33), (0, 39, 49)] [4, 10, 11] [(0, 30, 30)]) σ0 (r)) := by
  unfold fX12_portTo_115
  exact zpc_if (fun _ => zpc_bi (fV_fX12_lineAt h) (fun σ4 v5 hσ4 => zpc_if (fun _ => fV_fX12_portTo_129 hσ4) (fun _ => fV_fX12_portTo_140 hσ4))) (fun _ => fV_fX12_portTo_140 h)
theorem fV_fX12_portTo_75 {σ0 : zSt} {σ : zSt} {x2 : Int32} {x3 : Int32} (h : (zQ [3, 5, 6, 7, 8, 9, 21, 22, 23, 24, 25, 26] [(0, 0, 0), (0, 31, 33), (0, 39, 49)] [4, 10, 11] [(0, 30, 30)]) σ0 σ) : zpc (fX12_portTo_75 σ x2 x3) (fun r => (zQ [3, 5, 6, 7, 8, 9, 21, 22, 23, 24, 25, 26] [(0, 0, 0), (0, 31, 33), (0, 39, 49)] [4, 10, 11] [(0, 30, 30)]) σ0 (r)) := by
  unfold fX12_portTo_75
  exact zpc_if (fun _ => fV_fX12_portTo_267 h) (fun _ => zpc_bi (fV_fX12_lineAt h) (fun σ6 v7 hσ6 => zpc_bi (fV_fX12_lineAt hσ6) (fun σ8 v9 hσ8 => zpc_ck (zpc_bs (zQ.wi hσ8 rfl) (fun σ10 hσ10 => zpc_if (fun _ => zpc_bi (fV_fX12_lineAt hσ10) (fun σ11 v12 hσ11 => zpc_if (fun _ => fV_fX12_portTo_129 hσ11) (fun _ => fV_fX12_portTo_115 hσ11))) (fun _ => fV_fX12_portTo_115 hσ10))))))
theorem fV_fX12_portTo_50 {σ0 : zSt} {σ : zSt} {x1 : Int32} {x2 : Int32} {x3 : Int32} (h : (zQ [3, 5, 6, 7, 8, 9, 21, 22, 23, 24, 25, 26] [(0, 0, 0), (0, 31, 33), (0, 39, 49)] [4, 10, 11] [(0, 30, 30)]) σ0 σ) : zpc (fX12_portTo_50 σ x1 x2 x3) (fun r => (zQ [3, 5, 6, 7, 8, 9, 21, 22, 23, 24, 25, 26] [(0, 0, 0), (0, 31, 33), (0, 39, 49)] [4, 10, 11] [(0, 30, 30)]) σ0 (r)) := by
  unfold fX12_portTo_50
  exact zpc_if (fun _ => zpc_if (fun _ => zpc_ck (zpc_bs (zQ.wi h rfl) (fun σ13 hσ13 => fV_fX12_portTo_267 hσ13))) (fun _ => fV_fX12_portTo_75 h)) (fun _ => fV_fX12_portTo_75 h)
theorem fV_fX12_portTo_12 {σ0 : zSt} {σ : zSt} {x1 : Int32} {x2 : Int32} {s0 : Int32} (h : (zQ [3, 5, 6, 7, 8, 9, 21, 22, 23, 24, 25, 26] [(0, 0, 0), (0, 31, 33), (0, 39, 49)] [4, 10, 11] [(0, 30, 30)]) σ0 σ) : zpc (fX12_portTo_12 σ x1 x2 s0) (fun r => (zQ [3, 5, 6, 7, 8, 9, 21, 22, 23, 24, 25, 26] [(0, 0, 0), (0, 31, 33), (0, 39, 49)] [4, 10, 11] [(0, 30, 30)]) σ0 (r)) := by
  unfold fX12_portTo_12
  exact zpc_if (fun _ => zpc_if (fun _ => zpc_if (fun _ => zpc_if (fun _ => fV_fX12_portTo_267 h) (fun _ => zpc_if (fun _ => fV_fX12_portTo_267 h) (fun _ => zpc_if (fun _ => fV_fX12_portTo_267 h) (fun _ => zpc_if (fun _ => zpc_ck (zpc_ck (zpc_bs (zQ.wi h rfl) (fun σ16 hσ16 => fV_fX12_portTo_267 hσ16)))) (fun _ => zpc_if (fun _ => zpc_ck (zpc_ck (zpc_bs (zQ.wi h rfl) (fun σ15 hσ15 => fV_fX12_portTo_267 hσ15)))) (fun _ => zpc_ck (zpc_ck (zpc_bs (zQ.wi h rfl) (fun σ14 hσ14 => fV_fX12_portTo_267 hσ14))))))))) (fun _ => zpc_if (fun _ => zpc_bu (fV_fX12_dataTo h) (fun σ17 hσ17 => fV_fX12_portTo_267 hσ17)) (fun _ => zpc_bu (fV_fX12_control h) (fun σ18 hσ18 => fV_fX12_portTo_267 hσ18)))) (fun _ => zpc_bu (fV_fX12_noise h) (fun σ19 hσ19 => fV_fX12_portTo_267 hσ19))) (fun _ => zpc_if (fun _ => zpc_if (fun _ => fV_fX12_portTo_50 h) (fun _ => zpc_if (fun _ => fV_fX12_portTo_50 h) (fun _ => zpc_ck (zpc_bs (zQ.wi h rfl) (fun σ20 hσ20 => fV_fX12_portTo_267 hσ20))))) (fun _ => fV_fX12_portTo_50 h))
theorem fV_fX12_portTo {σ0 : zSt} {σ : zSt} {x1 : Int32} {x2 : Int32} (h : (zQ [3, 5, 6, 7, 8, 9, 21, 22, 23, 24, 25, 26] [(0, 0, 0), (0, 31, 33), (0, 39, 49)] [4, 10, 11] [(0, 30, 30)]) σ0 σ) : zpc (fX12_portTo σ x1 x2) (fun r => (zQ [3, 5, 6, 7, 8, 9, 21, 22, 23, 24, 25, 26] [(0, 0, 0), (0, 31, 33), (0, 39, 49)] [4, 10, 11] [(0, 30, 30)]) σ0 (r)) := by
  unfold fX12_portTo
  exact zpc_ck (zpc_if (fun _ => fV_fX12_portTo_12 h) (fun _ => fV_fX12_portTo_12 h))
theorem fV_fX12_turned_118 {σ0 : zSt} {σ : zSt} {s0 : Int32} (h : (zQ [3, 5, 6, 7, 8, 9, 21, 22, 23, 24, 25, 26] [(0, 0, 0), (0, 31, 33), (0, 39, 49)] [4, 10, 11] [(0, 30, 30)]) σ0 σ) : zpc (fX12_turned_118 σ s0) (fun r => (zQ [3, 5, 6, 7, 8, 9, 21, 22, 23, 24, 25, 26] [(0, 0, 0), (0, 31, 33), (0, 39, 49)] [4, 10, 11] [(0, 30, 30)]) σ0 (r.1)) := by
  unfold fX12_turned_118
  exact zpc_some h
theorem fV_fX12_turned_89 {σ0 : zSt} {σ : zSt} {x2 : Int32} {x3 : Int32} {x5 : Int32} {s0 : Int32} {s1 : Int32} (h : (zQ [3, 5, 6, 7, 8, 9, 21, 22, 23, 24, 25, 26] [(0, 0, 0), (0, 31, 33), (0, 39, 49)] [4, 10, 11] [(0, 30, 30)]) σ0 σ) : zpc (fX12_turned_89 σ x2 x3 x5 s0 s1) (fun r => (zQ [3, 5, 6, 7, 8, 9, 21, 22, 23, 24, 25, 26] [(0, 0, 0), (0, 31, 33), (0, 39, 49)] [4, 10, 11] [(0, 30, 30)]) σ0 (r.1)) := by
  unfold fX12_turned_89
  exact zpc_bu (fV_fX12_put h) (fun σ1 hσ1 => zpc_if (fun _ => fV_fX12_turned_118 hσ1) (fun _ => fV_fX12_turned_118 hσ1))
theorem fV_fX12_turned_74 {σ0 : zSt} {σ : zSt} {x2 : Int32} {x3 : Int32} {x4 : Int32} {s0 : Int32} (h : (zQ [3, 5, 6, 7, 8, 9, 21, 22, 23, 24, 25, 26] [(0, 0, 0), (0, 31, 33), (0, 39, 49)] [4, 10, 11] [(0, 30, 30)]) σ0 σ) : zpc (fX12_turned_74 σ x2 x3 x4 s0) (fun r => (zQ [3, 5, 6, 7, 8, 9, 21, 22, 23, 24, 25, 26] [(0, 0, 0), (0, 31, 33), (0, 39, 49)] [4, 10, 11] [(0, 30, 30)]) σ0 (r.1)) := by
  unfold fX12_turned_74
  exact zpc_if (fun _ => fV_fX12_turned_89 h) (fun _ => fV_fX12_turned_89 h)
theorem fV_fX12_turned_26 {σ0 : zSt} {σ : zSt} {x1 : Int32} {x2 : Int32} {x3 : Int32} {s0 : Int32} (h : (zQ [3, 5, 6, 7, 8, 9, 21, 22, 23, 24, 25, 26] [(0, 0, 0), (0, 31, 33), (0, 39, 49)] [4, 10, 11] [(0, 30, 30)]) σ0 σ) : zpc (fX12_turned_26 σ x1 x2 x3 s0) (fun r => (zQ [3, 5, 6, 7, 8, 9, 21, 22, 23, 24, 25, 26] [(0, 0, 0), (0, 31, 33), (0, 39, 49)] [4, 10, 11] [(0, 30, 30)]) σ0 (r.1)) := by
  unfold fX12_turned_26
  exact zpc_if (fun _ => zpc_if (fun _ => zpc_if (fun _ => fV_fX12_turned_74 h) (fun _ => zpc_if (fun _ => fV_fX12_turned_74 h) (fun _ => fV_fX12_turned_74 h))) (fun _ => zpc_bi (fV_fX12_flag h) (fun σ2 v3 hσ2 => fV_fX12_turned_74 hσ2))) (fun _ => fV_fX12_turned_74 h)
theorem fV_fX12_turned_11 {σ0 : zSt} {σ : zSt} {x1 : Int32} {x2 : Int32} {s0 : Int32} (h : (zQ [3, 5, 6, 7, 8, 9, 21, 22, 23, 24, 25, 26] [(0, 0, 0), (0, 31, 33), (0, 39, 49)] [4, 10, 11] [(0, 30, 30)]) σ0 σ) : zpc (fX12_turned_11 σ x1 x2 s0) (fun r => (zQ [3, 5, 6, 7, 8, 9, 21, 22, 23, 24, 25, 26] [(0, 0, 0), (0, 31, 33), (0, 39, 49)] [4, 10, 11] [(0, 30, 30)]) σ0 (r.1)) := by
  unfold fX12_turned_11
  exact zpc_if (fun _ => fV_fX12_turned_26 h) (fun _ => fV_fX12_turned_26 h)
theorem fV_fX12_turned {σ0 : zSt} {σ : zSt} {x1 : Int32} {x2 : Int32} (h : (zQ [3, 5, 6, 7, 8, 9, 21, 22, 23, 24, 25, 26] [(0, 0, 0), (0, 31, 33), (0, 39, 49)] [4, 10, 11] [(0, 30, 30)]) σ0 σ) : zpc (fX12_turned σ x1 x2) (fun r => (zQ [3, 5, 6, 7, 8, 9, 21, 22, 23, 24, 25, 26] [(0, 0, 0), (0, 31, 33), (0, 39, 49)] [4, 10, 11] [(0, 30, 30)]) σ0 (r.1)) := by
  unfold fX12_turned
  exact zpc_ck (zpc_if (fun _ => fV_fX12_turned_11 h) (fun _ => fV_fX12_turned_11 h))
theorem fV_fX12_turn_122 {σ0 : zSt} {σ : zSt} {s0 : Int32} (h : (zQ [3, 5, 6, 7, 8, 9, 21, 22, 23, 24, 25, 26] [(0, 0, 0), (0, 31, 33), (0, 39, 49)] [4, 10, 11] [(0, 30, 30)]) σ0 σ) : zpc (fX12_turn_122 σ s0) (fun r => (zQ [3, 5, 6, 7, 8, 9, 21, 22, 23, 24, 25, 26] [(0, 0, 0), (0, 31, 33), (0, 39, 49)] [4, 10, 11] [(0, 30, 30)]) σ0 (r.1)) := by
  unfold fX12_turn_122
  exact zpc_some h
theorem fV_fX12_turn_106 {σ0 : zSt} {σ : zSt} {x3 : Int32} {s0 : Int32} (h : (zQ [3, 5, 6, 7, 8, 9, 21, 22, 23, 24, 25, 26] [(0, 0, 0), (0, 31, 33), (0, 39, 49)] [4, 10, 11] [(0, 30, 30)]) σ0 σ) : zpc (fX12_turn_106 σ x3 s0) (fun r => (zQ [3, 5, 6, 7, 8, 9, 21, 22, 23, 24, 25, 26] [(0, 0, 0), (0, 31, 33), (0, 39, 49)] [4, 10, 11] [(0, 30, 30)]) σ0 (r.1)) := by
  unfold fX12_turn_106
  exact zpc_bu (fV_fX12_xy h) (fun σ1 hσ1 => zpc_if (fun _ => fV_fX12_turn_122 hσ1) (fun _ => fV_fX12_turn_122 hσ1))
theorem fV_fX12_turn_69 {σ0 : zSt} {σ : zSt} {x3 : Int32} {x4 : Int32} {s0 : Int32} {s1 : Int32} (h : (zQ [3, 5, 6, 7, 8, 9, 21, 22, 23, 24, 25, 26] [(0, 0, 0), (0, 31, 33), (0, 39, 49)] [4, 10, 11] [(0, 30, 30)]) σ0 σ) : zpc (fX12_turn_69 σ x3 x4 s0 s1) (fun r => (zQ [3, 5, 6, 7, 8, 9, 21, 22, 23, 24, 25, 26] [(0, 0, 0), (0, 31, 33), (0, 39, 49)] [4, 10, 11] [(0, 30, 30)]) σ0 (r.1)) := by
  unfold fX12_turn_69
  exact zpc_bu (fV_fX12_put h) (fun σ2 hσ2 => zpc_bu (fV_fX12_put hσ2) (fun σ3 hσ3 => zpc_bu (fV_fX12_put hσ3) (fun σ4 hσ4 => zpc_if (fun _ => zpc_ck (fV_fX12_turn_106 hσ4)) (fun _ => fV_fX12_turn_106 hσ4))))
theorem fV_fX12_turn_219 {σ0 : zSt} {σ : zSt} {s0 : Int32} (h : (zQ [3, 5, 6, 7, 8, 9, 21, 22, 23, 24, 25, 26] [(0, 0, 0), (0, 31, 33), (0, 39, 49)] [4, 10, 11] [(0, 30, 30)]) σ0 σ) : zpc (fX12_turn_219 σ s0) (fun r => (zQ [3, 5, 6, 7, 8, 9, 21, 22, 23, 24, 25, 26] [(0, 0, 0), (0, 31, 33), (0, 39, 49)] [4, 10, 11] [(0, 30, 30)]) σ0 (r.1)) := by
  unfold fX12_turn_219
  exact zpc_some h
theorem fV_fX12_turn_193 {σ0 : zSt} {σ : zSt} {x3 : Int32} {x4 : Int32} (h : (zQ [3, 5, 6, 7, 8, 9, 21, 22, 23, 24, 25, 26] [(0, 0, 0), (0, 31, 33), (0, 39, 49)] [4, 10, 11] [(0, 30, 30)]) σ0 σ) : zpc (fX12_turn_193 σ x3 x4) (fun r => (zQ [3, 5, 6, 7, 8, 9, 21, 22, 23, 24, 25, 26] [(0, 0, 0), (0, 31, 33), (0, 39, 49)] [4, 10, 11] [(0, 30, 30)]) σ0 (r.1)) := by
  unfold fX12_turn_193
  exact zpc_bu (fV_fX12_rTo h) (fun σ5 hσ5 => zpc_bs (zQ.wi hσ5 rfl) (fun σ6 hσ6 => zpc_if (fun _ => fV_fX12_turn_219 hσ6) (fun _ => fV_fX12_turn_219 hσ6)))
theorem fV_fX12_turn_191 {σ0 : zSt} {σ : zSt} {x3 : Int32} {s0 : Int32} (h : (zQ [3, 5, 6, 7, 8, 9, 21, 22, 23, 24, 25, 26] [(0, 0, 0), (0, 31, 33), (0, 39, 49)] [4, 10, 11] [(0, 30, 30)]) σ0 σ) : zpc (fX12_turn_191 σ x3 s0) (fun r => (zQ [3, 5, 6, 7, 8, 9, 21, 22, 23, 24, 25, 26] [(0, 0, 0), (0, 31, 33), (0, 39, 49)] [4, 10, 11] [(0, 30, 30)]) σ0 (r.1)) := by
  unfold fX12_turn_191
  exact fV_fX12_turn_193 h
theorem fV_fX12_turn_23 {σ0 : zSt} {σ : zSt} {x1 : Int32} {x2 : Int32} {s0 : Int32} (h : (zQ [3, 5, 6, 7, 8, 9, 21, 22, 23, 24, 25, 26] [(0, 0, 0), (0, 31, 33), (0, 39, 49)] [4, 10, 11] [(0, 30, 30)]) σ0 σ) : zpc (fX12_turn_23 σ x1 x2 s0) (fun r => (zQ [3, 5, 6, 7, 8, 9, 21, 22, 23, 24, 25, 26] [(0, 0, 0), (0, 31, 33), (0, 39, 49)] [4, 10, 11] [(0, 30, 30)]) σ0 (r.1)) := by
  unfold fX12_turn_23
  exact zpc_bi (fV_fX12_r h) (fun σ7 v8 hσ7 => zpc_bv (fun v9 _ => zpc_if (fun _ => zpc_bv (fun v18 _ => zpc_bu (fV_fX12_by hσ7) (fun σ19 hσ19 => zpc_if (fun _ => fV_fX12_turn_69 hσ19) (fun _ => fV_fX12_turn_69 hσ19)))) (fun _ => zpc_if (fun _ => zpc_bi (fV_fX12_turned hσ7) (fun σ10 v11 hσ10 => zpc_bu (fV_fX12_by hσ10) (fun σ12 hσ12 => zpc_bi (fV_fX12_isEven hσ12) (fun σ13 v14 hσ13 => zpc_bu (fV_fX12_put hσ13) (fun σ15 hσ15 => zpc_bu (fV_fX12_put hσ15) (fun σ16 hσ16 => zpc_bu (fV_fX12_put hσ16) (fun σ17 hσ17 => fV_fX12_turn_193 hσ17))))))) (fun _ => zpc_if (fun _ => fV_fX12_turn_191 hσ7) (fun _ => fV_fX12_turn_191 hσ7)))))
theorem fV_fX12_turn {σ0 : zSt} {σ : zSt} {x1 : Int32} (h : (zQ [3, 5, 6, 7, 8, 9, 21, 22, 23, 24, 25, 26] [(0, 0, 0), (0, 31, 33), (0, 39, 49)] [4, 10, 11] [(0, 30, 30)]) σ0 σ) : zpc (fX12_turn σ x1) (fun r => (zQ [3, 5, 6, 7, 8, 9, 21, 22, 23, 24, 25, 26] [(0, 0, 0), (0, 31, 33), (0, 39, 49)] [4, 10, 11] [(0, 30, 30)]) σ0 (r.1)) := by
  unfold fX12_turn
  exact zpc_bv (fun v20 _ => zpc_if (fun _ => fV_fX12_turn_23 h) (fun _ => fV_fX12_turn_23 h))
theorem fV_fX12_turns {σ0 : zSt} {σ : zSt} (h : (zQ [3, 5, 6, 7, 8, 9, 21, 22, 23, 24, 25, 26] [(0, 0, 0), (0, 31, 33), (0, 39, 49)] [4, 10, 11] [(0, 30, 30)]) σ0 σ) : zpc (fX12_turns σ) (fun r => (zQ [3, 5, 6, 7, 8, 9, 21, 22, 23, 24, 25, 26] [(0, 0, 0), (0, 31, 33), (0, 39, 49)] [4, 10, 11] [(0, 30, 30)]) σ0 (r.1)) := by
  unfold fX12_turns
  exact zpc_bi (fV_fX12_fetch h) (fun σ1 v2 hσ1 => zpc_bi (fV_fX12_turn hσ1) (fun σ3 v4 hσ3 => zpc_some hσ3))
theorem fV_fX12_three_200 {σ0 : zSt} {σ : zSt} {s0 : Int32} (h : (zQ [3, 5, 6, 7, 8, 9, 21, 22, 23, 24, 25, 26] [(0, 0, 0), (0, 31, 33), (0, 39, 49)] [4, 10, 11] [(0, 30, 30)]) σ0 σ) : zpc (fX12_three_200 σ s0) (fun r => (zQ [3, 5, 6, 7, 8, 9, 21, 22, 23, 24, 25, 26] [(0, 0, 0), (0, 31, 33), (0, 39, 49)] [4, 10, 11] [(0, 30, 30)]) σ0 (r.1)) := by
  unfold fX12_three_200
  exact zpc_some h
theorem fV_fX12_three_189 {σ0 : zSt} {σ : zSt} {x3 : Int32} (h : (zQ [3, 5, 6, 7, 8, 9, 21, 22, 23, 24, 25, 26] [(0, 0, 0), (0, 31, 33), (0, 39, 49)] [4, 10, 11] [(0, 30, 30)]) σ0 σ) : zpc (fX12_three_189 σ x3) (fun r => (zQ [3, 5, 6, 7, 8, 9, 21, 22, 23, 24, 25, 26] [(0, 0, 0), (0, 31, 33), (0, 39, 49)] [4, 10, 11] [(0, 30, 30)]) σ0 (r.1)) := by
  unfold fX12_three_189
  exact zpc_if (fun _ => fV_fX12_three_200 h) (fun _ => fV_fX12_three_200 h)
theorem fV_fX12_three_173 {σ0 : zSt} {σ : zSt} {x3 : Int32} (h : (zQ [3, 5, 6, 7, 8, 9, 21, 22, 23, 24, 25, 26] [(0, 0, 0), (0, 31, 33), (0, 39, 49)] [4, 10, 11] [(0, 30, 30)]) σ0 σ) : zpc (fX12_three_173 σ x3) (fun r => (zQ [3, 5, 6, 7, 8, 9, 21, 22, 23, 24, 25, 26] [(0, 0, 0), (0, 31, 33), (0, 39, 49)] [4, 10, 11] [(0, 30, 30)]) σ0 (r.1)) := by
  unfold fX12_three_173
  exact zpc_if (fun _ => zpc_bi (fV_fX12_hl h) (fun σ1 v2 hσ1 => zpc_ck (zpc_bs (zQ.wi hσ1 rfl) (fun σ3 hσ3 => fV_fX12_three_189 hσ3)))) (fun _ => fV_fX12_three_189 h)
theorem fV_fX12_three_157 {σ0 : zSt} {σ : zSt} {x3 : Int32} (h : (zQ [3, 5, 6, 7, 8, 9, 21, 22, 23, 24, 25, 26] [(0, 0, 0), (0, 31, 33), (0, 39, 49)] [4, 10, 11] [(0, 30, 30)]) σ0 σ) : zpc (fX12_three_157 σ x3) (fun r => (zQ [3, 5, 6, 7, 8, 9, 21, 22, 23, 24, 25, 26] [(0, 0, 0), (0, 31, 33), (0, 39, 49)] [4, 10, 11] [(0, 30, 30)]) σ0 (r.1)) := by
  unfold fX12_three_157
  exact zpc_if (fun _ => zpc_bi (fV_fX12_hl h) (fun σ4 v5 hσ4 => zpc_ck (zpc_bs (zQ.wi hσ4 rfl) (fun σ6 hσ6 => fV_fX12_three_173 hσ6)))) (fun _ => fV_fX12_three_173 h)
theorem fV_fX12_three_128_body {σ0 : zSt} {k128 : zSt → Int32 → Int32 → Option (zSt × Int32)} (hk128 : ∀ (y0 : zSt) (y1 : Int32) (y2 : Int32), (zQ [3, 5, 6, 7, 8, 9, 21, 22, 23, 24, 25, 26] [(0, 0, 0), (0, 31, 33), (0, 39, 49)] [4, 10, 11] [(0, 30, 30)]) σ0 y0 → zpc (k128 y0 y1 y2) (fun r => (zQ [3, 5, 6, 7, 8, 9, 21, 22, 23, 24, 25, 26] [(0, 0, 0), (0, 31, 33), (0, 39, 49)] [4, 10, 11] [(0, 30, 30)]) σ0 (r.1))) {σ : zSt} {x3 : Int32} {x4 : Int32} (h : (zQ [3, 5, 6, 7, 8, 9, 21, 22, 23, 24, 25, 26] [(0, 0, 0), (0, 31, 33), (0, 39, 49)] [4, 10, 11] [(0, 30, 30)]) σ0 σ) : zpc (fX12_three_128_body k128 σ x3 x4) (fun r => (zQ [3, 5, 6, 7, 8, 9, 21, 22, 23, 24, 25, 26] [(0, 0, 0), (0, 31, 33), (0, 39, 49)] [4, 10, 11] [(0, 30, 30)]) σ0 (r.1)) := by
  unfold fX12_three_128_body
  exact zpc_if (fun _ => zpc_if (fun _ => fV_fX12_three_157 h) (fun _ => zpc_bu (fV_fX12_change h) (fun σ7 hσ7 => zpc_bv (fun v8 _ => hk128 _ _ _ hσ7)))) (fun _ => fV_fX12_three_157 h)
theorem fV_fX12_three_128 {σ0 : zSt} : ∀ (n : Nat) (y0 : zSt) (y1 : Int32) (y2 : Int32), (zQ [3, 5, 6, 7, 8, 9, 21, 22, 23, 24, 25, 26] [(0, 0, 0), (0, 31, 33), (0, 39, 49)] [4, 10, 11] [(0, 30, 30)]) σ0 y0 → zpc (fX12_three_128 n y0 y1 y2) (fun r => (zQ [3, 5, 6, 7, 8, 9, 21, 22, 23, 24, 25, 26] [(0, 0, 0), (0, 31, 33), (0, 39, 49)] [4, 10, 11] [(0, 30, 30)]) σ0 (r.1)) := by
  intro n
  induction n with
  | zero => intro y0 y1 y2 h; exact zpc_none
  | succ n ih => intro y0 y1 y2 h; exact fV_fX12_three_128_body ih h
theorem fV_fX12_three_239 {σ0 : zSt} {σ : zSt} (h : (zQ [3, 5, 6, 7, 8, 9, 21, 22, 23, 24, 25, 26] [(0, 0, 0), (0, 31, 33), (0, 39, 49)] [4, 10, 11] [(0, 30, 30)]) σ0 σ) : zpc (fX12_three_239 σ) (fun r => (zQ [3, 5, 6, 7, 8, 9, 21, 22, 23, 24, 25, 26] [(0, 0, 0), (0, 31, 33), (0, 39, 49)] [4, 10, 11] [(0, 30, 30)]) σ0 (r.1)) := by
  unfold fX12_three_239
  exact zpc_some h
theorem fV_fX12_three_502 {σ0 : zSt} {σ : zSt} (h : (zQ [3, 5, 6, 7, 8, 9, 21, 22, 23, 24, 25, 26] [(0, 0, 0), (0, 31, 33), (0, 39, 49)] [4, 10, 11] [(0, 30, 30)]) σ0 σ) : zpc (fX12_three_502 σ) (fun r => (zQ [3, 5, 6, 7, 8, 9, 21, 22, 23, 24, 25, 26] [(0, 0, 0), (0, 31, 33), (0, 39, 49)] [4, 10, 11] [(0, 30, 30)]) σ0 (r.1)) := by
  unfold fX12_three_502
  exact zpc_some h
theorem fV_fX12_three_88 {σ0 : zSt} {σ : zSt} {x1 : Int32} {x2 : Int32} {x3 : Int32} (h : (zQ [3, 5, 6, 7, 8, 9, 21, 22, 23, 24, 25, 26] [(0, 0, 0), (0, 31, 33), (0, 39, 49)] [4, 10, 11] [(0, 30, 30)]) σ0 σ) : zpc (fX12_three_88 σ x1 x2 x3) (fun r => (zQ [3, 5, 6, 7, 8, 9, 21, 22, 23, 24, 25, 26] [(0, 0, 0), (0, 31, 33), (0, 39, 49)] [4, 10, 11] [(0, 30, 30)]) σ0 (r.1)) := by
  unfold fX12_three_88
  exact zpc_if (fun _ => zpc_if (fun _ => zpc_bi (fV_fX12_pop h) (fun σ43 v44 hσ43 => zpc_ck (zpc_bs (zQ.wi hσ43 rfl) (fun σ45 hσ45 => zpc_ck (zpc_ck (zpc_bs (zQ.wi hσ45 rfl) (fun σ46 hσ46 => zpc_some hσ46))))))) (fun _ => fV_fX12_three_128 _ _ _ _ h)) (fun _ => zpc_if (fun _ => zpc_bi (fV_fX12_nextWord h) (fun σ37 v38 hσ37 => zpc_ck (zpc_bs (zQ.wi hσ37 rfl) (fun σ39 hσ39 => zpc_bi (fV_fX12_cc hσ39) (fun σ40 v41 hσ40 => zpc_if (fun _ => fV_fX12_three_239 hσ40) (fun _ => zpc_ck (zpc_ck (zpc_bs (zQ.wi hσ40 rfl) (fun σ42 hσ42 => fV_fX12_three_239 hσ42))))))))) (fun _ => zpc_if (fun _ => zpc_bi (fV_fX12_nextWord h) (fun σ9 v10 hσ9 => zpc_ck (zpc_bs (zQ.wi hσ9 rfl) (fun σ11 hσ11 => zpc_ck (zpc_ck (zpc_bs (zQ.wi hσ11 rfl) (fun σ12 hσ12 => zpc_some hσ12))))))) (fun _ => zpc_if (fun _ => zpc_bi (fV_fX12_turns h) (fun σ13 v14 hσ13 => zpc_some hσ13)) (fun _ => zpc_if (fun _ => zpc_bi (fV_fX12_next h) (fun σ15 v16 hσ15 => zpc_ck (zpc_bu (fV_fX12_portTo hσ15) (fun σ17 hσ17 => zpc_ck (zpc_ck (zpc_bs (zQ.wi hσ17 rfl) (fun σ18 hσ18 => zpc_some hσ18))))))) (fun _ => zpc_if (fun _ => zpc_bi (fV_fX12_next h) (fun σ19 v20 hσ19 => zpc_ck (zpc_ck (zpc_bs (zQ.wi hσ19 rfl) (fun σ21 hσ21 => zpc_bi (fV_fX12_port hσ21) (fun σ22 v23 hσ22 => zpc_ck (zpc_bs (zQ.wi hσ22 rfl) (fun σ24 hσ24 => zpc_some hσ24)))))))) (fun _ => zpc_if (fun _ => zpc_ck (zpc_bi (fV_fX12_word h) (fun σ25 v26 hσ25 => zpc_ck (zpc_bi (fV_fX12_hl hσ25) (fun σ27 v28 hσ27 => zpc_bu (fV_fX12_wordTo hσ27) (fun σ29 hσ29 => zpc_bu (fV_fX12_hlTo hσ29) (fun σ30 hσ30 => zpc_ck (zpc_bs (zQ.wi hσ30 rfl) (fun σ31 hσ31 => zpc_some hσ31))))))))) (fun _ => zpc_if (fun _ => zpc_bu (fV_fX12_change h) (fun σ32 hσ32 => zpc_bu (fV_fX12_change hσ32) (fun σ33 hσ33 => zpc_some hσ33))) (fun _ => zpc_ck (zpc_bs (zQ.wi h rfl) (fun σ34 hσ34 => zpc_ck (zpc_bs (zQ.wi hσ34 rfl) (fun σ35 hσ35 => zpc_if (fun _ => zpc_ck (zpc_bs (zQ.wi hσ35 rfl) (fun σ36 hσ36 => fV_fX12_three_502 hσ36))) (fun _ => fV_fX12_three_502 hσ35)))))))))))))
theorem fV_fX12_three_85 {σ0 : zSt} {σ : zSt} (h : (zQ [3, 5, 6, 7, 8, 9, 21, 22, 23, 24, 25, 26] [(0, 0, 0), (0, 31, 33), (0, 39, 49)] [4, 10, 11] [(0, 30, 30)]) σ0 σ) : zpc (fX12_three_85 σ) (fun r => (zQ [3, 5, 6, 7, 8, 9, 21, 22, 23, 24, 25, 26] [(0, 0, 0), (0, 31, 33), (0, 39, 49)] [4, 10, 11] [(0, 30, 30)]) σ0 (r.1)) := by
  unfold fX12_three_85
  exact zpc_some h
theorem fV_fX12_three {σ0 : zSt} {σ : zSt} {x1 : Int32} {x2 : Int32} (h : (zQ [3, 5, 6, 7, 8, 9, 21, 22, 23, 24, 25, 26] [(0, 0, 0), (0, 31, 33), (0, 39, 49)] [4, 10, 11] [(0, 30, 30)]) σ0 σ) : zpc (fX12_three σ x1 x2) (fun r => (zQ [3, 5, 6, 7, 8, 9, 21, 22, 23, 24, 25, 26] [(0, 0, 0), (0, 31, 33), (0, 39, 49)] [4, 10, 11] [(0, 30, 30)]) σ0 (r.1)) := by
  unfold fX12_three
  exact zpc_bv (fun v47 _ => zpc_if (fun _ => zpc_bi (fV_fX12_cc h) (fun σ52 v53 hσ52 => zpc_if (fun _ => zpc_some hσ52) (fun _ => zpc_bi (fV_fX12_pop hσ52) (fun σ54 v55 hσ54 => zpc_ck (zpc_bs (zQ.wi hσ54 rfl) (fun σ56 hσ56 => zpc_ck (zpc_ck (zpc_bs (zQ.wi hσ56 rfl) (fun σ57 hσ57 => zpc_some hσ57))))))))) (fun _ => zpc_if (fun _ => zpc_ck (zpc_if (fun _ => zpc_bi (fV_fX12_pop h) (fun σ48 v49 hσ48 => zpc_if (fun _ => zpc_bu (fV_fX12_pairTo hσ48) (fun σ51 hσ51 => fV_fX12_three_85 hσ51)) (fun _ => zpc_bu (fV_fX12_rpTo hσ48) (fun σ50 hσ50 => fV_fX12_three_85 hσ50)))) (fun _ => fV_fX12_three_88 h))) (fun _ => fV_fX12_three_88 h)))
theorem fV_fX12_does_343 {σ0 : zSt} {σ : zSt} (h : (zQ [3, 5, 6, 7, 8, 9, 21, 22, 23, 24, 25, 26] [(0, 0, 0), (0, 31, 33), (0, 39, 49)] [4, 10, 11] [(0, 30, 30)]) σ0 σ) : zpc (fX12_does_343 σ) (fun r => (zQ [3, 5, 6, 7, 8, 9, 21, 22, 23, 24, 25, 26] [(0, 0, 0), (0, 31, 33), (0, 39, 49)] [4, 10, 11] [(0, 30, 30)]) σ0 (r)) := by
  unfold fX12_does_343
  exact zpc_some h
theorem fV_fX12_does_314 {σ0 : zSt} {σ : zSt} {x1 : Int32} {x2 : Int32} {x6 : Int32} {s0 : Int32} {s1 : Int32} (h : (zQ [3, 5, 6, 7, 8, 9, 21, 22, 23, 24, 25, 26] [(0, 0, 0), (0, 31, 33), (0, 39, 49)] [4, 10, 11] [(0, 30, 30)]) σ0 σ) : zpc (fX12_does_314 σ x1 x2 x6 s0 s1) (fun r => (zQ [3, 5, 6, 7, 8, 9, 21, 22, 23, 24, 25, 26] [(0, 0, 0), (0, 31, 33), (0, 39, 49)] [4, 10, 11] [(0, 30, 30)]) σ0 (r)) := by
  unfold fX12_does_314
  exact zpc_bu (fV_fX12_put h) (fun σ1 hσ1 => zpc_if (fun _ => zpc_bu (fV_fX12_xy hσ1) (fun σ3 hσ3 => fV_fX12_does_343 hσ3)) (fun _ => zpc_ck (zpc_bs (zQ.wi hσ1 rfl) (fun σ2 hσ2 => fV_fX12_does_343 hσ2))))
theorem fV_fX12_does_299 {σ0 : zSt} {σ : zSt} {x1 : Int32} {x2 : Int32} {x5 : Int32} {x6 : Int32} {s0 : Int32} {s1 : Int32} (h : (zQ [3, 5, 6, 7, 8, 9, 21, 22, 23, 24, 25, 26] [(0, 0, 0), (0, 31, 33), (0, 39, 49)] [4, 10, 11] [(0, 30, 30)]) σ0 σ) : zpc (fX12_does_299 σ x1 x2 x5 x6 s0 s1) (fun r => (zQ [3, 5, 6, 7, 8, 9, 21, 22, 23, 24, 25, 26] [(0, 0, 0), (0, 31, 33), (0, 39, 49)] [4, 10, 11] [(0, 30, 30)]) σ0 (r)) := by
  unfold fX12_does_299
  exact zpc_bu (fV_fX12_put h) (fun σ4 hσ4 => zpc_if (fun _ => fV_fX12_does_314 hσ4) (fun _ => fV_fX12_does_314 hσ4))
theorem fV_fX12_does_294 {σ0 : zSt} {σ : zSt} {x1 : Int32} {x2 : Int32} {x5 : Int32} {x6 : Int32} {s0 : Int32} (h : (zQ [3, 5, 6, 7, 8, 9, 21, 22, 23, 24, 25, 26] [(0, 0, 0), (0, 31, 33), (0, 39, 49)] [4, 10, 11] [(0, 30, 30)]) σ0 σ) : zpc (fX12_does_294 σ x1 x2 x5 x6 s0) (fun r => (zQ [3, 5, 6, 7, 8, 9, 21, 22, 23, 24, 25, 26] [(0, 0, 0), (0, 31, 33), (0, 39, 49)] [4, 10, 11] [(0, 30, 30)]) σ0 (r)) := by
  unfold fX12_does_294
  exact fV_fX12_does_299 h
theorem fV_fX12_does_266 {σ0 : zSt} {σ : zSt} {x1 : Int32} {x2 : Int32} {x5 : Int32} {x6 : Int32} {s0 : Int32} (h : (zQ [3, 5, 6, 7, 8, 9, 21, 22, 23, 24, 25, 26] [(0, 0, 0), (0, 31, 33), (0, 39, 49)] [4, 10, 11] [(0, 30, 30)]) σ0 σ) : zpc (fX12_does_266 σ x1 x2 x5 x6 s0) (fun r => (zQ [3, 5, 6, 7, 8, 9, 21, 22, 23, 24, 25, 26] [(0, 0, 0), (0, 31, 33), (0, 39, 49)] [4, 10, 11] [(0, 30, 30)]) σ0 (r)) := by
  unfold fX12_does_266
  exact zpc_bu (fV_fX12_by h) (fun σ5 hσ5 => zpc_if (fun _ => fV_fX12_does_294 hσ5) (fun _ => zpc_if (fun _ => fV_fX12_does_299 hσ5) (fun _ => fV_fX12_does_294 hσ5)))
theorem fV_fX12_does_231 {σ0 : zSt} {σ : zSt} {x1 : Int32} {x2 : Int32} {x3 : Int32} {x4 : Int32} {x5 : Int32} {x6 : Int32} {s0 : Int32} {s1 : Int32} (h : (zQ [3, 5, 6, 7, 8, 9, 21, 22, 23, 24, 25, 26] [(0, 0, 0), (0, 31, 33), (0, 39, 49)] [4, 10, 11] [(0, 30, 30)]) σ0 σ) : zpc (fX12_does_231 σ x1 x2 x3 x4 x5 x6 s0 s1) (fun r => (zQ [3, 5, 6, 7, 8, 9, 21, 22, 23, 24, 25, 26] [(0, 0, 0), (0, 31, 33), (0, 39, 49)] [4, 10, 11] [(0, 30, 30)]) σ0 (r)) := by
  unfold fX12_does_231
  exact zpc_bu (fV_fX12_put h) (fun σ6 hσ6 => zpc_if (fun _ => zpc_bi (fV_fX12_signed hσ6) (fun σ7 v8 hσ7 => zpc_bi (fV_fX12_signed hσ7) (fun σ9 v10 hσ9 => fV_fX12_does_266 hσ9))) (fun _ => zpc_bi (fV_fX12_signed hσ6) (fun σ11 v12 hσ11 => zpc_bi (fV_fX12_signed hσ11) (fun σ13 v14 hσ13 => fV_fX12_does_266 hσ13))))
theorem fV_fX12_does_226 {σ0 : zSt} {σ : zSt} {x1 : Int32} {x2 : Int32} {x3 : Int32} {x4 : Int32} {x5 : Int32} {x6 : Int32} {s0 : Int32} (h : (zQ [3, 5, 6, 7, 8, 9, 21, 22, 23, 24, 25, 26] [(0, 0, 0), (0, 31, 33), (0, 39, 49)] [4, 10, 11] [(0, 30, 30)]) σ0 σ) : zpc (fX12_does_226 σ x1 x2 x3 x4 x5 x6 s0) (fun r => (zQ [3, 5, 6, 7, 8, 9, 21, 22, 23, 24, 25, 26] [(0, 0, 0), (0, 31, 33), (0, 39, 49)] [4, 10, 11] [(0, 30, 30)]) σ0 (r)) := by
  unfold fX12_does_226
  exact fV_fX12_does_231 h
theorem fV_fX12_does_208 {σ0 : zSt} {σ : zSt} {x1 : Int32} {x2 : Int32} {x3 : Int32} {x4 : Int32} {x5 : Int32} {x6 : Int32} {s0 : Int32} {s1 : Int32} (h : (zQ [3, 5, 6, 7, 8, 9, 21, 22, 23, 24, 25, 26] [(0, 0, 0), (0, 31, 33), (0, 39, 49)] [4, 10, 11] [(0, 30, 30)]) σ0 σ) : zpc (fX12_does_208 σ x1 x2 x3 x4 x5 x6 s0 s1) (fun r => (zQ [3, 5, 6, 7, 8, 9, 21, 22, 23, 24, 25, 26] [(0, 0, 0), (0, 31, 33), (0, 39, 49)] [4, 10, 11] [(0, 30, 30)]) σ0 (r)) := by
  unfold fX12_does_208
  exact zpc_bu (fV_fX12_put h) (fun σ15 hσ15 => zpc_if (fun _ => fV_fX12_does_226 hσ15) (fun _ => zpc_if (fun _ => fV_fX12_does_231 hσ15) (fun _ => fV_fX12_does_226 hσ15)))
theorem fV_fX12_does_154 {σ0 : zSt} {σ : zSt} {x1 : Int32} {x2 : Int32} {x3 : Int32} {x4 : Int32} {x5 : Int32} {s0 : Int32} (h : (zQ [3, 5, 6, 7, 8, 9, 21, 22, 23, 24, 25, 26] [(0, 0, 0), (0, 31, 33), (0, 39, 49)] [4, 10, 11] [(0, 30, 30)]) σ0 σ) : zpc (fX12_does_154 σ x1 x2 x3 x4 x5 s0) (fun r => (zQ [3, 5, 6, 7, 8, 9, 21, 22, 23, 24, 25, 26] [(0, 0, 0), (0, 31, 33), (0, 39, 49)] [4, 10, 11] [(0, 30, 30)]) σ0 (r)) := by
  unfold fX12_does_154
  exact zpc_if (fun _ => zpc_if (fun _ => fV_fX12_does_208 h) (fun _ => fV_fX12_does_208 h)) (fun _ => zpc_if (fun _ => fV_fX12_does_208 h) (fun _ => fV_fX12_does_208 h))
theorem fV_fX12_does_132 {σ0 : zSt} {σ : zSt} {x1 : Int32} {x2 : Int32} {x3 : Int32} {x4 : Int32} {s0 : Int32} (h : (zQ [3, 5, 6, 7, 8, 9, 21, 22, 23, 24, 25, 26] [(0, 0, 0), (0, 31, 33), (0, 39, 49)] [4, 10, 11] [(0, 30, 30)]) σ0 σ) : zpc (fX12_does_132 σ x1 x2 x3 x4 s0) (fun r => (zQ [3, 5, 6, 7, 8, 9, 21, 22, 23, 24, 25, 26] [(0, 0, 0), (0, 31, 33), (0, 39, 49)] [4, 10, 11] [(0, 30, 30)]) σ0 (r)) := by
  unfold fX12_does_132
  exact zpc_if (fun _ => fV_fX12_does_154 h) (fun _ => fV_fX12_does_154 h)
theorem fV_fX12_does_120 {σ0 : zSt} {σ : zSt} {x1 : Int32} {x2 : Int32} {x3 : Int32} {s0 : Int32} (h : (zQ [3, 5, 6, 7, 8, 9, 21, 22, 23, 24, 25, 26] [(0, 0, 0), (0, 31, 33), (0, 39, 49)] [4, 10, 11] [(0, 30, 30)]) σ0 σ) : zpc (fX12_does_120 σ x1 x2 x3 s0) (fun r => (zQ [3, 5, 6, 7, 8, 9, 21, 22, 23, 24, 25, 26] [(0, 0, 0), (0, 31, 33), (0, 39, 49)] [4, 10, 11] [(0, 30, 30)]) σ0 (r)) := by
  unfold fX12_does_120
  exact zpc_if (fun _ => fV_fX12_does_132 h) (fun _ => fV_fX12_does_132 h)
theorem fV_fX12_does_111 {σ0 : zSt} {σ : zSt} {x1 : Int32} {x2 : Int32} {x3 : Int32} (h : (zQ [3, 5, 6, 7, 8, 9, 21, 22, 23, 24, 25, 26] [(0, 0, 0), (0, 31, 33), (0, 39, 49)] [4, 10, 11] [(0, 30, 30)]) σ0 σ) : zpc (fX12_does_111 σ x1 x2 x3) (fun r => (zQ [3, 5, 6, 7, 8, 9, 21, 22, 23, 24, 25, 26] [(0, 0, 0), (0, 31, 33), (0, 39, 49)] [4, 10, 11] [(0, 30, 30)]) σ0 (r)) := by
  unfold fX12_does_111
  exact zpc_bi (fV_fX12_flag h) (fun σ16 v17 hσ16 => fV_fX12_does_120 hσ16)
theorem fV_fX12_does_101 {σ0 : zSt} {σ : zSt} {x1 : Int32} {x2 : Int32} {x3 : Int32} (h : (zQ [3, 5, 6, 7, 8, 9, 21, 22, 23, 24, 25, 26] [(0, 0, 0), (0, 31, 33), (0, 39, 49)] [4, 10, 11] [(0, 30, 30)]) σ0 σ) : zpc (fX12_does_101 σ x1 x2 x3) (fun r => (zQ [3, 5, 6, 7, 8, 9, 21, 22, 23, 24, 25, 26] [(0, 0, 0), (0, 31, 33), (0, 39, 49)] [4, 10, 11] [(0, 30, 30)]) σ0 (r)) := by
  unfold fX12_does_101
  exact zpc_if (fun _ => fV_fX12_does_111 h) (fun _ => zpc_if (fun _ => fV_fX12_does_111 h) (fun _ => fV_fX12_does_120 h))
theorem fV_fX12_does_71 {σ0 : zSt} {σ : zSt} {s0 : Int32} {s1 : Int32} (h : (zQ [3, 5, 6, 7, 8, 9, 21, 22, 23, 24, 25, 26] [(0, 0, 0), (0, 31, 33), (0, 39, 49)] [4, 10, 11] [(0, 30, 30)]) σ0 σ) : zpc (fX12_does_71 σ s0 s1) (fun r => (zQ [3, 5, 6, 7, 8, 9, 21, 22, 23, 24, 25, 26] [(0, 0, 0), (0, 31, 33), (0, 39, 49)] [4, 10, 11] [(0, 30, 30)]) σ0 (r)) := by
  unfold fX12_does_71
  exact zpc_bu (fV_fX12_put h) (fun σ18 hσ18 => zpc_ck (zpc_bi (fV_fX12_isEven hσ18) (fun σ19 v20 hσ19 => zpc_bu (fV_fX12_put hσ19) (fun σ21 hσ21 => zpc_bu (fV_fX12_put hσ21) (fun σ22 hσ22 => zpc_bu (fV_fX12_put hσ22) (fun σ23 hσ23 => zpc_some hσ23))))))
theorem fV_fX12_does_48 {σ0 : zSt} {σ : zSt} {x1 : Int32} {s0 : Int32} {s1 : Int32} (h : (zQ [3, 5, 6, 7, 8, 9, 21, 22, 23, 24, 25, 26] [(0, 0, 0), (0, 31, 33), (0, 39, 49)] [4, 10, 11] [(0, 30, 30)]) σ0 σ) : zpc (fX12_does_48 σ x1 s0 s1) (fun r => (zQ [3, 5, 6, 7, 8, 9, 21, 22, 23, 24, 25, 26] [(0, 0, 0), (0, 31, 33), (0, 39, 49)] [4, 10, 11] [(0, 30, 30)]) σ0 (r)) := by
  unfold fX12_does_48
  exact zpc_ck (zpc_bs (zQ.wi h rfl) (fun σ24 hσ24 => zpc_ck (zpc_bu (fV_fX12_by hσ24) (fun σ25 hσ25 => zpc_if (fun _ => fV_fX12_does_71 hσ25) (fun _ => fV_fX12_does_71 hσ25)))))
theorem fV_fX12_does {σ0 : zSt} {σ : zSt} {x1 : Int32} {x2 : Int32} (h : (zQ [3, 5, 6, 7, 8, 9, 21, 22, 23, 24, 25, 26] [(0, 0, 0), (0, 31, 33), (0, 39, 49)] [4, 10, 11] [(0, 30, 30)]) σ0 σ) : zpc (fX12_does σ x1 x2) (fun r => (zQ [3, 5, 6, 7, 8, 9, 21, 22, 23, 24, 25, 26] [(0, 0, 0), (0, 31, 33), (0, 39, 49)] [4, 10, 11] [(0, 30, 30)]) σ0 (r)) := by
  unfold fX12_does
  exact zpc_ck (zpc_bv (fun v26 _ => zpc_if (fun _ => fV_fX12_does_101 h) (fun _ => zpc_if (fun _ => fV_fX12_does_101 h) (fun _ => zpc_if (fun _ => fV_fX12_does_48 h) (fun _ => zpc_if (fun _ => fV_fX12_does_48 h) (fun _ => fV_fX12_does_48 h))))))
theorem fV_fX12_blocks_595 {σ0 : zSt} {σ : zSt} (h : (zQ [3, 5, 6, 7, 8, 9, 21, 22, 23, 24, 25, 26] [(0, 0, 0), (0, 31, 33), (0, 39, 49)] [4, 10, 11] [(0, 30, 30)]) σ0 σ) : zpc (fX12_blocks_595 σ) (fun r => (zQ [3, 5, 6, 7, 8, 9, 21, 22, 23, 24, 25, 26] [(0, 0, 0), (0, 31, 33), (0, 39, 49)] [4, 10, 11] [(0, 30, 30)]) σ0 (r.1)) := by
  unfold fX12_blocks_595
  exact zpc_some h
theorem fV_fX12_blocks_641 {σ0 : zSt} {σ : zSt} (h : (zQ [3, 5, 6, 7, 8, 9, 21, 22, 23, 24, 25, 26] [(0, 0, 0), (0, 31, 33), (0, 39, 49)] [4, 10, 11] [(0, 30, 30)]) σ0 σ) : zpc (fX12_blocks_641 σ) (fun r => (zQ [3, 5, 6, 7, 8, 9, 21, 22, 23, 24, 25, 26] [(0, 0, 0), (0, 31, 33), (0, 39, 49)] [4, 10, 11] [(0, 30, 30)]) σ0 (r.1)) := by
  unfold fX12_blocks_641
  exact zpc_some h
theorem fV_fX12_blocks_584 {σ0 : zSt} {σ : zSt} {x1 : Int32} {x2 : Int32} {x5 : Int32} (h : (zQ [3, 5, 6, 7, 8, 9, 21, 22, 23, 24, 25, 26] [(0, 0, 0), (0, 31, 33), (0, 39, 49)] [4, 10, 11] [(0, 30, 30)]) σ0 σ) : zpc (fX12_blocks_584 σ x1 x2 x5) (fun r => (zQ [3, 5, 6, 7, 8, 9, 21, 22, 23, 24, 25, 26] [(0, 0, 0), (0, 31, 33), (0, 39, 49)] [4, 10, 11] [(0, 30, 30)]) σ0 (r.1)) := by
  unfold fX12_blocks_584
  exact zpc_if (fun _ => fV_fX12_blocks_595 h) (fun _ => zpc_if (fun _ => fV_fX12_blocks_595 h) (fun _ => zpc_ck (zpc_ck (zpc_bs (zQ.wi h rfl) (fun σ1 hσ1 => zpc_if (fun _ => fV_fX12_blocks_641 hσ1) (fun _ => zpc_ck (zpc_ck (zpc_bs (zQ.wi hσ1 rfl) (fun σ2 hσ2 => fV_fX12_blocks_641 hσ2)))))))))
theorem fV_fX12_blocks_297 {σ0 : zSt} {σ : zSt} {x1 : Int32} {x2 : Int32} {s0 : Int32} (h : (zQ [3, 5, 6, 7, 8, 9, 21, 22, 23, 24, 25, 26] [(0, 0, 0), (0, 31, 33), (0, 39, 49)] [4, 10, 11] [(0, 30, 30)]) σ0 σ) : zpc (fX12_blocks_297 σ x1 x2 s0) (fun r => (zQ [3, 5, 6, 7, 8, 9, 21, 22, 23, 24, 25, 26] [(0, 0, 0), (0, 31, 33), (0, 39, 49)] [4, 10, 11] [(0, 30, 30)]) σ0 (r.1)) := by
  unfold fX12_blocks_297
  exact fV_fX12_blocks_584 h
theorem fV_fX12_blocks_296 {σ0 : zSt} {σ : zSt} {x1 : Int32} {x2 : Int32} (h : (zQ [3, 5, 6, 7, 8, 9, 21, 22, 23, 24, 25, 26] [(0, 0, 0), (0, 31, 33), (0, 39, 49)] [4, 10, 11] [(0, 30, 30)]) σ0 σ) : zpc (fX12_blocks_296 σ x1 x2) (fun r => (zQ [3, 5, 6, 7, 8, 9, 21, 22, 23, 24, 25, 26] [(0, 0, 0), (0, 31, 33), (0, 39, 49)] [4, 10, 11] [(0, 30, 30)]) σ0 (r.1)) := by
  unfold fX12_blocks_296
  exact fV_fX12_blocks_297 h
theorem fV_fX12_blocks_292 {σ0 : zSt} {σ : zSt} {x1 : Int32} {x2 : Int32} (h : (zQ [3, 5, 6, 7, 8, 9, 21, 22, 23, 24, 25, 26] [(0, 0, 0), (0, 31, 33), (0, 39, 49)] [4, 10, 11] [(0, 30, 30)]) σ0 σ) : zpc (fX12_blocks_292 σ x1 x2) (fun r => (zQ [3, 5, 6, 7, 8, 9, 21, 22, 23, 24, 25, 26] [(0, 0, 0), (0, 31, 33), (0, 39, 49)] [4, 10, 11] [(0, 30, 30)]) σ0 (r.1)) := by
  unfold fX12_blocks_292
  exact fV_fX12_blocks_297 h
theorem fV_fX12_blocks_267 {σ0 : zSt} {σ : zSt} {x1 : Int32} {x2 : Int32} {s0 : Int32} {s1 : Int32} (h : (zQ [3, 5, 6, 7, 8, 9, 21, 22, 23, 24, 25, 26] [(0, 0, 0), (0, 31, 33), (0, 39, 49)] [4, 10, 11] [(0, 30, 30)]) σ0 σ) : zpc (fX12_blocks_267 σ x1 x2 s0 s1) (fun r => (zQ [3, 5, 6, 7, 8, 9, 21, 22, 23, 24, 25, 26] [(0, 0, 0), (0, 31, 33), (0, 39, 49)] [4, 10, 11] [(0, 30, 30)]) σ0 (r.1)) := by
  unfold fX12_blocks_267
  exact zpc_bu (fV_fX12_put h) (fun σ3 hσ3 => zpc_bi (fV_fX12_flag hσ3) (fun σ4 v5 hσ4 => zpc_if (fun _ => zpc_if (fun _ => fV_fX12_blocks_292 hσ4) (fun _ => zpc_bi (fV_fX12_flag hσ4) (fun σ6 v7 hσ6 => zpc_if (fun _ => fV_fX12_blocks_292 hσ6) (fun _ => fV_fX12_blocks_296 hσ6)))) (fun _ => fV_fX12_blocks_296 hσ4)))
theorem fV_fX12_blocks_249 {σ0 : zSt} {σ : zSt} {x1 : Int32} {x2 : Int32} {s0 : Int32} {s1 : Int32} (h : (zQ [3, 5, 6, 7, 8, 9, 21, 22, 23, 24, 25, 26] [(0, 0, 0), (0, 31, 33), (0, 39, 49)] [4, 10, 11] [(0, 30, 30)]) σ0 σ) : zpc (fX12_blocks_249 σ x1 x2 s0 s1) (fun r => (zQ [3, 5, 6, 7, 8, 9, 21, 22, 23, 24, 25, 26] [(0, 0, 0), (0, 31, 33), (0, 39, 49)] [4, 10, 11] [(0, 30, 30)]) σ0 (r.1)) := by
  unfold fX12_blocks_249
  exact zpc_bu (fV_fX12_put h) (fun σ8 hσ8 => zpc_bi (fV_fX12_pair hσ8) (fun σ9 v10 hσ9 => zpc_if (fun _ => fV_fX12_blocks_267 hσ9) (fun _ => fV_fX12_blocks_267 hσ9)))
theorem fV_fX12_blocks_234 {σ0 : zSt} {σ : zSt} {x1 : Int32} {x2 : Int32} {s0 : Int32} {s1 : Int32} (h : (zQ [3, 5, 6, 7, 8, 9, 21, 22, 23, 24, 25, 26] [(0, 0, 0), (0, 31, 33), (0, 39, 49)] [4, 10, 11] [(0, 30, 30)]) σ0 σ) : zpc (fX12_blocks_234 σ x1 x2 s0 s1) (fun r => (zQ [3, 5, 6, 7, 8, 9, 21, 22, 23, 24, 25, 26] [(0, 0, 0), (0, 31, 33), (0, 39, 49)] [4, 10, 11] [(0, 30, 30)]) σ0 (r.1)) := by
  unfold fX12_blocks_234
  exact zpc_bu (fV_fX12_put h) (fun σ11 hσ11 => zpc_if (fun _ => fV_fX12_blocks_249 hσ11) (fun _ => fV_fX12_blocks_249 hσ11))
theorem fV_fX12_blocks_216 {σ0 : zSt} {σ : zSt} {x1 : Int32} {x2 : Int32} {x6 : Int32} {s0 : Int32} {s1 : Int32} (h : (zQ [3, 5, 6, 7, 8, 9, 21, 22, 23, 24, 25, 26] [(0, 0, 0), (0, 31, 33), (0, 39, 49)] [4, 10, 11] [(0, 30, 30)]) σ0 σ) : zpc (fX12_blocks_216 σ x1 x2 x6 s0 s1) (fun r => (zQ [3, 5, 6, 7, 8, 9, 21, 22, 23, 24, 25, 26] [(0, 0, 0), (0, 31, 33), (0, 39, 49)] [4, 10, 11] [(0, 30, 30)]) σ0 (r.1)) := by
  unfold fX12_blocks_216
  exact zpc_bu (fV_fX12_put h) (fun σ12 hσ12 => zpc_if (fun _ => fV_fX12_blocks_234 hσ12) (fun _ => fV_fX12_blocks_234 hσ12))
theorem fV_fX12_blocks_202 {σ0 : zSt} {σ : zSt} {x1 : Int32} {x2 : Int32} {x6 : Int32} (h : (zQ [3, 5, 6, 7, 8, 9, 21, 22, 23, 24, 25, 26] [(0, 0, 0), (0, 31, 33), (0, 39, 49)] [4, 10, 11] [(0, 30, 30)]) σ0 σ) : zpc (fX12_blocks_202 σ x1 x2 x6) (fun r => (zQ [3, 5, 6, 7, 8, 9, 21, 22, 23, 24, 25, 26] [(0, 0, 0), (0, 31, 33), (0, 39, 49)] [4, 10, 11] [(0, 30, 30)]) σ0 (r.1)) := by
  unfold fX12_blocks_202
  exact zpc_if (fun _ => fV_fX12_blocks_216 h) (fun _ => fV_fX12_blocks_216 h)
theorem fV_fX12_blocks_190 {σ0 : zSt} {σ : zSt} {x1 : Int32} {x2 : Int32} {s0 : Int32} {s1 : Int32} (h : (zQ [3, 5, 6, 7, 8, 9, 21, 22, 23, 24, 25, 26] [(0, 0, 0), (0, 31, 33), (0, 39, 49)] [4, 10, 11] [(0, 30, 30)]) σ0 σ) : zpc (fX12_blocks_190 σ x1 x2 s0 s1) (fun r => (zQ [3, 5, 6, 7, 8, 9, 21, 22, 23, 24, 25, 26] [(0, 0, 0), (0, 31, 33), (0, 39, 49)] [4, 10, 11] [(0, 30, 30)]) σ0 (r.1)) := by
  unfold fX12_blocks_190
  exact zpc_bv (fun v13 _ => fV_fX12_blocks_202 h)
theorem fV_fX12_blocks_159 {σ0 : zSt} {σ : zSt} {x1 : Int32} {x2 : Int32} {x6 : Int32} {s0 : Int32} (h : (zQ [3, 5, 6, 7, 8, 9, 21, 22, 23, 24, 25, 26] [(0, 0, 0), (0, 31, 33), (0, 39, 49)] [4, 10, 11] [(0, 30, 30)]) σ0 σ) : zpc (fX12_blocks_159 σ x1 x2 x6 s0) (fun r => (zQ [3, 5, 6, 7, 8, 9, 21, 22, 23, 24, 25, 26] [(0, 0, 0), (0, 31, 33), (0, 39, 49)] [4, 10, 11] [(0, 30, 30)]) σ0 (r.1)) := by
  unfold fX12_blocks_159
  exact zpc_bu (fV_fX12_by h) (fun σ14 hσ14 => zpc_bu (fV_fX12_put hσ14) (fun σ15 hσ15 => zpc_if (fun _ => fV_fX12_blocks_190 hσ15) (fun _ => fV_fX12_blocks_190 hσ15)))
theorem fV_fX12_blocks_111 {σ0 : zSt} {σ : zSt} {x1 : Int32} {x2 : Int32} {x3 : Int32} {x4 : Int32} {s0 : Int32} (h : (zQ [3, 5, 6, 7, 8, 9, 21, 22, 23, 24, 25, 26] [(0, 0, 0), (0, 31, 33), (0, 39, 49)] [4, 10, 11] [(0, 30, 30)]) σ0 σ) : zpc (fX12_blocks_111 σ x1 x2 x3 x4 s0) (fun r => (zQ [3, 5, 6, 7, 8, 9, 21, 22, 23, 24, 25, 26] [(0, 0, 0), (0, 31, 33), (0, 39, 49)] [4, 10, 11] [(0, 30, 30)]) σ0 (r.1)) := by
  unfold fX12_blocks_111
  exact zpc_if (fun _ => zpc_ck (zpc_ck (zpc_bs (zQ.wi h rfl) (fun σ17 hσ17 => zpc_ck (zpc_if (fun _ => fV_fX12_blocks_159 hσ17) (fun _ => fV_fX12_blocks_159 hσ17)))))) (fun _ => zpc_bu (fV_fX12_put h) (fun σ16 hσ16 => fV_fX12_blocks_202 hσ16))
theorem fV_fX12_blocks_74 {σ0 : zSt} {σ : zSt} {x1 : Int32} {x2 : Int32} {x3 : Int32} {x4 : Int32} (h : (zQ [3, 5, 6, 7, 8, 9, 21, 22, 23, 24, 25, 26] [(0, 0, 0), (0, 31, 33), (0, 39, 49)] [4, 10, 11] [(0, 30, 30)]) σ0 σ) : zpc (fX12_blocks_74 σ x1 x2 x3 x4) (fun r => (zQ [3, 5, 6, 7, 8, 9, 21, 22, 23, 24, 25, 26] [(0, 0, 0), (0, 31, 33), (0, 39, 49)] [4, 10, 11] [(0, 30, 30)]) σ0 (r.1)) := by
  unfold fX12_blocks_74
  exact zpc_bi (fV_fX12_pair h) (fun σ18 v19 hσ18 => zpc_bu (fV_fX12_pairTo hσ18) (fun σ20 hσ20 => zpc_if (fun _ => zpc_ck (fV_fX12_blocks_111 hσ20)) (fun _ => zpc_ck (fV_fX12_blocks_111 hσ20))))
theorem fV_fX12_blocks_44 {σ0 : zSt} {σ : zSt} {x1 : Int32} {x2 : Int32} {x3 : Int32} {x4 : Int32} (h : (zQ [3, 5, 6, 7, 8, 9, 21, 22, 23, 24, 25, 26] [(0, 0, 0), (0, 31, 33), (0, 39, 49)] [4, 10, 11] [(0, 30, 30)]) σ0 σ) : zpc (fX12_blocks_44 σ x1 x2 x3 x4) (fun r => (zQ [3, 5, 6, 7, 8, 9, 21, 22, 23, 24, 25, 26] [(0, 0, 0), (0, 31, 33), (0, 39, 49)] [4, 10, 11] [(0, 30, 30)]) σ0 (r.1)) := by
  unfold fX12_blocks_44
  exact zpc_bi (fV_fX12_pair h) (fun σ21 v22 hσ21 => zpc_bu (fV_fX12_pairTo hσ21) (fun σ23 hσ23 => zpc_if (fun _ => zpc_bi (fV_fX12_pair hσ23) (fun σ24 v25 hσ24 => zpc_bu (fV_fX12_pairTo hσ24) (fun σ26 hσ26 => fV_fX12_blocks_74 hσ26))) (fun _ => fV_fX12_blocks_74 hσ23)))
theorem fV_fX12_blocks_582 {σ0 : zSt} {σ : zSt} {x1 : Int32} {x2 : Int32} {s0 : Int32} (h : (zQ [3, 5, 6, 7, 8, 9, 21, 22, 23, 24, 25, 26] [(0, 0, 0), (0, 31, 33), (0, 39, 49)] [4, 10, 11] [(0, 30, 30)]) σ0 σ) : zpc (fX12_blocks_582 σ x1 x2 s0) (fun r => (zQ [3, 5, 6, 7, 8, 9, 21, 22, 23, 24, 25, 26] [(0, 0, 0), (0, 31, 33), (0, 39, 49)] [4, 10, 11] [(0, 30, 30)]) σ0 (r.1)) := by
  unfold fX12_blocks_582
  exact fV_fX12_blocks_584 h
theorem fV_fX12_blocks_545 {σ0 : zSt} {σ : zSt} {x1 : Int32} {x2 : Int32} {x6 : Int32} {s0 : Int32} {s1 : Int32} (h : (zQ [3, 5, 6, 7, 8, 9, 21, 22, 23, 24, 25, 26] [(0, 0, 0), (0, 31, 33), (0, 39, 49)] [4, 10, 11] [(0, 30, 30)]) σ0 σ) : zpc (fX12_blocks_545 σ x1 x2 x6 s0 s1) (fun r => (zQ [3, 5, 6, 7, 8, 9, 21, 22, 23, 24, 25, 26] [(0, 0, 0), (0, 31, 33), (0, 39, 49)] [4, 10, 11] [(0, 30, 30)]) σ0 (r.1)) := by
  unfold fX12_blocks_545
  exact zpc_bu (fV_fX12_put h) (fun σ27 hσ27 => zpc_ck (zpc_bi (fV_fX12_isEven hσ27) (fun σ28 v29 hσ28 => zpc_bu (fV_fX12_put hσ28) (fun σ30 hσ30 => zpc_ck (zpc_if (fun _ => fV_fX12_blocks_582 hσ30) (fun _ => fV_fX12_blocks_582 hσ30))))))
theorem fV_fX12_blocks_527 {σ0 : zSt} {σ : zSt} {x1 : Int32} {x2 : Int32} {x6 : Int32} {s0 : Int32} {s1 : Int32} (h : (zQ [3, 5, 6, 7, 8, 9, 21, 22, 23, 24, 25, 26] [(0, 0, 0), (0, 31, 33), (0, 39, 49)] [4, 10, 11] [(0, 30, 30)]) σ0 σ) : zpc (fX12_blocks_527 σ x1 x2 x6 s0 s1) (fun r => (zQ [3, 5, 6, 7, 8, 9, 21, 22, 23, 24, 25, 26] [(0, 0, 0), (0, 31, 33), (0, 39, 49)] [4, 10, 11] [(0, 30, 30)]) σ0 (r.1)) := by
  unfold fX12_blocks_527
  exact zpc_bu (fV_fX12_put h) (fun σ31 hσ31 => zpc_if (fun _ => fV_fX12_blocks_545 hσ31) (fun _ => fV_fX12_blocks_545 hσ31))
theorem fV_fX12_blocks_509 {σ0 : zSt} {σ : zSt} {x1 : Int32} {x2 : Int32} {x6 : Int32} {s0 : Int32} {s1 : Int32} (h : (zQ [3, 5, 6, 7, 8, 9, 21, 22, 23, 24, 25, 26] [(0, 0, 0), (0, 31, 33), (0, 39, 49)] [4, 10, 11] [(0, 30, 30)]) σ0 σ) : zpc (fX12_blocks_509 σ x1 x2 x6 s0 s1) (fun r => (zQ [3, 5, 6, 7, 8, 9, 21, 22, 23, 24, 25, 26] [(0, 0, 0), (0, 31, 33), (0, 39, 49)] [4, 10, 11] [(0, 30, 30)]) σ0 (r.1)) := by
  unfold fX12_blocks_509
  exact zpc_bu (fV_fX12_put h) (fun σ32 hσ32 => zpc_if (fun _ => fV_fX12_blocks_527 hσ32) (fun _ => fV_fX12_blocks_527 hσ32))
theorem fV_fX12_blocks_485 {σ0 : zSt} {σ : zSt} {x1 : Int32} {x2 : Int32} {x4 : Int32} {x6 : Int32} (h : (zQ [3, 5, 6, 7, 8, 9, 21, 22, 23, 24, 25, 26] [(0, 0, 0), (0, 31, 33), (0, 39, 49)] [4, 10, 11] [(0, 30, 30)]) σ0 σ) : zpc (fX12_blocks_485 σ x1 x2 x4 x6) (fun r => (zQ [3, 5, 6, 7, 8, 9, 21, 22, 23, 24, 25, 26] [(0, 0, 0), (0, 31, 33), (0, 39, 49)] [4, 10, 11] [(0, 30, 30)]) σ0 (r.1)) := by
  unfold fX12_blocks_485
  exact zpc_ck (zpc_bu (fV_fX12_by h) (fun σ33 hσ33 => zpc_if (fun _ => fV_fX12_blocks_509 hσ33) (fun _ => fV_fX12_blocks_509 hσ33)))
theorem fV_fX12_blocks_11 {σ0 : zSt} {σ : zSt} {x1 : Int32} {x2 : Int32} {s0 : Int32} (h : (zQ [3, 5, 6, 7, 8, 9, 21, 22, 23, 24, 25, 26] [(0, 0, 0), (0, 31, 33), (0, 39, 49)] [4, 10, 11] [(0, 30, 30)]) σ0 σ) : zpc (fX12_blocks_11 σ x1 x2 s0) (fun r => (zQ [3, 5, 6, 7, 8, 9, 21, 22, 23, 24, 25, 26] [(0, 0, 0), (0, 31, 33), (0, 39, 49)] [4, 10, 11] [(0, 30, 30)]) σ0 (r.1)) := by
  unfold fX12_blocks_11
  exact zpc_if (fun _ => zpc_if (fun _ => zpc_bi (fV_fX12_pair h) (fun σ47 v48 hσ47 => zpc_ck (zpc_bs (zQ.wi hσ47 rfl) (fun σ49 hσ49 => zpc_ck (zpc_bi (fV_fX12_port hσ49) (fun σ50 v51 hσ50 => zpc_ck (zpc_ck (zpc_bs (zQ.wi hσ50 rfl) (fun σ52 hσ52 => zpc_bi (fV_fX12_pair hσ52) (fun σ53 v54 hσ53 => zpc_bu (fV_fX12_write hσ53) (fun σ55 hσ55 => zpc_bi (fV_fX12_pair hσ55) (fun σ56 v57 hσ56 => zpc_bu (fV_fX12_pairTo hσ56) (fun σ58 hσ58 => zpc_ck (zpc_bv (fun v59 _ => fV_fX12_blocks_485 hσ58))))))))))))))) (fun _ => zpc_bi (fV_fX12_pair h) (fun σ34 v35 hσ34 => zpc_bi (fV_fX12_read hσ34) (fun σ36 v37 hσ36 => zpc_ck (zpc_ck (zpc_bs (zQ.wi hσ36 rfl) (fun σ38 hσ38 => zpc_ck (zpc_bu (fV_fX12_portTo hσ38) (fun σ39 hσ39 => zpc_bi (fV_fX12_pair hσ39) (fun σ40 v41 hσ40 => zpc_bu (fV_fX12_pairTo hσ40) (fun σ42 hσ42 => zpc_bi (fV_fX12_pair hσ42) (fun σ43 v44 hσ43 => zpc_ck (zpc_bs (zQ.wi hσ43 rfl) (fun σ45 hσ45 => zpc_ck (zpc_bv (fun v46 _ => fV_fX12_blocks_485 hσ45)))))))))))))))) (fun _ => zpc_bi (fV_fX12_pair h) (fun σ60 v61 hσ60 => zpc_bi (fV_fX12_read hσ60) (fun σ62 v63 hσ62 => zpc_if (fun _ => zpc_bi (fV_fX12_pair hσ62) (fun σ64 v65 hσ64 => zpc_bu (fV_fX12_write hσ64) (fun σ66 hσ66 => fV_fX12_blocks_44 hσ66))) (fun _ => fV_fX12_blocks_44 hσ62))))
theorem fV_fX12_blocks {σ0 : zSt} {σ : zSt} {x1 : Int32} {x2 : Int32} (h : (zQ [3, 5, 6, 7, 8, 9, 21, 22, 23, 24, 25, 26] [(0, 0, 0), (0, 31, 33), (0, 39, 49)] [4, 10, 11] [(0, 30, 30)]) σ0 σ) : zpc (fX12_blocks σ x1 x2) (fun r => (zQ [3, 5, 6, 7, 8, 9, 21, 22, 23, 24, 25, 26] [(0, 0, 0), (0, 31, 33), (0, 39, 49)] [4, 10, 11] [(0, 30, 30)]) σ0 (r.1)) := by
  unfold fX12_blocks
  exact zpc_ck (zpc_if (fun _ => fV_fX12_blocks_11 h) (fun _ => fV_fX12_blocks_11 h))
theorem fV_fX12_specials_28 {σ0 : zSt} {σ : zSt} {s0 : Int32} (h : (zQ [3, 5, 6, 7, 8, 9, 21, 22, 23, 24, 25, 26] [(0, 0, 0), (0, 31, 33), (0, 39, 49)] [4, 10, 11] [(0, 30, 30)]) σ0 σ) : zpc (fX12_specials_28 σ s0) (fun r => (zQ [3, 5, 6, 7, 8, 9, 21, 22, 23, 24, 25, 26] [(0, 0, 0), (0, 31, 33), (0, 39, 49)] [4, 10, 11] [(0, 30, 30)]) σ0 (r.1)) := by
  unfold fX12_specials_28
  exact zpc_ck (zpc_ck (zpc_bs (zQ.wi h rfl) (fun σ1 hσ1 => zpc_some hσ1)))
theorem fV_fX12_specials_244 {σ0 : zSt} {σ : zSt} {s0 : Int32} (h : (zQ [3, 5, 6, 7, 8, 9, 21, 22, 23, 24, 25, 26] [(0, 0, 0), (0, 31, 33), (0, 39, 49)] [4, 10, 11] [(0, 30, 30)]) σ0 σ) : zpc (fX12_specials_244 σ s0) (fun r => (zQ [3, 5, 6, 7, 8, 9, 21, 22, 23, 24, 25, 26] [(0, 0, 0), (0, 31, 33), (0, 39, 49)] [4, 10, 11] [(0, 30, 30)]) σ0 (r.1)) := by
  unfold fX12_specials_244
  exact zpc_some h
theorem fV_fX12_specials_220 {σ0 : zSt} {σ : zSt} {x1 : Int32} (h : (zQ [3, 5, 6, 7, 8, 9, 21, 22, 23, 24, 25, 26] [(0, 0, 0), (0, 31, 33), (0, 39, 49)] [4, 10, 11] [(0, 30, 30)]) σ0 σ) : zpc (fX12_specials_220 σ x1) (fun r => (zQ [3, 5, 6, 7, 8, 9, 21, 22, 23, 24, 25, 26] [(0, 0, 0), (0, 31, 33), (0, 39, 49)] [4, 10, 11] [(0, 30, 30)]) σ0 (r.1)) := by
  unfold fX12_specials_220
  exact zpc_bu (fV_fX12_put h) (fun σ2 hσ2 => zpc_bu (fV_fX12_put hσ2) (fun σ3 hσ3 => zpc_if (fun _ => fV_fX12_specials_244 hσ3) (fun _ => fV_fX12_specials_244 hσ3)))
theorem fV_fX12_specials_94 {σ0 : zSt} {σ : zSt} {x1 : Int32} {s0 : Int32} {s1 : Int32} (h : (zQ [3, 5, 6, 7, 8, 9, 21, 22, 23, 24, 25, 26] [(0, 0, 0), (0, 31, 33), (0, 39, 49)] [4, 10, 11] [(0, 30, 30)]) σ0 σ) : zpc (fX12_specials_94 σ x1 s0 s1) (fun r => (zQ [3, 5, 6, 7, 8, 9, 21, 22, 23, 24, 25, 26] [(0, 0, 0), (0, 31, 33), (0, 39, 49)] [4, 10, 11] [(0, 30, 30)]) σ0 (r.1)) := by
  unfold fX12_specials_94
  exact zpc_bu (fV_fX12_put h) (fun σ4 hσ4 => fV_fX12_specials_220 hσ4)
theorem fV_fX12_specials_64 {σ0 : zSt} {σ : zSt} {x1 : Int32} {s0 : Int32} {s2 : Int32} (h : (zQ [3, 5, 6, 7, 8, 9, 21, 22, 23, 24, 25, 26] [(0, 0, 0), (0, 31, 33), (0, 39, 49)] [4, 10, 11] [(0, 30, 30)]) σ0 σ) : zpc (fX12_specials_64 σ x1 s0 s2) (fun r => (zQ [3, 5, 6, 7, 8, 9, 21, 22, 23, 24, 25, 26] [(0, 0, 0), (0, 31, 33), (0, 39, 49)] [4, 10, 11] [(0, 30, 30)]) σ0 (r.1)) := by
  unfold fX12_specials_64
  exact zpc_ck (zpc_ck (zpc_bs (zQ.wi h rfl) (fun σ5 hσ5 => zpc_ck (zpc_bu (fV_fX12_by hσ5) (fun σ6 hσ6 => zpc_ck (zpc_if (fun _ => fV_fX12_specials_94 hσ6) (fun _ => fV_fX12_specials_94 hσ6)))))))
theorem fV_fX12_specials_194 {σ0 : zSt} {σ : zSt} {x1 : Int32} {s0 : Int32} {s1 : Int32} {s2 : Int32} (h : (zQ [3, 5, 6, 7, 8, 9, 21, 22, 23, 24, 25, 26] [(0, 0, 0), (0, 31, 33), (0, 39, 49)] [4, 10, 11] [(0, 30, 30)]) σ0 σ) : zpc (fX12_specials_194 σ x1 s0 s1 s2) (fun r => (zQ [3, 5, 6, 7, 8, 9, 21, 22, 23, 24, 25, 26] [(0, 0, 0), (0, 31, 33), (0, 39, 49)] [4, 10, 11] [(0, 30, 30)]) σ0 (r.1)) := by
  unfold fX12_specials_194
  exact zpc_ck (zpc_bs (zQ.wi h rfl) (fun σ7 hσ7 => zpc_ck (zpc_bu (fV_fX12_by hσ7) (fun σ8 hσ8 => zpc_ck (zpc_bi (fV_fX12_isEven hσ8) (fun σ9 v10 hσ9 => zpc_bu (fV_fX12_put hσ9) (fun σ11 hσ11 => fV_fX12_specials_220 hσ11)))))))
theorem fV_fX12_specials_161 {σ0 : zSt} {σ : zSt} {x1 : Int32} {x3 : Int32} {s0 : Int32} {s1 : Int32} (h : (zQ [3, 5, 6, 7, 8, 9, 21, 22, 23, 24, 25, 26] [(0, 0, 0), (0, 31, 33), (0, 39, 49)] [4, 10, 11] [(0, 30, 30)]) σ0 σ) : zpc (fX12_specials_161 σ x1 x3 s0 s1) (fun r => (zQ [3, 5, 6, 7, 8, 9, 21, 22, 23, 24, 25, 26] [(0, 0, 0), (0, 31, 33), (0, 39, 49)] [4, 10, 11] [(0, 30, 30)]) σ0 (r.1)) := by
  unfold fX12_specials_161
  exact zpc_bu (fV_fX12_write h) (fun σ12 hσ12 => zpc_ck (zpc_if (fun _ => fV_fX12_specials_194 hσ12) (fun _ => fV_fX12_specials_194 hσ12)))
theorem fV_fX12_specials {σ0 : zSt} {σ : zSt} {x1 : Int32} (h : (zQ [3, 5, 6, 7, 8, 9, 21, 22, 23, 24, 25, 26] [(0, 0, 0), (0, 31, 33), (0, 39, 49)] [4, 10, 11] [(0, 30, 30)]) σ0 σ) : zpc (fX12_specials σ x1) (fun r => (zQ [3, 5, 6, 7, 8, 9, 21, 22, 23, 24, 25, 26] [(0, 0, 0), (0, 31, 33), (0, 39, 49)] [4, 10, 11] [(0, 30, 30)]) σ0 (r.1)) := by
  unfold fX12_specials
  exact zpc_if (fun _ => zpc_if (fun _ => zpc_if (fun _ => zpc_bi (fV_fX12_pair h) (fun σ13 v14 hσ13 => zpc_ck (zpc_bs (zQ.wi hσ13 rfl) (fun σ15 hσ15 => zpc_bi (fV_fX12_read hσ15) (fun σ16 v17 hσ16 => zpc_ck (zpc_bv (fun v18 _ => zpc_if (fun _ => fV_fX12_specials_161 hσ16) (fun _ => fV_fX12_specials_161 hσ16)))))))) (fun _ => zpc_if (fun _ => fV_fX12_specials_64 h) (fun _ => fV_fX12_specials_64 h))) (fun _ => zpc_if (fun _ => fV_fX12_specials_28 h) (fun _ => fV_fX12_specials_28 h))) (fun _ => zpc_some h)
theorem fV_fX12_words_255 {σ0 : zSt} {σ : zSt} {s0 : Int32} {s1 : Int32} (h : (zQ [3, 5, 6, 7, 8, 9, 21, 22, 23, 24, 25, 26] [(0, 0, 0), (0, 31, 33), (0, 39, 49)] [4, 10, 11] [(0, 30, 30)]) σ0 σ) : zpc (fX12_words_255 σ s0 s1) (fun r => (zQ [3, 5, 6, 7, 8, 9, 21, 22, 23, 24, 25, 26] [(0, 0, 0), (0, 31, 33), (0, 39, 49)] [4, 10, 11] [(0, 30, 30)]) σ0 (r)) := by
  unfold fX12_words_255
  exact zpc_bu (fV_fX12_put h) (fun σ1 hσ1 => zpc_some hσ1)
theorem fV_fX12_words_241 {σ0 : zSt} {σ : zSt} {x2 : Int32} {s0 : Int32} {s1 : Int32} (h : (zQ [3, 5, 6, 7, 8, 9, 21, 22, 23, 24, 25, 26] [(0, 0, 0), (0, 31, 33), (0, 39, 49)] [4, 10, 11] [(0, 30, 30)]) σ0 σ) : zpc (fX12_words_241 σ x2 s0 s1) (fun r => (zQ [3, 5, 6, 7, 8, 9, 21, 22, 23, 24, 25, 26] [(0, 0, 0), (0, 31, 33), (0, 39, 49)] [4, 10, 11] [(0, 30, 30)]) σ0 (r)) := by
  unfold fX12_words_241
  exact zpc_bu (fV_fX12_put h) (fun σ2 hσ2 => zpc_if (fun _ => fV_fX12_words_255 hσ2) (fun _ => fV_fX12_words_255 hσ2))
theorem fV_fX12_words_236 {σ0 : zSt} {σ : zSt} {x2 : Int32} {s0 : Int32} (h : (zQ [3, 5, 6, 7, 8, 9, 21, 22, 23, 24, 25, 26] [(0, 0, 0), (0, 31, 33), (0, 39, 49)] [4, 10, 11] [(0, 30, 30)]) σ0 σ) : zpc (fX12_words_236 σ x2 s0) (fun r => (zQ [3, 5, 6, 7, 8, 9, 21, 22, 23, 24, 25, 26] [(0, 0, 0), (0, 31, 33), (0, 39, 49)] [4, 10, 11] [(0, 30, 30)]) σ0 (r)) := by
  unfold fX12_words_236
  exact fV_fX12_words_241 h
theorem fV_fX12_words_215 {σ0 : zSt} {σ : zSt} {x2 : Int32} {x7 : Int32} {s0 : Int32} {s1 : Int32} (h : (zQ [3, 5, 6, 7, 8, 9, 21, 22, 23, 24, 25, 26] [(0, 0, 0), (0, 31, 33), (0, 39, 49)] [4, 10, 11] [(0, 30, 30)]) σ0 σ) : zpc (fX12_words_215 σ x2 x7 s0 s1) (fun r => (zQ [3, 5, 6, 7, 8, 9, 21, 22, 23, 24, 25, 26] [(0, 0, 0), (0, 31, 33), (0, 39, 49)] [4, 10, 11] [(0, 30, 30)]) σ0 (r)) := by
  unfold fX12_words_215
  exact zpc_bu (fV_fX12_put h) (fun σ3 hσ3 => zpc_if (fun _ => fV_fX12_words_236 hσ3) (fun _ => zpc_if (fun _ => fV_fX12_words_241 hσ3) (fun _ => fV_fX12_words_236 hσ3)))
theorem fV_fX12_words_210 {σ0 : zSt} {σ : zSt} {x2 : Int32} {x7 : Int32} {s0 : Int32} (h : (zQ [3, 5, 6, 7, 8, 9, 21, 22, 23, 24, 25, 26] [(0, 0, 0), (0, 31, 33), (0, 39, 49)] [4, 10, 11] [(0, 30, 30)]) σ0 σ) : zpc (fX12_words_210 σ x2 x7 s0) (fun r => (zQ [3, 5, 6, 7, 8, 9, 21, 22, 23, 24, 25, 26] [(0, 0, 0), (0, 31, 33), (0, 39, 49)] [4, 10, 11] [(0, 30, 30)]) σ0 (r)) := by
  unfold fX12_words_210
  exact fV_fX12_words_215 h
theorem fV_fX12_words_193 {σ0 : zSt} {σ : zSt} {x2 : Int32} {x6 : Int32} {x7 : Int32} {s0 : Int32} {s1 : Int32} (h : (zQ [3, 5, 6, 7, 8, 9, 21, 22, 23, 24, 25, 26] [(0, 0, 0), (0, 31, 33), (0, 39, 49)] [4, 10, 11] [(0, 30, 30)]) σ0 σ) : zpc (fX12_words_193 σ x2 x6 x7 s0 s1) (fun r => (zQ [3, 5, 6, 7, 8, 9, 21, 22, 23, 24, 25, 26] [(0, 0, 0), (0, 31, 33), (0, 39, 49)] [4, 10, 11] [(0, 30, 30)]) σ0 (r)) := by
  unfold fX12_words_193
  exact zpc_bu (fV_fX12_put h) (fun σ4 hσ4 => zpc_if (fun _ => fV_fX12_words_210 hσ4) (fun _ => zpc_if (fun _ => fV_fX12_words_215 hσ4) (fun _ => fV_fX12_words_210 hσ4)))
theorem fV_fX12_words_123 {σ0 : zSt} {σ : zSt} {x2 : Int32} {x3 : Int32} {x4 : Int32} {x5 : Int32} {x6 : Int32} {x7 : Int32} {s0 : Int32} {s1 : Int32} (h : (zQ [3, 5, 6, 7, 8, 9, 21, 22, 23, 24, 25, 26] [(0, 0, 0), (0, 31, 33), (0, 39, 49)] [4, 10, 11] [(0, 30, 30)]) σ0 σ) : zpc (fX12_words_123 σ x2 x3 x4 x5 x6 x7 s0 s1) (fun r => (zQ [3, 5, 6, 7, 8, 9, 21, 22, 23, 24, 25, 26] [(0, 0, 0), (0, 31, 33), (0, 39, 49)] [4, 10, 11] [(0, 30, 30)]) σ0 (r)) := by
  unfold fX12_words_123
  exact zpc_bu (fV_fX12_put h) (fun σ5 hσ5 => zpc_bu (fV_fX12_xy hσ5) (fun σ6 hσ6 => zpc_if (fun _ => zpc_if (fun _ => fV_fX12_words_193 hσ6) (fun _ => fV_fX12_words_193 hσ6)) (fun _ => zpc_if (fun _ => fV_fX12_words_193 hσ6) (fun _ => fV_fX12_words_193 hσ6))))
theorem fV_fX12_words_104 {σ0 : zSt} {σ : zSt} {x2 : Int32} {x3 : Int32} {x4 : Int32} {x5 : Int32} {x6 : Int32} {x7 : Int32} {s0 : Int32} {s1 : Int32} (h : (zQ [3, 5, 6, 7, 8, 9, 21, 22, 23, 24, 25, 26] [(0, 0, 0), (0, 31, 33), (0, 39, 49)] [4, 10, 11] [(0, 30, 30)]) σ0 σ) : zpc (fX12_words_104 σ x2 x3 x4 x5 x6 x7 s0 s1) (fun r => (zQ [3, 5, 6, 7, 8, 9, 21, 22, 23, 24, 25, 26] [(0, 0, 0), (0, 31, 33), (0, 39, 49)] [4, 10, 11] [(0, 30, 30)]) σ0 (r)) := by
  unfold fX12_words_104
  exact zpc_bu (fV_fX12_put h) (fun σ7 hσ7 => zpc_if (fun _ => fV_fX12_words_123 hσ7) (fun _ => fV_fX12_words_123 hσ7))
theorem fV_fX12_words_80 {σ0 : zSt} {σ : zSt} {x2 : Int32} {x3 : Int32} {x4 : Int32} {x5 : Int32} {x6 : Int32} {s0 : Int32} (h : (zQ [3, 5, 6, 7, 8, 9, 21, 22, 23, 24, 25, 26] [(0, 0, 0), (0, 31, 33), (0, 39, 49)] [4, 10, 11] [(0, 30, 30)]) σ0 σ) : zpc (fX12_words_80 σ x2 x3 x4 x5 x6 s0) (fun r => (zQ [3, 5, 6, 7, 8, 9, 21, 22, 23, 24, 25, 26] [(0, 0, 0), (0, 31, 33), (0, 39, 49)] [4, 10, 11] [(0, 30, 30)]) σ0 (r)) := by
  unfold fX12_words_80
  exact zpc_bu (fV_fX12_hlTo h) (fun σ8 hσ8 => zpc_if (fun _ => fV_fX12_words_104 hσ8) (fun _ => fV_fX12_words_104 hσ8))
theorem fV_fX12_words_53 {σ0 : zSt} {σ : zSt} {x2 : Int32} {x3 : Int32} {x4 : Int32} {x5 : Int32} {s0 : Int32} (h : (zQ [3, 5, 6, 7, 8, 9, 21, 22, 23, 24, 25, 26] [(0, 0, 0), (0, 31, 33), (0, 39, 49)] [4, 10, 11] [(0, 30, 30)]) σ0 σ) : zpc (fX12_words_53 σ x2 x3 x4 x5 s0) (fun r => (zQ [3, 5, 6, 7, 8, 9, 21, 22, 23, 24, 25, 26] [(0, 0, 0), (0, 31, 33), (0, 39, 49)] [4, 10, 11] [(0, 30, 30)]) σ0 (r)) := by
  unfold fX12_words_53
  exact zpc_if (fun _ => fV_fX12_words_80 h) (fun _ => fV_fX12_words_80 h)
theorem fV_fX12_words {σ0 : zSt} {σ : zSt} {x1 : Int32} {x2 : Int32} (h : (zQ [3, 5, 6, 7, 8, 9, 21, 22, 23, 24, 25, 26] [(0, 0, 0), (0, 31, 33), (0, 39, 49)] [4, 10, 11] [(0, 30, 30)]) σ0 σ) : zpc (fX12_words σ x1 x2) (fun r => (zQ [3, 5, 6, 7, 8, 9, 21, 22, 23, 24, 25, 26] [(0, 0, 0), (0, 31, 33), (0, 39, 49)] [4, 10, 11] [(0, 30, 30)]) σ0 (r)) := by
  unfold fX12_words
  exact zpc_bi (fV_fX12_hl h) (fun σ9 v10 hσ9 => zpc_bi (fV_fX12_rp hσ9) (fun σ11 v12 hσ11 => zpc_bi (fV_fX12_flag hσ11) (fun σ13 v14 hσ13 => zpc_ck (zpc_bs (zQ.wi hσ13 rfl) (fun σ15 hσ15 => zpc_if (fun _ => fV_fX12_words_53 hσ15) (fun _ => fV_fX12_words_53 hσ15))))))
theorem fV_fX12_more_387 {σ0 : zSt} {σ : zSt} {s0 : Int32} {s1 : Int32} (h : (zQ [3, 5, 6, 7, 8, 9, 21, 22, 23, 24, 25, 26] [(0, 0, 0), (0, 31, 33), (0, 39, 49)] [4, 10, 11] [(0, 30, 30)]) σ0 σ) : zpc (fX12_more_387 σ s0 s1) (fun r => (zQ [3, 5, 6, 7, 8, 9, 21, 22, 23, 24, 25, 26] [(0, 0, 0), (0, 31, 33), (0, 39, 49)] [4, 10, 11] [(0, 30, 30)]) σ0 (r.1)) := by
  unfold fX12_more_387
  exact zpc_ck (zpc_bs (zQ.wi h rfl) (fun σ1 hσ1 => zpc_some hσ1))
theorem fV_fX12_more_281 {σ0 : zSt} {σ : zSt} {x7 : Int32} (h : (zQ [3, 5, 6, 7, 8, 9, 21, 22, 23, 24, 25, 26] [(0, 0, 0), (0, 31, 33), (0, 39, 49)] [4, 10, 11] [(0, 30, 30)]) σ0 σ) : zpc (fX12_more_281 σ x7) (fun r => (zQ [3, 5, 6, 7, 8, 9, 21, 22, 23, 24, 25, 26] [(0, 0, 0), (0, 31, 33), (0, 39, 49)] [4, 10, 11] [(0, 30, 30)]) σ0 (r.1)) := by
  unfold fX12_more_281
  exact zpc_ck (zpc_bs (zQ.wi h rfl) (fun σ2 hσ2 => zpc_some hσ2))
theorem fV_fX12_more_234 {σ0 : zSt} {σ : zSt} {s0 : Int32} {s1 : Int32} (h : (zQ [3, 5, 6, 7, 8, 9, 21, 22, 23, 24, 25, 26] [(0, 0, 0), (0, 31, 33), (0, 39, 49)] [4, 10, 11] [(0, 30, 30)]) σ0 σ) : zpc (fX12_more_234 σ s0 s1) (fun r => (zQ [3, 5, 6, 7, 8, 9, 21, 22, 23, 24, 25, 26] [(0, 0, 0), (0, 31, 33), (0, 39, 49)] [4, 10, 11] [(0, 30, 30)]) σ0 (r.1)) := by
  unfold fX12_more_234
  exact zpc_bu (fV_fX12_words h) (fun σ3 hσ3 => zpc_some hσ3)
theorem fV_fX12_more_195 {σ0 : zSt} {σ : zSt} {s0 : Int32} {s1 : Int32} (h : (zQ [3, 5, 6, 7, 8, 9, 21, 22, 23, 24, 25, 26] [(0, 0, 0), (0, 31, 33), (0, 39, 49)] [4, 10, 11] [(0, 30, 30)]) σ0 σ) : zpc (fX12_more_195 σ s0 s1) (fun r => (zQ [3, 5, 6, 7, 8, 9, 21, 22, 23, 24, 25, 26] [(0, 0, 0), (0, 31, 33), (0, 39, 49)] [4, 10, 11] [(0, 30, 30)]) σ0 (r.1)) := by
  unfold fX12_more_195
  exact zpc_bu (fV_fX12_portTo h) (fun σ4 hσ4 => zpc_bi (fV_fX12_pair hσ4) (fun σ5 v6 hσ5 => zpc_ck (zpc_bs (zQ.wi hσ5 rfl) (fun σ7 hσ7 => zpc_some hσ7))))
theorem fV_fX12_more_133 {σ0 : zSt} {σ : zSt} {x5 : Int32} {x6 : Int32} (h : (zQ [3, 5, 6, 7, 8, 9, 21, 22, 23, 24, 25, 26] [(0, 0, 0), (0, 31, 33), (0, 39, 49)] [4, 10, 11] [(0, 30, 30)]) σ0 σ) : zpc (fX12_more_133 σ x5 x6) (fun r => (zQ [3, 5, 6, 7, 8, 9, 21, 22, 23, 24, 25, 26] [(0, 0, 0), (0, 31, 33), (0, 39, 49)] [4, 10, 11] [(0, 30, 30)]) σ0 (r.1)) := by
  unfold fX12_more_133
  exact zpc_bu (fV_fX12_by h) (fun σ8 hσ8 => zpc_bi (fV_fX12_isEven hσ8) (fun σ9 v10 hσ9 => zpc_bu (fV_fX12_put hσ9) (fun σ11 hσ11 => zpc_bu (fV_fX12_put hσ11) (fun σ12 hσ12 => zpc_bu (fV_fX12_put hσ12) (fun σ13 hσ13 => zpc_ck (zpc_bs (zQ.wi hσ13 rfl) (fun σ14 hσ14 => zpc_some hσ14)))))))
theorem fV_fX12_more_42 {σ0 : zSt} {σ : zSt} {x2 : Int32} {x3 : Int32} {x4 : Int32} (h : (zQ [3, 5, 6, 7, 8, 9, 21, 22, 23, 24, 25, 26] [(0, 0, 0), (0, 31, 33), (0, 39, 49)] [4, 10, 11] [(0, 30, 30)]) σ0 σ) : zpc (fX12_more_42 σ x2 x3 x4) (fun r => (zQ [3, 5, 6, 7, 8, 9, 21, 22, 23, 24, 25, 26] [(0, 0, 0), (0, 31, 33), (0, 39, 49)] [4, 10, 11] [(0, 30, 30)]) σ0 (r.1)) := by
  unfold fX12_more_42
  exact zpc_if (fun _ => zpc_if (fun _ => zpc_bi (fV_fX12_pair h) (fun σ15 v16 hσ15 => zpc_bv (fun v17 _ => zpc_ck (zpc_bi (fV_fX12_port hσ15) (fun σ18 v19 hσ18 => zpc_if (fun _ => fV_fX12_more_133 hσ18) (fun _ => zpc_bu (fV_fX12_rTo hσ18) (fun σ20 hσ20 => fV_fX12_more_133 hσ20))))))) (fun _ => zpc_if (fun _ => zpc_ck (zpc_if (fun _ => fV_fX12_more_195 h) (fun _ => zpc_bi (fV_fX12_r h) (fun σ21 v22 hσ21 => fV_fX12_more_195 hσ21)))) (fun _ => zpc_if (fun _ => zpc_ck (zpc_if (fun _ => fV_fX12_more_234 h) (fun _ => fV_fX12_more_234 h))) (fun _ => zpc_if (fun _ => zpc_bi (fV_fX12_nextWord h) (fun σ23 v24 hσ23 => zpc_ck (zpc_if (fun _ => zpc_bi (fV_fX12_rp hσ23) (fun σ28 v29 hσ28 => zpc_bu (fV_fX12_wordTo hσ28) (fun σ30 hσ30 => fV_fX12_more_281 hσ30))) (fun _ => zpc_bi (fV_fX12_word hσ23) (fun σ25 v26 hσ25 => zpc_bu (fV_fX12_rpTo hσ25) (fun σ27 hσ27 => fV_fX12_more_281 hσ27)))))) (fun _ => zpc_if (fun _ => zpc_ck (zpc_bv (fun v31 _ => zpc_ck (zpc_bs (zQ.wi h rfl) (fun σ32 hσ32 => zpc_bu (fV_fX12_does hσ32) (fun σ33 hσ33 => zpc_some hσ33)))))) (fun _ => zpc_if (fun _ => zpc_bi (fV_fX12_pop h) (fun σ34 v35 hσ34 => zpc_ck (zpc_bs (zQ.wi hσ34 rfl) (fun σ36 hσ36 => zpc_ck (zpc_ck (zpc_bs (zQ.wi hσ36 rfl) (fun σ37 hσ37 => zpc_ck (zpc_ck (zpc_bs (zQ.wi hσ37 rfl) (fun σ38 hσ38 => zpc_some hσ38)))))))))) (fun _ => zpc_if (fun _ => zpc_ck (zpc_if (fun _ => zpc_ck (fV_fX12_more_387 h)) (fun _ => fV_fX12_more_387 h))) (fun _ => zpc_bi (fV_fX12_specials h) (fun σ39 v40 hσ39 => zpc_some hσ39))))))))) (fun _ => zpc_some h)
theorem fV_fX12_more {σ0 : zSt} {σ : zSt} {x1 : Int32} (h : (zQ [3, 5, 6, 7, 8, 9, 21, 22, 23, 24, 25, 26] [(0, 0, 0), (0, 31, 33), (0, 39, 49)] [4, 10, 11] [(0, 30, 30)]) σ0 σ) : zpc (fX12_more σ x1) (fun r => (zQ [3, 5, 6, 7, 8, 9, 21, 22, 23, 24, 25, 26] [(0, 0, 0), (0, 31, 33), (0, 39, 49)] [4, 10, 11] [(0, 30, 30)]) σ0 (r.1)) := by
  unfold fX12_more
  exact zpc_bv (fun v41 _ => zpc_bv (fun v42 _ => zpc_bv (fun v43 _ => zpc_if (fun _ => zpc_if (fun _ => fV_fX12_more_42 h) (fun _ => zpc_if (fun _ => fV_fX12_more_42 h) (fun _ => zpc_bi (fV_fX12_blocks h) (fun σ44 v45 hσ44 => zpc_some hσ44)))) (fun _ => fV_fX12_more_42 h))))
theorem fV_fX12_prefixed_r1_33 {σ0 : zSt} {σ : zSt} (h : (zQ [3, 5, 6, 7, 8, 9, 21, 22, 23, 24, 25, 26] [(0, 0, 0), (0, 31, 33), (0, 39, 49)] [4, 10, 11] [(0, 30, 30)]) σ0 σ) : zpc (fX12_prefixed_r1_33 σ) (fun r => (zQ [3, 5, 6, 7, 8, 9, 21, 22, 23, 24, 25, 26] [(0, 0, 0), (0, 31, 33), (0, 39, 49)] [4, 10, 11] [(0, 30, 30)]) σ0 (r.1)) := by
  unfold fX12_prefixed_r1_33
  exact zpc_ck (zpc_bs (zQ.wi h rfl) (fun σ1 hσ1 => zpc_some hσ1))
theorem fV_fX12_prefixed_r1_154 {σ0 : zSt} {σ : zSt} {s0 : Int32} (h : (zQ [3, 5, 6, 7, 8, 9, 21, 22, 23, 24, 25, 26] [(0, 0, 0), (0, 31, 33), (0, 39, 49)] [4, 10, 11] [(0, 30, 30)]) σ0 σ) : zpc (fX12_prefixed_r1_154 σ s0) (fun r => (zQ [3, 5, 6, 7, 8, 9, 21, 22, 23, 24, 25, 26] [(0, 0, 0), (0, 31, 33), (0, 39, 49)] [4, 10, 11] [(0, 30, 30)]) σ0 (r.1)) := by
  unfold fX12_prefixed_r1_154
  exact zpc_some h
theorem fV_fX12_prefixed_r1_135 {σ0 : zSt} {σ : zSt} {x4 : Int32} {x5 : Int32} (h : (zQ [3, 5, 6, 7, 8, 9, 21, 22, 23, 24, 25, 26] [(0, 0, 0), (0, 31, 33), (0, 39, 49)] [4, 10, 11] [(0, 30, 30)]) σ0 σ) : zpc (fX12_prefixed_r1_135 σ x4 x5) (fun r => (zQ [3, 5, 6, 7, 8, 9, 21, 22, 23, 24, 25, 26] [(0, 0, 0), (0, 31, 33), (0, 39, 49)] [4, 10, 11] [(0, 30, 30)]) σ0 (r.1)) := by
  unfold fX12_prefixed_r1_135
  exact zpc_if (fun _ => fV_fX12_prefixed_r1_154 h) (fun _ => fV_fX12_prefixed_r1_154 h)
theorem fV_fX12_prefixed_r1_244 {σ0 : zSt} {σ : zSt} {x1 : Int32} {x3 : Int32} {s0 : Int32} (h : (zQ [3, 5, 6, 7, 8, 9, 21, 22, 23, 24, 25, 26] [(0, 0, 0), (0, 31, 33), (0, 39, 49)] [4, 10, 11] [(0, 30, 30)]) σ0 σ) : zpc (fX12_prefixed_r1_244 σ x1 x3 s0) (fun r => (zQ [3, 5, 6, 7, 8, 9, 21, 22, 23, 24, 25, 26] [(0, 0, 0), (0, 31, 33), (0, 39, 49)] [4, 10, 11] [(0, 30, 30)]) σ0 (r.1)) := by
  unfold fX12_prefixed_r1_244
  exact zpc_if (fun _ => zpc_bs (zQ.wi h rfl) (fun σ8 hσ8 => zpc_none)) (fun _ => zpc_ck (zpc_bi (fV_fX12_next h) (fun σ2 v3 hσ2 => zpc_bi (fV_fX12_signed hσ2) (fun σ4 v5 hσ4 => zpc_ck (zpc_bs (zQ.wi hσ4 rfl) (fun σ6 hσ6 => zpc_ck (zpc_bs (zQ.wi hσ6 rfl) (fun σ7 hσ7 => zpc_none))))))))
theorem fV_fX12_prefixed_r1_243 {σ0 : zSt} {σ : zSt} {x1 : Int32} {x3 : Int32} (h : (zQ [3, 5, 6, 7, 8, 9, 21, 22, 23, 24, 25, 26] [(0, 0, 0), (0, 31, 33), (0, 39, 49)] [4, 10, 11] [(0, 30, 30)]) σ0 σ) : zpc (fX12_prefixed_r1_243 σ x1 x3) (fun r => (zQ [3, 5, 6, 7, 8, 9, 21, 22, 23, 24, 25, 26] [(0, 0, 0), (0, 31, 33), (0, 39, 49)] [4, 10, 11] [(0, 30, 30)]) σ0 (r.1)) := by
  unfold fX12_prefixed_r1_243
  exact fV_fX12_prefixed_r1_244 h
theorem fV_fX12_prefixed_r1_239 {σ0 : zSt} {σ : zSt} {x1 : Int32} {x3 : Int32} (h : (zQ [3, 5, 6, 7, 8, 9, 21, 22, 23, 24, 25, 26] [(0, 0, 0), (0, 31, 33), (0, 39, 49)] [4, 10, 11] [(0, 30, 30)]) σ0 σ) : zpc (fX12_prefixed_r1_239 σ x1 x3) (fun r => (zQ [3, 5, 6, 7, 8, 9, 21, 22, 23, 24, 25, 26] [(0, 0, 0), (0, 31, 33), (0, 39, 49)] [4, 10, 11] [(0, 30, 30)]) σ0 (r.1)) := by
  unfold fX12_prefixed_r1_239
  exact fV_fX12_prefixed_r1_244 h
theorem fV_fX12_prefixed_r1_226 {σ0 : zSt} {σ : zSt} {x1 : Int32} {x3 : Int32} {x5 : Int32} {x6 : Int32} (h : (zQ [3, 5, 6, 7, 8, 9, 21, 22, 23, 24, 25, 26] [(0, 0, 0), (0, 31, 33), (0, 39, 49)] [4, 10, 11] [(0, 30, 30)]) σ0 σ) : zpc (fX12_prefixed_r1_226 σ x1 x3 x5 x6) (fun r => (zQ [3, 5, 6, 7, 8, 9, 21, 22, 23, 24, 25, 26] [(0, 0, 0), (0, 31, 33), (0, 39, 49)] [4, 10, 11] [(0, 30, 30)]) σ0 (r.1)) := by
  unfold fX12_prefixed_r1_226
  exact zpc_if (fun _ => zpc_if (fun _ => fV_fX12_prefixed_r1_239 h) (fun _ => fV_fX12_prefixed_r1_243 h)) (fun _ => fV_fX12_prefixed_r1_243 h)
theorem fV_fX12_prefixed_r1_220 {σ0 : zSt} {σ : zSt} {x1 : Int32} {x3 : Int32} {x5 : Int32} {x6 : Int32} (h : (zQ [3, 5, 6, 7, 8, 9, 21, 22, 23, 24, 25, 26] [(0, 0, 0), (0, 31, 33), (0, 39, 49)] [4, 10, 11] [(0, 30, 30)]) σ0 σ) : zpc (fX12_prefixed_r1_220 σ x1 x3 x5 x6) (fun r => (zQ [3, 5, 6, 7, 8, 9, 21, 22, 23, 24, 25, 26] [(0, 0, 0), (0, 31, 33), (0, 39, 49)] [4, 10, 11] [(0, 30, 30)]) σ0 (r.1)) := by
  unfold fX12_prefixed_r1_220
  exact zpc_if (fun _ => fV_fX12_prefixed_r1_226 h) (fun _ => fV_fX12_prefixed_r1_239 h)
theorem fV_fX12_prefixed_r1_200 {σ0 : zSt} {σ : zSt} {x1 : Int32} {x3 : Int32} {x4 : Int32} {x5 : Int32} {x6 : Int32} (h : (zQ [3, 5, 6, 7, 8, 9, 21, 22, 23, 24, 25, 26] [(0, 0, 0), (0, 31, 33), (0, 39, 49)] [4, 10, 11] [(0, 30, 30)]) σ0 σ) : zpc (fX12_prefixed_r1_200 σ x1 x3 x4 x5 x6) (fun r => (zQ [3, 5, 6, 7, 8, 9, 21, 22, 23, 24, 25, 26] [(0, 0, 0), (0, 31, 33), (0, 39, 49)] [4, 10, 11] [(0, 30, 30)]) σ0 (r.1)) := by
  unfold fX12_prefixed_r1_200
  exact zpc_if (fun _ => zpc_if (fun _ => fV_fX12_prefixed_r1_220 h) (fun _ => zpc_if (fun _ => fV_fX12_prefixed_r1_220 h) (fun _ => fV_fX12_prefixed_r1_226 h))) (fun _ => fV_fX12_prefixed_r1_226 h)
theorem fV_fX12_prefixed_r1 {σ0 : zSt} {σ : zSt} {x1 : Int32} (h : (zQ [3, 5, 6, 7, 8, 9, 21, 22, 23, 24, 25, 26] [(0, 0, 0), (0, 31, 33), (0, 39, 49)] [4, 10, 11] [(0, 30, 30)]) σ0 σ) : zpc (fX12_prefixed_r1 σ x1) (fun r => (zQ [3, 5, 6, 7, 8, 9, 21, 22, 23, 24, 25, 26] [(0, 0, 0), (0, 31, 33), (0, 39, 49)] [4, 10, 11] [(0, 30, 30)]) σ0 (r.1)) := by
  unfold fX12_prefixed_r1
  exact zpc_ck (zpc_bi (fV_fX12_read h) (fun σ9 v10 hσ9 => zpc_if (fun _ => fV_fX12_prefixed_r1_33 hσ9) (fun _ => zpc_if (fun _ => fV_fX12_prefixed_r1_33 hσ9) (fun _ => zpc_if (fun _ => fV_fX12_prefixed_r1_33 hσ9) (fun _ => zpc_bi (fV_fX12_fetch hσ9) (fun σ11 v12 hσ11 => zpc_if (fun _ => zpc_ck (zpc_bi (fV_fX12_next hσ11) (fun σ16 v17 hσ16 => zpc_bi (fV_fX12_signed hσ16) (fun σ18 v19 hσ18 => zpc_ck (zpc_bs (zQ.wi hσ18 rfl) (fun σ20 hσ20 => zpc_ck (zpc_bs (zQ.wi hσ20 rfl) (fun σ21 hσ21 => zpc_bi (fV_fX12_next hσ21) (fun σ22 v23 hσ22 => zpc_bi (fV_fX12_turn hσ22) (fun σ24 v25 hσ24 => zpc_if (fun _ => fV_fX12_prefixed_r1_135 hσ24) (fun _ => zpc_if (fun _ => fV_fX12_prefixed_r1_135 hσ24) (fun _ => zpc_ck (zpc_bs (zQ.wi hσ24 rfl) (fun σ26 hσ26 => zpc_bu (fV_fX12_rTo hσ26) (fun σ27 hσ27 => fV_fX12_prefixed_r1_135 hσ27))))))))))))))) (fun _ => zpc_bv (fun v13 _ => zpc_bv (fun v14 _ => zpc_bv (fun v15 _ => zpc_if (fun _ => zpc_if (fun _ => fV_fX12_prefixed_r1_200 hσ11) (fun _ => zpc_if (fun _ => fV_fX12_prefixed_r1_200 hσ11) (fun _ => zpc_if (fun _ => fV_fX12_prefixed_r1_239 hσ11) (fun _ => fV_fX12_prefixed_r1_200 hσ11)))) (fun _ => fV_fX12_prefixed_r1_200 hσ11)))))))))))
theorem fV_fX12_more3_r1_119 {σ0 : zSt} {σ : zSt} {s0 : Int32} (h : (zQ [3, 5, 6, 7, 8, 9, 21, 22, 23, 24, 25, 26] [(0, 0, 0), (0, 31, 33), (0, 39, 49)] [4, 10, 11] [(0, 30, 30)]) σ0 σ) : zpc (fX12_more3_r1_119 σ s0) (fun r => (zQ [3, 5, 6, 7, 8, 9, 21, 22, 23, 24, 25, 26] [(0, 0, 0), (0, 31, 33), (0, 39, 49)] [4, 10, 11] [(0, 30, 30)]) σ0 (r.1)) := by
  unfold fX12_more3_r1_119
  exact zpc_bu (fV_fX12_push h) (fun σ1 hσ1 => zpc_some hσ1)
theorem fV_fX12_more3_r1_200 {σ0 : zSt} {σ : zSt} {s0 : Int32} (h : (zQ [3, 5, 6, 7, 8, 9, 21, 22, 23, 24, 25, 26] [(0, 0, 0), (0, 31, 33), (0, 39, 49)] [4, 10, 11] [(0, 30, 30)]) σ0 σ) : zpc (fX12_more3_r1_200 σ s0) (fun r => (zQ [3, 5, 6, 7, 8, 9, 21, 22, 23, 24, 25, 26] [(0, 0, 0), (0, 31, 33), (0, 39, 49)] [4, 10, 11] [(0, 30, 30)]) σ0 (r.1)) := by
  unfold fX12_more3_r1_200
  exact zpc_some h
theorem fV_fX12_more3_r1_197 {σ0 : zSt} {σ : zSt} {s0 : Int32} (h : (zQ [3, 5, 6, 7, 8, 9, 21, 22, 23, 24, 25, 26] [(0, 0, 0), (0, 31, 33), (0, 39, 49)] [4, 10, 11] [(0, 30, 30)]) σ0 σ) : zpc (fX12_more3_r1_197 σ s0) (fun r => (zQ [3, 5, 6, 7, 8, 9, 21, 22, 23, 24, 25, 26] [(0, 0, 0), (0, 31, 33), (0, 39, 49)] [4, 10, 11] [(0, 30, 30)]) σ0 (r.1)) := by
  unfold fX12_more3_r1_197
  exact zpc_bi (fV_fX12_prefixed_r1 h) (fun σ2 v3 hσ2 => fV_fX12_more3_r1_200 hσ2)
theorem fV_fX12_more3_r1 {σ0 : zSt} {σ : zSt} {x1 : Int32} {x2 : Int32} (h : (zQ [3, 5, 6, 7, 8, 9, 21, 22, 23, 24, 25, 26] [(0, 0, 0), (0, 31, 33), (0, 39, 49)] [4, 10, 11] [(0, 30, 30)]) σ0 σ) : zpc (fX12_more3_r1 σ x1 x2) (fun r => (zQ [3, 5, 6, 7, 8, 9, 21, 22, 23, 24, 25, 26] [(0, 0, 0), (0, 31, 33), (0, 39, 49)] [4, 10, 11] [(0, 30, 30)]) σ0 (r.1)) := by
  unfold fX12_more3_r1
  exact zpc_bv (fun v4 _ => zpc_if (fun _ => zpc_bi (fV_fX12_nextWord h) (fun σ22 v23 hσ22 => zpc_ck (zpc_bs (zQ.wi hσ22 rfl) (fun σ24 hσ24 => zpc_bi (fV_fX12_cc hσ24) (fun σ25 v26 hσ25 => zpc_if (fun _ => zpc_some hσ25) (fun _ => zpc_ck (zpc_bu (fV_fX12_push hσ25) (fun σ27 hσ27 => zpc_ck (zpc_ck (zpc_bs (zQ.wi hσ27 rfl) (fun σ28 hσ28 => zpc_some hσ28))))))))))) (fun _ => zpc_if (fun _ => zpc_bi (fV_fX12_next h) (fun σ19 v20 hσ19 => zpc_bu (fV_fX12_does hσ19) (fun σ21 hσ21 => zpc_some hσ21))) (fun _ => zpc_if (fun _ => zpc_bu (fV_fX12_call h) (fun σ18 hσ18 => zpc_some hσ18)) (fun _ => zpc_ck (zpc_if (fun _ => zpc_if (fun _ => zpc_bi (fV_fX12_pair h) (fun σ16 v17 hσ16 => fV_fX12_more3_r1_119 hσ16)) (fun _ => zpc_bi (fV_fX12_rp h) (fun σ14 v15 hσ14 => fV_fX12_more3_r1_119 hσ14))) (fun _ => zpc_if (fun _ => zpc_bi (fV_fX12_nextWord h) (fun σ9 v10 hσ9 => zpc_ck (zpc_bs (zQ.wi hσ9 rfl) (fun σ11 hσ11 => zpc_ck (zpc_bu (fV_fX12_push hσ11) (fun σ12 hσ12 => zpc_ck (zpc_ck (zpc_bs (zQ.wi hσ12 rfl) (fun σ13 hσ13 => zpc_some hσ13))))))))) (fun _ => zpc_if (fun _ => zpc_bi (fV_fX12_fetch h) (fun σ5 v6 hσ5 => zpc_bi (fV_fX12_more hσ5) (fun σ7 v8 hσ7 => fV_fX12_more3_r1_200 hσ7))) (fun _ => zpc_if (fun _ => fV_fX12_more3_r1_197 h) (fun _ => fV_fX12_more3_r1_197 h)))))))))
theorem fV_fX12_jump {σ0 : zSt} {σ : zSt} {x1 : Int32} (h : (zQ [3, 5, 6, 7, 8, 9, 21, 22, 23, 24, 25, 26] [(0, 0, 0), (0, 31, 33), (0, 39, 49)] [4, 10, 11] [(0, 30, 30)]) σ0 σ) : zpc (fX12_jump σ x1) (fun r => (zQ [3, 5, 6, 7, 8, 9, 21, 22, 23, 24, 25, 26] [(0, 0, 0), (0, 31, 33), (0, 39, 49)] [4, 10, 11] [(0, 30, 30)]) σ0 (r)) := by
  unfold fX12_jump
  exact zpc_ck (zpc_ck (zpc_bs (zQ.wi h rfl) (fun σ1 hσ1 => zpc_ck (zpc_ck (zpc_bs (zQ.wi hσ1 rfl) (fun σ2 hσ2 => zpc_some hσ2))))))
theorem fV_fX12_moves_85 {σ0 : zSt} {σ : zSt} (h : (zQ [3, 5, 6, 7, 8, 9, 21, 22, 23, 24, 25, 26] [(0, 0, 0), (0, 31, 33), (0, 39, 49)] [4, 10, 11] [(0, 30, 30)]) σ0 σ) : zpc (fX12_moves_85 σ) (fun r => (zQ [3, 5, 6, 7, 8, 9, 21, 22, 23, 24, 25, 26] [(0, 0, 0), (0, 31, 33), (0, 39, 49)] [4, 10, 11] [(0, 30, 30)]) σ0 (r.1)) := by
  unfold fX12_moves_85
  exact zpc_some h
theorem fV_fX12_moves_15 {σ0 : zSt} {σ : zSt} {x2 : Int32} {s0 : Int32} (h : (zQ [3, 5, 6, 7, 8, 9, 21, 22, 23, 24, 25, 26] [(0, 0, 0), (0, 31, 33), (0, 39, 49)] [4, 10, 11] [(0, 30, 30)]) σ0 σ) : zpc (fX12_moves_15 σ x2 s0) (fun r => (zQ [3, 5, 6, 7, 8, 9, 21, 22, 23, 24, 25, 26] [(0, 0, 0), (0, 31, 33), (0, 39, 49)] [4, 10, 11] [(0, 30, 30)]) σ0 (r.1)) := by
  unfold fX12_moves_15
  exact zpc_bi (fV_fX12_pair h) (fun σ1 v2 hσ1 => zpc_if (fun _ => zpc_ck (zpc_bu (fV_fX12_write hσ1) (fun σ3 hσ3 => zpc_ck (zpc_ck (zpc_bs (zQ.wi hσ3 rfl) (fun σ4 hσ4 => fV_fX12_moves_85 hσ4)))))) (fun _ => zpc_bi (fV_fX12_read hσ1) (fun σ5 v6 hσ5 => zpc_ck (zpc_bs (zQ.wi hσ5 rfl) (fun σ7 hσ7 => zpc_ck (zpc_bs (zQ.wi hσ7 rfl) (fun σ8 hσ8 => fV_fX12_moves_85 hσ8)))))))
theorem fV_fX12_moves_214 {σ0 : zSt} {σ : zSt} {s0 : Int32} (h : (zQ [3, 5, 6, 7, 8, 9, 21, 22, 23, 24, 25, 26] [(0, 0, 0), (0, 31, 33), (0, 39, 49)] [4, 10, 11] [(0, 30, 30)]) σ0 σ) : zpc (fX12_moves_214 σ s0) (fun r => (zQ [3, 5, 6, 7, 8, 9, 21, 22, 23, 24, 25, 26] [(0, 0, 0), (0, 31, 33), (0, 39, 49)] [4, 10, 11] [(0, 30, 30)]) σ0 (r.1)) := by
  unfold fX12_moves_214
  exact zpc_some h
theorem fV_fX12_moves_201 {σ0 : zSt} {σ : zSt} {x1 : Int32} {s0 : Int32} {s1 : Int32} (h : (zQ [3, 5, 6, 7, 8, 9, 21, 22, 23, 24, 25, 26] [(0, 0, 0), (0, 31, 33), (0, 39, 49)] [4, 10, 11] [(0, 30, 30)]) σ0 σ) : zpc (fX12_moves_201 σ x1 s0 s1) (fun r => (zQ [3, 5, 6, 7, 8, 9, 21, 22, 23, 24, 25, 26] [(0, 0, 0), (0, 31, 33), (0, 39, 49)] [4, 10, 11] [(0, 30, 30)]) σ0 (r.1)) := by
  unfold fX12_moves_201
  exact zpc_ck (zpc_bs (zQ.wi h rfl) (fun σ9 hσ9 => zpc_if (fun _ => fV_fX12_moves_214 hσ9) (fun _ => fV_fX12_moves_214 hσ9)))
theorem fV_fX12_moves_195 {σ0 : zSt} {σ : zSt} {x1 : Int32} {x3 : Int32} {s0 : Int32} (h : (zQ [3, 5, 6, 7, 8, 9, 21, 22, 23, 24, 25, 26] [(0, 0, 0), (0, 31, 33), (0, 39, 49)] [4, 10, 11] [(0, 30, 30)]) σ0 σ) : zpc (fX12_moves_195 σ x1 x3 s0) (fun r => (zQ [3, 5, 6, 7, 8, 9, 21, 22, 23, 24, 25, 26] [(0, 0, 0), (0, 31, 33), (0, 39, 49)] [4, 10, 11] [(0, 30, 30)]) σ0 (r.1)) := by
  unfold fX12_moves_195
  exact fV_fX12_moves_201 h
theorem fV_fX12_moves_160 {σ0 : zSt} {σ : zSt} {x1 : Int32} {x2 : Int32} {x3 : Int32} (h : (zQ [3, 5, 6, 7, 8, 9, 21, 22, 23, 24, 25, 26] [(0, 0, 0), (0, 31, 33), (0, 39, 49)] [4, 10, 11] [(0, 30, 30)]) σ0 σ) : zpc (fX12_moves_160 σ x1 x2 x3) (fun r => (zQ [3, 5, 6, 7, 8, 9, 21, 22, 23, 24, 25, 26] [(0, 0, 0), (0, 31, 33), (0, 39, 49)] [4, 10, 11] [(0, 30, 30)]) σ0 (r.1)) := by
  unfold fX12_moves_160
  exact zpc_if (fun _ => zpc_if (fun _ => zpc_ck (fV_fX12_moves_201 h)) (fun _ => fV_fX12_moves_195 h)) (fun _ => fV_fX12_moves_195 h)
theorem fV_fX12_moves_114 {σ0 : zSt} {σ : zSt} {x1 : Int32} {x2 : Int32} {x3 : Int32} (h : (zQ [3, 5, 6, 7, 8, 9, 21, 22, 23, 24, 25, 26] [(0, 0, 0), (0, 31, 33), (0, 39, 49)] [4, 10, 11] [(0, 30, 30)]) σ0 σ) : zpc (fX12_moves_114 σ x1 x2 x3) (fun r => (zQ [3, 5, 6, 7, 8, 9, 21, 22, 23, 24, 25, 26] [(0, 0, 0), (0, 31, 33), (0, 39, 49)] [4, 10, 11] [(0, 30, 30)]) σ0 (r.1)) := by
  unfold fX12_moves_114
  exact zpc_if (fun _ => zpc_bi (fV_fX12_hl h) (fun σ14 v15 hσ14 => zpc_bu (fV_fX12_wordTo hσ14) (fun σ16 hσ16 => fV_fX12_moves_160 hσ16))) (fun _ => zpc_if (fun _ => zpc_ck (zpc_bu (fV_fX12_write h) (fun σ10 hσ10 => fV_fX12_moves_160 hσ10))) (fun _ => zpc_bi (fV_fX12_read h) (fun σ11 v12 hσ11 => zpc_ck (zpc_bs (zQ.wi hσ11 rfl) (fun σ13 hσ13 => fV_fX12_moves_160 hσ13)))))
theorem fV_fX12_moves {σ0 : zSt} {σ : zSt} {x1 : Int32} {x2 : Int32} (h : (zQ [3, 5, 6, 7, 8, 9, 21, 22, 23, 24, 25, 26] [(0, 0, 0), (0, 31, 33), (0, 39, 49)] [4, 10, 11] [(0, 30, 30)]) σ0 σ) : zpc (fX12_moves σ x1 x2) (fun r => (zQ [3, 5, 6, 7, 8, 9, 21, 22, 23, 24, 25, 26] [(0, 0, 0), (0, 31, 33), (0, 39, 49)] [4, 10, 11] [(0, 30, 30)]) σ0 (r.1)) := by
  unfold fX12_moves
  exact zpc_if (fun _ => zpc_bi (fV_fX12_nextWord h) (fun σ17 v18 hσ17 => zpc_if (fun _ => zpc_if (fun _ => fV_fX12_moves_114 hσ17) (fun _ => zpc_bi (fV_fX12_word hσ17) (fun σ19 v20 hσ19 => zpc_bu (fV_fX12_hlTo hσ19) (fun σ21 hσ21 => fV_fX12_moves_160 hσ21)))) (fun _ => fV_fX12_moves_114 hσ17))) (fun _ => zpc_if (fun _ => fV_fX12_moves_15 h) (fun _ => fV_fX12_moves_15 h))
theorem fV_fX12_zero_154 {σ0 : zSt} {σ : zSt} {s0 : Int32} (h : (zQ [3, 5, 6, 7, 8, 9, 21, 22, 23, 24, 25, 26] [(0, 0, 0), (0, 31, 33), (0, 39, 49)] [4, 10, 11] [(0, 30, 30)]) σ0 σ) : zpc (fX12_zero_154 σ s0) (fun r => (zQ [3, 5, 6, 7, 8, 9, 21, 22, 23, 24, 25, 26] [(0, 0, 0), (0, 31, 33), (0, 39, 49)] [4, 10, 11] [(0, 30, 30)]) σ0 (r.1)) := by
  unfold fX12_zero_154
  exact zpc_some h
theorem fV_fX12_zero_122 {σ0 : zSt} {σ : zSt} {x1 : Int32} {x5 : Int32} (h : (zQ [3, 5, 6, 7, 8, 9, 21, 22, 23, 24, 25, 26] [(0, 0, 0), (0, 31, 33), (0, 39, 49)] [4, 10, 11] [(0, 30, 30)]) σ0 σ) : zpc (fX12_zero_122 σ x1 x5) (fun r => (zQ [3, 5, 6, 7, 8, 9, 21, 22, 23, 24, 25, 26] [(0, 0, 0), (0, 31, 33), (0, 39, 49)] [4, 10, 11] [(0, 30, 30)]) σ0 (r.1)) := by
  unfold fX12_zero_122
  exact zpc_if (fun _ => zpc_if (fun _ => fV_fX12_zero_154 h) (fun _ => fV_fX12_zero_154 h)) (fun _ => zpc_if (fun _ => fV_fX12_zero_154 h) (fun _ => fV_fX12_zero_154 h))
theorem fV_fX12_zero_109 {σ0 : zSt} {σ : zSt} {x1 : Int32} {x4 : Int32} {s0 : Int32} (h : (zQ [3, 5, 6, 7, 8, 9, 21, 22, 23, 24, 25, 26] [(0, 0, 0), (0, 31, 33), (0, 39, 49)] [4, 10, 11] [(0, 30, 30)]) σ0 σ) : zpc (fX12_zero_109 σ x1 x4 s0) (fun r => (zQ [3, 5, 6, 7, 8, 9, 21, 22, 23, 24, 25, 26] [(0, 0, 0), (0, 31, 33), (0, 39, 49)] [4, 10, 11] [(0, 30, 30)]) σ0 (r.1)) := by
  unfold fX12_zero_109
  exact zpc_if (fun _ => fV_fX12_zero_122 h) (fun _ => zpc_bu (fV_fX12_jump h) (fun σ1 hσ1 => fV_fX12_zero_122 hσ1))
theorem fV_fX12_zero_104 {σ0 : zSt} {σ : zSt} {x1 : Int32} {x4 : Int32} (h : (zQ [3, 5, 6, 7, 8, 9, 21, 22, 23, 24, 25, 26] [(0, 0, 0), (0, 31, 33), (0, 39, 49)] [4, 10, 11] [(0, 30, 30)]) σ0 σ) : zpc (fX12_zero_104 σ x1 x4) (fun r => (zQ [3, 5, 6, 7, 8, 9, 21, 22, 23, 24, 25, 26] [(0, 0, 0), (0, 31, 33), (0, 39, 49)] [4, 10, 11] [(0, 30, 30)]) σ0 (r.1)) := by
  unfold fX12_zero_104
  exact fV_fX12_zero_109 h
theorem fV_fX12_zero_67 {σ0 : zSt} {σ : zSt} {x1 : Int32} {x4 : Int32} (h : (zQ [3, 5, 6, 7, 8, 9, 21, 22, 23, 24, 25, 26] [(0, 0, 0), (0, 31, 33), (0, 39, 49)] [4, 10, 11] [(0, 30, 30)]) σ0 σ) : zpc (fX12_zero_67 σ x1 x4) (fun r => (zQ [3, 5, 6, 7, 8, 9, 21, 22, 23, 24, 25, 26] [(0, 0, 0), (0, 31, 33), (0, 39, 49)] [4, 10, 11] [(0, 30, 30)]) σ0 (r.1)) := by
  unfold fX12_zero_67
  exact zpc_if (fun _ => zpc_ck (zpc_if (fun _ => fV_fX12_zero_109 h) (fun _ => fV_fX12_zero_109 h))) (fun _ => zpc_if (fun _ => fV_fX12_zero_104 h) (fun _ => zpc_bi (fV_fX12_cc h) (fun σ2 v3 hσ2 => zpc_if (fun _ => fV_fX12_zero_109 hσ2) (fun _ => fV_fX12_zero_104 hσ2))))
theorem fV_fX12_zero_266 {σ0 : zSt} {σ : zSt} {x6 : Int32} {s0 : Int32} {s1 : Int32} (h : (zQ [3, 5, 6, 7, 8, 9, 21, 22, 23, 24, 25, 26] [(0, 0, 0), (0, 31, 33), (0, 39, 49)] [4, 10, 11] [(0, 30, 30)]) σ0 σ) : zpc (fX12_zero_266 σ x6 s0 s1) (fun r => (zQ [3, 5, 6, 7, 8, 9, 21, 22, 23, 24, 25, 26] [(0, 0, 0), (0, 31, 33), (0, 39, 49)] [4, 10, 11] [(0, 30, 30)]) σ0 (r.1)) := by
  unfold fX12_zero_266
  exact zpc_bu (fV_fX12_put h) (fun σ4 hσ4 => zpc_bu (fV_fX12_put hσ4) (fun σ5 hσ5 => zpc_bu (fV_fX12_xy hσ5) (fun σ6 hσ6 => zpc_some hσ6)))
theorem fV_fX12_zero_249 {σ0 : zSt} {σ : zSt} {x6 : Int32} {s0 : Int32} {s1 : Int32} (h : (zQ [3, 5, 6, 7, 8, 9, 21, 22, 23, 24, 25, 26] [(0, 0, 0), (0, 31, 33), (0, 39, 49)] [4, 10, 11] [(0, 30, 30)]) σ0 σ) : zpc (fX12_zero_249 σ x6 s0 s1) (fun r => (zQ [3, 5, 6, 7, 8, 9, 21, 22, 23, 24, 25, 26] [(0, 0, 0), (0, 31, 33), (0, 39, 49)] [4, 10, 11] [(0, 30, 30)]) σ0 (r.1)) := by
  unfold fX12_zero_249
  exact zpc_bu (fV_fX12_put h) (fun σ7 hσ7 => zpc_if (fun _ => fV_fX12_zero_266 hσ7) (fun _ => fV_fX12_zero_266 hσ7))
theorem fV_fX12_zero_306 {σ0 : zSt} {σ : zSt} {s0 : Int32} {s1 : Int32} (h : (zQ [3, 5, 6, 7, 8, 9, 21, 22, 23, 24, 25, 26] [(0, 0, 0), (0, 31, 33), (0, 39, 49)] [4, 10, 11] [(0, 30, 30)]) σ0 σ) : zpc (fX12_zero_306 σ s0 s1) (fun r => (zQ [3, 5, 6, 7, 8, 9, 21, 22, 23, 24, 25, 26] [(0, 0, 0), (0, 31, 33), (0, 39, 49)] [4, 10, 11] [(0, 30, 30)]) σ0 (r.1)) := by
  unfold fX12_zero_306
  exact zpc_bi (fV_fX12_moves h) (fun σ8 v9 hσ8 => zpc_some hσ8)
theorem fV_fX12_zero_328 {σ0 : zSt} {σ : zSt} {s0 : Int32} {s1 : Int32} {s2 : Int32} (h : (zQ [3, 5, 6, 7, 8, 9, 21, 22, 23, 24, 25, 26] [(0, 0, 0), (0, 31, 33), (0, 39, 49)] [4, 10, 11] [(0, 30, 30)]) σ0 σ) : zpc (fX12_zero_328 σ s0 s1 s2) (fun r => (zQ [3, 5, 6, 7, 8, 9, 21, 22, 23, 24, 25, 26] [(0, 0, 0), (0, 31, 33), (0, 39, 49)] [4, 10, 11] [(0, 30, 30)]) σ0 (r.1)) := by
  unfold fX12_zero_328
  exact zpc_bu (fV_fX12_rpTo h) (fun σ10 hσ10 => zpc_some hσ10)
theorem fV_fX12_zero_178 {σ0 : zSt} {σ : zSt} {x1 : Int32} {x2 : Int32} {x3 : Int32} (h : (zQ [3, 5, 6, 7, 8, 9, 21, 22, 23, 24, 25, 26] [(0, 0, 0), (0, 31, 33), (0, 39, 49)] [4, 10, 11] [(0, 30, 30)]) σ0 σ) : zpc (fX12_zero_178 σ x1 x2 x3) (fun r => (zQ [3, 5, 6, 7, 8, 9, 21, 22, 23, 24, 25, 26] [(0, 0, 0), (0, 31, 33), (0, 39, 49)] [4, 10, 11] [(0, 30, 30)]) σ0 (r.1)) := by
  unfold fX12_zero_178
  exact zpc_if (fun _ => zpc_bi (fV_fX12_hl h) (fun σ13 v14 hσ13 => zpc_bi (fV_fX12_rp hσ13) (fun σ15 v16 hσ15 => zpc_ck (zpc_bs (zQ.wi hσ15 rfl) (fun σ17 hσ17 => zpc_bv (fun v18 _ => zpc_bu (fV_fX12_hlTo hσ17) (fun σ19 hσ19 => zpc_if (fun _ => fV_fX12_zero_249 hσ19) (fun _ => fV_fX12_zero_249 hσ19)))))))) (fun _ => zpc_if (fun _ => zpc_ck (zpc_if (fun _ => fV_fX12_zero_306 h) (fun _ => fV_fX12_zero_306 h))) (fun _ => zpc_bi (fV_fX12_rp h) (fun σ11 v12 hσ11 => zpc_ck (zpc_if (fun _ => fV_fX12_zero_328 hσ11) (fun _ => fV_fX12_zero_328 hσ11)))))
theorem fV_fX12_zero {σ0 : zSt} {σ : zSt} {x1 : Int32} {x2 : Int32} (h : (zQ [3, 5, 6, 7, 8, 9, 21, 22, 23, 24, 25, 26] [(0, 0, 0), (0, 31, 33), (0, 39, 49)] [4, 10, 11] [(0, 30, 30)]) σ0 σ) : zpc (fX12_zero σ x1 x2) (fun r => (zQ [3, 5, 6, 7, 8, 9, 21, 22, 23, 24, 25, 26] [(0, 0, 0), (0, 31, 33), (0, 39, 49)] [4, 10, 11] [(0, 30, 30)]) σ0 (r.1)) := by
  unfold fX12_zero
  exact zpc_bv (fun v20 _ => zpc_if (fun _ => zpc_if (fun _ => zpc_some h) (fun _ => zpc_if (fun _ => zpc_bu (fV_fX12_change h) (fun σ29 hσ29 => zpc_bu (fV_fX12_change hσ29) (fun σ30 hσ30 => zpc_some hσ30))) (fun _ => zpc_bi (fV_fX12_next h) (fun σ24 v25 hσ24 => zpc_bi (fV_fX12_signed hσ24) (fun σ26 v27 hσ26 => zpc_if (fun _ => zpc_ck (zpc_ck (zpc_bs (zQ.wi hσ26 rfl) (fun σ28 hσ28 => fV_fX12_zero_67 hσ28)))) (fun _ => fV_fX12_zero_67 hσ26)))))) (fun _ => zpc_if (fun _ => zpc_ck (zpc_if (fun _ => zpc_bi (fV_fX12_nextWord h) (fun σ21 v22 hσ21 => zpc_bu (fV_fX12_rpTo hσ21) (fun σ23 hσ23 => zpc_some hσ23))) (fun _ => fV_fX12_zero_178 h))) (fun _ => fV_fX12_zero_178 h)))
theorem fV_fX12_adjusts_130 {σ0 : zSt} {σ : zSt} {s0 : Int32} {s1 : Int32} (h : (zQ [3, 5, 6, 7, 8, 9, 21, 22, 23, 24, 25, 26] [(0, 0, 0), (0, 31, 33), (0, 39, 49)] [4, 10, 11] [(0, 30, 30)]) σ0 σ) : zpc (fX12_adjusts_130 σ s0 s1) (fun r => (zQ [3, 5, 6, 7, 8, 9, 21, 22, 23, 24, 25, 26] [(0, 0, 0), (0, 31, 33), (0, 39, 49)] [4, 10, 11] [(0, 30, 30)]) σ0 (r)) := by
  unfold fX12_adjusts_130
  exact zpc_ck (zpc_bs (zQ.wi h rfl) (fun σ1 hσ1 => zpc_ck (zpc_bu (fV_fX12_by hσ1) (fun σ2 hσ2 => zpc_ck (zpc_bi (fV_fX12_isEven hσ2) (fun σ3 v4 hσ3 => zpc_bu (fV_fX12_put hσ3) (fun σ5 hσ5 => zpc_some hσ5)))))))
theorem fV_fX12_adjusts_105 {σ0 : zSt} {σ : zSt} {x1 : Int32} {x2 : Int32} {s0 : Int32} {s1 : Int32} (h : (zQ [3, 5, 6, 7, 8, 9, 21, 22, 23, 24, 25, 26] [(0, 0, 0), (0, 31, 33), (0, 39, 49)] [4, 10, 11] [(0, 30, 30)]) σ0 σ) : zpc (fX12_adjusts_105 σ x1 x2 s0 s1) (fun r => (zQ [3, 5, 6, 7, 8, 9, 21, 22, 23, 24, 25, 26] [(0, 0, 0), (0, 31, 33), (0, 39, 49)] [4, 10, 11] [(0, 30, 30)]) σ0 (r)) := by
  unfold fX12_adjusts_105
  exact zpc_bu (fV_fX12_put h) (fun σ6 hσ6 => zpc_bi (fV_fX12_flag hσ6) (fun σ7 v8 hσ7 => zpc_if (fun _ => fV_fX12_adjusts_130 hσ7) (fun _ => fV_fX12_adjusts_130 hσ7)))
theorem fV_fX12_adjusts_104 {σ0 : zSt} {σ : zSt} {x1 : Int32} {x2 : Int32} {s0 : Int32} (h : (zQ [3, 5, 6, 7, 8, 9, 21, 22, 23, 24, 25, 26] [(0, 0, 0), (0, 31, 33), (0, 39, 49)] [4, 10, 11] [(0, 30, 30)]) σ0 σ) : zpc (fX12_adjusts_104 σ x1 x2 s0) (fun r => (zQ [3, 5, 6, 7, 8, 9, 21, 22, 23, 24, 25, 26] [(0, 0, 0), (0, 31, 33), (0, 39, 49)] [4, 10, 11] [(0, 30, 30)]) σ0 (r)) := by
  unfold fX12_adjusts_104
  exact fV_fX12_adjusts_105 h
theorem fV_fX12_adjusts_55 {σ0 : zSt} {σ : zSt} {x1 : Int32} {x2 : Int32} (h : (zQ [3, 5, 6, 7, 8, 9, 21, 22, 23, 24, 25, 26] [(0, 0, 0), (0, 31, 33), (0, 39, 49)] [4, 10, 11] [(0, 30, 30)]) σ0 σ) : zpc (fX12_adjusts_55 σ x1 x2) (fun r => (zQ [3, 5, 6, 7, 8, 9, 21, 22, 23, 24, 25, 26] [(0, 0, 0), (0, 31, 33), (0, 39, 49)] [4, 10, 11] [(0, 30, 30)]) σ0 (r)) := by
  unfold fX12_adjusts_55
  exact zpc_bi (fV_fX12_flag h) (fun σ9 v10 hσ9 => zpc_if (fun _ => zpc_if (fun _ => fV_fX12_adjusts_105 hσ9) (fun _ => fV_fX12_adjusts_105 hσ9)) (fun _ => zpc_bi (fV_fX12_flag hσ9) (fun σ11 v12 hσ11 => zpc_if (fun _ => zpc_if (fun _ => fV_fX12_adjusts_104 hσ11) (fun _ => fV_fX12_adjusts_105 hσ11)) (fun _ => fV_fX12_adjusts_104 hσ11))))
theorem fV_fX12_adjusts_46 {σ0 : zSt} {σ : zSt} {x1 : Int32} {x2 : Int32} (h : (zQ [3, 5, 6, 7, 8, 9, 21, 22, 23, 24, 25, 26] [(0, 0, 0), (0, 31, 33), (0, 39, 49)] [4, 10, 11] [(0, 30, 30)]) σ0 σ) : zpc (fX12_adjusts_46 σ x1 x2) (fun r => (zQ [3, 5, 6, 7, 8, 9, 21, 22, 23, 24, 25, 26] [(0, 0, 0), (0, 31, 33), (0, 39, 49)] [4, 10, 11] [(0, 30, 30)]) σ0 (r)) := by
  unfold fX12_adjusts_46
  exact zpc_bv (fun v13 _ => zpc_bu (fV_fX12_put h) (fun σ14 hσ14 => fV_fX12_adjusts_55 hσ14))
theorem fV_fX12_adjusts_30 {σ0 : zSt} {σ : zSt} {x1 : Int32} {x2 : Int32} (h : (zQ [3, 5, 6, 7, 8, 9, 21, 22, 23, 24, 25, 26] [(0, 0, 0), (0, 31, 33), (0, 39, 49)] [4, 10, 11] [(0, 30, 30)]) σ0 σ) : zpc (fX12_adjusts_30 σ x1 x2) (fun r => (zQ [3, 5, 6, 7, 8, 9, 21, 22, 23, 24, 25, 26] [(0, 0, 0), (0, 31, 33), (0, 39, 49)] [4, 10, 11] [(0, 30, 30)]) σ0 (r)) := by
  unfold fX12_adjusts_30
  exact zpc_if (fun _ => fV_fX12_adjusts_46 h) (fun _ => zpc_bi (fV_fX12_flag h) (fun σ15 v16 hσ15 => zpc_if (fun _ => fV_fX12_adjusts_46 hσ15) (fun _ => fV_fX12_adjusts_55 hσ15)))
theorem fV_fX12_adjusts_27 {σ0 : zSt} {σ : zSt} {x1 : Int32} {x2 : Int32} (h : (zQ [3, 5, 6, 7, 8, 9, 21, 22, 23, 24, 25, 26] [(0, 0, 0), (0, 31, 33), (0, 39, 49)] [4, 10, 11] [(0, 30, 30)]) σ0 σ) : zpc (fX12_adjusts_27 σ x1 x2) (fun r => (zQ [3, 5, 6, 7, 8, 9, 21, 22, 23, 24, 25, 26] [(0, 0, 0), (0, 31, 33), (0, 39, 49)] [4, 10, 11] [(0, 30, 30)]) σ0 (r)) := by
  unfold fX12_adjusts_27
  exact zpc_bv (fun v17 _ => fV_fX12_adjusts_30 h)
theorem fV_fX12_adjusts {σ0 : zSt} {σ : zSt} (h : (zQ [3, 5, 6, 7, 8, 9, 21, 22, 23, 24, 25, 26] [(0, 0, 0), (0, 31, 33), (0, 39, 49)] [4, 10, 11] [(0, 30, 30)]) σ0 σ) : zpc (fX12_adjusts σ) (fun r => (zQ [3, 5, 6, 7, 8, 9, 21, 22, 23, 24, 25, 26] [(0, 0, 0), (0, 31, 33), (0, 39, 49)] [4, 10, 11] [(0, 30, 30)]) σ0 (r)) := by
  unfold fX12_adjusts
  exact zpc_ck (zpc_bv (fun v18 _ => zpc_if (fun _ => fV_fX12_adjusts_27 h) (fun _ => zpc_bi (fV_fX12_flag h) (fun σ19 v20 hσ19 => zpc_if (fun _ => fV_fX12_adjusts_27 hσ19) (fun _ => fV_fX12_adjusts_30 hσ19)))))
theorem fV_fX12_singles_28 {σ0 : zSt} {σ : zSt} {s0 : Int32} (h : (zQ [3, 5, 6, 7, 8, 9, 21, 22, 23, 24, 25, 26] [(0, 0, 0), (0, 31, 33), (0, 39, 49)] [4, 10, 11] [(0, 30, 30)]) σ0 σ) : zpc (fX12_singles_28 σ s0) (fun r => (zQ [3, 5, 6, 7, 8, 9, 21, 22, 23, 24, 25, 26] [(0, 0, 0), (0, 31, 33), (0, 39, 49)] [4, 10, 11] [(0, 30, 30)]) σ0 (r.1)) := by
  unfold fX12_singles_28
  exact zpc_some h
theorem fV_fX12_singles_149 {σ0 : zSt} {σ : zSt} {s0 : Int32} (h : (zQ [3, 5, 6, 7, 8, 9, 21, 22, 23, 24, 25, 26] [(0, 0, 0), (0, 31, 33), (0, 39, 49)] [4, 10, 11] [(0, 30, 30)]) σ0 σ) : zpc (fX12_singles_149 σ s0) (fun r => (zQ [3, 5, 6, 7, 8, 9, 21, 22, 23, 24, 25, 26] [(0, 0, 0), (0, 31, 33), (0, 39, 49)] [4, 10, 11] [(0, 30, 30)]) σ0 (r.1)) := by
  unfold fX12_singles_149
  exact zpc_some h
theorem fV_fX12_singles_134 {σ0 : zSt} {σ : zSt} {x1 : Int32} {s0 : Int32} {s1 : Int32} (h : (zQ [3, 5, 6, 7, 8, 9, 21, 22, 23, 24, 25, 26] [(0, 0, 0), (0, 31, 33), (0, 39, 49)] [4, 10, 11] [(0, 30, 30)]) σ0 σ) : zpc (fX12_singles_134 σ x1 s0 s1) (fun r => (zQ [3, 5, 6, 7, 8, 9, 21, 22, 23, 24, 25, 26] [(0, 0, 0), (0, 31, 33), (0, 39, 49)] [4, 10, 11] [(0, 30, 30)]) σ0 (r.1)) := by
  unfold fX12_singles_134
  exact zpc_bu (fV_fX12_put h) (fun σ1 hσ1 => zpc_if (fun _ => fV_fX12_singles_149 hσ1) (fun _ => fV_fX12_singles_149 hσ1))
theorem fV_fX12_singles_119 {σ0 : zSt} {σ : zSt} {x1 : Int32} {x2 : Int32} {s0 : Int32} {s1 : Int32} (h : (zQ [3, 5, 6, 7, 8, 9, 21, 22, 23, 24, 25, 26] [(0, 0, 0), (0, 31, 33), (0, 39, 49)] [4, 10, 11] [(0, 30, 30)]) σ0 σ) : zpc (fX12_singles_119 σ x1 x2 s0 s1) (fun r => (zQ [3, 5, 6, 7, 8, 9, 21, 22, 23, 24, 25, 26] [(0, 0, 0), (0, 31, 33), (0, 39, 49)] [4, 10, 11] [(0, 30, 30)]) σ0 (r.1)) := by
  unfold fX12_singles_119
  exact zpc_bu (fV_fX12_put h) (fun σ2 hσ2 => zpc_if (fun _ => fV_fX12_singles_134 hσ2) (fun _ => fV_fX12_singles_134 hσ2))
theorem fV_fX12_singles_111 {σ0 : zSt} {σ : zSt} {x1 : Int32} {x2 : Int32} {s0 : Int32} {s1 : Int32} {s2 : Int32} (h : (zQ [3, 5, 6, 7, 8, 9, 21, 22, 23, 24, 25, 26] [(0, 0, 0), (0, 31, 33), (0, 39, 49)] [4, 10, 11] [(0, 30, 30)]) σ0 σ) : zpc (fX12_singles_111 σ x1 x2 s0 s1 s2) (fun r => (zQ [3, 5, 6, 7, 8, 9, 21, 22, 23, 24, 25, 26] [(0, 0, 0), (0, 31, 33), (0, 39, 49)] [4, 10, 11] [(0, 30, 30)]) σ0 (r.1)) := by
  unfold fX12_singles_111
  exact zpc_if (fun _ => fV_fX12_singles_119 h) (fun _ => fV_fX12_singles_119 h)
theorem fV_fX12_singles_92 {σ0 : zSt} {σ : zSt} {x1 : Int32} {x2 : Int32} {x3 : Int32} {s0 : Int32} {s1 : Int32} (h : (zQ [3, 5, 6, 7, 8, 9, 21, 22, 23, 24, 25, 26] [(0, 0, 0), (0, 31, 33), (0, 39, 49)] [4, 10, 11] [(0, 30, 30)]) σ0 σ) : zpc (fX12_singles_92 σ x1 x2 x3 s0 s1) (fun r => (zQ [3, 5, 6, 7, 8, 9, 21, 22, 23, 24, 25, 26] [(0, 0, 0), (0, 31, 33), (0, 39, 49)] [4, 10, 11] [(0, 30, 30)]) σ0 (r.1)) := by
  unfold fX12_singles_92
  exact zpc_bu (fV_fX12_put h) (fun σ3 hσ3 => zpc_if (fun _ => fV_fX12_singles_111 hσ3) (fun _ => fV_fX12_singles_111 hσ3))
theorem fV_fX12_singles_84 {σ0 : zSt} {σ : zSt} {x1 : Int32} {x2 : Int32} {x3 : Int32} {s0 : Int32} {s1 : Int32} {s2 : Int32} (h : (zQ [3, 5, 6, 7, 8, 9, 21, 22, 23, 24, 25, 26] [(0, 0, 0), (0, 31, 33), (0, 39, 49)] [4, 10, 11] [(0, 30, 30)]) σ0 σ) : zpc (fX12_singles_84 σ x1 x2 x3 s0 s1 s2) (fun r => (zQ [3, 5, 6, 7, 8, 9, 21, 22, 23, 24, 25, 26] [(0, 0, 0), (0, 31, 33), (0, 39, 49)] [4, 10, 11] [(0, 30, 30)]) σ0 (r.1)) := by
  unfold fX12_singles_84
  exact zpc_if (fun _ => fV_fX12_singles_92 h) (fun _ => fV_fX12_singles_92 h)
theorem fV_fX12_singles_50 {σ0 : zSt} {σ : zSt} {x1 : Int32} {x2 : Int32} {s0 : Int32} {s1 : Int32} (h : (zQ [3, 5, 6, 7, 8, 9, 21, 22, 23, 24, 25, 26] [(0, 0, 0), (0, 31, 33), (0, 39, 49)] [4, 10, 11] [(0, 30, 30)]) σ0 σ) : zpc (fX12_singles_50 σ x1 x2 s0 s1) (fun r => (zQ [3, 5, 6, 7, 8, 9, 21, 22, 23, 24, 25, 26] [(0, 0, 0), (0, 31, 33), (0, 39, 49)] [4, 10, 11] [(0, 30, 30)]) σ0 (r.1)) := by
  unfold fX12_singles_50
  exact zpc_bv (fun v4 _ => zpc_bu (fV_fX12_rTo h) (fun σ5 hσ5 => zpc_bu (fV_fX12_by hσ5) (fun σ6 hσ6 => zpc_if (fun _ => fV_fX12_singles_84 hσ6) (fun _ => fV_fX12_singles_84 hσ6))))
theorem fV_fX12_singles_316 {σ0 : zSt} {σ : zSt} (h : (zQ [3, 5, 6, 7, 8, 9, 21, 22, 23, 24, 25, 26] [(0, 0, 0), (0, 31, 33), (0, 39, 49)] [4, 10, 11] [(0, 30, 30)]) σ0 σ) : zpc (fX12_singles_316 σ) (fun r => (zQ [3, 5, 6, 7, 8, 9, 21, 22, 23, 24, 25, 26] [(0, 0, 0), (0, 31, 33), (0, 39, 49)] [4, 10, 11] [(0, 30, 30)]) σ0 (r.1)) := by
  unfold fX12_singles_316
  exact zpc_some h
theorem fV_fX12_singles_297 {σ0 : zSt} {σ : zSt} {s0 : Int32} {s1 : Int32} (h : (zQ [3, 5, 6, 7, 8, 9, 21, 22, 23, 24, 25, 26] [(0, 0, 0), (0, 31, 33), (0, 39, 49)] [4, 10, 11] [(0, 30, 30)]) σ0 σ) : zpc (fX12_singles_297 σ s0 s1) (fun r => (zQ [3, 5, 6, 7, 8, 9, 21, 22, 23, 24, 25, 26] [(0, 0, 0), (0, 31, 33), (0, 39, 49)] [4, 10, 11] [(0, 30, 30)]) σ0 (r.1)) := by
  unfold fX12_singles_297
  exact zpc_bu (fV_fX12_put h) (fun σ7 hσ7 => zpc_bu (fV_fX12_put hσ7) (fun σ8 hσ8 => zpc_ck (zpc_bu (fV_fX12_xy hσ8) (fun σ9 hσ9 => fV_fX12_singles_316 hσ9))))
theorem fV_fX12_singles_292 {σ0 : zSt} {σ : zSt} {s0 : Int32} (h : (zQ [3, 5, 6, 7, 8, 9, 21, 22, 23, 24, 25, 26] [(0, 0, 0), (0, 31, 33), (0, 39, 49)] [4, 10, 11] [(0, 30, 30)]) σ0 σ) : zpc (fX12_singles_292 σ s0) (fun r => (zQ [3, 5, 6, 7, 8, 9, 21, 22, 23, 24, 25, 26] [(0, 0, 0), (0, 31, 33), (0, 39, 49)] [4, 10, 11] [(0, 30, 30)]) σ0 (r.1)) := by
  unfold fX12_singles_292
  exact fV_fX12_singles_297 h
theorem fV_fX12_singles_273 {σ0 : zSt} {σ : zSt} {x1 : Int32} {s0 : Int32} {s1 : Int32} (h : (zQ [3, 5, 6, 7, 8, 9, 21, 22, 23, 24, 25, 26] [(0, 0, 0), (0, 31, 33), (0, 39, 49)] [4, 10, 11] [(0, 30, 30)]) σ0 σ) : zpc (fX12_singles_273 σ x1 s0 s1) (fun r => (zQ [3, 5, 6, 7, 8, 9, 21, 22, 23, 24, 25, 26] [(0, 0, 0), (0, 31, 33), (0, 39, 49)] [4, 10, 11] [(0, 30, 30)]) σ0 (r.1)) := by
  unfold fX12_singles_273
  exact zpc_bu (fV_fX12_put h) (fun σ10 hσ10 => zpc_if (fun _ => fV_fX12_singles_292 hσ10) (fun _ => zpc_bi (fV_fX12_flag hσ10) (fun σ11 v12 hσ11 => zpc_if (fun _ => fV_fX12_singles_292 hσ11) (fun _ => fV_fX12_singles_297 hσ11))))
theorem fV_fX12_singles_272 {σ0 : zSt} {σ : zSt} {x1 : Int32} {s0 : Int32} (h : (zQ [3, 5, 6, 7, 8, 9, 21, 22, 23, 24, 25, 26] [(0, 0, 0), (0, 31, 33), (0, 39, 49)] [4, 10, 11] [(0, 30, 30)]) σ0 σ) : zpc (fX12_singles_272 σ x1 s0) (fun r => (zQ [3, 5, 6, 7, 8, 9, 21, 22, 23, 24, 25, 26] [(0, 0, 0), (0, 31, 33), (0, 39, 49)] [4, 10, 11] [(0, 30, 30)]) σ0 (r.1)) := by
  unfold fX12_singles_272
  exact fV_fX12_singles_273 h
theorem fV_fX12_singles {σ0 : zSt} {σ : zSt} {x1 : Int32} {x2 : Int32} (h : (zQ [3, 5, 6, 7, 8, 9, 21, 22, 23, 24, 25, 26] [(0, 0, 0), (0, 31, 33), (0, 39, 49)] [4, 10, 11] [(0, 30, 30)]) σ0 σ) : zpc (fX12_singles σ x1 x2) (fun r => (zQ [3, 5, 6, 7, 8, 9, 21, 22, 23, 24, 25, 26] [(0, 0, 0), (0, 31, 33), (0, 39, 49)] [4, 10, 11] [(0, 30, 30)]) σ0 (r.1)) := by
  unfold fX12_singles
  exact zpc_if (fun _ => zpc_bi (fV_fX12_next h) (fun σ28 v29 hσ28 => zpc_bu (fV_fX12_rTo hσ28) (fun σ30 hσ30 => zpc_if (fun _ => fV_fX12_singles_28 hσ30) (fun _ => fV_fX12_singles_28 hσ30)))) (fun _ => zpc_if (fun _ => zpc_if (fun _ => zpc_if (fun _ => zpc_bu (fV_fX12_adjusts h) (fun σ19 hσ19 => fV_fX12_singles_316 hσ19)) (fun _ => zpc_if (fun _ => zpc_ck (zpc_ck (zpc_bs (zQ.wi h rfl) (fun σ15 hσ15 => zpc_bu (fV_fX12_put hσ15) (fun σ16 hσ16 => zpc_bu (fV_fX12_put hσ16) (fun σ17 hσ17 => zpc_ck (zpc_bu (fV_fX12_xy hσ17) (fun σ18 hσ18 => fV_fX12_singles_316 hσ18)))))))) (fun _ => zpc_if (fun _ => zpc_bi (fV_fX12_flag h) (fun σ13 v14 hσ13 => zpc_if (fun _ => fV_fX12_singles_273 hσ13) (fun _ => fV_fX12_singles_272 hσ13))) (fun _ => fV_fX12_singles_272 h)))) (fun _ => zpc_ck (zpc_bi (fV_fX12_turned h) (fun σ20 v21 hσ20 => zpc_ck (zpc_bs (zQ.wi hσ20 rfl) (fun σ22 hσ22 => zpc_ck (zpc_bu (fV_fX12_xy hσ22) (fun σ23 hσ23 => zpc_bu (fV_fX12_put hσ23) (fun σ24 hσ24 => zpc_bu (fV_fX12_put hσ24) (fun σ25 hσ25 => fV_fX12_singles_316 hσ25)))))))))) (fun _ => zpc_bi (fV_fX12_r h) (fun σ26 v27 hσ26 => zpc_if (fun _ => fV_fX12_singles_50 hσ26) (fun _ => fV_fX12_singles_50 hσ26))))
theorem fV_fX12_plain_r1_160 {σ0 : zSt} {σ : zSt} {s0 : Int32} (h : (zQ [3, 5, 6, 7, 8, 9, 21, 22, 23, 24, 25, 26] [(0, 0, 0), (0, 31, 33), (0, 39, 49)] [4, 10, 11] [(0, 30, 30)]) σ0 σ) : zpc (fX12_plain_r1_160 σ s0) (fun r => (zQ [3, 5, 6, 7, 8, 9, 21, 22, 23, 24, 25, 26] [(0, 0, 0), (0, 31, 33), (0, 39, 49)] [4, 10, 11] [(0, 30, 30)]) σ0 (r.1)) := by
  unfold fX12_plain_r1_160
  exact zpc_some h
theorem fV_fX12_plain_r1_139 {σ0 : zSt} {σ : zSt} {s0 : Int32} (h : (zQ [3, 5, 6, 7, 8, 9, 21, 22, 23, 24, 25, 26] [(0, 0, 0), (0, 31, 33), (0, 39, 49)] [4, 10, 11] [(0, 30, 30)]) σ0 σ) : zpc (fX12_plain_r1_139 σ s0) (fun r => (zQ [3, 5, 6, 7, 8, 9, 21, 22, 23, 24, 25, 26] [(0, 0, 0), (0, 31, 33), (0, 39, 49)] [4, 10, 11] [(0, 30, 30)]) σ0 (r.1)) := by
  unfold fX12_plain_r1_139
  exact zpc_some h
theorem fV_fX12_plain_r1_116 {σ0 : zSt} {σ : zSt} {s0 : Int32} (h : (zQ [3, 5, 6, 7, 8, 9, 21, 22, 23, 24, 25, 26] [(0, 0, 0), (0, 31, 33), (0, 39, 49)] [4, 10, 11] [(0, 30, 30)]) σ0 σ) : zpc (fX12_plain_r1_116 σ s0) (fun r => (zQ [3, 5, 6, 7, 8, 9, 21, 22, 23, 24, 25, 26] [(0, 0, 0), (0, 31, 33), (0, 39, 49)] [4, 10, 11] [(0, 30, 30)]) σ0 (r.1)) := by
  unfold fX12_plain_r1_116
  exact zpc_some h
theorem fV_fX12_plain_r1_115 {σ0 : zSt} {σ : zSt} (h : (zQ [3, 5, 6, 7, 8, 9, 21, 22, 23, 24, 25, 26] [(0, 0, 0), (0, 31, 33), (0, 39, 49)] [4, 10, 11] [(0, 30, 30)]) σ0 σ) : zpc (fX12_plain_r1_115 σ) (fun r => (zQ [3, 5, 6, 7, 8, 9, 21, 22, 23, 24, 25, 26] [(0, 0, 0), (0, 31, 33), (0, 39, 49)] [4, 10, 11] [(0, 30, 30)]) σ0 (r.1)) := by
  unfold fX12_plain_r1_115
  exact fV_fX12_plain_r1_116 h
theorem fV_fX12_plain_r1_110 {σ0 : zSt} {σ : zSt} (h : (zQ [3, 5, 6, 7, 8, 9, 21, 22, 23, 24, 25, 26] [(0, 0, 0), (0, 31, 33), (0, 39, 49)] [4, 10, 11] [(0, 30, 30)]) σ0 σ) : zpc (fX12_plain_r1_110 σ) (fun r => (zQ [3, 5, 6, 7, 8, 9, 21, 22, 23, 24, 25, 26] [(0, 0, 0), (0, 31, 33), (0, 39, 49)] [4, 10, 11] [(0, 30, 30)]) σ0 (r.1)) := by
  unfold fX12_plain_r1_110
  exact fV_fX12_plain_r1_116 h
theorem fV_fX12_plain_r1_92 {σ0 : zSt} {σ : zSt} {x1 : Int32} {x2 : Int32} {x3 : Int32} (h : (zQ [3, 5, 6, 7, 8, 9, 21, 22, 23, 24, 25, 26] [(0, 0, 0), (0, 31, 33), (0, 39, 49)] [4, 10, 11] [(0, 30, 30)]) σ0 σ) : zpc (fX12_plain_r1_92 σ x1 x2 x3) (fun r => (zQ [3, 5, 6, 7, 8, 9, 21, 22, 23, 24, 25, 26] [(0, 0, 0), (0, 31, 33), (0, 39, 49)] [4, 10, 11] [(0, 30, 30)]) σ0 (r.1)) := by
  unfold fX12_plain_r1_92
  exact zpc_if (fun _ => fV_fX12_plain_r1_115 h) (fun _ => zpc_if (fun _ => fV_fX12_plain_r1_110 h) (fun _ => zpc_if (fun _ => fV_fX12_plain_r1_110 h) (fun _ => fV_fX12_plain_r1_115 h)))
theorem fV_fX12_plain_r1_64 {σ0 : zSt} {σ : zSt} {s0 : Int32} (h : (zQ [3, 5, 6, 7, 8, 9, 21, 22, 23, 24, 25, 26] [(0, 0, 0), (0, 31, 33), (0, 39, 49)] [4, 10, 11] [(0, 30, 30)]) σ0 σ) : zpc (fX12_plain_r1_64 σ s0) (fun r => (zQ [3, 5, 6, 7, 8, 9, 21, 22, 23, 24, 25, 26] [(0, 0, 0), (0, 31, 33), (0, 39, 49)] [4, 10, 11] [(0, 30, 30)]) σ0 (r.1)) := by
  unfold fX12_plain_r1_64
  exact zpc_some h
theorem fV_fX12_plain_r1 {σ0 : zSt} {σ : zSt} {x1 : Int32} (h : (zQ [3, 5, 6, 7, 8, 9, 21, 22, 23, 24, 25, 26] [(0, 0, 0), (0, 31, 33), (0, 39, 49)] [4, 10, 11] [(0, 30, 30)]) σ0 σ) : zpc (fX12_plain_r1 σ x1) (fun r => (zQ [3, 5, 6, 7, 8, 9, 21, 22, 23, 24, 25, 26] [(0, 0, 0), (0, 31, 33), (0, 39, 49)] [4, 10, 11] [(0, 30, 30)]) σ0 (r.1)) := by
  unfold fX12_plain_r1
  exact zpc_bv (fun v1 _ => zpc_bv (fun v2 _ => zpc_if (fun _ => zpc_if (fun _ => zpc_bi (fV_fX12_singles h) (fun σ3 v4 hσ3 => fV_fX12_plain_r1_64 hσ3)) (fun _ => zpc_bi (fV_fX12_zero h) (fun σ5 v6 hσ5 => fV_fX12_plain_r1_64 hσ5))) (fun _ => zpc_if (fun _ => zpc_if (fun _ => zpc_ck (zpc_bs (zQ.wi h rfl) (fun σ10 hσ10 => fV_fX12_plain_r1_92 hσ10))) (fun _ => zpc_bi (fV_fX12_r h) (fun σ7 v8 hσ7 => zpc_bu (fV_fX12_rTo hσ7) (fun σ9 hσ9 => fV_fX12_plain_r1_92 hσ9)))) (fun _ => zpc_if (fun _ => zpc_bi (fV_fX12_r h) (fun σ11 v12 hσ11 => zpc_bu (fV_fX12_does hσ11) (fun σ13 hσ13 => zpc_if (fun _ => fV_fX12_plain_r1_139 hσ13) (fun _ => fV_fX12_plain_r1_139 hσ13)))) (fun _ => zpc_if (fun _ => zpc_bi (fV_fX12_more3_r1 h) (fun σ14 v15 hσ14 => fV_fX12_plain_r1_160 hσ14)) (fun _ => zpc_bi (fV_fX12_three h) (fun σ16 v17 hσ16 => fV_fX12_plain_r1_160 hσ16)))))))
theorem fV_fX12_prefixed_33 {σ0 : zSt} {σ : zSt} (h : (zQ [3, 5, 6, 7, 8, 9, 21, 22, 23, 24, 25, 26] [(0, 0, 0), (0, 31, 33), (0, 39, 49)] [4, 10, 11] [(0, 30, 30)]) σ0 σ) : zpc (fX12_prefixed_33 σ) (fun r => (zQ [3, 5, 6, 7, 8, 9, 21, 22, 23, 24, 25, 26] [(0, 0, 0), (0, 31, 33), (0, 39, 49)] [4, 10, 11] [(0, 30, 30)]) σ0 (r.1)) := by
  unfold fX12_prefixed_33
  exact zpc_ck (zpc_bs (zQ.wi h rfl) (fun σ1 hσ1 => zpc_some hσ1))
theorem fV_fX12_prefixed_154 {σ0 : zSt} {σ : zSt} {s0 : Int32} (h : (zQ [3, 5, 6, 7, 8, 9, 21, 22, 23, 24, 25, 26] [(0, 0, 0), (0, 31, 33), (0, 39, 49)] [4, 10, 11] [(0, 30, 30)]) σ0 σ) : zpc (fX12_prefixed_154 σ s0) (fun r => (zQ [3, 5, 6, 7, 8, 9, 21, 22, 23, 24, 25, 26] [(0, 0, 0), (0, 31, 33), (0, 39, 49)] [4, 10, 11] [(0, 30, 30)]) σ0 (r.1)) := by
  unfold fX12_prefixed_154
  exact zpc_some h
theorem fV_fX12_prefixed_135 {σ0 : zSt} {σ : zSt} {x4 : Int32} {x5 : Int32} (h : (zQ [3, 5, 6, 7, 8, 9, 21, 22, 23, 24, 25, 26] [(0, 0, 0), (0, 31, 33), (0, 39, 49)] [4, 10, 11] [(0, 30, 30)]) σ0 σ) : zpc (fX12_prefixed_135 σ x4 x5) (fun r => (zQ [3, 5, 6, 7, 8, 9, 21, 22, 23, 24, 25, 26] [(0, 0, 0), (0, 31, 33), (0, 39, 49)] [4, 10, 11] [(0, 30, 30)]) σ0 (r.1)) := by
  unfold fX12_prefixed_135
  exact zpc_if (fun _ => fV_fX12_prefixed_154 h) (fun _ => fV_fX12_prefixed_154 h)
theorem fV_fX12_prefixed_311 {σ0 : zSt} {σ : zSt} {s0 : Int32} {s1 : Int32} (h : (zQ [3, 5, 6, 7, 8, 9, 21, 22, 23, 24, 25, 26] [(0, 0, 0), (0, 31, 33), (0, 39, 49)] [4, 10, 11] [(0, 30, 30)]) σ0 σ) : zpc (fX12_prefixed_311 σ s0 s1) (fun r => (zQ [3, 5, 6, 7, 8, 9, 21, 22, 23, 24, 25, 26] [(0, 0, 0), (0, 31, 33), (0, 39, 49)] [4, 10, 11] [(0, 30, 30)]) σ0 (r.1)) := by
  unfold fX12_prefixed_311
  exact zpc_some h
theorem fV_fX12_prefixed_244 {σ0 : zSt} {σ : zSt} {x1 : Int32} {x3 : Int32} {s0 : Int32} (h : (zQ [3, 5, 6, 7, 8, 9, 21, 22, 23, 24, 25, 26] [(0, 0, 0), (0, 31, 33), (0, 39, 49)] [4, 10, 11] [(0, 30, 30)]) σ0 σ) : zpc (fX12_prefixed_244 σ x1 x3 s0) (fun r => (zQ [3, 5, 6, 7, 8, 9, 21, 22, 23, 24, 25, 26] [(0, 0, 0), (0, 31, 33), (0, 39, 49)] [4, 10, 11] [(0, 30, 30)]) σ0 (r.1)) := by
  unfold fX12_prefixed_244
  exact zpc_if (fun _ => zpc_bs (zQ.wi h rfl) (fun σ10 hσ10 => zpc_bi (fV_fX12_plain_r1 hσ10) (fun σ11 v12 hσ11 => zpc_some hσ11))) (fun _ => zpc_ck (zpc_bi (fV_fX12_next h) (fun σ2 v3 hσ2 => zpc_bi (fV_fX12_signed hσ2) (fun σ4 v5 hσ4 => zpc_ck (zpc_bs (zQ.wi hσ4 rfl) (fun σ6 hσ6 => zpc_ck (zpc_bs (zQ.wi hσ6 rfl) (fun σ7 hσ7 => zpc_bi (fV_fX12_plain_r1 hσ7) (fun σ8 v9 hσ8 => zpc_if (fun _ => fV_fX12_prefixed_311 hσ8) (fun _ => fV_fX12_prefixed_311 hσ8))))))))))
theorem fV_fX12_prefixed_243 {σ0 : zSt} {σ : zSt} {x1 : Int32} {x3 : Int32} (h : (zQ [3, 5, 6, 7, 8, 9, 21, 22, 23, 24, 25, 26] [(0, 0, 0), (0, 31, 33), (0, 39, 49)] [4, 10, 11] [(0, 30, 30)]) σ0 σ) : zpc (fX12_prefixed_243 σ x1 x3) (fun r => (zQ [3, 5, 6, 7, 8, 9, 21, 22, 23, 24, 25, 26] [(0, 0, 0), (0, 31, 33), (0, 39, 49)] [4, 10, 11] [(0, 30, 30)]) σ0 (r.1)) := by
  unfold fX12_prefixed_243
  exact fV_fX12_prefixed_244 h
theorem fV_fX12_prefixed_239 {σ0 : zSt} {σ : zSt} {x1 : Int32} {x3 : Int32} (h : (zQ [3, 5, 6, 7, 8, 9, 21, 22, 23, 24, 25, 26] [(0, 0, 0), (0, 31, 33), (0, 39, 49)] [4, 10, 11] [(0, 30, 30)]) σ0 σ) : zpc (fX12_prefixed_239 σ x1 x3) (fun r => (zQ [3, 5, 6, 7, 8, 9, 21, 22, 23, 24, 25, 26] [(0, 0, 0), (0, 31, 33), (0, 39, 49)] [4, 10, 11] [(0, 30, 30)]) σ0 (r.1)) := by
  unfold fX12_prefixed_239
  exact fV_fX12_prefixed_244 h
theorem fV_fX12_prefixed_226 {σ0 : zSt} {σ : zSt} {x1 : Int32} {x3 : Int32} {x5 : Int32} {x6 : Int32} (h : (zQ [3, 5, 6, 7, 8, 9, 21, 22, 23, 24, 25, 26] [(0, 0, 0), (0, 31, 33), (0, 39, 49)] [4, 10, 11] [(0, 30, 30)]) σ0 σ) : zpc (fX12_prefixed_226 σ x1 x3 x5 x6) (fun r => (zQ [3, 5, 6, 7, 8, 9, 21, 22, 23, 24, 25, 26] [(0, 0, 0), (0, 31, 33), (0, 39, 49)] [4, 10, 11] [(0, 30, 30)]) σ0 (r.1)) := by
  unfold fX12_prefixed_226
  exact zpc_if (fun _ => zpc_if (fun _ => fV_fX12_prefixed_239 h) (fun _ => fV_fX12_prefixed_243 h)) (fun _ => fV_fX12_prefixed_243 h)
theorem fV_fX12_prefixed_220 {σ0 : zSt} {σ : zSt} {x1 : Int32} {x3 : Int32} {x5 : Int32} {x6 : Int32} (h : (zQ [3, 5, 6, 7, 8, 9, 21, 22, 23, 24, 25, 26] [(0, 0, 0), (0, 31, 33), (0, 39, 49)] [4, 10, 11] [(0, 30, 30)]) σ0 σ) : zpc (fX12_prefixed_220 σ x1 x3 x5 x6) (fun r => (zQ [3, 5, 6, 7, 8, 9, 21, 22, 23, 24, 25, 26] [(0, 0, 0), (0, 31, 33), (0, 39, 49)] [4, 10, 11] [(0, 30, 30)]) σ0 (r.1)) := by
  unfold fX12_prefixed_220
  exact zpc_if (fun _ => fV_fX12_prefixed_226 h) (fun _ => fV_fX12_prefixed_239 h)
theorem fV_fX12_prefixed_200 {σ0 : zSt} {σ : zSt} {x1 : Int32} {x3 : Int32} {x4 : Int32} {x5 : Int32} {x6 : Int32} (h : (zQ [3, 5, 6, 7, 8, 9, 21, 22, 23, 24, 25, 26] [(0, 0, 0), (0, 31, 33), (0, 39, 49)] [4, 10, 11] [(0, 30, 30)]) σ0 σ) : zpc (fX12_prefixed_200 σ x1 x3 x4 x5 x6) (fun r => (zQ [3, 5, 6, 7, 8, 9, 21, 22, 23, 24, 25, 26] [(0, 0, 0), (0, 31, 33), (0, 39, 49)] [4, 10, 11] [(0, 30, 30)]) σ0 (r.1)) := by
  unfold fX12_prefixed_200
  exact zpc_if (fun _ => zpc_if (fun _ => fV_fX12_prefixed_220 h) (fun _ => zpc_if (fun _ => fV_fX12_prefixed_220 h) (fun _ => fV_fX12_prefixed_226 h))) (fun _ => fV_fX12_prefixed_226 h)
theorem fV_fX12_prefixed {σ0 : zSt} {σ : zSt} {x1 : Int32} (h : (zQ [3, 5, 6, 7, 8, 9, 21, 22, 23, 24, 25, 26] [(0, 0, 0), (0, 31, 33), (0, 39, 49)] [4, 10, 11] [(0, 30, 30)]) σ0 σ) : zpc (fX12_prefixed σ x1) (fun r => (zQ [3, 5, 6, 7, 8, 9, 21, 22, 23, 24, 25, 26] [(0, 0, 0), (0, 31, 33), (0, 39, 49)] [4, 10, 11] [(0, 30, 30)]) σ0 (r.1)) := by
  unfold fX12_prefixed
  exact zpc_ck (zpc_bi (fV_fX12_read h) (fun σ13 v14 hσ13 => zpc_if (fun _ => fV_fX12_prefixed_33 hσ13) (fun _ => zpc_if (fun _ => fV_fX12_prefixed_33 hσ13) (fun _ => zpc_if (fun _ => fV_fX12_prefixed_33 hσ13) (fun _ => zpc_bi (fV_fX12_fetch hσ13) (fun σ15 v16 hσ15 => zpc_if (fun _ => zpc_ck (zpc_bi (fV_fX12_next hσ15) (fun σ20 v21 hσ20 => zpc_bi (fV_fX12_signed hσ20) (fun σ22 v23 hσ22 => zpc_ck (zpc_bs (zQ.wi hσ22 rfl) (fun σ24 hσ24 => zpc_ck (zpc_bs (zQ.wi hσ24 rfl) (fun σ25 hσ25 => zpc_bi (fV_fX12_next hσ25) (fun σ26 v27 hσ26 => zpc_bi (fV_fX12_turn hσ26) (fun σ28 v29 hσ28 => zpc_if (fun _ => fV_fX12_prefixed_135 hσ28) (fun _ => zpc_if (fun _ => fV_fX12_prefixed_135 hσ28) (fun _ => zpc_ck (zpc_bs (zQ.wi hσ28 rfl) (fun σ30 hσ30 => zpc_bu (fV_fX12_rTo hσ30) (fun σ31 hσ31 => fV_fX12_prefixed_135 hσ31))))))))))))))) (fun _ => zpc_bv (fun v17 _ => zpc_bv (fun v18 _ => zpc_bv (fun v19 _ => zpc_if (fun _ => zpc_if (fun _ => fV_fX12_prefixed_200 hσ15) (fun _ => zpc_if (fun _ => fV_fX12_prefixed_200 hσ15) (fun _ => zpc_if (fun _ => fV_fX12_prefixed_239 hσ15) (fun _ => fV_fX12_prefixed_200 hσ15)))) (fun _ => fV_fX12_prefixed_200 hσ15)))))))))))
theorem fV_fX12_more3_119 {σ0 : zSt} {σ : zSt} {s0 : Int32} (h : (zQ [3, 5, 6, 7, 8, 9, 21, 22, 23, 24, 25, 26] [(0, 0, 0), (0, 31, 33), (0, 39, 49)] [4, 10, 11] [(0, 30, 30)]) σ0 σ) : zpc (fX12_more3_119 σ s0) (fun r => (zQ [3, 5, 6, 7, 8, 9, 21, 22, 23, 24, 25, 26] [(0, 0, 0), (0, 31, 33), (0, 39, 49)] [4, 10, 11] [(0, 30, 30)]) σ0 (r.1)) := by
  unfold fX12_more3_119
  exact zpc_bu (fV_fX12_push h) (fun σ1 hσ1 => zpc_some hσ1)
theorem fV_fX12_more3_200 {σ0 : zSt} {σ : zSt} {s0 : Int32} (h : (zQ [3, 5, 6, 7, 8, 9, 21, 22, 23, 24, 25, 26] [(0, 0, 0), (0, 31, 33), (0, 39, 49)] [4, 10, 11] [(0, 30, 30)]) σ0 σ) : zpc (fX12_more3_200 σ s0) (fun r => (zQ [3, 5, 6, 7, 8, 9, 21, 22, 23, 24, 25, 26] [(0, 0, 0), (0, 31, 33), (0, 39, 49)] [4, 10, 11] [(0, 30, 30)]) σ0 (r.1)) := by
  unfold fX12_more3_200
  exact zpc_some h
theorem fV_fX12_more3_197 {σ0 : zSt} {σ : zSt} {s0 : Int32} (h : (zQ [3, 5, 6, 7, 8, 9, 21, 22, 23, 24, 25, 26] [(0, 0, 0), (0, 31, 33), (0, 39, 49)] [4, 10, 11] [(0, 30, 30)]) σ0 σ) : zpc (fX12_more3_197 σ s0) (fun r => (zQ [3, 5, 6, 7, 8, 9, 21, 22, 23, 24, 25, 26] [(0, 0, 0), (0, 31, 33), (0, 39, 49)] [4, 10, 11] [(0, 30, 30)]) σ0 (r.1)) := by
  unfold fX12_more3_197
  exact zpc_bi (fV_fX12_prefixed h) (fun σ2 v3 hσ2 => fV_fX12_more3_200 hσ2)
theorem fV_fX12_more3 {σ0 : zSt} {σ : zSt} {x1 : Int32} {x2 : Int32} (h : (zQ [3, 5, 6, 7, 8, 9, 21, 22, 23, 24, 25, 26] [(0, 0, 0), (0, 31, 33), (0, 39, 49)] [4, 10, 11] [(0, 30, 30)]) σ0 σ) : zpc (fX12_more3 σ x1 x2) (fun r => (zQ [3, 5, 6, 7, 8, 9, 21, 22, 23, 24, 25, 26] [(0, 0, 0), (0, 31, 33), (0, 39, 49)] [4, 10, 11] [(0, 30, 30)]) σ0 (r.1)) := by
  unfold fX12_more3
  exact zpc_bv (fun v4 _ => zpc_if (fun _ => zpc_bi (fV_fX12_nextWord h) (fun σ22 v23 hσ22 => zpc_ck (zpc_bs (zQ.wi hσ22 rfl) (fun σ24 hσ24 => zpc_bi (fV_fX12_cc hσ24) (fun σ25 v26 hσ25 => zpc_if (fun _ => zpc_some hσ25) (fun _ => zpc_ck (zpc_bu (fV_fX12_push hσ25) (fun σ27 hσ27 => zpc_ck (zpc_ck (zpc_bs (zQ.wi hσ27 rfl) (fun σ28 hσ28 => zpc_some hσ28))))))))))) (fun _ => zpc_if (fun _ => zpc_bi (fV_fX12_next h) (fun σ19 v20 hσ19 => zpc_bu (fV_fX12_does hσ19) (fun σ21 hσ21 => zpc_some hσ21))) (fun _ => zpc_if (fun _ => zpc_bu (fV_fX12_call h) (fun σ18 hσ18 => zpc_some hσ18)) (fun _ => zpc_ck (zpc_if (fun _ => zpc_if (fun _ => zpc_bi (fV_fX12_pair h) (fun σ16 v17 hσ16 => fV_fX12_more3_119 hσ16)) (fun _ => zpc_bi (fV_fX12_rp h) (fun σ14 v15 hσ14 => fV_fX12_more3_119 hσ14))) (fun _ => zpc_if (fun _ => zpc_bi (fV_fX12_nextWord h) (fun σ9 v10 hσ9 => zpc_ck (zpc_bs (zQ.wi hσ9 rfl) (fun σ11 hσ11 => zpc_ck (zpc_bu (fV_fX12_push hσ11) (fun σ12 hσ12 => zpc_ck (zpc_ck (zpc_bs (zQ.wi hσ12 rfl) (fun σ13 hσ13 => zpc_some hσ13))))))))) (fun _ => zpc_if (fun _ => zpc_bi (fV_fX12_fetch h) (fun σ5 v6 hσ5 => zpc_bi (fV_fX12_more hσ5) (fun σ7 v8 hσ7 => fV_fX12_more3_200 hσ7))) (fun _ => zpc_if (fun _ => fV_fX12_more3_197 h) (fun _ => fV_fX12_more3_197 h)))))))))
theorem fV_fX12_plain_160 {σ0 : zSt} {σ : zSt} {s0 : Int32} (h : (zQ [3, 5, 6, 7, 8, 9, 21, 22, 23, 24, 25, 26] [(0, 0, 0), (0, 31, 33), (0, 39, 49)] [4, 10, 11] [(0, 30, 30)]) σ0 σ) : zpc (fX12_plain_160 σ s0) (fun r => (zQ [3, 5, 6, 7, 8, 9, 21, 22, 23, 24, 25, 26] [(0, 0, 0), (0, 31, 33), (0, 39, 49)] [4, 10, 11] [(0, 30, 30)]) σ0 (r.1)) := by
  unfold fX12_plain_160
  exact zpc_some h
theorem fV_fX12_plain_139 {σ0 : zSt} {σ : zSt} {s0 : Int32} (h : (zQ [3, 5, 6, 7, 8, 9, 21, 22, 23, 24, 25, 26] [(0, 0, 0), (0, 31, 33), (0, 39, 49)] [4, 10, 11] [(0, 30, 30)]) σ0 σ) : zpc (fX12_plain_139 σ s0) (fun r => (zQ [3, 5, 6, 7, 8, 9, 21, 22, 23, 24, 25, 26] [(0, 0, 0), (0, 31, 33), (0, 39, 49)] [4, 10, 11] [(0, 30, 30)]) σ0 (r.1)) := by
  unfold fX12_plain_139
  exact zpc_some h
theorem fV_fX12_plain_116 {σ0 : zSt} {σ : zSt} {s0 : Int32} (h : (zQ [3, 5, 6, 7, 8, 9, 21, 22, 23, 24, 25, 26] [(0, 0, 0), (0, 31, 33), (0, 39, 49)] [4, 10, 11] [(0, 30, 30)]) σ0 σ) : zpc (fX12_plain_116 σ s0) (fun r => (zQ [3, 5, 6, 7, 8, 9, 21, 22, 23, 24, 25, 26] [(0, 0, 0), (0, 31, 33), (0, 39, 49)] [4, 10, 11] [(0, 30, 30)]) σ0 (r.1)) := by
  unfold fX12_plain_116
  exact zpc_some h
theorem fV_fX12_plain_115 {σ0 : zSt} {σ : zSt} (h : (zQ [3, 5, 6, 7, 8, 9, 21, 22, 23, 24, 25, 26] [(0, 0, 0), (0, 31, 33), (0, 39, 49)] [4, 10, 11] [(0, 30, 30)]) σ0 σ) : zpc (fX12_plain_115 σ) (fun r => (zQ [3, 5, 6, 7, 8, 9, 21, 22, 23, 24, 25, 26] [(0, 0, 0), (0, 31, 33), (0, 39, 49)] [4, 10, 11] [(0, 30, 30)]) σ0 (r.1)) := by
  unfold fX12_plain_115
  exact fV_fX12_plain_116 h
theorem fV_fX12_plain_110 {σ0 : zSt} {σ : zSt} (h : (zQ [3, 5, 6, 7, 8, 9, 21, 22, 23, 24, 25, 26] [(0, 0, 0), (0, 31, 33), (0, 39, 49)] [4, 10, 11] [(0, 30, 30)]) σ0 σ) : zpc (fX12_plain_110 σ) (fun r => (zQ [3, 5, 6, 7, 8, 9, 21, 22, 23, 24, 25, 26] [(0, 0, 0), (0, 31, 33), (0, 39, 49)] [4, 10, 11] [(0, 30, 30)]) σ0 (r.1)) := by
  unfold fX12_plain_110
  exact fV_fX12_plain_116 h
theorem fV_fX12_plain_92 {σ0 : zSt} {σ : zSt} {x1 : Int32} {x2 : Int32} {x3 : Int32} (h : (zQ [3, 5, 6, 7, 8, 9, 21, 22, 23, 24, 25, 26] [(0, 0, 0), (0, 31, 33), (0, 39, 49)] [4, 10, 11] [(0, 30, 30)]) σ0 σ) : zpc (fX12_plain_92 σ x1 x2 x3) (fun r => (zQ [3, 5, 6, 7, 8, 9, 21, 22, 23, 24, 25, 26] [(0, 0, 0), (0, 31, 33), (0, 39, 49)] [4, 10, 11] [(0, 30, 30)]) σ0 (r.1)) := by
  unfold fX12_plain_92
  exact zpc_if (fun _ => fV_fX12_plain_115 h) (fun _ => zpc_if (fun _ => fV_fX12_plain_110 h) (fun _ => zpc_if (fun _ => fV_fX12_plain_110 h) (fun _ => fV_fX12_plain_115 h)))
theorem fV_fX12_plain_64 {σ0 : zSt} {σ : zSt} {s0 : Int32} (h : (zQ [3, 5, 6, 7, 8, 9, 21, 22, 23, 24, 25, 26] [(0, 0, 0), (0, 31, 33), (0, 39, 49)] [4, 10, 11] [(0, 30, 30)]) σ0 σ) : zpc (fX12_plain_64 σ s0) (fun r => (zQ [3, 5, 6, 7, 8, 9, 21, 22, 23, 24, 25, 26] [(0, 0, 0), (0, 31, 33), (0, 39, 49)] [4, 10, 11] [(0, 30, 30)]) σ0 (r.1)) := by
  unfold fX12_plain_64
  exact zpc_some h
theorem fV_fX12_plain {σ0 : zSt} {σ : zSt} {x1 : Int32} (h : (zQ [3, 5, 6, 7, 8, 9, 21, 22, 23, 24, 25, 26] [(0, 0, 0), (0, 31, 33), (0, 39, 49)] [4, 10, 11] [(0, 30, 30)]) σ0 σ) : zpc (fX12_plain σ x1) (fun r => (zQ [3, 5, 6, 7, 8, 9, 21, 22, 23, 24, 25, 26] [(0, 0, 0), (0, 31, 33), (0, 39, 49)] [4, 10, 11] [(0, 30, 30)]) σ0 (r.1)) := by
  unfold fX12_plain
  exact zpc_bv (fun v1 _ => zpc_bv (fun v2 _ => zpc_if (fun _ => zpc_if (fun _ => zpc_bi (fV_fX12_singles h) (fun σ3 v4 hσ3 => fV_fX12_plain_64 hσ3)) (fun _ => zpc_bi (fV_fX12_zero h) (fun σ5 v6 hσ5 => fV_fX12_plain_64 hσ5))) (fun _ => zpc_if (fun _ => zpc_if (fun _ => zpc_ck (zpc_bs (zQ.wi h rfl) (fun σ10 hσ10 => fV_fX12_plain_92 hσ10))) (fun _ => zpc_bi (fV_fX12_r h) (fun σ7 v8 hσ7 => zpc_bu (fV_fX12_rTo hσ7) (fun σ9 hσ9 => fV_fX12_plain_92 hσ9)))) (fun _ => zpc_if (fun _ => zpc_bi (fV_fX12_r h) (fun σ11 v12 hσ11 => zpc_bu (fV_fX12_does hσ11) (fun σ13 hσ13 => zpc_if (fun _ => fV_fX12_plain_139 hσ13) (fun _ => fV_fX12_plain_139 hσ13)))) (fun _ => zpc_if (fun _ => zpc_bi (fV_fX12_more3 h) (fun σ14 v15 hσ14 => fV_fX12_plain_160 hσ14)) (fun _ => zpc_bi (fV_fX12_three h) (fun σ16 v17 hσ16 => fV_fX12_plain_160 hσ16)))))))
theorem fV_fX12_instruction {σ0 : zSt} {σ : zSt} (h : (zQ [3, 5, 6, 7, 8, 9, 21, 22, 23, 24, 25, 26] [(0, 0, 0), (0, 31, 33), (0, 39, 49)] [4, 10, 11] [(0, 30, 30)]) σ0 σ) : zpc (fX12_instruction σ) (fun r => (zQ [3, 5, 6, 7, 8, 9, 21, 22, 23, 24, 25, 26] [(0, 0, 0), (0, 31, 33), (0, 39, 49)] [4, 10, 11] [(0, 30, 30)]) σ0 (r.1)) := by
  unfold fX12_instruction
  exact zpc_bs (zQ.wi h rfl) (fun σ1 hσ1 => zpc_ck (zpc_bs (zQ.wi hσ1 rfl) (fun σ2 hσ2 => zpc_bi (fV_fX12_fetch hσ2) (fun σ3 v4 hσ3 => zpc_bi (fV_fX12_plain hσ3) (fun σ5 v6 hσ5 => zpc_some hσ5)))))
theorem fV_fX12_answers {σ0 : zSt} {σ : zSt} (h : (zQ [3, 5, 6, 7, 8, 9, 21, 22, 23, 24, 25, 26] [(0, 0, 0), (0, 31, 33), (0, 39, 49)] [4, 10, 11] [(0, 30, 30)]) σ0 σ) : zpc (fX12_answers σ) (fun r => (zQ [3, 5, 6, 7, 8, 9, 21, 22, 23, 24, 25, 26] [(0, 0, 0), (0, 31, 33), (0, 39, 49)] [4, 10, 11] [(0, 30, 30)]) σ0 (r)) := by
  unfold fX12_answers
  exact zpc_bu (fV_fX12_grows h) (fun σ1 hσ1 => zpc_ck (zpc_bs (zQ.wi hσ1 rfl) (fun σ2 hσ2 => zpc_some hσ2)))
theorem fV_fX12_reg {σ0 : zSt} {σ : zSt} {x1 : Int32} (h : (zQ [3, 5, 6, 7, 8, 9, 21, 22, 23, 24, 25, 26] [(0, 0, 0), (0, 31, 33), (0, 39, 49)] [4, 10, 11] [(0, 30, 30)]) σ0 σ) : zpc (fX12_reg σ x1) (fun r => (zQ [3, 5, 6, 7, 8, 9, 21, 22, 23, 24, 25, 26] [(0, 0, 0), (0, 31, 33), (0, 39, 49)] [4, 10, 11] [(0, 30, 30)]) σ0 (r.1)) := by
  unfold fX12_reg
  exact zpc_ck (zpc_some h)
theorem fV_fX12_tileDot_6_body {σ0 : zSt} {k6 : zSt → Int32 → Int32 → Int32 → Int32 → Int32 → Option (zSt × Int32)} (hk6 : ∀ (y0 : zSt) (y1 : Int32) (y2 : Int32) (y3 : Int32) (y4 : Int32) (y5 : Int32), (zQ [3, 5, 6, 7, 8, 9, 21, 22, 23, 24, 25, 26] [(0, 0, 0), (0, 31, 33), (0, 39, 49)] [4, 10, 11] [(0, 30, 30)]) σ0 y0 → zpc (k6 y0 y1 y2 y3 y4 y5) (fun r => (zQ [3, 5, 6, 7, 8, 9, 21, 22, 23, 24, 25, 26] [(0, 0, 0), (0, 31, 33), (0, 39, 49)] [4, 10, 11] [(0, 30, 30)]) σ0 (r.1))) {σ : zSt} {x1 : Int32} {x2 : Int32} {x3 : Int32} {x4 : Int32} {x5 : Int32} (h : (zQ [3, 5, 6, 7, 8, 9, 21, 22, 23, 24, 25, 26] [(0, 0, 0), (0, 31, 33), (0, 39, 49)] [4, 10, 11] [(0, 30, 30)]) σ0 σ) : zpc (fX12_tileDot_6_body k6 σ x1 x2 x3 x4 x5) (fun r => (zQ [3, 5, 6, 7, 8, 9, 21, 22, 23, 24, 25, 26] [(0, 0, 0), (0, 31, 33), (0, 39, 49)] [4, 10, 11] [(0, 30, 30)]) σ0 (r.1)) := by
  unfold fX12_tileDot_6_body
  exact zpc_if (fun _ => zpc_some h) (fun _ => zpc_bi (fV_fX12_video8 h) (fun σ1 v2 hσ1 => zpc_bv (fun v3 _ => zpc_bv (fun v4 _ => hk6 _ _ _ _ _ _ hσ1))))
theorem fV_fX12_tileDot_6 {σ0 : zSt} : ∀ (n : Nat) (y0 : zSt) (y1 : Int32) (y2 : Int32) (y3 : Int32) (y4 : Int32) (y5 : Int32), (zQ [3, 5, 6, 7, 8, 9, 21, 22, 23, 24, 25, 26] [(0, 0, 0), (0, 31, 33), (0, 39, 49)] [4, 10, 11] [(0, 30, 30)]) σ0 y0 → zpc (fX12_tileDot_6 n y0 y1 y2 y3 y4 y5) (fun r => (zQ [3, 5, 6, 7, 8, 9, 21, 22, 23, 24, 25, 26] [(0, 0, 0), (0, 31, 33), (0, 39, 49)] [4, 10, 11] [(0, 30, 30)]) σ0 (r.1)) := by
  intro n
  induction n with
  | zero => intro y0 y1 y2 y3 y4 y5 h; exact zpc_none
  | succ n ih => intro y0 y1 y2 y3 y4 y5 h; exact fV_fX12_tileDot_6_body ih h
theorem fV_fX12_tileDot {σ0 : zSt} {σ : zSt} {x1 : Int32} {x2 : Int32} {x3 : Int32} (h : (zQ [3, 5, 6, 7, 8, 9, 21, 22, 23, 24, 25, 26] [(0, 0, 0), (0, 31, 33), (0, 39, 49)] [4, 10, 11] [(0, 30, 30)]) σ0 σ) : zpc (fX12_tileDot σ x1 x2 x3) (fun r => (zQ [3, 5, 6, 7, 8, 9, 21, 22, 23, 24, 25, 26] [(0, 0, 0), (0, 31, 33), (0, 39, 49)] [4, 10, 11] [(0, 30, 30)]) σ0 (r.1)) := by
  unfold fX12_tileDot
  exact fV_fX12_tileDot_6 _ _ _ _ _ _ _ h
theorem fV_fX12_tile_302 {σ0 : zSt} {σ : zSt} {s0 : Int32} {s1 : Int32} (h : (zQ [3, 5, 6, 7, 8, 9, 21, 22, 23, 24, 25, 26] [(0, 0, 0), (0, 31, 33), (0, 39, 49)] [4, 10, 11] [(0, 30, 30)]) σ0 σ) : zpc (fX12_tile_302 σ s0 s1) (fun r => (zQ [3, 5, 6, 7, 8, 9, 21, 22, 23, 24, 25, 26] [(0, 0, 0), (0, 31, 33), (0, 39, 49)] [4, 10, 11] [(0, 30, 30)]) σ0 (r)) := by
  unfold fX12_tile_302
  exact zpc_ck (zpc_bs (zQ.wi h rfl) (fun σ1 hσ1 => zpc_some hσ1))
theorem fV_fX12_tile_301 {σ0 : zSt} {σ : zSt} {s0 : Int32} (h : (zQ [3, 5, 6, 7, 8, 9, 21, 22, 23, 24, 25, 26] [(0, 0, 0), (0, 31, 33), (0, 39, 49)] [4, 10, 11] [(0, 30, 30)]) σ0 σ) : zpc (fX12_tile_301 σ s0) (fun r => (zQ [3, 5, 6, 7, 8, 9, 21, 22, 23, 24, 25, 26] [(0, 0, 0), (0, 31, 33), (0, 39, 49)] [4, 10, 11] [(0, 30, 30)]) σ0 (r)) := by
  unfold fX12_tile_301
  exact fV_fX12_tile_302 h
theorem fV_fX12_tile_276 {σ0 : zSt} {σ : zSt} {x2 : Int32} {x9 : Int32} {x12 : Int32} {s0 : Int32} {s1 : Int32} {s2 : Int32} (h : (zQ [3, 5, 6, 7, 8, 9, 21, 22, 23, 24, 25, 26] [(0, 0, 0), (0, 31, 33), (0, 39, 49)] [4, 10, 11] [(0, 30, 30)]) σ0 σ) : zpc (fX12_tile_276 σ x2 x9 x12 s0 s1 s2) (fun r => (zQ [3, 5, 6, 7, 8, 9, 21, 22, 23, 24, 25, 26] [(0, 0, 0), (0, 31, 33), (0, 39, 49)] [4, 10, 11] [(0, 30, 30)]) σ0 (r)) := by
  unfold fX12_tile_276
  exact zpc_ck (zpc_bs (zQ.wi h rfl) (fun σ2 hσ2 => zpc_if (fun _ => fV_fX12_tile_301 hσ2) (fun _ => zpc_if (fun _ => fV_fX12_tile_301 hσ2) (fun _ => fV_fX12_tile_302 hσ2))))
theorem fV_fX12_tile_236 {σ0 : zSt} {σ : zSt} {x2 : Int32} {x9 : Int32} {x10 : Int32} {s0 : Int32} (h : (zQ [3, 5, 6, 7, 8, 9, 21, 22, 23, 24, 25, 26] [(0, 0, 0), (0, 31, 33), (0, 39, 49)] [4, 10, 11] [(0, 30, 30)]) σ0 σ) : zpc (fX12_tile_236 σ x2 x9 x10 s0) (fun r => (zQ [3, 5, 6, 7, 8, 9, 21, 22, 23, 24, 25, 26] [(0, 0, 0), (0, 31, 33), (0, 39, 49)] [4, 10, 11] [(0, 30, 30)]) σ0 (r)) := by
  unfold fX12_tile_236
  exact zpc_bi (fV_fX12_tileDot h) (fun σ3 v4 hσ3 => zpc_if (fun _ => fV_fX12_tile_276 hσ3) (fun _ => fV_fX12_tile_276 hσ3))
theorem fV_fX12_tile_209 {σ0 : zSt} {σ : zSt} {x2 : Int32} {x7 : Int32} {x9 : Int32} {s0 : Int32} (h : (zQ [3, 5, 6, 7, 8, 9, 21, 22, 23, 24, 25, 26] [(0, 0, 0), (0, 31, 33), (0, 39, 49)] [4, 10, 11] [(0, 30, 30)]) σ0 σ) : zpc (fX12_tile_209 σ x2 x7 x9 s0) (fun r => (zQ [3, 5, 6, 7, 8, 9, 21, 22, 23, 24, 25, 26] [(0, 0, 0), (0, 31, 33), (0, 39, 49)] [4, 10, 11] [(0, 30, 30)]) σ0 (r)) := by
  unfold fX12_tile_209
  exact zpc_if (fun _ => zpc_ck (fV_fX12_tile_236 h)) (fun _ => zpc_ck (fV_fX12_tile_236 h))
theorem fV_fX12_tile_141 {σ0 : zSt} {σ : zSt} {x2 : Int32} {x4 : Int32} {x6 : Int32} {s0 : Int32} (h : (zQ [3, 5, 6, 7, 8, 9, 21, 22, 23, 24, 25, 26] [(0, 0, 0), (0, 31, 33), (0, 39, 49)] [4, 10, 11] [(0, 30, 30)]) σ0 σ) : zpc (fX12_tile_141 σ x2 x4 x6 s0) (fun r => (zQ [3, 5, 6, 7, 8, 9, 21, 22, 23, 24, 25, 26] [(0, 0, 0), (0, 31, 33), (0, 39, 49)] [4, 10, 11] [(0, 30, 30)]) σ0 (r)) := by
  unfold fX12_tile_141
  exact zpc_ck (zpc_ck (zpc_bv (fun v5 _ => zpc_bi (fV_fX12_video8 h) (fun σ6 v7 hσ6 => zpc_bi (fV_fX12_video8 hσ6) (fun σ8 v9 hσ8 => zpc_bv (fun v10 _ => zpc_if (fun _ => zpc_ck (fV_fX12_tile_209 hσ8)) (fun _ => zpc_ck (fV_fX12_tile_209 hσ8))))))))
theorem fV_fX12_tile_140 {σ0 : zSt} {σ : zSt} {x2 : Int32} {x4 : Int32} {x6 : Int32} {s0 : Int32} {s1 : Int32} (h : (zQ [3, 5, 6, 7, 8, 9, 21, 22, 23, 24, 25, 26] [(0, 0, 0), (0, 31, 33), (0, 39, 49)] [4, 10, 11] [(0, 30, 30)]) σ0 σ) : zpc (fX12_tile_140 σ x2 x4 x6 s0 s1) (fun r => (zQ [3, 5, 6, 7, 8, 9, 21, 22, 23, 24, 25, 26] [(0, 0, 0), (0, 31, 33), (0, 39, 49)] [4, 10, 11] [(0, 30, 30)]) σ0 (r)) := by
  unfold fX12_tile_140
  exact zpc_ck (fV_fX12_tile_141 h)
theorem fV_fX12_tile_118 {σ0 : zSt} {σ : zSt} {x1 : Int32} {x2 : Int32} {x3 : Int32} {x4 : Int32} {x6 : Int32} (h : (zQ [3, 5, 6, 7, 8, 9, 21, 22, 23, 24, 25, 26] [(0, 0, 0), (0, 31, 33), (0, 39, 49)] [4, 10, 11] [(0, 30, 30)]) σ0 σ) : zpc (fX12_tile_118 σ x1 x2 x3 x4 x6) (fun r => (zQ [3, 5, 6, 7, 8, 9, 21, 22, 23, 24, 25, 26] [(0, 0, 0), (0, 31, 33), (0, 39, 49)] [4, 10, 11] [(0, 30, 30)]) σ0 (r)) := by
  unfold fX12_tile_118
  exact zpc_ck (zpc_if (fun _ => fV_fX12_tile_140 h) (fun _ => fV_fX12_tile_140 h))
theorem fV_fX12_tile_84 {σ0 : zSt} {σ : zSt} {x1 : Int32} {x2 : Int32} {x3 : Int32} {x4 : Int32} {s0 : Int32} (h : (zQ [3, 5, 6, 7, 8, 9, 21, 22, 23, 24, 25, 26] [(0, 0, 0), (0, 31, 33), (0, 39, 49)] [4, 10, 11] [(0, 30, 30)]) σ0 σ) : zpc (fX12_tile_84 σ x1 x2 x3 x4 s0) (fun r => (zQ [3, 5, 6, 7, 8, 9, 21, 22, 23, 24, 25, 26] [(0, 0, 0), (0, 31, 33), (0, 39, 49)] [4, 10, 11] [(0, 30, 30)]) σ0 (r)) := by
  unfold fX12_tile_84
  exact zpc_bv (fun v11 _ => zpc_if (fun _ => fV_fX12_tile_118 h) (fun _ => zpc_bi (fV_fX12_bit h) (fun σ12 v13 hσ12 => zpc_if (fun _ => fV_fX12_tile_141 hσ12) (fun _ => fV_fX12_tile_118 hσ12))))
theorem fV_fX12_tile_78 {σ0 : zSt} {σ : zSt} {x1 : Int32} {x2 : Int32} {x3 : Int32} {x4 : Int32} (h : (zQ [3, 5, 6, 7, 8, 9, 21, 22, 23, 24, 25, 26] [(0, 0, 0), (0, 31, 33), (0, 39, 49)] [4, 10, 11] [(0, 30, 30)]) σ0 σ) : zpc (fX12_tile_78 σ x1 x2 x3 x4) (fun r => (zQ [3, 5, 6, 7, 8, 9, 21, 22, 23, 24, 25, 26] [(0, 0, 0), (0, 31, 33), (0, 39, 49)] [4, 10, 11] [(0, 30, 30)]) σ0 (r)) := by
  unfold fX12_tile_78
  exact zpc_bi (fV_fX12_reg h) (fun σ14 v15 hσ14 => fV_fX12_tile_84 hσ14)
theorem fV_fX12_tile_55 {σ0 : zSt} {σ : zSt} {x1 : Int32} {x2 : Int32} {x3 : Int32} {s0 : Int32} (h : (zQ [3, 5, 6, 7, 8, 9, 21, 22, 23, 24, 25, 26] [(0, 0, 0), (0, 31, 33), (0, 39, 49)] [4, 10, 11] [(0, 30, 30)]) σ0 σ) : zpc (fX12_tile_55 σ x1 x2 x3 s0) (fun r => (zQ [3, 5, 6, 7, 8, 9, 21, 22, 23, 24, 25, 26] [(0, 0, 0), (0, 31, 33), (0, 39, 49)] [4, 10, 11] [(0, 30, 30)]) σ0 (r)) := by
  unfold fX12_tile_55
  exact zpc_if (fun _ => fV_fX12_tile_78 h) (fun _ => zpc_bi (fV_fX12_bit h) (fun σ16 v17 hσ16 => zpc_if (fun _ => fV_fX12_tile_84 hσ16) (fun _ => fV_fX12_tile_78 hσ16)))
theorem fV_fX12_tile_15 {σ0 : zSt} {σ : zSt} {x1 : Int32} {x2 : Int32} {s0 : Int32} (h : (zQ [3, 5, 6, 7, 8, 9, 21, 22, 23, 24, 25, 26] [(0, 0, 0), (0, 31, 33), (0, 39, 49)] [4, 10, 11] [(0, 30, 30)]) σ0 σ) : zpc (fX12_tile_15 σ x1 x2 s0) (fun r => (zQ [3, 5, 6, 7, 8, 9, 21, 22, 23, 24, 25, 26] [(0, 0, 0), (0, 31, 33), (0, 39, 49)] [4, 10, 11] [(0, 30, 30)]) σ0 (r)) := by
  unfold fX12_tile_15
  exact zpc_if (fun _ => zpc_bi (fV_fX12_reg h) (fun σ18 v19 hσ18 => zpc_ck (zpc_ck (fV_fX12_tile_55 hσ18)))) (fun _ => zpc_bi (fV_fX12_reg h) (fun σ20 v21 hσ20 => zpc_ck (fV_fX12_tile_55 hσ20)))
theorem fV_fX12_tile {σ0 : zSt} {σ : zSt} {x1 : Int32} {x2 : Int32} (h : (zQ [3, 5, 6, 7, 8, 9, 21, 22, 23, 24, 25, 26] [(0, 0, 0), (0, 31, 33), (0, 39, 49)] [4, 10, 11] [(0, 30, 30)]) σ0 σ) : zpc (fX12_tile σ x1 x2) (fun r => (zQ [3, 5, 6, 7, 8, 9, 21, 22, 23, 24, 25, 26] [(0, 0, 0), (0, 31, 33), (0, 39, 49)] [4, 10, 11] [(0, 30, 30)]) σ0 (r)) := by
  unfold fX12_tile
  exact zpc_bi (fV_fX12_height h) (fun σ22 v23 hσ22 => zpc_if (fun _ => fV_fX12_tile_15 hσ22) (fun _ => fV_fX12_tile_15 hσ22))
theorem fV_fX12_sprites_349 {σ0 : zSt} {k73 : zSt → Int32 → Int32 → Int32 → Int32 → Int32 → Int32 → Int32 → Option (zSt)} (hk73 : ∀ (y0 : zSt) (y1 : Int32) (y2 : Int32) (y3 : Int32) (y4 : Int32) (y5 : Int32) (y6 : Int32) (y7 : Int32), (zQ [3, 5, 6, 7, 8, 9, 21, 22, 23, 24, 25, 26] [(0, 0, 0), (0, 31, 33), (0, 39, 49)] [4, 10, 11] [(0, 30, 30)]) σ0 y0 → zpc (k73 y0 y1 y2 y3 y4 y5 y6 y7) (fun r => (zQ [3, 5, 6, 7, 8, 9, 21, 22, 23, 24, 25, 26] [(0, 0, 0), (0, 31, 33), (0, 39, 49)] [4, 10, 11] [(0, 30, 30)]) σ0 (r))) {σ : zSt} {x1 : Int32} {x2 : Int32} {x3 : Int32} {x4 : Int32} {x5 : Int32} {x6 : Int32} {x7 : Int32} (h : (zQ [3, 5, 6, 7, 8, 9, 21, 22, 23, 24, 25, 26] [(0, 0, 0), (0, 31, 33), (0, 39, 49)] [4, 10, 11] [(0, 30, 30)]) σ0 σ) : zpc (fX12_sprites_349 k73 σ x1 x2 x3 x4 x5 x6 x7) (fun r => (zQ [3, 5, 6, 7, 8, 9, 21, 22, 23, 24, 25, 26] [(0, 0, 0), (0, 31, 33), (0, 39, 49)] [4, 10, 11] [(0, 30, 30)]) σ0 (r)) := by
  unfold fX12_sprites_349
  exact zpc_bv (fun v1 _ => hk73 _ _ _ _ _ _ _ _ h)
theorem fV_fX12_sprites_343 {σ0 : zSt} {k73 : zSt → Int32 → Int32 → Int32 → Int32 → Int32 → Int32 → Int32 → Option (zSt)} (hk73 : ∀ (y0 : zSt) (y1 : Int32) (y2 : Int32) (y3 : Int32) (y4 : Int32) (y5 : Int32) (y6 : Int32) (y7 : Int32), (zQ [3, 5, 6, 7, 8, 9, 21, 22, 23, 24, 25, 26] [(0, 0, 0), (0, 31, 33), (0, 39, 49)] [4, 10, 11] [(0, 30, 30)]) σ0 y0 → zpc (k73 y0 y1 y2 y3 y4 y5 y6 y7) (fun r => (zQ [3, 5, 6, 7, 8, 9, 21, 22, 23, 24, 25, 26] [(0, 0, 0), (0, 31, 33), (0, 39, 49)] [4, 10, 11] [(0, 30, 30)]) σ0 (r))) {k250 : zSt → Int32 → Int32 → Int32 → Int32 → Int32 → Int32 → Int32 → Int32 → Int32 → Int32 → Int32 → Option (zSt)} (hk250 : ∀ (y0 : zSt) (y1 : Int32) (y2 : Int32) (y3 : Int32) (y4 : Int32) (y5 : Int32) (y6 : Int32) (y7 : Int32) (y8 : Int32) (y9 : Int32) (y10 : Int32) (y11 : Int32), (zQ [3, 5, 6, 7, 8, 9, 21, 22, 23, 24, 25, 26] [(0, 0, 0), (0, 31, 33), (0, 39, 49)] [4, 10, 11] [(0, 30, 30)]) σ0 y0 → zpc (k250 y0 y1 y2 y3 y4 y5 y6 y7 y8 y9 y10 y11) (fun r => (zQ [3, 5, 6, 7, 8, 9, 21, 22, 23, 24, 25, 26] [(0, 0, 0), (0, 31, 33), (0, 39, 49)] [4, 10, 11] [(0, 30, 30)]) σ0 (r))) {σ : zSt} {x1 : Int32} {x2 : Int32} {x3 : Int32} {x4 : Int32} {x5 : Int32} {x6 : Int32} {x7 : Int32} {x9 : Int32} {x10 : Int32} {x11 : Int32} {x12 : Int32} (h : (zQ [3, 5, 6, 7, 8, 9, 21, 22, 23, 24, 25, 26] [(0, 0, 0), (0, 31, 33), (0, 39, 49)] [4, 10, 11] [(0, 30, 30)]) σ0 σ) : zpc (fX12_sprites_343 k73 k250 σ x1 x2 x3 x4 x5 x6 x7 x9 x10 x11 x12) (fun r => (zQ [3, 5, 6, 7, 8, 9, 21, 22, 23, 24, 25, 26] [(0, 0, 0), (0, 31, 33), (0, 39, 49)] [4, 10, 11] [(0, 30, 30)]) σ0 (r)) := by
  unfold fX12_sprites_343
  exact zpc_bv (fun v2 _ => hk250 _ _ _ _ _ _ _ _ _ _ _ _ h)
theorem fV_fX12_sprites_250_body {σ0 : zSt} {k73 : zSt → Int32 → Int32 → Int32 → Int32 → Int32 → Int32 → Int32 → Option (zSt)} (hk73 : ∀ (y0 : zSt) (y1 : Int32) (y2 : Int32) (y3 : Int32) (y4 : Int32) (y5 : Int32) (y6 : Int32) (y7 : Int32), (zQ [3, 5, 6, 7, 8, 9, 21, 22, 23, 24, 25, 26] [(0, 0, 0), (0, 31, 33), (0, 39, 49)] [4, 10, 11] [(0, 30, 30)]) σ0 y0 → zpc (k73 y0 y1 y2 y3 y4 y5 y6 y7) (fun r => (zQ [3, 5, 6, 7, 8, 9, 21, 22, 23, 24, 25, 26] [(0, 0, 0), (0, 31, 33), (0, 39, 49)] [4, 10, 11] [(0, 30, 30)]) σ0 (r))) {k250 : zSt → Int32 → Int32 → Int32 → Int32 → Int32 → Int32 → Int32 → Int32 → Int32 → Int32 → Int32 → Option (zSt)} (hk250 : ∀ (y0 : zSt) (y1 : Int32) (y2 : Int32) (y3 : Int32) (y4 : Int32) (y5 : Int32) (y6 : Int32) (y7 : Int32) (y8 : Int32) (y9 : Int32) (y10 : Int32) (y11 : Int32), (zQ [3, 5, 6, 7, 8, 9, 21, 22, 23, 24, 25, 26] [(0, 0, 0), (0, 31, 33), (0, 39, 49)] [4, 10, 11] [(0, 30, 30)]) σ0 y0 → zpc (k250 y0 y1 y2 y3 y4 y5 y6 y7 y8 y9 y10 y11) (fun r => (zQ [3, 5, 6, 7, 8, 9, 21, 22, 23, 24, 25, 26] [(0, 0, 0), (0, 31, 33), (0, 39, 49)] [4, 10, 11] [(0, 30, 30)]) σ0 (r))) {σ : zSt} {x1 : Int32} {x2 : Int32} {x3 : Int32} {x4 : Int32} {x5 : Int32} {x6 : Int32} {x7 : Int32} {x9 : Int32} {x10 : Int32} {x11 : Int32} {x12 : Int32} (h : (zQ [3, 5, 6, 7, 8, 9, 21, 22, 23, 24, 25, 26] [(0, 0, 0), (0, 31, 33), (0, 39, 49)] [4, 10, 11] [(0, 30, 30)]) σ0 σ) : zpc (fX12_sprites_250_body k73 k250 σ x1 x2 x3 x4 x5 x6 x7 x9 x10 x11 x12) (fun r => (zQ [3, 5, 6, 7, 8, 9, 21, 22, 23, 24, 25, 26] [(0, 0, 0), (0, 31, 33), (0, 39, 49)] [4, 10, 11] [(0, 30, 30)]) σ0 (r)) := by
  unfold fX12_sprites_250_body
  exact zpc_if (fun _ => fV_fX12_sprites_349 hk73 h) (fun _ => zpc_ck (zpc_ck (zpc_ck (zpc_bi (fV_fX12_tileDot h) (fun σ3 v4 hσ3 => zpc_bv (fun v5 _ => zpc_if (fun _ => fV_fX12_sprites_343 hk73 hk250 hσ3) (fun _ => zpc_if (fun _ => fV_fX12_sprites_343 hk73 hk250 hσ3) (fun _ => zpc_if (fun _ => zpc_ck (zpc_if (fun _ => zpc_ck (zpc_bs (zQ.wi hσ3 rfl) (fun σ6 hσ6 => fV_fX12_sprites_343 hk73 hk250 hσ6))) (fun _ => zpc_ck (zpc_ck (zpc_bs (zQ.wi hσ3 rfl) (fun σ7 hσ7 => fV_fX12_sprites_343 hk73 hk250 hσ7)))))) (fun _ => fV_fX12_sprites_343 hk73 hk250 hσ3)))))))))
theorem fV_fX12_sprites_250 {σ0 : zSt} {k73 : zSt → Int32 → Int32 → Int32 → Int32 → Int32 → Int32 → Int32 → Option (zSt)} (hk73 : ∀ (y0 : zSt) (y1 : Int32) (y2 : Int32) (y3 : Int32) (y4 : Int32) (y5 : Int32) (y6 : Int32) (y7 : Int32), (zQ [3, 5, 6, 7, 8, 9, 21, 22, 23, 24, 25, 26] [(0, 0, 0), (0, 31, 33), (0, 39, 49)] [4, 10, 11] [(0, 30, 30)]) σ0 y0 → zpc (k73 y0 y1 y2 y3 y4 y5 y6 y7) (fun r => (zQ [3, 5, 6, 7, 8, 9, 21, 22, 23, 24, 25, 26] [(0, 0, 0), (0, 31, 33), (0, 39, 49)] [4, 10, 11] [(0, 30, 30)]) σ0 (r))) : ∀ (n : Nat) (y0 : zSt) (y1 : Int32) (y2 : Int32) (y3 : Int32) (y4 : Int32) (y5 : Int32) (y6 : Int32) (y7 : Int32) (y8 : Int32) (y9 : Int32) (y10 : Int32) (y11 : Int32), (zQ [3, 5, 6, 7, 8, 9, 21, 22, 23, 24, 25, 26] [(0, 0, 0), (0, 31, 33), (0, 39, 49)] [4, 10, 11] [(0, 30, 30)]) σ0 y0 → zpc (fX12_sprites_250 k73 n y0 y1 y2 y3 y4 y5 y6 y7 y8 y9 y10 y11) (fun r => (zQ [3, 5, 6, 7, 8, 9, 21, 22, 23, 24, 25, 26] [(0, 0, 0), (0, 31, 33), (0, 39, 49)] [4, 10, 11] [(0, 30, 30)]) σ0 (r)) := by
  intro n
  induction n with
  | zero => intro y0 y1 y2 y3 y4 y5 y6 y7 y8 y9 y10 y11 h; exact zpc_none
  | succ n ih => intro y0 y1 y2 y3 y4 y5 y6 y7 y8 y9 y10 y11 h; exact fV_fX12_sprites_250_body hk73 ih h
theorem fV_fX12_sprites_244 {σ0 : zSt} {k73 : zSt → Int32 → Int32 → Int32 → Int32 → Int32 → Int32 → Int32 → Option (zSt)} (hk73 : ∀ (y0 : zSt) (y1 : Int32) (y2 : Int32) (y3 : Int32) (y4 : Int32) (y5 : Int32) (y6 : Int32) (y7 : Int32), (zQ [3, 5, 6, 7, 8, 9, 21, 22, 23, 24, 25, 26] [(0, 0, 0), (0, 31, 33), (0, 39, 49)] [4, 10, 11] [(0, 30, 30)]) σ0 y0 → zpc (k73 y0 y1 y2 y3 y4 y5 y6 y7) (fun r => (zQ [3, 5, 6, 7, 8, 9, 21, 22, 23, 24, 25, 26] [(0, 0, 0), (0, 31, 33), (0, 39, 49)] [4, 10, 11] [(0, 30, 30)]) σ0 (r))) {σ : zSt} {x1 : Int32} {x2 : Int32} {x3 : Int32} {x4 : Int32} {x5 : Int32} {x6 : Int32} {x7 : Int32} {x9 : Int32} {x10 : Int32} {s0 : Int32} {s1 : Int32} (h : (zQ [3, 5, 6, 7, 8, 9, 21, 22, 23, 24, 25, 26] [(0, 0, 0), (0, 31, 33), (0, 39, 49)] [4, 10, 11] [(0, 30, 30)]) σ0 σ) : zpc (fX12_sprites_244 k73 σ x1 x2 x3 x4 x5 x6 x7 x9 x10 s0 s1) (fun r => (zQ [3, 5, 6, 7, 8, 9, 21, 22, 23, 24, 25, 26] [(0, 0, 0), (0, 31, 33), (0, 39, 49)] [4, 10, 11] [(0, 30, 30)]) σ0 (r)) := by
  unfold fX12_sprites_244
  exact zpc_bv (fun v8 _ => fV_fX12_sprites_250 hk73 _ _ _ _ _ _ _ _ _ _ _ _ _ h)
theorem fV_fX12_sprites_212 {σ0 : zSt} {k73 : zSt → Int32 → Int32 → Int32 → Int32 → Int32 → Int32 → Int32 → Option (zSt)} (hk73 : ∀ (y0 : zSt) (y1 : Int32) (y2 : Int32) (y3 : Int32) (y4 : Int32) (y5 : Int32) (y6 : Int32) (y7 : Int32), (zQ [3, 5, 6, 7, 8, 9, 21, 22, 23, 24, 25, 26] [(0, 0, 0), (0, 31, 33), (0, 39, 49)] [4, 10, 11] [(0, 30, 30)]) σ0 y0 → zpc (k73 y0 y1 y2 y3 y4 y5 y6 y7) (fun r => (zQ [3, 5, 6, 7, 8, 9, 21, 22, 23, 24, 25, 26] [(0, 0, 0), (0, 31, 33), (0, 39, 49)] [4, 10, 11] [(0, 30, 30)]) σ0 (r))) {σ : zSt} {x1 : Int32} {x2 : Int32} {x3 : Int32} {x4 : Int32} {x5 : Int32} {x6 : Int32} {x7 : Int32} {x9 : Int32} {s0 : Int32} (h : (zQ [3, 5, 6, 7, 8, 9, 21, 22, 23, 24, 25, 26] [(0, 0, 0), (0, 31, 33), (0, 39, 49)] [4, 10, 11] [(0, 30, 30)]) σ0 σ) : zpc (fX12_sprites_212 k73 σ x1 x2 x3 x4 x5 x6 x7 x9 s0) (fun r => (zQ [3, 5, 6, 7, 8, 9, 21, 22, 23, 24, 25, 26] [(0, 0, 0), (0, 31, 33), (0, 39, 49)] [4, 10, 11] [(0, 30, 30)]) σ0 (r)) := by
  unfold fX12_sprites_212
  exact zpc_bi (fV_fX12_video8 h) (fun σ9 v10 hσ9 => zpc_bi (fV_fX12_bit hσ9) (fun σ11 v12 hσ11 => zpc_if (fun _ => fV_fX12_sprites_244 hk73 hσ11) (fun _ => fV_fX12_sprites_244 hk73 hσ11)))
theorem fV_fX12_sprites_183 {σ0 : zSt} {k73 : zSt → Int32 → Int32 → Int32 → Int32 → Int32 → Int32 → Int32 → Option (zSt)} (hk73 : ∀ (y0 : zSt) (y1 : Int32) (y2 : Int32) (y3 : Int32) (y4 : Int32) (y5 : Int32) (y6 : Int32) (y7 : Int32), (zQ [3, 5, 6, 7, 8, 9, 21, 22, 23, 24, 25, 26] [(0, 0, 0), (0, 31, 33), (0, 39, 49)] [4, 10, 11] [(0, 30, 30)]) σ0 y0 → zpc (k73 y0 y1 y2 y3 y4 y5 y6 y7) (fun r => (zQ [3, 5, 6, 7, 8, 9, 21, 22, 23, 24, 25, 26] [(0, 0, 0), (0, 31, 33), (0, 39, 49)] [4, 10, 11] [(0, 30, 30)]) σ0 (r))) {σ : zSt} {x1 : Int32} {x2 : Int32} {x3 : Int32} {x4 : Int32} {x5 : Int32} {x6 : Int32} {x7 : Int32} {x9 : Int32} {s0 : Int32} {s1 : Int32} (h : (zQ [3, 5, 6, 7, 8, 9, 21, 22, 23, 24, 25, 26] [(0, 0, 0), (0, 31, 33), (0, 39, 49)] [4, 10, 11] [(0, 30, 30)]) σ0 σ) : zpc (fX12_sprites_183 k73 σ x1 x2 x3 x4 x5 x6 x7 x9 s0 s1) (fun r => (zQ [3, 5, 6, 7, 8, 9, 21, 22, 23, 24, 25, 26] [(0, 0, 0), (0, 31, 33), (0, 39, 49)] [4, 10, 11] [(0, 30, 30)]) σ0 (r)) := by
  unfold fX12_sprites_183
  exact zpc_bv (fun v13 _ => zpc_if (fun _ => zpc_ck (zpc_ck (fV_fX12_sprites_212 hk73 h))) (fun _ => fV_fX12_sprites_212 hk73 h))
theorem fV_fX12_sprites_104 {σ0 : zSt} {k73 : zSt → Int32 → Int32 → Int32 → Int32 → Int32 → Int32 → Int32 → Option (zSt)} (hk73 : ∀ (y0 : zSt) (y1 : Int32) (y2 : Int32) (y3 : Int32) (y4 : Int32) (y5 : Int32) (y6 : Int32) (y7 : Int32), (zQ [3, 5, 6, 7, 8, 9, 21, 22, 23, 24, 25, 26] [(0, 0, 0), (0, 31, 33), (0, 39, 49)] [4, 10, 11] [(0, 30, 30)]) σ0 y0 → zpc (k73 y0 y1 y2 y3 y4 y5 y6 y7) (fun r => (zQ [3, 5, 6, 7, 8, 9, 21, 22, 23, 24, 25, 26] [(0, 0, 0), (0, 31, 33), (0, 39, 49)] [4, 10, 11] [(0, 30, 30)]) σ0 (r))) {σ : zSt} {x1 : Int32} {x2 : Int32} {x3 : Int32} {x4 : Int32} {x5 : Int32} {x6 : Int32} {x7 : Int32} {x8 : Int32} (h : (zQ [3, 5, 6, 7, 8, 9, 21, 22, 23, 24, 25, 26] [(0, 0, 0), (0, 31, 33), (0, 39, 49)] [4, 10, 11] [(0, 30, 30)]) σ0 σ) : zpc (fX12_sprites_104 k73 σ x1 x2 x3 x4 x5 x6 x7 x8) (fun r => (zQ [3, 5, 6, 7, 8, 9, 21, 22, 23, 24, 25, 26] [(0, 0, 0), (0, 31, 33), (0, 39, 49)] [4, 10, 11] [(0, 30, 30)]) σ0 (r)) := by
  unfold fX12_sprites_104
  exact zpc_bv (fun v14 _ => zpc_if (fun _ => zpc_if (fun _ => zpc_ck (zpc_ck (zpc_bs (zQ.wi h rfl) (fun σ20 hσ20 => zpc_some hσ20)))) (fun _ => zpc_bv (fun v15 _ => zpc_bi (fV_fX12_video8 h) (fun σ16 v17 hσ16 => zpc_bi (fV_fX12_bit hσ16) (fun σ18 v19 hσ18 => zpc_if (fun _ => fV_fX12_sprites_183 hk73 hσ18) (fun _ => fV_fX12_sprites_183 hk73 hσ18)))))) (fun _ => fV_fX12_sprites_349 hk73 h))
theorem fV_fX12_sprites_73_body {σ0 : zSt} {k73 : zSt → Int32 → Int32 → Int32 → Int32 → Int32 → Int32 → Int32 → Option (zSt)} (hk73 : ∀ (y0 : zSt) (y1 : Int32) (y2 : Int32) (y3 : Int32) (y4 : Int32) (y5 : Int32) (y6 : Int32) (y7 : Int32), (zQ [3, 5, 6, 7, 8, 9, 21, 22, 23, 24, 25, 26] [(0, 0, 0), (0, 31, 33), (0, 39, 49)] [4, 10, 11] [(0, 30, 30)]) σ0 y0 → zpc (k73 y0 y1 y2 y3 y4 y5 y6 y7) (fun r => (zQ [3, 5, 6, 7, 8, 9, 21, 22, 23, 24, 25, 26] [(0, 0, 0), (0, 31, 33), (0, 39, 49)] [4, 10, 11] [(0, 30, 30)]) σ0 (r))) {σ : zSt} {x1 : Int32} {x2 : Int32} {x3 : Int32} {x4 : Int32} {x5 : Int32} {x6 : Int32} {x7 : Int32} (h : (zQ [3, 5, 6, 7, 8, 9, 21, 22, 23, 24, 25, 26] [(0, 0, 0), (0, 31, 33), (0, 39, 49)] [4, 10, 11] [(0, 30, 30)]) σ0 σ) : zpc (fX12_sprites_73_body k73 σ x1 x2 x3 x4 x5 x6 x7) (fun r => (zQ [3, 5, 6, 7, 8, 9, 21, 22, 23, 24, 25, 26] [(0, 0, 0), (0, 31, 33), (0, 39, 49)] [4, 10, 11] [(0, 30, 30)]) σ0 (r)) := by
  unfold fX12_sprites_73_body
  exact zpc_if (fun _ => zpc_some h) (fun _ => zpc_bi (fV_fX12_video8 h) (fun σ21 v22 hσ21 => zpc_if (fun _ => fV_fX12_sprites_104 hk73 hσ21) (fun _ => zpc_if (fun _ => zpc_some hσ21) (fun _ => fV_fX12_sprites_104 hk73 hσ21))))
theorem fV_fX12_sprites_73 {σ0 : zSt} : ∀ (n : Nat) (y0 : zSt) (y1 : Int32) (y2 : Int32) (y3 : Int32) (y4 : Int32) (y5 : Int32) (y6 : Int32) (y7 : Int32), (zQ [3, 5, 6, 7, 8, 9, 21, 22, 23, 24, 25, 26] [(0, 0, 0), (0, 31, 33), (0, 39, 49)] [4, 10, 11] [(0, 30, 30)]) σ0 y0 → zpc (fX12_sprites_73 n y0 y1 y2 y3 y4 y5 y6 y7) (fun r => (zQ [3, 5, 6, 7, 8, 9, 21, 22, 23, 24, 25, 26] [(0, 0, 0), (0, 31, 33), (0, 39, 49)] [4, 10, 11] [(0, 30, 30)]) σ0 (r)) := by
  intro n
  induction n with
  | zero => intro y0 y1 y2 y3 y4 y5 y6 y7 h; exact zpc_none
  | succ n ih => intro y0 y1 y2 y3 y4 y5 y6 y7 h; exact fV_fX12_sprites_73_body ih h
theorem fV_fX12_sprites_68 {σ0 : zSt} {σ : zSt} {x1 : Int32} {x2 : Int32} {x3 : Int32} {x4 : Int32} {x5 : Int32} {s0 : Int32} (h : (zQ [3, 5, 6, 7, 8, 9, 21, 22, 23, 24, 25, 26] [(0, 0, 0), (0, 31, 33), (0, 39, 49)] [4, 10, 11] [(0, 30, 30)]) σ0 σ) : zpc (fX12_sprites_68 σ x1 x2 x3 x4 x5 s0) (fun r => (zQ [3, 5, 6, 7, 8, 9, 21, 22, 23, 24, 25, 26] [(0, 0, 0), (0, 31, 33), (0, 39, 49)] [4, 10, 11] [(0, 30, 30)]) σ0 (r)) := by
  unfold fX12_sprites_68
  exact fV_fX12_sprites_73 _ _ _ _ _ _ _ _ _ h
theorem fV_fX12_sprites_48 {σ0 : zSt} {σ : zSt} {x1 : Int32} {x2 : Int32} {x3 : Int32} {s0 : Int32} (h : (zQ [3, 5, 6, 7, 8, 9, 21, 22, 23, 24, 25, 26] [(0, 0, 0), (0, 31, 33), (0, 39, 49)] [4, 10, 11] [(0, 30, 30)]) σ0 σ) : zpc (fX12_sprites_48 σ x1 x2 x3 s0) (fun r => (zQ [3, 5, 6, 7, 8, 9, 21, 22, 23, 24, 25, 26] [(0, 0, 0), (0, 31, 33), (0, 39, 49)] [4, 10, 11] [(0, 30, 30)]) σ0 (r)) := by
  unfold fX12_sprites_48
  exact zpc_bi (fV_fX12_height h) (fun σ23 v24 hσ23 => zpc_if (fun _ => fV_fX12_sprites_68 hσ23) (fun _ => fV_fX12_sprites_68 hσ23))
theorem fV_fX12_sprites_30 {σ0 : zSt} {σ : zSt} {x1 : Int32} {x2 : Int32} {s0 : Int32} (h : (zQ [3, 5, 6, 7, 8, 9, 21, 22, 23, 24, 25, 26] [(0, 0, 0), (0, 31, 33), (0, 39, 49)] [4, 10, 11] [(0, 30, 30)]) σ0 σ) : zpc (fX12_sprites_30 σ x1 x2 s0) (fun r => (zQ [3, 5, 6, 7, 8, 9, 21, 22, 23, 24, 25, 26] [(0, 0, 0), (0, 31, 33), (0, 39, 49)] [4, 10, 11] [(0, 30, 30)]) σ0 (r)) := by
  unfold fX12_sprites_30
  exact zpc_bi (fV_fX12_bit h) (fun σ25 v26 hσ25 => zpc_if (fun _ => fV_fX12_sprites_48 hσ25) (fun _ => fV_fX12_sprites_48 hσ25))
theorem fV_fX12_sprites {σ0 : zSt} {σ : zSt} {x1 : Int32} (h : (zQ [3, 5, 6, 7, 8, 9, 21, 22, 23, 24, 25, 26] [(0, 0, 0), (0, 31, 33), (0, 39, 49)] [4, 10, 11] [(0, 30, 30)]) σ0 σ) : zpc (fX12_sprites σ x1) (fun r => (zQ [3, 5, 6, 7, 8, 9, 21, 22, 23, 24, 25, 26] [(0, 0, 0), (0, 31, 33), (0, 39, 49)] [4, 10, 11] [(0, 30, 30)]) σ0 (r)) := by
  unfold fX12_sprites
  exact zpc_bi (fV_fX12_reg h) (fun σ27 v28 hσ27 => zpc_ck (zpc_ck (zpc_bv (fun v29 _ => zpc_bi (fV_fX12_bit hσ27) (fun σ30 v31 hσ30 => zpc_if (fun _ => fV_fX12_sprites_30 hσ30) (fun _ => fV_fX12_sprites_30 hσ30))))))
theorem fV_fX12_colour_62 {σ0 : zSt} {σ : zSt} {s0 : Int32} (h : (zQ [3, 5, 6, 7, 8, 9, 21, 22, 23, 24, 25, 26] [(0, 0, 0), (0, 31, 33), (0, 39, 49)] [4, 10, 11] [(0, 30, 30)]) σ0 σ) : zpc (fX12_colour_62 σ s0) (fun r => (zQ [3, 5, 6, 7, 8, 9, 21, 22, 23, 24, 25, 26] [(0, 0, 0), (0, 31, 33), (0, 39, 49)] [4, 10, 11] [(0, 30, 30)]) σ0 (r.1)) := by
  unfold fX12_colour_62
  exact zpc_some h
theorem fV_fX12_colour_252 {σ0 : zSt} {σ : zSt} {s0 : Int32} (h : (zQ [3, 5, 6, 7, 8, 9, 21, 22, 23, 24, 25, 26] [(0, 0, 0), (0, 31, 33), (0, 39, 49)] [4, 10, 11] [(0, 30, 30)]) σ0 σ) : zpc (fX12_colour_252 σ s0) (fun r => (zQ [3, 5, 6, 7, 8, 9, 21, 22, 23, 24, 25, 26] [(0, 0, 0), (0, 31, 33), (0, 39, 49)] [4, 10, 11] [(0, 30, 30)]) σ0 (r.1)) := by
  unfold fX12_colour_252
  exact zpc_some h
theorem fV_fX12_colour_217 {σ0 : zSt} {σ : zSt} {x2 : Int32} (h : (zQ [3, 5, 6, 7, 8, 9, 21, 22, 23, 24, 25, 26] [(0, 0, 0), (0, 31, 33), (0, 39, 49)] [4, 10, 11] [(0, 30, 30)]) σ0 σ) : zpc (fX12_colour_217 σ x2) (fun r => (zQ [3, 5, 6, 7, 8, 9, 21, 22, 23, 24, 25, 26] [(0, 0, 0), (0, 31, 33), (0, 39, 49)] [4, 10, 11] [(0, 30, 30)]) σ0 (r.1)) := by
  unfold fX12_colour_217
  exact zpc_if (fun _ => zpc_ck (zpc_ck (zpc_ck (zpc_ck (fV_fX12_colour_252 h))))) (fun _ => fV_fX12_colour_252 h)
theorem fV_fX12_colour {σ0 : zSt} {σ : zSt} {x1 : Int32} (h : (zQ [3, 5, 6, 7, 8, 9, 21, 22, 23, 24, 25, 26] [(0, 0, 0), (0, 31, 33), (0, 39, 49)] [4, 10, 11] [(0, 30, 30)]) σ0 σ) : zpc (fX12_colour σ x1) (fun r => (zQ [3, 5, 6, 7, 8, 9, 21, 22, 23, 24, 25, 26] [(0, 0, 0), (0, 31, 33), (0, 39, 49)] [4, 10, 11] [(0, 30, 30)]) σ0 (r.1)) := by
  unfold fX12_colour
  exact zpc_bi (fV_fX12_mode h) (fun σ1 v2 hσ1 => zpc_if (fun _ => zpc_if (fun _ => zpc_ck (zpc_ck (zpc_ck (fV_fX12_colour_62 hσ1)))) (fun _ => zpc_ck (fV_fX12_colour_62 hσ1))) (fun _ => zpc_if (fun _ => fV_fX12_colour_217 hσ1) (fun _ => zpc_if (fun _ => fV_fX12_colour_217 hσ1) (fun _ => zpc_if (fun _ => fV_fX12_colour_217 hσ1) (fun _ => zpc_if (fun _ => fV_fX12_colour_217 hσ1) (fun _ => zpc_if (fun _ => fV_fX12_colour_217 hσ1) (fun _ => zpc_if (fun _ => fV_fX12_colour_217 hσ1) (fun _ => zpc_if (fun _ => fV_fX12_colour_217 hσ1) (fun _ => zpc_if (fun _ => fV_fX12_colour_217 hσ1) (fun _ => zpc_if (fun _ => fV_fX12_colour_217 hσ1) (fun _ => zpc_if (fun _ => fV_fX12_colour_217 hσ1) (fun _ => zpc_if (fun _ => fV_fX12_colour_217 hσ1) (fun _ => zpc_if (fun _ => fV_fX12_colour_217 hσ1) (fun _ => zpc_if (fun _ => fV_fX12_colour_217 hσ1) (fun _ => zpc_if (fun _ => fV_fX12_colour_217 hσ1) (fun _ => fV_fX12_colour_217 hσ1))))))))))))))))
theorem fV_fX12_old_48 {σ0 : zSt} {σ : zSt} (h : (zQ [3, 5, 6, 7, 8, 9, 21, 22, 23, 24, 25, 26] [(0, 0, 0), (0, 31, 33), (0, 39, 49)] [4, 10, 11] [(0, 30, 30)]) σ0 σ) : zpc (fX12_old_48 σ) (fun r => (zQ [3, 5, 6, 7, 8, 9, 21, 22, 23, 24, 25, 26] [(0, 0, 0), (0, 31, 33), (0, 39, 49)] [4, 10, 11] [(0, 30, 30)]) σ0 (r.1)) := by
  unfold fX12_old_48
  exact zpc_some h
theorem fV_fX12_old_131 {σ0 : zSt} {σ : zSt} {s0 : Int32} (h : (zQ [3, 5, 6, 7, 8, 9, 21, 22, 23, 24, 25, 26] [(0, 0, 0), (0, 31, 33), (0, 39, 49)] [4, 10, 11] [(0, 30, 30)]) σ0 σ) : zpc (fX12_old_131 σ s0) (fun r => (zQ [3, 5, 6, 7, 8, 9, 21, 22, 23, 24, 25, 26] [(0, 0, 0), (0, 31, 33), (0, 39, 49)] [4, 10, 11] [(0, 30, 30)]) σ0 (r.1)) := by
  unfold fX12_old_131
  exact zpc_some h
theorem fV_fX12_old_209 {σ0 : zSt} {σ : zSt} {s0 : Int32} (h : (zQ [3, 5, 6, 7, 8, 9, 21, 22, 23, 24, 25, 26] [(0, 0, 0), (0, 31, 33), (0, 39, 49)] [4, 10, 11] [(0, 30, 30)]) σ0 σ) : zpc (fX12_old_209 σ s0) (fun r => (zQ [3, 5, 6, 7, 8, 9, 21, 22, 23, 24, 25, 26] [(0, 0, 0), (0, 31, 33), (0, 39, 49)] [4, 10, 11] [(0, 30, 30)]) σ0 (r.1)) := by
  unfold fX12_old_209
  exact zpc_some h
theorem fV_fX12_old_395 {σ0 : zSt} {σ : zSt} {s0 : Int32} (h : (zQ [3, 5, 6, 7, 8, 9, 21, 22, 23, 24, 25, 26] [(0, 0, 0), (0, 31, 33), (0, 39, 49)] [4, 10, 11] [(0, 30, 30)]) σ0 σ) : zpc (fX12_old_395 σ s0) (fun r => (zQ [3, 5, 6, 7, 8, 9, 21, 22, 23, 24, 25, 26] [(0, 0, 0), (0, 31, 33), (0, 39, 49)] [4, 10, 11] [(0, 30, 30)]) σ0 (r.1)) := by
  unfold fX12_old_395
  exact zpc_some h
theorem fV_fX12_old_367 {σ0 : zSt} {σ : zSt} {x2 : Int32} {x6 : Int32} {x7 : Int32} (h : (zQ [3, 5, 6, 7, 8, 9, 21, 22, 23, 24, 25, 26] [(0, 0, 0), (0, 31, 33), (0, 39, 49)] [4, 10, 11] [(0, 30, 30)]) σ0 σ) : zpc (fX12_old_367 σ x2 x6 x7) (fun r => (zQ [3, 5, 6, 7, 8, 9, 21, 22, 23, 24, 25, 26] [(0, 0, 0), (0, 31, 33), (0, 39, 49)] [4, 10, 11] [(0, 30, 30)]) σ0 (r.1)) := by
  unfold fX12_old_367
  exact zpc_ck (zpc_if (fun _ => fV_fX12_old_395 h) (fun _ => fV_fX12_old_395 h))
theorem fV_fX12_old {σ0 : zSt} {σ : zSt} {x1 : Int32} {x2 : Int32} (h : (zQ [3, 5, 6, 7, 8, 9, 21, 22, 23, 24, 25, 26] [(0, 0, 0), (0, 31, 33), (0, 39, 49)] [4, 10, 11] [(0, 30, 30)]) σ0 σ) : zpc (fX12_old σ x1 x2) (fun r => (zQ [3, 5, 6, 7, 8, 9, 21, 22, 23, 24, 25, 26] [(0, 0, 0), (0, 31, 33), (0, 39, 49)] [4, 10, 11] [(0, 30, 30)]) σ0 (r.1)) := by
  unfold fX12_old
  exact zpc_bi (fV_fX12_reg h) (fun σ1 v2 hσ1 => zpc_ck (zpc_bv (fun v3 _ => zpc_bi (fV_fX12_reg hσ1) (fun σ4 v5 hσ4 => zpc_ck (zpc_bv (fun v6 _ => zpc_bi (fV_fX12_mode hσ4) (fun σ7 v8 hσ7 => zpc_if (fun _ => zpc_if (fun _ => fV_fX12_old_48 hσ7) (fun _ => zpc_if (fun _ => zpc_ck (zpc_ck (zpc_bi (fV_fX12_video8 hσ7) (fun σ38 v39 hσ38 => zpc_ck (zpc_bi (fV_fX12_video8 hσ38) (fun σ40 v41 hσ40 => zpc_ck (zpc_bv (fun v42 _ => zpc_if (fun _ => zpc_bi (fV_fX12_reg hσ40) (fun σ45 v46 hσ45 => fV_fX12_old_131 hσ45)) (fun _ => zpc_bi (fV_fX12_reg hσ40) (fun σ43 v44 hσ43 => fV_fX12_old_131 hσ43)))))))))) (fun _ => fV_fX12_old_48 hσ7))) (fun _ => zpc_ck (zpc_ck (zpc_bi (fV_fX12_video8 hσ7) (fun σ9 v10 hσ9 => zpc_bi (fV_fX12_mode hσ9) (fun σ11 v12 hσ11 => zpc_if (fun _ => zpc_ck (zpc_ck (zpc_ck (zpc_ck (zpc_bi (fV_fX12_video8 hσ11) (fun σ36 v37 hσ36 => zpc_ck (zpc_if (fun _ => fV_fX12_old_209 hσ36) (fun _ => fV_fX12_old_209 hσ36)))))))) (fun _ => zpc_bi (fV_fX12_mode hσ11) (fun σ13 v14 hσ13 => zpc_if (fun _ => zpc_ck (zpc_bi (fV_fX12_video8 hσ13) (fun σ30 v31 hσ30 => zpc_bi (fV_fX12_reg hσ30) (fun σ32 v33 hσ32 => zpc_ck (zpc_bi (fV_fX12_video8 hσ32) (fun σ34 v35 hσ34 => fV_fX12_old_367 hσ34)))))) (fun _ => zpc_ck (zpc_bv (fun v15 _ => zpc_bi (fV_fX12_reg hσ13) (fun σ16 v17 hσ16 => zpc_ck (zpc_bv (fun v18 _ => zpc_bi (fV_fX12_reg hσ16) (fun σ19 v20 hσ19 => zpc_ck (zpc_bv (fun v21 _ => zpc_bi (fV_fX12_bit hσ19) (fun σ22 v23 hσ22 => zpc_ck (zpc_bi (fV_fX12_video8 hσ22) (fun σ24 v25 hσ24 => zpc_bi (fV_fX12_bit hσ24) (fun σ26 v27 hσ26 => zpc_ck (zpc_bi (fV_fX12_video8 hσ26) (fun σ28 v29 hσ28 => fV_fX12_old_367 hσ28)))))))))))))))))))))))))))))
theorem fV_fX12_oldSprites_388 {σ0 : zSt} {k40 : zSt → Int32 → Int32 → Int32 → Int32 → Int32 → Option (zSt)} (hk40 : ∀ (y0 : zSt) (y1 : Int32) (y2 : Int32) (y3 : Int32) (y4 : Int32) (y5 : Int32), (zQ [3, 5, 6, 7, 8, 9, 21, 22, 23, 24, 25, 26] [(0, 0, 0), (0, 31, 33), (0, 39, 49)] [4, 10, 11] [(0, 30, 30)]) σ0 y0 → zpc (k40 y0 y1 y2 y3 y4 y5) (fun r => (zQ [3, 5, 6, 7, 8, 9, 21, 22, 23, 24, 25, 26] [(0, 0, 0), (0, 31, 33), (0, 39, 49)] [4, 10, 11] [(0, 30, 30)]) σ0 (r))) {σ : zSt} {x1 : Int32} {x2 : Int32} {x3 : Int32} {x4 : Int32} {x5 : Int32} (h : (zQ [3, 5, 6, 7, 8, 9, 21, 22, 23, 24, 25, 26] [(0, 0, 0), (0, 31, 33), (0, 39, 49)] [4, 10, 11] [(0, 30, 30)]) σ0 σ) : zpc (fX12_oldSprites_388 k40 σ x1 x2 x3 x4 x5) (fun r => (zQ [3, 5, 6, 7, 8, 9, 21, 22, 23, 24, 25, 26] [(0, 0, 0), (0, 31, 33), (0, 39, 49)] [4, 10, 11] [(0, 30, 30)]) σ0 (r)) := by
  unfold fX12_oldSprites_388
  exact zpc_bv (fun v1 _ => hk40 _ _ _ _ _ _ h)
theorem fV_fX12_oldSprites_150 {σ0 : zSt} {σ : zSt} (h : (zQ [3, 5, 6, 7, 8, 9, 21, 22, 23, 24, 25, 26] [(0, 0, 0), (0, 31, 33), (0, 39, 49)] [4, 10, 11] [(0, 30, 30)]) σ0 σ) : zpc (fX12_oldSprites_150 σ) (fun r => (zQ [3, 5, 6, 7, 8, 9, 21, 22, 23, 24, 25, 26] [(0, 0, 0), (0, 31, 33), (0, 39, 49)] [4, 10, 11] [(0, 30, 30)]) σ0 (r)) := by
  unfold fX12_oldSprites_150
  exact zpc_some h
theorem fV_fX12_oldSprites_382 {σ0 : zSt} {k40 : zSt → Int32 → Int32 → Int32 → Int32 → Int32 → Option (zSt)} (hk40 : ∀ (y0 : zSt) (y1 : Int32) (y2 : Int32) (y3 : Int32) (y4 : Int32) (y5 : Int32), (zQ [3, 5, 6, 7, 8, 9, 21, 22, 23, 24, 25, 26] [(0, 0, 0), (0, 31, 33), (0, 39, 49)] [4, 10, 11] [(0, 30, 30)]) σ0 y0 → zpc (k40 y0 y1 y2 y3 y4 y5) (fun r => (zQ [3, 5, 6, 7, 8, 9, 21, 22, 23, 24, 25, 26] [(0, 0, 0), (0, 31, 33), (0, 39, 49)] [4, 10, 11] [(0, 30, 30)]) σ0 (r))) {k231 : zSt → Int32 → Int32 → Int32 → Int32 → Int32 → Int32 → Int32 → Int32 → Int32 → Int32 → Option (zSt)} (hk231 : ∀ (y0 : zSt) (y1 : Int32) (y2 : Int32) (y3 : Int32) (y4 : Int32) (y5 : Int32) (y6 : Int32) (y7 : Int32) (y8 : Int32) (y9 : Int32) (y10 : Int32), (zQ [3, 5, 6, 7, 8, 9, 21, 22, 23, 24, 25, 26] [(0, 0, 0), (0, 31, 33), (0, 39, 49)] [4, 10, 11] [(0, 30, 30)]) σ0 y0 → zpc (k231 y0 y1 y2 y3 y4 y5 y6 y7 y8 y9 y10) (fun r => (zQ [3, 5, 6, 7, 8, 9, 21, 22, 23, 24, 25, 26] [(0, 0, 0), (0, 31, 33), (0, 39, 49)] [4, 10, 11] [(0, 30, 30)]) σ0 (r))) {σ : zSt} {x1 : Int32} {x2 : Int32} {x3 : Int32} {x4 : Int32} {x5 : Int32} {x8 : Int32} {x9 : Int32} {x10 : Int32} {x11 : Int32} {x12 : Int32} (h : (zQ [3, 5, 6, 7, 8, 9, 21, 22, 23, 24, 25, 26] [(0, 0, 0), (0, 31, 33), (0, 39, 49)] [4, 10, 11] [(0, 30, 30)]) σ0 σ) : zpc (fX12_oldSprites_382 k40 k231 σ x1 x2 x3 x4 x5 x8 x9 x10 x11 x12) (fun r => (zQ [3, 5, 6, 7, 8, 9, 21, 22, 23, 24, 25, 26] [(0, 0, 0), (0, 31, 33), (0, 39, 49)] [4, 10, 11] [(0, 30, 30)]) σ0 (r)) := by
  unfold fX12_oldSprites_382
  exact zpc_bv (fun v2 _ => hk231 _ _ _ _ _ _ _ _ _ _ _ h)
theorem fV_fX12_oldSprites_350 {σ0 : zSt} {k40 : zSt → Int32 → Int32 → Int32 → Int32 → Int32 → Option (zSt)} (hk40 : ∀ (y0 : zSt) (y1 : Int32) (y2 : Int32) (y3 : Int32) (y4 : Int32) (y5 : Int32), (zQ [3, 5, 6, 7, 8, 9, 21, 22, 23, 24, 25, 26] [(0, 0, 0), (0, 31, 33), (0, 39, 49)] [4, 10, 11] [(0, 30, 30)]) σ0 y0 → zpc (k40 y0 y1 y2 y3 y4 y5) (fun r => (zQ [3, 5, 6, 7, 8, 9, 21, 22, 23, 24, 25, 26] [(0, 0, 0), (0, 31, 33), (0, 39, 49)] [4, 10, 11] [(0, 30, 30)]) σ0 (r))) {k231 : zSt → Int32 → Int32 → Int32 → Int32 → Int32 → Int32 → Int32 → Int32 → Int32 → Int32 → Option (zSt)} (hk231 : ∀ (y0 : zSt) (y1 : Int32) (y2 : Int32) (y3 : Int32) (y4 : Int32) (y5 : Int32) (y6 : Int32) (y7 : Int32) (y8 : Int32) (y9 : Int32) (y10 : Int32), (zQ [3, 5, 6, 7, 8, 9, 21, 22, 23, 24, 25, 26] [(0, 0, 0), (0, 31, 33), (0, 39, 49)] [4, 10, 11] [(0, 30, 30)]) σ0 y0 → zpc (k231 y0 y1 y2 y3 y4 y5 y6 y7 y8 y9 y10) (fun r => (zQ [3, 5, 6, 7, 8, 9, 21, 22, 23, 24, 25, 26] [(0, 0, 0), (0, 31, 33), (0, 39, 49)] [4, 10, 11] [(0, 30, 30)]) σ0 (r))) {σ : zSt} {x1 : Int32} {x2 : Int32} {x3 : Int32} {x4 : Int32} {x5 : Int32} {x8 : Int32} {x9 : Int32} {x10 : Int32} {x11 : Int32} {x12 : Int32} {x15 : Int32} (h : (zQ [3, 5, 6, 7, 8, 9, 21, 22, 23, 24, 25, 26] [(0, 0, 0), (0, 31, 33), (0, 39, 49)] [4, 10, 11] [(0, 30, 30)]) σ0 σ) : zpc (fX12_oldSprites_350 k40 k231 σ x1 x2 x3 x4 x5 x8 x9 x10 x11 x12 x15) (fun r => (zQ [3, 5, 6, 7, 8, 9, 21, 22, 23, 24, 25, 26] [(0, 0, 0), (0, 31, 33), (0, 39, 49)] [4, 10, 11] [(0, 30, 30)]) σ0 (r)) := by
  unfold fX12_oldSprites_350
  exact zpc_ck (zpc_bs (zQ.wi h rfl) (fun σ3 hσ3 => zpc_if (fun _ => fV_fX12_oldSprites_382 hk40 hk231 hσ3) (fun _ => zpc_ck (zpc_if (fun _ => zpc_ck (zpc_bs (zQ.wi hσ3 rfl) (fun σ4 hσ4 => fV_fX12_oldSprites_382 hk40 hk231 hσ4))) (fun _ => fV_fX12_oldSprites_382 hk40 hk231 hσ3)))))
theorem fV_fX12_oldSprites_283 {σ0 : zSt} {k40 : zSt → Int32 → Int32 → Int32 → Int32 → Int32 → Option (zSt)} (hk40 : ∀ (y0 : zSt) (y1 : Int32) (y2 : Int32) (y3 : Int32) (y4 : Int32) (y5 : Int32), (zQ [3, 5, 6, 7, 8, 9, 21, 22, 23, 24, 25, 26] [(0, 0, 0), (0, 31, 33), (0, 39, 49)] [4, 10, 11] [(0, 30, 30)]) σ0 y0 → zpc (k40 y0 y1 y2 y3 y4 y5) (fun r => (zQ [3, 5, 6, 7, 8, 9, 21, 22, 23, 24, 25, 26] [(0, 0, 0), (0, 31, 33), (0, 39, 49)] [4, 10, 11] [(0, 30, 30)]) σ0 (r))) {k231 : zSt → Int32 → Int32 → Int32 → Int32 → Int32 → Int32 → Int32 → Int32 → Int32 → Int32 → Option (zSt)} (hk231 : ∀ (y0 : zSt) (y1 : Int32) (y2 : Int32) (y3 : Int32) (y4 : Int32) (y5 : Int32) (y6 : Int32) (y7 : Int32) (y8 : Int32) (y9 : Int32) (y10 : Int32), (zQ [3, 5, 6, 7, 8, 9, 21, 22, 23, 24, 25, 26] [(0, 0, 0), (0, 31, 33), (0, 39, 49)] [4, 10, 11] [(0, 30, 30)]) σ0 y0 → zpc (k231 y0 y1 y2 y3 y4 y5 y6 y7 y8 y9 y10) (fun r => (zQ [3, 5, 6, 7, 8, 9, 21, 22, 23, 24, 25, 26] [(0, 0, 0), (0, 31, 33), (0, 39, 49)] [4, 10, 11] [(0, 30, 30)]) σ0 (r))) {σ : zSt} {x1 : Int32} {x2 : Int32} {x3 : Int32} {x4 : Int32} {x5 : Int32} {x8 : Int32} {x9 : Int32} {x10 : Int32} {x11 : Int32} {x12 : Int32} {x13 : Int32} {s0 : Int32} {s1 : Int32} (h : (zQ [3, 5, 6, 7, 8, 9, 21, 22, 23, 24, 25, 26] [(0, 0, 0), (0, 31, 33), (0, 39, 49)] [4, 10, 11] [(0, 30, 30)]) σ0 σ) : zpc (fX12_oldSprites_283 k40 k231 σ x1 x2 x3 x4 x5 x8 x9 x10 x11 x12 x13 s0 s1) (fun r => (zQ [3, 5, 6, 7, 8, 9, 21, 22, 23, 24, 25, 26] [(0, 0, 0), (0, 31, 33), (0, 39, 49)] [4, 10, 11] [(0, 30, 30)]) σ0 (r)) := by
  unfold fX12_oldSprites_283
  exact zpc_bi (fV_fX12_video8 h) (fun σ5 v6 hσ5 => zpc_ck (zpc_bv (fun v7 _ => zpc_bv (fun v8 _ => zpc_if (fun _ => fV_fX12_oldSprites_382 hk40 hk231 hσ5) (fun _ => zpc_if (fun _ => fV_fX12_oldSprites_382 hk40 hk231 hσ5) (fun _ => zpc_if (fun _ => zpc_ck (zpc_if (fun _ => fV_fX12_oldSprites_350 hk40 hk231 hσ5) (fun _ => zpc_ck (zpc_ck (zpc_bs (zQ.wi hσ5 rfl) (fun σ9 hσ9 => fV_fX12_oldSprites_350 hk40 hk231 hσ9)))))) (fun _ => fV_fX12_oldSprites_382 hk40 hk231 hσ5)))))))
theorem fV_fX12_oldSprites_231_body {σ0 : zSt} {k40 : zSt → Int32 → Int32 → Int32 → Int32 → Int32 → Option (zSt)} (hk40 : ∀ (y0 : zSt) (y1 : Int32) (y2 : Int32) (y3 : Int32) (y4 : Int32) (y5 : Int32), (zQ [3, 5, 6, 7, 8, 9, 21, 22, 23, 24, 25, 26] [(0, 0, 0), (0, 31, 33), (0, 39, 49)] [4, 10, 11] [(0, 30, 30)]) σ0 y0 → zpc (k40 y0 y1 y2 y3 y4 y5) (fun r => (zQ [3, 5, 6, 7, 8, 9, 21, 22, 23, 24, 25, 26] [(0, 0, 0), (0, 31, 33), (0, 39, 49)] [4, 10, 11] [(0, 30, 30)]) σ0 (r))) {k231 : zSt → Int32 → Int32 → Int32 → Int32 → Int32 → Int32 → Int32 → Int32 → Int32 → Int32 → Option (zSt)} (hk231 : ∀ (y0 : zSt) (y1 : Int32) (y2 : Int32) (y3 : Int32) (y4 : Int32) (y5 : Int32) (y6 : Int32) (y7 : Int32) (y8 : Int32) (y9 : Int32) (y10 : Int32), (zQ [3, 5, 6, 7, 8, 9, 21, 22, 23, 24, 25, 26] [(0, 0, 0), (0, 31, 33), (0, 39, 49)] [4, 10, 11] [(0, 30, 30)]) σ0 y0 → zpc (k231 y0 y1 y2 y3 y4 y5 y6 y7 y8 y9 y10) (fun r => (zQ [3, 5, 6, 7, 8, 9, 21, 22, 23, 24, 25, 26] [(0, 0, 0), (0, 31, 33), (0, 39, 49)] [4, 10, 11] [(0, 30, 30)]) σ0 (r))) {σ : zSt} {x1 : Int32} {x2 : Int32} {x3 : Int32} {x4 : Int32} {x5 : Int32} {x8 : Int32} {x9 : Int32} {x10 : Int32} {x11 : Int32} {x12 : Int32} (h : (zQ [3, 5, 6, 7, 8, 9, 21, 22, 23, 24, 25, 26] [(0, 0, 0), (0, 31, 33), (0, 39, 49)] [4, 10, 11] [(0, 30, 30)]) σ0 σ) : zpc (fX12_oldSprites_231_body k40 k231 σ x1 x2 x3 x4 x5 x8 x9 x10 x11 x12) (fun r => (zQ [3, 5, 6, 7, 8, 9, 21, 22, 23, 24, 25, 26] [(0, 0, 0), (0, 31, 33), (0, 39, 49)] [4, 10, 11] [(0, 30, 30)]) σ0 (r)) := by
  unfold fX12_oldSprites_231_body
  exact zpc_if (fun _ => fV_fX12_oldSprites_388 hk40 h) (fun _ => zpc_ck (zpc_bv (fun v10 _ => zpc_bi (fV_fX12_reg h) (fun σ11 v12 hσ11 => zpc_ck (zpc_ck (zpc_if (fun _ => fV_fX12_oldSprites_283 hk40 hk231 hσ11) (fun _ => fV_fX12_oldSprites_283 hk40 hk231 hσ11)))))))
theorem fV_fX12_oldSprites_231 {σ0 : zSt} {k40 : zSt → Int32 → Int32 → Int32 → Int32 → Int32 → Option (zSt)} (hk40 : ∀ (y0 : zSt) (y1 : Int32) (y2 : Int32) (y3 : Int32) (y4 : Int32) (y5 : Int32), (zQ [3, 5, 6, 7, 8, 9, 21, 22, 23, 24, 25, 26] [(0, 0, 0), (0, 31, 33), (0, 39, 49)] [4, 10, 11] [(0, 30, 30)]) σ0 y0 → zpc (k40 y0 y1 y2 y3 y4 y5) (fun r => (zQ [3, 5, 6, 7, 8, 9, 21, 22, 23, 24, 25, 26] [(0, 0, 0), (0, 31, 33), (0, 39, 49)] [4, 10, 11] [(0, 30, 30)]) σ0 (r))) : ∀ (n : Nat) (y0 : zSt) (y1 : Int32) (y2 : Int32) (y3 : Int32) (y4 : Int32) (y5 : Int32) (y6 : Int32) (y7 : Int32) (y8 : Int32) (y9 : Int32) (y10 : Int32), (zQ [3, 5, 6, 7, 8, 9, 21, 22, 23, 24, 25, 26] [(0, 0, 0), (0, 31, 33), (0, 39, 49)] [4, 10, 11] [(0, 30, 30)]) σ0 y0 → zpc (fX12_oldSprites_231 k40 n y0 y1 y2 y3 y4 y5 y6 y7 y8 y9 y10) (fun r => (zQ [3, 5, 6, 7, 8, 9, 21, 22, 23, 24, 25, 26] [(0, 0, 0), (0, 31, 33), (0, 39, 49)] [4, 10, 11] [(0, 30, 30)]) σ0 (r)) := by
  intro n
  induction n with
  | zero => intro y0 y1 y2 y3 y4 y5 y6 y7 y8 y9 y10 h; exact zpc_none
  | succ n ih => intro y0 y1 y2 y3 y4 y5 y6 y7 y8 y9 y10 h; exact fV_fX12_oldSprites_231_body hk40 ih h
theorem fV_fX12_oldSprites_225 {σ0 : zSt} {k40 : zSt → Int32 → Int32 → Int32 → Int32 → Int32 → Option (zSt)} (hk40 : ∀ (y0 : zSt) (y1 : Int32) (y2 : Int32) (y3 : Int32) (y4 : Int32) (y5 : Int32), (zQ [3, 5, 6, 7, 8, 9, 21, 22, 23, 24, 25, 26] [(0, 0, 0), (0, 31, 33), (0, 39, 49)] [4, 10, 11] [(0, 30, 30)]) σ0 y0 → zpc (k40 y0 y1 y2 y3 y4 y5) (fun r => (zQ [3, 5, 6, 7, 8, 9, 21, 22, 23, 24, 25, 26] [(0, 0, 0), (0, 31, 33), (0, 39, 49)] [4, 10, 11] [(0, 30, 30)]) σ0 (r))) {σ : zSt} {x1 : Int32} {x2 : Int32} {x3 : Int32} {x4 : Int32} {x5 : Int32} {x8 : Int32} {x9 : Int32} {x10 : Int32} {s0 : Int32} {s1 : Int32} (h : (zQ [3, 5, 6, 7, 8, 9, 21, 22, 23, 24, 25, 26] [(0, 0, 0), (0, 31, 33), (0, 39, 49)] [4, 10, 11] [(0, 30, 30)]) σ0 σ) : zpc (fX12_oldSprites_225 k40 σ x1 x2 x3 x4 x5 x8 x9 x10 s0 s1) (fun r => (zQ [3, 5, 6, 7, 8, 9, 21, 22, 23, 24, 25, 26] [(0, 0, 0), (0, 31, 33), (0, 39, 49)] [4, 10, 11] [(0, 30, 30)]) σ0 (r)) := by
  unfold fX12_oldSprites_225
  exact zpc_bv (fun v13 _ => fV_fX12_oldSprites_231 hk40 _ _ _ _ _ _ _ _ _ _ _ _ h)
theorem fV_fX12_oldSprites_183 {σ0 : zSt} {k40 : zSt → Int32 → Int32 → Int32 → Int32 → Int32 → Option (zSt)} (hk40 : ∀ (y0 : zSt) (y1 : Int32) (y2 : Int32) (y3 : Int32) (y4 : Int32) (y5 : Int32), (zQ [3, 5, 6, 7, 8, 9, 21, 22, 23, 24, 25, 26] [(0, 0, 0), (0, 31, 33), (0, 39, 49)] [4, 10, 11] [(0, 30, 30)]) σ0 y0 → zpc (k40 y0 y1 y2 y3 y4 y5) (fun r => (zQ [3, 5, 6, 7, 8, 9, 21, 22, 23, 24, 25, 26] [(0, 0, 0), (0, 31, 33), (0, 39, 49)] [4, 10, 11] [(0, 30, 30)]) σ0 (r))) {σ : zSt} {x1 : Int32} {x2 : Int32} {x3 : Int32} {x4 : Int32} {x5 : Int32} {x6 : Int32} {x8 : Int32} {s0 : Int32} (h : (zQ [3, 5, 6, 7, 8, 9, 21, 22, 23, 24, 25, 26] [(0, 0, 0), (0, 31, 33), (0, 39, 49)] [4, 10, 11] [(0, 30, 30)]) σ0 σ) : zpc (fX12_oldSprites_183 k40 σ x1 x2 x3 x4 x5 x6 x8 s0) (fun r => (zQ [3, 5, 6, 7, 8, 9, 21, 22, 23, 24, 25, 26] [(0, 0, 0), (0, 31, 33), (0, 39, 49)] [4, 10, 11] [(0, 30, 30)]) σ0 (r)) := by
  unfold fX12_oldSprites_183
  exact zpc_bi (fV_fX12_video8 h) (fun σ14 v15 hσ14 => zpc_bv (fun v16 _ => zpc_bi (fV_fX12_video8 hσ14) (fun σ17 v18 hσ17 => zpc_bi (fV_fX12_video8 hσ17) (fun σ19 v20 hσ19 => zpc_if (fun _ => fV_fX12_oldSprites_225 hk40 hσ19) (fun _ => fV_fX12_oldSprites_225 hk40 hσ19)))))
theorem fV_fX12_oldSprites_40_body {σ0 : zSt} {k40 : zSt → Int32 → Int32 → Int32 → Int32 → Int32 → Option (zSt)} (hk40 : ∀ (y0 : zSt) (y1 : Int32) (y2 : Int32) (y3 : Int32) (y4 : Int32) (y5 : Int32), (zQ [3, 5, 6, 7, 8, 9, 21, 22, 23, 24, 25, 26] [(0, 0, 0), (0, 31, 33), (0, 39, 49)] [4, 10, 11] [(0, 30, 30)]) σ0 y0 → zpc (k40 y0 y1 y2 y3 y4 y5) (fun r => (zQ [3, 5, 6, 7, 8, 9, 21, 22, 23, 24, 25, 26] [(0, 0, 0), (0, 31, 33), (0, 39, 49)] [4, 10, 11] [(0, 30, 30)]) σ0 (r))) {σ : zSt} {x1 : Int32} {x2 : Int32} {x3 : Int32} {x4 : Int32} {x5 : Int32} (h : (zQ [3, 5, 6, 7, 8, 9, 21, 22, 23, 24, 25, 26] [(0, 0, 0), (0, 31, 33), (0, 39, 49)] [4, 10, 11] [(0, 30, 30)]) σ0 σ) : zpc (fX12_oldSprites_40_body k40 σ x1 x2 x3 x4 x5) (fun r => (zQ [3, 5, 6, 7, 8, 9, 21, 22, 23, 24, 25, 26] [(0, 0, 0), (0, 31, 33), (0, 39, 49)] [4, 10, 11] [(0, 30, 30)]) σ0 (r)) := by
  unfold fX12_oldSprites_40_body
  exact zpc_if (fun _ => zpc_some h) (fun _ => zpc_bi (fV_fX12_reg h) (fun σ21 v22 hσ21 => zpc_ck (zpc_bv (fun v23 _ => zpc_bi (fV_fX12_video8 hσ21) (fun σ24 v25 hσ24 => zpc_if (fun _ => zpc_some hσ24) (fun _ => zpc_bv (fun v26 _ => zpc_if (fun _ => zpc_if (fun _ => zpc_ck (zpc_if (fun _ => zpc_ck (zpc_ck (zpc_bs (zQ.wi hσ24 rfl) (fun σ32 hσ32 => fV_fX12_oldSprites_150 hσ32)))) (fun _ => fV_fX12_oldSprites_150 hσ24))) (fun _ => zpc_bv (fun v27 _ => zpc_if (fun _ => zpc_bi (fV_fX12_video8 hσ24) (fun σ30 v31 hσ30 => fV_fX12_oldSprites_183 hk40 hσ30)) (fun _ => zpc_bi (fV_fX12_video8 hσ24) (fun σ28 v29 hσ28 => fV_fX12_oldSprites_183 hk40 hσ28))))) (fun _ => fV_fX12_oldSprites_388 hk40 hσ24))))))))
theorem fV_fX12_oldSprites_40 {σ0 : zSt} : ∀ (n : Nat) (y0 : zSt) (y1 : Int32) (y2 : Int32) (y3 : Int32) (y4 : Int32) (y5 : Int32), (zQ [3, 5, 6, 7, 8, 9, 21, 22, 23, 24, 25, 26] [(0, 0, 0), (0, 31, 33), (0, 39, 49)] [4, 10, 11] [(0, 30, 30)]) σ0 y0 → zpc (fX12_oldSprites_40 n y0 y1 y2 y3 y4 y5) (fun r => (zQ [3, 5, 6, 7, 8, 9, 21, 22, 23, 24, 25, 26] [(0, 0, 0), (0, 31, 33), (0, 39, 49)] [4, 10, 11] [(0, 30, 30)]) σ0 (r)) := by
  intro n
  induction n with
  | zero => intro y0 y1 y2 y3 y4 y5 h; exact zpc_none
  | succ n ih => intro y0 y1 y2 y3 y4 y5 h; exact fV_fX12_oldSprites_40_body ih h
theorem fV_fX12_oldSprites_33 {σ0 : zSt} {σ : zSt} {x1 : Int32} {x2 : Int32} {s0 : Int32} (h : (zQ [3, 5, 6, 7, 8, 9, 21, 22, 23, 24, 25, 26] [(0, 0, 0), (0, 31, 33), (0, 39, 49)] [4, 10, 11] [(0, 30, 30)]) σ0 σ) : zpc (fX12_oldSprites_33 σ x1 x2 s0) (fun r => (zQ [3, 5, 6, 7, 8, 9, 21, 22, 23, 24, 25, 26] [(0, 0, 0), (0, 31, 33), (0, 39, 49)] [4, 10, 11] [(0, 30, 30)]) σ0 (r)) := by
  unfold fX12_oldSprites_33
  exact fV_fX12_oldSprites_40 _ _ _ _ _ _ _ h
theorem fV_fX12_oldSprites_15 {σ0 : zSt} {σ : zSt} {x1 : Int32} {s0 : Int32} (h : (zQ [3, 5, 6, 7, 8, 9, 21, 22, 23, 24, 25, 26] [(0, 0, 0), (0, 31, 33), (0, 39, 49)] [4, 10, 11] [(0, 30, 30)]) σ0 σ) : zpc (fX12_oldSprites_15 σ x1 s0) (fun r => (zQ [3, 5, 6, 7, 8, 9, 21, 22, 23, 24, 25, 26] [(0, 0, 0), (0, 31, 33), (0, 39, 49)] [4, 10, 11] [(0, 30, 30)]) σ0 (r)) := by
  unfold fX12_oldSprites_15
  exact zpc_bi (fV_fX12_bit h) (fun σ33 v34 hσ33 => zpc_if (fun _ => fV_fX12_oldSprites_33 hσ33) (fun _ => fV_fX12_oldSprites_33 hσ33))
theorem fV_fX12_oldSprites {σ0 : zSt} {σ : zSt} {x1 : Int32} (h : (zQ [3, 5, 6, 7, 8, 9, 21, 22, 23, 24, 25, 26] [(0, 0, 0), (0, 31, 33), (0, 39, 49)] [4, 10, 11] [(0, 30, 30)]) σ0 σ) : zpc (fX12_oldSprites σ x1) (fun r => (zQ [3, 5, 6, 7, 8, 9, 21, 22, 23, 24, 25, 26] [(0, 0, 0), (0, 31, 33), (0, 39, 49)] [4, 10, 11] [(0, 30, 30)]) σ0 (r)) := by
  unfold fX12_oldSprites
  exact zpc_bi (fV_fX12_bit h) (fun σ35 v36 hσ35 => zpc_if (fun _ => fV_fX12_oldSprites_15 hσ35) (fun _ => fV_fX12_oldSprites_15 hσ35))
theorem fV_fX12_draws_302_body {σ0 : zSt} {k302 : zSt → Int32 → Int32 → Option (zSt)} (hk302 : ∀ (y0 : zSt) (y1 : Int32) (y2 : Int32), (zQ [3, 5, 6, 7, 8, 9, 21, 22, 23, 24, 25, 26] [(0, 0, 0), (0, 31, 33), (0, 39, 49)] [4, 10, 11] [(0, 30, 30)]) σ0 y0 → zpc (k302 y0 y1 y2) (fun r => (zQ [3, 5, 6, 7, 8, 9, 21, 22, 23, 24, 25, 26] [(0, 0, 0), (0, 31, 33), (0, 39, 49)] [4, 10, 11] [(0, 30, 30)]) σ0 (r))) {σ : zSt} {x1 : Int32} {x3 : Int32} (h : (zQ [3, 5, 6, 7, 8, 9, 21, 22, 23, 24, 25, 26] [(0, 0, 0), (0, 31, 33), (0, 39, 49)] [4, 10, 11] [(0, 30, 30)]) σ0 σ) : zpc (fX12_draws_302_body k302 σ x1 x3) (fun r => (zQ [3, 5, 6, 7, 8, 9, 21, 22, 23, 24, 25, 26] [(0, 0, 0), (0, 31, 33), (0, 39, 49)] [4, 10, 11] [(0, 30, 30)]) σ0 (r)) := by
  unfold fX12_draws_302_body
  exact zpc_if (fun _ => zpc_some h) (fun _ => zpc_ck (zpc_bi (fV_fX12_colour h) (fun σ1 v2 hσ1 => zpc_ck (zpc_bs (zQ.wi hσ1 rfl) (fun σ3 hσ3 => zpc_bv (fun v4 _ => hk302 _ _ _ hσ3))))))
theorem fV_fX12_draws_302 {σ0 : zSt} : ∀ (n : Nat) (y0 : zSt) (y1 : Int32) (y2 : Int32), (zQ [3, 5, 6, 7, 8, 9, 21, 22, 23, 24, 25, 26] [(0, 0, 0), (0, 31, 33), (0, 39, 49)] [4, 10, 11] [(0, 30, 30)]) σ0 y0 → zpc (fX12_draws_302 n y0 y1 y2) (fun r => (zQ [3, 5, 6, 7, 8, 9, 21, 22, 23, 24, 25, 26] [(0, 0, 0), (0, 31, 33), (0, 39, 49)] [4, 10, 11] [(0, 30, 30)]) σ0 (r)) := by
  intro n
  induction n with
  | zero => intro y0 y1 y2 h; exact zpc_none
  | succ n ih => intro y0 y1 y2 h; exact fV_fX12_draws_302_body ih h
theorem fV_fX12_draws_300 {σ0 : zSt} {σ : zSt} {x1 : Int32} (h : (zQ [3, 5, 6, 7, 8, 9, 21, 22, 23, 24, 25, 26] [(0, 0, 0), (0, 31, 33), (0, 39, 49)] [4, 10, 11] [(0, 30, 30)]) σ0 σ) : zpc (fX12_draws_300 σ x1) (fun r => (zQ [3, 5, 6, 7, 8, 9, 21, 22, 23, 24, 25, 26] [(0, 0, 0), (0, 31, 33), (0, 39, 49)] [4, 10, 11] [(0, 30, 30)]) σ0 (r)) := by
  unfold fX12_draws_300
  exact fV_fX12_draws_302 _ _ _ _ h
theorem fV_fX12_draws_244 {σ0 : zSt} {k213 : zSt → Int32 → Int32 → Int32 → Option (zSt)} (hk213 : ∀ (y0 : zSt) (y1 : Int32) (y2 : Int32) (y3 : Int32), (zQ [3, 5, 6, 7, 8, 9, 21, 22, 23, 24, 25, 26] [(0, 0, 0), (0, 31, 33), (0, 39, 49)] [4, 10, 11] [(0, 30, 30)]) σ0 y0 → zpc (k213 y0 y1 y2 y3) (fun r => (zQ [3, 5, 6, 7, 8, 9, 21, 22, 23, 24, 25, 26] [(0, 0, 0), (0, 31, 33), (0, 39, 49)] [4, 10, 11] [(0, 30, 30)]) σ0 (r))) {σ : zSt} {x1 : Int32} {x2 : Int32} {x3 : Int32} {s0 : Int32} {s1 : Int32} (h : (zQ [3, 5, 6, 7, 8, 9, 21, 22, 23, 24, 25, 26] [(0, 0, 0), (0, 31, 33), (0, 39, 49)] [4, 10, 11] [(0, 30, 30)]) σ0 σ) : zpc (fX12_draws_244 k213 σ x1 x2 x3 s0 s1) (fun r => (zQ [3, 5, 6, 7, 8, 9, 21, 22, 23, 24, 25, 26] [(0, 0, 0), (0, 31, 33), (0, 39, 49)] [4, 10, 11] [(0, 30, 30)]) σ0 (r)) := by
  unfold fX12_draws_244
  exact zpc_ck (zpc_bs (zQ.wi h rfl) (fun σ5 hσ5 => zpc_bv (fun v6 _ => hk213 _ _ _ _ hσ5)))
theorem fV_fX12_draws_294 {σ0 : zSt} {k266 : zSt → Int32 → Int32 → Option (zSt)} (hk266 : ∀ (y0 : zSt) (y1 : Int32) (y2 : Int32), (zQ [3, 5, 6, 7, 8, 9, 21, 22, 23, 24, 25, 26] [(0, 0, 0), (0, 31, 33), (0, 39, 49)] [4, 10, 11] [(0, 30, 30)]) σ0 y0 → zpc (k266 y0 y1 y2) (fun r => (zQ [3, 5, 6, 7, 8, 9, 21, 22, 23, 24, 25, 26] [(0, 0, 0), (0, 31, 33), (0, 39, 49)] [4, 10, 11] [(0, 30, 30)]) σ0 (r))) {σ : zSt} {x1 : Int32} {x3 : Int32} (h : (zQ [3, 5, 6, 7, 8, 9, 21, 22, 23, 24, 25, 26] [(0, 0, 0), (0, 31, 33), (0, 39, 49)] [4, 10, 11] [(0, 30, 30)]) σ0 σ) : zpc (fX12_draws_294 k266 σ x1 x3) (fun r => (zQ [3, 5, 6, 7, 8, 9, 21, 22, 23, 24, 25, 26] [(0, 0, 0), (0, 31, 33), (0, 39, 49)] [4, 10, 11] [(0, 30, 30)]) σ0 (r)) := by
  unfold fX12_draws_294
  exact zpc_bv (fun v7 _ => hk266 _ _ _ h)
theorem fV_fX12_draws_266_body {σ0 : zSt} {k266 : zSt → Int32 → Int32 → Option (zSt)} (hk266 : ∀ (y0 : zSt) (y1 : Int32) (y2 : Int32), (zQ [3, 5, 6, 7, 8, 9, 21, 22, 23, 24, 25, 26] [(0, 0, 0), (0, 31, 33), (0, 39, 49)] [4, 10, 11] [(0, 30, 30)]) σ0 y0 → zpc (k266 y0 y1 y2) (fun r => (zQ [3, 5, 6, 7, 8, 9, 21, 22, 23, 24, 25, 26] [(0, 0, 0), (0, 31, 33), (0, 39, 49)] [4, 10, 11] [(0, 30, 30)]) σ0 (r))) {σ : zSt} {x1 : Int32} {x3 : Int32} (h : (zQ [3, 5, 6, 7, 8, 9, 21, 22, 23, 24, 25, 26] [(0, 0, 0), (0, 31, 33), (0, 39, 49)] [4, 10, 11] [(0, 30, 30)]) σ0 σ) : zpc (fX12_draws_266_body k266 σ x1 x3) (fun r => (zQ [3, 5, 6, 7, 8, 9, 21, 22, 23, 24, 25, 26] [(0, 0, 0), (0, 31, 33), (0, 39, 49)] [4, 10, 11] [(0, 30, 30)]) σ0 (r)) := by
  unfold fX12_draws_266_body
  exact zpc_if (fun _ => fV_fX12_draws_300 h) (fun _ => zpc_ck (zpc_if (fun _ => fV_fX12_draws_294 hk266 h) (fun _ => zpc_ck (zpc_ck (zpc_bs (zQ.wi h rfl) (fun σ8 hσ8 => fV_fX12_draws_294 hk266 hσ8))))))
theorem fV_fX12_draws_266 {σ0 : zSt} : ∀ (n : Nat) (y0 : zSt) (y1 : Int32) (y2 : Int32), (zQ [3, 5, 6, 7, 8, 9, 21, 22, 23, 24, 25, 26] [(0, 0, 0), (0, 31, 33), (0, 39, 49)] [4, 10, 11] [(0, 30, 30)]) σ0 y0 → zpc (fX12_draws_266 n y0 y1 y2) (fun r => (zQ [3, 5, 6, 7, 8, 9, 21, 22, 23, 24, 25, 26] [(0, 0, 0), (0, 31, 33), (0, 39, 49)] [4, 10, 11] [(0, 30, 30)]) σ0 (r)) := by
  intro n
  induction n with
  | zero => intro y0 y1 y2 h; exact zpc_none
  | succ n ih => intro y0 y1 y2 h; exact fV_fX12_draws_266_body ih h
theorem fV_fX12_draws_264 {σ0 : zSt} {σ : zSt} {x1 : Int32} (h : (zQ [3, 5, 6, 7, 8, 9, 21, 22, 23, 24, 25, 26] [(0, 0, 0), (0, 31, 33), (0, 39, 49)] [4, 10, 11] [(0, 30, 30)]) σ0 σ) : zpc (fX12_draws_264 σ x1) (fun r => (zQ [3, 5, 6, 7, 8, 9, 21, 22, 23, 24, 25, 26] [(0, 0, 0), (0, 31, 33), (0, 39, 49)] [4, 10, 11] [(0, 30, 30)]) σ0 (r)) := by
  unfold fX12_draws_264
  exact fV_fX12_draws_266 _ _ _ _ h
theorem fV_fX12_draws_213_body {σ0 : zSt} {k213 : zSt → Int32 → Int32 → Int32 → Option (zSt)} (hk213 : ∀ (y0 : zSt) (y1 : Int32) (y2 : Int32) (y3 : Int32), (zQ [3, 5, 6, 7, 8, 9, 21, 22, 23, 24, 25, 26] [(0, 0, 0), (0, 31, 33), (0, 39, 49)] [4, 10, 11] [(0, 30, 30)]) σ0 y0 → zpc (k213 y0 y1 y2 y3) (fun r => (zQ [3, 5, 6, 7, 8, 9, 21, 22, 23, 24, 25, 26] [(0, 0, 0), (0, 31, 33), (0, 39, 49)] [4, 10, 11] [(0, 30, 30)]) σ0 (r))) {σ : zSt} {x1 : Int32} {x2 : Int32} {x3 : Int32} (h : (zQ [3, 5, 6, 7, 8, 9, 21, 22, 23, 24, 25, 26] [(0, 0, 0), (0, 31, 33), (0, 39, 49)] [4, 10, 11] [(0, 30, 30)]) σ0 σ) : zpc (fX12_draws_213_body k213 σ x1 x2 x3) (fun r => (zQ [3, 5, 6, 7, 8, 9, 21, 22, 23, 24, 25, 26] [(0, 0, 0), (0, 31, 33), (0, 39, 49)] [4, 10, 11] [(0, 30, 30)]) σ0 (r)) := by
  unfold fX12_draws_213_body
  exact zpc_if (fun _ => zpc_bi (fV_fX12_mode h) (fun σ9 v10 hσ9 => zpc_if (fun _ => fV_fX12_draws_264 hσ9) (fun _ => zpc_bu (fV_fX12_oldSprites hσ9) (fun σ11 hσ11 => fV_fX12_draws_264 hσ11)))) (fun _ => zpc_bi (fV_fX12_old h) (fun σ12 v13 hσ12 => zpc_if (fun _ => fV_fX12_draws_244 hk213 hσ12) (fun _ => fV_fX12_draws_244 hk213 hσ12)))
theorem fV_fX12_draws_213 {σ0 : zSt} : ∀ (n : Nat) (y0 : zSt) (y1 : Int32) (y2 : Int32) (y3 : Int32), (zQ [3, 5, 6, 7, 8, 9, 21, 22, 23, 24, 25, 26] [(0, 0, 0), (0, 31, 33), (0, 39, 49)] [4, 10, 11] [(0, 30, 30)]) σ0 y0 → zpc (fX12_draws_213 n y0 y1 y2 y3) (fun r => (zQ [3, 5, 6, 7, 8, 9, 21, 22, 23, 24, 25, 26] [(0, 0, 0), (0, 31, 33), (0, 39, 49)] [4, 10, 11] [(0, 30, 30)]) σ0 (r)) := by
  intro n
  induction n with
  | zero => intro y0 y1 y2 y3 h; exact zpc_none
  | succ n ih => intro y0 y1 y2 y3 h; exact fV_fX12_draws_213_body ih h
theorem fV_fX12_draws_200 {σ0 : zSt} {σ : zSt} {x1 : Int32} {x2 : Int32} (h : (zQ [3, 5, 6, 7, 8, 9, 21, 22, 23, 24, 25, 26] [(0, 0, 0), (0, 31, 33), (0, 39, 49)] [4, 10, 11] [(0, 30, 30)]) σ0 σ) : zpc (fX12_draws_200 σ x1 x2) (fun r => (zQ [3, 5, 6, 7, 8, 9, 21, 22, 23, 24, 25, 26] [(0, 0, 0), (0, 31, 33), (0, 39, 49)] [4, 10, 11] [(0, 30, 30)]) σ0 (r)) := by
  unfold fX12_draws_200
  exact zpc_bi (fV_fX12_bit h) (fun σ14 v15 hσ14 => zpc_if (fun _ => fV_fX12_draws_213 _ _ _ _ _ hσ14) (fun _ => fV_fX12_draws_300 hσ14))
theorem fV_fX12_draws_160 {σ0 : zSt} {k123 : zSt → Int32 → Int32 → Int32 → Option (zSt)} (hk123 : ∀ (y0 : zSt) (y1 : Int32) (y2 : Int32) (y3 : Int32), (zQ [3, 5, 6, 7, 8, 9, 21, 22, 23, 24, 25, 26] [(0, 0, 0), (0, 31, 33), (0, 39, 49)] [4, 10, 11] [(0, 30, 30)]) σ0 y0 → zpc (k123 y0 y1 y2 y3) (fun r => (zQ [3, 5, 6, 7, 8, 9, 21, 22, 23, 24, 25, 26] [(0, 0, 0), (0, 31, 33), (0, 39, 49)] [4, 10, 11] [(0, 30, 30)]) σ0 (r))) {σ : zSt} {x1 : Int32} {x2 : Int32} {x3 : Int32} (h : (zQ [3, 5, 6, 7, 8, 9, 21, 22, 23, 24, 25, 26] [(0, 0, 0), (0, 31, 33), (0, 39, 49)] [4, 10, 11] [(0, 30, 30)]) σ0 σ) : zpc (fX12_draws_160 k123 σ x1 x2 x3) (fun r => (zQ [3, 5, 6, 7, 8, 9, 21, 22, 23, 24, 25, 26] [(0, 0, 0), (0, 31, 33), (0, 39, 49)] [4, 10, 11] [(0, 30, 30)]) σ0 (r)) := by
  unfold fX12_draws_160
  exact zpc_bv (fun v16 _ => hk123 _ _ _ _ h)
theorem fV_fX12_draws_197 {σ0 : zSt} {σ : zSt} {x1 : Int32} (h : (zQ [3, 5, 6, 7, 8, 9, 21, 22, 23, 24, 25, 26] [(0, 0, 0), (0, 31, 33), (0, 39, 49)] [4, 10, 11] [(0, 30, 30)]) σ0 σ) : zpc (fX12_draws_197 σ x1) (fun r => (zQ [3, 5, 6, 7, 8, 9, 21, 22, 23, 24, 25, 26] [(0, 0, 0), (0, 31, 33), (0, 39, 49)] [4, 10, 11] [(0, 30, 30)]) σ0 (r)) := by
  unfold fX12_draws_197
  exact fV_fX12_draws_300 h
theorem fV_fX12_draws_168_body {σ0 : zSt} {k168 : zSt → Int32 → Int32 → Int32 → Option (zSt)} (hk168 : ∀ (y0 : zSt) (y1 : Int32) (y2 : Int32) (y3 : Int32), (zQ [3, 5, 6, 7, 8, 9, 21, 22, 23, 24, 25, 26] [(0, 0, 0), (0, 31, 33), (0, 39, 49)] [4, 10, 11] [(0, 30, 30)]) σ0 y0 → zpc (k168 y0 y1 y2 y3) (fun r => (zQ [3, 5, 6, 7, 8, 9, 21, 22, 23, 24, 25, 26] [(0, 0, 0), (0, 31, 33), (0, 39, 49)] [4, 10, 11] [(0, 30, 30)]) σ0 (r))) {σ : zSt} {x1 : Int32} {x2 : Int32} {x3 : Int32} (h : (zQ [3, 5, 6, 7, 8, 9, 21, 22, 23, 24, 25, 26] [(0, 0, 0), (0, 31, 33), (0, 39, 49)] [4, 10, 11] [(0, 30, 30)]) σ0 σ) : zpc (fX12_draws_168_body k168 σ x1 x2 x3) (fun r => (zQ [3, 5, 6, 7, 8, 9, 21, 22, 23, 24, 25, 26] [(0, 0, 0), (0, 31, 33), (0, 39, 49)] [4, 10, 11] [(0, 30, 30)]) σ0 (r)) := by
  unfold fX12_draws_168_body
  exact zpc_if (fun _ => fV_fX12_draws_197 h) (fun _ => zpc_bi (fV_fX12_bit h) (fun σ17 v18 hσ17 => zpc_if (fun _ => zpc_ck (zpc_bs (zQ.wi hσ17 rfl) (fun σ19 hσ19 => zpc_bv (fun v20 _ => hk168 _ _ _ _ hσ19)))) (fun _ => fV_fX12_draws_197 hσ17)))
theorem fV_fX12_draws_168 {σ0 : zSt} : ∀ (n : Nat) (y0 : zSt) (y1 : Int32) (y2 : Int32) (y3 : Int32), (zQ [3, 5, 6, 7, 8, 9, 21, 22, 23, 24, 25, 26] [(0, 0, 0), (0, 31, 33), (0, 39, 49)] [4, 10, 11] [(0, 30, 30)]) σ0 y0 → zpc (fX12_draws_168 n y0 y1 y2 y3) (fun r => (zQ [3, 5, 6, 7, 8, 9, 21, 22, 23, 24, 25, 26] [(0, 0, 0), (0, 31, 33), (0, 39, 49)] [4, 10, 11] [(0, 30, 30)]) σ0 (r)) := by
  intro n
  induction n with
  | zero => intro y0 y1 y2 y3 h; exact zpc_none
  | succ n ih => intro y0 y1 y2 y3 h; exact fV_fX12_draws_168_body ih h
theorem fV_fX12_draws_123_body {σ0 : zSt} {k123 : zSt → Int32 → Int32 → Int32 → Option (zSt)} (hk123 : ∀ (y0 : zSt) (y1 : Int32) (y2 : Int32) (y3 : Int32), (zQ [3, 5, 6, 7, 8, 9, 21, 22, 23, 24, 25, 26] [(0, 0, 0), (0, 31, 33), (0, 39, 49)] [4, 10, 11] [(0, 30, 30)]) σ0 y0 → zpc (k123 y0 y1 y2 y3) (fun r => (zQ [3, 5, 6, 7, 8, 9, 21, 22, 23, 24, 25, 26] [(0, 0, 0), (0, 31, 33), (0, 39, 49)] [4, 10, 11] [(0, 30, 30)]) σ0 (r))) {σ : zSt} {x1 : Int32} {x2 : Int32} {x3 : Int32} (h : (zQ [3, 5, 6, 7, 8, 9, 21, 22, 23, 24, 25, 26] [(0, 0, 0), (0, 31, 33), (0, 39, 49)] [4, 10, 11] [(0, 30, 30)]) σ0 σ) : zpc (fX12_draws_123_body k123 σ x1 x2 x3) (fun r => (zQ [3, 5, 6, 7, 8, 9, 21, 22, 23, 24, 25, 26] [(0, 0, 0), (0, 31, 33), (0, 39, 49)] [4, 10, 11] [(0, 30, 30)]) σ0 (r)) := by
  unfold fX12_draws_123_body
  exact zpc_if (fun _ => fV_fX12_draws_168 _ _ _ _ _ h) (fun _ => zpc_ck (zpc_if (fun _ => fV_fX12_draws_160 hk123 h) (fun _ => zpc_ck (zpc_if (fun _ => zpc_ck (zpc_ck (zpc_bs (zQ.wi h rfl) (fun σ21 hσ21 => fV_fX12_draws_160 hk123 hσ21)))) (fun _ => fV_fX12_draws_160 hk123 h)))))
theorem fV_fX12_draws_123 {σ0 : zSt} : ∀ (n : Nat) (y0 : zSt) (y1 : Int32) (y2 : Int32) (y3 : Int32), (zQ [3, 5, 6, 7, 8, 9, 21, 22, 23, 24, 25, 26] [(0, 0, 0), (0, 31, 33), (0, 39, 49)] [4, 10, 11] [(0, 30, 30)]) σ0 y0 → zpc (fX12_draws_123 n y0 y1 y2 y3) (fun r => (zQ [3, 5, 6, 7, 8, 9, 21, 22, 23, 24, 25, 26] [(0, 0, 0), (0, 31, 33), (0, 39, 49)] [4, 10, 11] [(0, 30, 30)]) σ0 (r)) := by
  intro n
  induction n with
  | zero => intro y0 y1 y2 y3 h; exact zpc_none
  | succ n ih => intro y0 y1 y2 y3 h; exact fV_fX12_draws_123_body ih h
theorem fV_fX12_draws_97_body {σ0 : zSt} {k97 : zSt → Int32 → Int32 → Int32 → Option (zSt)} (hk97 : ∀ (y0 : zSt) (y1 : Int32) (y2 : Int32) (y3 : Int32), (zQ [3, 5, 6, 7, 8, 9, 21, 22, 23, 24, 25, 26] [(0, 0, 0), (0, 31, 33), (0, 39, 49)] [4, 10, 11] [(0, 30, 30)]) σ0 y0 → zpc (k97 y0 y1 y2 y3) (fun r => (zQ [3, 5, 6, 7, 8, 9, 21, 22, 23, 24, 25, 26] [(0, 0, 0), (0, 31, 33), (0, 39, 49)] [4, 10, 11] [(0, 30, 30)]) σ0 (r))) {σ : zSt} {x1 : Int32} {x2 : Int32} {x3 : Int32} (h : (zQ [3, 5, 6, 7, 8, 9, 21, 22, 23, 24, 25, 26] [(0, 0, 0), (0, 31, 33), (0, 39, 49)] [4, 10, 11] [(0, 30, 30)]) σ0 σ) : zpc (fX12_draws_97_body k97 σ x1 x2 x3) (fun r => (zQ [3, 5, 6, 7, 8, 9, 21, 22, 23, 24, 25, 26] [(0, 0, 0), (0, 31, 33), (0, 39, 49)] [4, 10, 11] [(0, 30, 30)]) σ0 (r)) := by
  unfold fX12_draws_97_body
  exact zpc_if (fun _ => zpc_bu (fV_fX12_sprites h) (fun σ22 hσ22 => fV_fX12_draws_123 _ _ _ _ _ hσ22)) (fun _ => zpc_bu (fV_fX12_tile h) (fun σ23 hσ23 => zpc_bv (fun v24 _ => hk97 _ _ _ _ hσ23)))
theorem fV_fX12_draws_97 {σ0 : zSt} : ∀ (n : Nat) (y0 : zSt) (y1 : Int32) (y2 : Int32) (y3 : Int32), (zQ [3, 5, 6, 7, 8, 9, 21, 22, 23, 24, 25, 26] [(0, 0, 0), (0, 31, 33), (0, 39, 49)] [4, 10, 11] [(0, 30, 30)]) σ0 y0 → zpc (fX12_draws_97 n y0 y1 y2 y3) (fun r => (zQ [3, 5, 6, 7, 8, 9, 21, 22, 23, 24, 25, 26] [(0, 0, 0), (0, 31, 33), (0, 39, 49)] [4, 10, 11] [(0, 30, 30)]) σ0 (r)) := by
  intro n
  induction n with
  | zero => intro y0 y1 y2 y3 h; exact zpc_none
  | succ n ih => intro y0 y1 y2 y3 h; exact fV_fX12_draws_97_body ih h
theorem fV_fX12_draws_35_body {σ0 : zSt} {k35 : zSt → Int32 → Int32 → Int32 → Option (zSt)} (hk35 : ∀ (y0 : zSt) (y1 : Int32) (y2 : Int32) (y3 : Int32), (zQ [3, 5, 6, 7, 8, 9, 21, 22, 23, 24, 25, 26] [(0, 0, 0), (0, 31, 33), (0, 39, 49)] [4, 10, 11] [(0, 30, 30)]) σ0 y0 → zpc (k35 y0 y1 y2 y3) (fun r => (zQ [3, 5, 6, 7, 8, 9, 21, 22, 23, 24, 25, 26] [(0, 0, 0), (0, 31, 33), (0, 39, 49)] [4, 10, 11] [(0, 30, 30)]) σ0 (r))) {σ : zSt} {x1 : Int32} {x2 : Int32} {x3 : Int32} (h : (zQ [3, 5, 6, 7, 8, 9, 21, 22, 23, 24, 25, 26] [(0, 0, 0), (0, 31, 33), (0, 39, 49)] [4, 10, 11] [(0, 30, 30)]) σ0 σ) : zpc (fX12_draws_35_body k35 σ x1 x2 x3) (fun r => (zQ [3, 5, 6, 7, 8, 9, 21, 22, 23, 24, 25, 26] [(0, 0, 0), (0, 31, 33), (0, 39, 49)] [4, 10, 11] [(0, 30, 30)]) σ0 (r)) := by
  unfold fX12_draws_35_body
  exact zpc_if (fun _ => zpc_bi (fV_fX12_bit h) (fun σ25 v26 hσ25 => zpc_if (fun _ => zpc_bi (fV_fX12_mode hσ25) (fun σ27 v28 hσ27 => zpc_if (fun _ => fV_fX12_draws_97 _ _ _ _ _ hσ27) (fun _ => fV_fX12_draws_200 hσ27))) (fun _ => fV_fX12_draws_200 hσ25))) (fun _ => zpc_ck (zpc_bs (zQ.wi h rfl) (fun σ29 hσ29 => zpc_ck (zpc_bs (zQ.wi hσ29 rfl) (fun σ30 hσ30 => zpc_ck (zpc_bs (zQ.wi hσ30 rfl) (fun σ31 hσ31 => zpc_ck (zpc_bs (zQ.wi hσ31 rfl) (fun σ32 hσ32 => zpc_bv (fun v33 _ => hk35 _ _ _ _ hσ32))))))))))
theorem fV_fX12_draws_35 {σ0 : zSt} : ∀ (n : Nat) (y0 : zSt) (y1 : Int32) (y2 : Int32) (y3 : Int32), (zQ [3, 5, 6, 7, 8, 9, 21, 22, 23, 24, 25, 26] [(0, 0, 0), (0, 31, 33), (0, 39, 49)] [4, 10, 11] [(0, 30, 30)]) σ0 y0 → zpc (fX12_draws_35 n y0 y1 y2 y3) (fun r => (zQ [3, 5, 6, 7, 8, 9, 21, 22, 23, 24, 25, 26] [(0, 0, 0), (0, 31, 33), (0, 39, 49)] [4, 10, 11] [(0, 30, 30)]) σ0 (r)) := by
  intro n
  induction n with
  | zero => intro y0 y1 y2 y3 h; exact zpc_none
  | succ n ih => intro y0 y1 y2 y3 h; exact fV_fX12_draws_35_body ih h
theorem fV_fX12_draws_32 {σ0 : zSt} {σ : zSt} {x1 : Int32} {s0 : Int32} (h : (zQ [3, 5, 6, 7, 8, 9, 21, 22, 23, 24, 25, 26] [(0, 0, 0), (0, 31, 33), (0, 39, 49)] [4, 10, 11] [(0, 30, 30)]) σ0 σ) : zpc (fX12_draws_32 σ x1 s0) (fun r => (zQ [3, 5, 6, 7, 8, 9, 21, 22, 23, 24, 25, 26] [(0, 0, 0), (0, 31, 33), (0, 39, 49)] [4, 10, 11] [(0, 30, 30)]) σ0 (r)) := by
  unfold fX12_draws_32
  exact fV_fX12_draws_35 _ _ _ _ _ h
theorem fV_fX12_draws {σ0 : zSt} {σ : zSt} {x1 : Int32} (h : (zQ [3, 5, 6, 7, 8, 9, 21, 22, 23, 24, 25, 26] [(0, 0, 0), (0, 31, 33), (0, 39, 49)] [4, 10, 11] [(0, 30, 30)]) σ0 σ) : zpc (fX12_draws σ x1) (fun r => (zQ [3, 5, 6, 7, 8, 9, 21, 22, 23, 24, 25, 26] [(0, 0, 0), (0, 31, 33), (0, 39, 49)] [4, 10, 11] [(0, 30, 30)]) σ0 (r)) := by
  unfold fX12_draws
  exact zpc_bi (fV_fX12_mode h) (fun σ34 v35 hσ34 => zpc_if (fun _ => zpc_bi (fV_fX12_reg hσ34) (fun σ38 v39 hσ38 => zpc_ck (fV_fX12_draws_32 hσ38))) (fun _ => zpc_bi (fV_fX12_reg hσ34) (fun σ36 v37 hσ36 => zpc_ck (fV_fX12_draws_32 hσ36))))
theorem fV_fX12_planned_113 {σ0 : zSt} {σ : zSt} (h : (zQ [3, 5, 6, 7, 8, 9, 21, 22, 23, 24, 25, 26] [(0, 0, 0), (0, 31, 33), (0, 39, 49)] [4, 10, 11] [(0, 30, 30)]) σ0 σ) : zpc (fX12_planned_113 σ) (fun r => (zQ [3, 5, 6, 7, 8, 9, 21, 22, 23, 24, 25, 26] [(0, 0, 0), (0, 31, 33), (0, 39, 49)] [4, 10, 11] [(0, 30, 30)]) σ0 (r)) := by
  unfold fX12_planned_113
  exact zpc_some h
theorem fV_fX12_planned_68_body {σ0 : zSt} {k0 : zSt → Option (zSt)} (hk0 : ∀ (y0 : zSt), (zQ [3, 5, 6, 7, 8, 9, 21, 22, 23, 24, 25, 26] [(0, 0, 0), (0, 31, 33), (0, 39, 49)] [4, 10, 11] [(0, 30, 30)]) σ0 y0 → zpc (k0 y0) (fun r => (zQ [3, 5, 6, 7, 8, 9, 21, 22, 23, 24, 25, 26] [(0, 0, 0), (0, 31, 33), (0, 39, 49)] [4, 10, 11] [(0, 30, 30)]) σ0 (r))) {k68 : zSt → Int32 → Option (zSt)} (hk68 : ∀ (y0 : zSt) (y1 : Int32), (zQ [3, 5, 6, 7, 8, 9, 21, 22, 23, 24, 25, 26] [(0, 0, 0), (0, 31, 33), (0, 39, 49)] [4, 10, 11] [(0, 30, 30)]) σ0 y0 → zpc (k68 y0 y1) (fun r => (zQ [3, 5, 6, 7, 8, 9, 21, 22, 23, 24, 25, 26] [(0, 0, 0), (0, 31, 33), (0, 39, 49)] [4, 10, 11] [(0, 30, 30)]) σ0 (r))) {σ : zSt} {x1 : Int32} (h : (zQ [3, 5, 6, 7, 8, 9, 21, 22, 23, 24, 25, 26] [(0, 0, 0), (0, 31, 33), (0, 39, 49)] [4, 10, 11] [(0, 30, 30)]) σ0 σ) : zpc (fX12_planned_68_body k0 k68 σ x1) (fun r => (zQ [3, 5, 6, 7, 8, 9, 21, 22, 23, 24, 25, 26] [(0, 0, 0), (0, 31, 33), (0, 39, 49)] [4, 10, 11] [(0, 30, 30)]) σ0 (r)) := by
  unfold fX12_planned_68_body
  exact zpc_ck (zpc_if (fun _ => hk0 _ h) (fun _ => zpc_ck (zpc_ck (zpc_bs (zQ.wi h rfl) (fun σ1 hσ1 => zpc_bv (fun v2 _ => hk68 _ _ hσ1))))))
theorem fV_fX12_planned_68 {σ0 : zSt} {k0 : zSt → Option (zSt)} (hk0 : ∀ (y0 : zSt), (zQ [3, 5, 6, 7, 8, 9, 21, 22, 23, 24, 25, 26] [(0, 0, 0), (0, 31, 33), (0, 39, 49)] [4, 10, 11] [(0, 30, 30)]) σ0 y0 → zpc (k0 y0) (fun r => (zQ [3, 5, 6, 7, 8, 9, 21, 22, 23, 24, 25, 26] [(0, 0, 0), (0, 31, 33), (0, 39, 49)] [4, 10, 11] [(0, 30, 30)]) σ0 (r))) : ∀ (n : Nat) (y0 : zSt) (y1 : Int32), (zQ [3, 5, 6, 7, 8, 9, 21, 22, 23, 24, 25, 26] [(0, 0, 0), (0, 31, 33), (0, 39, 49)] [4, 10, 11] [(0, 30, 30)]) σ0 y0 → zpc (fX12_planned_68 k0 n y0 y1) (fun r => (zQ [3, 5, 6, 7, 8, 9, 21, 22, 23, 24, 25, 26] [(0, 0, 0), (0, 31, 33), (0, 39, 49)] [4, 10, 11] [(0, 30, 30)]) σ0 (r)) := by
  intro n
  induction n with
  | zero => intro y0 y1 h; exact zpc_none
  | succ n ih => intro y0 y1 h; exact fV_fX12_planned_68_body hk0 ih h
theorem fV_fX12_planned_0_body {σ0 : zSt} {k0 : zSt → Option (zSt)} (hk0 : ∀ (y0 : zSt), (zQ [3, 5, 6, 7, 8, 9, 21, 22, 23, 24, 25, 26] [(0, 0, 0), (0, 31, 33), (0, 39, 49)] [4, 10, 11] [(0, 30, 30)]) σ0 y0 → zpc (k0 y0) (fun r => (zQ [3, 5, 6, 7, 8, 9, 21, 22, 23, 24, 25, 26] [(0, 0, 0), (0, 31, 33), (0, 39, 49)] [4, 10, 11] [(0, 30, 30)]) σ0 (r))) {σ : zSt} (h : (zQ [3, 5, 6, 7, 8, 9, 21, 22, 23, 24, 25, 26] [(0, 0, 0), (0, 31, 33), (0, 39, 49)] [4, 10, 11] [(0, 30, 30)]) σ0 σ) : zpc (fX12_planned_0_body k0 σ) (fun r => (zQ [3, 5, 6, 7, 8, 9, 21, 22, 23, 24, 25, 26] [(0, 0, 0), (0, 31, 33), (0, 39, 49)] [4, 10, 11] [(0, 30, 30)]) σ0 (r)) := by
  unfold fX12_planned_0_body
  exact zpc_ck (zpc_if (fun _ => fV_fX12_planned_113 h) (fun _ => zpc_ck (zpc_ck (zpc_if (fun _ => fV_fX12_planned_113 h) (fun _ => zpc_ck (zpc_ck (zpc_ck (zpc_bs (zQ.wi h rfl) (fun σ3 hσ3 => zpc_ck (zpc_ck (zpc_bs (zQ.wi hσ3 rfl) (fun σ4 hσ4 => fV_fX12_planned_68 hk0 _ _ _ hσ4))))))))))))
theorem fV_fX12_planned_0 {σ0 : zSt} : ∀ (n : Nat) (y0 : zSt), (zQ [3, 5, 6, 7, 8, 9, 21, 22, 23, 24, 25, 26] [(0, 0, 0), (0, 31, 33), (0, 39, 49)] [4, 10, 11] [(0, 30, 30)]) σ0 y0 → zpc (fX12_planned_0 n y0) (fun r => (zQ [3, 5, 6, 7, 8, 9, 21, 22, 23, 24, 25, 26] [(0, 0, 0), (0, 31, 33), (0, 39, 49)] [4, 10, 11] [(0, 30, 30)]) σ0 (r)) := by
  intro n
  induction n with
  | zero => intro y0 h; exact zpc_none
  | succ n ih => intro y0 h; exact fV_fX12_planned_0_body ih h
theorem fV_fX12_planned {σ0 : zSt} {σ : zSt} (h : (zQ [3, 5, 6, 7, 8, 9, 21, 22, 23, 24, 25, 26] [(0, 0, 0), (0, 31, 33), (0, 39, 49)] [4, 10, 11] [(0, 30, 30)]) σ0 σ) : zpc (fX12_planned σ) (fun r => (zQ [3, 5, 6, 7, 8, 9, 21, 22, 23, 24, 25, 26] [(0, 0, 0), (0, 31, 33), (0, 39, 49)] [4, 10, 11] [(0, 30, 30)]) σ0 (r)) := by
  unfold fX12_planned
  exact fV_fX12_planned_0 _ _ h
theorem fV_fX12_ends_195 {σ0 : zSt} {σ : zSt} (h : (zQ [3, 5, 6, 7, 8, 9, 21, 22, 23, 24, 25, 26] [(0, 0, 0), (0, 31, 33), (0, 39, 49)] [4, 10, 11] [(0, 30, 30)]) σ0 σ) : zpc (fX12_ends_195 σ) (fun r => (zQ [3, 5, 6, 7, 8, 9, 21, 22, 23, 24, 25, 26] [(0, 0, 0), (0, 31, 33), (0, 39, 49)] [4, 10, 11] [(0, 30, 30)]) σ0 (r)) := by
  unfold fX12_ends_195
  exact zpc_some h
theorem fV_fX12_ends_169 {σ0 : zSt} {σ : zSt} {x1 : Int32} (h : (zQ [3, 5, 6, 7, 8, 9, 21, 22, 23, 24, 25, 26] [(0, 0, 0), (0, 31, 33), (0, 39, 49)] [4, 10, 11] [(0, 30, 30)]) σ0 σ) : zpc (fX12_ends_169 σ x1) (fun r => (zQ [3, 5, 6, 7, 8, 9, 21, 22, 23, 24, 25, 26] [(0, 0, 0), (0, 31, 33), (0, 39, 49)] [4, 10, 11] [(0, 30, 30)]) σ0 (r)) := by
  unfold fX12_ends_169
  exact zpc_ck (zpc_if (fun _ => zpc_ck (zpc_ck (zpc_bs (zQ.wi h rfl) (fun σ1 hσ1 => fV_fX12_ends_195 hσ1)))) (fun _ => fV_fX12_ends_195 h))
theorem fV_fX12_ends_131 {σ0 : zSt} {σ : zSt} {x1 : Int32} {s0 : Int32} {s1 : Int32} (h : (zQ [3, 5, 6, 7, 8, 9, 21, 22, 23, 24, 25, 26] [(0, 0, 0), (0, 31, 33), (0, 39, 49)] [4, 10, 11] [(0, 30, 30)]) σ0 σ) : zpc (fX12_ends_131 σ x1 s0 s1) (fun r => (zQ [3, 5, 6, 7, 8, 9, 21, 22, 23, 24, 25, 26] [(0, 0, 0), (0, 31, 33), (0, 39, 49)] [4, 10, 11] [(0, 30, 30)]) σ0 (r)) := by
  unfold fX12_ends_131
  exact zpc_if (fun _ => zpc_ck (zpc_bs (zQ.wi h rfl) (fun σ2 hσ2 => zpc_bi (fV_fX12_reg hσ2) (fun σ3 v4 hσ3 => zpc_ck (zpc_bs (zQ.wi hσ3 rfl) (fun σ5 hσ5 => zpc_ck (zpc_ck (zpc_bs (zQ.wl hσ5 rfl) (fun σ6 hσ6 => zpc_bu (fV_fX12_planned hσ6) (fun σ7 hσ7 => fV_fX12_ends_169 hσ7)))))))))) (fun _ => fV_fX12_ends_169 h)
theorem fV_fX12_ends_96 {σ0 : zSt} {σ : zSt} {x1 : Int32} (h : (zQ [3, 5, 6, 7, 8, 9, 21, 22, 23, 24, 25, 26] [(0, 0, 0), (0, 31, 33), (0, 39, 49)] [4, 10, 11] [(0, 30, 30)]) σ0 σ) : zpc (fX12_ends_96 σ x1) (fun r => (zQ [3, 5, 6, 7, 8, 9, 21, 22, 23, 24, 25, 26] [(0, 0, 0), (0, 31, 33), (0, 39, 49)] [4, 10, 11] [(0, 30, 30)]) σ0 (r)) := by
  unfold fX12_ends_96
  exact zpc_ck (zpc_ck (zpc_bs (zQ.wi h rfl) (fun σ8 hσ8 => zpc_ck (zpc_if (fun _ => fV_fX12_ends_131 hσ8) (fun _ => fV_fX12_ends_131 hσ8)))))
theorem fV_fX12_ends_27 {σ0 : zSt} {σ : zSt} {x1 : Int32} (h : (zQ [3, 5, 6, 7, 8, 9, 21, 22, 23, 24, 25, 26] [(0, 0, 0), (0, 31, 33), (0, 39, 49)] [4, 10, 11] [(0, 30, 30)]) σ0 σ) : zpc (fX12_ends_27 σ x1) (fun r => (zQ [3, 5, 6, 7, 8, 9, 21, 22, 23, 24, 25, 26] [(0, 0, 0), (0, 31, 33), (0, 39, 49)] [4, 10, 11] [(0, 30, 30)]) σ0 (r)) := by
  unfold fX12_ends_27
  exact zpc_ck (zpc_if (fun _ => zpc_bi (fV_fX12_reg h) (fun σ9 v10 hσ9 => zpc_ck (zpc_bs (zQ.wi hσ9 rfl) (fun σ11 hσ11 => fV_fX12_ends_96 hσ11)))) (fun _ => zpc_ck (zpc_ck (zpc_bs (zQ.wi h rfl) (fun σ12 hσ12 => zpc_ck (zpc_if (fun _ => fV_fX12_ends_96 hσ12) (fun _ => zpc_bi (fV_fX12_reg hσ12) (fun σ13 v14 hσ13 => zpc_ck (zpc_bs (zQ.wi hσ13 rfl) (fun σ15 hσ15 => zpc_ck (zpc_bs (zQ.wi hσ15 rfl) (fun σ16 hσ16 => fV_fX12_ends_96 hσ16))))))))))))
theorem fV_fX12_ends {σ0 : zSt} {σ : zSt} (h : (zQ [3, 5, 6, 7, 8, 9, 21, 22, 23, 24, 25, 26] [(0, 0, 0), (0, 31, 33), (0, 39, 49)] [4, 10, 11] [(0, 30, 30)]) σ0 σ) : zpc (fX12_ends σ) (fun r => (zQ [3, 5, 6, 7, 8, 9, 21, 22, 23, 24, 25, 26] [(0, 0, 0), (0, 31, 33), (0, 39, 49)] [4, 10, 11] [(0, 30, 30)]) σ0 (r)) := by
  unfold fX12_ends
  exact zpc_bi (fV_fX12_height h) (fun σ17 v18 hσ17 => zpc_ck (zpc_if (fun _ => fV_fX12_ends_27 hσ17) (fun _ => zpc_ck (zpc_bu (fV_fX12_draws hσ17) (fun σ19 hσ19 => fV_fX12_ends_27 hσ19)))))
theorem fV_fX12_loudness {σ0 : zSt} {σ : zSt} {x0 : Int32} (h : (zQ [3, 5, 6, 7, 8, 9, 21, 22, 23, 24, 25, 26] [(0, 0, 0), (0, 31, 33), (0, 39, 49)] [4, 10, 11] [(0, 30, 30)]) σ0 σ) : zpc (fX12_loudness σ x0) (fun r => (zQ [3, 5, 6, 7, 8, 9, 21, 22, 23, 24, 25, 26] [(0, 0, 0), (0, 31, 33), (0, 39, 49)] [4, 10, 11] [(0, 30, 30)]) σ0 (r.1)) := by
  unfold fX12_loudness
  exact zpc_if (fun _ => zpc_some h) (fun _ => zpc_if (fun _ => zpc_some h) (fun _ => zpc_if (fun _ => zpc_some h) (fun _ => zpc_if (fun _ => zpc_some h) (fun _ => zpc_if (fun _ => zpc_some h) (fun _ => zpc_if (fun _ => zpc_some h) (fun _ => zpc_if (fun _ => zpc_some h) (fun _ => zpc_if (fun _ => zpc_some h) (fun _ => zpc_if (fun _ => zpc_some h) (fun _ => zpc_if (fun _ => zpc_some h) (fun _ => zpc_if (fun _ => zpc_some h) (fun _ => zpc_if (fun _ => zpc_some h) (fun _ => zpc_if (fun _ => zpc_some h) (fun _ => zpc_if (fun _ => zpc_some h) (fun _ => zpc_if (fun _ => zpc_some h) (fun _ => zpc_some h)))))))))))))))
theorem fV_fX12_sample_102 {σ0 : zSt} {k2 : zSt → Int32 → Option (zSt)} (hk2 : ∀ (y0 : zSt) (y1 : Int32), (zQ [3, 5, 6, 7, 8, 9, 21, 22, 23, 24, 25, 26] [(0, 0, 0), (0, 31, 33), (0, 39, 49)] [4, 10, 11] [(0, 30, 30)]) σ0 y0 → zr 0 3 y1 → zpc (k2 y0 y1) (fun r => (zQ [3, 5, 6, 7, 8, 9, 21, 22, 23, 24, 25, 26] [(0, 0, 0), (0, 31, 33), (0, 39, 49)] [4, 10, 11] [(0, 30, 30)]) σ0 (r))) {σ : zSt} {x1 : Int32} (h : (zQ [3, 5, 6, 7, 8, 9, 21, 22, 23, 24, 25, 26] [(0, 0, 0), (0, 31, 33), (0, 39, 49)] [4, 10, 11] [(0, 30, 30)]) σ0 σ) (qx1 : zr 0 2 x1) : zpc (fX12_sample_102 k2 σ x1) (fun r => (zQ [3, 5, 6, 7, 8, 9, 21, 22, 23, 24, 25, 26] [(0, 0, 0), (0, 31, 33), (0, 39, 49)] [4, 10, 11] [(0, 30, 30)]) σ0 (r)) := by
  unfold fX12_sample_102
  exact zpc_bv (fun v1 ev1 => hk2 _ _ h (zr_w (show zr 1 3 v1 by rw [ev1]; exact (zr_add (lo := 1) (hi := 3) qx1 (zr_c (x := 1) (lo := 1) (hi := 1) (by decide)) (by decide))) (by decide)))
theorem fV_fX12_sample_101 {σ0 : zSt} {k2 : zSt → Int32 → Option (zSt)} (hk2 : ∀ (y0 : zSt) (y1 : Int32), (zQ [3, 5, 6, 7, 8, 9, 21, 22, 23, 24, 25, 26] [(0, 0, 0), (0, 31, 33), (0, 39, 49)] [4, 10, 11] [(0, 30, 30)]) σ0 y0 → zr 0 3 y1 → zpc (k2 y0 y1) (fun r => (zQ [3, 5, 6, 7, 8, 9, 21, 22, 23, 24, 25, 26] [(0, 0, 0), (0, 31, 33), (0, 39, 49)] [4, 10, 11] [(0, 30, 30)]) σ0 (r))) {σ : zSt} {x1 : Int32} {s0 : Int32} {s1 : Int32} (h : (zQ [3, 5, 6, 7, 8, 9, 21, 22, 23, 24, 25, 26] [(0, 0, 0), (0, 31, 33), (0, 39, 49)] [4, 10, 11] [(0, 30, 30)]) σ0 σ) (qx1 : zr 0 2 x1) (qs1 : zr 69 86 s1) : zpc (fX12_sample_101 k2 σ x1 s0 s1) (fun r => (zQ [3, 5, 6, 7, 8, 9, 21, 22, 23, 24, 25, 26] [(0, 0, 0), (0, 31, 33), (0, 39, 49)] [4, 10, 11] [(0, 30, 30)]) σ0 (r)) := by
  unfold fX12_sample_101
  exact zpc_ck (zpc_bs (zQ.wi h rfl) (fun σ2 hσ2 => fV_fX12_sample_102 hk2 hσ2 qx1))
theorem fV_fX12_sample_32 {σ0 : zSt} {k2 : zSt → Int32 → Option (zSt)} (hk2 : ∀ (y0 : zSt) (y1 : Int32), (zQ [3, 5, 6, 7, 8, 9, 21, 22, 23, 24, 25, 26] [(0, 0, 0), (0, 31, 33), (0, 39, 49)] [4, 10, 11] [(0, 30, 30)]) σ0 y0 → zr 0 3 y1 → zpc (k2 y0 y1) (fun r => (zQ [3, 5, 6, 7, 8, 9, 21, 22, 23, 24, 25, 26] [(0, 0, 0), (0, 31, 33), (0, 39, 49)] [4, 10, 11] [(0, 30, 30)]) σ0 (r))) {σ : zSt} {x1 : Int32} (h : (zQ [3, 5, 6, 7, 8, 9, 21, 22, 23, 24, 25, 26] [(0, 0, 0), (0, 31, 33), (0, 39, 49)] [4, 10, 11] [(0, 30, 30)]) σ0 σ) (qx1 : zr 0 2 x1) : zpc (fX12_sample_32 k2 σ x1) (fun r => (zQ [3, 5, 6, 7, 8, 9, 21, 22, 23, 24, 25, 26] [(0, 0, 0), (0, 31, 33), (0, 39, 49)] [4, 10, 11] [(0, 30, 30)]) σ0 (r)) := by
  unfold fX12_sample_32
  exact zpc_ck (zpc_if (fun _ => zpc_ck (zpc_ck (zpc_bs (zQ.wi h rfl) (fun σ3 hσ3 => zpc_ck (zpc_if (fun _ => zpc_ck (fV_fX12_sample_101 hk2 hσ3 qx1 (zr_w (zr_add (lo := 75) (hi := 77) (zr_c (x := 75) (lo := 75) (hi := 75) (by decide)) qx1 (by decide)) (by decide)))) (fun _ => fV_fX12_sample_101 hk2 hσ3 qx1 (zr_w (zr_add (lo := 75) (hi := 77) (zr_c (x := 75) (lo := 75) (hi := 75) (by decide)) qx1 (by decide)) (by decide)))))))) (fun _ => fV_fX12_sample_102 hk2 h qx1))
theorem fV_fX12_sample_407 {σ0 : zSt} {k275 : zSt → Int64 → Int64 → Int32 → Option (zSt)} (hk275 : ∀ (y0 : zSt) (y1 : Int64) (y2 : Int64) (y3 : Int32), (zQ [3, 5, 6, 7, 8, 9, 21, 22, 23, 24, 25, 26] [(0, 0, 0), (0, 31, 33), (0, 39, 49)] [4, 10, 11] [(0, 30, 30)]) σ0 y0 → zpc (k275 y0 y1 y2 y3) (fun r => (zQ [3, 5, 6, 7, 8, 9, 21, 22, 23, 24, 25, 26] [(0, 0, 0), (0, 31, 33), (0, 39, 49)] [4, 10, 11] [(0, 30, 30)]) σ0 (r))) {σ : zSt} {x1 : Int64} {x3 : Int64} {x5 : Int32} (h : (zQ [3, 5, 6, 7, 8, 9, 21, 22, 23, 24, 25, 26] [(0, 0, 0), (0, 31, 33), (0, 39, 49)] [4, 10, 11] [(0, 30, 30)]) σ0 σ) : zpc (fX12_sample_407 k275 σ x1 x3 x5) (fun r => (zQ [3, 5, 6, 7, 8, 9, 21, 22, 23, 24, 25, 26] [(0, 0, 0), (0, 31, 33), (0, 39, 49)] [4, 10, 11] [(0, 30, 30)]) σ0 (r)) := by
  unfold fX12_sample_407
  exact zpc_bv (fun v4 _ => hk275 _ _ _ _ h)
theorem fV_fX12_sample_369 {σ0 : zSt} {k275 : zSt → Int64 → Int64 → Int32 → Option (zSt)} (hk275 : ∀ (y0 : zSt) (y1 : Int64) (y2 : Int64) (y3 : Int32), (zQ [3, 5, 6, 7, 8, 9, 21, 22, 23, 24, 25, 26] [(0, 0, 0), (0, 31, 33), (0, 39, 49)] [4, 10, 11] [(0, 30, 30)]) σ0 y0 → zpc (k275 y0 y1 y2 y3) (fun r => (zQ [3, 5, 6, 7, 8, 9, 21, 22, 23, 24, 25, 26] [(0, 0, 0), (0, 31, 33), (0, 39, 49)] [4, 10, 11] [(0, 30, 30)]) σ0 (r))) {σ : zSt} {x1 : Int64} {x3 : Int64} {x5 : Int32} {x6 : Int32} (h : (zQ [3, 5, 6, 7, 8, 9, 21, 22, 23, 24, 25, 26] [(0, 0, 0), (0, 31, 33), (0, 39, 49)] [4, 10, 11] [(0, 30, 30)]) σ0 σ) : zpc (fX12_sample_369 k275 σ x1 x3 x5 x6) (fun r => (zQ [3, 5, 6, 7, 8, 9, 21, 22, 23, 24, 25, 26] [(0, 0, 0), (0, 31, 33), (0, 39, 49)] [4, 10, 11] [(0, 30, 30)]) σ0 (r)) := by
  unfold fX12_sample_369
  exact zpc_if (fun _ => fV_fX12_sample_407 hk275 h) (fun _ => zpc_ck (zpc_if (fun _ => zpc_ck (zpc_bi (fV_fX12_loudness h) (fun σ5 v6 hσ5 => zpc_bv (fun v7 _ => fV_fX12_sample_407 hk275 hσ5)))) (fun _ => fV_fX12_sample_407 hk275 h)))
theorem fV_fX12_sample_327 {σ0 : zSt} {k275 : zSt → Int64 → Int64 → Int32 → Option (zSt)} (hk275 : ∀ (y0 : zSt) (y1 : Int64) (y2 : Int64) (y3 : Int32), (zQ [3, 5, 6, 7, 8, 9, 21, 22, 23, 24, 25, 26] [(0, 0, 0), (0, 31, 33), (0, 39, 49)] [4, 10, 11] [(0, 30, 30)]) σ0 y0 → zpc (k275 y0 y1 y2 y3) (fun r => (zQ [3, 5, 6, 7, 8, 9, 21, 22, 23, 24, 25, 26] [(0, 0, 0), (0, 31, 33), (0, 39, 49)] [4, 10, 11] [(0, 30, 30)]) σ0 (r))) {σ : zSt} {x1 : Int64} {x3 : Int64} {x5 : Int32} {s0 : Int32} (h : (zQ [3, 5, 6, 7, 8, 9, 21, 22, 23, 24, 25, 26] [(0, 0, 0), (0, 31, 33), (0, 39, 49)] [4, 10, 11] [(0, 30, 30)]) σ0 σ) : zpc (fX12_sample_327 k275 σ x1 x3 x5 s0) (fun r => (zQ [3, 5, 6, 7, 8, 9, 21, 22, 23, 24, 25, 26] [(0, 0, 0), (0, 31, 33), (0, 39, 49)] [4, 10, 11] [(0, 30, 30)]) σ0 (r)) := by
  unfold fX12_sample_327
  exact zpc_if (fun _ => fV_fX12_sample_369 hk275 h) (fun _ => zpc_ck (zpc_if (fun _ => zpc_ck (zpc_bi (fV_fX12_loudness h) (fun σ8 v9 hσ8 => zpc_bv (fun v10 _ => fV_fX12_sample_369 hk275 hσ8)))) (fun _ => fV_fX12_sample_369 hk275 h)))
theorem fV_fX12_sample_508 {σ0 : zSt} {σ : zSt} {x1 : Int64} {x3 : Int64} (h : (zQ [3, 5, 6, 7, 8, 9, 21, 22, 23, 24, 25, 26] [(0, 0, 0), (0, 31, 33), (0, 39, 49)] [4, 10, 11] [(0, 30, 30)]) σ0 σ) : zpc (fX12_sample_508 σ x1 x3) (fun r => (zQ [3, 5, 6, 7, 8, 9, 21, 22, 23, 24, 25, 26] [(0, 0, 0), (0, 31, 33), (0, 39, 49)] [4, 10, 11] [(0, 30, 30)]) σ0 (r)) := by
  unfold fX12_sample_508
  exact zpc_ck (zpc_ck (zpc_ck (zpc_ck (zpc_bs (zQ.wl h rfl) (fun σ11 hσ11 => zpc_some hσ11)))))
theorem fV_fX12_sample_275_body {σ0 : zSt} {k275 : zSt → Int64 → Int64 → Int32 → Option (zSt)} (hk275 : ∀ (y0 : zSt) (y1 : Int64) (y2 : Int64) (y3 : Int32), (zQ [3, 5, 6, 7, 8, 9, 21, 22, 23, 24, 25, 26] [(0, 0, 0), (0, 31, 33), (0, 39, 49)] [4, 10, 11] [(0, 30, 30)]) σ0 y0 → zpc (k275 y0 y1 y2 y3) (fun r => (zQ [3, 5, 6, 7, 8, 9, 21, 22, 23, 24, 25, 26] [(0, 0, 0), (0, 31, 33), (0, 39, 49)] [4, 10, 11] [(0, 30, 30)]) σ0 (r))) {σ : zSt} {x1 : Int64} {x3 : Int64} {x5 : Int32} (h : (zQ [3, 5, 6, 7, 8, 9, 21, 22, 23, 24, 25, 26] [(0, 0, 0), (0, 31, 33), (0, 39, 49)] [4, 10, 11] [(0, 30, 30)]) σ0 σ) : zpc (fX12_sample_275_body k275 σ x1 x3 x5) (fun r => (zQ [3, 5, 6, 7, 8, 9, 21, 22, 23, 24, 25, 26] [(0, 0, 0), (0, 31, 33), (0, 39, 49)] [4, 10, 11] [(0, 30, 30)]) σ0 (r)) := by
  unfold fX12_sample_275_body
  exact zpc_if (fun _ => zpc_ck (zpc_ck (zpc_bs (zQ.wl h rfl) (fun σ12 hσ12 => zpc_ck (zpc_ck (zpc_bs (zQ.wi hσ12 rfl) (fun σ13 hσ13 => zpc_ck (zpc_ck (zpc_bs (zQ.wi hσ13 rfl) (fun σ14 hσ14 => zpc_ck (zpc_ck (zpc_bs (zQ.wi hσ14 rfl) (fun σ15 hσ15 => zpc_ck (zpc_if (fun _ => zpc_ck (zpc_ck (zpc_ck (zpc_bs (zQ.wi hσ15 rfl) (fun σ17 hσ17 => fV_fX12_sample_508 hσ17))))) (fun _ => zpc_ck (zpc_ck (zpc_bs (zQ.wi hσ15 rfl) (fun σ16 hσ16 => fV_fX12_sample_508 hσ16)))))))))))))))))) (fun _ => zpc_if (fun _ => zpc_ck (zpc_if (fun _ => fV_fX12_sample_327 hk275 h) (fun _ => fV_fX12_sample_327 hk275 h))) (fun _ => zpc_ck (zpc_if (fun _ => fV_fX12_sample_327 hk275 h) (fun _ => fV_fX12_sample_327 hk275 h))))
theorem fV_fX12_sample_275 {σ0 : zSt} : ∀ (n : Nat) (y0 : zSt) (y1 : Int64) (y2 : Int64) (y3 : Int32), (zQ [3, 5, 6, 7, 8, 9, 21, 22, 23, 24, 25, 26] [(0, 0, 0), (0, 31, 33), (0, 39, 49)] [4, 10, 11] [(0, 30, 30)]) σ0 y0 → zpc (fX12_sample_275 n y0 y1 y2 y3) (fun r => (zQ [3, 5, 6, 7, 8, 9, 21, 22, 23, 24, 25, 26] [(0, 0, 0), (0, 31, 33), (0, 39, 49)] [4, 10, 11] [(0, 30, 30)]) σ0 (r)) := by
  intro n
  induction n with
  | zero => intro y0 y1 y2 y3 h; exact zpc_none
  | succ n ih => intro y0 y1 y2 y3 h; exact fV_fX12_sample_275_body ih h
theorem fV_fX12_sample_268 {σ0 : zSt} {σ : zSt} (h : (zQ [3, 5, 6, 7, 8, 9, 21, 22, 23, 24, 25, 26] [(0, 0, 0), (0, 31, 33), (0, 39, 49)] [4, 10, 11] [(0, 30, 30)]) σ0 σ) : zpc (fX12_sample_268 σ) (fun r => (zQ [3, 5, 6, 7, 8, 9, 21, 22, 23, 24, 25, 26] [(0, 0, 0), (0, 31, 33), (0, 39, 49)] [4, 10, 11] [(0, 30, 30)]) σ0 (r)) := by
  unfold fX12_sample_268
  exact fV_fX12_sample_275 _ _ _ _ _ h
theorem fV_fX12_sample_246 {σ0 : zSt} {σ : zSt} {s0 : Int32} (h : (zQ [3, 5, 6, 7, 8, 9, 21, 22, 23, 24, 25, 26] [(0, 0, 0), (0, 31, 33), (0, 39, 49)] [4, 10, 11] [(0, 30, 30)]) σ0 σ) : zpc (fX12_sample_246 σ s0) (fun r => (zQ [3, 5, 6, 7, 8, 9, 21, 22, 23, 24, 25, 26] [(0, 0, 0), (0, 31, 33), (0, 39, 49)] [4, 10, 11] [(0, 30, 30)]) σ0 (r)) := by
  unfold fX12_sample_246
  exact zpc_ck (zpc_ck (zpc_bs (zQ.wi h rfl) (fun σ18 hσ18 => fV_fX12_sample_268 hσ18)))
theorem fV_fX12_sample_174 {σ0 : zSt} {σ : zSt} {s0 : Int32} {s1 : Int32} (h : (zQ [3, 5, 6, 7, 8, 9, 21, 22, 23, 24, 25, 26] [(0, 0, 0), (0, 31, 33), (0, 39, 49)] [4, 10, 11] [(0, 30, 30)]) σ0 σ) (qs1 : zr 69 86 s1) : zpc (fX12_sample_174 σ s0 s1) (fun r => (zQ [3, 5, 6, 7, 8, 9, 21, 22, 23, 24, 25, 26] [(0, 0, 0), (0, 31, 33), (0, 39, 49)] [4, 10, 11] [(0, 30, 30)]) σ0 (r)) := by
  unfold fX12_sample_174
  exact zpc_ck (zpc_bs (zQ.wi h rfl) (fun σ19 hσ19 => zpc_ck (zpc_ck (zpc_bs (zQ.wi hσ19 rfl) (fun σ20 hσ20 => zpc_ck (zpc_if (fun _ => zpc_ck (zpc_if (fun _ => zpc_ck (zpc_ck (fV_fX12_sample_246 hσ20))) (fun _ => zpc_ck (fV_fX12_sample_246 hσ20)))) (fun _ => fV_fX12_sample_268 hσ20)))))))
theorem fV_fX12_sample_129 {σ0 : zSt} {σ : zSt} (h : (zQ [3, 5, 6, 7, 8, 9, 21, 22, 23, 24, 25, 26] [(0, 0, 0), (0, 31, 33), (0, 39, 49)] [4, 10, 11] [(0, 30, 30)]) σ0 σ) : zpc (fX12_sample_129 σ) (fun r => (zQ [3, 5, 6, 7, 8, 9, 21, 22, 23, 24, 25, 26] [(0, 0, 0), (0, 31, 33), (0, 39, 49)] [4, 10, 11] [(0, 30, 30)]) σ0 (r)) := by
  unfold fX12_sample_129
  exact zpc_ck (zpc_if (fun _ => zpc_ck (zpc_ck (zpc_bv (fun v21 _ => zpc_if (fun _ => zpc_ck (fV_fX12_sample_174 h (zr_w (zr_c (x := 83) (lo := 83) (hi := 83) (by decide)) (by decide)))) (fun _ => fV_fX12_sample_174 h (zr_w (zr_c (x := 83) (lo := 83) (hi := 83) (by decide)) (by decide))))))) (fun _ => fV_fX12_sample_268 h))
theorem fV_fX12_sample_2_body {σ0 : zSt} {k2 : zSt → Int32 → Option (zSt)} (hk2 : ∀ (y0 : zSt) (y1 : Int32), (zQ [3, 5, 6, 7, 8, 9, 21, 22, 23, 24, 25, 26] [(0, 0, 0), (0, 31, 33), (0, 39, 49)] [4, 10, 11] [(0, 30, 30)]) σ0 y0 → zr 0 3 y1 → zpc (k2 y0 y1) (fun r => (zQ [3, 5, 6, 7, 8, 9, 21, 22, 23, 24, 25, 26] [(0, 0, 0), (0, 31, 33), (0, 39, 49)] [4, 10, 11] [(0, 30, 30)]) σ0 (r))) {σ : zSt} {x1 : Int32} (h : (zQ [3, 5, 6, 7, 8, 9, 21, 22, 23, 24, 25, 26] [(0, 0, 0), (0, 31, 33), (0, 39, 49)] [4, 10, 11] [(0, 30, 30)]) σ0 σ) (qx1 : zr 0 3 x1) : zpc (fX12_sample_2_body k2 σ x1) (fun r => (zQ [3, 5, 6, 7, 8, 9, 21, 22, 23, 24, 25, 26] [(0, 0, 0), (0, 31, 33), (0, 39, 49)] [4, 10, 11] [(0, 30, 30)]) σ0 (r)) := by
  unfold fX12_sample_2_body
  exact zpc_if (fun g1 => zpc_ck (zpc_if (fun _ => fV_fX12_sample_129 h) (fun _ => zpc_ck (zpc_ck (zpc_bs (zQ.wi h rfl) (fun σ22 hσ22 => fV_fX12_sample_129 hσ22)))))) (fun g1 => zpc_ck (zpc_if (fun _ => fV_fX12_sample_32 hk2 h (zr_nge (k := 3) (m := 2) qx1 rfl g1 (by decide))) (fun _ => zpc_bv (fun v23 ev23 => zpc_ck (zpc_ck (zpc_bs (zQ.wi h rfl) (fun σ24 hσ24 => fV_fX12_sample_32 hk2 hσ24 (zr_nge (k := 3) (m := 2) qx1 rfl g1 (by decide)))))))))
theorem fV_fX12_sample_2 {σ0 : zSt} : ∀ (n : Nat) (y0 : zSt) (y1 : Int32), (zQ [3, 5, 6, 7, 8, 9, 21, 22, 23, 24, 25, 26] [(0, 0, 0), (0, 31, 33), (0, 39, 49)] [4, 10, 11] [(0, 30, 30)]) σ0 y0 → zr 0 3 y1 → zpc (fX12_sample_2 n y0 y1) (fun r => (zQ [3, 5, 6, 7, 8, 9, 21, 22, 23, 24, 25, 26] [(0, 0, 0), (0, 31, 33), (0, 39, 49)] [4, 10, 11] [(0, 30, 30)]) σ0 (r)) := by
  intro n
  induction n with
  | zero => intro y0 y1 h q1; exact zpc_none
  | succ n ih => intro y0 y1 h q1; exact fV_fX12_sample_2_body ih h q1
theorem fV_fX12_sample {σ0 : zSt} {σ : zSt} (h : (zQ [3, 5, 6, 7, 8, 9, 21, 22, 23, 24, 25, 26] [(0, 0, 0), (0, 31, 33), (0, 39, 49)] [4, 10, 11] [(0, 30, 30)]) σ0 σ) : zpc (fX12_sample σ) (fun r => (zQ [3, 5, 6, 7, 8, 9, 21, 22, 23, 24, 25, 26] [(0, 0, 0), (0, 31, 33), (0, 39, 49)] [4, 10, 11] [(0, 30, 30)]) σ0 (r)) := by
  unfold fX12_sample
  exact fV_fX12_sample_2 _ _ _ h (zr_w (zr_c (x := 0) (lo := 0) (hi := 0) (by decide)) (by decide))
theorem fV_fX12_wreg {σ0 : zSt} {σ : zSt} {x1 : Int32} (h : (zQ [3, 5, 6, 7, 8, 9, 21, 22, 23, 24, 25, 26] [(0, 0, 0), (0, 31, 33), (0, 39, 49)] [4, 10, 11] [(0, 30, 30)]) σ0 σ) : zpc (fX12_wreg σ x1) (fun r => (zQ [3, 5, 6, 7, 8, 9, 21, 22, 23, 24, 25, 26] [(0, 0, 0), (0, 31, 33), (0, 39, 49)] [4, 10, 11] [(0, 30, 30)]) σ0 (r.1)) := by
  unfold fX12_wreg
  exact zpc_ck (zpc_some h)
theorem fV_fX12_isRhythm_22 {σ0 : zSt} {σ : zSt} {s0 : Int32} (h : (zQ [3, 5, 6, 7, 8, 9, 21, 22, 23, 24, 25, 26] [(0, 0, 0), (0, 31, 33), (0, 39, 49)] [4, 10, 11] [(0, 30, 30)]) σ0 σ) : zpc (fX12_isRhythm_22 σ s0) (fun r => (zQ [3, 5, 6, 7, 8, 9, 21, 22, 23, 24, 25, 26] [(0, 0, 0), (0, 31, 33), (0, 39, 49)] [4, 10, 11] [(0, 30, 30)]) σ0 (r.1)) := by
  unfold fX12_isRhythm_22
  exact zpc_ck (zpc_some h)
theorem fV_fX12_isRhythm_21 {σ0 : zSt} {σ : zSt} (h : (zQ [3, 5, 6, 7, 8, 9, 21, 22, 23, 24, 25, 26] [(0, 0, 0), (0, 31, 33), (0, 39, 49)] [4, 10, 11] [(0, 30, 30)]) σ0 σ) : zpc (fX12_isRhythm_21 σ) (fun r => (zQ [3, 5, 6, 7, 8, 9, 21, 22, 23, 24, 25, 26] [(0, 0, 0), (0, 31, 33), (0, 39, 49)] [4, 10, 11] [(0, 30, 30)]) σ0 (r.1)) := by
  unfold fX12_isRhythm_21
  exact fV_fX12_isRhythm_22 h
theorem fV_fX12_isRhythm {σ0 : zSt} {σ : zSt} {x1 : Int32} (h : (zQ [3, 5, 6, 7, 8, 9, 21, 22, 23, 24, 25, 26] [(0, 0, 0), (0, 31, 33), (0, 39, 49)] [4, 10, 11] [(0, 30, 30)]) σ0 σ) : zpc (fX12_isRhythm σ x1) (fun r => (zQ [3, 5, 6, 7, 8, 9, 21, 22, 23, 24, 25, 26] [(0, 0, 0), (0, 31, 33), (0, 39, 49)] [4, 10, 11] [(0, 30, 30)]) σ0 (r.1)) := by
  unfold fX12_isRhythm
  exact zpc_if (fun _ => fV_fX12_isRhythm_21 h) (fun _ => zpc_bi (fV_fX12_wreg h) (fun σ1 v2 hσ1 => zpc_if (fun _ => fV_fX12_isRhythm_21 hσ1) (fun _ => fV_fX12_isRhythm_22 hσ1)))
theorem fV_fX12_isOn_60 {σ0 : zSt} {σ : zSt} {x3 : Int32} {s0 : Int32} (h : (zQ [3, 5, 6, 7, 8, 9, 21, 22, 23, 24, 25, 26] [(0, 0, 0), (0, 31, 33), (0, 39, 49)] [4, 10, 11] [(0, 30, 30)]) σ0 σ) : zpc (fX12_isOn_60 σ x3 s0) (fun r => (zQ [3, 5, 6, 7, 8, 9, 21, 22, 23, 24, 25, 26] [(0, 0, 0), (0, 31, 33), (0, 39, 49)] [4, 10, 11] [(0, 30, 30)]) σ0 (r.1)) := by
  unfold fX12_isOn_60
  exact zpc_bi (fV_fX12_wreg h) (fun σ1 v2 hσ1 => zpc_some hσ1)
theorem fV_fX12_isOn {σ0 : zSt} {σ : zSt} {x1 : Int32} {x2 : Int32} (h : (zQ [3, 5, 6, 7, 8, 9, 21, 22, 23, 24, 25, 26] [(0, 0, 0), (0, 31, 33), (0, 39, 49)] [4, 10, 11] [(0, 30, 30)]) σ0 σ) : zpc (fX12_isOn σ x1 x2) (fun r => (zQ [3, 5, 6, 7, 8, 9, 21, 22, 23, 24, 25, 26] [(0, 0, 0), (0, 31, 33), (0, 39, 49)] [4, 10, 11] [(0, 30, 30)]) σ0 (r.1)) := by
  unfold fX12_isOn
  exact zpc_bi (fV_fX12_wreg h) (fun σ3 v4 hσ3 => zpc_bv (fun v5 _ => zpc_bi (fV_fX12_isRhythm hσ3) (fun σ6 v7 hσ6 => zpc_if (fun _ => zpc_some hσ6) (fun _ => zpc_if (fun _ => fV_fX12_isOn_60 hσ6) (fun _ => zpc_if (fun _ => zpc_if (fun _ => fV_fX12_isOn_60 hσ6) (fun _ => fV_fX12_isOn_60 hσ6)) (fun _ => zpc_if (fun _ => fV_fX12_isOn_60 hσ6) (fun _ => fV_fX12_isOn_60 hσ6)))))))
theorem fV_fX12_digit_20 {σ0 : zSt} {σ : zSt} {s0 : Int32} (h : (zQ [3, 5, 6, 7, 8, 9, 21, 22, 23, 24, 25, 26] [(0, 0, 0), (0, 31, 33), (0, 39, 49)] [4, 10, 11] [(0, 30, 30)]) σ0 σ) : zpc (fX12_digit_20 σ s0) (fun r => (zQ [3, 5, 6, 7, 8, 9, 21, 22, 23, 24, 25, 26] [(0, 0, 0), (0, 31, 33), (0, 39, 49)] [4, 10, 11] [(0, 30, 30)]) σ0 (r.1)) := by
  unfold fX12_digit_20
  exact zpc_some h
theorem fV_fX12_digit {σ0 : zSt} {σ : zSt} {x0 : Int32} (h : (zQ [3, 5, 6, 7, 8, 9, 21, 22, 23, 24, 25, 26] [(0, 0, 0), (0, 31, 33), (0, 39, 49)] [4, 10, 11] [(0, 30, 30)]) σ0 σ) : zpc (fX12_digit σ x0) (fun r => (zQ [3, 5, 6, 7, 8, 9, 21, 22, 23, 24, 25, 26] [(0, 0, 0), (0, 31, 33), (0, 39, 49)] [4, 10, 11] [(0, 30, 30)]) σ0 (r.1)) := by
  unfold fX12_digit
  exact zpc_if (fun _ => fV_fX12_digit_20 h) (fun _ => fV_fX12_digit_20 h)
theorem fV_fX12_patchByte_25 {σ0 : zSt} {σ : zSt} {x2 : Int32} {s0 : Int32} (h : (zQ [3, 5, 6, 7, 8, 9, 21, 22, 23, 24, 25, 26] [(0, 0, 0), (0, 31, 33), (0, 39, 49)] [4, 10, 11] [(0, 30, 30)]) σ0 σ) : zpc (fX12_patchByte_25 σ x2 s0) (fun r => (zQ [3, 5, 6, 7, 8, 9, 21, 22, 23, 24, 25, 26] [(0, 0, 0), (0, 31, 33), (0, 39, 49)] [4, 10, 11] [(0, 30, 30)]) σ0 (r.1)) := by
  unfold fX12_patchByte_25
  exact zpc_if (fun _ => zpc_bi (fV_fX12_wreg h) (fun σ6 v7 hσ6 => zpc_some hσ6)) (fun _ => zpc_bv (fun v1 _ => zpc_ck (zpc_ck (zpc_bi (fV_fX12_digit h) (fun σ2 v3 hσ2 => zpc_ck (zpc_ck (zpc_bi (fV_fX12_digit hσ2) (fun σ4 v5 hσ4 => zpc_some hσ4))))))))
theorem fV_fX12_patchByte {σ0 : zSt} {σ : zSt} {x1 : Int32} {x2 : Int32} (h : (zQ [3, 5, 6, 7, 8, 9, 21, 22, 23, 24, 25, 26] [(0, 0, 0), (0, 31, 33), (0, 39, 49)] [4, 10, 11] [(0, 30, 30)]) σ0 σ) : zpc (fX12_patchByte σ x1 x2) (fun r => (zQ [3, 5, 6, 7, 8, 9, 21, 22, 23, 24, 25, 26] [(0, 0, 0), (0, 31, 33), (0, 39, 49)] [4, 10, 11] [(0, 30, 30)]) σ0 (r.1)) := by
  unfold fX12_patchByte
  exact zpc_bi (fV_fX12_isRhythm h) (fun σ8 v9 hσ8 => zpc_if (fun _ => zpc_bi (fV_fX12_wreg hσ8) (fun σ10 v11 hσ10 => fV_fX12_patchByte_25 hσ10)) (fun _ => fV_fX12_patchByte_25 hσ8))
theorem fV_fX12_rate_140 {σ0 : zSt} {σ : zSt} {s0 : Int32} (h : (zQ [3, 5, 6, 7, 8, 9, 21, 22, 23, 24, 25, 26] [(0, 0, 0), (0, 31, 33), (0, 39, 49)] [4, 10, 11] [(0, 30, 30)]) σ0 σ) : zpc (fX12_rate_140 σ s0) (fun r => (zQ [3, 5, 6, 7, 8, 9, 21, 22, 23, 24, 25, 26] [(0, 0, 0), (0, 31, 33), (0, 39, 49)] [4, 10, 11] [(0, 30, 30)]) σ0 (r.1)) := by
  unfold fX12_rate_140
  exact zpc_some h
theorem fV_fX12_rate_99 {σ0 : zSt} {σ : zSt} {s0 : Int32} (h : (zQ [3, 5, 6, 7, 8, 9, 21, 22, 23, 24, 25, 26] [(0, 0, 0), (0, 31, 33), (0, 39, 49)] [4, 10, 11] [(0, 30, 30)]) σ0 σ) : zpc (fX12_rate_99 σ s0) (fun r => (zQ [3, 5, 6, 7, 8, 9, 21, 22, 23, 24, 25, 26] [(0, 0, 0), (0, 31, 33), (0, 39, 49)] [4, 10, 11] [(0, 30, 30)]) σ0 (r.1)) := by
  unfold fX12_rate_99
  exact zpc_some h
theorem fV_fX12_rate_17 {σ0 : zSt} {σ : zSt} {x1 : Int32} {x2 : Int32} {x3 : Int32} {s0 : Int32} (h : (zQ [3, 5, 6, 7, 8, 9, 21, 22, 23, 24, 25, 26] [(0, 0, 0), (0, 31, 33), (0, 39, 49)] [4, 10, 11] [(0, 30, 30)]) σ0 σ) : zpc (fX12_rate_17 σ x1 x2 x3 s0) (fun r => (zQ [3, 5, 6, 7, 8, 9, 21, 22, 23, 24, 25, 26] [(0, 0, 0), (0, 31, 33), (0, 39, 49)] [4, 10, 11] [(0, 30, 30)]) σ0 (r.1)) := by
  unfold fX12_rate_17
  exact zpc_if (fun _ => zpc_some h) (fun _ => zpc_if (fun _ => zpc_bi (fV_fX12_patchByte h) (fun σ1 v2 hσ1 => zpc_some hσ1)) (fun _ => zpc_if (fun _ => zpc_bi (fV_fX12_patchByte h) (fun σ3 v4 hσ3 => zpc_some hσ3)) (fun _ => zpc_if (fun _ => zpc_if (fun _ => zpc_bi (fV_fX12_patchByte h) (fun σ5 v6 hσ5 => fV_fX12_rate_99 hσ5)) (fun _ => fV_fX12_rate_99 h)) (fun _ => zpc_bi (fV_fX12_wreg h) (fun σ7 v8 hσ7 => zpc_if (fun _ => zpc_if (fun _ => fV_fX12_rate_140 hσ7) (fun _ => zpc_bi (fV_fX12_patchByte hσ7) (fun σ9 v10 hσ9 => fV_fX12_rate_140 hσ9))) (fun _ => fV_fX12_rate_140 hσ7))))))
theorem fV_fX12_rate {σ0 : zSt} {σ : zSt} {x1 : Int32} {x2 : Int32} {x3 : Int32} (h : (zQ [3, 5, 6, 7, 8, 9, 21, 22, 23, 24, 25, 26] [(0, 0, 0), (0, 31, 33), (0, 39, 49)] [4, 10, 11] [(0, 30, 30)]) σ0 σ) : zpc (fX12_rate σ x1 x2 x3) (fun r => (zQ [3, 5, 6, 7, 8, 9, 21, 22, 23, 24, 25, 26] [(0, 0, 0), (0, 31, 33), (0, 39, 49)] [4, 10, 11] [(0, 30, 30)]) σ0 (r.1)) := by
  unfold fX12_rate
  exact zpc_bi (fV_fX12_patchByte h) (fun σ11 v12 hσ11 => zpc_if (fun _ => fV_fX12_rate_17 hσ11) (fun _ => fV_fX12_rate_17 hσ11))
theorem fV_fX12_block {σ0 : zSt} {σ : zSt} {x1 : Int32} (h : (zQ [3, 5, 6, 7, 8, 9, 21, 22, 23, 24, 25, 26] [(0, 0, 0), (0, 31, 33), (0, 39, 49)] [4, 10, 11] [(0, 30, 30)]) σ0 σ) : zpc (fX12_block σ x1) (fun r => (zQ [3, 5, 6, 7, 8, 9, 21, 22, 23, 24, 25, 26] [(0, 0, 0), (0, 31, 33), (0, 39, 49)] [4, 10, 11] [(0, 30, 30)]) σ0 (r.1)) := by
  unfold fX12_block
  exact zpc_bi (fV_fX12_wreg h) (fun σ1 v2 hσ1 => zpc_some hσ1)
theorem fV_fX12_f {σ0 : zSt} {σ : zSt} {x1 : Int32} (h : (zQ [3, 5, 6, 7, 8, 9, 21, 22, 23, 24, 25, 26] [(0, 0, 0), (0, 31, 33), (0, 39, 49)] [4, 10, 11] [(0, 30, 30)]) σ0 σ) : zpc (fX12_f σ x1) (fun r => (zQ [3, 5, 6, 7, 8, 9, 21, 22, 23, 24, 25, 26] [(0, 0, 0), (0, 31, 33), (0, 39, 49)] [4, 10, 11] [(0, 30, 30)]) σ0 (r.1)) := by
  unfold fX12_f
  exact zpc_bi (fV_fX12_wreg h) (fun σ1 v2 hσ1 => zpc_bi (fV_fX12_wreg hσ1) (fun σ3 v4 hσ3 => zpc_some hσ3))
theorem fV_fX12_t_40 {σ0 : zSt} {σ : zSt} {s0 : Int32} (h : (zQ [3, 5, 6, 7, 8, 9, 21, 22, 23, 24, 25, 26] [(0, 0, 0), (0, 31, 33), (0, 39, 49)] [4, 10, 11] [(0, 30, 30)]) σ0 σ) : zpc (fX12_t_40 σ s0) (fun r => (zQ [3, 5, 6, 7, 8, 9, 21, 22, 23, 24, 25, 26] [(0, 0, 0), (0, 31, 33), (0, 39, 49)] [4, 10, 11] [(0, 30, 30)]) σ0 (r.1)) := by
  unfold fX12_t_40
  exact zpc_some h
theorem fV_fX12_t_35 {σ0 : zSt} {σ : zSt} (h : (zQ [3, 5, 6, 7, 8, 9, 21, 22, 23, 24, 25, 26] [(0, 0, 0), (0, 31, 33), (0, 39, 49)] [4, 10, 11] [(0, 30, 30)]) σ0 σ) : zpc (fX12_t_35 σ) (fun r => (zQ [3, 5, 6, 7, 8, 9, 21, 22, 23, 24, 25, 26] [(0, 0, 0), (0, 31, 33), (0, 39, 49)] [4, 10, 11] [(0, 30, 30)]) σ0 (r.1)) := by
  unfold fX12_t_35
  exact fV_fX12_t_40 h
theorem fV_fX12_t_39 {σ0 : zSt} {σ : zSt} (h : (zQ [3, 5, 6, 7, 8, 9, 21, 22, 23, 24, 25, 26] [(0, 0, 0), (0, 31, 33), (0, 39, 49)] [4, 10, 11] [(0, 30, 30)]) σ0 σ) : zpc (fX12_t_39 σ) (fun r => (zQ [3, 5, 6, 7, 8, 9, 21, 22, 23, 24, 25, 26] [(0, 0, 0), (0, 31, 33), (0, 39, 49)] [4, 10, 11] [(0, 30, 30)]) σ0 (r.1)) := by
  unfold fX12_t_39
  exact fV_fX12_t_40 h
theorem fV_fX12_t_19 {σ0 : zSt} {σ : zSt} {x0 : Int32} {x1 : Int32} (h : (zQ [3, 5, 6, 7, 8, 9, 21, 22, 23, 24, 25, 26] [(0, 0, 0), (0, 31, 33), (0, 39, 49)] [4, 10, 11] [(0, 30, 30)]) σ0 σ) : zpc (fX12_t_19 σ x0 x1) (fun r => (zQ [3, 5, 6, 7, 8, 9, 21, 22, 23, 24, 25, 26] [(0, 0, 0), (0, 31, 33), (0, 39, 49)] [4, 10, 11] [(0, 30, 30)]) σ0 (r.1)) := by
  unfold fX12_t_19
  exact zpc_if (fun _ => fV_fX12_t_39 h) (fun _ => zpc_if (fun _ => fV_fX12_t_35 h) (fun _ => zpc_if (fun _ => fV_fX12_t_35 h) (fun _ => fV_fX12_t_39 h)))
theorem fV_fX12_t {σ0 : zSt} {σ : zSt} {x0 : Int32} {x1 : Int32} (h : (zQ [3, 5, 6, 7, 8, 9, 21, 22, 23, 24, 25, 26] [(0, 0, 0), (0, 31, 33), (0, 39, 49)] [4, 10, 11] [(0, 30, 30)]) σ0 σ) : zpc (fX12_t σ x0 x1) (fun r => (zQ [3, 5, 6, 7, 8, 9, 21, 22, 23, 24, 25, 26] [(0, 0, 0), (0, 31, 33), (0, 39, 49)] [4, 10, 11] [(0, 30, 30)]) σ0 (r.1)) := by
  unfold fX12_t
  exact zpc_ck (zpc_if (fun _ => fV_fX12_t_35 h) (fun _ => zpc_ck (zpc_if (fun _ => zpc_if (fun _ => fV_fX12_t_35 h) (fun _ => fV_fX12_t_19 h)) (fun _ => fV_fX12_t_19 h))))
theorem fV_fX12_envelope_275 {σ0 : zSt} {σ : zSt} {s0 : Int32} {s1 : Int32} (h : (zQ [3, 5, 6, 7, 8, 9, 21, 22, 23, 24, 25, 26] [(0, 0, 0), (0, 31, 33), (0, 39, 49)] [4, 10, 11] [(0, 30, 30)]) σ0 σ) (qs1 : zr 172 274 s1) : zpc (fX12_envelope_275 σ s0 s1) (fun r => (zQ [3, 5, 6, 7, 8, 9, 21, 22, 23, 24, 25, 26] [(0, 0, 0), (0, 31, 33), (0, 39, 49)] [4, 10, 11] [(0, 30, 30)]) σ0 (r)) := by
  unfold fX12_envelope_275
  exact zpc_ck (zpc_bs (zQ.wi h rfl) (fun σ1 hσ1 => zpc_some hσ1))
theorem fV_fX12_envelope_259 {σ0 : zSt} {σ : zSt} {x1 : Int32} {x15 : Int32} (h : (zQ [3, 5, 6, 7, 8, 9, 21, 22, 23, 24, 25, 26] [(0, 0, 0), (0, 31, 33), (0, 39, 49)] [4, 10, 11] [(0, 30, 30)]) σ0 σ) (qx1 : zr 172 274 x1) : zpc (fX12_envelope_259 σ x1 x15) (fun r => (zQ [3, 5, 6, 7, 8, 9, 21, 22, 23, 24, 25, 26] [(0, 0, 0), (0, 31, 33), (0, 39, 49)] [4, 10, 11] [(0, 30, 30)]) σ0 (r)) := by
  unfold fX12_envelope_259
  exact zpc_if (fun _ => fV_fX12_envelope_275 h qx1) (fun _ => fV_fX12_envelope_275 h qx1)
theorem fV_fX12_envelope_220 {σ0 : zSt} {σ : zSt} {x1 : Int32} {s0 : Int32} (h : (zQ [3, 5, 6, 7, 8, 9, 21, 22, 23, 24, 25, 26] [(0, 0, 0), (0, 31, 33), (0, 39, 49)] [4, 10, 11] [(0, 30, 30)]) σ0 σ) (qx1 : zr 172 274 x1) : zpc (fX12_envelope_220 σ x1 s0) (fun r => (zQ [3, 5, 6, 7, 8, 9, 21, 22, 23, 24, 25, 26] [(0, 0, 0), (0, 31, 33), (0, 39, 49)] [4, 10, 11] [(0, 30, 30)]) σ0 (r)) := by
  unfold fX12_envelope_220
  exact fV_fX12_envelope_259 h qx1
theorem fV_fX12_envelope_257 {σ0 : zSt} {σ : zSt} {x1 : Int32} {s0 : Int32} (h : (zQ [3, 5, 6, 7, 8, 9, 21, 22, 23, 24, 25, 26] [(0, 0, 0), (0, 31, 33), (0, 39, 49)] [4, 10, 11] [(0, 30, 30)]) σ0 σ) (qx1 : zr 172 274 x1) : zpc (fX12_envelope_257 σ x1 s0) (fun r => (zQ [3, 5, 6, 7, 8, 9, 21, 22, 23, 24, 25, 26] [(0, 0, 0), (0, 31, 33), (0, 39, 49)] [4, 10, 11] [(0, 30, 30)]) σ0 (r)) := by
  unfold fX12_envelope_257
  exact fV_fX12_envelope_259 h qx1
theorem fV_fX12_envelope_358 {σ0 : zSt} {σ : zSt} {s0 : Int32} {s1 : Int32} (h : (zQ [3, 5, 6, 7, 8, 9, 21, 22, 23, 24, 25, 26] [(0, 0, 0), (0, 31, 33), (0, 39, 49)] [4, 10, 11] [(0, 30, 30)]) σ0 σ) (qs1 : zr 172 274 s1) : zpc (fX12_envelope_358 σ s0 s1) (fun r => (zQ [3, 5, 6, 7, 8, 9, 21, 22, 23, 24, 25, 26] [(0, 0, 0), (0, 31, 33), (0, 39, 49)] [4, 10, 11] [(0, 30, 30)]) σ0 (r)) := by
  unfold fX12_envelope_358
  exact zpc_ck (zpc_bs (zQ.wi h rfl) (fun σ2 hσ2 => zpc_some hσ2))
theorem fV_fX12_envelope_336 {σ0 : zSt} {σ : zSt} {x1 : Int32} {s0 : Int32} {s1 : Int32} (h : (zQ [3, 5, 6, 7, 8, 9, 21, 22, 23, 24, 25, 26] [(0, 0, 0), (0, 31, 33), (0, 39, 49)] [4, 10, 11] [(0, 30, 30)]) σ0 σ) (qx1 : zr 172 274 x1) : zpc (fX12_envelope_336 σ x1 s0 s1) (fun r => (zQ [3, 5, 6, 7, 8, 9, 21, 22, 23, 24, 25, 26] [(0, 0, 0), (0, 31, 33), (0, 39, 49)] [4, 10, 11] [(0, 30, 30)]) σ0 (r)) := by
  unfold fX12_envelope_336
  exact zpc_bv (fun v3 _ => zpc_if (fun _ => fV_fX12_envelope_358 h qx1) (fun _ => fV_fX12_envelope_358 h qx1))
theorem fV_fX12_envelope_159 {σ0 : zSt} {σ : zSt} {x1 : Int32} {x4 : Int32} {x7 : Int32} {x8 : Int32} {x9 : Int64} {s0 : Int32} (h : (zQ [3, 5, 6, 7, 8, 9, 21, 22, 23, 24, 25, 26] [(0, 0, 0), (0, 31, 33), (0, 39, 49)] [4, 10, 11] [(0, 30, 30)]) σ0 σ) (qx1 : zr 172 274 x1) : zpc (fX12_envelope_159 σ x1 x4 x7 x8 x9 s0) (fun r => (zQ [3, 5, 6, 7, 8, 9, 21, 22, 23, 24, 25, 26] [(0, 0, 0), (0, 31, 33), (0, 39, 49)] [4, 10, 11] [(0, 30, 30)]) σ0 (r)) := by
  unfold fX12_envelope_159
  exact zpc_ck (zpc_ck (zpc_bv (fun v4 _ => zpc_ck (zpc_bv (fun v5 _ => zpc_if (fun _ => zpc_if (fun _ => zpc_if (fun _ => fV_fX12_envelope_257 h qx1) (fun _ => zpc_bi (fV_fX12_t h) (fun σ10 v11 hσ10 => fV_fX12_envelope_257 hσ10 qx1))) (fun _ => zpc_if (fun _ => zpc_ck (fV_fX12_envelope_220 h qx1)) (fun _ => fV_fX12_envelope_220 h qx1))) (fun _ => zpc_if (fun _ => zpc_if (fun _ => zpc_ck (zpc_bi (fV_fX12_t h) (fun σ8 v9 hσ8 => fV_fX12_envelope_336 hσ8 qx1))) (fun _ => zpc_if (fun _ => zpc_bi (fV_fX12_t h) (fun σ6 v7 hσ6 => fV_fX12_envelope_336 hσ6 qx1)) (fun _ => fV_fX12_envelope_336 h qx1))) (fun _ => fV_fX12_envelope_336 h qx1)))))))
theorem fV_fX12_envelope_158 {σ0 : zSt} {σ : zSt} {x1 : Int32} {x4 : Int32} {x7 : Int32} {x8 : Int32} {x9 : Int64} (h : (zQ [3, 5, 6, 7, 8, 9, 21, 22, 23, 24, 25, 26] [(0, 0, 0), (0, 31, 33), (0, 39, 49)] [4, 10, 11] [(0, 30, 30)]) σ0 σ) (qx1 : zr 172 274 x1) : zpc (fX12_envelope_158 σ x1 x4 x7 x8 x9) (fun r => (zQ [3, 5, 6, 7, 8, 9, 21, 22, 23, 24, 25, 26] [(0, 0, 0), (0, 31, 33), (0, 39, 49)] [4, 10, 11] [(0, 30, 30)]) σ0 (r)) := by
  unfold fX12_envelope_158
  exact fV_fX12_envelope_159 h qx1
theorem fV_fX12_envelope_121 {σ0 : zSt} {σ : zSt} {x1 : Int32} {x4 : Int32} {x7 : Int32} {x8 : Int32} {x9 : Int64} {s0 : Int64} (h : (zQ [3, 5, 6, 7, 8, 9, 21, 22, 23, 24, 25, 26] [(0, 0, 0), (0, 31, 33), (0, 39, 49)] [4, 10, 11] [(0, 30, 30)]) σ0 σ) (qx1 : zr 172 274 x1) : zpc (fX12_envelope_121 σ x1 x4 x7 x8 x9 s0) (fun r => (zQ [3, 5, 6, 7, 8, 9, 21, 22, 23, 24, 25, 26] [(0, 0, 0), (0, 31, 33), (0, 39, 49)] [4, 10, 11] [(0, 30, 30)]) σ0 (r)) := by
  unfold fX12_envelope_121
  exact zpc_if (fun _ => fV_fX12_envelope_158 h qx1) (fun _ => zpc_ck (zpc_if (fun _ => zpc_ck (zpc_ck (zpc_bi (fV_fX12_t h) (fun σ12 v13 hσ12 => fV_fX12_envelope_159 hσ12 qx1)))) (fun _ => fV_fX12_envelope_158 h qx1)))
theorem fV_fX12_envelope_87 {σ0 : zSt} {σ : zSt} {x1 : Int32} {x4 : Int32} {x6 : Int32} {s0 : Int32} (h : (zQ [3, 5, 6, 7, 8, 9, 21, 22, 23, 24, 25, 26] [(0, 0, 0), (0, 31, 33), (0, 39, 49)] [4, 10, 11] [(0, 30, 30)]) σ0 σ) (qx1 : zr 172 274 x1) : zpc (fX12_envelope_87 σ x1 x4 x6 s0) (fun r => (zQ [3, 5, 6, 7, 8, 9, 21, 22, 23, 24, 25, 26] [(0, 0, 0), (0, 31, 33), (0, 39, 49)] [4, 10, 11] [(0, 30, 30)]) σ0 (r)) := by
  unfold fX12_envelope_87
  exact zpc_ck (zpc_bv (fun v14 _ => zpc_ck (zpc_bv (fun v15 _ => zpc_if (fun _ => fV_fX12_envelope_121 h qx1) (fun _ => fV_fX12_envelope_121 h qx1)))))
theorem fV_fX12_envelope_63 {σ0 : zSt} {σ : zSt} {x1 : Int32} {x4 : Int32} {x5 : Int32} {x6 : Int32} (h : (zQ [3, 5, 6, 7, 8, 9, 21, 22, 23, 24, 25, 26] [(0, 0, 0), (0, 31, 33), (0, 39, 49)] [4, 10, 11] [(0, 30, 30)]) σ0 σ) (qx1 : zr 172 274 x1) : zpc (fX12_envelope_63 σ x1 x4 x5 x6) (fun r => (zQ [3, 5, 6, 7, 8, 9, 21, 22, 23, 24, 25, 26] [(0, 0, 0), (0, 31, 33), (0, 39, 49)] [4, 10, 11] [(0, 30, 30)]) σ0 (r)) := by
  unfold fX12_envelope_63
  exact zpc_ck (zpc_if (fun _ => zpc_ck (fV_fX12_envelope_87 h qx1)) (fun _ => fV_fX12_envelope_87 h qx1))
theorem fV_fX12_envelope {σ0 : zSt} {σ : zSt} {x1 : Int32} {x2 : Int32} {x3 : Int32} (h : (zQ [3, 5, 6, 7, 8, 9, 21, 22, 23, 24, 25, 26] [(0, 0, 0), (0, 31, 33), (0, 39, 49)] [4, 10, 11] [(0, 30, 30)]) σ0 σ) (qx1 : zr 172 274 x1) : zpc (fX12_envelope σ x1 x2 x3) (fun r => (zQ [3, 5, 6, 7, 8, 9, 21, 22, 23, 24, 25, 26] [(0, 0, 0), (0, 31, 33), (0, 39, 49)] [4, 10, 11] [(0, 30, 30)]) σ0 (r)) := by
  unfold fX12_envelope
  exact zpc_ck (zpc_bv (fun v16 _ => zpc_bi (fV_fX12_rate h) (fun σ17 v18 hσ17 => zpc_if (fun _ => zpc_some hσ17) (fun _ => zpc_bi (fV_fX12_block hσ17) (fun σ19 v20 hσ19 => zpc_bi (fV_fX12_f hσ19) (fun σ21 v22 hσ21 => zpc_ck (zpc_bv (fun v23 _ => zpc_bi (fV_fX12_patchByte hσ21) (fun σ24 v25 hσ24 => zpc_if (fun _ => zpc_ck (zpc_bv (fun v26 _ => fV_fX12_envelope_63 hσ24 qx1))) (fun _ => fV_fX12_envelope_63 hσ24 qx1))))))))))
theorem fV_fX12_phase_150 {σ0 : zSt} {σ : zSt} {x1 : Int32} {x2 : Int32} {x5 : Int32} {x6 : Int32} (h : (zQ [3, 5, 6, 7, 8, 9, 21, 22, 23, 24, 25, 26] [(0, 0, 0), (0, 31, 33), (0, 39, 49)] [4, 10, 11] [(0, 30, 30)]) σ0 σ) (qx1 : zr 172 274 x1) : zpc (fX12_phase_150 σ x1 x2 x5 x6) (fun r => (zQ [3, 5, 6, 7, 8, 9, 21, 22, 23, 24, 25, 26] [(0, 0, 0), (0, 31, 33), (0, 39, 49)] [4, 10, 11] [(0, 30, 30)]) σ0 (r)) := by
  unfold fX12_phase_150
  exact zpc_ck (zpc_bi (fV_fX12_f h) (fun σ1 v2 hσ1 => zpc_bi (fV_fX12_block hσ1) (fun σ3 v4 hσ3 => zpc_ck (zpc_ck (zpc_bs (zQ.wi hσ3 rfl) (fun σ5 hσ5 => zpc_some hσ5))))))
theorem fV_fX12_phase_148 {σ0 : zSt} {σ : zSt} {x1 : Int32} {x2 : Int32} {x5 : Int32} {s0 : Int32} (h : (zQ [3, 5, 6, 7, 8, 9, 21, 22, 23, 24, 25, 26] [(0, 0, 0), (0, 31, 33), (0, 39, 49)] [4, 10, 11] [(0, 30, 30)]) σ0 σ) (qx1 : zr 172 274 x1) : zpc (fX12_phase_148 σ x1 x2 x5 s0) (fun r => (zQ [3, 5, 6, 7, 8, 9, 21, 22, 23, 24, 25, 26] [(0, 0, 0), (0, 31, 33), (0, 39, 49)] [4, 10, 11] [(0, 30, 30)]) σ0 (r)) := by
  unfold fX12_phase_148
  exact fV_fX12_phase_150 h qx1
theorem fV_fX12_phase_132 {σ0 : zSt} {σ : zSt} {x1 : Int32} {x2 : Int32} {x5 : Int32} {x7 : Int32} {s0 : Int32} (h : (zQ [3, 5, 6, 7, 8, 9, 21, 22, 23, 24, 25, 26] [(0, 0, 0), (0, 31, 33), (0, 39, 49)] [4, 10, 11] [(0, 30, 30)]) σ0 σ) (qx1 : zr 172 274 x1) : zpc (fX12_phase_132 σ x1 x2 x5 x7 s0) (fun r => (zQ [3, 5, 6, 7, 8, 9, 21, 22, 23, 24, 25, 26] [(0, 0, 0), (0, 31, 33), (0, 39, 49)] [4, 10, 11] [(0, 30, 30)]) σ0 (r)) := by
  unfold fX12_phase_132
  exact zpc_if (fun _ => fV_fX12_phase_148 h qx1) (fun _ => fV_fX12_phase_148 h qx1)
theorem fV_fX12_phase_60 {σ0 : zSt} {σ : zSt} {x1 : Int32} {x2 : Int32} {x3 : Int32} {s0 : Int32} (h : (zQ [3, 5, 6, 7, 8, 9, 21, 22, 23, 24, 25, 26] [(0, 0, 0), (0, 31, 33), (0, 39, 49)] [4, 10, 11] [(0, 30, 30)]) σ0 σ) (qx1 : zr 172 274 x1) : zpc (fX12_phase_60 σ x1 x2 x3 s0) (fun r => (zQ [3, 5, 6, 7, 8, 9, 21, 22, 23, 24, 25, 26] [(0, 0, 0), (0, 31, 33), (0, 39, 49)] [4, 10, 11] [(0, 30, 30)]) σ0 (r)) := by
  unfold fX12_phase_60
  exact zpc_bi (fV_fX12_patchByte h) (fun σ6 v7 hσ6 => zpc_if (fun _ => fV_fX12_phase_150 hσ6 qx1) (fun _ => zpc_ck (zpc_ck (zpc_ck (zpc_bv (fun v8 _ => zpc_bi (fV_fX12_f hσ6) (fun σ9 v10 hσ9 => zpc_ck (zpc_bv (fun v11 _ => zpc_ck (zpc_if (fun _ => fV_fX12_phase_132 hσ9 qx1) (fun _ => zpc_ck (zpc_if (fun _ => fV_fX12_phase_132 hσ9 qx1) (fun _ => zpc_ck (fV_fX12_phase_132 hσ9 qx1))))))))))))))
theorem fV_fX12_phase {σ0 : zSt} {σ : zSt} {x1 : Int32} {x2 : Int32} {x3 : Int32} (h : (zQ [3, 5, 6, 7, 8, 9, 21, 22, 23, 24, 25, 26] [(0, 0, 0), (0, 31, 33), (0, 39, 49)] [4, 10, 11] [(0, 30, 30)]) σ0 σ) (qx1 : zr 172 274 x1) : zpc (fX12_phase σ x1 x2 x3) (fun r => (zQ [3, 5, 6, 7, 8, 9, 21, 22, 23, 24, 25, 26] [(0, 0, 0), (0, 31, 33), (0, 39, 49)] [4, 10, 11] [(0, 30, 30)]) σ0 (r)) := by
  unfold fX12_phase
  exact zpc_bi (fV_fX12_patchByte h) (fun σ12 v13 hσ12 => zpc_bv (fun v14 _ => zpc_if (fun _ => fV_fX12_phase_60 hσ12 qx1) (fun _ => zpc_if (fun _ => zpc_if (fun _ => fV_fX12_phase_60 hσ12 qx1) (fun _ => zpc_if (fun _ => fV_fX12_phase_60 hσ12 qx1) (fun _ => fV_fX12_phase_60 hσ12 qx1))) (fun _ => fV_fX12_phase_60 hσ12 qx1))))
theorem fV_fX12_drum_191 {σ0 : zSt} {σ : zSt} {s0 : Int32} (h : (zQ [3, 5, 6, 7, 8, 9, 21, 22, 23, 24, 25, 26] [(0, 0, 0), (0, 31, 33), (0, 39, 49)] [4, 10, 11] [(0, 30, 30)]) σ0 σ) : zpc (fX12_drum_191 σ s0) (fun r => (zQ [3, 5, 6, 7, 8, 9, 21, 22, 23, 24, 25, 26] [(0, 0, 0), (0, 31, 33), (0, 39, 49)] [4, 10, 11] [(0, 30, 30)]) σ0 (r.1)) := by
  unfold fX12_drum_191
  exact zpc_some h
theorem fV_fX12_drum_214 {σ0 : zSt} {σ : zSt} {s0 : Int32} (h : (zQ [3, 5, 6, 7, 8, 9, 21, 22, 23, 24, 25, 26] [(0, 0, 0), (0, 31, 33), (0, 39, 49)] [4, 10, 11] [(0, 30, 30)]) σ0 σ) : zpc (fX12_drum_214 σ s0) (fun r => (zQ [3, 5, 6, 7, 8, 9, 21, 22, 23, 24, 25, 26] [(0, 0, 0), (0, 31, 33), (0, 39, 49)] [4, 10, 11] [(0, 30, 30)]) σ0 (r.1)) := by
  unfold fX12_drum_214
  exact zpc_some h
theorem fV_fX12_drum_148 {σ0 : zSt} {σ : zSt} {x1 : Int32} {x2 : Int32} {x3 : Int32} {x6 : Int32} {x7 : Int32} (h : (zQ [3, 5, 6, 7, 8, 9, 21, 22, 23, 24, 25, 26] [(0, 0, 0), (0, 31, 33), (0, 39, 49)] [4, 10, 11] [(0, 30, 30)]) σ0 σ) : zpc (fX12_drum_148 σ x1 x2 x3 x6 x7) (fun r => (zQ [3, 5, 6, 7, 8, 9, 21, 22, 23, 24, 25, 26] [(0, 0, 0), (0, 31, 33), (0, 39, 49)] [4, 10, 11] [(0, 30, 30)]) σ0 (r.1)) := by
  unfold fX12_drum_148
  exact zpc_if (fun _ => zpc_if (fun _ => zpc_if (fun _ => fV_fX12_drum_191 h) (fun _ => fV_fX12_drum_191 h)) (fun _ => zpc_if (fun _ => fV_fX12_drum_191 h) (fun _ => fV_fX12_drum_191 h))) (fun _ => zpc_if (fun _ => fV_fX12_drum_214 h) (fun _ => zpc_if (fun _ => fV_fX12_drum_214 h) (fun _ => fV_fX12_drum_214 h)))
theorem fV_fX12_drum_147 {σ0 : zSt} {σ : zSt} {s0 : Int32} (h : (zQ [3, 5, 6, 7, 8, 9, 21, 22, 23, 24, 25, 26] [(0, 0, 0), (0, 31, 33), (0, 39, 49)] [4, 10, 11] [(0, 30, 30)]) σ0 σ) : zpc (fX12_drum_147 σ s0) (fun r => (zQ [3, 5, 6, 7, 8, 9, 21, 22, 23, 24, 25, 26] [(0, 0, 0), (0, 31, 33), (0, 39, 49)] [4, 10, 11] [(0, 30, 30)]) σ0 (r.1)) := by
  unfold fX12_drum_147
  exact zpc_some h
theorem fV_fX12_drum_100 {σ0 : zSt} {σ : zSt} {x1 : Int32} {x2 : Int32} {x3 : Int32} {x6 : Int32} {s0 : Int32} (h : (zQ [3, 5, 6, 7, 8, 9, 21, 22, 23, 24, 25, 26] [(0, 0, 0), (0, 31, 33), (0, 39, 49)] [4, 10, 11] [(0, 30, 30)]) σ0 σ) : zpc (fX12_drum_100 σ x1 x2 x3 x6 s0) (fun r => (zQ [3, 5, 6, 7, 8, 9, 21, 22, 23, 24, 25, 26] [(0, 0, 0), (0, 31, 33), (0, 39, 49)] [4, 10, 11] [(0, 30, 30)]) σ0 (r.1)) := by
  unfold fX12_drum_100
  exact zpc_if (fun _ => zpc_if (fun _ => zpc_if (fun _ => zpc_if (fun _ => fV_fX12_drum_147 h) (fun _ => fV_fX12_drum_147 h)) (fun _ => zpc_if (fun _ => fV_fX12_drum_147 h) (fun _ => fV_fX12_drum_147 h))) (fun _ => fV_fX12_drum_148 h)) (fun _ => fV_fX12_drum_148 h)
theorem fV_fX12_drum_79 {σ0 : zSt} {σ : zSt} {x1 : Int32} {x2 : Int32} {x3 : Int32} {s0 : Int32} (h : (zQ [3, 5, 6, 7, 8, 9, 21, 22, 23, 24, 25, 26] [(0, 0, 0), (0, 31, 33), (0, 39, 49)] [4, 10, 11] [(0, 30, 30)]) σ0 σ) : zpc (fX12_drum_79 σ x1 x2 x3 s0) (fun r => (zQ [3, 5, 6, 7, 8, 9, 21, 22, 23, 24, 25, 26] [(0, 0, 0), (0, 31, 33), (0, 39, 49)] [4, 10, 11] [(0, 30, 30)]) σ0 (r.1)) := by
  unfold fX12_drum_79
  exact zpc_ck (zpc_if (fun _ => fV_fX12_drum_100 h) (fun _ => fV_fX12_drum_100 h))
theorem fV_fX12_drum_74 {σ0 : zSt} {σ : zSt} {x1 : Int32} {x2 : Int32} {x3 : Int32} (h : (zQ [3, 5, 6, 7, 8, 9, 21, 22, 23, 24, 25, 26] [(0, 0, 0), (0, 31, 33), (0, 39, 49)] [4, 10, 11] [(0, 30, 30)]) σ0 σ) : zpc (fX12_drum_74 σ x1 x2 x3) (fun r => (zQ [3, 5, 6, 7, 8, 9, 21, 22, 23, 24, 25, 26] [(0, 0, 0), (0, 31, 33), (0, 39, 49)] [4, 10, 11] [(0, 30, 30)]) σ0 (r.1)) := by
  unfold fX12_drum_74
  exact fV_fX12_drum_79 h
theorem fV_fX12_drum {σ0 : zSt} {σ : zSt} {x1 : Int32} {x2 : Int32} {x3 : Int32} (h : (zQ [3, 5, 6, 7, 8, 9, 21, 22, 23, 24, 25, 26] [(0, 0, 0), (0, 31, 33), (0, 39, 49)] [4, 10, 11] [(0, 30, 30)]) σ0 σ) : zpc (fX12_drum σ x1 x2 x3) (fun r => (zQ [3, 5, 6, 7, 8, 9, 21, 22, 23, 24, 25, 26] [(0, 0, 0), (0, 31, 33), (0, 39, 49)] [4, 10, 11] [(0, 30, 30)]) σ0 (r.1)) := by
  unfold fX12_drum
  exact zpc_ck (zpc_ck (zpc_bv (fun v1 _ => zpc_ck (zpc_ck (zpc_bv (fun v2 _ => zpc_if (fun _ => zpc_if (fun _ => zpc_if (fun _ => fV_fX12_drum_79 h) (fun _ => fV_fX12_drum_74 h)) (fun _ => fV_fX12_drum_74 h)) (fun _ => fV_fX12_drum_74 h)))))))
theorem fV_fX12_kept_97 {σ0 : zSt} {σ : zSt} {s0 : Int32} (h : (zQ [3, 5, 6, 7, 8, 9, 21, 22, 23, 24, 25, 26] [(0, 0, 0), (0, 31, 33), (0, 39, 49)] [4, 10, 11] [(0, 30, 30)]) σ0 σ) : zpc (fX12_kept_97 σ s0) (fun r => (zQ [3, 5, 6, 7, 8, 9, 21, 22, 23, 24, 25, 26] [(0, 0, 0), (0, 31, 33), (0, 39, 49)] [4, 10, 11] [(0, 30, 30)]) σ0 (r.1)) := by
  unfold fX12_kept_97
  exact zpc_some h
theorem fV_fX12_kept {σ0 : zSt} {σ : zSt} {x0 : Int32} (h : (zQ [3, 5, 6, 7, 8, 9, 21, 22, 23, 24, 25, 26] [(0, 0, 0), (0, 31, 33), (0, 39, 49)] [4, 10, 11] [(0, 30, 30)]) σ0 σ) : zpc (fX12_kept σ x0) (fun r => (zQ [3, 5, 6, 7, 8, 9, 21, 22, 23, 24, 25, 26] [(0, 0, 0), (0, 31, 33), (0, 39, 49)] [4, 10, 11] [(0, 30, 30)]) σ0 (r.1)) := by
  unfold fX12_kept
  exact zpc_if (fun _ => fV_fX12_kept_97 h) (fun _ => zpc_if (fun _ => fV_fX12_kept_97 h) (fun _ => zpc_if (fun _ => fV_fX12_kept_97 h) (fun _ => zpc_if (fun _ => fV_fX12_kept_97 h) (fun _ => zpc_if (fun _ => fV_fX12_kept_97 h) (fun _ => zpc_if (fun _ => fV_fX12_kept_97 h) (fun _ => zpc_if (fun _ => fV_fX12_kept_97 h) (fun _ => zpc_if (fun _ => fV_fX12_kept_97 h) (fun _ => zpc_if (fun _ => fV_fX12_kept_97 h) (fun _ => fV_fX12_kept_97 h)))))))))
theorem fV_fX12_waveAt_376 {σ0 : zSt} {σ : zSt} {s0 : Int32} (h : (zQ [3, 5, 6, 7, 8, 9, 21, 22, 23, 24, 25, 26] [(0, 0, 0), (0, 31, 33), (0, 39, 49)] [4, 10, 11] [(0, 30, 30)]) σ0 σ) : zpc (fX12_waveAt_376 σ s0) (fun r => (zQ [3, 5, 6, 7, 8, 9, 21, 22, 23, 24, 25, 26] [(0, 0, 0), (0, 31, 33), (0, 39, 49)] [4, 10, 11] [(0, 30, 30)]) σ0 (r.1)) := by
  unfold fX12_waveAt_376
  exact zpc_some h
theorem fV_fX12_waveAt_296 {σ0 : zSt} {σ : zSt} {x2 : Int32} {x3 : Int32} {x4 : Int32} {x5 : Int32} {s0 : Int32} (h : (zQ [3, 5, 6, 7, 8, 9, 21, 22, 23, 24, 25, 26] [(0, 0, 0), (0, 31, 33), (0, 39, 49)] [4, 10, 11] [(0, 30, 30)]) σ0 σ) : zpc (fX12_waveAt_296 σ x2 x3 x4 x5 s0) (fun r => (zQ [3, 5, 6, 7, 8, 9, 21, 22, 23, 24, 25, 26] [(0, 0, 0), (0, 31, 33), (0, 39, 49)] [4, 10, 11] [(0, 30, 30)]) σ0 (r.1)) := by
  unfold fX12_waveAt_296
  exact zpc_ck (zpc_bv (fun v1 _ => zpc_ck (zpc_ck (zpc_ck (zpc_bv (fun v2 _ => zpc_if (fun _ => zpc_some h) (fun _ => zpc_bi (fV_fX12_patchByte h) (fun σ3 v4 hσ3 => zpc_if (fun _ => fV_fX12_waveAt_376 hσ3) (fun _ => fV_fX12_waveAt_376 hσ3)))))))))
theorem fV_fX12_waveAt_263 {σ0 : zSt} {σ : zSt} {x1 : Int32} {x2 : Int32} {x3 : Int32} {x4 : Int32} {x5 : Int32} {x8 : Int32} {x11 : Int32} {s0 : Int32} (h : (zQ [3, 5, 6, 7, 8, 9, 21, 22, 23, 24, 25, 26] [(0, 0, 0), (0, 31, 33), (0, 39, 49)] [4, 10, 11] [(0, 30, 30)]) σ0 σ) : zpc (fX12_waveAt_263 σ x1 x2 x3 x4 x5 x8 x11 s0) (fun r => (zQ [3, 5, 6, 7, 8, 9, 21, 22, 23, 24, 25, 26] [(0, 0, 0), (0, 31, 33), (0, 39, 49)] [4, 10, 11] [(0, 30, 30)]) σ0 (r.1)) := by
  unfold fX12_waveAt_263
  exact zpc_ck (zpc_bv (fun v5 _ => zpc_if (fun _ => fV_fX12_waveAt_296 h) (fun _ => fV_fX12_waveAt_296 h)))
theorem fV_fX12_waveAt_260 {σ0 : zSt} {σ : zSt} {x1 : Int32} {x2 : Int32} {x3 : Int32} {x4 : Int32} {x5 : Int32} {x8 : Int32} {x11 : Int32} {s0 : Int32} (h : (zQ [3, 5, 6, 7, 8, 9, 21, 22, 23, 24, 25, 26] [(0, 0, 0), (0, 31, 33), (0, 39, 49)] [4, 10, 11] [(0, 30, 30)]) σ0 σ) : zpc (fX12_waveAt_260 σ x1 x2 x3 x4 x5 x8 x11 s0) (fun r => (zQ [3, 5, 6, 7, 8, 9, 21, 22, 23, 24, 25, 26] [(0, 0, 0), (0, 31, 33), (0, 39, 49)] [4, 10, 11] [(0, 30, 30)]) σ0 (r.1)) := by
  unfold fX12_waveAt_260
  exact zpc_ck (fV_fX12_waveAt_263 h)
theorem fV_fX12_waveAt_206 {σ0 : zSt} {σ : zSt} {x1 : Int32} {x2 : Int32} {x3 : Int32} {x4 : Int32} {x5 : Int32} {x8 : Int32} {s0 : Int32} (h : (zQ [3, 5, 6, 7, 8, 9, 21, 22, 23, 24, 25, 26] [(0, 0, 0), (0, 31, 33), (0, 39, 49)] [4, 10, 11] [(0, 30, 30)]) σ0 σ) : zpc (fX12_waveAt_206 σ x1 x2 x3 x4 x5 x8 s0) (fun r => (zQ [3, 5, 6, 7, 8, 9, 21, 22, 23, 24, 25, 26] [(0, 0, 0), (0, 31, 33), (0, 39, 49)] [4, 10, 11] [(0, 30, 30)]) σ0 (r.1)) := by
  unfold fX12_waveAt_206
  exact zpc_ck (zpc_ck (zpc_ck (zpc_bv (fun v6 _ => zpc_bi (fV_fX12_patchByte h) (fun σ7 v8 hσ7 => zpc_if (fun _ => fV_fX12_waveAt_263 hσ7) (fun _ => zpc_if (fun _ => fV_fX12_waveAt_260 hσ7) (fun _ => fV_fX12_waveAt_260 hσ7)))))))
theorem fV_fX12_waveAt_192 {σ0 : zSt} {σ : zSt} {x1 : Int32} {x2 : Int32} {x3 : Int32} {x4 : Int32} {x5 : Int32} {x8 : Int32} {x9 : Int32} (h : (zQ [3, 5, 6, 7, 8, 9, 21, 22, 23, 24, 25, 26] [(0, 0, 0), (0, 31, 33), (0, 39, 49)] [4, 10, 11] [(0, 30, 30)]) σ0 σ) : zpc (fX12_waveAt_192 σ x1 x2 x3 x4 x5 x8 x9) (fun r => (zQ [3, 5, 6, 7, 8, 9, 21, 22, 23, 24, 25, 26] [(0, 0, 0), (0, 31, 33), (0, 39, 49)] [4, 10, 11] [(0, 30, 30)]) σ0 (r.1)) := by
  unfold fX12_waveAt_192
  exact zpc_ck (zpc_ck (fV_fX12_waveAt_206 h))
theorem fV_fX12_waveAt_123 {σ0 : zSt} {σ : zSt} {x1 : Int32} {x2 : Int32} {x3 : Int32} {x4 : Int32} {x5 : Int32} {s0 : Int32} (h : (zQ [3, 5, 6, 7, 8, 9, 21, 22, 23, 24, 25, 26] [(0, 0, 0), (0, 31, 33), (0, 39, 49)] [4, 10, 11] [(0, 30, 30)]) σ0 σ) : zpc (fX12_waveAt_123 σ x1 x2 x3 x4 x5 s0) (fun r => (zQ [3, 5, 6, 7, 8, 9, 21, 22, 23, 24, 25, 26] [(0, 0, 0), (0, 31, 33), (0, 39, 49)] [4, 10, 11] [(0, 30, 30)]) σ0 (r.1)) := by
  unfold fX12_waveAt_123
  exact zpc_bi (fV_fX12_patchByte h) (fun σ9 v10 hσ9 => zpc_bv (fun v11 _ => zpc_bi (fV_fX12_wreg hσ9) (fun σ12 v13 hσ12 => zpc_bv (fun v14 _ => zpc_if (fun _ => fV_fX12_waveAt_206 hσ12) (fun _ => zpc_bi (fV_fX12_isRhythm hσ12) (fun σ15 v16 hσ15 => zpc_if (fun _ => fV_fX12_waveAt_192 hσ15) (fun _ => zpc_if (fun _ => fV_fX12_waveAt_192 hσ15) (fun _ => zpc_bi (fV_fX12_wreg hσ15) (fun σ17 v18 hσ17 => fV_fX12_waveAt_206 hσ17)))))))))
theorem fV_fX12_waveAt_91 {σ0 : zSt} {σ : zSt} {x1 : Int32} {x2 : Int32} {x3 : Int32} {x4 : Int32} {x5 : Int32} (h : (zQ [3, 5, 6, 7, 8, 9, 21, 22, 23, 24, 25, 26] [(0, 0, 0), (0, 31, 33), (0, 39, 49)] [4, 10, 11] [(0, 30, 30)]) σ0 σ) : zpc (fX12_waveAt_91 σ x1 x2 x3 x4 x5) (fun r => (zQ [3, 5, 6, 7, 8, 9, 21, 22, 23, 24, 25, 26] [(0, 0, 0), (0, 31, 33), (0, 39, 49)] [4, 10, 11] [(0, 30, 30)]) σ0 (r.1)) := by
  unfold fX12_waveAt_91
  exact fV_fX12_waveAt_123 h
theorem fV_fX12_waveAt_41 {σ0 : zSt} {σ : zSt} {x1 : Int32} {x2 : Int32} {x3 : Int32} {x4 : Int32} {s0 : Int32} (h : (zQ [3, 5, 6, 7, 8, 9, 21, 22, 23, 24, 25, 26] [(0, 0, 0), (0, 31, 33), (0, 39, 49)] [4, 10, 11] [(0, 30, 30)]) σ0 σ) : zpc (fX12_waveAt_41 σ x1 x2 x3 x4 s0) (fun r => (zQ [3, 5, 6, 7, 8, 9, 21, 22, 23, 24, 25, 26] [(0, 0, 0), (0, 31, 33), (0, 39, 49)] [4, 10, 11] [(0, 30, 30)]) σ0 (r.1)) := by
  unfold fX12_waveAt_41
  exact zpc_bi (fV_fX12_patchByte h) (fun σ19 v20 hσ19 => zpc_bv (fun v21 _ => zpc_bi (fV_fX12_f hσ19) (fun σ22 v23 hσ22 => zpc_ck (zpc_bi (fV_fX12_kept hσ22) (fun σ24 v25 hσ24 => zpc_bi (fV_fX12_block hσ24) (fun σ26 v27 hσ26 => zpc_bv (fun v28 _ => zpc_if (fun _ => fV_fX12_waveAt_91 hσ26) (fun _ => zpc_if (fun _ => fV_fX12_waveAt_91 hσ26) (fun _ => zpc_if (fun _ => zpc_ck (fV_fX12_waveAt_123 hσ26)) (fun _ => zpc_if (fun _ => zpc_ck (fV_fX12_waveAt_123 hσ26)) (fun _ => fV_fX12_waveAt_123 hσ26)))))))))))
theorem fV_fX12_waveAt {σ0 : zSt} {σ : zSt} {x1 : Int32} {x2 : Int32} {x3 : Int32} {x4 : Int32} (h : (zQ [3, 5, 6, 7, 8, 9, 21, 22, 23, 24, 25, 26] [(0, 0, 0), (0, 31, 33), (0, 39, 49)] [4, 10, 11] [(0, 30, 30)]) σ0 σ) : zpc (fX12_waveAt σ x1 x2 x3 x4) (fun r => (zQ [3, 5, 6, 7, 8, 9, 21, 22, 23, 24, 25, 26] [(0, 0, 0), (0, 31, 33), (0, 39, 49)] [4, 10, 11] [(0, 30, 30)]) σ0 (r.1)) := by
  unfold fX12_waveAt
  exact zpc_ck (zpc_if (fun _ => zpc_if (fun _ => zpc_ck (fV_fX12_waveAt_41 h)) (fun _ => zpc_ck (fV_fX12_waveAt_41 h))) (fun _ => zpc_some h))
theorem fV_fX12_operator_319 {σ0 : zSt} {σ : zSt} {x1 : Int32} {x2 : Int32} {x3 : Int32} {x5 : Int32} {x8 : Int32} (h : (zQ [3, 5, 6, 7, 8, 9, 21, 22, 23, 24, 25, 26] [(0, 0, 0), (0, 31, 33), (0, 39, 49)] [4, 10, 11] [(0, 30, 30)]) σ0 σ) (qx3 : zr 172 274 x3) : zpc (fX12_operator_319 σ x1 x2 x3 x5 x8) (fun r => (zQ [3, 5, 6, 7, 8, 9, 21, 22, 23, 24, 25, 26] [(0, 0, 0), (0, 31, 33), (0, 39, 49)] [4, 10, 11] [(0, 30, 30)]) σ0 (r)) := by
  unfold fX12_operator_319
  exact zpc_ck (zpc_bs (zQ.wi h rfl) (fun σ1 hσ1 => zpc_bi (fV_fX12_waveAt hσ1) (fun σ2 v3 hσ2 => zpc_ck (zpc_bs (zQ.wi hσ2 rfl) (fun σ4 hσ4 => zpc_some hσ4)))))
theorem fV_fX12_operator_266 {σ0 : zSt} {σ : zSt} {x1 : Int32} {x2 : Int32} {x3 : Int32} {x5 : Int32} {s0 : Int32} (h : (zQ [3, 5, 6, 7, 8, 9, 21, 22, 23, 24, 25, 26] [(0, 0, 0), (0, 31, 33), (0, 39, 49)] [4, 10, 11] [(0, 30, 30)]) σ0 σ) (qx3 : zr 172 274 x3) : zpc (fX12_operator_266 σ x1 x2 x3 x5 s0) (fun r => (zQ [3, 5, 6, 7, 8, 9, 21, 22, 23, 24, 25, 26] [(0, 0, 0), (0, 31, 33), (0, 39, 49)] [4, 10, 11] [(0, 30, 30)]) σ0 (r)) := by
  unfold fX12_operator_266
  exact zpc_ck (zpc_ck (zpc_bv (fun v5 _ => zpc_bi (fV_fX12_isRhythm h) (fun σ6 v7 hσ6 => zpc_if (fun _ => fV_fX12_operator_319 hσ6 qx3) (fun _ => zpc_if (fun _ => fV_fX12_operator_319 hσ6 qx3) (fun _ => zpc_ck (zpc_ck (zpc_bi (fV_fX12_drum hσ6) (fun σ8 v9 hσ8 => fV_fX12_operator_319 hσ8 qx3)))))))))
theorem fV_fX12_operator_190 {σ0 : zSt} {σ : zSt} {x1 : Int32} {x2 : Int32} {x3 : Int32} (h : (zQ [3, 5, 6, 7, 8, 9, 21, 22, 23, 24, 25, 26] [(0, 0, 0), (0, 31, 33), (0, 39, 49)] [4, 10, 11] [(0, 30, 30)]) σ0 σ) (qx3 : zr 172 274 x3) : zpc (fX12_operator_190 σ x1 x2 x3) (fun r => (zQ [3, 5, 6, 7, 8, 9, 21, 22, 23, 24, 25, 26] [(0, 0, 0), (0, 31, 33), (0, 39, 49)] [4, 10, 11] [(0, 30, 30)]) σ0 (r)) := by
  unfold fX12_operator_190
  exact zpc_bu (fV_fX12_phase h qx3) (fun σ10 hσ10 => zpc_ck (zpc_bv (fun v11 _ => zpc_bi (fV_fX12_patchByte hσ10) (fun σ12 v13 hσ12 => zpc_bv (fun v14 _ => zpc_if (fun _ => zpc_ck (fV_fX12_operator_266 hσ12 qx3)) (fun _ => zpc_if (fun _ => fV_fX12_operator_266 hσ12 qx3) (fun _ => zpc_ck (zpc_ck (fV_fX12_operator_266 hσ12 qx3)))))))))
theorem fV_fX12_operator_146 {σ0 : zSt} {σ : zSt} {x1 : Int32} {x2 : Int32} {x3 : Int32} (h : (zQ [3, 5, 6, 7, 8, 9, 21, 22, 23, 24, 25, 26] [(0, 0, 0), (0, 31, 33), (0, 39, 49)] [4, 10, 11] [(0, 30, 30)]) σ0 σ) (qx3 : zr 172 274 x3) : zpc (fX12_operator_146 σ x1 x2 x3) (fun r => (zQ [3, 5, 6, 7, 8, 9, 21, 22, 23, 24, 25, 26] [(0, 0, 0), (0, 31, 33), (0, 39, 49)] [4, 10, 11] [(0, 30, 30)]) σ0 (r)) := by
  unfold fX12_operator_146
  exact zpc_ck (zpc_if (fun _ => zpc_ck (zpc_ck (zpc_bi (fV_fX12_patchByte h) (fun σ15 v16 hσ15 => zpc_if (fun _ => fV_fX12_operator_190 hσ15 qx3) (fun _ => zpc_ck (zpc_bs (zQ.wi hσ15 rfl) (fun σ17 hσ17 => fV_fX12_operator_190 hσ17 qx3))))))) (fun _ => fV_fX12_operator_190 h qx3))
theorem fV_fX12_operator_113 {σ0 : zSt} {σ : zSt} {x1 : Int32} {x2 : Int32} {x3 : Int32} (h : (zQ [3, 5, 6, 7, 8, 9, 21, 22, 23, 24, 25, 26] [(0, 0, 0), (0, 31, 33), (0, 39, 49)] [4, 10, 11] [(0, 30, 30)]) σ0 σ) (qx3 : zr 172 274 x3) : zpc (fX12_operator_113 σ x1 x2 x3) (fun r => (zQ [3, 5, 6, 7, 8, 9, 21, 22, 23, 24, 25, 26] [(0, 0, 0), (0, 31, 33), (0, 39, 49)] [4, 10, 11] [(0, 30, 30)]) σ0 (r)) := by
  unfold fX12_operator_113
  exact zpc_ck (zpc_if (fun _ => zpc_ck (zpc_if (fun _ => zpc_ck (zpc_bs (zQ.wi h rfl) (fun σ18 hσ18 => fV_fX12_operator_190 hσ18 qx3))) (fun _ => fV_fX12_operator_146 h qx3))) (fun _ => fV_fX12_operator_146 h qx3))
theorem fV_fX12_operator_53 {σ0 : zSt} {σ : zSt} {x1 : Int32} {x2 : Int32} {x3 : Int32} {x4 : Int32} (h : (zQ [3, 5, 6, 7, 8, 9, 21, 22, 23, 24, 25, 26] [(0, 0, 0), (0, 31, 33), (0, 39, 49)] [4, 10, 11] [(0, 30, 30)]) σ0 σ) (qx3 : zr 172 274 x3) : zpc (fX12_operator_53 σ x1 x2 x3 x4) (fun r => (zQ [3, 5, 6, 7, 8, 9, 21, 22, 23, 24, 25, 26] [(0, 0, 0), (0, 31, 33), (0, 39, 49)] [4, 10, 11] [(0, 30, 30)]) σ0 (r)) := by
  unfold fX12_operator_53
  exact zpc_ck (zpc_bs (zQ.wi h rfl) (fun σ19 hσ19 => zpc_bu (fV_fX12_envelope hσ19 qx3) (fun σ20 hσ20 => zpc_ck (zpc_if (fun _ => zpc_ck (zpc_if (fun _ => fV_fX12_operator_113 hσ20 qx3) (fun _ => zpc_ck (zpc_bs (zQ.wi hσ20 rfl) (fun σ21 hσ21 => zpc_ck (zpc_bs (zQ.wi hσ21 rfl) (fun σ22 hσ22 => fV_fX12_operator_190 hσ22 qx3))))))) (fun _ => fV_fX12_operator_113 hσ20 qx3)))))
theorem fV_fX12_operator_52 {σ0 : zSt} {σ : zSt} {x1 : Int32} {x2 : Int32} {x3 : Int32} {x4 : Int32} {s0 : Int32} {s1 : Int32} (h : (zQ [3, 5, 6, 7, 8, 9, 21, 22, 23, 24, 25, 26] [(0, 0, 0), (0, 31, 33), (0, 39, 49)] [4, 10, 11] [(0, 30, 30)]) σ0 σ) (qx3 : zr 172 274 x3) (qs1 : zr 172 279 s1) : zpc (fX12_operator_52 σ x1 x2 x3 x4 s0 s1) (fun r => (zQ [3, 5, 6, 7, 8, 9, 21, 22, 23, 24, 25, 26] [(0, 0, 0), (0, 31, 33), (0, 39, 49)] [4, 10, 11] [(0, 30, 30)]) σ0 (r)) := by
  unfold fX12_operator_52
  exact zpc_ck (zpc_bs (zQ.wi h rfl) (fun σ23 hσ23 => fV_fX12_operator_53 hσ23 qx3))
theorem fV_fX12_operator {σ0 : zSt} {σ : zSt} {x1 : Int32} {x2 : Int32} (h : (zQ [3, 5, 6, 7, 8, 9, 21, 22, 23, 24, 25, 26] [(0, 0, 0), (0, 31, 33), (0, 39, 49)] [4, 10, 11] [(0, 30, 30)]) σ0 σ) (qx1 : zr 0 8 x1) (qx2 : zr 0 1 x2) : zpc (fX12_operator σ x1 x2) (fun r => (zQ [3, 5, 6, 7, 8, 9, 21, 22, 23, 24, 25, 26] [(0, 0, 0), (0, 31, 33), (0, 39, 49)] [4, 10, 11] [(0, 30, 30)]) σ0 (r)) := by
  unfold fX12_operator
  exact zpc_bv (fun v24 ev24 => zpc_bi (fV_fX12_isOn h) (fun σ25 v26 hσ25 => zpc_ck (zpc_if (fun _ => fV_fX12_operator_53 hσ25 (show zr 172 274 v24 by rw [ev24]; exact (zr_add (lo := 172) (hi := 274) (zr_c (x := 172) (lo := 172) (hi := 172) (by decide)) (zr_mul (lo := 0) (hi := 102) (zr_c (x := 6) (lo := 6) (hi := 6) (by decide)) (zr_add (lo := 0) (hi := 17) (zr_mul (lo := 0) (hi := 16) (zr_c (x := 2) (lo := 2) (hi := 2) (by decide)) qx1 (by decide)) qx2 (by decide)) (by decide)) (by decide)))) (fun _ => zpc_if (fun _ => fV_fX12_operator_52 hσ25 (show zr 172 274 v24 by rw [ev24]; exact (zr_add (lo := 172) (hi := 274) (zr_c (x := 172) (lo := 172) (hi := 172) (by decide)) (zr_mul (lo := 0) (hi := 102) (zr_c (x := 6) (lo := 6) (hi := 6) (by decide)) (zr_add (lo := 0) (hi := 17) (zr_mul (lo := 0) (hi := 16) (zr_c (x := 2) (lo := 2) (hi := 2) (by decide)) qx1 (by decide)) qx2 (by decide)) (by decide)) (by decide))) (zr_w (zr_add (lo := 173) (hi := 275) (show zr 172 274 v24 by rw [ev24]; exact (zr_add (lo := 172) (hi := 274) (zr_c (x := 172) (lo := 172) (hi := 172) (by decide)) (zr_mul (lo := 0) (hi := 102) (zr_c (x := 6) (lo := 6) (hi := 6) (by decide)) (zr_add (lo := 0) (hi := 17) (zr_mul (lo := 0) (hi := 16) (zr_c (x := 2) (lo := 2) (hi := 2) (by decide)) qx1 (by decide)) qx2 (by decide)) (by decide)) (by decide))) (zr_c (x := 1) (lo := 1) (hi := 1) (by decide)) (by decide)) (by decide))) (fun _ => fV_fX12_operator_52 hσ25 (show zr 172 274 v24 by rw [ev24]; exact (zr_add (lo := 172) (hi := 274) (zr_c (x := 172) (lo := 172) (hi := 172) (by decide)) (zr_mul (lo := 0) (hi := 102) (zr_c (x := 6) (lo := 6) (hi := 6) (by decide)) (zr_add (lo := 0) (hi := 17) (zr_mul (lo := 0) (hi := 16) (zr_c (x := 2) (lo := 2) (hi := 2) (by decide)) qx1 (by decide)) qx2 (by decide)) (by decide)) (by decide))) (zr_w (zr_add (lo := 173) (hi := 275) (show zr 172 274 v24 by rw [ev24]; exact (zr_add (lo := 172) (hi := 274) (zr_c (x := 172) (lo := 172) (hi := 172) (by decide)) (zr_mul (lo := 0) (hi := 102) (zr_c (x := 6) (lo := 6) (hi := 6) (by decide)) (zr_add (lo := 0) (hi := 17) (zr_mul (lo := 0) (hi := 16) (zr_c (x := 2) (lo := 2) (hi := 2) (by decide)) qx1 (by decide)) qx2 (by decide)) (by decide)) (by decide))) (zr_c (x := 1) (lo := 1) (hi := 1) (by decide)) (by decide)) (by decide)))))))
theorem fV_fX12_waves_20_body {σ0 : zSt} {k12 : zSt → Int32 → Option (zSt)} (hk12 : ∀ (y0 : zSt) (y1 : Int32), (zQ [3, 5, 6, 7, 8, 9, 21, 22, 23, 24, 25, 26] [(0, 0, 0), (0, 31, 33), (0, 39, 49)] [4, 10, 11] [(0, 30, 30)]) σ0 y0 → zr 0 9 y1 → zpc (k12 y0 y1) (fun r => (zQ [3, 5, 6, 7, 8, 9, 21, 22, 23, 24, 25, 26] [(0, 0, 0), (0, 31, 33), (0, 39, 49)] [4, 10, 11] [(0, 30, 30)]) σ0 (r))) {k20 : zSt → Int32 → Int32 → Option (zSt)} (hk20 : ∀ (y0 : zSt) (y1 : Int32) (y2 : Int32), (zQ [3, 5, 6, 7, 8, 9, 21, 22, 23, 24, 25, 26] [(0, 0, 0), (0, 31, 33), (0, 39, 49)] [4, 10, 11] [(0, 30, 30)]) σ0 y0 → zr 0 8 y1 → zr 0 2 y2 → zpc (k20 y0 y1 y2) (fun r => (zQ [3, 5, 6, 7, 8, 9, 21, 22, 23, 24, 25, 26] [(0, 0, 0), (0, 31, 33), (0, 39, 49)] [4, 10, 11] [(0, 30, 30)]) σ0 (r))) {σ : zSt} {x1 : Int32} {x2 : Int32} (h : (zQ [3, 5, 6, 7, 8, 9, 21, 22, 23, 24, 25, 26] [(0, 0, 0), (0, 31, 33), (0, 39, 49)] [4, 10, 11] [(0, 30, 30)]) σ0 σ) (qx1 : zr 0 8 x1) (qx2 : zr 0 2 x2) : zpc (fX12_waves_20_body k12 k20 σ x1 x2) (fun r => (zQ [3, 5, 6, 7, 8, 9, 21, 22, 23, 24, 25, 26] [(0, 0, 0), (0, 31, 33), (0, 39, 49)] [4, 10, 11] [(0, 30, 30)]) σ0 (r)) := by
  unfold fX12_waves_20_body
  exact zpc_if (fun g2 => zpc_bv (fun v1 ev1 => hk12 _ _ h (zr_w (show zr 1 9 v1 by rw [ev1]; exact (zr_add (lo := 1) (hi := 9) qx1 (zr_c (x := 1) (lo := 1) (hi := 1) (by decide)) (by decide))) (by decide)))) (fun g2 => zpc_bu (fV_fX12_operator h qx1 (zr_nge (k := 2) (m := 1) qx2 rfl g2 (by decide))) (fun σ2 hσ2 => zpc_bv (fun v3 ev3 => hk20 _ _ _ hσ2 qx1 (zr_w (show zr 1 2 v3 by rw [ev3]; exact (zr_add (lo := 1) (hi := 2) (zr_nge (k := 2) (m := 1) qx2 rfl g2 (by decide)) (zr_c (x := 1) (lo := 1) (hi := 1) (by decide)) (by decide))) (by decide)))))
theorem fV_fX12_waves_20 {σ0 : zSt} {k12 : zSt → Int32 → Option (zSt)} (hk12 : ∀ (y0 : zSt) (y1 : Int32), (zQ [3, 5, 6, 7, 8, 9, 21, 22, 23, 24, 25, 26] [(0, 0, 0), (0, 31, 33), (0, 39, 49)] [4, 10, 11] [(0, 30, 30)]) σ0 y0 → zr 0 9 y1 → zpc (k12 y0 y1) (fun r => (zQ [3, 5, 6, 7, 8, 9, 21, 22, 23, 24, 25, 26] [(0, 0, 0), (0, 31, 33), (0, 39, 49)] [4, 10, 11] [(0, 30, 30)]) σ0 (r))) : ∀ (n : Nat) (y0 : zSt) (y1 : Int32) (y2 : Int32), (zQ [3, 5, 6, 7, 8, 9, 21, 22, 23, 24, 25, 26] [(0, 0, 0), (0, 31, 33), (0, 39, 49)] [4, 10, 11] [(0, 30, 30)]) σ0 y0 → zr 0 8 y1 → zr 0 2 y2 → zpc (fX12_waves_20 k12 n y0 y1 y2) (fun r => (zQ [3, 5, 6, 7, 8, 9, 21, 22, 23, 24, 25, 26] [(0, 0, 0), (0, 31, 33), (0, 39, 49)] [4, 10, 11] [(0, 30, 30)]) σ0 (r)) := by
  intro n
  induction n with
  | zero => intro y0 y1 y2 h q1 q2; exact zpc_none
  | succ n ih => intro y0 y1 y2 h q1 q2; exact fV_fX12_waves_20_body hk12 ih h q1 q2
theorem fV_fX12_waves_157 {σ0 : zSt} {k82 : zSt → Int32 → Int32 → Option (zSt)} (hk82 : ∀ (y0 : zSt) (y1 : Int32) (y2 : Int32), (zQ [3, 5, 6, 7, 8, 9, 21, 22, 23, 24, 25, 26] [(0, 0, 0), (0, 31, 33), (0, 39, 49)] [4, 10, 11] [(0, 30, 30)]) σ0 y0 → zpc (k82 y0 y1 y2) (fun r => (zQ [3, 5, 6, 7, 8, 9, 21, 22, 23, 24, 25, 26] [(0, 0, 0), (0, 31, 33), (0, 39, 49)] [4, 10, 11] [(0, 30, 30)]) σ0 (r))) {σ : zSt} {x2 : Int32} {x3 : Int32} (h : (zQ [3, 5, 6, 7, 8, 9, 21, 22, 23, 24, 25, 26] [(0, 0, 0), (0, 31, 33), (0, 39, 49)] [4, 10, 11] [(0, 30, 30)]) σ0 σ) : zpc (fX12_waves_157 k82 σ x2 x3) (fun r => (zQ [3, 5, 6, 7, 8, 9, 21, 22, 23, 24, 25, 26] [(0, 0, 0), (0, 31, 33), (0, 39, 49)] [4, 10, 11] [(0, 30, 30)]) σ0 (r)) := by
  unfold fX12_waves_157
  exact zpc_bv (fun v4 _ => hk82 _ _ _ h)
theorem fV_fX12_waves_153 {σ0 : zSt} {k82 : zSt → Int32 → Int32 → Option (zSt)} (hk82 : ∀ (y0 : zSt) (y1 : Int32) (y2 : Int32), (zQ [3, 5, 6, 7, 8, 9, 21, 22, 23, 24, 25, 26] [(0, 0, 0), (0, 31, 33), (0, 39, 49)] [4, 10, 11] [(0, 30, 30)]) σ0 y0 → zpc (k82 y0 y1 y2) (fun r => (zQ [3, 5, 6, 7, 8, 9, 21, 22, 23, 24, 25, 26] [(0, 0, 0), (0, 31, 33), (0, 39, 49)] [4, 10, 11] [(0, 30, 30)]) σ0 (r))) {σ : zSt} {x3 : Int32} {s0 : Int32} {s1 : Int32} {s2 : Int32} {s3 : Int32} (h : (zQ [3, 5, 6, 7, 8, 9, 21, 22, 23, 24, 25, 26] [(0, 0, 0), (0, 31, 33), (0, 39, 49)] [4, 10, 11] [(0, 30, 30)]) σ0 σ) : zpc (fX12_waves_153 k82 σ x3 s0 s1 s2 s3) (fun r => (zQ [3, 5, 6, 7, 8, 9, 21, 22, 23, 24, 25, 26] [(0, 0, 0), (0, 31, 33), (0, 39, 49)] [4, 10, 11] [(0, 30, 30)]) σ0 (r)) := by
  unfold fX12_waves_153
  exact zpc_bv (fun v5 _ => fV_fX12_waves_157 hk82 h)
theorem fV_fX12_waves_82_body {σ0 : zSt} {k82 : zSt → Int32 → Int32 → Option (zSt)} (hk82 : ∀ (y0 : zSt) (y1 : Int32) (y2 : Int32), (zQ [3, 5, 6, 7, 8, 9, 21, 22, 23, 24, 25, 26] [(0, 0, 0), (0, 31, 33), (0, 39, 49)] [4, 10, 11] [(0, 30, 30)]) σ0 y0 → zpc (k82 y0 y1 y2) (fun r => (zQ [3, 5, 6, 7, 8, 9, 21, 22, 23, 24, 25, 26] [(0, 0, 0), (0, 31, 33), (0, 39, 49)] [4, 10, 11] [(0, 30, 30)]) σ0 (r))) {σ : zSt} {x2 : Int32} {x3 : Int32} (h : (zQ [3, 5, 6, 7, 8, 9, 21, 22, 23, 24, 25, 26] [(0, 0, 0), (0, 31, 33), (0, 39, 49)] [4, 10, 11] [(0, 30, 30)]) σ0 σ) : zpc (fX12_waves_82_body k82 σ x2 x3) (fun r => (zQ [3, 5, 6, 7, 8, 9, 21, 22, 23, 24, 25, 26] [(0, 0, 0), (0, 31, 33), (0, 39, 49)] [4, 10, 11] [(0, 30, 30)]) σ0 (r)) := by
  unfold fX12_waves_82_body
  exact zpc_if (fun _ => zpc_ck (zpc_bs (zQ.wi h rfl) (fun σ6 hσ6 => zpc_some hσ6))) (fun _ => zpc_bv (fun v7 _ => zpc_bi (fV_fX12_isRhythm h) (fun σ8 v9 hσ8 => zpc_if (fun _ => zpc_ck (zpc_bv (fun v10 _ => fV_fX12_waves_157 hk82 hσ8))) (fun _ => zpc_ck (zpc_if (fun _ => fV_fX12_waves_153 hk82 hσ8) (fun _ => zpc_ck (fV_fX12_waves_153 hk82 hσ8)))))))
theorem fV_fX12_waves_82 {σ0 : zSt} : ∀ (n : Nat) (y0 : zSt) (y1 : Int32) (y2 : Int32), (zQ [3, 5, 6, 7, 8, 9, 21, 22, 23, 24, 25, 26] [(0, 0, 0), (0, 31, 33), (0, 39, 49)] [4, 10, 11] [(0, 30, 30)]) σ0 y0 → zpc (fX12_waves_82 n y0 y1 y2) (fun r => (zQ [3, 5, 6, 7, 8, 9, 21, 22, 23, 24, 25, 26] [(0, 0, 0), (0, 31, 33), (0, 39, 49)] [4, 10, 11] [(0, 30, 30)]) σ0 (r)) := by
  intro n
  induction n with
  | zero => intro y0 y1 y2 h; exact zpc_none
  | succ n ih => intro y0 y1 y2 h; exact fV_fX12_waves_82_body ih h
theorem fV_fX12_waves_75 {σ0 : zSt} {σ : zSt} {s0 : Int32} {s1 : Int32} (h : (zQ [3, 5, 6, 7, 8, 9, 21, 22, 23, 24, 25, 26] [(0, 0, 0), (0, 31, 33), (0, 39, 49)] [4, 10, 11] [(0, 30, 30)]) σ0 σ) (qs1 : zr 164 164 s1) : zpc (fX12_waves_75 σ s0 s1) (fun r => (zQ [3, 5, 6, 7, 8, 9, 21, 22, 23, 24, 25, 26] [(0, 0, 0), (0, 31, 33), (0, 39, 49)] [4, 10, 11] [(0, 30, 30)]) σ0 (r)) := by
  unfold fX12_waves_75
  exact zpc_ck (zpc_bs (zQ.wi h rfl) (fun σ11 hσ11 => fV_fX12_waves_82 _ _ _ _ hσ11))
theorem fV_fX12_waves_12_body {σ0 : zSt} {k12 : zSt → Int32 → Option (zSt)} (hk12 : ∀ (y0 : zSt) (y1 : Int32), (zQ [3, 5, 6, 7, 8, 9, 21, 22, 23, 24, 25, 26] [(0, 0, 0), (0, 31, 33), (0, 39, 49)] [4, 10, 11] [(0, 30, 30)]) σ0 y0 → zr 0 9 y1 → zpc (k12 y0 y1) (fun r => (zQ [3, 5, 6, 7, 8, 9, 21, 22, 23, 24, 25, 26] [(0, 0, 0), (0, 31, 33), (0, 39, 49)] [4, 10, 11] [(0, 30, 30)]) σ0 (r))) {σ : zSt} {x1 : Int32} (h : (zQ [3, 5, 6, 7, 8, 9, 21, 22, 23, 24, 25, 26] [(0, 0, 0), (0, 31, 33), (0, 39, 49)] [4, 10, 11] [(0, 30, 30)]) σ0 σ) (qx1 : zr 0 9 x1) : zpc (fX12_waves_12_body k12 σ x1) (fun r => (zQ [3, 5, 6, 7, 8, 9, 21, 22, 23, 24, 25, 26] [(0, 0, 0), (0, 31, 33), (0, 39, 49)] [4, 10, 11] [(0, 30, 30)]) σ0 (r)) := by
  unfold fX12_waves_12_body
  exact zpc_if (fun g3 => zpc_ck (zpc_bv (fun v12 _ => zpc_if (fun _ => fV_fX12_waves_75 h (zr_c (x := 164) (lo := 164) (hi := 164) (by decide))) (fun _ => fV_fX12_waves_75 h (zr_c (x := 164) (lo := 164) (hi := 164) (by decide)))))) (fun g3 => fV_fX12_waves_20 hk12 _ _ _ _ h (zr_nge (k := 9) (m := 8) qx1 rfl g3 (by decide)) (zr_w (zr_c (x := 0) (lo := 0) (hi := 0) (by decide)) (by decide)))
theorem fV_fX12_waves_12 {σ0 : zSt} : ∀ (n : Nat) (y0 : zSt) (y1 : Int32), (zQ [3, 5, 6, 7, 8, 9, 21, 22, 23, 24, 25, 26] [(0, 0, 0), (0, 31, 33), (0, 39, 49)] [4, 10, 11] [(0, 30, 30)]) σ0 y0 → zr 0 9 y1 → zpc (fX12_waves_12 n y0 y1) (fun r => (zQ [3, 5, 6, 7, 8, 9, 21, 22, 23, 24, 25, 26] [(0, 0, 0), (0, 31, 33), (0, 39, 49)] [4, 10, 11] [(0, 30, 30)]) σ0 (r)) := by
  intro n
  induction n with
  | zero => intro y0 y1 h q1; exact zpc_none
  | succ n ih => intro y0 y1 h q1; exact fV_fX12_waves_12_body ih h q1
theorem fV_fX12_waves {σ0 : zSt} {σ : zSt} (h : (zQ [3, 5, 6, 7, 8, 9, 21, 22, 23, 24, 25, 26] [(0, 0, 0), (0, 31, 33), (0, 39, 49)] [4, 10, 11] [(0, 30, 30)]) σ0 σ) : zpc (fX12_waves σ) (fun r => (zQ [3, 5, 6, 7, 8, 9, 21, 22, 23, 24, 25, 26] [(0, 0, 0), (0, 31, 33), (0, 39, 49)] [4, 10, 11] [(0, 30, 30)]) σ0 (r)) := by
  unfold fX12_waves
  exact zpc_ck (zpc_ck (zpc_bs (zQ.wl h rfl) (fun σ13 hσ13 => fV_fX12_waves_12 _ _ _ hσ13 (zr_w (zr_c (x := 0) (lo := 0) (hi := 0) (by decide)) (by decide)))))
theorem fV_fX12_mixed_151 {σ0 : zSt} {σ : zSt} {x2 : Int64} (h : (zQ [3, 5, 6, 7, 8, 9, 21, 22, 23, 24, 25, 26] [(0, 0, 0), (0, 31, 33), (0, 39, 49)] [4, 10, 11] [(0, 30, 30)]) σ0 σ) : zpc (fX12_mixed_151 σ x2) (fun r => (zQ [3, 5, 6, 7, 8, 9, 21, 22, 23, 24, 25, 26] [(0, 0, 0), (0, 31, 33), (0, 39, 49)] [4, 10, 11] [(0, 30, 30)]) σ0 (r)) := by
  unfold fX12_mixed_151
  exact zpc_ck (zpc_ck (zpc_ck (zpc_ck (zpc_bs (zQ.wl h rfl) (fun σ1 hσ1 => zpc_some hσ1)))))
theorem fV_fX12_mixed_76_body {σ0 : zSt} {k76 : zSt → Int64 → Int32 → Option (zSt)} (hk76 : ∀ (y0 : zSt) (y1 : Int64) (y2 : Int32), (zQ [3, 5, 6, 7, 8, 9, 21, 22, 23, 24, 25, 26] [(0, 0, 0), (0, 31, 33), (0, 39, 49)] [4, 10, 11] [(0, 30, 30)]) σ0 y0 → zr 0 3 y2 → zpc (k76 y0 y1 y2) (fun r => (zQ [3, 5, 6, 7, 8, 9, 21, 22, 23, 24, 25, 26] [(0, 0, 0), (0, 31, 33), (0, 39, 49)] [4, 10, 11] [(0, 30, 30)]) σ0 (r))) {σ : zSt} {x2 : Int64} {x4 : Int32} (h : (zQ [3, 5, 6, 7, 8, 9, 21, 22, 23, 24, 25, 26] [(0, 0, 0), (0, 31, 33), (0, 39, 49)] [4, 10, 11] [(0, 30, 30)]) σ0 σ) (qx4 : zr 0 3 x4) : zpc (fX12_mixed_76_body k76 σ x2 x4) (fun r => (zQ [3, 5, 6, 7, 8, 9, 21, 22, 23, 24, 25, 26] [(0, 0, 0), (0, 31, 33), (0, 39, 49)] [4, 10, 11] [(0, 30, 30)]) σ0 (r)) := by
  unfold fX12_mixed_76_body
  exact zpc_if (fun g4 => zpc_ck (zpc_if (fun _ => zpc_ck (zpc_ck (zpc_ck (zpc_bs (zQ.wi h rfl) (fun σ3 hσ3 => fV_fX12_mixed_151 hσ3))))) (fun _ => zpc_ck (zpc_ck (zpc_bs (zQ.wi h rfl) (fun σ2 hσ2 => fV_fX12_mixed_151 hσ2)))))) (fun g4 => zpc_ck (zpc_bs (zQ.wi h rfl) (fun σ4 hσ4 => zpc_bv (fun v5 ev5 => hk76 _ _ _ hσ4 (zr_w (show zr 1 3 v5 by rw [ev5]; exact (zr_add (lo := 1) (hi := 3) (zr_nge (k := 3) (m := 2) qx4 rfl g4 (by decide)) (zr_c (x := 1) (lo := 1) (hi := 1) (by decide)) (by decide))) (by decide))))))
theorem fV_fX12_mixed_76 {σ0 : zSt} : ∀ (n : Nat) (y0 : zSt) (y1 : Int64) (y2 : Int32), (zQ [3, 5, 6, 7, 8, 9, 21, 22, 23, 24, 25, 26] [(0, 0, 0), (0, 31, 33), (0, 39, 49)] [4, 10, 11] [(0, 30, 30)]) σ0 y0 → zr 0 3 y2 → zpc (fX12_mixed_76 n y0 y1 y2) (fun r => (zQ [3, 5, 6, 7, 8, 9, 21, 22, 23, 24, 25, 26] [(0, 0, 0), (0, 31, 33), (0, 39, 49)] [4, 10, 11] [(0, 30, 30)]) σ0 (r)) := by
  intro n
  induction n with
  | zero => intro y0 y1 y2 h q2; exact zpc_none
  | succ n ih => intro y0 y1 y2 h q2; exact fV_fX12_mixed_76_body ih h q2
theorem fV_fX12_mixed_26 {σ0 : zSt} {σ : zSt} {s0 : Int32} (h : (zQ [3, 5, 6, 7, 8, 9, 21, 22, 23, 24, 25, 26] [(0, 0, 0), (0, 31, 33), (0, 39, 49)] [4, 10, 11] [(0, 30, 30)]) σ0 σ) : zpc (fX12_mixed_26 σ s0) (fun r => (zQ [3, 5, 6, 7, 8, 9, 21, 22, 23, 24, 25, 26] [(0, 0, 0), (0, 31, 33), (0, 39, 49)] [4, 10, 11] [(0, 30, 30)]) σ0 (r)) := by
  unfold fX12_mixed_26
  exact zpc_ck (zpc_ck (zpc_ck (zpc_ck (zpc_ck (zpc_ck (zpc_bv (fun v6 _ => fV_fX12_mixed_76 _ _ _ _ h (zr_w (zr_c (x := 0) (lo := 0) (hi := 0) (by decide)) (by decide)))))))))
theorem fV_fX12_mixed {σ0 : zSt} {σ : zSt} (h : (zQ [3, 5, 6, 7, 8, 9, 21, 22, 23, 24, 25, 26] [(0, 0, 0), (0, 31, 33), (0, 39, 49)] [4, 10, 11] [(0, 30, 30)]) σ0 σ) : zpc (fX12_mixed σ) (fun r => (zQ [3, 5, 6, 7, 8, 9, 21, 22, 23, 24, 25, 26] [(0, 0, 0), (0, 31, 33), (0, 39, 49)] [4, 10, 11] [(0, 30, 30)]) σ0 (r)) := by
  unfold fX12_mixed
  exact zpc_ck (zpc_if (fun _ => zpc_ck (fV_fX12_mixed_26 h)) (fun _ => fV_fX12_mixed_26 h))
theorem fV_fX12_asks_48 {σ0 : zSt} {σ : zSt} {s0 : Int32} (h : (zQ [3, 5, 6, 7, 8, 9, 21, 22, 23, 24, 25, 26] [(0, 0, 0), (0, 31, 33), (0, 39, 49)] [4, 10, 11] [(0, 30, 30)]) σ0 σ) : zpc (fX12_asks_48 σ s0) (fun r => (zQ [3, 5, 6, 7, 8, 9, 21, 22, 23, 24, 25, 26] [(0, 0, 0), (0, 31, 33), (0, 39, 49)] [4, 10, 11] [(0, 30, 30)]) σ0 (r.1)) := by
  unfold fX12_asks_48
  exact zpc_ck (zpc_some h)
theorem fV_fX12_asks_47 {σ0 : zSt} {σ : zSt} (h : (zQ [3, 5, 6, 7, 8, 9, 21, 22, 23, 24, 25, 26] [(0, 0, 0), (0, 31, 33), (0, 39, 49)] [4, 10, 11] [(0, 30, 30)]) σ0 σ) : zpc (fX12_asks_47 σ) (fun r => (zQ [3, 5, 6, 7, 8, 9, 21, 22, 23, 24, 25, 26] [(0, 0, 0), (0, 31, 33), (0, 39, 49)] [4, 10, 11] [(0, 30, 30)]) σ0 (r.1)) := by
  unfold fX12_asks_47
  exact fV_fX12_asks_48 h
theorem fV_fX12_asks_43 {σ0 : zSt} {σ : zSt} (h : (zQ [3, 5, 6, 7, 8, 9, 21, 22, 23, 24, 25, 26] [(0, 0, 0), (0, 31, 33), (0, 39, 49)] [4, 10, 11] [(0, 30, 30)]) σ0 σ) : zpc (fX12_asks_43 σ) (fun r => (zQ [3, 5, 6, 7, 8, 9, 21, 22, 23, 24, 25, 26] [(0, 0, 0), (0, 31, 33), (0, 39, 49)] [4, 10, 11] [(0, 30, 30)]) σ0 (r.1)) := by
  unfold fX12_asks_43
  exact fV_fX12_asks_48 h
theorem fV_fX12_asks_22 {σ0 : zSt} {σ : zSt} (h : (zQ [3, 5, 6, 7, 8, 9, 21, 22, 23, 24, 25, 26] [(0, 0, 0), (0, 31, 33), (0, 39, 49)] [4, 10, 11] [(0, 30, 30)]) σ0 σ) : zpc (fX12_asks_22 σ) (fun r => (zQ [3, 5, 6, 7, 8, 9, 21, 22, 23, 24, 25, 26] [(0, 0, 0), (0, 31, 33), (0, 39, 49)] [4, 10, 11] [(0, 30, 30)]) σ0 (r.1)) := by
  unfold fX12_asks_22
  exact zpc_bi (fV_fX12_bit h) (fun σ1 v2 hσ1 => zpc_if (fun _ => zpc_ck (zpc_if (fun _ => fV_fX12_asks_43 hσ1) (fun _ => fV_fX12_asks_47 hσ1))) (fun _ => fV_fX12_asks_47 hσ1))
theorem fV_fX12_asks {σ0 : zSt} {σ : zSt} (h : (zQ [3, 5, 6, 7, 8, 9, 21, 22, 23, 24, 25, 26] [(0, 0, 0), (0, 31, 33), (0, 39, 49)] [4, 10, 11] [(0, 30, 30)]) σ0 σ) : zpc (fX12_asks σ) (fun r => (zQ [3, 5, 6, 7, 8, 9, 21, 22, 23, 24, 25, 26] [(0, 0, 0), (0, 31, 33), (0, 39, 49)] [4, 10, 11] [(0, 30, 30)]) σ0 (r.1)) := by
  unfold fX12_asks
  exact zpc_bi (fV_fX12_bit h) (fun σ3 v4 hσ3 => zpc_if (fun _ => zpc_ck (zpc_if (fun _ => fV_fX12_asks_43 hσ3) (fun _ => fV_fX12_asks_22 hσ3))) (fun _ => fV_fX12_asks_22 hσ3))
theorem fV_fX12_once_377_body {σ0 : zSt} {k377 : zSt → Int64 → Option (zSt)} (hk377 : ∀ (y0 : zSt) (y1 : Int64), (zQ [3, 5, 6, 7, 8, 9, 21, 22, 23, 24, 25, 26] [(0, 0, 0), (0, 31, 33), (0, 39, 49)] [4, 10, 11] [(0, 30, 30)]) σ0 y0 → zpc (k377 y0 y1) (fun r => (zQ [3, 5, 6, 7, 8, 9, 21, 22, 23, 24, 25, 26] [(0, 0, 0), (0, 31, 33), (0, 39, 49)] [4, 10, 11] [(0, 30, 30)]) σ0 (r))) {σ : zSt} {x5 : Int64} (h : (zQ [3, 5, 6, 7, 8, 9, 21, 22, 23, 24, 25, 26] [(0, 0, 0), (0, 31, 33), (0, 39, 49)] [4, 10, 11] [(0, 30, 30)]) σ0 σ) : zpc (fX12_once_377_body k377 σ x5) (fun r => (zQ [3, 5, 6, 7, 8, 9, 21, 22, 23, 24, 25, 26] [(0, 0, 0), (0, 31, 33), (0, 39, 49)] [4, 10, 11] [(0, 30, 30)]) σ0 (r)) := by
  unfold fX12_once_377_body
  exact zpc_ck (zpc_ck (zpc_if (fun _ => zpc_some h) (fun _ => zpc_bu (fV_fX12_mixed h) (fun σ1 hσ1 => zpc_bv (fun v2 _ => hk377 _ _ hσ1)))))
theorem fV_fX12_once_377 {σ0 : zSt} : ∀ (n : Nat) (y0 : zSt) (y1 : Int64), (zQ [3, 5, 6, 7, 8, 9, 21, 22, 23, 24, 25, 26] [(0, 0, 0), (0, 31, 33), (0, 39, 49)] [4, 10, 11] [(0, 30, 30)]) σ0 y0 → zpc (fX12_once_377 n y0 y1) (fun r => (zQ [3, 5, 6, 7, 8, 9, 21, 22, 23, 24, 25, 26] [(0, 0, 0), (0, 31, 33), (0, 39, 49)] [4, 10, 11] [(0, 30, 30)]) σ0 (r)) := by
  intro n
  induction n with
  | zero => intro y0 y1 h; exact zpc_none
  | succ n ih => intro y0 y1 h; exact fV_fX12_once_377_body ih h
theorem fV_fX12_once_341_body {σ0 : zSt} {k341 : zSt → Int64 → Int64 → Option (zSt)} (hk341 : ∀ (y0 : zSt) (y1 : Int64) (y2 : Int64), (zQ [3, 5, 6, 7, 8, 9, 21, 22, 23, 24, 25, 26] [(0, 0, 0), (0, 31, 33), (0, 39, 49)] [4, 10, 11] [(0, 30, 30)]) σ0 y0 → zpc (k341 y0 y1 y2) (fun r => (zQ [3, 5, 6, 7, 8, 9, 21, 22, 23, 24, 25, 26] [(0, 0, 0), (0, 31, 33), (0, 39, 49)] [4, 10, 11] [(0, 30, 30)]) σ0 (r))) {σ : zSt} {x3 : Int64} {x5 : Int64} (h : (zQ [3, 5, 6, 7, 8, 9, 21, 22, 23, 24, 25, 26] [(0, 0, 0), (0, 31, 33), (0, 39, 49)] [4, 10, 11] [(0, 30, 30)]) σ0 σ) : zpc (fX12_once_341_body k341 σ x3 x5) (fun r => (zQ [3, 5, 6, 7, 8, 9, 21, 22, 23, 24, 25, 26] [(0, 0, 0), (0, 31, 33), (0, 39, 49)] [4, 10, 11] [(0, 30, 30)]) σ0 (r)) := by
  unfold fX12_once_341_body
  exact zpc_ck (zpc_ck (zpc_if (fun _ => zpc_ck (zpc_bv (fun v3 _ => fV_fX12_once_377 _ _ _ h))) (fun _ => zpc_bu (fV_fX12_waves h) (fun σ4 hσ4 => zpc_bv (fun v5 _ => hk341 _ _ _ hσ4)))))
theorem fV_fX12_once_341 {σ0 : zSt} : ∀ (n : Nat) (y0 : zSt) (y1 : Int64) (y2 : Int64), (zQ [3, 5, 6, 7, 8, 9, 21, 22, 23, 24, 25, 26] [(0, 0, 0), (0, 31, 33), (0, 39, 49)] [4, 10, 11] [(0, 30, 30)]) σ0 y0 → zpc (fX12_once_341 n y0 y1 y2) (fun r => (zQ [3, 5, 6, 7, 8, 9, 21, 22, 23, 24, 25, 26] [(0, 0, 0), (0, 31, 33), (0, 39, 49)] [4, 10, 11] [(0, 30, 30)]) σ0 (r)) := by
  intro n
  induction n with
  | zero => intro y0 y1 y2 h; exact zpc_none
  | succ n ih => intro y0 y1 y2 h; exact fV_fX12_once_341_body ih h
theorem fV_fX12_once_305_body {σ0 : zSt} {k305 : zSt → Int64 → Int64 → Option (zSt)} (hk305 : ∀ (y0 : zSt) (y1 : Int64) (y2 : Int64), (zQ [3, 5, 6, 7, 8, 9, 21, 22, 23, 24, 25, 26] [(0, 0, 0), (0, 31, 33), (0, 39, 49)] [4, 10, 11] [(0, 30, 30)]) σ0 y0 → zpc (k305 y0 y1 y2) (fun r => (zQ [3, 5, 6, 7, 8, 9, 21, 22, 23, 24, 25, 26] [(0, 0, 0), (0, 31, 33), (0, 39, 49)] [4, 10, 11] [(0, 30, 30)]) σ0 (r))) {σ : zSt} {x3 : Int64} {x5 : Int64} (h : (zQ [3, 5, 6, 7, 8, 9, 21, 22, 23, 24, 25, 26] [(0, 0, 0), (0, 31, 33), (0, 39, 49)] [4, 10, 11] [(0, 30, 30)]) σ0 σ) : zpc (fX12_once_305_body k305 σ x3 x5) (fun r => (zQ [3, 5, 6, 7, 8, 9, 21, 22, 23, 24, 25, 26] [(0, 0, 0), (0, 31, 33), (0, 39, 49)] [4, 10, 11] [(0, 30, 30)]) σ0 (r)) := by
  unfold fX12_once_305_body
  exact zpc_ck (zpc_ck (zpc_if (fun _ => zpc_ck (zpc_bv (fun v6 _ => fV_fX12_once_341 _ _ _ _ h))) (fun _ => zpc_bu (fV_fX12_sample h) (fun σ7 hσ7 => zpc_bv (fun v8 _ => hk305 _ _ _ hσ7)))))
theorem fV_fX12_once_305 {σ0 : zSt} : ∀ (n : Nat) (y0 : zSt) (y1 : Int64) (y2 : Int64), (zQ [3, 5, 6, 7, 8, 9, 21, 22, 23, 24, 25, 26] [(0, 0, 0), (0, 31, 33), (0, 39, 49)] [4, 10, 11] [(0, 30, 30)]) σ0 y0 → zpc (fX12_once_305 n y0 y1 y2) (fun r => (zQ [3, 5, 6, 7, 8, 9, 21, 22, 23, 24, 25, 26] [(0, 0, 0), (0, 31, 33), (0, 39, 49)] [4, 10, 11] [(0, 30, 30)]) σ0 (r)) := by
  intro n
  induction n with
  | zero => intro y0 y1 y2 h; exact zpc_none
  | succ n ih => intro y0 y1 y2 h; exact fV_fX12_once_305_body ih h
theorem fV_fX12_once_298 {σ0 : zSt} {σ : zSt} {x3 : Int64} (h : (zQ [3, 5, 6, 7, 8, 9, 21, 22, 23, 24, 25, 26] [(0, 0, 0), (0, 31, 33), (0, 39, 49)] [4, 10, 11] [(0, 30, 30)]) σ0 σ) : zpc (fX12_once_298 σ x3) (fun r => (zQ [3, 5, 6, 7, 8, 9, 21, 22, 23, 24, 25, 26] [(0, 0, 0), (0, 31, 33), (0, 39, 49)] [4, 10, 11] [(0, 30, 30)]) σ0 (r)) := by
  unfold fX12_once_298
  exact zpc_ck (zpc_bv (fun v9 _ => fV_fX12_once_305 _ _ _ _ h))
theorem fV_fX12_once_229 {σ0 : zSt} {σ : zSt} {x2 : Int32} (h : (zQ [3, 5, 6, 7, 8, 9, 21, 22, 23, 24, 25, 26] [(0, 0, 0), (0, 31, 33), (0, 39, 49)] [4, 10, 11] [(0, 30, 30)]) σ0 σ) : zpc (fX12_once_229 σ x2) (fun r => (zQ [3, 5, 6, 7, 8, 9, 21, 22, 23, 24, 25, 26] [(0, 0, 0), (0, 31, 33), (0, 39, 49)] [4, 10, 11] [(0, 30, 30)]) σ0 (r)) := by
  unfold fX12_once_229
  exact zpc_ck (zpc_ck (zpc_bs (zQ.wl h rfl) (fun σ10 hσ10 => zpc_ck (zpc_bv (fun v11 _ => zpc_ck (zpc_ck (zpc_bs (zQ.wl hσ10 rfl) (fun σ12 hσ12 => zpc_ck (zpc_ck (zpc_bs (zQ.wi hσ12 rfl) (fun σ13 hσ13 => zpc_ck (zpc_if (fun _ => fV_fX12_once_298 hσ13) (fun _ => zpc_ck (zpc_ck (zpc_bs (zQ.wi hσ13 rfl) (fun σ14 hσ14 => zpc_bu (fV_fX12_ends hσ14) (fun σ15 hσ15 => fV_fX12_once_298 hσ15)))))))))))))))))
theorem fV_fX12_once_204 {σ0 : zSt} {σ : zSt} (h : (zQ [3, 5, 6, 7, 8, 9, 21, 22, 23, 24, 25, 26] [(0, 0, 0), (0, 31, 33), (0, 39, 49)] [4, 10, 11] [(0, 30, 30)]) σ0 σ) : zpc (fX12_once_204 σ) (fun r => (zQ [3, 5, 6, 7, 8, 9, 21, 22, 23, 24, 25, 26] [(0, 0, 0), (0, 31, 33), (0, 39, 49)] [4, 10, 11] [(0, 30, 30)]) σ0 (r)) := by
  unfold fX12_once_204
  exact zpc_ck (zpc_if (fun _ => zpc_bu (fV_fX12_grows h) (fun σ18 hσ18 => fV_fX12_once_229 hσ18)) (fun _ => zpc_bi (fV_fX12_instruction h) (fun σ16 v17 hσ16 => fV_fX12_once_229 hσ16)))
theorem fV_fX12_once_200 {σ0 : zSt} {σ : zSt} {s0 : Int32} (h : (zQ [3, 5, 6, 7, 8, 9, 21, 22, 23, 24, 25, 26] [(0, 0, 0), (0, 31, 33), (0, 39, 49)] [4, 10, 11] [(0, 30, 30)]) σ0 σ) : zpc (fX12_once_200 σ s0) (fun r => (zQ [3, 5, 6, 7, 8, 9, 21, 22, 23, 24, 25, 26] [(0, 0, 0), (0, 31, 33), (0, 39, 49)] [4, 10, 11] [(0, 30, 30)]) σ0 (r)) := by
  unfold fX12_once_200
  exact fV_fX12_once_229 h
theorem fV_fX12_once_179 {σ0 : zSt} {σ : zSt} {s0 : Int32} (h : (zQ [3, 5, 6, 7, 8, 9, 21, 22, 23, 24, 25, 26] [(0, 0, 0), (0, 31, 33), (0, 39, 49)] [4, 10, 11] [(0, 30, 30)]) σ0 σ) : zpc (fX12_once_179 σ s0) (fun r => (zQ [3, 5, 6, 7, 8, 9, 21, 22, 23, 24, 25, 26] [(0, 0, 0), (0, 31, 33), (0, 39, 49)] [4, 10, 11] [(0, 30, 30)]) σ0 (r)) := by
  unfold fX12_once_179
  exact zpc_bu (fV_fX12_call h) (fun σ19 hσ19 => zpc_ck (zpc_if (fun _ => fV_fX12_once_200 hσ19) (fun _ => fV_fX12_once_200 hσ19)))
theorem fV_fX12_once_102 {σ0 : zSt} {σ : zSt} {x1 : Int32} (h : (zQ [3, 5, 6, 7, 8, 9, 21, 22, 23, 24, 25, 26] [(0, 0, 0), (0, 31, 33), (0, 39, 49)] [4, 10, 11] [(0, 30, 30)]) σ0 σ) : zpc (fX12_once_102 σ x1) (fun r => (zQ [3, 5, 6, 7, 8, 9, 21, 22, 23, 24, 25, 26] [(0, 0, 0), (0, 31, 33), (0, 39, 49)] [4, 10, 11] [(0, 30, 30)]) σ0 (r)) := by
  unfold fX12_once_102
  exact zpc_ck (zpc_if (fun _ => zpc_if (fun _ => fV_fX12_once_204 h) (fun _ => zpc_bi (fV_fX12_asks h) (fun σ20 v21 hσ20 => zpc_if (fun _ => fV_fX12_once_204 hσ20) (fun _ => zpc_ck (zpc_bs (zQ.wi hσ20 rfl) (fun σ22 hσ22 => zpc_ck (zpc_bs (zQ.wi hσ22 rfl) (fun σ23 hσ23 => zpc_bu (fV_fX12_answers hσ23) (fun σ24 hσ24 => zpc_ck (zpc_if (fun _ => zpc_ck (zpc_bi (fV_fX12_word hσ24) (fun σ25 v26 hσ25 => fV_fX12_once_179 hσ25))) (fun _ => fV_fX12_once_179 hσ24))))))))))) (fun _ => fV_fX12_once_204 h))
theorem fV_fX12_once_46 {σ0 : zSt} {σ : zSt} {s0 : Int32} (h : (zQ [3, 5, 6, 7, 8, 9, 21, 22, 23, 24, 25, 26] [(0, 0, 0), (0, 31, 33), (0, 39, 49)] [4, 10, 11] [(0, 30, 30)]) σ0 σ) : zpc (fX12_once_46 σ s0) (fun r => (zQ [3, 5, 6, 7, 8, 9, 21, 22, 23, 24, 25, 26] [(0, 0, 0), (0, 31, 33), (0, 39, 49)] [4, 10, 11] [(0, 30, 30)]) σ0 (r)) := by
  unfold fX12_once_46
  exact zpc_ck (zpc_bs (zQ.wi h rfl) (fun σ27 hσ27 => zpc_ck (zpc_if (fun _ => zpc_if (fun _ => fV_fX12_once_102 hσ27) (fun _ => zpc_ck (zpc_bs (zQ.wi hσ27 rfl) (fun σ28 hσ28 => zpc_ck (zpc_bs (zQ.wi hσ28 rfl) (fun σ29 hσ29 => zpc_bu (fV_fX12_answers hσ29) (fun σ30 hσ30 => zpc_bu (fV_fX12_call hσ30) (fun σ31 hσ31 => fV_fX12_once_229 hσ31)))))))) (fun _ => fV_fX12_once_102 hσ27))))
theorem fV_fX12_once {σ0 : zSt} {σ : zSt} (h : (zQ [3, 5, 6, 7, 8, 9, 21, 22, 23, 24, 25, 26] [(0, 0, 0), (0, 31, 33), (0, 39, 49)] [4, 10, 11] [(0, 30, 30)]) σ0 σ) : zpc (fX12_once σ) (fun r => (zQ [3, 5, 6, 7, 8, 9, 21, 22, 23, 24, 25, 26] [(0, 0, 0), (0, 31, 33), (0, 39, 49)] [4, 10, 11] [(0, 30, 30)]) σ0 (r)) := by
  unfold fX12_once
  exact zpc_ck (zpc_ck (zpc_ck (zpc_bs (zQ.wi h rfl) (fun σ32 hσ32 => zpc_bs (zQ.wl hσ32 rfl) (fun σ33 hσ33 => zpc_ck (zpc_if (fun _ => fV_fX12_once_46 hσ33) (fun _ => fV_fX12_once_46 hσ33)))))))
theorem fV_fX12_isStop_2_body {σ0 : zSt} {k2 : zSt → Int32 → Int32 → Option (zSt × Int32)} (hk2 : ∀ (y0 : zSt) (y1 : Int32) (y2 : Int32), (zQ [3, 5, 6, 7, 8, 9, 21, 22, 23, 24, 25, 26] [(0, 0, 0), (0, 31, 33), (0, 39, 49)] [4, 10, 11] [(0, 30, 30)]) σ0 y0 → zpc (k2 y0 y1 y2) (fun r => (zQ [3, 5, 6, 7, 8, 9, 21, 22, 23, 24, 25, 26] [(0, 0, 0), (0, 31, 33), (0, 39, 49)] [4, 10, 11] [(0, 30, 30)]) σ0 (r.1))) {σ : zSt} {x1 : Int32} {x2 : Int32} (h : (zQ [3, 5, 6, 7, 8, 9, 21, 22, 23, 24, 25, 26] [(0, 0, 0), (0, 31, 33), (0, 39, 49)] [4, 10, 11] [(0, 30, 30)]) σ0 σ) : zpc (fX12_isStop_2_body k2 σ x1 x2) (fun r => (zQ [3, 5, 6, 7, 8, 9, 21, 22, 23, 24, 25, 26] [(0, 0, 0), (0, 31, 33), (0, 39, 49)] [4, 10, 11] [(0, 30, 30)]) σ0 (r.1)) := by
  unfold fX12_isStop_2_body
  exact zpc_ck (zpc_if (fun _ => zpc_ck (zpc_some h)) (fun _ => zpc_ck (zpc_if (fun _ => zpc_ck (zpc_some h)) (fun _ => zpc_bv (fun v1 _ => hk2 _ _ _ h)))))
theorem fV_fX12_isStop_2 {σ0 : zSt} : ∀ (n : Nat) (y0 : zSt) (y1 : Int32) (y2 : Int32), (zQ [3, 5, 6, 7, 8, 9, 21, 22, 23, 24, 25, 26] [(0, 0, 0), (0, 31, 33), (0, 39, 49)] [4, 10, 11] [(0, 30, 30)]) σ0 y0 → zpc (fX12_isStop_2 n y0 y1 y2) (fun r => (zQ [3, 5, 6, 7, 8, 9, 21, 22, 23, 24, 25, 26] [(0, 0, 0), (0, 31, 33), (0, 39, 49)] [4, 10, 11] [(0, 30, 30)]) σ0 (r.1)) := by
  intro n
  induction n with
  | zero => intro y0 y1 y2 h; exact zpc_none
  | succ n ih => intro y0 y1 y2 h; exact fV_fX12_isStop_2_body ih h
theorem fV_fX12_isStop {σ0 : zSt} {σ : zSt} {x1 : Int32} (h : (zQ [3, 5, 6, 7, 8, 9, 21, 22, 23, 24, 25, 26] [(0, 0, 0), (0, 31, 33), (0, 39, 49)] [4, 10, 11] [(0, 30, 30)]) σ0 σ) : zpc (fX12_isStop σ x1) (fun r => (zQ [3, 5, 6, 7, 8, 9, 21, 22, 23, 24, 25, 26] [(0, 0, 0), (0, 31, 33), (0, 39, 49)] [4, 10, 11] [(0, 30, 30)]) σ0 (r.1)) := by
  unfold fX12_isStop
  exact fV_fX12_isStop_2 _ _ _ _ h
theorem fV_fX12_step_62 {σ0 : zSt} {σ : zSt} {x2 : Int32} (h : (zQ [3, 5, 6, 7, 8, 9, 21, 22, 23, 24, 25, 26] [(0, 0, 0), (0, 31, 33), (0, 39, 49)] [4, 10, 11] [(0, 30, 30)]) σ0 σ) : zpc (fX12_step_62 σ x2) (fun r => (zQ [3, 5, 6, 7, 8, 9, 21, 22, 23, 24, 25, 26] [(0, 0, 0), (0, 31, 33), (0, 39, 49)] [4, 10, 11] [(0, 30, 30)]) σ0 (r.1)) := by
  unfold fX12_step_62
  exact zpc_some h
theorem fV_fX12_step_52 {σ0 : zSt} {k29 : zSt → Int32 → Int32 → Option (zSt × Int32)} (hk29 : ∀ (y0 : zSt) (y1 : Int32) (y2 : Int32), (zQ [3, 5, 6, 7, 8, 9, 21, 22, 23, 24, 25, 26] [(0, 0, 0), (0, 31, 33), (0, 39, 49)] [4, 10, 11] [(0, 30, 30)]) σ0 y0 → zpc (k29 y0 y1 y2) (fun r => (zQ [3, 5, 6, 7, 8, 9, 21, 22, 23, 24, 25, 26] [(0, 0, 0), (0, 31, 33), (0, 39, 49)] [4, 10, 11] [(0, 30, 30)]) σ0 (r.1))) {σ : zSt} {x1 : Int32} {x2 : Int32} (h : (zQ [3, 5, 6, 7, 8, 9, 21, 22, 23, 24, 25, 26] [(0, 0, 0), (0, 31, 33), (0, 39, 49)] [4, 10, 11] [(0, 30, 30)]) σ0 σ) : zpc (fX12_step_52 k29 σ x1 x2) (fun r => (zQ [3, 5, 6, 7, 8, 9, 21, 22, 23, 24, 25, 26] [(0, 0, 0), (0, 31, 33), (0, 39, 49)] [4, 10, 11] [(0, 30, 30)]) σ0 (r.1)) := by
  unfold fX12_step_52
  exact zpc_bu (fV_fX12_once h) (fun σ1 hσ1 => zpc_bv (fun v2 _ => hk29 _ _ _ hσ1))
theorem fV_fX12_step_29_body {σ0 : zSt} {k29 : zSt → Int32 → Int32 → Option (zSt × Int32)} (hk29 : ∀ (y0 : zSt) (y1 : Int32) (y2 : Int32), (zQ [3, 5, 6, 7, 8, 9, 21, 22, 23, 24, 25, 26] [(0, 0, 0), (0, 31, 33), (0, 39, 49)] [4, 10, 11] [(0, 30, 30)]) σ0 y0 → zpc (k29 y0 y1 y2) (fun r => (zQ [3, 5, 6, 7, 8, 9, 21, 22, 23, 24, 25, 26] [(0, 0, 0), (0, 31, 33), (0, 39, 49)] [4, 10, 11] [(0, 30, 30)]) σ0 (r.1))) {σ : zSt} {x1 : Int32} {x2 : Int32} (h : (zQ [3, 5, 6, 7, 8, 9, 21, 22, 23, 24, 25, 26] [(0, 0, 0), (0, 31, 33), (0, 39, 49)] [4, 10, 11] [(0, 30, 30)]) σ0 σ) : zpc (fX12_step_29_body k29 σ x1 x2) (fun r => (zQ [3, 5, 6, 7, 8, 9, 21, 22, 23, 24, 25, 26] [(0, 0, 0), (0, 31, 33), (0, 39, 49)] [4, 10, 11] [(0, 30, 30)]) σ0 (r.1)) := by
  unfold fX12_step_29_body
  exact zpc_if (fun _ => fV_fX12_step_62 h) (fun _ => zpc_if (fun _ => fV_fX12_step_52 hk29 h) (fun _ => zpc_ck (zpc_bi (fV_fX12_isStop h) (fun σ3 v4 hσ3 => zpc_if (fun _ => fV_fX12_step_52 hk29 hσ3) (fun _ => fV_fX12_step_62 hσ3)))))
theorem fV_fX12_step_29 {σ0 : zSt} : ∀ (n : Nat) (y0 : zSt) (y1 : Int32) (y2 : Int32), (zQ [3, 5, 6, 7, 8, 9, 21, 22, 23, 24, 25, 26] [(0, 0, 0), (0, 31, 33), (0, 39, 49)] [4, 10, 11] [(0, 30, 30)]) σ0 y0 → zpc (fX12_step_29 n y0 y1 y2) (fun r => (zQ [3, 5, 6, 7, 8, 9, 21, 22, 23, 24, 25, 26] [(0, 0, 0), (0, 31, 33), (0, 39, 49)] [4, 10, 11] [(0, 30, 30)]) σ0 (r.1)) := by
  intro n
  induction n with
  | zero => intro y0 y1 y2 h; exact zpc_none
  | succ n ih => intro y0 y1 y2 h; exact fV_fX12_step_29_body ih h
theorem fV_fX12_step_18 {σ0 : zSt} {σ : zSt} {x1 : Int32} {s0 : Int32} (h : (zQ [3, 5, 6, 7, 8, 9, 21, 22, 23, 24, 25, 26] [(0, 0, 0), (0, 31, 33), (0, 39, 49)] [4, 10, 11] [(0, 30, 30)]) σ0 σ) : zpc (fX12_step_18 σ x1 s0) (fun r => (zQ [3, 5, 6, 7, 8, 9, 21, 22, 23, 24, 25, 26] [(0, 0, 0), (0, 31, 33), (0, 39, 49)] [4, 10, 11] [(0, 30, 30)]) σ0 (r.1)) := by
  unfold fX12_step_18
  exact zpc_bi (fV_fX12_fails h) (fun σ5 v6 hσ5 => zpc_if (fun _ => fV_fX12_step_29 _ _ _ _ hσ5) (fun _ => zpc_some hσ5))
theorem fV_fX12_step {σ0 : zSt} {σ : zSt} {x1 : Int32} (h : (zQ [3, 5, 6, 7, 8, 9, 21, 22, 23, 24, 25, 26] [(0, 0, 0), (0, 31, 33), (0, 39, 49)] [4, 10, 11] [(0, 30, 30)]) σ0 σ) : zpc (fX12_step σ x1) (fun r => (zQ [3, 5, 6, 7, 8, 9, 21, 22, 23, 24, 25, 26] [(0, 0, 0), (0, 31, 33), (0, 39, 49)] [4, 10, 11] [(0, 30, 30)]) σ0 (r.1)) := by
  unfold fX12_step
  exact zpc_bi (fV_fX12_within h) (fun σ7 v8 hσ7 => zpc_if (fun _ => fV_fX12_step_18 hσ7) (fun _ => fV_fX12_step_18 hσ7))
theorem fV_fX12_picture_80 {σ0 : zSt} {σ : zSt} {x4 : Int32} (h : (zQ [3, 5, 6, 7, 8, 9, 21, 22, 23, 24, 25, 26] [(0, 0, 0), (0, 31, 33), (0, 39, 49)] [4, 10, 11] [(0, 30, 30)]) σ0 σ) : zpc (fX12_picture_80 σ x4) (fun r => (zQ [3, 5, 6, 7, 8, 9, 21, 22, 23, 24, 25, 26] [(0, 0, 0), (0, 31, 33), (0, 39, 49)] [4, 10, 11] [(0, 30, 30)]) σ0 (r.1)) := by
  unfold fX12_picture_80
  exact zpc_some h
theorem fV_fX12_picture_70 {σ0 : zSt} {k40 : zSt → Int64 → Int32 → Option (zSt × Int32)} (hk40 : ∀ (y0 : zSt) (y1 : Int64) (y2 : Int32), (zQ [3, 5, 6, 7, 8, 9, 21, 22, 23, 24, 25, 26] [(0, 0, 0), (0, 31, 33), (0, 39, 49)] [4, 10, 11] [(0, 30, 30)]) σ0 y0 → zpc (k40 y0 y1 y2) (fun r => (zQ [3, 5, 6, 7, 8, 9, 21, 22, 23, 24, 25, 26] [(0, 0, 0), (0, 31, 33), (0, 39, 49)] [4, 10, 11] [(0, 30, 30)]) σ0 (r.1))) {σ : zSt} {x2 : Int64} {x4 : Int32} (h : (zQ [3, 5, 6, 7, 8, 9, 21, 22, 23, 24, 25, 26] [(0, 0, 0), (0, 31, 33), (0, 39, 49)] [4, 10, 11] [(0, 30, 30)]) σ0 σ) : zpc (fX12_picture_70 k40 σ x2 x4) (fun r => (zQ [3, 5, 6, 7, 8, 9, 21, 22, 23, 24, 25, 26] [(0, 0, 0), (0, 31, 33), (0, 39, 49)] [4, 10, 11] [(0, 30, 30)]) σ0 (r.1)) := by
  unfold fX12_picture_70
  exact zpc_bu (fV_fX12_once h) (fun σ1 hσ1 => zpc_bv (fun v2 _ => hk40 _ _ _ hσ1))
theorem fV_fX12_picture_40_body {σ0 : zSt} {k40 : zSt → Int64 → Int32 → Option (zSt × Int32)} (hk40 : ∀ (y0 : zSt) (y1 : Int64) (y2 : Int32), (zQ [3, 5, 6, 7, 8, 9, 21, 22, 23, 24, 25, 26] [(0, 0, 0), (0, 31, 33), (0, 39, 49)] [4, 10, 11] [(0, 30, 30)]) σ0 y0 → zpc (k40 y0 y1 y2) (fun r => (zQ [3, 5, 6, 7, 8, 9, 21, 22, 23, 24, 25, 26] [(0, 0, 0), (0, 31, 33), (0, 39, 49)] [4, 10, 11] [(0, 30, 30)]) σ0 (r.1))) {σ : zSt} {x2 : Int64} {x4 : Int32} (h : (zQ [3, 5, 6, 7, 8, 9, 21, 22, 23, 24, 25, 26] [(0, 0, 0), (0, 31, 33), (0, 39, 49)] [4, 10, 11] [(0, 30, 30)]) σ0 σ) : zpc (fX12_picture_40_body k40 σ x2 x4) (fun r => (zQ [3, 5, 6, 7, 8, 9, 21, 22, 23, 24, 25, 26] [(0, 0, 0), (0, 31, 33), (0, 39, 49)] [4, 10, 11] [(0, 30, 30)]) σ0 (r.1)) := by
  unfold fX12_picture_40_body
  exact zpc_ck (zpc_if (fun _ => fV_fX12_picture_80 h) (fun _ => zpc_if (fun _ => fV_fX12_picture_70 hk40 h) (fun _ => zpc_ck (zpc_bi (fV_fX12_isStop h) (fun σ3 v4 hσ3 => zpc_if (fun _ => fV_fX12_picture_70 hk40 hσ3) (fun _ => fV_fX12_picture_80 hσ3))))))
theorem fV_fX12_picture_40 {σ0 : zSt} : ∀ (n : Nat) (y0 : zSt) (y1 : Int64) (y2 : Int32), (zQ [3, 5, 6, 7, 8, 9, 21, 22, 23, 24, 25, 26] [(0, 0, 0), (0, 31, 33), (0, 39, 49)] [4, 10, 11] [(0, 30, 30)]) σ0 y0 → zpc (fX12_picture_40 n y0 y1 y2) (fun r => (zQ [3, 5, 6, 7, 8, 9, 21, 22, 23, 24, 25, 26] [(0, 0, 0), (0, 31, 33), (0, 39, 49)] [4, 10, 11] [(0, 30, 30)]) σ0 (r.1)) := by
  intro n
  induction n with
  | zero => intro y0 y1 y2 h; exact zpc_none
  | succ n ih => intro y0 y1 y2 h; exact fV_fX12_picture_40_body ih h
theorem fV_fX12_picture_18 {σ0 : zSt} {σ : zSt} {x1 : Int32} {s0 : Int32} (h : (zQ [3, 5, 6, 7, 8, 9, 21, 22, 23, 24, 25, 26] [(0, 0, 0), (0, 31, 33), (0, 39, 49)] [4, 10, 11] [(0, 30, 30)]) σ0 σ) : zpc (fX12_picture_18 σ x1 s0) (fun r => (zQ [3, 5, 6, 7, 8, 9, 21, 22, 23, 24, 25, 26] [(0, 0, 0), (0, 31, 33), (0, 39, 49)] [4, 10, 11] [(0, 30, 30)]) σ0 (r.1)) := by
  unfold fX12_picture_18
  exact zpc_bi (fV_fX12_fails h) (fun σ5 v6 hσ5 => zpc_if (fun _ => zpc_ck (zpc_bv (fun v7 _ => fV_fX12_picture_40 _ _ _ _ hσ5))) (fun _ => zpc_some hσ5))
theorem fV_fX12_picture {σ0 : zSt} {σ : zSt} {x1 : Int32} (h : (zQ [3, 5, 6, 7, 8, 9, 21, 22, 23, 24, 25, 26] [(0, 0, 0), (0, 31, 33), (0, 39, 49)] [4, 10, 11] [(0, 30, 30)]) σ0 σ) : zpc (fX12_picture σ x1) (fun r => (zQ [3, 5, 6, 7, 8, 9, 21, 22, 23, 24, 25, 26] [(0, 0, 0), (0, 31, 33), (0, 39, 49)] [4, 10, 11] [(0, 30, 30)]) σ0 (r.1)) := by
  unfold fX12_picture
  exact zpc_bi (fV_fX12_within h) (fun σ8 v9 hσ8 => zpc_if (fun _ => fV_fX12_picture_18 hσ8) (fun _ => fV_fX12_picture_18 hσ8))
theorem fV_fX12_dot_103 {σ0 : zSt} {σ : zSt} {s0 : Int32} (h : (zQ [3, 5, 6, 7, 8, 9, 21, 22, 23, 24, 25, 26] [(0, 0, 0), (0, 31, 33), (0, 39, 49)] [4, 10, 11] [(0, 30, 30)]) σ0 σ) : zpc (fX12_dot_103 σ s0) (fun r => (zQ [3, 5, 6, 7, 8, 9, 21, 22, 23, 24, 25, 26] [(0, 0, 0), (0, 31, 33), (0, 39, 49)] [4, 10, 11] [(0, 30, 30)]) σ0 (r.1)) := by
  unfold fX12_dot_103
  exact zpc_ck (zpc_some h)
theorem fV_fX12_dot_63 {σ0 : zSt} {σ : zSt} {x1 : Int32} {x2 : Int32} {x3 : Int32} {s0 : Int32} (h : (zQ [3, 5, 6, 7, 8, 9, 21, 22, 23, 24, 25, 26] [(0, 0, 0), (0, 31, 33), (0, 39, 49)] [4, 10, 11] [(0, 30, 30)]) σ0 σ) : zpc (fX12_dot_63 σ x1 x2 x3 s0) (fun r => (zQ [3, 5, 6, 7, 8, 9, 21, 22, 23, 24, 25, 26] [(0, 0, 0), (0, 31, 33), (0, 39, 49)] [4, 10, 11] [(0, 30, 30)]) σ0 (r.1)) := by
  unfold fX12_dot_63
  exact zpc_bi (fV_fX12_fails h) (fun σ1 v2 hσ1 => zpc_if (fun _ => zpc_if (fun _ => fV_fX12_dot_103 hσ1) (fun _ => fV_fX12_dot_103 hσ1)) (fun _ => zpc_some hσ1))
theorem fV_fX12_dot_58 {σ0 : zSt} {σ : zSt} {x1 : Int32} {x2 : Int32} {x3 : Int32} (h : (zQ [3, 5, 6, 7, 8, 9, 21, 22, 23, 24, 25, 26] [(0, 0, 0), (0, 31, 33), (0, 39, 49)] [4, 10, 11] [(0, 30, 30)]) σ0 σ) : zpc (fX12_dot_58 σ x1 x2 x3) (fun r => (zQ [3, 5, 6, 7, 8, 9, 21, 22, 23, 24, 25, 26] [(0, 0, 0), (0, 31, 33), (0, 39, 49)] [4, 10, 11] [(0, 30, 30)]) σ0 (r.1)) := by
  unfold fX12_dot_58
  exact fV_fX12_dot_63 h
theorem fV_fX12_dot_55 {σ0 : zSt} {σ : zSt} {x1 : Int32} {x2 : Int32} {x3 : Int32} {s0 : Int32} {s1 : Int32} (h : (zQ [3, 5, 6, 7, 8, 9, 21, 22, 23, 24, 25, 26] [(0, 0, 0), (0, 31, 33), (0, 39, 49)] [4, 10, 11] [(0, 30, 30)]) σ0 σ) : zpc (fX12_dot_55 σ x1 x2 x3 s0 s1) (fun r => (zQ [3, 5, 6, 7, 8, 9, 21, 22, 23, 24, 25, 26] [(0, 0, 0), (0, 31, 33), (0, 39, 49)] [4, 10, 11] [(0, 30, 30)]) σ0 (r.1)) := by
  unfold fX12_dot_55
  exact zpc_if (fun _ => fV_fX12_dot_63 h) (fun _ => fV_fX12_dot_58 h)
theorem fV_fX12_dot_37 {σ0 : zSt} {σ : zSt} {x1 : Int32} {x2 : Int32} {x3 : Int32} {s0 : Int32} {s1 : Int32} (h : (zQ [3, 5, 6, 7, 8, 9, 21, 22, 23, 24, 25, 26] [(0, 0, 0), (0, 31, 33), (0, 39, 49)] [4, 10, 11] [(0, 30, 30)]) σ0 σ) : zpc (fX12_dot_37 σ x1 x2 x3 s0 s1) (fun r => (zQ [3, 5, 6, 7, 8, 9, 21, 22, 23, 24, 25, 26] [(0, 0, 0), (0, 31, 33), (0, 39, 49)] [4, 10, 11] [(0, 30, 30)]) σ0 (r.1)) := by
  unfold fX12_dot_37
  exact zpc_if (fun _ => fV_fX12_dot_58 h) (fun _ => zpc_if (fun _ => zpc_bi (fV_fX12_height h) (fun σ3 v4 hσ3 => fV_fX12_dot_55 hσ3)) (fun _ => fV_fX12_dot_55 h))
theorem fV_fX12_dot_13 {σ0 : zSt} {σ : zSt} {x1 : Int32} {x2 : Int32} {s0 : Int32} (h : (zQ [3, 5, 6, 7, 8, 9, 21, 22, 23, 24, 25, 26] [(0, 0, 0), (0, 31, 33), (0, 39, 49)] [4, 10, 11] [(0, 30, 30)]) σ0 σ) : zpc (fX12_dot_13 σ x1 x2 s0) (fun r => (zQ [3, 5, 6, 7, 8, 9, 21, 22, 23, 24, 25, 26] [(0, 0, 0), (0, 31, 33), (0, 39, 49)] [4, 10, 11] [(0, 30, 30)]) σ0 (r.1)) := by
  unfold fX12_dot_13
  exact zpc_if (fun _ => fV_fX12_dot_58 h) (fun _ => zpc_if (fun _ => fV_fX12_dot_58 h) (fun _ => zpc_if (fun _ => fV_fX12_dot_37 h) (fun _ => fV_fX12_dot_37 h)))
theorem fV_fX12_dot {σ0 : zSt} {σ : zSt} {x1 : Int32} {x2 : Int32} (h : (zQ [3, 5, 6, 7, 8, 9, 21, 22, 23, 24, 25, 26] [(0, 0, 0), (0, 31, 33), (0, 39, 49)] [4, 10, 11] [(0, 30, 30)]) σ0 σ) : zpc (fX12_dot σ x1 x2) (fun r => (zQ [3, 5, 6, 7, 8, 9, 21, 22, 23, 24, 25, 26] [(0, 0, 0), (0, 31, 33), (0, 39, 49)] [4, 10, 11] [(0, 30, 30)]) σ0 (r.1)) := by
  unfold fX12_dot
  exact zpc_if (fun _ => fV_fX12_dot_13 h) (fun _ => fV_fX12_dot_13 h)
theorem fV_fX12_row_111 {σ0 : zSt} {k56 : zSt → Int32 → Int32 → Int32 → Int32 → Option (zSt × Int32)} (hk56 : ∀ (y0 : zSt) (y1 : Int32) (y2 : Int32) (y3 : Int32) (y4 : Int32), (zQ [3, 5, 6, 7, 8, 9, 21, 22, 23, 24, 25, 26] [(0, 0, 0), (0, 31, 33), (0, 39, 49)] [4, 10, 11] [(0, 30, 30)]) σ0 y0 → zpc (k56 y0 y1 y2 y3 y4) (fun r => (zQ [3, 5, 6, 7, 8, 9, 21, 22, 23, 24, 25, 26] [(0, 0, 0), (0, 31, 33), (0, 39, 49)] [4, 10, 11] [(0, 30, 30)]) σ0 (r.1))) {σ : zSt} {x1 : Int32} {x2 : Int32} {x4 : Int32} {s0 : Int32} {s2 : Int32} (h : (zQ [3, 5, 6, 7, 8, 9, 21, 22, 23, 24, 25, 26] [(0, 0, 0), (0, 31, 33), (0, 39, 49)] [4, 10, 11] [(0, 30, 30)]) σ0 σ) : zpc (fX12_row_111 k56 σ x1 x2 x4 s0 s2) (fun r => (zQ [3, 5, 6, 7, 8, 9, 21, 22, 23, 24, 25, 26] [(0, 0, 0), (0, 31, 33), (0, 39, 49)] [4, 10, 11] [(0, 30, 30)]) σ0 (r.1)) := by
  unfold fX12_row_111
  exact zpc_ck (zpc_bv (fun v1 _ => zpc_bv (fun v2 _ => hk56 _ _ _ _ _ h)))
theorem fV_fX12_row_71 {σ0 : zSt} {k56 : zSt → Int32 → Int32 → Int32 → Int32 → Option (zSt × Int32)} (hk56 : ∀ (y0 : zSt) (y1 : Int32) (y2 : Int32) (y3 : Int32) (y4 : Int32), (zQ [3, 5, 6, 7, 8, 9, 21, 22, 23, 24, 25, 26] [(0, 0, 0), (0, 31, 33), (0, 39, 49)] [4, 10, 11] [(0, 30, 30)]) σ0 y0 → zpc (k56 y0 y1 y2 y3 y4) (fun r => (zQ [3, 5, 6, 7, 8, 9, 21, 22, 23, 24, 25, 26] [(0, 0, 0), (0, 31, 33), (0, 39, 49)] [4, 10, 11] [(0, 30, 30)]) σ0 (r.1))) {σ : zSt} {x1 : Int32} {x2 : Int32} {x3 : Int32} {x4 : Int32} {s0 : Int32} {s1 : Int32} (h : (zQ [3, 5, 6, 7, 8, 9, 21, 22, 23, 24, 25, 26] [(0, 0, 0), (0, 31, 33), (0, 39, 49)] [4, 10, 11] [(0, 30, 30)]) σ0 σ) : zpc (fX12_row_71 k56 σ x1 x2 x3 x4 s0 s1) (fun r => (zQ [3, 5, 6, 7, 8, 9, 21, 22, 23, 24, 25, 26] [(0, 0, 0), (0, 31, 33), (0, 39, 49)] [4, 10, 11] [(0, 30, 30)]) σ0 (r.1)) := by
  unfold fX12_row_71
  exact zpc_if (fun _ => zpc_some h) (fun _ => zpc_if (fun _ => fV_fX12_row_111 hk56 h) (fun _ => fV_fX12_row_111 hk56 h))
theorem fV_fX12_row_56_body {σ0 : zSt} {k56 : zSt → Int32 → Int32 → Int32 → Int32 → Option (zSt × Int32)} (hk56 : ∀ (y0 : zSt) (y1 : Int32) (y2 : Int32) (y3 : Int32) (y4 : Int32), (zQ [3, 5, 6, 7, 8, 9, 21, 22, 23, 24, 25, 26] [(0, 0, 0), (0, 31, 33), (0, 39, 49)] [4, 10, 11] [(0, 30, 30)]) σ0 y0 → zpc (k56 y0 y1 y2 y3 y4) (fun r => (zQ [3, 5, 6, 7, 8, 9, 21, 22, 23, 24, 25, 26] [(0, 0, 0), (0, 31, 33), (0, 39, 49)] [4, 10, 11] [(0, 30, 30)]) σ0 (r.1))) {σ : zSt} {x1 : Int32} {x2 : Int32} {x3 : Int32} {x4 : Int32} (h : (zQ [3, 5, 6, 7, 8, 9, 21, 22, 23, 24, 25, 26] [(0, 0, 0), (0, 31, 33), (0, 39, 49)] [4, 10, 11] [(0, 30, 30)]) σ0 σ) : zpc (fX12_row_56_body k56 σ x1 x2 x3 x4) (fun r => (zQ [3, 5, 6, 7, 8, 9, 21, 22, 23, 24, 25, 26] [(0, 0, 0), (0, 31, 33), (0, 39, 49)] [4, 10, 11] [(0, 30, 30)]) σ0 (r.1)) := by
  unfold fX12_row_56_body
  exact zpc_if (fun _ => fV_fX12_row_71 hk56 h) (fun _ => fV_fX12_row_71 hk56 h)
theorem fV_fX12_row_56 {σ0 : zSt} : ∀ (n : Nat) (y0 : zSt) (y1 : Int32) (y2 : Int32) (y3 : Int32) (y4 : Int32), (zQ [3, 5, 6, 7, 8, 9, 21, 22, 23, 24, 25, 26] [(0, 0, 0), (0, 31, 33), (0, 39, 49)] [4, 10, 11] [(0, 30, 30)]) σ0 y0 → zpc (fX12_row_56 n y0 y1 y2 y3 y4) (fun r => (zQ [3, 5, 6, 7, 8, 9, 21, 22, 23, 24, 25, 26] [(0, 0, 0), (0, 31, 33), (0, 39, 49)] [4, 10, 11] [(0, 30, 30)]) σ0 (r.1)) := by
  intro n
  induction n with
  | zero => intro y0 y1 y2 y3 y4 h; exact zpc_none
  | succ n ih => intro y0 y1 y2 y3 y4 h; exact fV_fX12_row_56_body ih h
theorem fV_fX12_row_42 {σ0 : zSt} {σ : zSt} {x1 : Int32} {x2 : Int32} {s0 : Int32} (h : (zQ [3, 5, 6, 7, 8, 9, 21, 22, 23, 24, 25, 26] [(0, 0, 0), (0, 31, 33), (0, 39, 49)] [4, 10, 11] [(0, 30, 30)]) σ0 σ) : zpc (fX12_row_42 σ x1 x2 s0) (fun r => (zQ [3, 5, 6, 7, 8, 9, 21, 22, 23, 24, 25, 26] [(0, 0, 0), (0, 31, 33), (0, 39, 49)] [4, 10, 11] [(0, 30, 30)]) σ0 (r.1)) := by
  unfold fX12_row_42
  exact zpc_bi (fV_fX12_fails h) (fun σ3 v4 hσ3 => zpc_if (fun _ => fV_fX12_row_56 _ _ _ _ _ _ hσ3) (fun _ => zpc_some hσ3))
theorem fV_fX12_row_37 {σ0 : zSt} {σ : zSt} {x1 : Int32} {x2 : Int32} (h : (zQ [3, 5, 6, 7, 8, 9, 21, 22, 23, 24, 25, 26] [(0, 0, 0), (0, 31, 33), (0, 39, 49)] [4, 10, 11] [(0, 30, 30)]) σ0 σ) : zpc (fX12_row_37 σ x1 x2) (fun r => (zQ [3, 5, 6, 7, 8, 9, 21, 22, 23, 24, 25, 26] [(0, 0, 0), (0, 31, 33), (0, 39, 49)] [4, 10, 11] [(0, 30, 30)]) σ0 (r.1)) := by
  unfold fX12_row_37
  exact fV_fX12_row_42 h
theorem fV_fX12_row_34 {σ0 : zSt} {σ : zSt} {x1 : Int32} {x2 : Int32} {s0 : Int32} {s1 : Int32} (h : (zQ [3, 5, 6, 7, 8, 9, 21, 22, 23, 24, 25, 26] [(0, 0, 0), (0, 31, 33), (0, 39, 49)] [4, 10, 11] [(0, 30, 30)]) σ0 σ) : zpc (fX12_row_34 σ x1 x2 s0 s1) (fun r => (zQ [3, 5, 6, 7, 8, 9, 21, 22, 23, 24, 25, 26] [(0, 0, 0), (0, 31, 33), (0, 39, 49)] [4, 10, 11] [(0, 30, 30)]) σ0 (r.1)) := by
  unfold fX12_row_34
  exact zpc_if (fun _ => fV_fX12_row_42 h) (fun _ => fV_fX12_row_37 h)
theorem fV_fX12_row_13 {σ0 : zSt} {σ : zSt} {x1 : Int32} {s0 : Int32} (h : (zQ [3, 5, 6, 7, 8, 9, 21, 22, 23, 24, 25, 26] [(0, 0, 0), (0, 31, 33), (0, 39, 49)] [4, 10, 11] [(0, 30, 30)]) σ0 σ) : zpc (fX12_row_13 σ x1 s0) (fun r => (zQ [3, 5, 6, 7, 8, 9, 21, 22, 23, 24, 25, 26] [(0, 0, 0), (0, 31, 33), (0, 39, 49)] [4, 10, 11] [(0, 30, 30)]) σ0 (r.1)) := by
  unfold fX12_row_13
  exact zpc_if (fun _ => fV_fX12_row_37 h) (fun _ => zpc_if (fun _ => zpc_bi (fV_fX12_height h) (fun σ5 v6 hσ5 => fV_fX12_row_34 hσ5)) (fun _ => fV_fX12_row_34 h))
theorem fV_fX12_row {σ0 : zSt} {σ : zSt} {x1 : Int32} (h : (zQ [3, 5, 6, 7, 8, 9, 21, 22, 23, 24, 25, 26] [(0, 0, 0), (0, 31, 33), (0, 39, 49)] [4, 10, 11] [(0, 30, 30)]) σ0 σ) : zpc (fX12_row σ x1) (fun r => (zQ [3, 5, 6, 7, 8, 9, 21, 22, 23, 24, 25, 26] [(0, 0, 0), (0, 31, 33), (0, 39, 49)] [4, 10, 11] [(0, 30, 30)]) σ0 (r.1)) := by
  unfold fX12_row
  exact zpc_if (fun _ => fV_fX12_row_13 h) (fun _ => fV_fX12_row_13 h)
theorem fV_fX12_hear_16 {σ0 : zSt} {σ : zSt} {s0 : Int32} (h : (zQ [3, 5, 6, 7, 8, 9, 21, 22, 23, 24, 25, 26] [(0, 0, 0), (0, 31, 33), (0, 39, 49)] [4, 10, 11] [(0, 30, 30)]) σ0 σ) : zpc (fX12_hear_16 σ s0) (fun r => (zQ [3, 5, 6, 7, 8, 9, 21, 22, 23, 24, 25, 26] [(0, 0, 0), (0, 31, 33), (0, 39, 49)] [4, 10, 11] [(0, 30, 30)]) σ0 (r.1)) := by
  unfold fX12_hear_16
  exact zpc_bi (fV_fX12_fails h) (fun σ1 v2 hσ1 => zpc_if (fun _ => zpc_ck (zpc_ck (zpc_bv (fun v3 _ => zpc_ck (zpc_ck (zpc_ck (zpc_bs (zQ.wi hσ1 rfl) (fun σ4 hσ4 => zpc_ck (zpc_ck (zpc_bs (zQ.wi hσ4 rfl) (fun σ5 hσ5 => zpc_some hσ5))))))))))) (fun _ => zpc_some hσ1))
theorem fV_fX12_hear {σ0 : zSt} {σ : zSt} (h : (zQ [3, 5, 6, 7, 8, 9, 21, 22, 23, 24, 25, 26] [(0, 0, 0), (0, 31, 33), (0, 39, 49)] [4, 10, 11] [(0, 30, 30)]) σ0 σ) : zpc (fX12_hear σ) (fun r => (zQ [3, 5, 6, 7, 8, 9, 21, 22, 23, 24, 25, 26] [(0, 0, 0), (0, 31, 33), (0, 39, 49)] [4, 10, 11] [(0, 30, 30)]) σ0 (r.1)) := by
  unfold fX12_hear
  exact zpc_ck (zpc_if (fun _ => fV_fX12_hear_16 h) (fun _ => fV_fX12_hear_16 h))
theorem fV_fX12_sound_52 {σ0 : zSt} {σ : zSt} {s0 : Int32} (h : (zQ [3, 5, 6, 7, 8, 9, 21, 22, 23, 24, 25, 26] [(0, 0, 0), (0, 31, 33), (0, 39, 49)] [4, 10, 11] [(0, 30, 30)]) σ0 σ) : zpc (fX12_sound_52 σ s0) (fun r => (zQ [3, 5, 6, 7, 8, 9, 21, 22, 23, 24, 25, 26] [(0, 0, 0), (0, 31, 33), (0, 39, 49)] [4, 10, 11] [(0, 30, 30)]) σ0 (r.1)) := by
  unfold fX12_sound_52
  exact zpc_some h
theorem fV_fX12_sound_18 {σ0 : zSt} {σ : zSt} {x1 : Int32} {s0 : Int32} (h : (zQ [3, 5, 6, 7, 8, 9, 21, 22, 23, 24, 25, 26] [(0, 0, 0), (0, 31, 33), (0, 39, 49)] [4, 10, 11] [(0, 30, 30)]) σ0 σ) : zpc (fX12_sound_18 σ x1 s0) (fun r => (zQ [3, 5, 6, 7, 8, 9, 21, 22, 23, 24, 25, 26] [(0, 0, 0), (0, 31, 33), (0, 39, 49)] [4, 10, 11] [(0, 30, 30)]) σ0 (r.1)) := by
  unfold fX12_sound_18
  exact zpc_bi (fV_fX12_fails h) (fun σ1 v2 hσ1 => zpc_if (fun _ => zpc_if (fun _ => zpc_ck (fV_fX12_sound_52 hσ1)) (fun _ => zpc_ck (fV_fX12_sound_52 hσ1))) (fun _ => zpc_some hσ1))
theorem fV_fX12_sound {σ0 : zSt} {σ : zSt} {x1 : Int32} (h : (zQ [3, 5, 6, 7, 8, 9, 21, 22, 23, 24, 25, 26] [(0, 0, 0), (0, 31, 33), (0, 39, 49)] [4, 10, 11] [(0, 30, 30)]) σ0 σ) : zpc (fX12_sound σ x1) (fun r => (zQ [3, 5, 6, 7, 8, 9, 21, 22, 23, 24, 25, 26] [(0, 0, 0), (0, 31, 33), (0, 39, 49)] [4, 10, 11] [(0, 30, 30)]) σ0 (r.1)) := by
  unfold fX12_sound
  exact zpc_bi (fV_fX12_within h) (fun σ3 v4 hσ3 => zpc_if (fun _ => fV_fX12_sound_18 hσ3) (fun _ => fV_fX12_sound_18 hσ3))
theorem fV_fX12_reset {σ0 : zSt} {σ : zSt} (h : (zQ [3, 5, 6, 7, 8, 9, 21, 22, 23, 24, 25, 26] [(0, 0, 0), (0, 31, 33), (0, 39, 49)] [4, 10, 11] [(0, 30, 30)]) σ0 σ) : zpc (fX12_reset σ) (fun r => (zQ [3, 5, 6, 7, 8, 9, 21, 22, 23, 24, 25, 26] [(0, 0, 0), (0, 31, 33), (0, 39, 49)] [4, 10, 11] [(0, 30, 30)]) σ0 (r)) := by
  unfold fX12_reset
  exact zpc_bs (zQ.wi h rfl) (fun σ1 hσ1 => zpc_bu (fV_fX12_anew hσ1) (fun σ2 hσ2 => zpc_some hσ2))
theorem fV_fX12_pause {σ0 : zSt} {σ : zSt} (h : (zQ [3, 5, 6, 7, 8, 9, 21, 22, 23, 24, 25, 26] [(0, 0, 0), (0, 31, 33), (0, 39, 49)] [4, 10, 11] [(0, 30, 30)]) σ0 σ) : zpc (fX12_pause σ) (fun r => (zQ [3, 5, 6, 7, 8, 9, 21, 22, 23, 24, 25, 26] [(0, 0, 0), (0, 31, 33), (0, 39, 49)] [4, 10, 11] [(0, 30, 30)]) σ0 (r.1)) := by
  unfold fX12_pause
  exact zpc_bs (zQ.wi h rfl) (fun σ1 hσ1 => zpc_if (fun _ => zpc_ck (zpc_some hσ1)) (fun _ => zpc_ck (zpc_bs (zQ.wi hσ1 rfl) (fun σ2 hσ2 => zpc_ck (zpc_some hσ2)))))
theorem fV_fX12_press_28 {σ0 : zSt} {σ : zSt} {x1 : Int32} {x2 : Int32} {s0 : Int32} (h : (zQ [3, 5, 6, 7, 8, 9, 21, 22, 23, 24, 25, 26] [(0, 0, 0), (0, 31, 33), (0, 39, 49)] [4, 10, 11] [(0, 30, 30)]) σ0 σ) : zpc (fX12_press_28 σ x1 x2 s0) (fun r => (zQ [3, 5, 6, 7, 8, 9, 21, 22, 23, 24, 25, 26] [(0, 0, 0), (0, 31, 33), (0, 39, 49)] [4, 10, 11] [(0, 30, 30)]) σ0 (r)) := by
  unfold fX12_press_28
  exact zpc_bi (fV_fX12_fails h) (fun σ1 v2 hσ1 => zpc_if (fun _ => zpc_ck (zpc_bs (zQ.wi hσ1 rfl) (fun σ3 hσ3 => zpc_some hσ3))) (fun _ => zpc_some hσ1))
theorem fV_fX12_press_23 {σ0 : zSt} {σ : zSt} {x1 : Int32} {x2 : Int32} (h : (zQ [3, 5, 6, 7, 8, 9, 21, 22, 23, 24, 25, 26] [(0, 0, 0), (0, 31, 33), (0, 39, 49)] [4, 10, 11] [(0, 30, 30)]) σ0 σ) : zpc (fX12_press_23 σ x1 x2) (fun r => (zQ [3, 5, 6, 7, 8, 9, 21, 22, 23, 24, 25, 26] [(0, 0, 0), (0, 31, 33), (0, 39, 49)] [4, 10, 11] [(0, 30, 30)]) σ0 (r)) := by
  unfold fX12_press_23
  exact fV_fX12_press_28 h
theorem fV_fX12_press {σ0 : zSt} {σ : zSt} {x1 : Int32} {x2 : Int32} (h : (zQ [3, 5, 6, 7, 8, 9, 21, 22, 23, 24, 25, 26] [(0, 0, 0), (0, 31, 33), (0, 39, 49)] [4, 10, 11] [(0, 30, 30)]) σ0 σ) : zpc (fX12_press σ x1 x2) (fun r => (zQ [3, 5, 6, 7, 8, 9, 21, 22, 23, 24, 25, 26] [(0, 0, 0), (0, 31, 33), (0, 39, 49)] [4, 10, 11] [(0, 30, 30)]) σ0 (r)) := by
  unfold fX12_press
  exact zpc_bi (fV_fX12_within h) (fun σ4 v5 hσ4 => zpc_if (fun _ => fV_fX12_press_23 hσ4) (fun _ => zpc_bi (fV_fX12_within hσ4) (fun σ6 v7 hσ6 => zpc_if (fun _ => fV_fX12_press_23 hσ6) (fun _ => fV_fX12_press_28 hσ6))))
theorem fV_fX12_start_20 {σ0 : zSt} {σ : zSt} {s0 : Int32} {s1 : Int32} (h : (zQ [3, 5, 6, 7, 8, 9, 21, 22, 23, 24, 25, 26] [(0, 0, 0), (0, 31, 33), (0, 39, 49)] [4, 10, 11] [(0, 30, 30)]) σ0 σ) : zpc (fX12_start_20 σ s0 s1) (fun r => (zQ [3, 5, 6, 7, 8, 9, 21, 22, 23, 24, 25, 26] [(0, 0, 0), (0, 31, 33), (0, 39, 49)] [4, 10, 11] [(0, 30, 30)]) σ0 (r)) := by
  unfold fX12_start_20
  exact zpc_ck (zpc_bs (zQ.wi h rfl) (fun σ1 hσ1 => zpc_some hσ1))
theorem fV_fX12_start {σ0 : zSt} {σ : zSt} {x1 : Int32} (h : (zQ [3, 5, 6, 7, 8, 9, 21, 22, 23, 24, 25, 26] [(0, 0, 0), (0, 31, 33), (0, 39, 49)] [4, 10, 11] [(0, 30, 30)]) σ0 σ) : zpc (fX12_start σ x1) (fun r => (zQ [3, 5, 6, 7, 8, 9, 21, 22, 23, 24, 25, 26] [(0, 0, 0), (0, 31, 33), (0, 39, 49)] [4, 10, 11] [(0, 30, 30)]) σ0 (r)) := by
  unfold fX12_start
  exact zpc_bs (zQ.wi h rfl) (fun σ2 hσ2 => zpc_if (fun _ => fV_fX12_start_20 hσ2) (fun _ => fV_fX12_start_20 hσ2))
theorem fV_fX12_line_72 {σ0 : zSt} {σ : zSt} (h : (zQ [3, 5, 6, 7, 8, 9, 21, 22, 23, 24, 25, 26] [(0, 0, 0), (0, 31, 33), (0, 39, 49)] [4, 10, 11] [(0, 30, 30)]) σ0 σ) : zpc (fX12_line_72 σ) (fun r => (zQ [3, 5, 6, 7, 8, 9, 21, 22, 23, 24, 25, 26] [(0, 0, 0), (0, 31, 33), (0, 39, 49)] [4, 10, 11] [(0, 30, 30)]) σ0 (r)) := by
  unfold fX12_line_72
  exact zpc_some h
theorem fV_fX12_line_47 {σ0 : zSt} {σ : zSt} {x1 : Int32} {x3 : Int32} {s0 : Int32} {s1 : Int32} (h : (zQ [3, 5, 6, 7, 8, 9, 21, 22, 23, 24, 25, 26] [(0, 0, 0), (0, 31, 33), (0, 39, 49)] [4, 10, 11] [(0, 30, 30)]) σ0 σ) : zpc (fX12_line_47 σ x1 x3 s0 s1) (fun r => (zQ [3, 5, 6, 7, 8, 9, 21, 22, 23, 24, 25, 26] [(0, 0, 0), (0, 31, 33), (0, 39, 49)] [4, 10, 11] [(0, 30, 30)]) σ0 (r)) := by
  unfold fX12_line_47
  exact zpc_ck (zpc_bs (zQ.wi h rfl) (fun σ1 hσ1 => zpc_if (fun _ => zpc_bi (fV_fX12_lineAt hσ1) (fun σ2 v3 hσ2 => zpc_if (fun _ => zpc_bi (fV_fX12_hCount hσ2) (fun σ4 v5 hσ4 => zpc_ck (zpc_bs (zQ.wi hσ4 rfl) (fun σ6 hσ6 => fV_fX12_line_72 hσ6)))) (fun _ => fV_fX12_line_72 hσ2))) (fun _ => fV_fX12_line_72 hσ1)))
theorem fV_fX12_line_16 {σ0 : zSt} {σ : zSt} {x1 : Int32} {x2 : Int32} {s0 : Int32} (h : (zQ [3, 5, 6, 7, 8, 9, 21, 22, 23, 24, 25, 26] [(0, 0, 0), (0, 31, 33), (0, 39, 49)] [4, 10, 11] [(0, 30, 30)]) σ0 σ) : zpc (fX12_line_16 σ x1 x2 s0) (fun r => (zQ [3, 5, 6, 7, 8, 9, 21, 22, 23, 24, 25, 26] [(0, 0, 0), (0, 31, 33), (0, 39, 49)] [4, 10, 11] [(0, 30, 30)]) σ0 (r)) := by
  unfold fX12_line_16
  exact zpc_bi (fV_fX12_fails h) (fun σ7 v8 hσ7 => zpc_if (fun _ => zpc_bi (fV_fX12_lineAt hσ7) (fun σ9 v10 hσ9 => zpc_if (fun _ => fV_fX12_line_47 hσ9) (fun _ => fV_fX12_line_47 hσ9))) (fun _ => zpc_some hσ7))
theorem fV_fX12_line {σ0 : zSt} {σ : zSt} {x1 : Int32} {x2 : Int32} (h : (zQ [3, 5, 6, 7, 8, 9, 21, 22, 23, 24, 25, 26] [(0, 0, 0), (0, 31, 33), (0, 39, 49)] [4, 10, 11] [(0, 30, 30)]) σ0 σ) : zpc (fX12_line σ x1 x2) (fun r => (zQ [3, 5, 6, 7, 8, 9, 21, 22, 23, 24, 25, 26] [(0, 0, 0), (0, 31, 33), (0, 39, 49)] [4, 10, 11] [(0, 30, 30)]) σ0 (r)) := by
  unfold fX12_line
  exact zpc_bi (fV_fX12_within h) (fun σ11 v12 hσ11 => zpc_if (fun _ => fV_fX12_line_16 hσ11) (fun _ => fV_fX12_line_16 hσ11))
theorem fV_fX12_stop_64 {σ0 : zSt} {σ : zSt} (h : (zQ [3, 5, 6, 7, 8, 9, 21, 22, 23, 24, 25, 26] [(0, 0, 0), (0, 31, 33), (0, 39, 49)] [4, 10, 11] [(0, 30, 30)]) σ0 σ) : zpc (fX12_stop_64 σ) (fun r => (zQ [3, 5, 6, 7, 8, 9, 21, 22, 23, 24, 25, 26] [(0, 0, 0), (0, 31, 33), (0, 39, 49)] [4, 10, 11] [(0, 30, 30)]) σ0 (r.1)) := by
  unfold fX12_stop_64
  exact zpc_some h
theorem fV_fX12_stop_168 {σ0 : zSt} {σ : zSt} (h : (zQ [3, 5, 6, 7, 8, 9, 21, 22, 23, 24, 25, 26] [(0, 0, 0), (0, 31, 33), (0, 39, 49)] [4, 10, 11] [(0, 30, 30)]) σ0 σ) : zpc (fX12_stop_168 σ) (fun r => (zQ [3, 5, 6, 7, 8, 9, 21, 22, 23, 24, 25, 26] [(0, 0, 0), (0, 31, 33), (0, 39, 49)] [4, 10, 11] [(0, 30, 30)]) σ0 (r.1)) := by
  unfold fX12_stop_168
  exact zpc_ck (zpc_some h)
theorem fV_fX12_stop_112_body {σ0 : zSt} {k112 : zSt → Int32 → Int32 → Option (zSt × Int32)} (hk112 : ∀ (y0 : zSt) (y1 : Int32) (y2 : Int32), (zQ [3, 5, 6, 7, 8, 9, 21, 22, 23, 24, 25, 26] [(0, 0, 0), (0, 31, 33), (0, 39, 49)] [4, 10, 11] [(0, 30, 30)]) σ0 y0 → zpc (k112 y0 y1 y2) (fun r => (zQ [3, 5, 6, 7, 8, 9, 21, 22, 23, 24, 25, 26] [(0, 0, 0), (0, 31, 33), (0, 39, 49)] [4, 10, 11] [(0, 30, 30)]) σ0 (r.1))) {σ : zSt} {x1 : Int32} {x4 : Int32} (h : (zQ [3, 5, 6, 7, 8, 9, 21, 22, 23, 24, 25, 26] [(0, 0, 0), (0, 31, 33), (0, 39, 49)] [4, 10, 11] [(0, 30, 30)]) σ0 σ) : zpc (fX12_stop_112_body k112 σ x1 x4) (fun r => (zQ [3, 5, 6, 7, 8, 9, 21, 22, 23, 24, 25, 26] [(0, 0, 0), (0, 31, 33), (0, 39, 49)] [4, 10, 11] [(0, 30, 30)]) σ0 (r.1)) := by
  unfold fX12_stop_112_body
  exact zpc_ck (zpc_if (fun _ => zpc_ck (zpc_ck (zpc_ck (zpc_bs (zQ.wi h rfl) (fun σ1 hσ1 => zpc_ck (zpc_ck (zpc_bs (zQ.wi hσ1 rfl) (fun σ2 hσ2 => fV_fX12_stop_168 hσ2)))))))) (fun _ => zpc_bv (fun v3 _ => hk112 _ _ _ h)))
theorem fV_fX12_stop_112 {σ0 : zSt} : ∀ (n : Nat) (y0 : zSt) (y1 : Int32) (y2 : Int32), (zQ [3, 5, 6, 7, 8, 9, 21, 22, 23, 24, 25, 26] [(0, 0, 0), (0, 31, 33), (0, 39, 49)] [4, 10, 11] [(0, 30, 30)]) σ0 y0 → zpc (fX12_stop_112 n y0 y1 y2) (fun r => (zQ [3, 5, 6, 7, 8, 9, 21, 22, 23, 24, 25, 26] [(0, 0, 0), (0, 31, 33), (0, 39, 49)] [4, 10, 11] [(0, 30, 30)]) σ0 (r.1)) := by
  intro n
  induction n with
  | zero => intro y0 y1 y2 h; exact zpc_none
  | succ n ih => intro y0 y1 y2 h; exact fV_fX12_stop_112_body ih h
theorem fV_fX12_stop_101 {σ0 : zSt} {σ : zSt} {x1 : Int32} {x2 : Int32} {x3 : Int32} (h : (zQ [3, 5, 6, 7, 8, 9, 21, 22, 23, 24, 25, 26] [(0, 0, 0), (0, 31, 33), (0, 39, 49)] [4, 10, 11] [(0, 30, 30)]) σ0 σ) : zpc (fX12_stop_101 σ x1 x2 x3) (fun r => (zQ [3, 5, 6, 7, 8, 9, 21, 22, 23, 24, 25, 26] [(0, 0, 0), (0, 31, 33), (0, 39, 49)] [4, 10, 11] [(0, 30, 30)]) σ0 (r.1)) := by
  unfold fX12_stop_101
  exact zpc_if (fun _ => zpc_if (fun _ => fV_fX12_stop_168 h) (fun _ => fV_fX12_stop_112 _ _ _ _ h)) (fun _ => fV_fX12_stop_168 h)
theorem fV_fX12_stop_57 {σ0 : zSt} {σ : zSt} {x1 : Int32} {x2 : Int32} {x3 : Int32} {s0 : Int32} (h : (zQ [3, 5, 6, 7, 8, 9, 21, 22, 23, 24, 25, 26] [(0, 0, 0), (0, 31, 33), (0, 39, 49)] [4, 10, 11] [(0, 30, 30)]) σ0 σ) : zpc (fX12_stop_57 σ x1 x2 x3 s0) (fun r => (zQ [3, 5, 6, 7, 8, 9, 21, 22, 23, 24, 25, 26] [(0, 0, 0), (0, 31, 33), (0, 39, 49)] [4, 10, 11] [(0, 30, 30)]) σ0 (r.1)) := by
  unfold fX12_stop_57
  exact zpc_bi (fV_fX12_fails h) (fun σ4 v5 hσ4 => zpc_if (fun _ => zpc_if (fun _ => fV_fX12_stop_101 hσ4) (fun _ => zpc_if (fun _ => zpc_ck (zpc_ck (zpc_bs (zQ.wi hσ4 rfl) (fun σ6 hσ6 => zpc_ck (zpc_ck (zpc_bs (zQ.wi hσ6 rfl) (fun σ7 hσ7 => fV_fX12_stop_101 hσ7))))))) (fun _ => fV_fX12_stop_101 hσ4))) (fun _ => fV_fX12_stop_64 hσ4))
theorem fV_fX12_stop_56 {σ0 : zSt} {σ : zSt} {x1 : Int32} {x2 : Int32} {x3 : Int32} (h : (zQ [3, 5, 6, 7, 8, 9, 21, 22, 23, 24, 25, 26] [(0, 0, 0), (0, 31, 33), (0, 39, 49)] [4, 10, 11] [(0, 30, 30)]) σ0 σ) : zpc (fX12_stop_56 σ x1 x2 x3) (fun r => (zQ [3, 5, 6, 7, 8, 9, 21, 22, 23, 24, 25, 26] [(0, 0, 0), (0, 31, 33), (0, 39, 49)] [4, 10, 11] [(0, 30, 30)]) σ0 (r.1)) := by
  unfold fX12_stop_56
  exact fV_fX12_stop_57 h
theorem fV_fX12_stop_24 {σ0 : zSt} {σ : zSt} {x1 : Int32} {x2 : Int32} {x3 : Int32} {s0 : Int32} (h : (zQ [3, 5, 6, 7, 8, 9, 21, 22, 23, 24, 25, 26] [(0, 0, 0), (0, 31, 33), (0, 39, 49)] [4, 10, 11] [(0, 30, 30)]) σ0 σ) : zpc (fX12_stop_24 σ x1 x2 x3 s0) (fun r => (zQ [3, 5, 6, 7, 8, 9, 21, 22, 23, 24, 25, 26] [(0, 0, 0), (0, 31, 33), (0, 39, 49)] [4, 10, 11] [(0, 30, 30)]) σ0 (r.1)) := by
  unfold fX12_stop_24
  exact zpc_bi (fV_fX12_fails h) (fun σ8 v9 hσ8 => zpc_if (fun _ => zpc_if (fun _ => fV_fX12_stop_56 hσ8) (fun _ => zpc_if (fun _ => zpc_ck (zpc_if (fun _ => fV_fX12_stop_57 hσ8) (fun _ => fV_fX12_stop_56 hσ8))) (fun _ => fV_fX12_stop_56 hσ8))) (fun _ => fV_fX12_stop_64 hσ8))
theorem fV_fX12_stop {σ0 : zSt} {σ : zSt} {x1 : Int32} {x2 : Int32} (h : (zQ [3, 5, 6, 7, 8, 9, 21, 22, 23, 24, 25, 26] [(0, 0, 0), (0, 31, 33), (0, 39, 49)] [4, 10, 11] [(0, 30, 30)]) σ0 σ) : zpc (fX12_stop σ x1 x2) (fun r => (zQ [3, 5, 6, 7, 8, 9, 21, 22, 23, 24, 25, 26] [(0, 0, 0), (0, 31, 33), (0, 39, 49)] [4, 10, 11] [(0, 30, 30)]) σ0 (r.1)) := by
  unfold fX12_stop
  exact zpc_bi (fV_fX12_isStop h) (fun σ10 v11 hσ10 => zpc_bi (fV_fX12_within hσ10) (fun σ12 v13 hσ12 => zpc_if (fun _ => fV_fX12_stop_24 hσ12) (fun _ => fV_fX12_stop_24 hσ12)))
theorem fV_fX12_register_35 {σ0 : zSt} {σ : zSt} {s0 : Int32} (h : (zQ [3, 5, 6, 7, 8, 9, 21, 22, 23, 24, 25, 26] [(0, 0, 0), (0, 31, 33), (0, 39, 49)] [4, 10, 11] [(0, 30, 30)]) σ0 σ) : zpc (fX12_register_35 σ s0) (fun r => (zQ [3, 5, 6, 7, 8, 9, 21, 22, 23, 24, 25, 26] [(0, 0, 0), (0, 31, 33), (0, 39, 49)] [4, 10, 11] [(0, 30, 30)]) σ0 (r.1)) := by
  unfold fX12_register_35
  exact zpc_some h
theorem fV_fX12_register_18 {σ0 : zSt} {σ : zSt} {x1 : Int32} {s0 : Int32} (h : (zQ [3, 5, 6, 7, 8, 9, 21, 22, 23, 24, 25, 26] [(0, 0, 0), (0, 31, 33), (0, 39, 49)] [4, 10, 11] [(0, 30, 30)]) σ0 σ) : zpc (fX12_register_18 σ x1 s0) (fun r => (zQ [3, 5, 6, 7, 8, 9, 21, 22, 23, 24, 25, 26] [(0, 0, 0), (0, 31, 33), (0, 39, 49)] [4, 10, 11] [(0, 30, 30)]) σ0 (r.1)) := by
  unfold fX12_register_18
  exact zpc_bi (fV_fX12_fails h) (fun σ1 v2 hσ1 => zpc_if (fun _ => zpc_ck (fV_fX12_register_35 hσ1)) (fun _ => fV_fX12_register_35 hσ1))
theorem fV_fX12_register {σ0 : zSt} {σ : zSt} {x1 : Int32} (h : (zQ [3, 5, 6, 7, 8, 9, 21, 22, 23, 24, 25, 26] [(0, 0, 0), (0, 31, 33), (0, 39, 49)] [4, 10, 11] [(0, 30, 30)]) σ0 σ) : zpc (fX12_register σ x1) (fun r => (zQ [3, 5, 6, 7, 8, 9, 21, 22, 23, 24, 25, 26] [(0, 0, 0), (0, 31, 33), (0, 39, 49)] [4, 10, 11] [(0, 30, 30)]) σ0 (r.1)) := by
  unfold fX12_register
  exact zpc_bi (fV_fX12_within h) (fun σ3 v4 hσ3 => zpc_if (fun _ => fV_fX12_register_18 hσ3) (fun _ => fV_fX12_register_18 hσ3))
theorem fV_fX12_set_105 {σ0 : zSt} {σ : zSt} (h : (zQ [3, 5, 6, 7, 8, 9, 21, 22, 23, 24, 25, 26] [(0, 0, 0), (0, 31, 33), (0, 39, 49)] [4, 10, 11] [(0, 30, 30)]) σ0 σ) : zpc (fX12_set_105 σ) (fun r => (zQ [3, 5, 6, 7, 8, 9, 21, 22, 23, 24, 25, 26] [(0, 0, 0), (0, 31, 33), (0, 39, 49)] [4, 10, 11] [(0, 30, 30)]) σ0 (r)) := by
  unfold fX12_set_105
  exact zpc_some h
theorem fV_fX12_set_51 {σ0 : zSt} {σ : zSt} {s0 : Int32} {s1 : Int32} (h : (zQ [3, 5, 6, 7, 8, 9, 21, 22, 23, 24, 25, 26] [(0, 0, 0), (0, 31, 33), (0, 39, 49)] [4, 10, 11] [(0, 30, 30)]) σ0 σ) : zpc (fX12_set_51 σ s0 s1) (fun r => (zQ [3, 5, 6, 7, 8, 9, 21, 22, 23, 24, 25, 26] [(0, 0, 0), (0, 31, 33), (0, 39, 49)] [4, 10, 11] [(0, 30, 30)]) σ0 (r)) := by
  unfold fX12_set_51
  exact zpc_ck (zpc_bs (zQ.wi h rfl) (fun σ1 hσ1 => fV_fX12_set_105 hσ1))
theorem fV_fX12_set_104 {σ0 : zSt} {σ : zSt} {s0 : Int32} {s1 : Int32} (h : (zQ [3, 5, 6, 7, 8, 9, 21, 22, 23, 24, 25, 26] [(0, 0, 0), (0, 31, 33), (0, 39, 49)] [4, 10, 11] [(0, 30, 30)]) σ0 σ) : zpc (fX12_set_104 σ s0 s1) (fun r => (zQ [3, 5, 6, 7, 8, 9, 21, 22, 23, 24, 25, 26] [(0, 0, 0), (0, 31, 33), (0, 39, 49)] [4, 10, 11] [(0, 30, 30)]) σ0 (r)) := by
  unfold fX12_set_104
  exact zpc_ck (zpc_bs (zQ.wi h rfl) (fun σ2 hσ2 => fV_fX12_set_105 hσ2))
theorem fV_fX12_set_18 {σ0 : zSt} {σ : zSt} {x1 : Int32} {x2 : Int32} {s0 : Int32} (h : (zQ [3, 5, 6, 7, 8, 9, 21, 22, 23, 24, 25, 26] [(0, 0, 0), (0, 31, 33), (0, 39, 49)] [4, 10, 11] [(0, 30, 30)]) σ0 σ) : zpc (fX12_set_18 σ x1 x2 s0) (fun r => (zQ [3, 5, 6, 7, 8, 9, 21, 22, 23, 24, 25, 26] [(0, 0, 0), (0, 31, 33), (0, 39, 49)] [4, 10, 11] [(0, 30, 30)]) σ0 (r)) := by
  unfold fX12_set_18
  exact zpc_bi (fV_fX12_fails h) (fun σ3 v4 hσ3 => zpc_if (fun _ => zpc_if (fun _ => zpc_if (fun _ => fV_fX12_set_51 hσ3) (fun _ => fV_fX12_set_51 hσ3)) (fun _ => zpc_if (fun _ => zpc_if (fun _ => zpc_if (fun _ => fV_fX12_set_104 hσ3) (fun _ => fV_fX12_set_104 hσ3)) (fun _ => fV_fX12_set_104 hσ3)) (fun _ => fV_fX12_set_104 hσ3))) (fun _ => zpc_some hσ3))
theorem fV_fX12_set {σ0 : zSt} {σ : zSt} {x1 : Int32} {x2 : Int32} (h : (zQ [3, 5, 6, 7, 8, 9, 21, 22, 23, 24, 25, 26] [(0, 0, 0), (0, 31, 33), (0, 39, 49)] [4, 10, 11] [(0, 30, 30)]) σ0 σ) : zpc (fX12_set σ x1 x2) (fun r => (zQ [3, 5, 6, 7, 8, 9, 21, 22, 23, 24, 25, 26] [(0, 0, 0), (0, 31, 33), (0, 39, 49)] [4, 10, 11] [(0, 30, 30)]) σ0 (r)) := by
  unfold fX12_set
  exact zpc_bi (fV_fX12_within h) (fun σ5 v6 hσ5 => zpc_if (fun _ => fV_fX12_set_18 hσ5) (fun _ => fV_fX12_set_18 hσ5))
theorem fV_fX12_peek {σ0 : zSt} {σ : zSt} {x1 : Int32} (h : (zQ [3, 5, 6, 7, 8, 9, 21, 22, 23, 24, 25, 26] [(0, 0, 0), (0, 31, 33), (0, 39, 49)] [4, 10, 11] [(0, 30, 30)]) σ0 σ) : zpc (fX12_peek σ x1) (fun r => (zQ [3, 5, 6, 7, 8, 9, 21, 22, 23, 24, 25, 26] [(0, 0, 0), (0, 31, 33), (0, 39, 49)] [4, 10, 11] [(0, 30, 30)]) σ0 (r.1)) := by
  unfold fX12_peek
  exact zpc_bs (zQ.wi h rfl) (fun σ1 hσ1 => zpc_bi (fV_fX12_read hσ1) (fun σ2 v3 hσ2 => zpc_some hσ2))
theorem fV_fX12_poke {σ0 : zSt} {σ : zSt} {x1 : Int32} {x2 : Int32} (h : (zQ [3, 5, 6, 7, 8, 9, 21, 22, 23, 24, 25, 26] [(0, 0, 0), (0, 31, 33), (0, 39, 49)] [4, 10, 11] [(0, 30, 30)]) σ0 σ) : zpc (fX12_poke σ x1 x2) (fun r => (zQ [3, 5, 6, 7, 8, 9, 21, 22, 23, 24, 25, 26] [(0, 0, 0), (0, 31, 33), (0, 39, 49)] [4, 10, 11] [(0, 30, 30)]) σ0 (r)) := by
  unfold fX12_poke
  exact zpc_bs (zQ.wi h rfl) (fun σ1 hσ1 => zpc_bu (fV_fX12_write hσ1) (fun σ2 hσ2 => zpc_some hσ2))
theorem fV_fX12_in {σ0 : zSt} {σ : zSt} {x1 : Int32} (h : (zQ [3, 5, 6, 7, 8, 9, 21, 22, 23, 24, 25, 26] [(0, 0, 0), (0, 31, 33), (0, 39, 49)] [4, 10, 11] [(0, 30, 30)]) σ0 σ) : zpc (fX12_in σ x1) (fun r => (zQ [3, 5, 6, 7, 8, 9, 21, 22, 23, 24, 25, 26] [(0, 0, 0), (0, 31, 33), (0, 39, 49)] [4, 10, 11] [(0, 30, 30)]) σ0 (r.1)) := by
  unfold fX12_in
  exact zpc_bs (zQ.wi h rfl) (fun σ1 hσ1 => zpc_bi (fV_fX12_port hσ1) (fun σ2 v3 hσ2 => zpc_some hσ2))
theorem fV_fX12_out {σ0 : zSt} {σ : zSt} {x1 : Int32} {x2 : Int32} (h : (zQ [3, 5, 6, 7, 8, 9, 21, 22, 23, 24, 25, 26] [(0, 0, 0), (0, 31, 33), (0, 39, 49)] [4, 10, 11] [(0, 30, 30)]) σ0 σ) : zpc (fX12_out σ x1 x2) (fun r => (zQ [3, 5, 6, 7, 8, 9, 21, 22, 23, 24, 25, 26] [(0, 0, 0), (0, 31, 33), (0, 39, 49)] [4, 10, 11] [(0, 30, 30)]) σ0 (r)) := by
  unfold fX12_out
  exact zpc_bs (zQ.wi h rfl) (fun σ1 hσ1 => zpc_bu (fV_fX12_portTo hσ1) (fun σ2 hσ2 => zpc_some hσ2))
theorem fV_fX12_battery_39 {σ0 : zSt} {σ : zSt} {s0 : Int32} (h : (zQ [3, 5, 6, 7, 8, 9, 21, 22, 23, 24, 25, 26] [(0, 0, 0), (0, 31, 33), (0, 39, 49)] [4, 10, 11] [(0, 30, 30)]) σ0 σ) : zpc (fX12_battery_39 σ s0) (fun r => (zQ [3, 5, 6, 7, 8, 9, 21, 22, 23, 24, 25, 26] [(0, 0, 0), (0, 31, 33), (0, 39, 49)] [4, 10, 11] [(0, 30, 30)]) σ0 (r.1)) := by
  unfold fX12_battery_39
  exact zpc_some h
theorem fV_fX12_battery_18 {σ0 : zSt} {σ : zSt} {x1 : Int32} {s0 : Int32} (h : (zQ [3, 5, 6, 7, 8, 9, 21, 22, 23, 24, 25, 26] [(0, 0, 0), (0, 31, 33), (0, 39, 49)] [4, 10, 11] [(0, 30, 30)]) σ0 σ) : zpc (fX12_battery_18 σ x1 s0) (fun r => (zQ [3, 5, 6, 7, 8, 9, 21, 22, 23, 24, 25, 26] [(0, 0, 0), (0, 31, 33), (0, 39, 49)] [4, 10, 11] [(0, 30, 30)]) σ0 (r.1)) := by
  unfold fX12_battery_18
  exact zpc_bi (fV_fX12_fails h) (fun σ1 v2 hσ1 => zpc_if (fun _ => zpc_ck (fV_fX12_battery_39 hσ1)) (fun _ => fV_fX12_battery_39 hσ1))
theorem fV_fX12_battery {σ0 : zSt} {σ : zSt} {x1 : Int32} (h : (zQ [3, 5, 6, 7, 8, 9, 21, 22, 23, 24, 25, 26] [(0, 0, 0), (0, 31, 33), (0, 39, 49)] [4, 10, 11] [(0, 30, 30)]) σ0 σ) : zpc (fX12_battery σ x1) (fun r => (zQ [3, 5, 6, 7, 8, 9, 21, 22, 23, 24, 25, 26] [(0, 0, 0), (0, 31, 33), (0, 39, 49)] [4, 10, 11] [(0, 30, 30)]) σ0 (r.1)) := by
  unfold fX12_battery
  exact zpc_bi (fV_fX12_within h) (fun σ3 v4 hσ3 => zpc_if (fun _ => fV_fX12_battery_18 hσ3) (fun _ => fV_fX12_battery_18 hσ3))
theorem fV_fX12_wipe_7_body {σ0 : zSt} {k7 : zSt → Int32 → Option (zSt)} (hk7 : ∀ (y0 : zSt) (y1 : Int32), (zQ [3, 5, 6, 7, 8, 9, 21, 22, 23, 24, 25, 26] [(0, 0, 0), (0, 31, 33), (0, 39, 49)] [4, 10, 11] [(0, 30, 30)]) σ0 y0 → zpc (k7 y0 y1) (fun r => (zQ [3, 5, 6, 7, 8, 9, 21, 22, 23, 24, 25, 26] [(0, 0, 0), (0, 31, 33), (0, 39, 49)] [4, 10, 11] [(0, 30, 30)]) σ0 (r))) {σ : zSt} {x1 : Int32} (h : (zQ [3, 5, 6, 7, 8, 9, 21, 22, 23, 24, 25, 26] [(0, 0, 0), (0, 31, 33), (0, 39, 49)] [4, 10, 11] [(0, 30, 30)]) σ0 σ) : zpc (fX12_wipe_7_body k7 σ x1) (fun r => (zQ [3, 5, 6, 7, 8, 9, 21, 22, 23, 24, 25, 26] [(0, 0, 0), (0, 31, 33), (0, 39, 49)] [4, 10, 11] [(0, 30, 30)]) σ0 (r)) := by
  unfold fX12_wipe_7_body
  exact zpc_if (fun _ => zpc_some h) (fun _ => zpc_ck (zpc_bs (zQ.wi h rfl) (fun σ1 hσ1 => zpc_bv (fun v2 _ => hk7 _ _ hσ1))))
theorem fV_fX12_wipe_7 {σ0 : zSt} : ∀ (n : Nat) (y0 : zSt) (y1 : Int32), (zQ [3, 5, 6, 7, 8, 9, 21, 22, 23, 24, 25, 26] [(0, 0, 0), (0, 31, 33), (0, 39, 49)] [4, 10, 11] [(0, 30, 30)]) σ0 y0 → zpc (fX12_wipe_7 n y0 y1) (fun r => (zQ [3, 5, 6, 7, 8, 9, 21, 22, 23, 24, 25, 26] [(0, 0, 0), (0, 31, 33), (0, 39, 49)] [4, 10, 11] [(0, 30, 30)]) σ0 (r)) := by
  intro n
  induction n with
  | zero => intro y0 y1 h; exact zpc_none
  | succ n ih => intro y0 y1 h; exact fV_fX12_wipe_7_body ih h
theorem fV_fX12_wipe {σ0 : zSt} {σ : zSt} (h : (zQ [3, 5, 6, 7, 8, 9, 21, 22, 23, 24, 25, 26] [(0, 0, 0), (0, 31, 33), (0, 39, 49)] [4, 10, 11] [(0, 30, 30)]) σ0 σ) : zpc (fX12_wipe σ) (fun r => (zQ [3, 5, 6, 7, 8, 9, 21, 22, 23, 24, 25, 26] [(0, 0, 0), (0, 31, 33), (0, 39, 49)] [4, 10, 11] [(0, 30, 30)]) σ0 (r)) := by
  unfold fX12_wipe
  exact zpc_bs (zQ.wi h rfl) (fun σ3 hσ3 => fV_fX12_wipe_7 _ _ _ hσ3)
theorem fV_fX12_video_11_body {σ0 : zSt} {k11 : zSt → Int32 → Int64 → Int32 → Option (zSt × Int64)} (hk11 : ∀ (y0 : zSt) (y1 : Int32) (y2 : Int64) (y3 : Int32), (zQ [3, 5, 6, 7, 8, 9, 21, 22, 23, 24, 25, 26] [(0, 0, 0), (0, 31, 33), (0, 39, 49)] [4, 10, 11] [(0, 30, 30)]) σ0 y0 → zpc (k11 y0 y1 y2 y3) (fun r => (zQ [3, 5, 6, 7, 8, 9, 21, 22, 23, 24, 25, 26] [(0, 0, 0), (0, 31, 33), (0, 39, 49)] [4, 10, 11] [(0, 30, 30)]) σ0 (r.1))) {σ : zSt} {x1 : Int32} {x2 : Int64} {x4 : Int32} (h : (zQ [3, 5, 6, 7, 8, 9, 21, 22, 23, 24, 25, 26] [(0, 0, 0), (0, 31, 33), (0, 39, 49)] [4, 10, 11] [(0, 30, 30)]) σ0 σ) : zpc (fX12_video_11_body k11 σ x1 x2 x4) (fun r => (zQ [3, 5, 6, 7, 8, 9, 21, 22, 23, 24, 25, 26] [(0, 0, 0), (0, 31, 33), (0, 39, 49)] [4, 10, 11] [(0, 30, 30)]) σ0 (r.1)) := by
  unfold fX12_video_11_body
  exact zpc_if (fun _ => zpc_some h) (fun _ => zpc_bi (fV_fX12_video8 h) (fun σ1 v2 hσ1 => zpc_bv (fun v3 _ => zpc_bv (fun v4 _ => hk11 _ _ _ _ hσ1))))
theorem fV_fX12_video_11 {σ0 : zSt} : ∀ (n : Nat) (y0 : zSt) (y1 : Int32) (y2 : Int64) (y3 : Int32), (zQ [3, 5, 6, 7, 8, 9, 21, 22, 23, 24, 25, 26] [(0, 0, 0), (0, 31, 33), (0, 39, 49)] [4, 10, 11] [(0, 30, 30)]) σ0 y0 → zpc (fX12_video_11 n y0 y1 y2 y3) (fun r => (zQ [3, 5, 6, 7, 8, 9, 21, 22, 23, 24, 25, 26] [(0, 0, 0), (0, 31, 33), (0, 39, 49)] [4, 10, 11] [(0, 30, 30)]) σ0 (r.1)) := by
  intro n
  induction n with
  | zero => intro y0 y1 y2 y3 h; exact zpc_none
  | succ n ih => intro y0 y1 y2 y3 h; exact fV_fX12_video_11_body ih h
theorem fV_fX12_video {σ0 : zSt} {σ : zSt} {x1 : Int32} (h : (zQ [3, 5, 6, 7, 8, 9, 21, 22, 23, 24, 25, 26] [(0, 0, 0), (0, 31, 33), (0, 39, 49)] [4, 10, 11] [(0, 30, 30)]) σ0 σ) : zpc (fX12_video σ x1) (fun r => (zQ [3, 5, 6, 7, 8, 9, 21, 22, 23, 24, 25, 26] [(0, 0, 0), (0, 31, 33), (0, 39, 49)] [4, 10, 11] [(0, 30, 30)]) σ0 (r.1)) := by
  unfold fX12_video
  exact zpc_bs (zQ.wi h rfl) (fun σ5 hσ5 => fV_fX12_video_11 _ _ _ _ _ hσ5)
theorem fV_fX12_chip_136 {σ0 : zSt} {σ : zSt} {s0 : Int32} (h : (zQ [3, 5, 6, 7, 8, 9, 21, 22, 23, 24, 25, 26] [(0, 0, 0), (0, 31, 33), (0, 39, 49)] [4, 10, 11] [(0, 30, 30)]) σ0 σ) : zpc (fX12_chip_136 σ s0) (fun r => (zQ [3, 5, 6, 7, 8, 9, 21, 22, 23, 24, 25, 26] [(0, 0, 0), (0, 31, 33), (0, 39, 49)] [4, 10, 11] [(0, 30, 30)]) σ0 (r.1)) := by
  unfold fX12_chip_136
  exact zpc_some h
theorem fV_fX12_chip_32 {σ0 : zSt} {σ : zSt} {x1 : Int32} {s0 : Int32} (h : (zQ [3, 5, 6, 7, 8, 9, 21, 22, 23, 24, 25, 26] [(0, 0, 0), (0, 31, 33), (0, 39, 49)] [4, 10, 11] [(0, 30, 30)]) σ0 σ) : zpc (fX12_chip_32 σ x1 s0) (fun r => (zQ [3, 5, 6, 7, 8, 9, 21, 22, 23, 24, 25, 26] [(0, 0, 0), (0, 31, 33), (0, 39, 49)] [4, 10, 11] [(0, 30, 30)]) σ0 (r.1)) := by
  unfold fX12_chip_32
  exact zpc_bi (fV_fX12_fails h) (fun σ1 v2 hσ1 => zpc_if (fun _ => zpc_if (fun _ => zpc_if (fun _ => zpc_if (fun _ => zpc_bi (fV_fX12_asks hσ1) (fun σ3 v4 hσ3 => zpc_if (fun _ => fV_fX12_chip_136 hσ3) (fun _ => fV_fX12_chip_136 hσ3))) (fun _ => zpc_if (fun _ => zpc_ck (zpc_some hσ1)) (fun _ => zpc_if (fun _ => zpc_ck (zpc_some hσ1)) (fun _ => zpc_if (fun _ => zpc_ck (zpc_some hσ1)) (fun _ => zpc_if (fun _ => zpc_ck (zpc_some hσ1)) (fun _ => zpc_if (fun _ => zpc_bi (fV_fX12_mode hσ1) (fun σ5 v6 hσ5 => zpc_some hσ5)) (fun _ => zpc_if (fun _ => zpc_bi (fV_fX12_height hσ1) (fun σ7 v8 hσ7 => zpc_some hσ7)) (fun _ => zpc_if (fun _ => zpc_bi (fV_fX12_hCount hσ1) (fun σ9 v10 hσ9 => zpc_some hσ9)) (fun _ => zpc_bi (fV_fX12_vCount hσ1) (fun σ11 v12 hσ11 => zpc_some hσ11)))))))))) (fun _ => zpc_ck (zpc_some hσ1))) (fun _ => zpc_ck (zpc_some hσ1))) (fun _ => zpc_some hσ1))
theorem fV_fX12_chip_31 {σ0 : zSt} {σ : zSt} {x1 : Int32} (h : (zQ [3, 5, 6, 7, 8, 9, 21, 22, 23, 24, 25, 26] [(0, 0, 0), (0, 31, 33), (0, 39, 49)] [4, 10, 11] [(0, 30, 30)]) σ0 σ) : zpc (fX12_chip_31 σ x1) (fun r => (zQ [3, 5, 6, 7, 8, 9, 21, 22, 23, 24, 25, 26] [(0, 0, 0), (0, 31, 33), (0, 39, 49)] [4, 10, 11] [(0, 30, 30)]) σ0 (r.1)) := by
  unfold fX12_chip_31
  exact fV_fX12_chip_32 h
theorem fV_fX12_chip {σ0 : zSt} {σ : zSt} {x1 : Int32} (h : (zQ [3, 5, 6, 7, 8, 9, 21, 22, 23, 24, 25, 26] [(0, 0, 0), (0, 31, 33), (0, 39, 49)] [4, 10, 11] [(0, 30, 30)]) σ0 σ) : zpc (fX12_chip σ x1) (fun r => (zQ [3, 5, 6, 7, 8, 9, 21, 22, 23, 24, 25, 26] [(0, 0, 0), (0, 31, 33), (0, 39, 49)] [4, 10, 11] [(0, 30, 30)]) σ0 (r.1)) := by
  unfold fX12_chip
  exact zpc_bi (fV_fX12_within h) (fun σ13 v14 hσ13 => zpc_if (fun _ => zpc_bi (fV_fX12_within hσ13) (fun σ15 v16 hσ15 => zpc_if (fun _ => fV_fX12_chip_32 hσ15) (fun _ => fV_fX12_chip_31 hσ15))) (fun _ => fV_fX12_chip_31 hσ13))
theorem fV_fX12_trace_50 {σ0 : zSt} {σ : zSt} {s0 : Int32} (h : (zQ [3, 5, 6, 7, 8, 9, 21, 22, 23, 24, 25, 26] [(0, 0, 0), (0, 31, 33), (0, 39, 49)] [4, 10, 11] [(0, 30, 30)]) σ0 σ) : zpc (fX12_trace_50 σ s0) (fun r => (zQ [3, 5, 6, 7, 8, 9, 21, 22, 23, 24, 25, 26] [(0, 0, 0), (0, 31, 33), (0, 39, 49)] [4, 10, 11] [(0, 30, 30)]) σ0 (r.1)) := by
  unfold fX12_trace_50
  exact zpc_some h
theorem fV_fX12_trace_27 {σ0 : zSt} {σ : zSt} (h : (zQ [3, 5, 6, 7, 8, 9, 21, 22, 23, 24, 25, 26] [(0, 0, 0), (0, 31, 33), (0, 39, 49)] [4, 10, 11] [(0, 30, 30)]) σ0 σ) : zpc (fX12_trace_27 σ) (fun r => (zQ [3, 5, 6, 7, 8, 9, 21, 22, 23, 24, 25, 26] [(0, 0, 0), (0, 31, 33), (0, 39, 49)] [4, 10, 11] [(0, 30, 30)]) σ0 (r.1)) := by
  unfold fX12_trace_27
  exact fV_fX12_trace_50 h
theorem fV_fX12_trace {σ0 : zSt} {σ : zSt} {x1 : Int32} (h : (zQ [3, 5, 6, 7, 8, 9, 21, 22, 23, 24, 25, 26] [(0, 0, 0), (0, 31, 33), (0, 39, 49)] [4, 10, 11] [(0, 30, 30)]) σ0 σ) : zpc (fX12_trace σ x1) (fun r => (zQ [3, 5, 6, 7, 8, 9, 21, 22, 23, 24, 25, 26] [(0, 0, 0), (0, 31, 33), (0, 39, 49)] [4, 10, 11] [(0, 30, 30)]) σ0 (r.1)) := by
  unfold fX12_trace
  exact zpc_bs (zQ.wi h rfl) (fun σ1 hσ1 => zpc_bi (fV_fX12_within hσ1) (fun σ2 v3 hσ2 => zpc_if (fun _ => fV_fX12_trace_27 hσ2) (fun _ => zpc_if (fun _ => zpc_ck (zpc_ck (fV_fX12_trace_50 hσ2))) (fun _ => fV_fX12_trace_27 hσ2))))
theorem fV_fX12_look_116 {σ0 : zSt} {σ : zSt} {x1 : Int32} (h : (zQ [3, 5, 6, 7, 8, 9, 21, 22, 23, 24, 25, 26] [(0, 0, 0), (0, 31, 33), (0, 39, 49)] [4, 10, 11] [(0, 30, 30)]) σ0 σ) : zpc (fX12_look_116 σ x1) (fun r => (zQ [3, 5, 6, 7, 8, 9, 21, 22, 23, 24, 25, 26] [(0, 0, 0), (0, 31, 33), (0, 39, 49)] [4, 10, 11] [(0, 30, 30)]) σ0 (r.1)) := by
  unfold fX12_look_116
  exact zpc_ck (zpc_some h)
theorem fV_fX12_look_169 {σ0 : zSt} {σ : zSt} {x1 : Int32} (h : (zQ [3, 5, 6, 7, 8, 9, 21, 22, 23, 24, 25, 26] [(0, 0, 0), (0, 31, 33), (0, 39, 49)] [4, 10, 11] [(0, 30, 30)]) σ0 σ) : zpc (fX12_look_169 σ x1) (fun r => (zQ [3, 5, 6, 7, 8, 9, 21, 22, 23, 24, 25, 26] [(0, 0, 0), (0, 31, 33), (0, 39, 49)] [4, 10, 11] [(0, 30, 30)]) σ0 (r.1)) := by
  unfold fX12_look_169
  exact zpc_ck (zpc_some h)
theorem fV_fX12_look_222 {σ0 : zSt} {σ : zSt} {s0 : Int64} (h : (zQ [3, 5, 6, 7, 8, 9, 21, 22, 23, 24, 25, 26] [(0, 0, 0), (0, 31, 33), (0, 39, 49)] [4, 10, 11] [(0, 30, 30)]) σ0 σ) : zpc (fX12_look_222 σ s0) (fun r => (zQ [3, 5, 6, 7, 8, 9, 21, 22, 23, 24, 25, 26] [(0, 0, 0), (0, 31, 33), (0, 39, 49)] [4, 10, 11] [(0, 30, 30)]) σ0 (r.1)) := by
  unfold fX12_look_222
  exact zpc_some h
theorem fV_fX12_look_18 {σ0 : zSt} {σ : zSt} {x1 : Int32} {s0 : Int32} (h : (zQ [3, 5, 6, 7, 8, 9, 21, 22, 23, 24, 25, 26] [(0, 0, 0), (0, 31, 33), (0, 39, 49)] [4, 10, 11] [(0, 30, 30)]) σ0 σ) : zpc (fX12_look_18 σ x1 s0) (fun r => (zQ [3, 5, 6, 7, 8, 9, 21, 22, 23, 24, 25, 26] [(0, 0, 0), (0, 31, 33), (0, 39, 49)] [4, 10, 11] [(0, 30, 30)]) σ0 (r.1)) := by
  unfold fX12_look_18
  exact zpc_bi (fV_fX12_fails h) (fun σ1 v2 hσ1 => zpc_if (fun _ => zpc_if (fun _ => fV_fX12_look_116 hσ1) (fun _ => zpc_if (fun _ => fV_fX12_look_116 hσ1) (fun _ => zpc_if (fun _ => fV_fX12_look_116 hσ1) (fun _ => zpc_if (fun _ => zpc_ck (zpc_some hσ1)) (fun _ => zpc_if (fun _ => zpc_ck (zpc_some hσ1)) (fun _ => zpc_if (fun _ => zpc_some hσ1) (fun _ => zpc_if (fun _ => zpc_ck (zpc_some hσ1)) (fun _ => zpc_if (fun _ => zpc_some hσ1) (fun _ => zpc_if (fun _ => zpc_ck (zpc_some hσ1)) (fun _ => zpc_if (fun _ => fV_fX12_look_169 hσ1) (fun _ => zpc_if (fun _ => fV_fX12_look_169 hσ1) (fun _ => zpc_if (fun _ => fV_fX12_look_169 hσ1) (fun _ => zpc_if (fun _ => zpc_ck (zpc_some hσ1)) (fun _ => zpc_if (fun _ => zpc_ck (zpc_some hσ1)) (fun _ => zpc_if (fun _ => zpc_ck (zpc_some hσ1)) (fun _ => zpc_if (fun _ => zpc_if (fun _ => fV_fX12_look_222 hσ1) (fun _ => fV_fX12_look_222 hσ1)) (fun _ => zpc_if (fun _ => zpc_ck (zpc_some hσ1)) (fun _ => zpc_if (fun _ => zpc_ck (zpc_some hσ1)) (fun _ => zpc_some hσ1))))))))))))))))))) (fun _ => zpc_some hσ1))
theorem fV_fX12_look {σ0 : zSt} {σ : zSt} {x1 : Int32} (h : (zQ [3, 5, 6, 7, 8, 9, 21, 22, 23, 24, 25, 26] [(0, 0, 0), (0, 31, 33), (0, 39, 49)] [4, 10, 11] [(0, 30, 30)]) σ0 σ) : zpc (fX12_look σ x1) (fun r => (zQ [3, 5, 6, 7, 8, 9, 21, 22, 23, 24, 25, 26] [(0, 0, 0), (0, 31, 33), (0, 39, 49)] [4, 10, 11] [(0, 30, 30)]) σ0 (r.1)) := by
  unfold fX12_look
  exact zpc_bi (fV_fX12_within h) (fun σ3 v4 hσ3 => zpc_if (fun _ => fV_fX12_look_18 hσ3) (fun _ => fV_fX12_look_18 hσ3))
theorem fV_fX12_mix_17 {σ0 : zSt} {σ : zSt} {s0 : Int32} (h : (zQ [3, 5, 6, 7, 8, 9, 21, 22, 23, 24, 25, 26] [(0, 0, 0), (0, 31, 33), (0, 39, 49)] [4, 10, 11] [(0, 30, 30)]) σ0 σ) : zpc (fX12_mix_17 σ s0) (fun r => (zQ [3, 5, 6, 7, 8, 9, 21, 22, 23, 24, 25, 26] [(0, 0, 0), (0, 31, 33), (0, 39, 49)] [4, 10, 11] [(0, 30, 30)]) σ0 (r.1)) := by
  unfold fX12_mix_17
  exact zpc_bi (fV_fX12_fails h) (fun σ1 v2 hσ1 => zpc_if (fun _ => zpc_ck (zpc_ck (zpc_bv (fun v3 _ => zpc_ck (zpc_ck (zpc_ck (zpc_bs (zQ.wi hσ1 rfl) (fun σ4 hσ4 => zpc_ck (zpc_ck (zpc_bs (zQ.wi hσ4 rfl) (fun σ5 hσ5 => zpc_some hσ5))))))))))) (fun _ => zpc_some hσ1))
theorem fV_fX12_mix {σ0 : zSt} {σ : zSt} (h : (zQ [3, 5, 6, 7, 8, 9, 21, 22, 23, 24, 25, 26] [(0, 0, 0), (0, 31, 33), (0, 39, 49)] [4, 10, 11] [(0, 30, 30)]) σ0 σ) : zpc (fX12_mix σ) (fun r => (zQ [3, 5, 6, 7, 8, 9, 21, 22, 23, 24, 25, 26] [(0, 0, 0), (0, 31, 33), (0, 39, 49)] [4, 10, 11] [(0, 30, 30)]) σ0 (r.1)) := by
  unfold fX12_mix
  exact zpc_ck (zpc_if (fun _ => fV_fX12_mix_17 h) (fun _ => fV_fX12_mix_17 h))
theorem fV_fX12_wave_41 {σ0 : zSt} {σ : zSt} {x1 : Int32} {s0 : Int32} (h : (zQ [3, 5, 6, 7, 8, 9, 21, 22, 23, 24, 25, 26] [(0, 0, 0), (0, 31, 33), (0, 39, 49)] [4, 10, 11] [(0, 30, 30)]) σ0 σ) : zpc (fX12_wave_41 σ x1 s0) (fun r => (zQ [3, 5, 6, 7, 8, 9, 21, 22, 23, 24, 25, 26] [(0, 0, 0), (0, 31, 33), (0, 39, 49)] [4, 10, 11] [(0, 30, 30)]) σ0 (r.1)) := by
  unfold fX12_wave_41
  exact zpc_bi (fV_fX12_fails h) (fun σ1 v2 hσ1 => zpc_if (fun _ => zpc_if (fun _ => zpc_if (fun _ => zpc_ck (zpc_some hσ1)) (fun _ => zpc_if (fun _ => zpc_ck (zpc_some hσ1)) (fun _ => zpc_if (fun _ => zpc_ck (zpc_ck (zpc_some hσ1))) (fun _ => zpc_if (fun _ => zpc_ck (zpc_some hσ1)) (fun _ => zpc_ck (zpc_ck (zpc_ck (zpc_some hσ1)))))))) (fun _ => zpc_bi (fV_fX12_wreg hσ1) (fun σ3 v4 hσ3 => zpc_some hσ3))) (fun _ => zpc_some hσ1))
theorem fV_fX12_wave_40 {σ0 : zSt} {σ : zSt} {x1 : Int32} (h : (zQ [3, 5, 6, 7, 8, 9, 21, 22, 23, 24, 25, 26] [(0, 0, 0), (0, 31, 33), (0, 39, 49)] [4, 10, 11] [(0, 30, 30)]) σ0 σ) : zpc (fX12_wave_40 σ x1) (fun r => (zQ [3, 5, 6, 7, 8, 9, 21, 22, 23, 24, 25, 26] [(0, 0, 0), (0, 31, 33), (0, 39, 49)] [4, 10, 11] [(0, 30, 30)]) σ0 (r.1)) := by
  unfold fX12_wave_40
  exact fV_fX12_wave_41 h
theorem fV_fX12_wave_36 {σ0 : zSt} {σ : zSt} {x1 : Int32} (h : (zQ [3, 5, 6, 7, 8, 9, 21, 22, 23, 24, 25, 26] [(0, 0, 0), (0, 31, 33), (0, 39, 49)] [4, 10, 11] [(0, 30, 30)]) σ0 σ) : zpc (fX12_wave_36 σ x1) (fun r => (zQ [3, 5, 6, 7, 8, 9, 21, 22, 23, 24, 25, 26] [(0, 0, 0), (0, 31, 33), (0, 39, 49)] [4, 10, 11] [(0, 30, 30)]) σ0 (r.1)) := by
  unfold fX12_wave_36
  exact fV_fX12_wave_41 h
theorem fV_fX12_wave {σ0 : zSt} {σ : zSt} {x1 : Int32} (h : (zQ [3, 5, 6, 7, 8, 9, 21, 22, 23, 24, 25, 26] [(0, 0, 0), (0, 31, 33), (0, 39, 49)] [4, 10, 11] [(0, 30, 30)]) σ0 σ) : zpc (fX12_wave σ x1) (fun r => (zQ [3, 5, 6, 7, 8, 9, 21, 22, 23, 24, 25, 26] [(0, 0, 0), (0, 31, 33), (0, 39, 49)] [4, 10, 11] [(0, 30, 30)]) σ0 (r.1)) := by
  unfold fX12_wave
  exact zpc_bi (fV_fX12_within h) (fun σ5 v6 hσ5 => zpc_if (fun _ => zpc_bi (fV_fX12_within hσ5) (fun σ7 v8 hσ7 => zpc_if (fun _ => fV_fX12_wave_36 hσ7) (fun _ => zpc_ck (zpc_if (fun _ => fV_fX12_wave_40 hσ7) (fun _ => fV_fX12_wave_36 hσ7))))) (fun _ => fV_fX12_wave_40 hσ5))
theorem fV_fX12_plan_110 {σ0 : zSt} {σ : zSt} (h : (zQ [3, 5, 6, 7, 8, 9, 21, 22, 23, 24, 25, 26] [(0, 0, 0), (0, 31, 33), (0, 39, 49)] [4, 10, 11] [(0, 30, 30)]) σ0 σ) : zpc (fX12_plan_110 σ) (fun r => (zQ [3, 5, 6, 7, 8, 9, 21, 22, 23, 24, 25, 26] [(0, 0, 0), (0, 31, 33), (0, 39, 49)] [4, 10, 11] [(0, 30, 30)]) σ0 (r.1)) := by
  unfold fX12_plan_110
  exact zpc_some h
theorem fV_fX12_plan_103 {σ0 : zSt} {σ : zSt} {x1 : Int32} {x2 : Int32} {x3 : Int32} {s0 : Int32} (h : (zQ [3, 5, 6, 7, 8, 9, 21, 22, 23, 24, 25, 26] [(0, 0, 0), (0, 31, 33), (0, 39, 49)] [4, 10, 11] [(0, 30, 30)]) σ0 σ) : zpc (fX12_plan_103 σ x1 x2 x3 s0) (fun r => (zQ [3, 5, 6, 7, 8, 9, 21, 22, 23, 24, 25, 26] [(0, 0, 0), (0, 31, 33), (0, 39, 49)] [4, 10, 11] [(0, 30, 30)]) σ0 (r.1)) := by
  unfold fX12_plan_103
  exact zpc_bi (fV_fX12_fails h) (fun σ1 v2 hσ1 => zpc_if (fun _ => zpc_ck (zpc_bv (fun v3 _ => zpc_ck (zpc_bs (zQ.wi hσ1 rfl) (fun σ4 hσ4 => zpc_ck (zpc_bs (zQ.wi hσ4 rfl) (fun σ5 hσ5 => zpc_ck (zpc_bs (zQ.wi hσ5 rfl) (fun σ6 hσ6 => zpc_ck (zpc_ck (zpc_bs (zQ.wi hσ6 rfl) (fun σ7 hσ7 => zpc_ck (zpc_some hσ7))))))))))))) (fun _ => fV_fX12_plan_110 hσ1))
theorem fV_fX12_plan_76 {σ0 : zSt} {σ : zSt} {x1 : Int32} {x2 : Int32} {x3 : Int32} {s0 : Int32} (h : (zQ [3, 5, 6, 7, 8, 9, 21, 22, 23, 24, 25, 26] [(0, 0, 0), (0, 31, 33), (0, 39, 49)] [4, 10, 11] [(0, 30, 30)]) σ0 σ) : zpc (fX12_plan_76 σ x1 x2 x3 s0) (fun r => (zQ [3, 5, 6, 7, 8, 9, 21, 22, 23, 24, 25, 26] [(0, 0, 0), (0, 31, 33), (0, 39, 49)] [4, 10, 11] [(0, 30, 30)]) σ0 (r.1)) := by
  unfold fX12_plan_76
  exact zpc_bi (fV_fX12_fails h) (fun σ8 v9 hσ8 => zpc_if (fun _ => zpc_ck (zpc_if (fun _ => fV_fX12_plan_103 hσ8) (fun _ => fV_fX12_plan_103 hσ8))) (fun _ => fV_fX12_plan_110 hσ8))
theorem fV_fX12_plan_71 {σ0 : zSt} {σ : zSt} {x1 : Int32} {x2 : Int32} {x3 : Int32} (h : (zQ [3, 5, 6, 7, 8, 9, 21, 22, 23, 24, 25, 26] [(0, 0, 0), (0, 31, 33), (0, 39, 49)] [4, 10, 11] [(0, 30, 30)]) σ0 σ) : zpc (fX12_plan_71 σ x1 x2 x3) (fun r => (zQ [3, 5, 6, 7, 8, 9, 21, 22, 23, 24, 25, 26] [(0, 0, 0), (0, 31, 33), (0, 39, 49)] [4, 10, 11] [(0, 30, 30)]) σ0 (r.1)) := by
  unfold fX12_plan_71
  exact fV_fX12_plan_76 h
theorem fV_fX12_plan_36 {σ0 : zSt} {σ : zSt} {x1 : Int32} {x2 : Int32} {x3 : Int32} {s0 : Int32} (h : (zQ [3, 5, 6, 7, 8, 9, 21, 22, 23, 24, 25, 26] [(0, 0, 0), (0, 31, 33), (0, 39, 49)] [4, 10, 11] [(0, 30, 30)]) σ0 σ) : zpc (fX12_plan_36 σ x1 x2 x3 s0) (fun r => (zQ [3, 5, 6, 7, 8, 9, 21, 22, 23, 24, 25, 26] [(0, 0, 0), (0, 31, 33), (0, 39, 49)] [4, 10, 11] [(0, 30, 30)]) σ0 (r.1)) := by
  unfold fX12_plan_36
  exact zpc_if (fun _ => fV_fX12_plan_71 h) (fun _ => zpc_if (fun _ => fV_fX12_plan_71 h) (fun _ => zpc_bi (fV_fX12_within h) (fun σ10 v11 hσ10 => zpc_if (fun _ => fV_fX12_plan_71 hσ10) (fun _ => zpc_bi (fV_fX12_within hσ10) (fun σ12 v13 hσ12 => zpc_if (fun _ => fV_fX12_plan_71 hσ12) (fun _ => fV_fX12_plan_76 hσ12))))))
theorem fV_fX12_plan {σ0 : zSt} {σ : zSt} {x1 : Int32} {x2 : Int32} {x3 : Int32} (h : (zQ [3, 5, 6, 7, 8, 9, 21, 22, 23, 24, 25, 26] [(0, 0, 0), (0, 31, 33), (0, 39, 49)] [4, 10, 11] [(0, 30, 30)]) σ0 σ) : zpc (fX12_plan σ x1 x2 x3) (fun r => (zQ [3, 5, 6, 7, 8, 9, 21, 22, 23, 24, 25, 26] [(0, 0, 0), (0, 31, 33), (0, 39, 49)] [4, 10, 11] [(0, 30, 30)]) σ0 (r.1)) := by
  unfold fX12_plan
  exact zpc_ck (zpc_if (fun _ => fV_fX12_plan_36 h) (fun _ => zpc_ck (zpc_ck (fV_fX12_plan_36 h))))
theorem fV_fX12_say_2_body {σ0 : zSt} {k2 : zSt → Nat → Int32 → Option (zSt)} (hk2 : ∀ (y0 : zSt) (y1 : Nat) (y2 : Int32), (zQ [3, 5, 6, 7, 8, 9, 21, 22, 23, 24, 25, 26] [(0, 0, 0), (0, 31, 33), (0, 39, 49)] [4, 10, 11] [(0, 30, 30)]) σ0 y0 → zpc (k2 y0 y1 y2) (fun r => (zQ [3, 5, 6, 7, 8, 9, 21, 22, 23, 24, 25, 26] [(0, 0, 0), (0, 31, 33), (0, 39, 49)] [4, 10, 11] [(0, 30, 30)]) σ0 (r))) {σ : zSt} {n1 : Nat} {x2 : Int32} (h : (zQ [3, 5, 6, 7, 8, 9, 21, 22, 23, 24, 25, 26] [(0, 0, 0), (0, 31, 33), (0, 39, 49)] [4, 10, 11] [(0, 30, 30)]) σ0 σ) : zpc (fX12_say_2_body k2 σ n1 x2) (fun r => (zQ [3, 5, 6, 7, 8, 9, 21, 22, 23, 24, 25, 26] [(0, 0, 0), (0, 31, 33), (0, 39, 49)] [4, 10, 11] [(0, 30, 30)]) σ0 (r)) := by
  unfold fX12_say_2_body
  exact zpc_ck (zpc_if (fun _ => zpc_some h) (fun _ => zpc_ck (zpc_ck (zpc_ck (zpc_bs (zQ.wi h rfl) (fun σ1 hσ1 => zpc_bs (zQ.wi hσ1 rfl) (fun σ2 hσ2 => zpc_bv (fun v3 _ => hk2 _ _ _ hσ2))))))))
theorem fV_fX12_say_2 {σ0 : zSt} : ∀ (n : Nat) (y0 : zSt) (y1 : Nat) (y2 : Int32), (zQ [3, 5, 6, 7, 8, 9, 21, 22, 23, 24, 25, 26] [(0, 0, 0), (0, 31, 33), (0, 39, 49)] [4, 10, 11] [(0, 30, 30)]) σ0 y0 → zpc (fX12_say_2 n y0 y1 y2) (fun r => (zQ [3, 5, 6, 7, 8, 9, 21, 22, 23, 24, 25, 26] [(0, 0, 0), (0, 31, 33), (0, 39, 49)] [4, 10, 11] [(0, 30, 30)]) σ0 (r)) := by
  intro n
  induction n with
  | zero => intro y0 y1 y2 h; exact zpc_none
  | succ n ih => intro y0 y1 y2 h; exact fV_fX12_say_2_body ih h
theorem fV_fX12_say {σ0 : zSt} {σ : zSt} {n1 : Nat} (h : (zQ [3, 5, 6, 7, 8, 9, 21, 22, 23, 24, 25, 26] [(0, 0, 0), (0, 31, 33), (0, 39, 49)] [4, 10, 11] [(0, 30, 30)]) σ0 σ) : zpc (fX12_say σ n1) (fun r => (zQ [3, 5, 6, 7, 8, 9, 21, 22, 23, 24, 25, 26] [(0, 0, 0), (0, 31, 33), (0, 39, 49)] [4, 10, 11] [(0, 30, 30)]) σ0 (r)) := by
  unfold fX12_say
  exact fV_fX12_say_2 _ _ _ _ h
theorem fV_fX12_hex_49 {σ0 : zSt} {k4 : zSt → Int32 → Int32 → Option (zSt)} (hk4 : ∀ (y0 : zSt) (y1 : Int32) (y2 : Int32), (zQ [3, 5, 6, 7, 8, 9, 21, 22, 23, 24, 25, 26] [(0, 0, 0), (0, 31, 33), (0, 39, 49)] [4, 10, 11] [(0, 30, 30)]) σ0 y0 → zpc (k4 y0 y1 y2) (fun r => (zQ [3, 5, 6, 7, 8, 9, 21, 22, 23, 24, 25, 26] [(0, 0, 0), (0, 31, 33), (0, 39, 49)] [4, 10, 11] [(0, 30, 30)]) σ0 (r))) {σ : zSt} {x1 : Int32} {x3 : Int32} {s0 : Int32} {s1 : Int32} (h : (zQ [3, 5, 6, 7, 8, 9, 21, 22, 23, 24, 25, 26] [(0, 0, 0), (0, 31, 33), (0, 39, 49)] [4, 10, 11] [(0, 30, 30)]) σ0 σ) : zpc (fX12_hex_49 k4 σ x1 x3 s0 s1) (fun r => (zQ [3, 5, 6, 7, 8, 9, 21, 22, 23, 24, 25, 26] [(0, 0, 0), (0, 31, 33), (0, 39, 49)] [4, 10, 11] [(0, 30, 30)]) σ0 (r)) := by
  unfold fX12_hex_49
  exact zpc_ck (zpc_bs (zQ.wi h rfl) (fun σ1 hσ1 => zpc_bs (zQ.wi hσ1 rfl) (fun σ2 hσ2 => zpc_bv (fun v3 _ => hk4 _ _ _ hσ2))))
theorem fV_fX12_hex_4_body {σ0 : zSt} {k4 : zSt → Int32 → Int32 → Option (zSt)} (hk4 : ∀ (y0 : zSt) (y1 : Int32) (y2 : Int32), (zQ [3, 5, 6, 7, 8, 9, 21, 22, 23, 24, 25, 26] [(0, 0, 0), (0, 31, 33), (0, 39, 49)] [4, 10, 11] [(0, 30, 30)]) σ0 y0 → zpc (k4 y0 y1 y2) (fun r => (zQ [3, 5, 6, 7, 8, 9, 21, 22, 23, 24, 25, 26] [(0, 0, 0), (0, 31, 33), (0, 39, 49)] [4, 10, 11] [(0, 30, 30)]) σ0 (r))) {σ : zSt} {x1 : Int32} {x3 : Int32} (h : (zQ [3, 5, 6, 7, 8, 9, 21, 22, 23, 24, 25, 26] [(0, 0, 0), (0, 31, 33), (0, 39, 49)] [4, 10, 11] [(0, 30, 30)]) σ0 σ) : zpc (fX12_hex_4_body k4 σ x1 x3) (fun r => (zQ [3, 5, 6, 7, 8, 9, 21, 22, 23, 24, 25, 26] [(0, 0, 0), (0, 31, 33), (0, 39, 49)] [4, 10, 11] [(0, 30, 30)]) σ0 (r)) := by
  unfold fX12_hex_4_body
  exact zpc_if (fun _ => zpc_some h) (fun _ => zpc_bv (fun v4 _ => zpc_if (fun _ => fV_fX12_hex_49 hk4 h) (fun _ => fV_fX12_hex_49 hk4 h)))
theorem fV_fX12_hex_4 {σ0 : zSt} : ∀ (n : Nat) (y0 : zSt) (y1 : Int32) (y2 : Int32), (zQ [3, 5, 6, 7, 8, 9, 21, 22, 23, 24, 25, 26] [(0, 0, 0), (0, 31, 33), (0, 39, 49)] [4, 10, 11] [(0, 30, 30)]) σ0 y0 → zpc (fX12_hex_4 n y0 y1 y2) (fun r => (zQ [3, 5, 6, 7, 8, 9, 21, 22, 23, 24, 25, 26] [(0, 0, 0), (0, 31, 33), (0, 39, 49)] [4, 10, 11] [(0, 30, 30)]) σ0 (r)) := by
  intro n
  induction n with
  | zero => intro y0 y1 y2 h; exact zpc_none
  | succ n ih => intro y0 y1 y2 h; exact fV_fX12_hex_4_body ih h
theorem fV_fX12_hex {σ0 : zSt} {σ : zSt} {x1 : Int32} {x2 : Int32} (h : (zQ [3, 5, 6, 7, 8, 9, 21, 22, 23, 24, 25, 26] [(0, 0, 0), (0, 31, 33), (0, 39, 49)] [4, 10, 11] [(0, 30, 30)]) σ0 σ) : zpc (fX12_hex σ x1 x2) (fun r => (zQ [3, 5, 6, 7, 8, 9, 21, 22, 23, 24, 25, 26] [(0, 0, 0), (0, 31, 33), (0, 39, 49)] [4, 10, 11] [(0, 30, 30)]) σ0 (r)) := by
  unfold fX12_hex
  exact zpc_bv (fun v5 _ => fV_fX12_hex_4 _ _ _ _ h)
theorem fV_fX12_taken {σ0 : zSt} {σ : zSt} (h : (zQ [3, 5, 6, 7, 8, 9, 21, 22, 23, 24, 25, 26] [(0, 0, 0), (0, 31, 33), (0, 39, 49)] [4, 10, 11] [(0, 30, 30)]) σ0 σ) : zpc (fX12_taken σ) (fun r => (zQ [3, 5, 6, 7, 8, 9, 21, 22, 23, 24, 25, 26] [(0, 0, 0), (0, 31, 33), (0, 39, 49)] [4, 10, 11] [(0, 30, 30)]) σ0 (r.1)) := by
  unfold fX12_taken
  exact zpc_bi (fV_fX12_read h) (fun σ1 v2 hσ1 => zpc_bs (zQ.wi hσ1 rfl) (fun σ3 hσ3 => zpc_some hσ3))
theorem fV_fX12_takenWord {σ0 : zSt} {σ : zSt} (h : (zQ [3, 5, 6, 7, 8, 9, 21, 22, 23, 24, 25, 26] [(0, 0, 0), (0, 31, 33), (0, 39, 49)] [4, 10, 11] [(0, 30, 30)]) σ0 σ) : zpc (fX12_takenWord σ) (fun r => (zQ [3, 5, 6, 7, 8, 9, 21, 22, 23, 24, 25, 26] [(0, 0, 0), (0, 31, 33), (0, 39, 49)] [4, 10, 11] [(0, 30, 30)]) σ0 (r.1)) := by
  unfold fX12_takenWord
  exact zpc_bi (fV_fX12_taken h) (fun σ1 v2 hσ1 => zpc_bi (fV_fX12_taken hσ1) (fun σ3 v4 hσ3 => zpc_some hσ3))
theorem fV_fX12_sayHl_31 {σ0 : zSt} {σ : zSt} {s0 : Nat} (h : (zQ [3, 5, 6, 7, 8, 9, 21, 22, 23, 24, 25, 26] [(0, 0, 0), (0, 31, 33), (0, 39, 49)] [4, 10, 11] [(0, 30, 30)]) σ0 σ) : zpc (fX12_sayHl_31 σ s0) (fun r => (zQ [3, 5, 6, 7, 8, 9, 21, 22, 23, 24, 25, 26] [(0, 0, 0), (0, 31, 33), (0, 39, 49)] [4, 10, 11] [(0, 30, 30)]) σ0 (r)) := by
  unfold fX12_sayHl_31
  exact zpc_bu (fV_fX12_say h) (fun σ1 hσ1 => zpc_some hσ1)
theorem fV_fX12_sayHl {σ0 : zSt} {σ : zSt} (h : (zQ [3, 5, 6, 7, 8, 9, 21, 22, 23, 24, 25, 26] [(0, 0, 0), (0, 31, 33), (0, 39, 49)] [4, 10, 11] [(0, 30, 30)]) σ0 σ) : zpc (fX12_sayHl σ) (fun r => (zQ [3, 5, 6, 7, 8, 9, 21, 22, 23, 24, 25, 26] [(0, 0, 0), (0, 31, 33), (0, 39, 49)] [4, 10, 11] [(0, 30, 30)]) σ0 (r)) := by
  unfold fX12_sayHl
  exact zpc_if (fun _ => fV_fX12_sayHl_31 h) (fun _ => zpc_if (fun _ => fV_fX12_sayHl_31 h) (fun _ => fV_fX12_sayHl_31 h))
theorem fV_fX12_sayPlace_76 {σ0 : zSt} {σ : zSt} {s0 : Int32} (h : (zQ [3, 5, 6, 7, 8, 9, 21, 22, 23, 24, 25, 26] [(0, 0, 0), (0, 31, 33), (0, 39, 49)] [4, 10, 11] [(0, 30, 30)]) σ0 σ) : zpc (fX12_sayPlace_76 σ s0) (fun r => (zQ [3, 5, 6, 7, 8, 9, 21, 22, 23, 24, 25, 26] [(0, 0, 0), (0, 31, 33), (0, 39, 49)] [4, 10, 11] [(0, 30, 30)]) σ0 (r)) := by
  unfold fX12_sayPlace_76
  exact zpc_bu (fV_fX12_hex h) (fun σ1 hσ1 => zpc_bu (fV_fX12_say hσ1) (fun σ2 hσ2 => zpc_some hσ2))
theorem fV_fX12_sayPlace_53 {σ0 : zSt} {σ : zSt} {s0 : Nat} (h : (zQ [3, 5, 6, 7, 8, 9, 21, 22, 23, 24, 25, 26] [(0, 0, 0), (0, 31, 33), (0, 39, 49)] [4, 10, 11] [(0, 30, 30)]) σ0 σ) : zpc (fX12_sayPlace_53 σ s0) (fun r => (zQ [3, 5, 6, 7, 8, 9, 21, 22, 23, 24, 25, 26] [(0, 0, 0), (0, 31, 33), (0, 39, 49)] [4, 10, 11] [(0, 30, 30)]) σ0 (r)) := by
  unfold fX12_sayPlace_53
  exact zpc_bu (fV_fX12_say h) (fun σ3 hσ3 => zpc_if (fun _ => fV_fX12_sayPlace_76 hσ3) (fun _ => fV_fX12_sayPlace_76 hσ3))
theorem fV_fX12_sayPlace_33 {σ0 : zSt} {σ : zSt} {s0 : Nat} (h : (zQ [3, 5, 6, 7, 8, 9, 21, 22, 23, 24, 25, 26] [(0, 0, 0), (0, 31, 33), (0, 39, 49)] [4, 10, 11] [(0, 30, 30)]) σ0 σ) : zpc (fX12_sayPlace_33 σ s0) (fun r => (zQ [3, 5, 6, 7, 8, 9, 21, 22, 23, 24, 25, 26] [(0, 0, 0), (0, 31, 33), (0, 39, 49)] [4, 10, 11] [(0, 30, 30)]) σ0 (r)) := by
  unfold fX12_sayPlace_33
  exact zpc_bu (fV_fX12_say h) (fun σ4 hσ4 => zpc_if (fun _ => fV_fX12_sayPlace_53 hσ4) (fun _ => fV_fX12_sayPlace_53 hσ4))
theorem fV_fX12_sayPlace {σ0 : zSt} {σ : zSt} (h : (zQ [3, 5, 6, 7, 8, 9, 21, 22, 23, 24, 25, 26] [(0, 0, 0), (0, 31, 33), (0, 39, 49)] [4, 10, 11] [(0, 30, 30)]) σ0 σ) : zpc (fX12_sayPlace σ) (fun r => (zQ [3, 5, 6, 7, 8, 9, 21, 22, 23, 24, 25, 26] [(0, 0, 0), (0, 31, 33), (0, 39, 49)] [4, 10, 11] [(0, 30, 30)]) σ0 (r)) := by
  unfold fX12_sayPlace
  exact zpc_if (fun _ => zpc_bu (fV_fX12_say h) (fun σ5 hσ5 => zpc_some hσ5)) (fun _ => zpc_if (fun _ => fV_fX12_sayPlace_33 h) (fun _ => fV_fX12_sayPlace_33 h))
theorem fV_fX12_sayR_108 {σ0 : zSt} {σ : zSt} {s0 : Nat} (h : (zQ [3, 5, 6, 7, 8, 9, 21, 22, 23, 24, 25, 26] [(0, 0, 0), (0, 31, 33), (0, 39, 49)] [4, 10, 11] [(0, 30, 30)]) σ0 σ) : zpc (fX12_sayR_108 σ s0) (fun r => (zQ [3, 5, 6, 7, 8, 9, 21, 22, 23, 24, 25, 26] [(0, 0, 0), (0, 31, 33), (0, 39, 49)] [4, 10, 11] [(0, 30, 30)]) σ0 (r)) := by
  unfold fX12_sayR_108
  exact zpc_bu (fV_fX12_say h) (fun σ1 hσ1 => zpc_some hσ1)
theorem fV_fX12_sayR_39 {σ0 : zSt} {σ : zSt} {x1 : Int32} (h : (zQ [3, 5, 6, 7, 8, 9, 21, 22, 23, 24, 25, 26] [(0, 0, 0), (0, 31, 33), (0, 39, 49)] [4, 10, 11] [(0, 30, 30)]) σ0 σ) : zpc (fX12_sayR_39 σ x1) (fun r => (zQ [3, 5, 6, 7, 8, 9, 21, 22, 23, 24, 25, 26] [(0, 0, 0), (0, 31, 33), (0, 39, 49)] [4, 10, 11] [(0, 30, 30)]) σ0 (r)) := by
  unfold fX12_sayR_39
  exact zpc_if (fun _ => fV_fX12_sayR_108 h) (fun _ => zpc_if (fun _ => fV_fX12_sayR_108 h) (fun _ => zpc_if (fun _ => fV_fX12_sayR_108 h) (fun _ => zpc_if (fun _ => fV_fX12_sayR_108 h) (fun _ => zpc_if (fun _ => fV_fX12_sayR_108 h) (fun _ => zpc_if (fun _ => fV_fX12_sayR_108 h) (fun _ => fV_fX12_sayR_108 h))))))
theorem fV_fX12_sayR_35 {σ0 : zSt} {σ : zSt} {x1 : Int32} (h : (zQ [3, 5, 6, 7, 8, 9, 21, 22, 23, 24, 25, 26] [(0, 0, 0), (0, 31, 33), (0, 39, 49)] [4, 10, 11] [(0, 30, 30)]) σ0 σ) : zpc (fX12_sayR_35 σ x1) (fun r => (zQ [3, 5, 6, 7, 8, 9, 21, 22, 23, 24, 25, 26] [(0, 0, 0), (0, 31, 33), (0, 39, 49)] [4, 10, 11] [(0, 30, 30)]) σ0 (r)) := by
  unfold fX12_sayR_35
  exact zpc_bu (fV_fX12_sayHl h) (fun σ2 hσ2 => fV_fX12_sayR_39 hσ2)
theorem fV_fX12_sayR {σ0 : zSt} {σ : zSt} {x1 : Int32} (h : (zQ [3, 5, 6, 7, 8, 9, 21, 22, 23, 24, 25, 26] [(0, 0, 0), (0, 31, 33), (0, 39, 49)] [4, 10, 11] [(0, 30, 30)]) σ0 σ) : zpc (fX12_sayR σ x1) (fun r => (zQ [3, 5, 6, 7, 8, 9, 21, 22, 23, 24, 25, 26] [(0, 0, 0), (0, 31, 33), (0, 39, 49)] [4, 10, 11] [(0, 30, 30)]) σ0 (r)) := by
  unfold fX12_sayR
  exact zpc_if (fun _ => zpc_bu (fV_fX12_sayPlace h) (fun σ3 hσ3 => zpc_some hσ3)) (fun _ => zpc_if (fun _ => fV_fX12_sayR_39 h) (fun _ => zpc_if (fun _ => zpc_if (fun _ => fV_fX12_sayR_35 h) (fun _ => zpc_if (fun _ => fV_fX12_sayR_35 h) (fun _ => fV_fX12_sayR_39 h))) (fun _ => fV_fX12_sayR_39 h)))
theorem fV_fX12_sayRp_50 {σ0 : zSt} {σ : zSt} (h : (zQ [3, 5, 6, 7, 8, 9, 21, 22, 23, 24, 25, 26] [(0, 0, 0), (0, 31, 33), (0, 39, 49)] [4, 10, 11] [(0, 30, 30)]) σ0 σ) : zpc (fX12_sayRp_50 σ) (fun r => (zQ [3, 5, 6, 7, 8, 9, 21, 22, 23, 24, 25, 26] [(0, 0, 0), (0, 31, 33), (0, 39, 49)] [4, 10, 11] [(0, 30, 30)]) σ0 (r)) := by
  unfold fX12_sayRp_50
  exact zpc_some h
theorem fV_fX12_sayRp_47 {σ0 : zSt} {σ : zSt} {s0 : Nat} (h : (zQ [3, 5, 6, 7, 8, 9, 21, 22, 23, 24, 25, 26] [(0, 0, 0), (0, 31, 33), (0, 39, 49)] [4, 10, 11] [(0, 30, 30)]) σ0 σ) : zpc (fX12_sayRp_47 σ s0) (fun r => (zQ [3, 5, 6, 7, 8, 9, 21, 22, 23, 24, 25, 26] [(0, 0, 0), (0, 31, 33), (0, 39, 49)] [4, 10, 11] [(0, 30, 30)]) σ0 (r)) := by
  unfold fX12_sayRp_47
  exact zpc_bu (fV_fX12_say h) (fun σ1 hσ1 => fV_fX12_sayRp_50 hσ1)
theorem fV_fX12_sayRp {σ0 : zSt} {σ : zSt} {x1 : Int32} {x2 : Int32} (h : (zQ [3, 5, 6, 7, 8, 9, 21, 22, 23, 24, 25, 26] [(0, 0, 0), (0, 31, 33), (0, 39, 49)] [4, 10, 11] [(0, 30, 30)]) σ0 σ) : zpc (fX12_sayRp σ x1 x2) (fun r => (zQ [3, 5, 6, 7, 8, 9, 21, 22, 23, 24, 25, 26] [(0, 0, 0), (0, 31, 33), (0, 39, 49)] [4, 10, 11] [(0, 30, 30)]) σ0 (r)) := by
  unfold fX12_sayRp
  exact zpc_if (fun _ => zpc_bu (fV_fX12_sayHl h) (fun σ2 hσ2 => fV_fX12_sayRp_50 hσ2)) (fun _ => zpc_if (fun _ => fV_fX12_sayRp_47 h) (fun _ => zpc_if (fun _ => fV_fX12_sayRp_47 h) (fun _ => zpc_if (fun _ => fV_fX12_sayRp_47 h) (fun _ => fV_fX12_sayRp_47 h))))
theorem fV_fX12_sayCc_81 {σ0 : zSt} {σ : zSt} {s0 : Nat} (h : (zQ [3, 5, 6, 7, 8, 9, 21, 22, 23, 24, 25, 26] [(0, 0, 0), (0, 31, 33), (0, 39, 49)] [4, 10, 11] [(0, 30, 30)]) σ0 σ) : zpc (fX12_sayCc_81 σ s0) (fun r => (zQ [3, 5, 6, 7, 8, 9, 21, 22, 23, 24, 25, 26] [(0, 0, 0), (0, 31, 33), (0, 39, 49)] [4, 10, 11] [(0, 30, 30)]) σ0 (r)) := by
  unfold fX12_sayCc_81
  exact zpc_bu (fV_fX12_say h) (fun σ1 hσ1 => zpc_some hσ1)
theorem fV_fX12_sayCc {σ0 : zSt} {σ : zSt} {x1 : Int32} (h : (zQ [3, 5, 6, 7, 8, 9, 21, 22, 23, 24, 25, 26] [(0, 0, 0), (0, 31, 33), (0, 39, 49)] [4, 10, 11] [(0, 30, 30)]) σ0 σ) : zpc (fX12_sayCc σ x1) (fun r => (zQ [3, 5, 6, 7, 8, 9, 21, 22, 23, 24, 25, 26] [(0, 0, 0), (0, 31, 33), (0, 39, 49)] [4, 10, 11] [(0, 30, 30)]) σ0 (r)) := by
  unfold fX12_sayCc
  exact zpc_if (fun _ => fV_fX12_sayCc_81 h) (fun _ => zpc_if (fun _ => fV_fX12_sayCc_81 h) (fun _ => zpc_if (fun _ => fV_fX12_sayCc_81 h) (fun _ => zpc_if (fun _ => fV_fX12_sayCc_81 h) (fun _ => zpc_if (fun _ => fV_fX12_sayCc_81 h) (fun _ => zpc_if (fun _ => fV_fX12_sayCc_81 h) (fun _ => zpc_if (fun _ => fV_fX12_sayCc_81 h) (fun _ => fV_fX12_sayCc_81 h)))))))
theorem fV_fX12_sayPlaced {σ0 : zSt} {σ : zSt} {x1 : Int32} (h : (zQ [3, 5, 6, 7, 8, 9, 21, 22, 23, 24, 25, 26] [(0, 0, 0), (0, 31, 33), (0, 39, 49)] [4, 10, 11] [(0, 30, 30)]) σ0 σ) : zpc (fX12_sayPlaced σ x1) (fun r => (zQ [3, 5, 6, 7, 8, 9, 21, 22, 23, 24, 25, 26] [(0, 0, 0), (0, 31, 33), (0, 39, 49)] [4, 10, 11] [(0, 30, 30)]) σ0 (r)) := by
  unfold fX12_sayPlaced
  exact zpc_bu (fV_fX12_say h) (fun σ1 hσ1 => zpc_bu (fV_fX12_hex hσ1) (fun σ2 hσ2 => zpc_bu (fV_fX12_say hσ2) (fun σ3 hσ3 => zpc_some hσ3)))
theorem fV_fX12_sayJump {σ0 : zSt} {σ : zSt} (h : (zQ [3, 5, 6, 7, 8, 9, 21, 22, 23, 24, 25, 26] [(0, 0, 0), (0, 31, 33), (0, 39, 49)] [4, 10, 11] [(0, 30, 30)]) σ0 σ) : zpc (fX12_sayJump σ) (fun r => (zQ [3, 5, 6, 7, 8, 9, 21, 22, 23, 24, 25, 26] [(0, 0, 0), (0, 31, 33), (0, 39, 49)] [4, 10, 11] [(0, 30, 30)]) σ0 (r)) := by
  unfold fX12_sayJump
  exact zpc_bi (fV_fX12_taken h) (fun σ1 v2 hσ1 => zpc_bi (fV_fX12_signed hσ1) (fun σ3 v4 hσ3 => zpc_bu (fV_fX12_hex hσ3) (fun σ5 hσ5 => zpc_some hσ5)))
theorem fV_fX12_sayDo_81 {σ0 : zSt} {σ : zSt} {s0 : Nat} (h : (zQ [3, 5, 6, 7, 8, 9, 21, 22, 23, 24, 25, 26] [(0, 0, 0), (0, 31, 33), (0, 39, 49)] [4, 10, 11] [(0, 30, 30)]) σ0 σ) : zpc (fX12_sayDo_81 σ s0) (fun r => (zQ [3, 5, 6, 7, 8, 9, 21, 22, 23, 24, 25, 26] [(0, 0, 0), (0, 31, 33), (0, 39, 49)] [4, 10, 11] [(0, 30, 30)]) σ0 (r)) := by
  unfold fX12_sayDo_81
  exact zpc_bu (fV_fX12_say h) (fun σ1 hσ1 => zpc_some hσ1)
theorem fV_fX12_sayDo {σ0 : zSt} {σ : zSt} {x1 : Int32} (h : (zQ [3, 5, 6, 7, 8, 9, 21, 22, 23, 24, 25, 26] [(0, 0, 0), (0, 31, 33), (0, 39, 49)] [4, 10, 11] [(0, 30, 30)]) σ0 σ) : zpc (fX12_sayDo σ x1) (fun r => (zQ [3, 5, 6, 7, 8, 9, 21, 22, 23, 24, 25, 26] [(0, 0, 0), (0, 31, 33), (0, 39, 49)] [4, 10, 11] [(0, 30, 30)]) σ0 (r)) := by
  unfold fX12_sayDo
  exact zpc_if (fun _ => fV_fX12_sayDo_81 h) (fun _ => zpc_if (fun _ => fV_fX12_sayDo_81 h) (fun _ => zpc_if (fun _ => fV_fX12_sayDo_81 h) (fun _ => zpc_if (fun _ => fV_fX12_sayDo_81 h) (fun _ => zpc_if (fun _ => fV_fX12_sayDo_81 h) (fun _ => zpc_if (fun _ => fV_fX12_sayDo_81 h) (fun _ => zpc_if (fun _ => fV_fX12_sayDo_81 h) (fun _ => fV_fX12_sayDo_81 h)))))))
theorem fV_fX12_sayTurn_146 {σ0 : zSt} {σ : zSt} {x1 : Int32} (h : (zQ [3, 5, 6, 7, 8, 9, 21, 22, 23, 24, 25, 26] [(0, 0, 0), (0, 31, 33), (0, 39, 49)] [4, 10, 11] [(0, 30, 30)]) σ0 σ) : zpc (fX12_sayTurn_146 σ x1) (fun r => (zQ [3, 5, 6, 7, 8, 9, 21, 22, 23, 24, 25, 26] [(0, 0, 0), (0, 31, 33), (0, 39, 49)] [4, 10, 11] [(0, 30, 30)]) σ0 (r)) := by
  unfold fX12_sayTurn_146
  exact zpc_bu (fV_fX12_sayR h) (fun σ1 hσ1 => zpc_some hσ1)
theorem fV_fX12_sayTurn_94 {σ0 : zSt} {σ : zSt} {x1 : Int32} {s0 : Nat} (h : (zQ [3, 5, 6, 7, 8, 9, 21, 22, 23, 24, 25, 26] [(0, 0, 0), (0, 31, 33), (0, 39, 49)] [4, 10, 11] [(0, 30, 30)]) σ0 σ) : zpc (fX12_sayTurn_94 σ x1 s0) (fun r => (zQ [3, 5, 6, 7, 8, 9, 21, 22, 23, 24, 25, 26] [(0, 0, 0), (0, 31, 33), (0, 39, 49)] [4, 10, 11] [(0, 30, 30)]) σ0 (r)) := by
  unfold fX12_sayTurn_94
  exact zpc_bu (fV_fX12_say h) (fun σ2 hσ2 => fV_fX12_sayTurn_146 hσ2)
theorem fV_fX12_sayTurn_130 {σ0 : zSt} {σ : zSt} {x1 : Int32} {x2 : Int32} {s0 : Nat} (h : (zQ [3, 5, 6, 7, 8, 9, 21, 22, 23, 24, 25, 26] [(0, 0, 0), (0, 31, 33), (0, 39, 49)] [4, 10, 11] [(0, 30, 30)]) σ0 σ) : zpc (fX12_sayTurn_130 σ x1 x2 s0) (fun r => (zQ [3, 5, 6, 7, 8, 9, 21, 22, 23, 24, 25, 26] [(0, 0, 0), (0, 31, 33), (0, 39, 49)] [4, 10, 11] [(0, 30, 30)]) σ0 (r)) := by
  unfold fX12_sayTurn_130
  exact zpc_bu (fV_fX12_say h) (fun σ3 hσ3 => zpc_bu (fV_fX12_hex hσ3) (fun σ4 hσ4 => zpc_bu (fV_fX12_say hσ4) (fun σ5 hσ5 => fV_fX12_sayTurn_146 hσ5)))
theorem fV_fX12_sayTurn {σ0 : zSt} {σ : zSt} {x1 : Int32} (h : (zQ [3, 5, 6, 7, 8, 9, 21, 22, 23, 24, 25, 26] [(0, 0, 0), (0, 31, 33), (0, 39, 49)] [4, 10, 11] [(0, 30, 30)]) σ0 σ) : zpc (fX12_sayTurn σ x1) (fun r => (zQ [3, 5, 6, 7, 8, 9, 21, 22, 23, 24, 25, 26] [(0, 0, 0), (0, 31, 33), (0, 39, 49)] [4, 10, 11] [(0, 30, 30)]) σ0 (r)) := by
  unfold fX12_sayTurn
  exact zpc_bv (fun v6 _ => zpc_if (fun _ => zpc_if (fun _ => zpc_if (fun _ => fV_fX12_sayTurn_130 h) (fun _ => fV_fX12_sayTurn_130 h)) (fun _ => fV_fX12_sayTurn_130 h)) (fun _ => zpc_if (fun _ => fV_fX12_sayTurn_94 h) (fun _ => zpc_if (fun _ => fV_fX12_sayTurn_94 h) (fun _ => zpc_if (fun _ => fV_fX12_sayTurn_94 h) (fun _ => zpc_if (fun _ => fV_fX12_sayTurn_94 h) (fun _ => zpc_if (fun _ => fV_fX12_sayTurn_94 h) (fun _ => zpc_if (fun _ => fV_fX12_sayTurn_94 h) (fun _ => zpc_if (fun _ => fV_fX12_sayTurn_94 h) (fun _ => fV_fX12_sayTurn_94 h)))))))))
theorem fV_fX12_sayZero_301 {σ0 : zSt} {σ : zSt} (h : (zQ [3, 5, 6, 7, 8, 9, 21, 22, 23, 24, 25, 26] [(0, 0, 0), (0, 31, 33), (0, 39, 49)] [4, 10, 11] [(0, 30, 30)]) σ0 σ) : zpc (fX12_sayZero_301 σ) (fun r => (zQ [3, 5, 6, 7, 8, 9, 21, 22, 23, 24, 25, 26] [(0, 0, 0), (0, 31, 33), (0, 39, 49)] [4, 10, 11] [(0, 30, 30)]) σ0 (r)) := by
  unfold fX12_sayZero_301
  exact zpc_some h
theorem fV_fX12_sayZero_80 {σ0 : zSt} {σ : zSt} {x1 : Int32} (h : (zQ [3, 5, 6, 7, 8, 9, 21, 22, 23, 24, 25, 26] [(0, 0, 0), (0, 31, 33), (0, 39, 49)] [4, 10, 11] [(0, 30, 30)]) σ0 σ) : zpc (fX12_sayZero_80 σ x1) (fun r => (zQ [3, 5, 6, 7, 8, 9, 21, 22, 23, 24, 25, 26] [(0, 0, 0), (0, 31, 33), (0, 39, 49)] [4, 10, 11] [(0, 30, 30)]) σ0 (r)) := by
  unfold fX12_sayZero_80
  exact zpc_if (fun _ => fV_fX12_sayZero_301 h) (fun _ => zpc_bu (fV_fX12_sayJump h) (fun σ1 hσ1 => fV_fX12_sayZero_301 hσ1))
theorem fV_fX12_sayZero_58 {σ0 : zSt} {σ : zSt} {x1 : Int32} {s0 : Nat} (h : (zQ [3, 5, 6, 7, 8, 9, 21, 22, 23, 24, 25, 26] [(0, 0, 0), (0, 31, 33), (0, 39, 49)] [4, 10, 11] [(0, 30, 30)]) σ0 σ) : zpc (fX12_sayZero_58 σ x1 s0) (fun r => (zQ [3, 5, 6, 7, 8, 9, 21, 22, 23, 24, 25, 26] [(0, 0, 0), (0, 31, 33), (0, 39, 49)] [4, 10, 11] [(0, 30, 30)]) σ0 (r)) := by
  unfold fX12_sayZero_58
  exact zpc_bu (fV_fX12_say h) (fun σ2 hσ2 => zpc_if (fun _ => fV_fX12_sayZero_80 hσ2) (fun _ => zpc_bu (fV_fX12_sayCc hσ2) (fun σ3 hσ3 => zpc_bu (fV_fX12_say hσ3) (fun σ4 hσ4 => fV_fX12_sayZero_80 hσ4))))
theorem fV_fX12_sayZero_133 {σ0 : zSt} {σ : zSt} {x3 : Int32} {x4 : Int32} (h : (zQ [3, 5, 6, 7, 8, 9, 21, 22, 23, 24, 25, 26] [(0, 0, 0), (0, 31, 33), (0, 39, 49)] [4, 10, 11] [(0, 30, 30)]) σ0 σ) : zpc (fX12_sayZero_133 σ x3 x4) (fun r => (zQ [3, 5, 6, 7, 8, 9, 21, 22, 23, 24, 25, 26] [(0, 0, 0), (0, 31, 33), (0, 39, 49)] [4, 10, 11] [(0, 30, 30)]) σ0 (r)) := by
  unfold fX12_sayZero_133
  exact zpc_bu (fV_fX12_say h) (fun σ5 hσ5 => zpc_if (fun _ => zpc_bi (fV_fX12_takenWord hσ5) (fun σ6 v7 hσ6 => zpc_bu (fV_fX12_hex hσ6) (fun σ8 hσ8 => fV_fX12_sayZero_301 hσ8))) (fun _ => zpc_bu (fV_fX12_sayRp hσ5) (fun σ9 hσ9 => fV_fX12_sayZero_301 hσ9)))
theorem fV_fX12_sayZero_112 {σ0 : zSt} {σ : zSt} {x3 : Int32} {x4 : Int32} {s0 : Nat} (h : (zQ [3, 5, 6, 7, 8, 9, 21, 22, 23, 24, 25, 26] [(0, 0, 0), (0, 31, 33), (0, 39, 49)] [4, 10, 11] [(0, 30, 30)]) σ0 σ) : zpc (fX12_sayZero_112 σ x3 x4 s0) (fun r => (zQ [3, 5, 6, 7, 8, 9, 21, 22, 23, 24, 25, 26] [(0, 0, 0), (0, 31, 33), (0, 39, 49)] [4, 10, 11] [(0, 30, 30)]) σ0 (r)) := by
  unfold fX12_sayZero_112
  exact zpc_bu (fV_fX12_say h) (fun σ10 hσ10 => zpc_if (fun _ => zpc_bu (fV_fX12_sayRp hσ10) (fun σ11 hσ11 => fV_fX12_sayZero_133 hσ11)) (fun _ => zpc_bu (fV_fX12_sayHl hσ10) (fun σ12 hσ12 => fV_fX12_sayZero_133 hσ12)))
theorem fV_fX12_sayZero_186 {σ0 : zSt} {σ : zSt} {x3 : Int32} {s0 : Nat} (h : (zQ [3, 5, 6, 7, 8, 9, 21, 22, 23, 24, 25, 26] [(0, 0, 0), (0, 31, 33), (0, 39, 49)] [4, 10, 11] [(0, 30, 30)]) σ0 σ) : zpc (fX12_sayZero_186 σ x3 s0) (fun r => (zQ [3, 5, 6, 7, 8, 9, 21, 22, 23, 24, 25, 26] [(0, 0, 0), (0, 31, 33), (0, 39, 49)] [4, 10, 11] [(0, 30, 30)]) σ0 (r)) := by
  unfold fX12_sayZero_186
  exact zpc_bu (fV_fX12_say h) (fun σ13 hσ13 => zpc_bu (fV_fX12_sayRp hσ13) (fun σ14 hσ14 => fV_fX12_sayZero_301 hσ14))
theorem fV_fX12_sayZero_269 {σ0 : zSt} {σ : zSt} {x3 : Int32} {x4 : Int32} (h : (zQ [3, 5, 6, 7, 8, 9, 21, 22, 23, 24, 25, 26] [(0, 0, 0), (0, 31, 33), (0, 39, 49)] [4, 10, 11] [(0, 30, 30)]) σ0 σ) : zpc (fX12_sayZero_269 σ x3 x4) (fun r => (zQ [3, 5, 6, 7, 8, 9, 21, 22, 23, 24, 25, 26] [(0, 0, 0), (0, 31, 33), (0, 39, 49)] [4, 10, 11] [(0, 30, 30)]) σ0 (r)) := by
  unfold fX12_sayZero_269
  exact zpc_if (fun _ => zpc_bu (fV_fX12_say h) (fun σ15 hσ15 => zpc_if (fun _ => zpc_bu (fV_fX12_sayHl hσ15) (fun σ17 hσ17 => fV_fX12_sayZero_301 hσ17)) (fun _ => zpc_bu (fV_fX12_say hσ15) (fun σ16 hσ16 => fV_fX12_sayZero_301 hσ16)))) (fun _ => zpc_some h)
theorem fV_fX12_sayZero_255 {σ0 : zSt} {σ : zSt} {x3 : Int32} {x4 : Int32} {s0 : Nat} (h : (zQ [3, 5, 6, 7, 8, 9, 21, 22, 23, 24, 25, 26] [(0, 0, 0), (0, 31, 33), (0, 39, 49)] [4, 10, 11] [(0, 30, 30)]) σ0 σ) : zpc (fX12_sayZero_255 σ x3 x4 s0) (fun r => (zQ [3, 5, 6, 7, 8, 9, 21, 22, 23, 24, 25, 26] [(0, 0, 0), (0, 31, 33), (0, 39, 49)] [4, 10, 11] [(0, 30, 30)]) σ0 (r)) := by
  unfold fX12_sayZero_255
  exact zpc_bu (fV_fX12_say h) (fun σ18 hσ18 => fV_fX12_sayZero_269 hσ18)
theorem fV_fX12_sayZero_236 {σ0 : zSt} {σ : zSt} {x3 : Int32} {x4 : Int32} (h : (zQ [3, 5, 6, 7, 8, 9, 21, 22, 23, 24, 25, 26] [(0, 0, 0), (0, 31, 33), (0, 39, 49)] [4, 10, 11] [(0, 30, 30)]) σ0 σ) : zpc (fX12_sayZero_236 σ x3 x4) (fun r => (zQ [3, 5, 6, 7, 8, 9, 21, 22, 23, 24, 25, 26] [(0, 0, 0), (0, 31, 33), (0, 39, 49)] [4, 10, 11] [(0, 30, 30)]) σ0 (r)) := by
  unfold fX12_sayZero_236
  exact zpc_if (fun _ => zpc_bi (fV_fX12_takenWord h) (fun σ19 v20 hσ19 => zpc_bu (fV_fX12_sayPlaced hσ19) (fun σ21 hσ21 => fV_fX12_sayZero_269 hσ21))) (fun _ => zpc_if (fun _ => fV_fX12_sayZero_255 h) (fun _ => fV_fX12_sayZero_255 h))
theorem fV_fX12_sayZero_229 {σ0 : zSt} {σ : zSt} {x3 : Int32} {x4 : Int32} (h : (zQ [3, 5, 6, 7, 8, 9, 21, 22, 23, 24, 25, 26] [(0, 0, 0), (0, 31, 33), (0, 39, 49)] [4, 10, 11] [(0, 30, 30)]) σ0 σ) : zpc (fX12_sayZero_229 σ x3 x4) (fun r => (zQ [3, 5, 6, 7, 8, 9, 21, 22, 23, 24, 25, 26] [(0, 0, 0), (0, 31, 33), (0, 39, 49)] [4, 10, 11] [(0, 30, 30)]) σ0 (r)) := by
  unfold fX12_sayZero_229
  exact zpc_bu (fV_fX12_say h) (fun σ22 hσ22 => fV_fX12_sayZero_236 hσ22)
theorem fV_fX12_sayZero_16 {σ0 : zSt} {σ : zSt} {x1 : Int32} {x2 : Int32} {x3 : Int32} {s0 : Int32} (h : (zQ [3, 5, 6, 7, 8, 9, 21, 22, 23, 24, 25, 26] [(0, 0, 0), (0, 31, 33), (0, 39, 49)] [4, 10, 11] [(0, 30, 30)]) σ0 σ) : zpc (fX12_sayZero_16 σ x1 x2 x3 s0) (fun r => (zQ [3, 5, 6, 7, 8, 9, 21, 22, 23, 24, 25, 26] [(0, 0, 0), (0, 31, 33), (0, 39, 49)] [4, 10, 11] [(0, 30, 30)]) σ0 (r)) := by
  unfold fX12_sayZero_16
  exact zpc_if (fun _ => zpc_if (fun _ => fV_fX12_sayZero_58 h) (fun _ => zpc_if (fun _ => fV_fX12_sayZero_58 h) (fun _ => zpc_if (fun _ => fV_fX12_sayZero_58 h) (fun _ => fV_fX12_sayZero_58 h)))) (fun _ => zpc_if (fun _ => zpc_if (fun _ => fV_fX12_sayZero_112 h) (fun _ => fV_fX12_sayZero_112 h)) (fun _ => zpc_if (fun _ => zpc_if (fun _ => fV_fX12_sayZero_186 h) (fun _ => fV_fX12_sayZero_186 h)) (fun _ => zpc_bu (fV_fX12_say h) (fun σ23 hσ23 => zpc_if (fun _ => fV_fX12_sayZero_236 hσ23) (fun _ => zpc_if (fun _ => zpc_bu (fV_fX12_sayHl hσ23) (fun σ25 hσ25 => fV_fX12_sayZero_229 hσ25)) (fun _ => zpc_bu (fV_fX12_say hσ23) (fun σ24 hσ24 => fV_fX12_sayZero_229 hσ24)))))))
theorem fV_fX12_sayZero {σ0 : zSt} {σ : zSt} {x1 : Int32} {x2 : Int32} (h : (zQ [3, 5, 6, 7, 8, 9, 21, 22, 23, 24, 25, 26] [(0, 0, 0), (0, 31, 33), (0, 39, 49)] [4, 10, 11] [(0, 30, 30)]) σ0 σ) : zpc (fX12_sayZero σ x1 x2) (fun r => (zQ [3, 5, 6, 7, 8, 9, 21, 22, 23, 24, 25, 26] [(0, 0, 0), (0, 31, 33), (0, 39, 49)] [4, 10, 11] [(0, 30, 30)]) σ0 (r)) := by
  unfold fX12_sayZero
  exact zpc_bv (fun v26 _ => zpc_ck (zpc_if (fun _ => fV_fX12_sayZero_16 h) (fun _ => fV_fX12_sayZero_16 h)))
theorem fV_fX12_saySingle_87 {σ0 : zSt} {σ : zSt} {s0 : Nat} (h : (zQ [3, 5, 6, 7, 8, 9, 21, 22, 23, 24, 25, 26] [(0, 0, 0), (0, 31, 33), (0, 39, 49)] [4, 10, 11] [(0, 30, 30)]) σ0 σ) : zpc (fX12_saySingle_87 σ s0) (fun r => (zQ [3, 5, 6, 7, 8, 9, 21, 22, 23, 24, 25, 26] [(0, 0, 0), (0, 31, 33), (0, 39, 49)] [4, 10, 11] [(0, 30, 30)]) σ0 (r)) := by
  unfold fX12_saySingle_87
  exact zpc_bu (fV_fX12_say h) (fun σ1 hσ1 => zpc_some hσ1)
theorem fV_fX12_saySingle_117 {σ0 : zSt} {σ : zSt} {x1 : Int32} {x2 : Int32} {s0 : Nat} (h : (zQ [3, 5, 6, 7, 8, 9, 21, 22, 23, 24, 25, 26] [(0, 0, 0), (0, 31, 33), (0, 39, 49)] [4, 10, 11] [(0, 30, 30)]) σ0 σ) : zpc (fX12_saySingle_117 σ x1 x2 s0) (fun r => (zQ [3, 5, 6, 7, 8, 9, 21, 22, 23, 24, 25, 26] [(0, 0, 0), (0, 31, 33), (0, 39, 49)] [4, 10, 11] [(0, 30, 30)]) σ0 (r)) := by
  unfold fX12_saySingle_117
  exact zpc_bu (fV_fX12_say h) (fun σ2 hσ2 => zpc_bu (fV_fX12_sayR hσ2) (fun σ3 hσ3 => zpc_if (fun _ => zpc_bu (fV_fX12_say hσ3) (fun σ4 hσ4 => zpc_bi (fV_fX12_taken hσ4) (fun σ5 v6 hσ5 => zpc_bu (fV_fX12_hex hσ5) (fun σ7 hσ7 => zpc_some hσ7)))) (fun _ => zpc_some hσ3)))
theorem fV_fX12_saySingle {σ0 : zSt} {σ : zSt} {x1 : Int32} {x2 : Int32} (h : (zQ [3, 5, 6, 7, 8, 9, 21, 22, 23, 24, 25, 26] [(0, 0, 0), (0, 31, 33), (0, 39, 49)] [4, 10, 11] [(0, 30, 30)]) σ0 σ) : zpc (fX12_saySingle σ x1 x2) (fun r => (zQ [3, 5, 6, 7, 8, 9, 21, 22, 23, 24, 25, 26] [(0, 0, 0), (0, 31, 33), (0, 39, 49)] [4, 10, 11] [(0, 30, 30)]) σ0 (r)) := by
  unfold fX12_saySingle
  exact zpc_if (fun _ => zpc_if (fun _ => fV_fX12_saySingle_87 h) (fun _ => zpc_if (fun _ => fV_fX12_saySingle_87 h) (fun _ => zpc_if (fun _ => fV_fX12_saySingle_87 h) (fun _ => zpc_if (fun _ => fV_fX12_saySingle_87 h) (fun _ => zpc_if (fun _ => fV_fX12_saySingle_87 h) (fun _ => zpc_if (fun _ => fV_fX12_saySingle_87 h) (fun _ => zpc_if (fun _ => fV_fX12_saySingle_87 h) (fun _ => fV_fX12_saySingle_87 h)))))))) (fun _ => zpc_if (fun _ => fV_fX12_saySingle_117 h) (fun _ => zpc_if (fun _ => fV_fX12_saySingle_117 h) (fun _ => fV_fX12_saySingle_117 h)))
theorem fV_fX12_sayThree_266 {σ0 : zSt} {σ : zSt} (h : (zQ [3, 5, 6, 7, 8, 9, 21, 22, 23, 24, 25, 26] [(0, 0, 0), (0, 31, 33), (0, 39, 49)] [4, 10, 11] [(0, 30, 30)]) σ0 σ) : zpc (fX12_sayThree_266 σ) (fun r => (zQ [3, 5, 6, 7, 8, 9, 21, 22, 23, 24, 25, 26] [(0, 0, 0), (0, 31, 33), (0, 39, 49)] [4, 10, 11] [(0, 30, 30)]) σ0 (r)) := by
  unfold fX12_sayThree_266
  exact zpc_some h
theorem fV_fX12_sayThree_103 {σ0 : zSt} {σ : zSt} {x3 : Int32} (h : (zQ [3, 5, 6, 7, 8, 9, 21, 22, 23, 24, 25, 26] [(0, 0, 0), (0, 31, 33), (0, 39, 49)] [4, 10, 11] [(0, 30, 30)]) σ0 σ) : zpc (fX12_sayThree_103 σ x3) (fun r => (zQ [3, 5, 6, 7, 8, 9, 21, 22, 23, 24, 25, 26] [(0, 0, 0), (0, 31, 33), (0, 39, 49)] [4, 10, 11] [(0, 30, 30)]) σ0 (r)) := by
  unfold fX12_sayThree_103
  exact zpc_if (fun _ => zpc_bu (fV_fX12_say h) (fun σ1 hσ1 => fV_fX12_sayThree_266 hσ1)) (fun _ => fV_fX12_sayThree_266 h)
theorem fV_fX12_sayThree_91 {σ0 : zSt} {σ : zSt} {x3 : Int32} {s0 : Nat} (h : (zQ [3, 5, 6, 7, 8, 9, 21, 22, 23, 24, 25, 26] [(0, 0, 0), (0, 31, 33), (0, 39, 49)] [4, 10, 11] [(0, 30, 30)]) σ0 σ) : zpc (fX12_sayThree_91 σ x3 s0) (fun r => (zQ [3, 5, 6, 7, 8, 9, 21, 22, 23, 24, 25, 26] [(0, 0, 0), (0, 31, 33), (0, 39, 49)] [4, 10, 11] [(0, 30, 30)]) σ0 (r)) := by
  unfold fX12_sayThree_91
  exact zpc_bu (fV_fX12_say h) (fun σ2 hσ2 => zpc_if (fun _ => fV_fX12_sayThree_103 hσ2) (fun _ => zpc_bu (fV_fX12_sayHl hσ2) (fun σ3 hσ3 => fV_fX12_sayThree_103 hσ3)))
theorem fV_fX12_sayThree_151 {σ0 : zSt} {σ : zSt} (h : (zQ [3, 5, 6, 7, 8, 9, 21, 22, 23, 24, 25, 26] [(0, 0, 0), (0, 31, 33), (0, 39, 49)] [4, 10, 11] [(0, 30, 30)]) σ0 σ) : zpc (fX12_sayThree_151 σ) (fun r => (zQ [3, 5, 6, 7, 8, 9, 21, 22, 23, 24, 25, 26] [(0, 0, 0), (0, 31, 33), (0, 39, 49)] [4, 10, 11] [(0, 30, 30)]) σ0 (r)) := by
  unfold fX12_sayThree_151
  exact zpc_bi (fV_fX12_takenWord h) (fun σ4 v5 hσ4 => zpc_bu (fV_fX12_hex hσ4) (fun σ6 hσ6 => fV_fX12_sayThree_266 hσ6))
theorem fV_fX12_sayThree_127 {σ0 : zSt} {σ : zSt} {x1 : Int32} {x2 : Int32} (h : (zQ [3, 5, 6, 7, 8, 9, 21, 22, 23, 24, 25, 26] [(0, 0, 0), (0, 31, 33), (0, 39, 49)] [4, 10, 11] [(0, 30, 30)]) σ0 σ) : zpc (fX12_sayThree_127 σ x1 x2) (fun r => (zQ [3, 5, 6, 7, 8, 9, 21, 22, 23, 24, 25, 26] [(0, 0, 0), (0, 31, 33), (0, 39, 49)] [4, 10, 11] [(0, 30, 30)]) σ0 (r)) := by
  unfold fX12_sayThree_127
  exact zpc_bu (fV_fX12_say h) (fun σ7 hσ7 => zpc_if (fun _ => zpc_bu (fV_fX12_sayCc hσ7) (fun σ8 hσ8 => zpc_bu (fV_fX12_say hσ8) (fun σ9 hσ9 => fV_fX12_sayThree_151 hσ9))) (fun _ => fV_fX12_sayThree_151 hσ7))
theorem fV_fX12_sayThree_210 {σ0 : zSt} {σ : zSt} {s0 : Nat} (h : (zQ [3, 5, 6, 7, 8, 9, 21, 22, 23, 24, 25, 26] [(0, 0, 0), (0, 31, 33), (0, 39, 49)] [4, 10, 11] [(0, 30, 30)]) σ0 σ) : zpc (fX12_sayThree_210 σ s0) (fun r => (zQ [3, 5, 6, 7, 8, 9, 21, 22, 23, 24, 25, 26] [(0, 0, 0), (0, 31, 33), (0, 39, 49)] [4, 10, 11] [(0, 30, 30)]) σ0 (r)) := by
  unfold fX12_sayThree_210
  exact zpc_bu (fV_fX12_say h) (fun σ10 hσ10 => fV_fX12_sayThree_266 hσ10)
theorem fV_fX12_sayThree_183 {σ0 : zSt} {σ : zSt} {x1 : Int32} {s0 : Nat} (h : (zQ [3, 5, 6, 7, 8, 9, 21, 22, 23, 24, 25, 26] [(0, 0, 0), (0, 31, 33), (0, 39, 49)] [4, 10, 11] [(0, 30, 30)]) σ0 σ) : zpc (fX12_sayThree_183 σ x1 s0) (fun r => (zQ [3, 5, 6, 7, 8, 9, 21, 22, 23, 24, 25, 26] [(0, 0, 0), (0, 31, 33), (0, 39, 49)] [4, 10, 11] [(0, 30, 30)]) σ0 (r)) := by
  unfold fX12_sayThree_183
  exact zpc_bu (fV_fX12_say h) (fun σ11 hσ11 => zpc_bi (fV_fX12_taken hσ11) (fun σ12 v13 hσ12 => zpc_bu (fV_fX12_hex hσ12) (fun σ14 hσ14 => zpc_if (fun _ => fV_fX12_sayThree_210 hσ14) (fun _ => fV_fX12_sayThree_210 hσ14))))
theorem fV_fX12_sayThree_254 {σ0 : zSt} {σ : zSt} {x1 : Int32} {s0 : Nat} (h : (zQ [3, 5, 6, 7, 8, 9, 21, 22, 23, 24, 25, 26] [(0, 0, 0), (0, 31, 33), (0, 39, 49)] [4, 10, 11] [(0, 30, 30)]) σ0 σ) : zpc (fX12_sayThree_254 σ x1 s0) (fun r => (zQ [3, 5, 6, 7, 8, 9, 21, 22, 23, 24, 25, 26] [(0, 0, 0), (0, 31, 33), (0, 39, 49)] [4, 10, 11] [(0, 30, 30)]) σ0 (r)) := by
  unfold fX12_sayThree_254
  exact zpc_bu (fV_fX12_say h) (fun σ15 hσ15 => zpc_if (fun _ => zpc_bu (fV_fX12_sayHl hσ15) (fun σ16 hσ16 => fV_fX12_sayThree_266 hσ16)) (fun _ => fV_fX12_sayThree_266 hσ15))
theorem fV_fX12_sayThree_50 {σ0 : zSt} {σ : zSt} {x1 : Int32} {x2 : Int32} {x3 : Int32} (h : (zQ [3, 5, 6, 7, 8, 9, 21, 22, 23, 24, 25, 26] [(0, 0, 0), (0, 31, 33), (0, 39, 49)] [4, 10, 11] [(0, 30, 30)]) σ0 σ) : zpc (fX12_sayThree_50 σ x1 x2 x3) (fun r => (zQ [3, 5, 6, 7, 8, 9, 21, 22, 23, 24, 25, 26] [(0, 0, 0), (0, 31, 33), (0, 39, 49)] [4, 10, 11] [(0, 30, 30)]) σ0 (r)) := by
  unfold fX12_sayThree_50
  exact zpc_if (fun _ => zpc_if (fun _ => fV_fX12_sayThree_91 h) (fun _ => zpc_if (fun _ => fV_fX12_sayThree_91 h) (fun _ => zpc_if (fun _ => fV_fX12_sayThree_91 h) (fun _ => fV_fX12_sayThree_91 h)))) (fun _ => zpc_if (fun _ => fV_fX12_sayThree_127 h) (fun _ => zpc_if (fun _ => fV_fX12_sayThree_127 h) (fun _ => zpc_if (fun _ => zpc_if (fun _ => fV_fX12_sayThree_254 h) (fun _ => zpc_if (fun _ => fV_fX12_sayThree_254 h) (fun _ => zpc_if (fun _ => fV_fX12_sayThree_254 h) (fun _ => fV_fX12_sayThree_254 h)))) (fun _ => zpc_if (fun _ => fV_fX12_sayThree_183 h) (fun _ => fV_fX12_sayThree_183 h)))))
theorem fV_fX12_sayThree {σ0 : zSt} {σ : zSt} {x1 : Int32} {x2 : Int32} (h : (zQ [3, 5, 6, 7, 8, 9, 21, 22, 23, 24, 25, 26] [(0, 0, 0), (0, 31, 33), (0, 39, 49)] [4, 10, 11] [(0, 30, 30)]) σ0 σ) : zpc (fX12_sayThree σ x1 x2) (fun r => (zQ [3, 5, 6, 7, 8, 9, 21, 22, 23, 24, 25, 26] [(0, 0, 0), (0, 31, 33), (0, 39, 49)] [4, 10, 11] [(0, 30, 30)]) σ0 (r)) := by
  unfold fX12_sayThree
  exact zpc_bv (fun v17 _ => zpc_if (fun _ => zpc_bu (fV_fX12_say h) (fun σ20 hσ20 => zpc_bu (fV_fX12_sayCc hσ20) (fun σ21 hσ21 => fV_fX12_sayThree_266 hσ21))) (fun _ => zpc_if (fun _ => zpc_ck (zpc_if (fun _ => zpc_bu (fV_fX12_say h) (fun σ18 hσ18 => zpc_bu (fV_fX12_sayRp hσ18) (fun σ19 hσ19 => fV_fX12_sayThree_266 hσ19))) (fun _ => fV_fX12_sayThree_50 h))) (fun _ => fV_fX12_sayThree_50 h)))
theorem fV_fX12_sayLast_115 {σ0 : zSt} {σ : zSt} (h : (zQ [3, 5, 6, 7, 8, 9, 21, 22, 23, 24, 25, 26] [(0, 0, 0), (0, 31, 33), (0, 39, 49)] [4, 10, 11] [(0, 30, 30)]) σ0 σ) : zpc (fX12_sayLast_115 σ) (fun r => (zQ [3, 5, 6, 7, 8, 9, 21, 22, 23, 24, 25, 26] [(0, 0, 0), (0, 31, 33), (0, 39, 49)] [4, 10, 11] [(0, 30, 30)]) σ0 (r)) := by
  unfold fX12_sayLast_115
  exact zpc_some h
theorem fV_fX12_sayLast_43 {σ0 : zSt} {σ : zSt} (h : (zQ [3, 5, 6, 7, 8, 9, 21, 22, 23, 24, 25, 26] [(0, 0, 0), (0, 31, 33), (0, 39, 49)] [4, 10, 11] [(0, 30, 30)]) σ0 σ) : zpc (fX12_sayLast_43 σ) (fun r => (zQ [3, 5, 6, 7, 8, 9, 21, 22, 23, 24, 25, 26] [(0, 0, 0), (0, 31, 33), (0, 39, 49)] [4, 10, 11] [(0, 30, 30)]) σ0 (r)) := by
  unfold fX12_sayLast_43
  exact zpc_bi (fV_fX12_takenWord h) (fun σ1 v2 hσ1 => zpc_bu (fV_fX12_hex hσ1) (fun σ3 hσ3 => fV_fX12_sayLast_115 hσ3))
theorem fV_fX12_sayLast_19 {σ0 : zSt} {σ : zSt} {x1 : Int32} {x2 : Int32} (h : (zQ [3, 5, 6, 7, 8, 9, 21, 22, 23, 24, 25, 26] [(0, 0, 0), (0, 31, 33), (0, 39, 49)] [4, 10, 11] [(0, 30, 30)]) σ0 σ) : zpc (fX12_sayLast_19 σ x1 x2) (fun r => (zQ [3, 5, 6, 7, 8, 9, 21, 22, 23, 24, 25, 26] [(0, 0, 0), (0, 31, 33), (0, 39, 49)] [4, 10, 11] [(0, 30, 30)]) σ0 (r)) := by
  unfold fX12_sayLast_19
  exact zpc_bu (fV_fX12_say h) (fun σ4 hσ4 => zpc_if (fun _ => zpc_bu (fV_fX12_sayCc hσ4) (fun σ5 hσ5 => zpc_bu (fV_fX12_say hσ5) (fun σ6 hσ6 => fV_fX12_sayLast_43 hσ6))) (fun _ => fV_fX12_sayLast_43 hσ4))
theorem fV_fX12_sayLast_55 {σ0 : zSt} {σ : zSt} {x1 : Int32} {x2 : Int32} {x3 : Int32} (h : (zQ [3, 5, 6, 7, 8, 9, 21, 22, 23, 24, 25, 26] [(0, 0, 0), (0, 31, 33), (0, 39, 49)] [4, 10, 11] [(0, 30, 30)]) σ0 σ) : zpc (fX12_sayLast_55 σ x1 x2 x3) (fun r => (zQ [3, 5, 6, 7, 8, 9, 21, 22, 23, 24, 25, 26] [(0, 0, 0), (0, 31, 33), (0, 39, 49)] [4, 10, 11] [(0, 30, 30)]) σ0 (r)) := by
  unfold fX12_sayLast_55
  exact zpc_if (fun _ => zpc_bu (fV_fX12_say h) (fun σ13 hσ13 => zpc_bu (fV_fX12_sayRp hσ13) (fun σ14 hσ14 => fV_fX12_sayLast_115 hσ14))) (fun _ => zpc_if (fun _ => zpc_bu (fV_fX12_sayDo h) (fun σ9 hσ9 => zpc_bi (fV_fX12_taken hσ9) (fun σ10 v11 hσ10 => zpc_bu (fV_fX12_hex hσ10) (fun σ12 hσ12 => fV_fX12_sayLast_115 hσ12)))) (fun _ => zpc_bu (fV_fX12_say h) (fun σ7 hσ7 => zpc_bu (fV_fX12_hex hσ7) (fun σ8 hσ8 => fV_fX12_sayLast_115 hσ8))))
theorem fV_fX12_sayLast {σ0 : zSt} {σ : zSt} {x1 : Int32} {x2 : Int32} (h : (zQ [3, 5, 6, 7, 8, 9, 21, 22, 23, 24, 25, 26] [(0, 0, 0), (0, 31, 33), (0, 39, 49)] [4, 10, 11] [(0, 30, 30)]) σ0 σ) : zpc (fX12_sayLast σ x1 x2) (fun r => (zQ [3, 5, 6, 7, 8, 9, 21, 22, 23, 24, 25, 26] [(0, 0, 0), (0, 31, 33), (0, 39, 49)] [4, 10, 11] [(0, 30, 30)]) σ0 (r)) := by
  unfold fX12_sayLast
  exact zpc_bv (fun v15 _ => zpc_if (fun _ => fV_fX12_sayLast_19 h) (fun _ => zpc_if (fun _ => zpc_if (fun _ => fV_fX12_sayLast_19 h) (fun _ => fV_fX12_sayLast_55 h)) (fun _ => fV_fX12_sayLast_55 h)))
theorem fV_fX12_sayPlain_137 {σ0 : zSt} {σ : zSt} (h : (zQ [3, 5, 6, 7, 8, 9, 21, 22, 23, 24, 25, 26] [(0, 0, 0), (0, 31, 33), (0, 39, 49)] [4, 10, 11] [(0, 30, 30)]) σ0 σ) : zpc (fX12_sayPlain_137 σ) (fun r => (zQ [3, 5, 6, 7, 8, 9, 21, 22, 23, 24, 25, 26] [(0, 0, 0), (0, 31, 33), (0, 39, 49)] [4, 10, 11] [(0, 30, 30)]) σ0 (r)) := by
  unfold fX12_sayPlain_137
  exact zpc_some h
theorem fV_fX12_sayPlain_32 {σ0 : zSt} {σ : zSt} {x1 : Int32} {x2 : Int32} {x3 : Int32} (h : (zQ [3, 5, 6, 7, 8, 9, 21, 22, 23, 24, 25, 26] [(0, 0, 0), (0, 31, 33), (0, 39, 49)] [4, 10, 11] [(0, 30, 30)]) σ0 σ) : zpc (fX12_sayPlain_32 σ x1 x2 x3) (fun r => (zQ [3, 5, 6, 7, 8, 9, 21, 22, 23, 24, 25, 26] [(0, 0, 0), (0, 31, 33), (0, 39, 49)] [4, 10, 11] [(0, 30, 30)]) σ0 (r)) := by
  unfold fX12_sayPlain_32
  exact zpc_if (fun _ => zpc_if (fun _ => zpc_bu (fV_fX12_say h) (fun σ9 hσ9 => fV_fX12_sayPlain_137 hσ9)) (fun _ => zpc_if (fun _ => zpc_if (fun _ => zpc_if (fun _ => zpc_bu (fV_fX12_sayLast h) (fun σ1 hσ1 => fV_fX12_sayPlain_137 hσ1)) (fun _ => zpc_bu (fV_fX12_sayThree h) (fun σ2 hσ2 => fV_fX12_sayPlain_137 hσ2))) (fun _ => zpc_bu (fV_fX12_sayDo h) (fun σ3 hσ3 => zpc_bu (fV_fX12_sayR hσ3) (fun σ4 hσ4 => fV_fX12_sayPlain_137 hσ4)))) (fun _ => zpc_bu (fV_fX12_say h) (fun σ5 hσ5 => zpc_bu (fV_fX12_sayR hσ5) (fun σ6 hσ6 => zpc_bu (fV_fX12_say hσ6) (fun σ7 hσ7 => zpc_bu (fV_fX12_sayR hσ7) (fun σ8 hσ8 => fV_fX12_sayPlain_137 hσ8))))))) (fun _ => zpc_bu (fV_fX12_saySingle h) (fun σ10 hσ10 => fV_fX12_sayPlain_137 hσ10))
theorem fV_fX12_sayPlain {σ0 : zSt} {σ : zSt} {x1 : Int32} (h : (zQ [3, 5, 6, 7, 8, 9, 21, 22, 23, 24, 25, 26] [(0, 0, 0), (0, 31, 33), (0, 39, 49)] [4, 10, 11] [(0, 30, 30)]) σ0 σ) : zpc (fX12_sayPlain σ x1) (fun r => (zQ [3, 5, 6, 7, 8, 9, 21, 22, 23, 24, 25, 26] [(0, 0, 0), (0, 31, 33), (0, 39, 49)] [4, 10, 11] [(0, 30, 30)]) σ0 (r)) := by
  unfold fX12_sayPlain
  exact zpc_bv (fun v11 _ => zpc_bv (fun v12 _ => zpc_if (fun _ => fV_fX12_sayPlain_32 h) (fun _ => zpc_if (fun _ => fV_fX12_sayPlain_32 h) (fun _ => zpc_bu (fV_fX12_sayZero h) (fun σ13 hσ13 => fV_fX12_sayPlain_137 hσ13)))))
theorem fV_fX12_sayPrefixed_30 {σ0 : zSt} {σ : zSt} (h : (zQ [3, 5, 6, 7, 8, 9, 21, 22, 23, 24, 25, 26] [(0, 0, 0), (0, 31, 33), (0, 39, 49)] [4, 10, 11] [(0, 30, 30)]) σ0 σ) : zpc (fX12_sayPrefixed_30 σ) (fun r => (zQ [3, 5, 6, 7, 8, 9, 21, 22, 23, 24, 25, 26] [(0, 0, 0), (0, 31, 33), (0, 39, 49)] [4, 10, 11] [(0, 30, 30)]) σ0 (r)) := by
  unfold fX12_sayPrefixed_30
  exact zpc_bu (fV_fX12_say h) (fun σ1 hσ1 => zpc_some hσ1)
theorem fV_fX12_sayPrefixed_133 {σ0 : zSt} {σ : zSt} (h : (zQ [3, 5, 6, 7, 8, 9, 21, 22, 23, 24, 25, 26] [(0, 0, 0), (0, 31, 33), (0, 39, 49)] [4, 10, 11] [(0, 30, 30)]) σ0 σ) : zpc (fX12_sayPrefixed_133 σ) (fun r => (zQ [3, 5, 6, 7, 8, 9, 21, 22, 23, 24, 25, 26] [(0, 0, 0), (0, 31, 33), (0, 39, 49)] [4, 10, 11] [(0, 30, 30)]) σ0 (r)) := by
  unfold fX12_sayPrefixed_133
  exact zpc_some h
theorem fV_fX12_sayPrefixed_240 {σ0 : zSt} {σ : zSt} {x2 : Int32} (h : (zQ [3, 5, 6, 7, 8, 9, 21, 22, 23, 24, 25, 26] [(0, 0, 0), (0, 31, 33), (0, 39, 49)] [4, 10, 11] [(0, 30, 30)]) σ0 σ) : zpc (fX12_sayPrefixed_240 σ x2) (fun r => (zQ [3, 5, 6, 7, 8, 9, 21, 22, 23, 24, 25, 26] [(0, 0, 0), (0, 31, 33), (0, 39, 49)] [4, 10, 11] [(0, 30, 30)]) σ0 (r)) := by
  unfold fX12_sayPrefixed_240
  exact zpc_bu (fV_fX12_sayPlain h) (fun σ2 hσ2 => zpc_some hσ2)
theorem fV_fX12_sayPrefixed_219 {σ0 : zSt} {σ : zSt} {x2 : Int32} {s0 : Int32} (h : (zQ [3, 5, 6, 7, 8, 9, 21, 22, 23, 24, 25, 26] [(0, 0, 0), (0, 31, 33), (0, 39, 49)] [4, 10, 11] [(0, 30, 30)]) σ0 σ) : zpc (fX12_sayPrefixed_219 σ x2 s0) (fun r => (zQ [3, 5, 6, 7, 8, 9, 21, 22, 23, 24, 25, 26] [(0, 0, 0), (0, 31, 33), (0, 39, 49)] [4, 10, 11] [(0, 30, 30)]) σ0 (r)) := by
  unfold fX12_sayPrefixed_219
  exact zpc_ck (zpc_bs (zQ.wi h rfl) (fun σ3 hσ3 => zpc_if (fun _ => fV_fX12_sayPrefixed_240 hσ3) (fun _ => zpc_bi (fV_fX12_taken hσ3) (fun σ4 v5 hσ4 => zpc_bi (fV_fX12_signed hσ4) (fun σ6 v7 hσ6 => zpc_bs (zQ.wi hσ6 rfl) (fun σ8 hσ8 => fV_fX12_sayPrefixed_240 hσ8))))))
theorem fV_fX12_sayPrefixed_218 {σ0 : zSt} {σ : zSt} {x2 : Int32} (h : (zQ [3, 5, 6, 7, 8, 9, 21, 22, 23, 24, 25, 26] [(0, 0, 0), (0, 31, 33), (0, 39, 49)] [4, 10, 11] [(0, 30, 30)]) σ0 σ) : zpc (fX12_sayPrefixed_218 σ x2) (fun r => (zQ [3, 5, 6, 7, 8, 9, 21, 22, 23, 24, 25, 26] [(0, 0, 0), (0, 31, 33), (0, 39, 49)] [4, 10, 11] [(0, 30, 30)]) σ0 (r)) := by
  unfold fX12_sayPrefixed_218
  exact fV_fX12_sayPrefixed_219 h
theorem fV_fX12_sayPrefixed_214 {σ0 : zSt} {σ : zSt} {x2 : Int32} (h : (zQ [3, 5, 6, 7, 8, 9, 21, 22, 23, 24, 25, 26] [(0, 0, 0), (0, 31, 33), (0, 39, 49)] [4, 10, 11] [(0, 30, 30)]) σ0 σ) : zpc (fX12_sayPrefixed_214 σ x2) (fun r => (zQ [3, 5, 6, 7, 8, 9, 21, 22, 23, 24, 25, 26] [(0, 0, 0), (0, 31, 33), (0, 39, 49)] [4, 10, 11] [(0, 30, 30)]) σ0 (r)) := by
  unfold fX12_sayPrefixed_214
  exact fV_fX12_sayPrefixed_219 h
theorem fV_fX12_sayPrefixed_201 {σ0 : zSt} {σ : zSt} {x2 : Int32} {x4 : Int32} {x5 : Int32} (h : (zQ [3, 5, 6, 7, 8, 9, 21, 22, 23, 24, 25, 26] [(0, 0, 0), (0, 31, 33), (0, 39, 49)] [4, 10, 11] [(0, 30, 30)]) σ0 σ) : zpc (fX12_sayPrefixed_201 σ x2 x4 x5) (fun r => (zQ [3, 5, 6, 7, 8, 9, 21, 22, 23, 24, 25, 26] [(0, 0, 0), (0, 31, 33), (0, 39, 49)] [4, 10, 11] [(0, 30, 30)]) σ0 (r)) := by
  unfold fX12_sayPrefixed_201
  exact zpc_if (fun _ => zpc_if (fun _ => fV_fX12_sayPrefixed_214 h) (fun _ => fV_fX12_sayPrefixed_218 h)) (fun _ => fV_fX12_sayPrefixed_218 h)
theorem fV_fX12_sayPrefixed_195 {σ0 : zSt} {σ : zSt} {x2 : Int32} {x4 : Int32} {x5 : Int32} (h : (zQ [3, 5, 6, 7, 8, 9, 21, 22, 23, 24, 25, 26] [(0, 0, 0), (0, 31, 33), (0, 39, 49)] [4, 10, 11] [(0, 30, 30)]) σ0 σ) : zpc (fX12_sayPrefixed_195 σ x2 x4 x5) (fun r => (zQ [3, 5, 6, 7, 8, 9, 21, 22, 23, 24, 25, 26] [(0, 0, 0), (0, 31, 33), (0, 39, 49)] [4, 10, 11] [(0, 30, 30)]) σ0 (r)) := by
  unfold fX12_sayPrefixed_195
  exact zpc_if (fun _ => fV_fX12_sayPrefixed_201 h) (fun _ => fV_fX12_sayPrefixed_214 h)
theorem fV_fX12_sayPrefixed_176 {σ0 : zSt} {σ : zSt} {x2 : Int32} {x3 : Int32} {x4 : Int32} {x5 : Int32} (h : (zQ [3, 5, 6, 7, 8, 9, 21, 22, 23, 24, 25, 26] [(0, 0, 0), (0, 31, 33), (0, 39, 49)] [4, 10, 11] [(0, 30, 30)]) σ0 σ) : zpc (fX12_sayPrefixed_176 σ x2 x3 x4 x5) (fun r => (zQ [3, 5, 6, 7, 8, 9, 21, 22, 23, 24, 25, 26] [(0, 0, 0), (0, 31, 33), (0, 39, 49)] [4, 10, 11] [(0, 30, 30)]) σ0 (r)) := by
  unfold fX12_sayPrefixed_176
  exact zpc_if (fun _ => zpc_if (fun _ => fV_fX12_sayPrefixed_195 h) (fun _ => zpc_if (fun _ => fV_fX12_sayPrefixed_195 h) (fun _ => fV_fX12_sayPrefixed_201 h))) (fun _ => fV_fX12_sayPrefixed_201 h)
theorem fV_fX12_sayPrefixed {σ0 : zSt} {σ : zSt} {x1 : Int32} (h : (zQ [3, 5, 6, 7, 8, 9, 21, 22, 23, 24, 25, 26] [(0, 0, 0), (0, 31, 33), (0, 39, 49)] [4, 10, 11] [(0, 30, 30)]) σ0 σ) : zpc (fX12_sayPrefixed σ x1) (fun r => (zQ [3, 5, 6, 7, 8, 9, 21, 22, 23, 24, 25, 26] [(0, 0, 0), (0, 31, 33), (0, 39, 49)] [4, 10, 11] [(0, 30, 30)]) σ0 (r)) := by
  unfold fX12_sayPrefixed
  exact zpc_bi (fV_fX12_read h) (fun σ9 v10 hσ9 => zpc_if (fun _ => fV_fX12_sayPrefixed_30 hσ9) (fun _ => zpc_if (fun _ => fV_fX12_sayPrefixed_30 hσ9) (fun _ => zpc_if (fun _ => fV_fX12_sayPrefixed_30 hσ9) (fun _ => zpc_bs (zQ.wi hσ9 rfl) (fun σ11 hσ11 => zpc_bs (zQ.wi hσ11 rfl) (fun σ12 hσ12 => zpc_bv (fun v13 _ => zpc_bv (fun v14 _ => zpc_bv (fun v15 _ => zpc_if (fun _ => zpc_bi (fV_fX12_taken hσ12) (fun σ16 v17 hσ16 => zpc_bi (fV_fX12_signed hσ16) (fun σ18 v19 hσ18 => zpc_bs (zQ.wi hσ18 rfl) (fun σ20 hσ20 => zpc_ck (zpc_bs (zQ.wi hσ20 rfl) (fun σ21 hσ21 => zpc_bi (fV_fX12_taken hσ21) (fun σ22 v23 hσ22 => zpc_bu (fV_fX12_sayTurn hσ22) (fun σ24 hσ24 => zpc_if (fun _ => fV_fX12_sayPrefixed_133 hσ24) (fun _ => zpc_ck (zpc_if (fun _ => fV_fX12_sayPrefixed_133 hσ24) (fun _ => zpc_bu (fV_fX12_say hσ24) (fun σ25 hσ25 => zpc_ck (zpc_bu (fV_fX12_sayR hσ25) (fun σ26 hσ26 => zpc_some hσ26)))))))))))))) (fun _ => zpc_if (fun _ => zpc_if (fun _ => fV_fX12_sayPrefixed_176 hσ12) (fun _ => zpc_if (fun _ => fV_fX12_sayPrefixed_176 hσ12) (fun _ => zpc_if (fun _ => fV_fX12_sayPrefixed_214 hσ12) (fun _ => fV_fX12_sayPrefixed_176 hσ12)))) (fun _ => fV_fX12_sayPrefixed_176 hσ12)))))))))))
theorem fV_fX12_sayOdd_155 {σ0 : zSt} {σ : zSt} (h : (zQ [3, 5, 6, 7, 8, 9, 21, 22, 23, 24, 25, 26] [(0, 0, 0), (0, 31, 33), (0, 39, 49)] [4, 10, 11] [(0, 30, 30)]) σ0 σ) : zpc (fX12_sayOdd_155 σ) (fun r => (zQ [3, 5, 6, 7, 8, 9, 21, 22, 23, 24, 25, 26] [(0, 0, 0), (0, 31, 33), (0, 39, 49)] [4, 10, 11] [(0, 30, 30)]) σ0 (r)) := by
  unfold fX12_sayOdd_155
  exact zpc_some h
theorem fV_fX12_sayOdd_35 {σ0 : zSt} {σ : zSt} {s0 : Nat} (h : (zQ [3, 5, 6, 7, 8, 9, 21, 22, 23, 24, 25, 26] [(0, 0, 0), (0, 31, 33), (0, 39, 49)] [4, 10, 11] [(0, 30, 30)]) σ0 σ) : zpc (fX12_sayOdd_35 σ s0) (fun r => (zQ [3, 5, 6, 7, 8, 9, 21, 22, 23, 24, 25, 26] [(0, 0, 0), (0, 31, 33), (0, 39, 49)] [4, 10, 11] [(0, 30, 30)]) σ0 (r)) := by
  unfold fX12_sayOdd_35
  exact zpc_bu (fV_fX12_say h) (fun σ1 hσ1 => fV_fX12_sayOdd_155 hσ1)
theorem fV_fX12_sayOdd_77 {σ0 : zSt} {σ : zSt} {s0 : Nat} (h : (zQ [3, 5, 6, 7, 8, 9, 21, 22, 23, 24, 25, 26] [(0, 0, 0), (0, 31, 33), (0, 39, 49)] [4, 10, 11] [(0, 30, 30)]) σ0 σ) : zpc (fX12_sayOdd_77 σ s0) (fun r => (zQ [3, 5, 6, 7, 8, 9, 21, 22, 23, 24, 25, 26] [(0, 0, 0), (0, 31, 33), (0, 39, 49)] [4, 10, 11] [(0, 30, 30)]) σ0 (r)) := by
  unfold fX12_sayOdd_77
  exact zpc_bu (fV_fX12_say h) (fun σ2 hσ2 => fV_fX12_sayOdd_155 hσ2)
theorem fV_fX12_sayOdd_152 {σ0 : zSt} {σ : zSt} {s0 : Nat} (h : (zQ [3, 5, 6, 7, 8, 9, 21, 22, 23, 24, 25, 26] [(0, 0, 0), (0, 31, 33), (0, 39, 49)] [4, 10, 11] [(0, 30, 30)]) σ0 σ) : zpc (fX12_sayOdd_152 σ s0) (fun r => (zQ [3, 5, 6, 7, 8, 9, 21, 22, 23, 24, 25, 26] [(0, 0, 0), (0, 31, 33), (0, 39, 49)] [4, 10, 11] [(0, 30, 30)]) σ0 (r)) := by
  unfold fX12_sayOdd_152
  exact zpc_bu (fV_fX12_say h) (fun σ3 hσ3 => fV_fX12_sayOdd_155 hσ3)
theorem fV_fX12_sayOdd {σ0 : zSt} {σ : zSt} {x1 : Int32} {x2 : Int32} (h : (zQ [3, 5, 6, 7, 8, 9, 21, 22, 23, 24, 25, 26] [(0, 0, 0), (0, 31, 33), (0, 39, 49)] [4, 10, 11] [(0, 30, 30)]) σ0 σ) : zpc (fX12_sayOdd σ x1 x2) (fun r => (zQ [3, 5, 6, 7, 8, 9, 21, 22, 23, 24, 25, 26] [(0, 0, 0), (0, 31, 33), (0, 39, 49)] [4, 10, 11] [(0, 30, 30)]) σ0 (r)) := by
  unfold fX12_sayOdd
  exact zpc_if (fun _ => zpc_bu (fV_fX12_say h) (fun σ4 hσ4 => fV_fX12_sayOdd_155 hσ4)) (fun _ => zpc_if (fun _ => zpc_if (fun _ => fV_fX12_sayOdd_35 h) (fun _ => fV_fX12_sayOdd_35 h)) (fun _ => zpc_if (fun _ => zpc_ck (zpc_if (fun _ => zpc_ck (zpc_if (fun _ => fV_fX12_sayOdd_77 h) (fun _ => fV_fX12_sayOdd_77 h))) (fun _ => fV_fX12_sayOdd_77 h))) (fun _ => zpc_if (fun _ => fV_fX12_sayOdd_152 h) (fun _ => zpc_if (fun _ => fV_fX12_sayOdd_152 h) (fun _ => zpc_if (fun _ => fV_fX12_sayOdd_152 h) (fun _ => zpc_if (fun _ => fV_fX12_sayOdd_152 h) (fun _ => zpc_if (fun _ => fV_fX12_sayOdd_152 h) (fun _ => zpc_if (fun _ => fV_fX12_sayOdd_152 h) (fun _ => fV_fX12_sayOdd_152 h)))))))))
theorem fV_fX12_sayMore_325 {σ0 : zSt} {σ : zSt} (h : (zQ [3, 5, 6, 7, 8, 9, 21, 22, 23, 24, 25, 26] [(0, 0, 0), (0, 31, 33), (0, 39, 49)] [4, 10, 11] [(0, 30, 30)]) σ0 σ) : zpc (fX12_sayMore_325 σ) (fun r => (zQ [3, 5, 6, 7, 8, 9, 21, 22, 23, 24, 25, 26] [(0, 0, 0), (0, 31, 33), (0, 39, 49)] [4, 10, 11] [(0, 30, 30)]) σ0 (r)) := by
  unfold fX12_sayMore_325
  exact zpc_some h
theorem fV_fX12_sayMore_164 {σ0 : zSt} {σ : zSt} (h : (zQ [3, 5, 6, 7, 8, 9, 21, 22, 23, 24, 25, 26] [(0, 0, 0), (0, 31, 33), (0, 39, 49)] [4, 10, 11] [(0, 30, 30)]) σ0 σ) : zpc (fX12_sayMore_164 σ) (fun r => (zQ [3, 5, 6, 7, 8, 9, 21, 22, 23, 24, 25, 26] [(0, 0, 0), (0, 31, 33), (0, 39, 49)] [4, 10, 11] [(0, 30, 30)]) σ0 (r)) := by
  unfold fX12_sayMore_164
  exact zpc_bu (fV_fX12_say h) (fun σ1 hσ1 => fV_fX12_sayMore_325 hσ1)
theorem fV_fX12_sayMore_231 {σ0 : zSt} {σ : zSt} {x2 : Int32} {s0 : Nat} (h : (zQ [3, 5, 6, 7, 8, 9, 21, 22, 23, 24, 25, 26] [(0, 0, 0), (0, 31, 33), (0, 39, 49)] [4, 10, 11] [(0, 30, 30)]) σ0 σ) : zpc (fX12_sayMore_231 σ x2 s0) (fun r => (zQ [3, 5, 6, 7, 8, 9, 21, 22, 23, 24, 25, 26] [(0, 0, 0), (0, 31, 33), (0, 39, 49)] [4, 10, 11] [(0, 30, 30)]) σ0 (r)) := by
  unfold fX12_sayMore_231
  exact zpc_bu (fV_fX12_say h) (fun σ2 hσ2 => zpc_bu (fV_fX12_sayRp hσ2) (fun σ3 hσ3 => fV_fX12_sayMore_325 hσ3))
theorem fV_fX12_sayMore_316 {σ0 : zSt} {σ : zSt} (h : (zQ [3, 5, 6, 7, 8, 9, 21, 22, 23, 24, 25, 26] [(0, 0, 0), (0, 31, 33), (0, 39, 49)] [4, 10, 11] [(0, 30, 30)]) σ0 σ) : zpc (fX12_sayMore_316 σ) (fun r => (zQ [3, 5, 6, 7, 8, 9, 21, 22, 23, 24, 25, 26] [(0, 0, 0), (0, 31, 33), (0, 39, 49)] [4, 10, 11] [(0, 30, 30)]) σ0 (r)) := by
  unfold fX12_sayMore_316
  exact fV_fX12_sayMore_325 h
theorem fV_fX12_sayMore_286 {σ0 : zSt} {σ : zSt} {x2 : Int32} {x5 : Int32} (h : (zQ [3, 5, 6, 7, 8, 9, 21, 22, 23, 24, 25, 26] [(0, 0, 0), (0, 31, 33), (0, 39, 49)] [4, 10, 11] [(0, 30, 30)]) σ0 σ) : zpc (fX12_sayMore_286 σ x2 x5) (fun r => (zQ [3, 5, 6, 7, 8, 9, 21, 22, 23, 24, 25, 26] [(0, 0, 0), (0, 31, 33), (0, 39, 49)] [4, 10, 11] [(0, 30, 30)]) σ0 (r)) := by
  unfold fX12_sayMore_286
  exact zpc_bu (fV_fX12_say h) (fun σ4 hσ4 => zpc_ck (zpc_if (fun _ => zpc_bu (fV_fX12_sayRp hσ4) (fun σ6 hσ6 => fV_fX12_sayMore_316 hσ6)) (fun _ => zpc_bu (fV_fX12_sayPlaced hσ4) (fun σ5 hσ5 => fV_fX12_sayMore_316 hσ5))))
theorem fV_fX12_sayMore_119 {σ0 : zSt} {σ : zSt} {x2 : Int32} {x3 : Int32} {x4 : Int32} (h : (zQ [3, 5, 6, 7, 8, 9, 21, 22, 23, 24, 25, 26] [(0, 0, 0), (0, 31, 33), (0, 39, 49)] [4, 10, 11] [(0, 30, 30)]) σ0 σ) : zpc (fX12_sayMore_119 σ x2 x3 x4) (fun r => (zQ [3, 5, 6, 7, 8, 9, 21, 22, 23, 24, 25, 26] [(0, 0, 0), (0, 31, 33), (0, 39, 49)] [4, 10, 11] [(0, 30, 30)]) σ0 (r)) := by
  unfold fX12_sayMore_119
  exact zpc_if (fun _ => zpc_if (fun _ => zpc_bu (fV_fX12_say h) (fun σ16 hσ16 => zpc_if (fun _ => fV_fX12_sayMore_164 hσ16) (fun _ => zpc_bu (fV_fX12_sayR hσ16) (fun σ17 hσ17 => zpc_bu (fV_fX12_say hσ17) (fun σ18 hσ18 => fV_fX12_sayMore_164 hσ18))))) (fun _ => zpc_if (fun _ => zpc_bu (fV_fX12_say h) (fun σ13 hσ13 => zpc_if (fun _ => zpc_bu (fV_fX12_say hσ13) (fun σ15 hσ15 => fV_fX12_sayMore_325 hσ15)) (fun _ => zpc_bu (fV_fX12_sayR hσ13) (fun σ14 hσ14 => fV_fX12_sayMore_325 hσ14)))) (fun _ => zpc_if (fun _ => zpc_ck (zpc_if (fun _ => fV_fX12_sayMore_231 h) (fun _ => fV_fX12_sayMore_231 h))) (fun _ => zpc_if (fun _ => zpc_bu (fV_fX12_say h) (fun σ8 hσ8 => zpc_bi (fV_fX12_takenWord hσ8) (fun σ9 v10 hσ9 => zpc_ck (zpc_if (fun _ => zpc_bu (fV_fX12_sayPlaced hσ9) (fun σ12 hσ12 => fV_fX12_sayMore_286 hσ12)) (fun _ => zpc_bu (fV_fX12_sayRp hσ9) (fun σ11 hσ11 => fV_fX12_sayMore_286 hσ11)))))) (fun _ => zpc_bu (fV_fX12_sayOdd h) (fun σ7 hσ7 => fV_fX12_sayMore_325 hσ7)))))) (fun _ => zpc_bu (fV_fX12_say h) (fun σ19 hσ19 => fV_fX12_sayMore_325 hσ19))
theorem fV_fX12_sayMore_101 {σ0 : zSt} {σ : zSt} {x2 : Int32} {s0 : Nat} (h : (zQ [3, 5, 6, 7, 8, 9, 21, 22, 23, 24, 25, 26] [(0, 0, 0), (0, 31, 33), (0, 39, 49)] [4, 10, 11] [(0, 30, 30)]) σ0 σ) : zpc (fX12_sayMore_101 σ x2 s0) (fun r => (zQ [3, 5, 6, 7, 8, 9, 21, 22, 23, 24, 25, 26] [(0, 0, 0), (0, 31, 33), (0, 39, 49)] [4, 10, 11] [(0, 30, 30)]) σ0 (r)) := by
  unfold fX12_sayMore_101
  exact zpc_bu (fV_fX12_say h) (fun σ20 hσ20 => zpc_if (fun _ => fV_fX12_sayMore_325 hσ20) (fun _ => zpc_bu (fV_fX12_say hσ20) (fun σ21 hσ21 => fV_fX12_sayMore_325 hσ21)))
theorem fV_fX12_sayMore_82 {σ0 : zSt} {σ : zSt} {x2 : Int32} {s0 : Nat} (h : (zQ [3, 5, 6, 7, 8, 9, 21, 22, 23, 24, 25, 26] [(0, 0, 0), (0, 31, 33), (0, 39, 49)] [4, 10, 11] [(0, 30, 30)]) σ0 σ) : zpc (fX12_sayMore_82 σ x2 s0) (fun r => (zQ [3, 5, 6, 7, 8, 9, 21, 22, 23, 24, 25, 26] [(0, 0, 0), (0, 31, 33), (0, 39, 49)] [4, 10, 11] [(0, 30, 30)]) σ0 (r)) := by
  unfold fX12_sayMore_82
  exact zpc_bu (fV_fX12_say h) (fun σ22 hσ22 => zpc_ck (zpc_if (fun _ => fV_fX12_sayMore_101 hσ22) (fun _ => fV_fX12_sayMore_101 hσ22)))
theorem fV_fX12_sayMore {σ0 : zSt} {σ : zSt} {x1 : Int32} (h : (zQ [3, 5, 6, 7, 8, 9, 21, 22, 23, 24, 25, 26] [(0, 0, 0), (0, 31, 33), (0, 39, 49)] [4, 10, 11] [(0, 30, 30)]) σ0 σ) : zpc (fX12_sayMore σ x1) (fun r => (zQ [3, 5, 6, 7, 8, 9, 21, 22, 23, 24, 25, 26] [(0, 0, 0), (0, 31, 33), (0, 39, 49)] [4, 10, 11] [(0, 30, 30)]) σ0 (r)) := by
  unfold fX12_sayMore
  exact zpc_bv (fun v23 _ => zpc_bv (fun v24 _ => zpc_bv (fun v25 _ => zpc_if (fun _ => zpc_if (fun _ => fV_fX12_sayMore_119 h) (fun _ => zpc_if (fun _ => fV_fX12_sayMore_119 h) (fun _ => zpc_if (fun _ => fV_fX12_sayMore_82 h) (fun _ => zpc_if (fun _ => fV_fX12_sayMore_82 h) (fun _ => zpc_if (fun _ => fV_fX12_sayMore_82 h) (fun _ => zpc_if (fun _ => fV_fX12_sayMore_82 h) (fun _ => fV_fX12_sayMore_82 h))))))) (fun _ => fV_fX12_sayMore_119 h))))
theorem fV_fX12_tell_112 {σ0 : zSt} {σ : zSt} {x2 : Int32} (h : (zQ [3, 5, 6, 7, 8, 9, 21, 22, 23, 24, 25, 26] [(0, 0, 0), (0, 31, 33), (0, 39, 49)] [4, 10, 11] [(0, 30, 30)]) σ0 σ) : zpc (fX12_tell_112 σ x2) (fun r => (zQ [3, 5, 6, 7, 8, 9, 21, 22, 23, 24, 25, 26] [(0, 0, 0), (0, 31, 33), (0, 39, 49)] [4, 10, 11] [(0, 30, 30)]) σ0 (r.1)) := by
  unfold fX12_tell_112
  exact zpc_some h
theorem fV_fX12_tell_65 {σ0 : zSt} {σ : zSt} {x2 : Int32} {s0 : Int32} (h : (zQ [3, 5, 6, 7, 8, 9, 21, 22, 23, 24, 25, 26] [(0, 0, 0), (0, 31, 33), (0, 39, 49)] [4, 10, 11] [(0, 30, 30)]) σ0 σ) : zpc (fX12_tell_65 σ x2 s0) (fun r => (zQ [3, 5, 6, 7, 8, 9, 21, 22, 23, 24, 25, 26] [(0, 0, 0), (0, 31, 33), (0, 39, 49)] [4, 10, 11] [(0, 30, 30)]) σ0 (r.1)) := by
  unfold fX12_tell_65
  exact zpc_bu (fV_fX12_sayPrefixed h) (fun σ1 hσ1 => fV_fX12_tell_112 hσ1)
theorem fV_fX12_tell_52 {σ0 : zSt} {σ : zSt} {x2 : Int32} {x3 : Int32} (h : (zQ [3, 5, 6, 7, 8, 9, 21, 22, 23, 24, 25, 26] [(0, 0, 0), (0, 31, 33), (0, 39, 49)] [4, 10, 11] [(0, 30, 30)]) σ0 σ) : zpc (fX12_tell_52 σ x2 x3) (fun r => (zQ [3, 5, 6, 7, 8, 9, 21, 22, 23, 24, 25, 26] [(0, 0, 0), (0, 31, 33), (0, 39, 49)] [4, 10, 11] [(0, 30, 30)]) σ0 (r.1)) := by
  unfold fX12_tell_52
  exact zpc_if (fun _ => fV_fX12_tell_65 h) (fun _ => fV_fX12_tell_65 h)
theorem fV_fX12_tell {σ0 : zSt} {σ : zSt} {x1 : Int32} (h : (zQ [3, 5, 6, 7, 8, 9, 21, 22, 23, 24, 25, 26] [(0, 0, 0), (0, 31, 33), (0, 39, 49)] [4, 10, 11] [(0, 30, 30)]) σ0 σ) : zpc (fX12_tell σ x1) (fun r => (zQ [3, 5, 6, 7, 8, 9, 21, 22, 23, 24, 25, 26] [(0, 0, 0), (0, 31, 33), (0, 39, 49)] [4, 10, 11] [(0, 30, 30)]) σ0 (r.1)) := by
  unfold fX12_tell
  exact zpc_bs (zQ.wi h rfl) (fun σ2 hσ2 => zpc_bs (zQ.wi hσ2 rfl) (fun σ3 hσ3 => zpc_bs (zQ.wi hσ3 rfl) (fun σ4 hσ4 => zpc_bs (zQ.wi hσ4 rfl) (fun σ5 hσ5 => zpc_ck (zpc_bs (zQ.wi hσ5 rfl) (fun σ6 hσ6 => zpc_bv (fun v7 _ => zpc_bi (fV_fX12_taken hσ6) (fun σ8 v9 hσ8 => zpc_if (fun _ => fV_fX12_tell_52 hσ8) (fun _ => zpc_if (fun _ => fV_fX12_tell_52 hσ8) (fun _ => zpc_if (fun _ => zpc_bi (fV_fX12_taken hσ8) (fun σ14 v15 hσ14 => zpc_bu (fV_fX12_sayTurn hσ14) (fun σ16 hσ16 => fV_fX12_tell_112 hσ16))) (fun _ => zpc_if (fun _ => zpc_bi (fV_fX12_taken hσ8) (fun σ11 v12 hσ11 => zpc_bu (fV_fX12_sayMore hσ11) (fun σ13 hσ13 => fV_fX12_tell_112 hσ13))) (fun _ => zpc_bu (fV_fX12_sayPlain hσ8) (fun σ10 hσ10 => fV_fX12_tell_112 hσ10)))))))))))))
theorem fV_fX12_text_70 {σ0 : zSt} {k37 : zSt → Int32 → Int64 → Int32 → Option (zSt × Int64)} (hk37 : ∀ (y0 : zSt) (y1 : Int32) (y2 : Int64) (y3 : Int32), (zQ [3, 5, 6, 7, 8, 9, 21, 22, 23, 24, 25, 26] [(0, 0, 0), (0, 31, 33), (0, 39, 49)] [4, 10, 11] [(0, 30, 30)]) σ0 y0 → zpc (k37 y0 y1 y2 y3) (fun r => (zQ [3, 5, 6, 7, 8, 9, 21, 22, 23, 24, 25, 26] [(0, 0, 0), (0, 31, 33), (0, 39, 49)] [4, 10, 11] [(0, 30, 30)]) σ0 (r.1))) {σ : zSt} {x1 : Int32} {x4 : Int32} {s0 : Int32} {s1 : Int64} (h : (zQ [3, 5, 6, 7, 8, 9, 21, 22, 23, 24, 25, 26] [(0, 0, 0), (0, 31, 33), (0, 39, 49)] [4, 10, 11] [(0, 30, 30)]) σ0 σ) : zpc (fX12_text_70 k37 σ x1 x4 s0 s1) (fun r => (zQ [3, 5, 6, 7, 8, 9, 21, 22, 23, 24, 25, 26] [(0, 0, 0), (0, 31, 33), (0, 39, 49)] [4, 10, 11] [(0, 30, 30)]) σ0 (r.1)) := by
  unfold fX12_text_70
  exact zpc_bv (fun v1 _ => zpc_bv (fun v2 _ => hk37 _ _ _ _ h))
theorem fV_fX12_text_37_body {σ0 : zSt} {k37 : zSt → Int32 → Int64 → Int32 → Option (zSt × Int64)} (hk37 : ∀ (y0 : zSt) (y1 : Int32) (y2 : Int64) (y3 : Int32), (zQ [3, 5, 6, 7, 8, 9, 21, 22, 23, 24, 25, 26] [(0, 0, 0), (0, 31, 33), (0, 39, 49)] [4, 10, 11] [(0, 30, 30)]) σ0 y0 → zpc (k37 y0 y1 y2 y3) (fun r => (zQ [3, 5, 6, 7, 8, 9, 21, 22, 23, 24, 25, 26] [(0, 0, 0), (0, 31, 33), (0, 39, 49)] [4, 10, 11] [(0, 30, 30)]) σ0 (r.1))) {σ : zSt} {x1 : Int32} {x2 : Int64} {x4 : Int32} (h : (zQ [3, 5, 6, 7, 8, 9, 21, 22, 23, 24, 25, 26] [(0, 0, 0), (0, 31, 33), (0, 39, 49)] [4, 10, 11] [(0, 30, 30)]) σ0 σ) : zpc (fX12_text_37_body k37 σ x1 x2 x4) (fun r => (zQ [3, 5, 6, 7, 8, 9, 21, 22, 23, 24, 25, 26] [(0, 0, 0), (0, 31, 33), (0, 39, 49)] [4, 10, 11] [(0, 30, 30)]) σ0 (r.1)) := by
  unfold fX12_text_37_body
  exact zpc_if (fun _ => zpc_some h) (fun _ => zpc_if (fun _ => fV_fX12_text_70 hk37 h) (fun _ => zpc_ck (fV_fX12_text_70 hk37 h)))
theorem fV_fX12_text_37 {σ0 : zSt} : ∀ (n : Nat) (y0 : zSt) (y1 : Int32) (y2 : Int64) (y3 : Int32), (zQ [3, 5, 6, 7, 8, 9, 21, 22, 23, 24, 25, 26] [(0, 0, 0), (0, 31, 33), (0, 39, 49)] [4, 10, 11] [(0, 30, 30)]) σ0 y0 → zpc (fX12_text_37 n y0 y1 y2 y3) (fun r => (zQ [3, 5, 6, 7, 8, 9, 21, 22, 23, 24, 25, 26] [(0, 0, 0), (0, 31, 33), (0, 39, 49)] [4, 10, 11] [(0, 30, 30)]) σ0 (r.1)) := by
  intro n
  induction n with
  | zero => intro y0 y1 y2 y3 h; exact zpc_none
  | succ n ih => intro y0 y1 y2 y3 h; exact fV_fX12_text_37_body ih h
theorem fV_fX12_text_22 {σ0 : zSt} {σ : zSt} {x1 : Int32} {s0 : Int32} (h : (zQ [3, 5, 6, 7, 8, 9, 21, 22, 23, 24, 25, 26] [(0, 0, 0), (0, 31, 33), (0, 39, 49)] [4, 10, 11] [(0, 30, 30)]) σ0 σ) : zpc (fX12_text_22 σ x1 s0) (fun r => (zQ [3, 5, 6, 7, 8, 9, 21, 22, 23, 24, 25, 26] [(0, 0, 0), (0, 31, 33), (0, 39, 49)] [4, 10, 11] [(0, 30, 30)]) σ0 (r.1)) := by
  unfold fX12_text_22
  exact zpc_bi (fV_fX12_fails h) (fun σ3 v4 hσ3 => zpc_if (fun _ => fV_fX12_text_37 _ _ _ _ _ hσ3) (fun _ => zpc_some hσ3))
theorem fV_fX12_text {σ0 : zSt} {σ : zSt} {x1 : Int32} (h : (zQ [3, 5, 6, 7, 8, 9, 21, 22, 23, 24, 25, 26] [(0, 0, 0), (0, 31, 33), (0, 39, 49)] [4, 10, 11] [(0, 30, 30)]) σ0 σ) : zpc (fX12_text σ x1) (fun r => (zQ [3, 5, 6, 7, 8, 9, 21, 22, 23, 24, 25, 26] [(0, 0, 0), (0, 31, 33), (0, 39, 49)] [4, 10, 11] [(0, 30, 30)]) σ0 (r.1)) := by
  unfold fX12_text
  exact zpc_bi (fV_fX12_within h) (fun σ5 v6 hσ5 => zpc_if (fun _ => fV_fX12_text_22 hσ5) (fun _ => fV_fX12_text_22 hσ5))
end ZJN0
section ZJN1
/-! MEMORIES CHANGED ALIKE; THE TAPE'S CALLS; PICTURE -/
section ZMY
variable {σ μ s t : zSt} {B : Int × Int × Int}
theorem zNow.mem (h : zNow B σ μ) (hM : zM2 s t) (a : zQ [1, 13, 14, 15, 17, 19] [(0, 11, 11)] [] [] σ s) (b : zQ [1, 2, 5, 6] [(0, 0, 2), (0, 5, 9), (0, 19, 19), (3, 29, 32)] [] [] μ t) : zNow B s t := by
  obtain ⟨⟨_, hC, hJ, hI⟩, hF, hW⟩ := h
  have e36 : s.1 36 = σ.1 36 := a.ro (k := 36) rfl
  have e3 : ∀ j, j ≤ 28 → t.1 3 j = μ.1 3 j := fun j hj => b.o (k := 3) (a := 0) (b := 28) rfl (Nat.zero_le _) hj
  refine ⟨⟨hM, ⟨fun j hj n1 n2 => ?_, ?_, ?_, fun j hj => ?_⟩, ?_, ⟨hI.1.kp a b (by decide +kernel) (by decide +kernel), hI.2.kp a b rfl rfl⟩⟩, ?_, ?_⟩
  · rw [e36, e3 j (by omega)]; exact hC.1 j hj n1 n2
  · rw [e36, e3 28 (by decide)]; exact hC.2.1
  · rw [e36, e3 27 (by decide)]; exact hC.2.2.1
  · rw [e36]; exact hC.2.2.2 j hj
  · unfold zJp
    rw [a.ro (k := 7) rfl, b.o (k := 0) (a := 31) (b := 31) rfl (j := 31) (by decide) (by decide)]
    exact hJ
  · unfold zF
    rw [e36, e3 1 (by decide)]
    exact hF
  · unfold zWzz
    rw [e36, e3 20 (by decide)]
    exact hW
theorem zNow.tape (h : zNow B σ μ) (c : zCart s t) (a : zQ [13, 14] [(1, 2, 2)] [] [] σ s) (b : zQ [1] [(0, 0, 0), (0, 2, 2)] [] [] μ t) : zNow B s t := by
  refine h.mem ?_ (a.mono rfl rfl) (b.mono rfl rfl)
  obtain ⟨⟨m1, m2, m3, m4, m5, m6⟩, r1, r2, r3, r4, r5, r6⟩ := h.1.1
  have g3 : t.1 3 = μ.1 3 := b.ro (k := 3) rfl
  have g0 : ∀ j, 5 ≤ j → j ≤ 9 → t.1 0 j = μ.1 0 j := fun j h1 h2 => b.o (k := 0) (a := 5) (b := 9) rfl h1 h2
  have c1 : ∀ j, 3 ≤ j → j ≤ 4 → s.1 1 j = σ.1 1 j := fun j h1 h2 => a.o (k := 1) (a := 3) (b := 4) rfl h1 h2
  refine ⟨⟨fun j hj => ?_, fun j hj => ?_, fun j hj => ?_, ?_, c, ?_⟩, ?_, ?_, ?_, ?_, ?_, fun j j1 j2 => ?_⟩
  · rw [a.ro (k := 15) rfl, b.ro (k := 5) rfl]; exact m1 j hj
  · rw [a.ro (k := 17) rfl, b.ro (k := 6) rfl]; exact m2 j hj
  · rw [a.ro (k := 19) rfl, g3]; exact m3 j hj
  · rw [a.ro (k := 19) rfl, g3]; exact m4
  · unfold zFil
    rw [g0 5 (by decide) (by decide), g0 6 (by decide) (by decide), b.ro (k := 2) rfl]
    exact m6
  · rw [c1 3 (by decide) (by decide)]; exact r1
  · rw [c1 4 (by decide) (by decide)]; exact r2
  · rw [g0 6 (by decide) (by decide)]; exact r3
  · rw [g0 7 (by decide) (by decide)]; exact r4
  · rw [g0 7 (by decide) (by decide), g0 6 (by decide) (by decide)]; exact r5
  · rw [g3]; exact r6 j j1 j2
theorem b_feed (h : zNow B σ μ) (r6 : zR6 σ μ) (hr : zr 0 262656 (zgi μ 0 2)) {x1 : Int32} {x2 x4 x6 : Int64} : zp2 (fX11_feed σ x1 x2 x4 x6) (fX12_feed μ x1 x2 x4 x6) (fun r r' => zNow B (zRis r) r'.1 ∧ zR6 (zRis r) r'.1) := fun a b ea eb => by
  have c := z2_feed r6 hr a b ea eb
  exact ⟨h.tape c.2.2.2 (fy_fX11_feed zQ.rf a ea) (fY_fX12_feed zQ.rf b eb), c⟩
theorem b_grow (h : zNow B σ μ) (r6 : zR6 σ μ) (hr : zr 0 262656 (zgi μ 0 2)) {x1 : Int32} : zp2 (fX11_grow σ x1) (fX12_grow μ x1) (fun r r' => zNow B (zRis r) r'.1 ∧ zR6 (zRis r) r'.1) := fun a b ea eb => by
  have c := z2_grow r6 hr a b ea eb
  exact ⟨h.tape c.2.2.2 (fy_fX11_grow zQ.rf a ea) (fY_fX12_grow zQ.rf b eb), c⟩
theorem b_patch (h : zNow B σ μ) (r6 : zR6 σ μ) (hr : zr 0 262656 (zgi μ 0 2)) {x1 : Int32} {x2 : Int64} : zp2 (fX11_patch σ x1 x2) (fX12_patch μ x1 x2) (fun r r' => zNow B (zRus r) r' ∧ zR6 (zRus r) r') := fun a b ea eb => by
  have c := z2_patch r6 hr a b ea eb
  exact ⟨h.tape c.2.2.2 (fy_fX11_patch zQ.rf a ea) (fY_fX12_patch zQ.rf b eb), c⟩
/-- picture -/
theorem a_picture (h : zNow B s t) (hB : B.1 ≤ 999999990000000) (hP : (t.2 4 2).toInt ≤ 999999900000000) {x : Int32} : zp2 (fX11_picture s x) (fX12_picture t x) (zCal 1 (B.1 + 1000000)) := by
  unfold fX11_picture fX12_picture fX11_picture_10 fX12_picture_18
  have m0 := h.mt
  refine zp2_within (fun w1 w2 => ?_) (fun w => ?_)
  · have hx := z_wir w1 w2 (zrl_c (lo := 1) (hi := 1) (by decide)) (zrl_c (lo := 3) (hi := 3) (by decide))
    refine zp2_ifr (fun q => absurd q (by decide)) (fun _ => zp2_fails0 (fun t1 e1 => ?_))
    refine zp2_ifr (fun _ => zp2_ckr (zp2_bvr (fun v7 e7 => ?_))) (fun q => absurd rfl q)
    refine zp2_ifl (fun q => absurd q (zq_lt hx rfl (by decide))) (fun _ => zp2_ifl (fun _ => ?_) (fun q => absurd (zq_le hx rfl (by decide)) q))
    have h1 : zNow B s t1 := by rw [e1]; exact h.th
    have e42 : t1.2 4 2 = t.2 4 2 := by rw [e1]; rfl
    obtain ⟨c0, c1, c2, c3, c4⟩ := h1.1.2.2.2.2.2.2.1
    have e7 : v7 = t.2 4 2 + x.toInt64 := by rw [e7, show zgl t1 4 (2 : Int32).toNatClampNeg = t.2 4 2 from e42]
    have hx1 := hx.1
    have hx2 := hx.2
    have t7 : v7.toInt = (t.2 4 2).toInt + x.toInt := by
      rw [e7]
      have z := z_tladd (x := t.2 4 2) (y := x.toInt64) (a := 0) (b := 999999900000000) (c := 0) (d := 3) ⟨m0.2, hP⟩ (by unfold zrl; rw [Int32.toInt_toInt64]; omega) (by decide)
      rw [z, Int32.toInt_toInt64]
    obtain ⟨Nl, hNl⟩ : ∃ Nl : Int, Nl = (if t1.1 0 3 = 1 then 313 else 262) := ⟨_, rfl⟩
    obtain ⟨M0, hM0⟩ : ∃ M0 : Int, M0 = (t.2 4 2).toInt * Nl * 228 := ⟨_, rfl⟩
    have hv := h1.1.2.2.2.1
    have b67 : 0 ≤ (t1.1 3 67).toInt := by rw [hv.e21]; exact (hv.2.1.at (k := 23) (j := 21) rfl).1
    have b66 : 0 ≤ (t1.1 3 66).toInt := by rw [hv.e20]; exact (hv.2.1.at (k := 23) (j := 20) rfl).1
    have hm : M0 ≤ zMt t1 := by
      unfold zMt
      rw [e42, hM0, hNl]
      by_cases q : t1.1 0 3 = 1
      · rw [if_pos q]; omega
      · rw [if_neg q]; omega
    have h2 : zNow (B.1, (t.2 4 2).toInt, M0) s t1 := h1.bd (Int.le_refl _) (by rw [e42]; exact Int.le_refl _) hm
    have z0 : (0 : Int32).toInt = 0 := rfl
    unfold fX11_run
    refine zp2_bilp (P := fun r r' => ((∃ C : Int × Int × Int, C.1 ≤ B.1 + 1000000 ∧ zNow C r.1 r'.1) ∧ r'.2 = r.2) ∧ zQ [3, 5, 6, 7, 8, 9, 21, 22, 23, 24, 25] [(0, 31, 33)] [4, 10, 11] [(0, 30, 30)] t1 r'.1) ?_ (fun r v b q => ?_)
    · refine zp2_bll p_cnt2 (fun s1 v1 ev1 => zp2_bvl (fun v21 e21 => ?_))
      cases ev1
      have e21 : v21 = v7 := by rw [e21, e7, c2, e42]
      rw [e21]
      refine zp2_andr (zp2_mono (t_run2 (P0 := (t.2 4 2).toInt) (M0 := M0) hNl hM0 m0.2 ⟨by omega, by omega⟩ zfuel zfuel (B.1, (t.2 4 2).toInt, M0) s t1 0 (zr_c (by decide)) (by rw [z0]; show M0 = M0 + 0; omega) rfl (by rw [z0]; show B.1 + _ ≤ _; omega) (by rw [z0]; show (t.2 4 2).toInt ≤ _; omega) (by omega) h2) (fun r r' q => ?_)) (fk_fX12_picture_40 (σ0 := t1) zfuel t1 v7 0 zQ.rf)
      obtain ⟨⟨C, d1, d4⟩, d5⟩ := q
      have d1 : C.1 ≤ B.1 + (1000000 - (0 : Int32).toInt) := d1
      rw [z0] at d1
      exact ⟨⟨C, by omega, d4⟩, d5⟩
    · obtain ⟨⟨⟨C, d1, d2⟩, d3⟩, d4⟩ := q
      refine zp2_some ⟨⟨C, d1, d2⟩, Or.inr ⟨r, ?_, ?_⟩⟩
      · have d3 : b.2 = v := d3
        rw [d3]
      · have z : b.1.1 0 0 = t1.1 0 0 := zQ.o d4 (k := 0) (a := 0) (b := 0) (j := 0) rfl (by decide) (by decide)
        have y : t1.1 0 0 = 0 := by rw [e1]; exact zsi_ej
        exact z.trans y
  · have hn := z_nin w (a := 1) (b := 3) rfl rfl
    refine zp2_ifr (fun _ => zp2_fails1 (fun t1 e1 => ?_)) (fun q => absurd rfl q)
    refine zp2_ifr (fun q => absurd q (by decide)) (fun _ => ?_)
    have c1 : (1 : Int32).toInt = 1 := rfl
    have c2 : (3 : Int32).toInt = 3 := rfl
    have fin : zp2 (some (Sum.inr (s, 1) : zRi)) (some (t1, (0 : Int32))) (zCal 1 (B.1 + 1000000)) := zp2_some ⟨⟨B, by omega, by rw [e1]; exact h.th⟩, Or.inl ⟨s, rfl, by rw [e1]; exact zTh_own⟩⟩
    refine zp2_ifl (fun _ => fin) (fun q => zp2_ifl (fun q1 => ?_) (fun _ => fin))
    have r1 := Int32.le_iff_toInt_le.mp (z_nlt q)
    have r2 := Int32.le_iff_toInt_le.mp q1
    exfalso; omega
end ZMY
end ZJN1
section ZJN2
/-! LOAD -/
section ZLO
variable {σ μ μ0 s t : zSt} {B : Int × Int × Int} {v : Int32}
theorem zQ_eq (h : zQ [] [] [] [] μ t) : t = μ := Prod.ext (funext fun k => funext fun j => h.1 k j rfl) (funext fun k => funext fun j => h.2 k j rfl)
/-- while the reference loads -/
noncomputable def zLq (μ0 μ : zSt) : Prop := zQ [2] [(0, 0, 0), (0, 2, 2), (0, 5, 9)] [] [] μ0 μ ∧ zFil μ ∧ zr 1 16 (μ.1 0 6) ∧ zr 0 3 (μ.1 0 7)
theorem zLq.w8 (h : zLq μ0 μ) : zLq μ0 (zsi μ 0 8 v) := ⟨zQ.wi h.1 rfl, h.2.1, h.2.2.1, h.2.2.2⟩
theorem zLq.w9 (h : zLq μ0 μ) : zLq μ0 (zsi μ 0 9 v) := ⟨zQ.wi h.1 rfl, h.2.1, h.2.2.1, h.2.2.2⟩
theorem zLq.w7 (h : zLq μ0 μ) (hv : zr 0 3 v) : zLq μ0 (zsi μ 0 7 v) := ⟨zQ.wi h.1 rfl, h.2.1, h.2.2.1, by rw [zsi_ej]; exact hv⟩
noncomputable def zLp (μ0 : zSt) (r : zSt × Int32) : Prop := r.2 = 0 ∧ ∃ μb, zLq μ0 μb ∧ zAx μb r.1 ∧ ∀ j : Nat, j < 8192 → r.1.1 5 j &&& 255 = 0
theorem m_l414 : ∀ (n i : Nat) (t : zSt), i ≤ 8192 → zQ [5] [] [] [] μ t → (∀ j : Nat, j < i → t.1 5 j &&& 255 = 0) → zpc (fX12_load_414 n t (Int32.ofNat i)) (fun r => zQ [5] [(0, 19, 19)] [] [] μ r.1 ∧ (∀ j : Nat, j < 8192 → r.1.1 5 j &&& 255 = 0) ∧ r.2 = 0) := by
  intro n
  induction n with
  | zero => intro i t _ _ _; exact zpc_none
  | succ n ih =>
    intro i t hi hd hin
    show zpc (fX12_load_414_body (fX12_load_414 n) t (Int32.ofNat i)) _
    unfold fX12_load_414_body
    refine zpc_if (fun q => zpc_ck (zpc_bv (fun t1 g1 => zpc_some ⟨?_, fun j hj => ?_, rfl⟩))) (fun q => ?_)
    · rw [g1]; exact zQ.wi (hd.mono rfl rfl) rfl
    · have := (z_ofL (k := 8192) (by omega) rfl).mp q
      show t1.1 5 j &&& 255 = 0
      rw [g1, zsi_ne (by decide)]
      exact hin j (by omega)
    have hi2 : i < 8192 := by
      have : ¬ 8192 ≤ i := fun z => q ((z_ofL (c := 8192) (k := 8192) (i := i) (by omega) rfl).mpr z)
      omega
    rw [z_ofC (by omega), z_ofS (by omega)]
    refine zpc_ck (zpc_bv (fun s1 g1 => zpc_bv (fun x ex => ?_)))
    subst ex
    refine ih (i + 1) s1 (by omega) (by rw [g1]; exact zQ.wi hd rfl) (fun j hj => ?_)
    by_cases z : j = i
    · rw [z, g1, zsi_ej]; decide
    · rw [g1, zsi_nj z]; exact hin j (by omega)
theorem l_404 (h : zLq μ0 μ) {s0 : Int32} : zpc (fX12_load_404 μ s0) (zLp μ0) := by
  unfold fX12_load_404
  refine zpc_bv (fun t7 g7 => zpc_bu m_anewx (fun t8 a8 => ?_))
  refine zpc_mono (m_l414 (μ := t8) zfuel 0 t8 (by decide) zQ.rf (fun j hj => absurd hj (by omega))) (fun r q => ?_)
  obtain ⟨q1, q2, q3⟩ := q
  obtain ⟨a0, b41, b86, b165, b7, b8, b9⟩ := a8
  have e3 : r.1.1 3 = t8.1 3 := q1.ro (k := 3) rfl
  refine ⟨q3, t7, by rw [g7]; exact h.w9, ⟨?_, ?_, ?_, ?_, ?_, ?_, ?_⟩, q2⟩
  · have m1 := a0.mono (R' := [5, 7, 8]) (A' := [(3, 0, 41), (3, 47, 86), (3, 98, 165), (3, 172, 279), (0, 19, 19)]) (S' := []) (B' := []) rfl rfl
    have m2 := q1.mono (R' := [5, 7, 8]) (A' := [(3, 0, 41), (3, 47, 86), (3, 98, 165), (3, 172, 279), (0, 19, 19)]) (S' := []) (B' := []) rfl rfl
    exact m1.tr m2
  · rw [e3]; exact b41
  · rw [e3]; exact b86
  · rw [e3]; exact b165
  · rw [q1.ro (k := 7) rfl]; exact b7
  · rw [q1.ro (k := 8) rfl]; exact b8
  · rw [e3]; exact b9
theorem l_385 (h : zLq μ0 μ) : zpc (fX12_load_385 μ ) (zLp μ0) := by
  unfold fX12_load_385
  exact zpc_if (fun _ => l_404 h) (fun _ => l_404 h)
theorem l_337 {x5 : Int32} : ∀ (n : Nat) (μ : zSt) (x6 : Int32), zLq μ0 μ → zpc (fX12_load_337 n μ x5 x6) (zLp μ0) := by
  intro n
  induction n with
  | zero => intro μ x6 _; exact zpc_none
  | succ n ih =>
    intro μ x6 h
    show zpc (fX12_load_337_body (fX12_load_337 n) μ x5 x6) _
    unfold fX12_load_337_body fX12_load_359
    have go : zpc (zck (zin x6 262144) (zbv (zsi μ 0 9 ((zgi μ 0 9) + ((zgi μ 2 x6.toNatClampNeg) &&& 255))) (fun σ9 => zbv (x6 + 1) (fun v10 => fX12_load_337 n σ9 x5 v10)))) (zLp μ0) := zpc_ck (zpc_bs (h.w9) (fun s hs => zpc_bv (fun v _ => ih s v hs)))
    exact zpc_if (fun _ => l_385 h) (fun _ => zpc_if (fun _ => go) (fun _ => zpc_if (fun _ => l_385 h) (fun _ => go)))
theorem l_298 {x5 : Int32} : ∀ (n : Nat) (μ : zSt) (x6 : Int32), zLq μ0 μ → zpc (fX12_load_298 n μ x5 x6) (zLp μ0) := by
  intro n
  induction n with
  | zero => intro μ x6 _; exact zpc_none
  | succ n ih =>
    intro μ x6 h
    show zpc (fX12_load_298_body (fX12_load_298 n) μ x5 x6) _
    unfold fX12_load_298_body
    exact zpc_if (fun _ => l_337 zfuel μ 32768 h) (fun _ => zpc_ck (zpc_bs (h.w9) (fun s hs => zpc_bv (fun v _ => ih s v hs))))
theorem l_259 (h : zLq μ0 μ) {s0 : Int32} (hs : zr 0 3 s0) : zpc (fX12_load_259 μ s0) (zLp μ0) := by
  unfold fX12_load_259 fX12_load_293
  exact zpc_bs (h.w7 hs) (fun s hs => zpc_bs (hs.w9) (fun s2 h2 => zpc_if (fun _ => zpc_ck (l_298 zfuel s2 0 h2)) (fun _ => l_298 zfuel s2 0 h2)))
theorem l_247 (h : zLq μ0 μ) : zpc (fX12_load_247 μ ) (zLp μ0) := by
  unfold fX12_load_247
  exact zpc_if (fun _ => l_259 h (zr_c (by decide))) (fun _ => l_259 h (zr_c (by decide)))
theorem l_214 (h : zLq μ0 μ) {x3 s0 : Int32} : zpc (fX12_load_214 μ x3 s0) (zLp μ0) := by
  unfold fX12_load_214
  exact zpc_if (fun _ => zpc_if (fun _ => l_247 h) (fun _ => zpc_if (fun _ => l_259 h (zr_c (by decide))) (fun _ => l_247 h))) (fun _ => l_259 h (zr_c (by decide)))
theorem l_192 (h : zLq μ0 μ) {s0 : Int32} : zpc (fX12_load_192 μ s0) (zLp μ0) := by
  unfold fX12_load_192
  refine zpc_if (fun _ => l_214 h) (fun _ => zpc_bi (fz_fX12_bytesAt (σ0 := μ) zQ.rf) (fun t1 w q => ?_))
  have e : t1 = μ := zQ_eq q
  rw [e]
  exact l_214 h
theorem l_142 : ∀ (n : Nat) (μ : zSt) (x3 : Int32), zLq μ0 μ → zpc (fX12_load_142 n μ x3) (zLp μ0) := by
  intro n
  induction n with
  | zero => intro μ x3 _; exact zpc_none
  | succ n ih =>
    intro μ x3 h
    show zpc (fX12_load_142_body (fX12_load_142 n) μ x3) _
    unfold fX12_load_142_body fX12_load_161
    refine zpc_if (fun _ => zpc_if (fun _ => l_192 h) (fun _ => zpc_bi (fz_fX12_bytesAt (σ0 := μ) zQ.rf) (fun t1 w q => ?_))) (fun _ => zpc_bi (fz_fX12_isHeader (σ0 := μ) zQ.rf) (fun t1 w q => ?_))
    · have e : t1 = μ := zQ_eq q
      rw [e]
      exact l_192 h
    · have e : t1 = μ := zQ_eq q
      rw [e]
      exact zpc_if (fun _ => zpc_bv (fun v _ => ih μ v h)) (fun _ => zpc_bs h.w8 (fun s hs => zpc_bv (fun v _ => ih s v hs)))
theorem l_89 {x1 z bk : Int32} (hb : zr 1 16 bk) : ∀ (n : Nat) (μ : zSt) (x3 : Int32), zr 0 262144 x3 → zQ [2] [(0, 0, 0), (0, 2, 2), (0, 5, 9)] [] [] μ0 μ → μ.1 0 5 = z → μ.1 0 6 = bk → zr 0 3 (μ.1 0 7) → (∀ j : Nat, z.toInt ≤ (j : Int) → (j : Int) < x3.toInt → μ.1 2 j &&& 255 = 255) → zpc (fX12_load_89 n μ x1 x3) (zLp μ0) := by
  intro n
  induction n with
  | zero => intro μ x3 _ _ _ _ _ _; exact zpc_none
  | succ n ih =>
    intro μ x3 h3 hd e5 e6 e7 hc
    show zpc (fX12_load_89_body (fX12_load_89 n) μ x1 x3) _
    unfold fX12_load_89_body fX12_load_126
    have b0 := h3.1
    have b9 := h3.2
    have k3 := z_clamp b0
    have tk := z_tmul (x := (16384 : Int32)) (y := bk) (zr_c (lo := 16384) (hi := 16384) (by decide)) hb (by decide)
    have kk : (16384 : Int32).toInt = 16384 := rfl
    rw [kk] at tk
    rw [show zgi μ 0 6 = bk from e6, show zgi μ 0 5 = z from e5]
    refine zpc_if (fun q => zpc_bv (fun μ1 m1 => ?_)) (fun q => ?_)
    · have q1 := Int32.le_iff_toInt_le.mp q
      have h : zLq μ0 μ := ⟨hd, fun j j1 j2 => hc j (by rw [e5] at j1; exact j1) (by rw [e6] at j2; omega), by rw [e6]; exact hb, e7⟩
      rw [m1]
      exact l_142 zfuel _ 8176 h.w8
    · have c1 : (1 : Int32).toInt = 1 := rfl
      have go : ∀ (y : Int32) (μ1 : zSt), x3.toInt < 262144 → μ1 = zsi μ 2 x3.toNatClampNeg (vp_nar .byte y) → (z.toInt ≤ x3.toInt → y &&& 255 = 255) → zpc (fX12_load_89 n μ1 x1 (x3 + 1)) (zLp μ0) := fun y μ1 hx m1 hy => by
        have t : (x3 + 1).toInt = x3.toInt + (1 : Int32).toInt := z_tadd h3 (zr_c (lo := 1) (hi := 1) (by decide)) (by decide)
        refine ih μ1 (x3 + 1) ⟨by omega, by omega⟩ ?_ ?_ ?_ ?_ (fun j j1 j2 => ?_)
        · rw [m1]; exact zQ.wi hd rfl
        · rw [m1, zsi_ne (by decide)]; exact e5
        · rw [m1, zsi_ne (by decide)]; exact e6
        · rw [m1, zsi_ne (by decide)]; exact e7
        · rw [m1]
          by_cases qj : j = x3.toNatClampNeg
          · rw [qj, zsi_ej, z_nar]
            exact hy (by omega)
          · rw [zsi_nj qj]
            exact hc j j1 (by omega)
      have inr : ∀ {w : Option (zSt × Int32)} {Q : zSt × Int32 → Prop}, (x3.toInt < 262144 → zpc w Q) → zpc (zck (zin x3 262144) w) Q := fun {w Q} h => by
        by_cases r : x3.toInt < 262144
        · exact zpc_ck (h r)
        · have e : zin x3 262144 = false := by
            have l : 262144 ≤ x3.toNatClampNeg := by omega
            show (!(decide (x3 < 0) || decide (262144 ≤ x3.toNatClampNeg))) = false
            rw [decide_eq_true l, Bool.or_true]
            rfl
          rw [e]
          exact zpc_none
      refine zpc_if (fun r => inr (fun hx => zpc_bv (fun μ1 m1 => zpc_bv (fun v e => ?_)))) (fun r => zpc_ck (inr (fun hx => zpc_bv (fun μ1 m1 => zpc_bv (fun v e => ?_)))))
      · subst e
        exact go (-1) μ1 hx m1 (fun _ => by decide)
      · subst e
        have r1 := Int32.lt_iff_toInt_lt.mp (z_nle r)
        exact go _ μ1 hx m1 (fun h => by exfalso; omega)
/-- the reference's load: refused, or taken -/
noncomputable def zLr (μ : zSt) (r : zSt × Int32) : Prop := (¬ r.2 = 0 ∧ zQ [] [(0, 0, 0), (0, 2, 2)] [] [] μ r.1) ∨ zLp μ r
theorem l_26 (e7 : zr 0 3 (μ.1 0 7)) (hd : zQ [] [(0, 0, 0)] [] [] μ0 μ) (hr : zr 0 262656 (zgi μ 0 2)) {s0 : Int32} (h0 : zr 0 512 s0) : zpc (fX12_load_26 μ s0) (zLr μ0) := by
  unfold fX12_load_26
  refine zpc_bv (fun v e1 => zpc_bv (fun μ2 e2 => ?_))
  have rv : zr (-512) 262656 v := by rw [e1]; exact zr_sub (lo := -512) (hi := 262656) hr h0 (by decide)
  have d2 : zQ [] [(0, 0, 0), (0, 2, 2)] [] [] μ0 μ2 := by rw [e2]; exact zQ.wi (hd.mono rfl rfl) rfl
  refine zpc_if (fun q5 => zpc_ck (zpc_if (fun q7 => zpc_if (fun q9 => ?_) (fun _ => zpc_some (Or.inl ⟨(by decide : ¬ (3 : Int32) = 0), d2⟩))) (fun _ => zpc_some (Or.inl ⟨(by decide : ¬ (2 : Int32) = 0), d2⟩)))) (fun _ => zpc_some (Or.inl ⟨(by decide : ¬ (1 : Int32) = 0), d2⟩))
  have h6 := zc_ler (8192) q5 (zr_c (lo := 8192) (hi := 8192) (by decide)) rv (by decide)
  have h9 := zc_lel (262144) q9 h6 (zr_c (lo := 262144) (hi := 262144) (by decide)) (by decide)
  refine zpc_bv (fun μ3 e3 => zpc_ck (zpc_bv (fun μ4 e4 => ?_)))
  have t3 : zgi μ3 0 5 = v := by rw [e3]; exact zsi_ej
  rw [t3] at e4
  have rb : zr 1 16 ((v + 16383) / 16384) := zr_div (lo := 1) (hi := 16) 16384 (by decide) (zr_add (lo := 24575) (hi := 278527) h9 (zr_c (lo := 16383) (hi := 16383) (by decide)) (by decide)) (by decide)
  have a5 : μ4.1 0 5 = v := by rw [e4, zsi_nj (by decide)]; exact t3
  have a6 : μ4.1 0 6 = (v + 16383) / 16384 := by rw [e4]; exact zsi_ej
  have a7 : μ4.1 0 7 = μ.1 0 7 := by rw [e4, zsi_nj (by decide), e3, zsi_nj (by decide), e2, zsi_nj (by decide)]
  have d4 : zQ [2] [(0, 0, 0), (0, 2, 2), (0, 5, 9)] [] [] μ0 μ4 := by rw [e4, e3]; exact zQ.wi (zQ.wi (d2.mono rfl rfl) rfl) rfl
  refine zpc_mono (l_89 rb zfuel μ4 0 (zr_c (by decide)) d4 a5 a6 (by rw [a7]; exact e7) (fun j j1 j2 => ?_)) (fun r p => Or.inr p)
  rw [show (0 : Int32).toInt = 0 from rfl] at j2
  exfalso; omega
theorem l_load (e7 : zr 0 3 (μ.1 0 7)) (hr : zr 0 262656 (zgi μ 0 2)) : zpc (fX12_load μ ) (zLr μ) := by
  unfold fX12_load
  refine zpc_bv (fun μ1 e1 => zpc_ck ?_)
  have d1 : zQ [] [(0, 0, 0)] [] [] μ μ1 := by rw [e1]; exact zQ.wi zQ.rf rfl
  have f7 : zr 0 3 (μ1.1 0 7) := by rw [e1]; exact e7
  have fr : zr 0 262656 (zgi μ1 0 2) := by rw [e1]; exact hr
  exact zpc_if (fun _ => l_26 f7 d1 fr (zr_c (by decide))) (fun _ => l_26 f7 d1 fr (zr_c (by decide)))
/-- the class's load: refused, or taken -/
noncomputable def zLs (σ : zSt) (r : zSt × Int32) : Prop := (¬ r.2 = 0 ∧ zQ [] [(1, 2, 2)] [] [] σ r.1) ∨ (r.2 = 0 ∧ ∃ σa, zQ [] [(1, 0, 7)] [] [] σ σa ∧ zCx σa r.1 ∧ (∀ j : Nat, j < 8192 → r.1.1 15 j = 0) ∧ r.1.1 0 11 = 0)
noncomputable def zTkk (σ : zSt) (r : zSt × Int32) : Prop := (¬ r.2 = 0 ∧ zQ [] [(1, 2, 2)] [] [] σ r.1) ∨ (r.2 = 0 ∧ zQ [] [(1, 0, 7)] [] [] σ r.1)
theorem c_take21 {s0 : Int32} : zpc (fX2_takeTape_21 σ s0) (zTkk σ) := by
  unfold fX2_takeTape_21
  refine zpc_bv (fun v e1 => zpc_bv (fun σ2 e2 => ?_))
  have d2 : zQ [] [(1, 2, 2)] [] [] σ σ2 := by rw [e2]; exact zQ.wi zQ.rf rfl
  have d3 : zQ [] [(1, 0, 7)] [] [] σ σ2 := by rw [e2]; exact zQ.wi zQ.rf rfl
  refine zpc_if (fun _ => zpc_ck (zpc_if (fun _ => ?_) (fun _ => zpc_some (Or.inl ⟨(by decide : ¬ (2 : Int32) = 0), d2⟩)))) (fun _ => zpc_some (Or.inl ⟨(by decide : ¬ (1 : Int32) = 0), d2⟩))
  refine zpc_bs (zQ.wi d3 rfl) (fun s3 h3 => zpc_bs (zQ.wi h3 rfl) (fun s4 h4 => zpc_bs (zQ.wi h4 rfl) (fun s5 h5 => zpc_bs (zQ.wi h5 rfl) (fun s6 h6 => zpc_ck (zpc_bs (zQ.wi h6 rfl) (fun s7 h7 => zpc_bi (fx_fX2_findHeader (σ0 := s7) zQ.rf) (fun s8 v8 h8 => ?_)))))))
  have e8 : s8 = s7 := zQ_eq h8
  rw [e8]
  refine zpc_bs (zQ.wi h7 rfl) (fun s10 h10 => zpc_bi (fx_fX2_findPaging (σ0 := s10) zQ.rf) (fun s11 v11 h11 => ?_))
  have e11 : s11 = s10 := zQ_eq h11
  rw [e11]
  exact zpc_bs (zQ.wi h10 rfl) (fun s13 h13 => zpc_some (Or.inr ⟨rfl, h13⟩))
theorem k_load : zpc (fX11_load σ ) (zLs σ) := by
  unfold fX11_load fX11_load_28 fX2_takeTape
  refine zpc_bi (P := zTkk σ) (zpc_ck (zpc_if (fun _ => c_take21) (fun _ => c_take21))) (fun σ1 v2 p => zpc_if (fun q => ?_) (fun q => zpc_some ?_))
  · rcases p with ⟨p, _⟩ | ⟨_, p⟩
    · exact absurd q p
    unfold fX2_clearRam fJ7_fill_53178_k15
    refine zpc_bu (zpc_bu (c_f15 (σ := σ1) zfuel 0 σ1 (by decide) zQ.rf (fun j hj => absurd hj (by omega))) (fun r q => zpc_some q)) (fun σ3 q3 => zpc_bu c_clr (fun σ4 q4 => zpc_ck (zpc_bv (fun σ5 e5 => zpc_some ?_))))
    obtain ⟨a0, c19, c21, c23, c30, c32, c3268, c34, c36, w1, w2, w3, w4⟩ := q4
    have k : ∀ k, ¬ k = 0 → σ5.1 k = σ4.1 k := fun k hk => by rw [e5]; exact zsi_ne hk
    refine Or.inr ⟨q, σ1, p, ⟨?_, ?_, ?_, ?_, ?_, ?_, ?_, ?_, ?_, ?_, ?_, ?_, ?_⟩, fun j hj => ?_, ?_⟩
    · have m1 := q3.1.mono (R' := [15, 19, 21, 23, 30, 32, 36]) (A' := [(34, 0, 6), (0, 11, 11)]) (S' := []) (B' := []) rfl rfl
      have m2 := a0.mono (R' := [15, 19, 21, 23, 30, 32, 36]) (A' := [(34, 0, 6), (0, 11, 11)]) (S' := []) (B' := []) rfl rfl
      show zQ _ _ _ _ σ1 σ5
      rw [e5]
      exact zQ.wi (m1.tr m2) rfl
    · show σ5.1 19 0 = 0 ∧ σ5.1 19 1 = 1 ∧ σ5.1 19 2 = _ ∧ σ5.1 19 3 = 0
      rw [k 19 (by decide)]
      rw [q3.1.ro (k := 1) rfl] at c19
      exact c19
    · show ∀ j : Nat, j < 16384 → σ5.1 21 j = 0
      rw [k 21 (by decide)]; exact c21
    · show ∀ j : Nat, j < 96 → σ5.1 23 j = 0
      rw [k 23 (by decide)]; exact c23
    · show ∀ j : Nat, j < 19 → σ5.1 30 j = _
      rw [k 30 (by decide)]; exact c30
    · show ∀ j : Nat, j < 65 → σ5.1 32 j = 0
      rw [k 32 (by decide)]; exact c32
    · show σ5.1 32 68 = 0
      rw [k 32 (by decide)]; exact c3268
    · show σ5.1 34 0 = 255 ∧ σ5.1 34 1 = 127 ∧ σ5.1 34 2 = 255 ∧ σ5.1 34 3 = 0 ∧ σ5.1 34 4 = 255 ∧ σ5.1 34 5 = 0 ∧ σ5.1 34 6 = 0
      rw [k 34 (by decide)]; exact c34
    · show ∀ j : Nat, j ≤ 28 → σ5.1 36 j = _
      rw [k 36 (by decide)]; exact c36
    · show σ5.1 32 65 = 1
      rw [k 32 (by decide)]; exact w1
    · show σ5.1 32 66 = σ1.1 32 66
      rw [k 32 (by decide), w2, q3.1.ro (k := 32) rfl]
    · show σ5.1 32 67 = 0
      rw [k 32 (by decide)]; exact w3
    · show ∀ j : Nat, 128 ≤ j → j ≤ 271 → σ5.1 32 j = zOp8 j
      rw [k 32 (by decide)]; exact w4
    · show σ5.1 15 j = 0
      rw [k 15 (by decide), a0.ro (k := 15) rfl]
      exact q3.2 j hj
    · show σ5.1 0 11 = 0
      rw [e5]
      exact zsi_ej
  · rcases p with ⟨p, p2⟩ | ⟨p, _⟩
    · exact Or.inl ⟨p, p2⟩
    · exact absurd p q
theorem b_load (h : zNow B σ μ) (r6 : zR6 σ μ) (hr : zr 0 262656 (zgi μ 0 2)) : zp2 (fX11_load σ ) (fX12_load μ ) (fun r r' => r.2 = r'.2 → zr 0 512 (r.1.1 1 3) → zr 0 262144 (r.1.1 1 4) → zNow (B.1, B.2.1, 0) r.1 r'.1) := fun a b ea eb e rr3 rr4 => by
  have c := (z2_load r6 hr a b ea eb e).2.2
  have hpr := h.pr
  have r4 : zr 0 3 (μ.1 0 7) := hpr.2.2.2.1.2.2.2.1
  have hC := k_load a ea
  have hM := l_load r4 hr b eb
  rcases hC with ⟨x1, x2⟩ | ⟨x1, σa, x2, x3, x4, x5⟩
  · rcases hM with ⟨y1, y2⟩ | ⟨y1, _⟩
    · have n : zNow B a.1 b.1 := h.tape c (x2.mono rfl rfl) (y2.mono rfl rfl)
      exact n.bd (Int.le_refl _) n.1.2.2.2.2.2.2.1.2.2.2.2 n.mt.1
    · exact absurd (e.trans y1) x1
  · rcases hM with ⟨y1, y2⟩ | ⟨y1, μb, ⟨y2, y3, y4, y5⟩, y6, y7⟩
    · exact absurd (e.symm.trans x1) y1
    obtain ⟨m2, m5, m6, ⟨r1, r2, r3, _, r5⟩, hJ, ⟨p34, p40, p408, p25⟩, ⟨g34, g408⟩, hR, hP, hS, hT⟩ := hpr
    have k1 : a.1.1 1 = σa.1 1 := x3.1.ro (k := 1) rfl
    have cb : zCart σa μb := by
      refine zCart.keep c (fun j _ => by rw [k1]) ?_ (fun j hj => (y6.1.o (k := 0) (a := 0) (b := 18) rfl (Nat.zero_le _) (by revert hj; simp only [List.mem_cons, List.not_mem_nil, or_false]; omega)).symm) (y6.1.ro (k := 2) rfl).symm
      rcases z_tp13 (a.1.1 1 1) with z | z
      · rw [z]; exact (x3.1.ro (k := 13) rfl).symm
      · rw [z]; exact (x3.1.ro (k := 14) rfl).symm
    rw [k1] at rr3 rr4
    have f0 : ∀ k, ¬ k = 1 → σa.1 k = σ.1 k := fun k hk => funext fun j => x2.1 k j (by
      unfold zcv
      show (false || _) = false
      rw [Bool.false_or, List.any_eq_false]
      intro e he q
      rw [List.mem_singleton] at he
      subst he
      rw [Bool.and_eq_true] at q
      exact hk (Nat.eq_of_beq_eq_true q.1).symm)
    have pr : zPr B σa μb := by
      refine ⟨fun j hj => ?_, cb, y3, ⟨rr3, rr4, zr_w y4 (by decide), y5, Or.inr y4.1⟩, ?_, ⟨fun i hi => ?_, fun i hi => ?_, fun i hi => ?_, fun i hi => ?_⟩, ⟨?_, ?_⟩, ?_, ?_, ?_, ?_⟩
      · rw [f0 17 (by decide), y2.ro (k := 6) rfl]; exact m2 j hj
      · unfold zJp
        rw [f0 7 (by decide), y2.o (k := 0) (a := 31) (b := 31) rfl (j := 31) (by decide) (by decide)]
        exact hJ
      · rw [f0 34 (by decide), y2.ro (k := 3) rfl]; exact p34 i hi
      · rw [f0 40 (by decide), y2.ro (k := 3) rfl]; exact p40 i hi
      · rw [f0 40 (by decide), y2.ro (k := 3) rfl]; exact p408 i hi
      · rw [f0 25 (by decide), y2.ro (k := 9) rfl]; exact p25 i hi
      · rw [f0 34 (by decide)]; exact g34
      · rw [f0 40 (by decide)]; exact g408
      · unfold zRk
        rw [f0 0 (by decide), f0 2 (by decide), f0 3 (by decide), f0 6 (by decide), y2.o (k := 0) (a := 3) (b := 3) rfl (j := 3) (by decide) (by decide)]
        exact hR
      · exact hP.kp x2 y2 rfl rfl
      · exact hS.kp x2 y2 rfl rfl rfl rfl
      · unfold zCt
        rw [x2.rlo (k := 38) rfl, y2.rlo (k := 4) rfl]
        exact hT
    exact pr.rst x3 y6 (fun j hj => by rw [x4 j hj, y7 j hj])
end ZLO
end ZJN2
