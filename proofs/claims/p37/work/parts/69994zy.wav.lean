section ZJN0
theorem fu_fX0_count_20 {σ0 : zSt} {σ : zSt} {s0 : Int64} (h : (zQ [3, 5, 7, 9, 11, 12, 15, 17, 19, 21, 23, 25, 27, 28, 29, 30, 32, 34, 36, 40, 42, 44, 45] [] [5, 38, 46, 48] []) σ0 σ) : zpc (fX0_count_20 σ s0) (fun r => (zQ [3, 5, 7, 9, 11, 12, 15, 17, 19, 21, 23, 25, 27, 28, 29, 30, 32, 34, 36, 40, 42, 44, 45] [] [5, 38, 46, 48] []) σ0 (r.1)) := by
  unfold fX0_count_20
  exact zpc_some h
theorem fu_fX0_count_19 {σ0 : zSt} {σ : zSt} (h : (zQ [3, 5, 7, 9, 11, 12, 15, 17, 19, 21, 23, 25, 27, 28, 29, 30, 32, 34, 36, 40, 42, 44, 45] [] [5, 38, 46, 48] []) σ0 σ) : zpc (fX0_count_19 σ) (fun r => (zQ [3, 5, 7, 9, 11, 12, 15, 17, 19, 21, 23, 25, 27, 28, 29, 30, 32, 34, 36, 40, 42, 44, 45] [] [5, 38, 46, 48] []) σ0 (r.1)) := by
  unfold fX0_count_19
  exact fu_fX0_count_20 h
theorem fu_fX0_count {σ0 : zSt} {σ : zSt} {x1 : Int32} (h : (zQ [3, 5, 7, 9, 11, 12, 15, 17, 19, 21, 23, 25, 27, 28, 29, 30, 32, 34, 36, 40, 42, 44, 45] [] [5, 38, 46, 48] []) σ0 σ) : zpc (fX0_count σ x1) (fun r => (zQ [3, 5, 7, 9, 11, 12, 15, 17, 19, 21, 23, 25, 27, 28, 29, 30, 32, 34, 36, 40, 42, 44, 45] [] [5, 38, 46, 48] []) σ0 (r.1)) := by
  unfold fX0_count
  exact zpc_if (fun _ => fu_fX0_count_19 h) (fun _ => zpc_if (fun _ => fu_fX0_count_19 h) (fun _ => zpc_ck (fu_fX0_count_20 h)))
theorem fu_fX0_countPicture {σ0 : zSt} {σ : zSt} (h : (zQ [3, 5, 7, 9, 11, 12, 15, 17, 19, 21, 23, 25, 27, 28, 29, 30, 32, 34, 36, 40, 42, 44, 45] [] [5, 38, 46, 48] []) σ0 σ) : zpc (fX0_countPicture σ) (fun r => (zQ [3, 5, 7, 9, 11, 12, 15, 17, 19, 21, 23, 25, 27, 28, 29, 30, 32, 34, 36, 40, 42, 44, 45] [] [5, 38, 46, 48] []) σ0 (r)) := by
  unfold fX0_countPicture
  exact zpc_ck (zpc_ck (zpc_bs (zQ.wl h rfl) (fun σ1 hσ1 => zpc_some hσ1)))
theorem fu_fX7_moveTone_57 {σ0 : zSt} {σ : zSt} {x1 : Int32} {x2 : Int32} (h : (zQ [3, 5, 7, 9, 11, 12, 15, 17, 19, 21, 23, 25, 27, 28, 29, 30, 32, 34, 36, 40, 42, 44, 45] [] [5, 38, 46, 48] []) σ0 σ) : zpc (fX7_moveTone_57 σ x1 x2) (fun r => (zQ [3, 5, 7, 9, 11, 12, 15, 17, 19, 21, 23, 25, 27, 28, 29, 30, 32, 34, 36, 40, 42, 44, 45] [] [5, 38, 46, 48] []) σ0 (r)) := by
  unfold fX7_moveTone_57
  exact zpc_ck (zpc_bs (zQ.wi h rfl) (fun σ1 hσ1 => zpc_some hσ1))
theorem fu_fX7_moveTone_56 {σ0 : zSt} {σ : zSt} {x1 : Int32} {x2 : Int32} {s0 : Int32} {s1 : Int32} (h : (zQ [3, 5, 7, 9, 11, 12, 15, 17, 19, 21, 23, 25, 27, 28, 29, 30, 32, 34, 36, 40, 42, 44, 45] [] [5, 38, 46, 48] []) σ0 σ) : zpc (fX7_moveTone_56 σ x1 x2 s0 s1) (fun r => (zQ [3, 5, 7, 9, 11, 12, 15, 17, 19, 21, 23, 25, 27, 28, 29, 30, 32, 34, 36, 40, 42, 44, 45] [] [5, 38, 46, 48] []) σ0 (r)) := by
  unfold fX7_moveTone_56
  exact zpc_ck (zpc_bs (zQ.wi h rfl) (fun σ2 hσ2 => fu_fX7_moveTone_57 hσ2))
theorem fu_fX7_moveTone {σ0 : zSt} {σ : zSt} {x1 : Int32} (h : (zQ [3, 5, 7, 9, 11, 12, 15, 17, 19, 21, 23, 25, 27, 28, 29, 30, 32, 34, 36, 40, 42, 44, 45] [] [5, 38, 46, 48] []) σ0 σ) : zpc (fX7_moveTone σ x1) (fun r => (zQ [3, 5, 7, 9, 11, 12, 15, 17, 19, 21, 23, 25, 27, 28, 29, 30, 32, 34, 36, 40, 42, 44, 45] [] [5, 38, 46, 48] []) σ0 (r)) := by
  unfold fX7_moveTone
  exact zpc_ck (zpc_bv (fun v3 _ => zpc_if (fun _ => zpc_ck (zpc_bv (fun v4 _ => zpc_if (fun _ => zpc_ck (fu_fX7_moveTone_56 h)) (fun _ => fu_fX7_moveTone_56 h)))) (fun _ => fu_fX7_moveTone_57 h)))
theorem fu_fX7_moveNoise_136 {σ0 : zSt} {σ : zSt} (h : (zQ [3, 5, 7, 9, 11, 12, 15, 17, 19, 21, 23, 25, 27, 28, 29, 30, 32, 34, 36, 40, 42, 44, 45] [] [5, 38, 46, 48] []) σ0 σ) : zpc (fX7_moveNoise_136 σ) (fun r => (zQ [3, 5, 7, 9, 11, 12, 15, 17, 19, 21, 23, 25, 27, 28, 29, 30, 32, 34, 36, 40, 42, 44, 45] [] [5, 38, 46, 48] []) σ0 (r)) := by
  unfold fX7_moveNoise_136
  exact zpc_some h
theorem fu_fX7_moveNoise_120 {σ0 : zSt} {σ : zSt} {x2 : Int32} {s0 : Int32} (h : (zQ [3, 5, 7, 9, 11, 12, 15, 17, 19, 21, 23, 25, 27, 28, 29, 30, 32, 34, 36, 40, 42, 44, 45] [] [5, 38, 46, 48] []) σ0 σ) : zpc (fX7_moveNoise_120 σ x2 s0) (fun r => (zQ [3, 5, 7, 9, 11, 12, 15, 17, 19, 21, 23, 25, 27, 28, 29, 30, 32, 34, 36, 40, 42, 44, 45] [] [5, 38, 46, 48] []) σ0 (r)) := by
  unfold fX7_moveNoise_120
  exact zpc_ck (zpc_bs (zQ.wi h rfl) (fun σ1 hσ1 => fu_fX7_moveNoise_136 hσ1))
theorem fu_fX7_moveNoise_65 {σ0 : zSt} {σ : zSt} {s0 : Int32} {s1 : Int32} (h : (zQ [3, 5, 7, 9, 11, 12, 15, 17, 19, 21, 23, 25, 27, 28, 29, 30, 32, 34, 36, 40, 42, 44, 45] [] [5, 38, 46, 48] []) σ0 σ) : zpc (fX7_moveNoise_65 σ s0 s1) (fun r => (zQ [3, 5, 7, 9, 11, 12, 15, 17, 19, 21, 23, 25, 27, 28, 29, 30, 32, 34, 36, 40, 42, 44, 45] [] [5, 38, 46, 48] []) σ0 (r)) := by
  unfold fX7_moveNoise_65
  exact zpc_ck (zpc_bs (zQ.wi h rfl) (fun σ2 hσ2 => zpc_ck (zpc_ck (zpc_bs (zQ.wi hσ2 rfl) (fun σ3 hσ3 => zpc_ck (zpc_if (fun _ => zpc_ck (zpc_bv (fun v4 _ => zpc_ck (zpc_if (fun _ => fu_fX7_moveNoise_120 hσ3) (fun _ => fu_fX7_moveNoise_120 hσ3))))) (fun _ => fu_fX7_moveNoise_136 hσ3)))))))
theorem fu_fX7_moveNoise {σ0 : zSt} {σ : zSt} (h : (zQ [3, 5, 7, 9, 11, 12, 15, 17, 19, 21, 23, 25, 27, 28, 29, 30, 32, 34, 36, 40, 42, 44, 45] [] [5, 38, 46, 48] []) σ0 σ) : zpc (fX7_moveNoise σ) (fun r => (zQ [3, 5, 7, 9, 11, 12, 15, 17, 19, 21, 23, 25, 27, 28, 29, 30, 32, 34, 36, 40, 42, 44, 45] [] [5, 38, 46, 48] []) σ0 (r)) := by
  unfold fX7_moveNoise
  exact zpc_ck (zpc_ck (zpc_bs (zQ.wi h rfl) (fun σ5 hσ5 => zpc_ck (zpc_if (fun _ => zpc_ck (zpc_bv (fun v6 _ => zpc_if (fun _ => zpc_ck (fu_fX7_moveNoise_65 hσ5)) (fun _ => fu_fX7_moveNoise_65 hσ5)))) (fun _ => zpc_some hσ5)))))
theorem fu_fX7_nextSample_87 {σ0 : zSt} {k28 : zSt → Int32 → Int32 → Int32 → Option (zSt × Int32)} (hk28 : ∀ (y0 : zSt) (y1 : Int32) (y2 : Int32) (y3 : Int32), (zQ [3, 5, 7, 9, 11, 12, 15, 17, 19, 21, 23, 25, 27, 28, 29, 30, 32, 34, 36, 40, 42, 44, 45] [] [5, 38, 46, 48] []) σ0 y0 → zpc (k28 y0 y1 y2 y3) (fun r => (zQ [3, 5, 7, 9, 11, 12, 15, 17, 19, 21, 23, 25, 27, 28, 29, 30, 32, 34, 36, 40, 42, 44, 45] [] [5, 38, 46, 48] []) σ0 (r.1))) {σ : zSt} {x1 : Int32} {x2 : Int32} {x3 : Int32} {s0 : Int32} (h : (zQ [3, 5, 7, 9, 11, 12, 15, 17, 19, 21, 23, 25, 27, 28, 29, 30, 32, 34, 36, 40, 42, 44, 45] [] [5, 38, 46, 48] []) σ0 σ) : zpc (fX7_nextSample_87 k28 σ x1 x2 x3 s0) (fun r => (zQ [3, 5, 7, 9, 11, 12, 15, 17, 19, 21, 23, 25, 27, 28, 29, 30, 32, 34, 36, 40, 42, 44, 45] [] [5, 38, 46, 48] []) σ0 (r.1)) := by
  unfold fX7_nextSample_87
  exact zpc_ck (zpc_bv (fun v1 _ => zpc_ck (zpc_bv (fun v2 _ => zpc_bv (fun v3 _ => hk28 _ _ _ _ h)))))
theorem fu_fX7_nextSample_59 {σ0 : zSt} {k28 : zSt → Int32 → Int32 → Int32 → Option (zSt × Int32)} (hk28 : ∀ (y0 : zSt) (y1 : Int32) (y2 : Int32) (y3 : Int32), (zQ [3, 5, 7, 9, 11, 12, 15, 17, 19, 21, 23, 25, 27, 28, 29, 30, 32, 34, 36, 40, 42, 44, 45] [] [5, 38, 46, 48] []) σ0 y0 → zpc (k28 y0 y1 y2 y3) (fun r => (zQ [3, 5, 7, 9, 11, 12, 15, 17, 19, 21, 23, 25, 27, 28, 29, 30, 32, 34, 36, 40, 42, 44, 45] [] [5, 38, 46, 48] []) σ0 (r.1))) {σ : zSt} {x1 : Int32} {x2 : Int32} {x3 : Int32} {s0 : Int32} (h : (zQ [3, 5, 7, 9, 11, 12, 15, 17, 19, 21, 23, 25, 27, 28, 29, 30, 32, 34, 36, 40, 42, 44, 45] [] [5, 38, 46, 48] []) σ0 σ) : zpc (fX7_nextSample_59 k28 σ x1 x2 x3 s0) (fun r => (zQ [3, 5, 7, 9, 11, 12, 15, 17, 19, 21, 23, 25, 27, 28, 29, 30, 32, 34, 36, 40, 42, 44, 45] [] [5, 38, 46, 48] []) σ0 (r.1)) := by
  unfold fX7_nextSample_59
  exact zpc_if (fun _ => zpc_ck (zpc_ck (fu_fX7_nextSample_87 hk28 h))) (fun _ => fu_fX7_nextSample_87 hk28 h)
theorem fu_fX7_nextSample_28_body {σ0 : zSt} {k28 : zSt → Int32 → Int32 → Int32 → Option (zSt × Int32)} (hk28 : ∀ (y0 : zSt) (y1 : Int32) (y2 : Int32) (y3 : Int32), (zQ [3, 5, 7, 9, 11, 12, 15, 17, 19, 21, 23, 25, 27, 28, 29, 30, 32, 34, 36, 40, 42, 44, 45] [] [5, 38, 46, 48] []) σ0 y0 → zpc (k28 y0 y1 y2 y3) (fun r => (zQ [3, 5, 7, 9, 11, 12, 15, 17, 19, 21, 23, 25, 27, 28, 29, 30, 32, 34, 36, 40, 42, 44, 45] [] [5, 38, 46, 48] []) σ0 (r.1))) {σ : zSt} {x1 : Int32} {x2 : Int32} {x3 : Int32} (h : (zQ [3, 5, 7, 9, 11, 12, 15, 17, 19, 21, 23, 25, 27, 28, 29, 30, 32, 34, 36, 40, 42, 44, 45] [] [5, 38, 46, 48] []) σ0 σ) : zpc (fX7_nextSample_28_body k28 σ x1 x2 x3) (fun r => (zQ [3, 5, 7, 9, 11, 12, 15, 17, 19, 21, 23, 25, 27, 28, 29, 30, 32, 34, 36, 40, 42, 44, 45] [] [5, 38, 46, 48] []) σ0 (r.1)) := by
  unfold fX7_nextSample_28_body
  exact zpc_if (fun _ => zpc_some h) (fun _ => zpc_if (fun _ => zpc_ck (fu_fX7_nextSample_59 hk28 h)) (fun _ => zpc_ck (fu_fX7_nextSample_59 hk28 h)))
theorem fu_fX7_nextSample_28 {σ0 : zSt} : ∀ (n : Nat) (y0 : zSt) (y1 : Int32) (y2 : Int32) (y3 : Int32), (zQ [3, 5, 7, 9, 11, 12, 15, 17, 19, 21, 23, 25, 27, 28, 29, 30, 32, 34, 36, 40, 42, 44, 45] [] [5, 38, 46, 48] []) σ0 y0 → zpc (fX7_nextSample_28 n y0 y1 y2 y3) (fun r => (zQ [3, 5, 7, 9, 11, 12, 15, 17, 19, 21, 23, 25, 27, 28, 29, 30, 32, 34, 36, 40, 42, 44, 45] [] [5, 38, 46, 48] []) σ0 (r.1)) := by
  intro n
  induction n with
  | zero => intro y0 y1 y2 y3 h; exact zpc_none
  | succ n ih => intro y0 y1 y2 y3 h; exact fu_fX7_nextSample_28_body ih h
theorem fu_fX7_nextSample_2_body {σ0 : zSt} {k2 : zSt → Int32 → Option (zSt × Int32)} (hk2 : ∀ (y0 : zSt) (y1 : Int32), (zQ [3, 5, 7, 9, 11, 12, 15, 17, 19, 21, 23, 25, 27, 28, 29, 30, 32, 34, 36, 40, 42, 44, 45] [] [5, 38, 46, 48] []) σ0 y0 → zpc (k2 y0 y1) (fun r => (zQ [3, 5, 7, 9, 11, 12, 15, 17, 19, 21, 23, 25, 27, 28, 29, 30, 32, 34, 36, 40, 42, 44, 45] [] [5, 38, 46, 48] []) σ0 (r.1))) {σ : zSt} {x1 : Int32} (h : (zQ [3, 5, 7, 9, 11, 12, 15, 17, 19, 21, 23, 25, 27, 28, 29, 30, 32, 34, 36, 40, 42, 44, 45] [] [5, 38, 46, 48] []) σ0 σ) : zpc (fX7_nextSample_2_body k2 σ x1) (fun r => (zQ [3, 5, 7, 9, 11, 12, 15, 17, 19, 21, 23, 25, 27, 28, 29, 30, 32, 34, 36, 40, 42, 44, 45] [] [5, 38, 46, 48] []) σ0 (r.1)) := by
  unfold fX7_nextSample_2_body
  exact zpc_if (fun _ => zpc_bu (fu_fX7_moveNoise h) (fun σ4 hσ4 => fu_fX7_nextSample_28 _ _ _ _ _ hσ4)) (fun _ => zpc_bu (fu_fX7_moveTone h) (fun σ5 hσ5 => zpc_bv (fun v6 _ => hk2 _ _ hσ5)))
theorem fu_fX7_nextSample_2 {σ0 : zSt} : ∀ (n : Nat) (y0 : zSt) (y1 : Int32), (zQ [3, 5, 7, 9, 11, 12, 15, 17, 19, 21, 23, 25, 27, 28, 29, 30, 32, 34, 36, 40, 42, 44, 45] [] [5, 38, 46, 48] []) σ0 y0 → zpc (fX7_nextSample_2 n y0 y1) (fun r => (zQ [3, 5, 7, 9, 11, 12, 15, 17, 19, 21, 23, 25, 27, 28, 29, 30, 32, 34, 36, 40, 42, 44, 45] [] [5, 38, 46, 48] []) σ0 (r.1)) := by
  intro n
  induction n with
  | zero => intro y0 y1 h; exact zpc_none
  | succ n ih => intro y0 y1 h; exact fu_fX7_nextSample_2_body ih h
theorem fu_fX7_nextSample {σ0 : zSt} {σ : zSt} (h : (zQ [3, 5, 7, 9, 11, 12, 15, 17, 19, 21, 23, 25, 27, 28, 29, 30, 32, 34, 36, 40, 42, 44, 45] [] [5, 38, 46, 48] []) σ0 σ) : zpc (fX7_nextSample σ) (fun r => (zQ [3, 5, 7, 9, 11, 12, 15, 17, 19, 21, 23, 25, 27, 28, 29, 30, 32, 34, 36, 40, 42, 44, 45] [] [5, 38, 46, 48] []) σ0 (r.1)) := by
  unfold fX7_nextSample
  exact fu_fX7_nextSample_2 _ _ _ h
theorem fu_fX6_add_k11_56 {σ0 : zSt} {σ : zSt} (h : (zQ [3, 5, 7, 9, 11, 12, 15, 17, 19, 21, 23, 25, 27, 28, 29, 30, 32, 34, 36, 40, 42, 44, 45] [] [5, 38, 46, 48] []) σ0 σ) : zpc (fX6_add_k11_56 σ) (fun r => (zQ [3, 5, 7, 9, 11, 12, 15, 17, 19, 21, 23, 25, 27, 28, 29, 30, 32, 34, 36, 40, 42, 44, 45] [] [5, 38, 46, 48] []) σ0 (r)) := by
  unfold fX6_add_k11_56
  exact zpc_some h
theorem fu_fX6_add_k11 {σ0 : zSt} {σ : zSt} {x1 : Int64} (h : (zQ [3, 5, 7, 9, 11, 12, 15, 17, 19, 21, 23, 25, 27, 28, 29, 30, 32, 34, 36, 40, 42, 44, 45] [] [5, 38, 46, 48] []) σ0 σ) : zpc (fX6_add_k11 σ x1) (fun r => (zQ [3, 5, 7, 9, 11, 12, 15, 17, 19, 21, 23, 25, 27, 28, 29, 30, 32, 34, 36, 40, 42, 44, 45] [] [5, 38, 46, 48] []) σ0 (r)) := by
  unfold fX6_add_k11
  exact zpc_ck (zpc_bs (zQ.wl h rfl) (fun σ1 hσ1 => zpc_if (fun _ => zpc_bs (zQ.wi hσ1 rfl) (fun σ2 hσ2 => fu_fX6_add_k11_56 hσ2)) (fun _ => zpc_bs (zQ.wi hσ1 rfl) (fun σ3 hσ3 => fu_fX6_add_k11_56 hσ3))))
theorem fu_fX0_addSample {σ0 : zSt} {σ : zSt} (h : (zQ [3, 5, 7, 9, 11, 12, 15, 17, 19, 21, 23, 25, 27, 28, 29, 30, 32, 34, 36, 40, 42, 44, 45] [] [5, 38, 46, 48] []) σ0 σ) : zpc (fX0_addSample σ) (fun r => (zQ [3, 5, 7, 9, 11, 12, 15, 17, 19, 21, 23, 25, 27, 28, 29, 30, 32, 34, 36, 40, 42, 44, 45] [] [5, 38, 46, 48] []) σ0 (r)) := by
  unfold fX0_addSample
  exact zpc_bi (fu_fX7_nextSample h) (fun σ1 v2 hσ1 => zpc_bu (fu_fX6_add_k11 hσ1) (fun σ3 hσ3 => zpc_ck (zpc_ck (zpc_bs (zQ.wl hσ3 rfl) (fun σ4 hσ4 => zpc_ck (zpc_ck (zpc_bs (zQ.wl hσ4 rfl) (fun σ5 hσ5 => zpc_ck (zpc_ck (zpc_bs (zQ.wl hσ5 rfl) (fun σ6 hσ6 => zpc_ck (zpc_ck (zpc_bs (zQ.wl hσ6 rfl) (fun σ7 hσ7 => zpc_some hσ7))))))))))))))
theorem fu_fX10_takeOwnPatch_7_body {σ0 : zSt} {k7 : zSt → Int32 → Option (zSt)} (hk7 : ∀ (y0 : zSt) (y1 : Int32), (zQ [3, 5, 7, 9, 11, 12, 15, 17, 19, 21, 23, 25, 27, 28, 29, 30, 32, 34, 36, 40, 42, 44, 45] [] [5, 38, 46, 48] []) σ0 y0 → zpc (k7 y0 y1) (fun r => (zQ [3, 5, 7, 9, 11, 12, 15, 17, 19, 21, 23, 25, 27, 28, 29, 30, 32, 34, 36, 40, 42, 44, 45] [] [5, 38, 46, 48] []) σ0 (r))) {σ : zSt} {x1 : Int32} (h : (zQ [3, 5, 7, 9, 11, 12, 15, 17, 19, 21, 23, 25, 27, 28, 29, 30, 32, 34, 36, 40, 42, 44, 45] [] [5, 38, 46, 48] []) σ0 σ) : zpc (fX10_takeOwnPatch_7_body k7 σ x1) (fun r => (zQ [3, 5, 7, 9, 11, 12, 15, 17, 19, 21, 23, 25, 27, 28, 29, 30, 32, 34, 36, 40, 42, 44, 45] [] [5, 38, 46, 48] []) σ0 (r)) := by
  unfold fX10_takeOwnPatch_7_body
  exact zpc_if (fun _ => zpc_some h) (fun _ => zpc_ck (zpc_bs (zQ.wl h rfl) (fun σ1 hσ1 => zpc_bv (fun v2 _ => hk7 _ _ hσ1))))
theorem fu_fX10_takeOwnPatch_7 {σ0 : zSt} : ∀ (n : Nat) (y0 : zSt) (y1 : Int32), (zQ [3, 5, 7, 9, 11, 12, 15, 17, 19, 21, 23, 25, 27, 28, 29, 30, 32, 34, 36, 40, 42, 44, 45] [] [5, 38, 46, 48] []) σ0 y0 → zpc (fX10_takeOwnPatch_7 n y0 y1) (fun r => (zQ [3, 5, 7, 9, 11, 12, 15, 17, 19, 21, 23, 25, 27, 28, 29, 30, 32, 34, 36, 40, 42, 44, 45] [] [5, 38, 46, 48] []) σ0 (r)) := by
  intro n
  induction n with
  | zero => intro y0 y1 h; exact zpc_none
  | succ n ih => intro y0 y1 h; exact fu_fX10_takeOwnPatch_7_body ih h
theorem fu_fX10_takeOwnPatch {σ0 : zSt} {σ : zSt} (h : (zQ [3, 5, 7, 9, 11, 12, 15, 17, 19, 21, 23, 25, 27, 28, 29, 30, 32, 34, 36, 40, 42, 44, 45] [] [5, 38, 46, 48] []) σ0 σ) : zpc (fX10_takeOwnPatch σ) (fun r => (zQ [3, 5, 7, 9, 11, 12, 15, 17, 19, 21, 23, 25, 27, 28, 29, 30, 32, 34, 36, 40, 42, 44, 45] [] [5, 38, 46, 48] []) σ0 (r)) := by
  unfold fX10_takeOwnPatch
  exact zpc_bs (zQ.wl h rfl) (fun σ3 hσ3 => fu_fX10_takeOwnPatch_7 _ _ _ hσ3)
theorem fu_fX10_takeChannel_110 {σ0 : zSt} {σ : zSt} {s0 : Int64} (h : (zQ [3, 5, 7, 9, 11, 12, 15, 17, 19, 21, 23, 25, 27, 28, 29, 30, 32, 34, 36, 40, 42, 44, 45] [] [5, 38, 46, 48] []) σ0 σ) : zpc (fX10_takeChannel_110 σ s0) (fun r => (zQ [3, 5, 7, 9, 11, 12, 15, 17, 19, 21, 23, 25, 27, 28, 29, 30, 32, 34, 36, 40, 42, 44, 45] [] [5, 38, 46, 48] []) σ0 (r)) := by
  unfold fX10_takeChannel_110
  exact zpc_bs (zQ.wl h rfl) (fun σ1 hσ1 => zpc_some hσ1)
theorem fu_fX10_takeChannel_106 {σ0 : zSt} {σ : zSt} (h : (zQ [3, 5, 7, 9, 11, 12, 15, 17, 19, 21, 23, 25, 27, 28, 29, 30, 32, 34, 36, 40, 42, 44, 45] [] [5, 38, 46, 48] []) σ0 σ) : zpc (fX10_takeChannel_106 σ) (fun r => (zQ [3, 5, 7, 9, 11, 12, 15, 17, 19, 21, 23, 25, 27, 28, 29, 30, 32, 34, 36, 40, 42, 44, 45] [] [5, 38, 46, 48] []) σ0 (r)) := by
  unfold fX10_takeChannel_106
  exact fu_fX10_takeChannel_110 h
theorem fu_fX10_takeChannel_82 {σ0 : zSt} {σ : zSt} {s0 : Int32} (h : (zQ [3, 5, 7, 9, 11, 12, 15, 17, 19, 21, 23, 25, 27, 28, 29, 30, 32, 34, 36, 40, 42, 44, 45] [] [5, 38, 46, 48] []) σ0 σ) : zpc (fX10_takeChannel_82 σ s0) (fun r => (zQ [3, 5, 7, 9, 11, 12, 15, 17, 19, 21, 23, 25, 27, 28, 29, 30, 32, 34, 36, 40, 42, 44, 45] [] [5, 38, 46, 48] []) σ0 (r)) := by
  unfold fX10_takeChannel_82
  exact zpc_if (fun _ => fu_fX10_takeChannel_106 h) (fun _ => zpc_if (fun _ => fu_fX10_takeChannel_106 h) (fun _ => zpc_ck (fu_fX10_takeChannel_110 h)))
theorem fu_fX10_takeChannel_71 {σ0 : zSt} {σ : zSt} {x1 : Int32} (h : (zQ [3, 5, 7, 9, 11, 12, 15, 17, 19, 21, 23, 25, 27, 28, 29, 30, 32, 34, 36, 40, 42, 44, 45] [] [5, 38, 46, 48] []) σ0 σ) : zpc (fX10_takeChannel_71 σ x1) (fun r => (zQ [3, 5, 7, 9, 11, 12, 15, 17, 19, 21, 23, 25, 27, 28, 29, 30, 32, 34, 36, 40, 42, 44, 45] [] [5, 38, 46, 48] []) σ0 (r)) := by
  unfold fX10_takeChannel_71
  exact zpc_ck (fu_fX10_takeChannel_82 h)
theorem fu_fX10_takeChannel {σ0 : zSt} {σ : zSt} {x1 : Int32} (h : (zQ [3, 5, 7, 9, 11, 12, 15, 17, 19, 21, 23, 25, 27, 28, 29, 30, 32, 34, 36, 40, 42, 44, 45] [] [5, 38, 46, 48] []) σ0 σ) : zpc (fX10_takeChannel σ x1) (fun r => (zQ [3, 5, 7, 9, 11, 12, 15, 17, 19, 21, 23, 25, 27, 28, 29, 30, 32, 34, 36, 40, 42, 44, 45] [] [5, 38, 46, 48] []) σ0 (r)) := by
  unfold fX10_takeChannel
  exact zpc_bs (zQ.wi h rfl) (fun σ2 hσ2 => zpc_ck (zpc_ck (zpc_bs (zQ.wi hσ2 rfl) (fun σ3 hσ3 => zpc_ck (zpc_bs (zQ.wi hσ3 rfl) (fun σ4 hσ4 => zpc_if (fun _ => fu_fX10_takeChannel_71 hσ4) (fun _ => zpc_if (fun _ => fu_fX10_takeChannel_71 hσ4) (fun _ => fu_fX10_takeChannel_82 hσ4))))))))
theorem fu_fX10_isOn_131 {σ0 : zSt} {σ : zSt} {s0 : Int32} (h : (zQ [3, 5, 7, 9, 11, 12, 15, 17, 19, 21, 23, 25, 27, 28, 29, 30, 32, 34, 36, 40, 42, 44, 45] [] [5, 38, 46, 48] []) σ0 σ) : zpc (fX10_isOn_131 σ s0) (fun r => (zQ [3, 5, 7, 9, 11, 12, 15, 17, 19, 21, 23, 25, 27, 28, 29, 30, 32, 34, 36, 40, 42, 44, 45] [] [5, 38, 46, 48] []) σ0 (r.1)) := by
  unfold fX10_isOn_131
  exact zpc_ck (zpc_some h)
theorem fu_fX10_isOn_122 {σ0 : zSt} {σ : zSt} {s0 : Int32} {s1 : Int32} (h : (zQ [3, 5, 7, 9, 11, 12, 15, 17, 19, 21, 23, 25, 27, 28, 29, 30, 32, 34, 36, 40, 42, 44, 45] [] [5, 38, 46, 48] []) σ0 σ) : zpc (fX10_isOn_122 σ s0 s1) (fun r => (zQ [3, 5, 7, 9, 11, 12, 15, 17, 19, 21, 23, 25, 27, 28, 29, 30, 32, 34, 36, 40, 42, 44, 45] [] [5, 38, 46, 48] []) σ0 (r.1)) := by
  unfold fX10_isOn_122
  exact zpc_if (fun _ => fu_fX10_isOn_131 h) (fun _ => fu_fX10_isOn_131 h)
theorem fu_fX10_isOn_105 {σ0 : zSt} {σ : zSt} {s0 : Int32} (h : (zQ [3, 5, 7, 9, 11, 12, 15, 17, 19, 21, 23, 25, 27, 28, 29, 30, 32, 34, 36, 40, 42, 44, 45] [] [5, 38, 46, 48] []) σ0 σ) : zpc (fX10_isOn_105 σ s0) (fun r => (zQ [3, 5, 7, 9, 11, 12, 15, 17, 19, 21, 23, 25, 27, 28, 29, 30, 32, 34, 36, 40, 42, 44, 45] [] [5, 38, 46, 48] []) σ0 (r.1)) := by
  unfold fX10_isOn_105
  exact zpc_ck (zpc_some h)
theorem fu_fX10_isOn_96 {σ0 : zSt} {σ : zSt} {s0 : Int32} {s1 : Int32} (h : (zQ [3, 5, 7, 9, 11, 12, 15, 17, 19, 21, 23, 25, 27, 28, 29, 30, 32, 34, 36, 40, 42, 44, 45] [] [5, 38, 46, 48] []) σ0 σ) : zpc (fX10_isOn_96 σ s0 s1) (fun r => (zQ [3, 5, 7, 9, 11, 12, 15, 17, 19, 21, 23, 25, 27, 28, 29, 30, 32, 34, 36, 40, 42, 44, 45] [] [5, 38, 46, 48] []) σ0 (r.1)) := by
  unfold fX10_isOn_96
  exact zpc_if (fun _ => fu_fX10_isOn_105 h) (fun _ => fu_fX10_isOn_105 h)
theorem fu_fX10_isOn_78 {σ0 : zSt} {σ : zSt} {s0 : Int32} (h : (zQ [3, 5, 7, 9, 11, 12, 15, 17, 19, 21, 23, 25, 27, 28, 29, 30, 32, 34, 36, 40, 42, 44, 45] [] [5, 38, 46, 48] []) σ0 σ) : zpc (fX10_isOn_78 σ s0) (fun r => (zQ [3, 5, 7, 9, 11, 12, 15, 17, 19, 21, 23, 25, 27, 28, 29, 30, 32, 34, 36, 40, 42, 44, 45] [] [5, 38, 46, 48] []) σ0 (r.1)) := by
  unfold fX10_isOn_78
  exact zpc_ck (zpc_some h)
theorem fu_fX10_isOn {σ0 : zSt} {σ : zSt} {x1 : Int32} (h : (zQ [3, 5, 7, 9, 11, 12, 15, 17, 19, 21, 23, 25, 27, 28, 29, 30, 32, 34, 36, 40, 42, 44, 45] [] [5, 38, 46, 48] []) σ0 σ) : zpc (fX10_isOn σ x1) (fun r => (zQ [3, 5, 7, 9, 11, 12, 15, 17, 19, 21, 23, 25, 27, 28, 29, 30, 32, 34, 36, 40, 42, 44, 45] [] [5, 38, 46, 48] []) σ0 (r.1)) := by
  unfold fX10_isOn
  exact zpc_ck (zpc_if (fun _ => zpc_if (fun _ => zpc_ck (zpc_some h)) (fun _ => zpc_if (fun _ => zpc_ck (zpc_if (fun _ => fu_fX10_isOn_78 h) (fun _ => fu_fX10_isOn_78 h))) (fun _ => zpc_if (fun _ => zpc_ck (zpc_if (fun _ => fu_fX10_isOn_96 h) (fun _ => fu_fX10_isOn_96 h))) (fun _ => zpc_if (fun _ => zpc_ck (zpc_if (fun _ => fu_fX10_isOn_122 h) (fun _ => fu_fX10_isOn_122 h))) (fun _ => zpc_ck (zpc_some h)))))) (fun _ => zpc_ck (zpc_some h)))
theorem fu_fX10_part {σ0 : zSt} {σ : zSt} {x1 : Int32} (h : (zQ [3, 5, 7, 9, 11, 12, 15, 17, 19, 21, 23, 25, 27, 28, 29, 30, 32, 34, 36, 40, 42, 44, 45] [] [5, 38, 46, 48] []) σ0 σ) : zpc (fX10_part σ x1) (fun r => (zQ [3, 5, 7, 9, 11, 12, 15, 17, 19, 21, 23, 25, 27, 28, 29, 30, 32, 34, 36, 40, 42, 44, 45] [] [5, 38, 46, 48] []) σ0 (r.1)) := by
  unfold fX10_part
  exact zpc_some h
theorem fu_fX10_rateIn_126 {σ0 : zSt} {σ : zSt} {s0 : Int32} (h : (zQ [3, 5, 7, 9, 11, 12, 15, 17, 19, 21, 23, 25, 27, 28, 29, 30, 32, 34, 36, 40, 42, 44, 45] [] [5, 38, 46, 48] []) σ0 σ) : zpc (fX10_rateIn_126 σ s0) (fun r => (zQ [3, 5, 7, 9, 11, 12, 15, 17, 19, 21, 23, 25, 27, 28, 29, 30, 32, 34, 36, 40, 42, 44, 45] [] [5, 38, 46, 48] []) σ0 (r.1)) := by
  unfold fX10_rateIn_126
  exact zpc_some h
theorem fu_fX10_rateIn_94 {σ0 : zSt} {σ : zSt} {s0 : Int32} (h : (zQ [3, 5, 7, 9, 11, 12, 15, 17, 19, 21, 23, 25, 27, 28, 29, 30, 32, 34, 36, 40, 42, 44, 45] [] [5, 38, 46, 48] []) σ0 σ) : zpc (fX10_rateIn_94 σ s0) (fun r => (zQ [3, 5, 7, 9, 11, 12, 15, 17, 19, 21, 23, 25, 27, 28, 29, 30, 32, 34, 36, 40, 42, 44, 45] [] [5, 38, 46, 48] []) σ0 (r.1)) := by
  unfold fX10_rateIn_94
  exact zpc_some h
theorem fu_fX10_rateIn_16 {σ0 : zSt} {σ : zSt} {x1 : Int32} {x2 : Int32} {s0 : Int32} (h : (zQ [3, 5, 7, 9, 11, 12, 15, 17, 19, 21, 23, 25, 27, 28, 29, 30, 32, 34, 36, 40, 42, 44, 45] [] [5, 38, 46, 48] []) σ0 σ) : zpc (fX10_rateIn_16 σ x1 x2 s0) (fun r => (zQ [3, 5, 7, 9, 11, 12, 15, 17, 19, 21, 23, 25, 27, 28, 29, 30, 32, 34, 36, 40, 42, 44, 45] [] [5, 38, 46, 48] []) σ0 (r.1)) := by
  unfold fX10_rateIn_16
  exact zpc_bi (fu_fX10_part h) (fun σ1 v2 hσ1 => zpc_bv (fun v3 _ => zpc_if (fun _ => zpc_some hσ1) (fun _ => zpc_if (fun _ => zpc_bi (fu_fX10_part hσ1) (fun σ4 v5 hσ4 => zpc_some hσ4)) (fun _ => zpc_if (fun _ => zpc_bi (fu_fX10_part hσ1) (fun σ6 v7 hσ6 => zpc_some hσ6)) (fun _ => zpc_if (fun _ => zpc_if (fun _ => fu_fX10_rateIn_94 hσ1) (fun _ => fu_fX10_rateIn_94 hσ1)) (fun _ => zpc_ck (zpc_if (fun _ => zpc_if (fun _ => fu_fX10_rateIn_126 hσ1) (fun _ => fu_fX10_rateIn_126 hσ1)) (fun _ => zpc_some hσ1))))))))
theorem fu_fX10_rateIn {σ0 : zSt} {σ : zSt} {x1 : Int32} {x2 : Int32} (h : (zQ [3, 5, 7, 9, 11, 12, 15, 17, 19, 21, 23, 25, 27, 28, 29, 30, 32, 34, 36, 40, 42, 44, 45] [] [5, 38, 46, 48] []) σ0 σ) : zpc (fX10_rateIn σ x1 x2) (fun r => (zQ [3, 5, 7, 9, 11, 12, 15, 17, 19, 21, 23, 25, 27, 28, 29, 30, 32, 34, 36, 40, 42, 44, 45] [] [5, 38, 46, 48] []) σ0 (r.1)) := by
  unfold fX10_rateIn
  exact zpc_bi (fu_fX10_part h) (fun σ8 v9 hσ8 => zpc_if (fun _ => fu_fX10_rateIn_16 hσ8) (fun _ => fu_fX10_rateIn_16 hσ8))
theorem fu_fX10_slowTick {σ0 : zSt} {σ : zSt} (h : (zQ [3, 5, 7, 9, 11, 12, 15, 17, 19, 21, 23, 25, 27, 28, 29, 30, 32, 34, 36, 40, 42, 44, 45] [] [5, 38, 46, 48] []) σ0 σ) : zpc (fX10_slowTick σ) (fun r => (zQ [3, 5, 7, 9, 11, 12, 15, 17, 19, 21, 23, 25, 27, 28, 29, 30, 32, 34, 36, 40, 42, 44, 45] [] [5, 38, 46, 48] []) σ0 (r.1)) := by
  unfold fX10_slowTick
  exact zpc_ck (zpc_some h)
theorem fu_fX10_tickAt_53 {σ0 : zSt} {σ : zSt} {s0 : Int32} (h : (zQ [3, 5, 7, 9, 11, 12, 15, 17, 19, 21, 23, 25, 27, 28, 29, 30, 32, 34, 36, 40, 42, 44, 45] [] [5, 38, 46, 48] []) σ0 σ) : zpc (fX10_tickAt_53 σ s0) (fun r => (zQ [3, 5, 7, 9, 11, 12, 15, 17, 19, 21, 23, 25, 27, 28, 29, 30, 32, 34, 36, 40, 42, 44, 45] [] [5, 38, 46, 48] []) σ0 (r.1)) := by
  unfold fX10_tickAt_53
  exact zpc_some h
theorem fu_fX10_tickAt_26 {σ0 : zSt} {σ : zSt} {x2 : Int32} {x3 : Int32} {s0 : Int32} (h : (zQ [3, 5, 7, 9, 11, 12, 15, 17, 19, 21, 23, 25, 27, 28, 29, 30, 32, 34, 36, 40, 42, 44, 45] [] [5, 38, 46, 48] []) σ0 σ) : zpc (fX10_tickAt_26 σ x2 x3 s0) (fun r => (zQ [3, 5, 7, 9, 11, 12, 15, 17, 19, 21, 23, 25, 27, 28, 29, 30, 32, 34, 36, 40, 42, 44, 45] [] [5, 38, 46, 48] []) σ0 (r.1)) := by
  unfold fX10_tickAt_26
  exact zpc_if (fun _ => fu_fX10_tickAt_53 h) (fun _ => zpc_ck (fu_fX10_tickAt_53 h))
theorem fu_fX10_tickAt {σ0 : zSt} {σ : zSt} {x1 : Int32} {x2 : Int32} (h : (zQ [3, 5, 7, 9, 11, 12, 15, 17, 19, 21, 23, 25, 27, 28, 29, 30, 32, 34, 36, 40, 42, 44, 45] [] [5, 38, 46, 48] []) σ0 σ) : zpc (fX10_tickAt σ x1 x2) (fun r => (zQ [3, 5, 7, 9, 11, 12, 15, 17, 19, 21, 23, 25, 27, 28, 29, 30, 32, 34, 36, 40, 42, 44, 45] [] [5, 38, 46, 48] []) σ0 (r.1)) := by
  unfold fX10_tickAt
  exact zpc_bv (fun v1 _ => zpc_ck (zpc_if (fun _ => fu_fX10_tickAt_26 h) (fun _ => fu_fX10_tickAt_26 h)))
theorem fu_fX10_louder_56 {σ0 : zSt} {σ : zSt} {s0 : Int32} (h : (zQ [3, 5, 7, 9, 11, 12, 15, 17, 19, 21, 23, 25, 27, 28, 29, 30, 32, 34, 36, 40, 42, 44, 45] [] [5, 38, 46, 48] []) σ0 σ) : zpc (fX10_louder_56 σ s0) (fun r => (zQ [3, 5, 7, 9, 11, 12, 15, 17, 19, 21, 23, 25, 27, 28, 29, 30, 32, 34, 36, 40, 42, 44, 45] [] [5, 38, 46, 48] []) σ0 (r.1)) := by
  unfold fX10_louder_56
  exact zpc_some h
theorem fu_fX10_louder {σ0 : zSt} {σ : zSt} {x1 : Int32} {x2 : Int32} {x3 : Int32} (h : (zQ [3, 5, 7, 9, 11, 12, 15, 17, 19, 21, 23, 25, 27, 28, 29, 30, 32, 34, 36, 40, 42, 44, 45] [] [5, 38, 46, 48] []) σ0 σ) : zpc (fX10_louder σ x1 x2 x3) (fun r => (zQ [3, 5, 7, 9, 11, 12, 15, 17, 19, 21, 23, 25, 27, 28, 29, 30, 32, 34, 36, 40, 42, 44, 45] [] [5, 38, 46, 48] []) σ0 (r.1)) := by
  unfold fX10_louder
  exact zpc_if (fun _ => zpc_some h) (fun _ => zpc_if (fun _ => zpc_bi (fu_fX10_tickAt h) (fun σ1 v2 hσ1 => zpc_if (fun _ => zpc_ck (fu_fX10_louder_56 hσ1)) (fun _ => fu_fX10_louder_56 hσ1))) (fun _ => zpc_bi (fu_fX10_slowTick h) (fun σ3 v4 hσ3 => zpc_some hσ3)))
theorem fu_fX10_softer {σ0 : zSt} {σ : zSt} {x1 : Int32} {x2 : Int32} (h : (zQ [3, 5, 7, 9, 11, 12, 15, 17, 19, 21, 23, 25, 27, 28, 29, 30, 32, 34, 36, 40, 42, 44, 45] [] [5, 38, 46, 48] []) σ0 σ) : zpc (fX10_softer σ x1 x2) (fun r => (zQ [3, 5, 7, 9, 11, 12, 15, 17, 19, 21, 23, 25, 27, 28, 29, 30, 32, 34, 36, 40, 42, 44, 45] [] [5, 38, 46, 48] []) σ0 (r.1)) := by
  unfold fX10_softer
  exact zpc_if (fun _ => zpc_bi (fu_fX10_slowTick h) (fun σ1 v2 hσ1 => zpc_ck (zpc_some hσ1))) (fun _ => zpc_if (fun _ => zpc_bi (fu_fX10_slowTick h) (fun σ3 v4 hσ3 => zpc_some hσ3)) (fun _ => zpc_if (fun _ => zpc_some h) (fun _ => zpc_bi (fu_fX10_tickAt h) (fun σ5 v6 hσ5 => zpc_some hσ5))))
theorem fu_fX10_moveLevel_148 {σ0 : zSt} {σ : zSt} (h : (zQ [3, 5, 7, 9, 11, 12, 15, 17, 19, 21, 23, 25, 27, 28, 29, 30, 32, 34, 36, 40, 42, 44, 45] [] [5, 38, 46, 48] []) σ0 σ) : zpc (fX10_moveLevel_148 σ) (fun r => (zQ [3, 5, 7, 9, 11, 12, 15, 17, 19, 21, 23, 25, 27, 28, 29, 30, 32, 34, 36, 40, 42, 44, 45] [] [5, 38, 46, 48] []) σ0 (r)) := by
  unfold fX10_moveLevel_148
  exact zpc_some h
theorem fu_fX10_moveLevel_52 {σ0 : zSt} {σ : zSt} {x1 : Int32} {x3 : Int32} {x4 : Int32} (h : (zQ [3, 5, 7, 9, 11, 12, 15, 17, 19, 21, 23, 25, 27, 28, 29, 30, 32, 34, 36, 40, 42, 44, 45] [] [5, 38, 46, 48] []) σ0 σ) : zpc (fX10_moveLevel_52 σ x1 x3 x4) (fun r => (zQ [3, 5, 7, 9, 11, 12, 15, 17, 19, 21, 23, 25, 27, 28, 29, 30, 32, 34, 36, 40, 42, 44, 45] [] [5, 38, 46, 48] []) σ0 (r)) := by
  unfold fX10_moveLevel_52
  exact zpc_ck (zpc_bv (fun v1 _ => zpc_ck (zpc_bv (fun v2 _ => zpc_ck (zpc_if (fun _ => zpc_ck (zpc_bi (fu_fX10_louder h) (fun σ6 v7 hσ6 => zpc_ck (zpc_bs (zQ.wi hσ6 rfl) (fun σ8 hσ8 => fu_fX10_moveLevel_148 hσ8))))) (fun _ => zpc_ck (zpc_bi (fu_fX10_softer h) (fun σ3 v4 hσ3 => zpc_ck (zpc_bs (zQ.wi hσ3 rfl) (fun σ5 hσ5 => fu_fX10_moveLevel_148 hσ5))))))))))
theorem fu_fX10_moveLevel {σ0 : zSt} {σ : zSt} {x1 : Int32} {x2 : Int32} (h : (zQ [3, 5, 7, 9, 11, 12, 15, 17, 19, 21, 23, 25, 27, 28, 29, 30, 32, 34, 36, 40, 42, 44, 45] [] [5, 38, 46, 48] []) σ0 σ) : zpc (fX10_moveLevel σ x1 x2) (fun r => (zQ [3, 5, 7, 9, 11, 12, 15, 17, 19, 21, 23, 25, 27, 28, 29, 30, 32, 34, 36, 40, 42, 44, 45] [] [5, 38, 46, 48] []) σ0 (r)) := by
  unfold fX10_moveLevel
  exact zpc_ck (zpc_bi (fu_fX10_rateIn h) (fun σ9 v10 hσ9 => zpc_if (fun _ => zpc_some hσ9) (fun _ => zpc_bv (fun v11 _ => zpc_bi (fu_fX10_part hσ9) (fun σ12 v13 hσ12 => zpc_if (fun _ => zpc_ck (zpc_bv (fun v14 _ => fu_fX10_moveLevel_52 hσ12))) (fun _ => fu_fX10_moveLevel_52 hσ12))))))
theorem fu_fX10_moveState_96 {σ0 : zSt} {σ : zSt} (h : (zQ [3, 5, 7, 9, 11, 12, 15, 17, 19, 21, 23, 25, 27, 28, 29, 30, 32, 34, 36, 40, 42, 44, 45] [] [5, 38, 46, 48] []) σ0 σ) : zpc (fX10_moveState_96 σ) (fun r => (zQ [3, 5, 7, 9, 11, 12, 15, 17, 19, 21, 23, 25, 27, 28, 29, 30, 32, 34, 36, 40, 42, 44, 45] [] [5, 38, 46, 48] []) σ0 (r)) := by
  unfold fX10_moveState_96
  exact zpc_some h
theorem fu_fX10_moveState_73 {σ0 : zSt} {σ : zSt} {x1 : Int32} {x2 : Int32} {x3 : Int32} {x4 : Int32} (h : (zQ [3, 5, 7, 9, 11, 12, 15, 17, 19, 21, 23, 25, 27, 28, 29, 30, 32, 34, 36, 40, 42, 44, 45] [] [5, 38, 46, 48] []) σ0 σ) : zpc (fX10_moveState_73 σ x1 x2 x3 x4) (fun r => (zQ [3, 5, 7, 9, 11, 12, 15, 17, 19, 21, 23, 25, 27, 28, 29, 30, 32, 34, 36, 40, 42, 44, 45] [] [5, 38, 46, 48] []) σ0 (r)) := by
  unfold fX10_moveState_73
  exact zpc_if (fun _ => zpc_ck (zpc_if (fun _ => fu_fX10_moveState_96 h) (fun _ => zpc_ck (zpc_bs (zQ.wi h rfl) (fun σ1 hσ1 => fu_fX10_moveState_96 hσ1))))) (fun _ => fu_fX10_moveState_96 h)
theorem fu_fX10_moveState_51 {σ0 : zSt} {σ : zSt} {x1 : Int32} {x2 : Int32} {x3 : Int32} {x4 : Int32} (h : (zQ [3, 5, 7, 9, 11, 12, 15, 17, 19, 21, 23, 25, 27, 28, 29, 30, 32, 34, 36, 40, 42, 44, 45] [] [5, 38, 46, 48] []) σ0 σ) : zpc (fX10_moveState_51 σ x1 x2 x3 x4) (fun r => (zQ [3, 5, 7, 9, 11, 12, 15, 17, 19, 21, 23, 25, 27, 28, 29, 30, 32, 34, 36, 40, 42, 44, 45] [] [5, 38, 46, 48] []) σ0 (r)) := by
  unfold fX10_moveState_51
  exact zpc_if (fun _ => zpc_if (fun _ => zpc_ck (zpc_bs (zQ.wi h rfl) (fun σ2 hσ2 => fu_fX10_moveState_96 hσ2))) (fun _ => fu_fX10_moveState_73 h)) (fun _ => fu_fX10_moveState_73 h)
theorem fu_fX10_moveState {σ0 : zSt} {σ : zSt} {x1 : Int32} {x2 : Int32} (h : (zQ [3, 5, 7, 9, 11, 12, 15, 17, 19, 21, 23, 25, 27, 28, 29, 30, 32, 34, 36, 40, 42, 44, 45] [] [5, 38, 46, 48] []) σ0 σ) : zpc (fX10_moveState σ x1 x2) (fun r => (zQ [3, 5, 7, 9, 11, 12, 15, 17, 19, 21, 23, 25, 27, 28, 29, 30, 32, 34, 36, 40, 42, 44, 45] [] [5, 38, 46, 48] []) σ0 (r)) := by
  unfold fX10_moveState
  exact zpc_ck (zpc_bv (fun v3 _ => zpc_ck (zpc_bv (fun v4 _ => zpc_if (fun _ => zpc_if (fun _ => fu_fX10_moveState_51 h) (fun _ => zpc_ck (zpc_bs (zQ.wi h rfl) (fun σ5 hσ5 => zpc_ck (zpc_bs (zQ.wi hσ5 rfl) (fun σ6 hσ6 => fu_fX10_moveState_96 hσ6)))))) (fun _ => fu_fX10_moveState_51 h)))))
theorem fu_fX10_sway_56 {σ0 : zSt} {σ : zSt} {x1 : Int32} (h : (zQ [3, 5, 7, 9, 11, 12, 15, 17, 19, 21, 23, 25, 27, 28, 29, 30, 32, 34, 36, 40, 42, 44, 45] [] [5, 38, 46, 48] []) σ0 σ) : zpc (fX10_sway_56 σ x1) (fun r => (zQ [3, 5, 7, 9, 11, 12, 15, 17, 19, 21, 23, 25, 27, 28, 29, 30, 32, 34, 36, 40, 42, 44, 45] [] [5, 38, 46, 48] []) σ0 (r.1)) := by
  unfold fX10_sway_56
  exact zpc_ck (zpc_some h)
theorem fu_fX10_sway_70 {σ0 : zSt} {σ : zSt} (h : (zQ [3, 5, 7, 9, 11, 12, 15, 17, 19, 21, 23, 25, 27, 28, 29, 30, 32, 34, 36, 40, 42, 44, 45] [] [5, 38, 46, 48] []) σ0 σ) : zpc (fX10_sway_70 σ) (fun r => (zQ [3, 5, 7, 9, 11, 12, 15, 17, 19, 21, 23, 25, 27, 28, 29, 30, 32, 34, 36, 40, 42, 44, 45] [] [5, 38, 46, 48] []) σ0 (r.1)) := by
  unfold fX10_sway_70
  exact zpc_some h
theorem fu_fX10_sway_62 {σ0 : zSt} {σ : zSt} {x1 : Int32} (h : (zQ [3, 5, 7, 9, 11, 12, 15, 17, 19, 21, 23, 25, 27, 28, 29, 30, 32, 34, 36, 40, 42, 44, 45] [] [5, 38, 46, 48] []) σ0 σ) : zpc (fX10_sway_62 σ x1) (fun r => (zQ [3, 5, 7, 9, 11, 12, 15, 17, 19, 21, 23, 25, 27, 28, 29, 30, 32, 34, 36, 40, 42, 44, 45] [] [5, 38, 46, 48] []) σ0 (r.1)) := by
  unfold fX10_sway_62
  exact zpc_ck (zpc_some h)
theorem fu_fX10_sway {σ0 : zSt} {σ : zSt} {x1 : Int32} (h : (zQ [3, 5, 7, 9, 11, 12, 15, 17, 19, 21, 23, 25, 27, 28, 29, 30, 32, 34, 36, 40, 42, 44, 45] [] [5, 38, 46, 48] []) σ0 σ) : zpc (fX10_sway σ x1) (fun r => (zQ [3, 5, 7, 9, 11, 12, 15, 17, 19, 21, 23, 25, 27, 28, 29, 30, 32, 34, 36, 40, 42, 44, 45] [] [5, 38, 46, 48] []) σ0 (r.1)) := by
  unfold fX10_sway
  exact zpc_ck (zpc_if (fun _ => fu_fX10_sway_56 h) (fun _ => zpc_if (fun _ => zpc_some h) (fun _ => zpc_if (fun _ => fu_fX10_sway_56 h) (fun _ => zpc_if (fun _ => fu_fX10_sway_70 h) (fun _ => zpc_if (fun _ => fu_fX10_sway_62 h) (fun _ => zpc_if (fun _ => zpc_some h) (fun _ => zpc_if (fun _ => fu_fX10_sway_62 h) (fun _ => fu_fX10_sway_70 h))))))))
theorem fu_fX10_movePhase_22 {σ0 : zSt} {σ : zSt} {x1 : Int32} {x2 : Int32} {s0 : Int32} (h : (zQ [3, 5, 7, 9, 11, 12, 15, 17, 19, 21, 23, 25, 27, 28, 29, 30, 32, 34, 36, 40, 42, 44, 45] [] [5, 38, 46, 48] []) σ0 σ) : zpc (fX10_movePhase_22 σ x1 x2 s0) (fun r => (zQ [3, 5, 7, 9, 11, 12, 15, 17, 19, 21, 23, 25, 27, 28, 29, 30, 32, 34, 36, 40, 42, 44, 45] [] [5, 38, 46, 48] []) σ0 (r)) := by
  unfold fX10_movePhase_22
  exact zpc_ck (zpc_ck (zpc_bv (fun v1 _ => zpc_ck (zpc_ck (zpc_bs (zQ.wi h rfl) (fun σ2 hσ2 => zpc_some hσ2))))))
theorem fu_fX10_movePhase {σ0 : zSt} {σ : zSt} {x1 : Int32} {x2 : Int32} (h : (zQ [3, 5, 7, 9, 11, 12, 15, 17, 19, 21, 23, 25, 27, 28, 29, 30, 32, 34, 36, 40, 42, 44, 45] [] [5, 38, 46, 48] []) σ0 σ) : zpc (fX10_movePhase σ x1 x2) (fun r => (zQ [3, 5, 7, 9, 11, 12, 15, 17, 19, 21, 23, 25, 27, 28, 29, 30, 32, 34, 36, 40, 42, 44, 45] [] [5, 38, 46, 48] []) σ0 (r)) := by
  unfold fX10_movePhase
  exact zpc_if (fun _ => fu_fX10_movePhase_22 h) (fun _ => zpc_ck (zpc_bi (fu_fX10_sway h) (fun σ3 v4 hσ3 => fu_fX10_movePhase_22 hσ3)))
theorem fu_fX10_drumPhase_115 {σ0 : zSt} {σ : zSt} {s0 : Int32} (h : (zQ [3, 5, 7, 9, 11, 12, 15, 17, 19, 21, 23, 25, 27, 28, 29, 30, 32, 34, 36, 40, 42, 44, 45] [] [5, 38, 46, 48] []) σ0 σ) : zpc (fX10_drumPhase_115 σ s0) (fun r => (zQ [3, 5, 7, 9, 11, 12, 15, 17, 19, 21, 23, 25, 27, 28, 29, 30, 32, 34, 36, 40, 42, 44, 45] [] [5, 38, 46, 48] []) σ0 (r.1)) := by
  unfold fX10_drumPhase_115
  exact zpc_some h
theorem fu_fX10_drumPhase_155 {σ0 : zSt} {σ : zSt} {s0 : Int32} (h : (zQ [3, 5, 7, 9, 11, 12, 15, 17, 19, 21, 23, 25, 27, 28, 29, 30, 32, 34, 36, 40, 42, 44, 45] [] [5, 38, 46, 48] []) σ0 σ) : zpc (fX10_drumPhase_155 σ s0) (fun r => (zQ [3, 5, 7, 9, 11, 12, 15, 17, 19, 21, 23, 25, 27, 28, 29, 30, 32, 34, 36, 40, 42, 44, 45] [] [5, 38, 46, 48] []) σ0 (r.1)) := by
  unfold fX10_drumPhase_155
  exact zpc_some h
theorem fu_fX10_drumPhase_193 {σ0 : zSt} {σ : zSt} {s0 : Int32} (h : (zQ [3, 5, 7, 9, 11, 12, 15, 17, 19, 21, 23, 25, 27, 28, 29, 30, 32, 34, 36, 40, 42, 44, 45] [] [5, 38, 46, 48] []) σ0 σ) : zpc (fX10_drumPhase_193 σ s0) (fun r => (zQ [3, 5, 7, 9, 11, 12, 15, 17, 19, 21, 23, 25, 27, 28, 29, 30, 32, 34, 36, 40, 42, 44, 45] [] [5, 38, 46, 48] []) σ0 (r.1)) := by
  unfold fX10_drumPhase_193
  exact zpc_some h
theorem fu_fX10_drumPhase_82 {σ0 : zSt} {σ : zSt} {x1 : Int32} {x2 : Int32} {x5 : Int32} {s0 : Int32} (h : (zQ [3, 5, 7, 9, 11, 12, 15, 17, 19, 21, 23, 25, 27, 28, 29, 30, 32, 34, 36, 40, 42, 44, 45] [] [5, 38, 46, 48] []) σ0 σ) : zpc (fX10_drumPhase_82 σ x1 x2 x5 s0) (fun r => (zQ [3, 5, 7, 9, 11, 12, 15, 17, 19, 21, 23, 25, 27, 28, 29, 30, 32, 34, 36, 40, 42, 44, 45] [] [5, 38, 46, 48] []) σ0 (r.1)) := by
  unfold fX10_drumPhase_82
  exact zpc_if (fun _ => zpc_if (fun _ => fu_fX10_drumPhase_115 h) (fun _ => zpc_if (fun _ => fu_fX10_drumPhase_115 h) (fun _ => fu_fX10_drumPhase_115 h))) (fun _ => zpc_if (fun _ => zpc_if (fun _ => zpc_if (fun _ => fu_fX10_drumPhase_155 h) (fun _ => fu_fX10_drumPhase_155 h)) (fun _ => zpc_if (fun _ => fu_fX10_drumPhase_155 h) (fun _ => fu_fX10_drumPhase_155 h))) (fun _ => zpc_if (fun _ => zpc_if (fun _ => fu_fX10_drumPhase_193 h) (fun _ => fu_fX10_drumPhase_193 h)) (fun _ => zpc_if (fun _ => fu_fX10_drumPhase_193 h) (fun _ => fu_fX10_drumPhase_193 h))))
theorem fu_fX10_drumPhase_62 {σ0 : zSt} {σ : zSt} {x1 : Int32} {x2 : Int32} {s0 : Int32} (h : (zQ [3, 5, 7, 9, 11, 12, 15, 17, 19, 21, 23, 25, 27, 28, 29, 30, 32, 34, 36, 40, 42, 44, 45] [] [5, 38, 46, 48] []) σ0 σ) : zpc (fX10_drumPhase_62 σ x1 x2 s0) (fun r => (zQ [3, 5, 7, 9, 11, 12, 15, 17, 19, 21, 23, 25, 27, 28, 29, 30, 32, 34, 36, 40, 42, 44, 45] [] [5, 38, 46, 48] []) σ0 (r.1)) := by
  unfold fX10_drumPhase_62
  exact zpc_ck (zpc_if (fun _ => fu_fX10_drumPhase_82 h) (fun _ => fu_fX10_drumPhase_82 h))
theorem fu_fX10_drumPhase {σ0 : zSt} {σ : zSt} {x1 : Int32} {x2 : Int32} (h : (zQ [3, 5, 7, 9, 11, 12, 15, 17, 19, 21, 23, 25, 27, 28, 29, 30, 32, 34, 36, 40, 42, 44, 45] [] [5, 38, 46, 48] []) σ0 σ) : zpc (fX10_drumPhase σ x1 x2) (fun r => (zQ [3, 5, 7, 9, 11, 12, 15, 17, 19, 21, 23, 25, 27, 28, 29, 30, 32, 34, 36, 40, 42, 44, 45] [] [5, 38, 46, 48] []) σ0 (r.1)) := by
  unfold fX10_drumPhase
  exact zpc_ck (zpc_bv (fun v1 _ => zpc_ck (zpc_bv (fun v2 _ => zpc_if (fun _ => fu_fX10_drumPhase_62 h) (fun _ => fu_fX10_drumPhase_62 h)))))
theorem fu_fX10_turnedPhase_98 {σ0 : zSt} {σ : zSt} {s0 : Int32} (h : (zQ [3, 5, 7, 9, 11, 12, 15, 17, 19, 21, 23, 25, 27, 28, 29, 30, 32, 34, 36, 40, 42, 44, 45] [] [5, 38, 46, 48] []) σ0 σ) : zpc (fX10_turnedPhase_98 σ s0) (fun r => (zQ [3, 5, 7, 9, 11, 12, 15, 17, 19, 21, 23, 25, 27, 28, 29, 30, 32, 34, 36, 40, 42, 44, 45] [] [5, 38, 46, 48] []) σ0 (r.1)) := by
  unfold fX10_turnedPhase_98
  exact zpc_some h
theorem fu_fX10_turnedPhase_35 {σ0 : zSt} {σ : zSt} {x1 : Int32} {x2 : Int32} {x3 : Int32} (h : (zQ [3, 5, 7, 9, 11, 12, 15, 17, 19, 21, 23, 25, 27, 28, 29, 30, 32, 34, 36, 40, 42, 44, 45] [] [5, 38, 46, 48] []) σ0 σ) : zpc (fX10_turnedPhase_35 σ x1 x2 x3) (fun r => (zQ [3, 5, 7, 9, 11, 12, 15, 17, 19, 21, 23, 25, 27, 28, 29, 30, 32, 34, 36, 40, 42, 44, 45] [] [5, 38, 46, 48] []) σ0 (r.1)) := by
  unfold fX10_turnedPhase_35
  exact zpc_if (fun _ => zpc_ck (zpc_some h)) (fun _ => zpc_bi (fu_fX10_part h) (fun σ1 v2 hσ1 => zpc_bv (fun v3 _ => zpc_if (fun _ => fu_fX10_turnedPhase_98 hσ1) (fun _ => zpc_ck (zpc_ck (fu_fX10_turnedPhase_98 hσ1))))))
theorem fu_fX10_turnedPhase {σ0 : zSt} {σ : zSt} {x1 : Int32} {x2 : Int32} (h : (zQ [3, 5, 7, 9, 11, 12, 15, 17, 19, 21, 23, 25, 27, 28, 29, 30, 32, 34, 36, 40, 42, 44, 45] [] [5, 38, 46, 48] []) σ0 σ) : zpc (fX10_turnedPhase σ x1 x2) (fun r => (zQ [3, 5, 7, 9, 11, 12, 15, 17, 19, 21, 23, 25, 27, 28, 29, 30, 32, 34, 36, 40, 42, 44, 45] [] [5, 38, 46, 48] []) σ0 (r.1)) := by
  unfold fX10_turnedPhase
  exact zpc_ck (zpc_bv (fun v4 _ => zpc_if (fun _ => fu_fX10_turnedPhase_35 h) (fun _ => zpc_if (fun _ => fu_fX10_turnedPhase_35 h) (fun _ => zpc_bi (fu_fX10_drumPhase h) (fun σ5 v6 hσ5 => zpc_some hσ5)))))
theorem fu_fX10_scaled_44 {σ0 : zSt} {σ : zSt} {s0 : Int32} (h : (zQ [3, 5, 7, 9, 11, 12, 15, 17, 19, 21, 23, 25, 27, 28, 29, 30, 32, 34, 36, 40, 42, 44, 45] [] [5, 38, 46, 48] []) σ0 σ) : zpc (fX10_scaled_44 σ s0) (fun r => (zQ [3, 5, 7, 9, 11, 12, 15, 17, 19, 21, 23, 25, 27, 28, 29, 30, 32, 34, 36, 40, 42, 44, 45] [] [5, 38, 46, 48] []) σ0 (r.1)) := by
  unfold fX10_scaled_44
  exact zpc_some h
theorem fu_fX10_scaled {σ0 : zSt} {σ : zSt} {x1 : Int32} (h : (zQ [3, 5, 7, 9, 11, 12, 15, 17, 19, 21, 23, 25, 27, 28, 29, 30, 32, 34, 36, 40, 42, 44, 45] [] [5, 38, 46, 48] []) σ0 σ) : zpc (fX10_scaled σ x1) (fun r => (zQ [3, 5, 7, 9, 11, 12, 15, 17, 19, 21, 23, 25, 27, 28, 29, 30, 32, 34, 36, 40, 42, 44, 45] [] [5, 38, 46, 48] []) σ0 (r.1)) := by
  unfold fX10_scaled
  exact zpc_if (fun _ => zpc_some h) (fun _ => zpc_ck (zpc_bv (fun v1 _ => zpc_if (fun _ => fu_fX10_scaled_44 h) (fun _ => fu_fX10_scaled_44 h))))
theorem fu_fX10_tremble_30 {σ0 : zSt} {σ : zSt} {s0 : Int32} (h : (zQ [3, 5, 7, 9, 11, 12, 15, 17, 19, 21, 23, 25, 27, 28, 29, 30, 32, 34, 36, 40, 42, 44, 45] [] [5, 38, 46, 48] []) σ0 σ) : zpc (fX10_tremble_30 σ s0) (fun r => (zQ [3, 5, 7, 9, 11, 12, 15, 17, 19, 21, 23, 25, 27, 28, 29, 30, 32, 34, 36, 40, 42, 44, 45] [] [5, 38, 46, 48] []) σ0 (r.1)) := by
  unfold fX10_tremble_30
  exact zpc_ck (zpc_some h)
theorem fu_fX10_tremble {σ0 : zSt} {σ : zSt} (h : (zQ [3, 5, 7, 9, 11, 12, 15, 17, 19, 21, 23, 25, 27, 28, 29, 30, 32, 34, 36, 40, 42, 44, 45] [] [5, 38, 46, 48] []) σ0 σ) : zpc (fX10_tremble σ) (fun r => (zQ [3, 5, 7, 9, 11, 12, 15, 17, 19, 21, 23, 25, 27, 28, 29, 30, 32, 34, 36, 40, 42, 44, 45] [] [5, 38, 46, 48] []) σ0 (r.1)) := by
  unfold fX10_tremble
  exact zpc_ck (zpc_ck (zpc_ck (zpc_bv (fun v1 _ => zpc_if (fun _ => fu_fX10_tremble_30 h) (fun _ => fu_fX10_tremble_30 h)))))
theorem fu_fX10_softness_124 {σ0 : zSt} {σ : zSt} {x4 : Int32} (h : (zQ [3, 5, 7, 9, 11, 12, 15, 17, 19, 21, 23, 25, 27, 28, 29, 30, 32, 34, 36, 40, 42, 44, 45] [] [5, 38, 46, 48] []) σ0 σ) : zpc (fX10_softness_124 σ x4) (fun r => (zQ [3, 5, 7, 9, 11, 12, 15, 17, 19, 21, 23, 25, 27, 28, 29, 30, 32, 34, 36, 40, 42, 44, 45] [] [5, 38, 46, 48] []) σ0 (r.1)) := by
  unfold fX10_softness_124
  exact zpc_some h
theorem fu_fX10_softness_103 {σ0 : zSt} {σ : zSt} {x2 : Int32} {x4 : Int32} (h : (zQ [3, 5, 7, 9, 11, 12, 15, 17, 19, 21, 23, 25, 27, 28, 29, 30, 32, 34, 36, 40, 42, 44, 45] [] [5, 38, 46, 48] []) σ0 σ) : zpc (fX10_softness_103 σ x2 x4) (fun r => (zQ [3, 5, 7, 9, 11, 12, 15, 17, 19, 21, 23, 25, 27, 28, 29, 30, 32, 34, 36, 40, 42, 44, 45] [] [5, 38, 46, 48] []) σ0 (r.1)) := by
  unfold fX10_softness_103
  exact zpc_bi (fu_fX10_part h) (fun σ1 v2 hσ1 => zpc_if (fun _ => fu_fX10_softness_124 hσ1) (fun _ => zpc_bi (fu_fX10_tremble hσ1) (fun σ3 v4 hσ3 => zpc_bv (fun v5 _ => fu_fX10_softness_124 hσ3))))
theorem fu_fX10_softness_88 {σ0 : zSt} {σ : zSt} {x2 : Int32} {x4 : Int32} (h : (zQ [3, 5, 7, 9, 11, 12, 15, 17, 19, 21, 23, 25, 27, 28, 29, 30, 32, 34, 36, 40, 42, 44, 45] [] [5, 38, 46, 48] []) σ0 σ) : zpc (fX10_softness_88 σ x2 x4) (fun r => (zQ [3, 5, 7, 9, 11, 12, 15, 17, 19, 21, 23, 25, 27, 28, 29, 30, 32, 34, 36, 40, 42, 44, 45] [] [5, 38, 46, 48] []) σ0 (r.1)) := by
  unfold fX10_softness_88
  exact zpc_bi (fu_fX10_part h) (fun σ6 v7 hσ6 => zpc_bv (fun v8 _ => fu_fX10_softness_103 hσ6))
theorem fu_fX10_softness {σ0 : zSt} {σ : zSt} {x1 : Int32} {x2 : Int32} (h : (zQ [3, 5, 7, 9, 11, 12, 15, 17, 19, 21, 23, 25, 27, 28, 29, 30, 32, 34, 36, 40, 42, 44, 45] [] [5, 38, 46, 48] []) σ0 σ) : zpc (fX10_softness σ x1 x2) (fun r => (zQ [3, 5, 7, 9, 11, 12, 15, 17, 19, 21, 23, 25, 27, 28, 29, 30, 32, 34, 36, 40, 42, 44, 45] [] [5, 38, 46, 48] []) σ0 (r.1)) := by
  unfold fX10_softness
  exact zpc_ck (zpc_bv (fun v9 _ => zpc_ck (zpc_bi (fu_fX10_part h) (fun σ10 v11 hσ10 => zpc_bi (fu_fX10_scaled hσ10) (fun σ12 v13 hσ12 => zpc_bv (fun v14 _ => zpc_if (fun _ => zpc_bv (fun v16 _ => fu_fX10_softness_103 hσ12)) (fun _ => zpc_if (fun _ => fu_fX10_softness_88 hσ12) (fun _ => zpc_if (fun _ => fu_fX10_softness_88 hσ12) (fun _ => zpc_bv (fun v15 _ => fu_fX10_softness_103 hσ12))))))))))
theorem fu_fX10_waveAt_104 {σ0 : zSt} {σ : zSt} {s0 : Int32} (h : (zQ [3, 5, 7, 9, 11, 12, 15, 17, 19, 21, 23, 25, 27, 28, 29, 30, 32, 34, 36, 40, 42, 44, 45] [] [5, 38, 46, 48] []) σ0 σ) : zpc (fX10_waveAt_104 σ s0) (fun r => (zQ [3, 5, 7, 9, 11, 12, 15, 17, 19, 21, 23, 25, 27, 28, 29, 30, 32, 34, 36, 40, 42, 44, 45] [] [5, 38, 46, 48] []) σ0 (r.1)) := by
  unfold fX10_waveAt_104
  exact zpc_some h
theorem fu_fX10_waveAt_49 {σ0 : zSt} {σ : zSt} {x1 : Int32} {x3 : Int32} {s0 : Int32} (h : (zQ [3, 5, 7, 9, 11, 12, 15, 17, 19, 21, 23, 25, 27, 28, 29, 30, 32, 34, 36, 40, 42, 44, 45] [] [5, 38, 46, 48] []) σ0 σ) : zpc (fX10_waveAt_49 σ x1 x3 s0) (fun r => (zQ [3, 5, 7, 9, 11, 12, 15, 17, 19, 21, 23, 25, 27, 28, 29, 30, 32, 34, 36, 40, 42, 44, 45] [] [5, 38, 46, 48] []) σ0 (r.1)) := by
  unfold fX10_waveAt_49
  exact zpc_ck (zpc_bv (fun v1 _ => zpc_ck (zpc_bv (fun v2 _ => zpc_if (fun _ => fu_fX10_waveAt_104 h) (fun _ => fu_fX10_waveAt_104 h)))))
theorem fu_fX10_waveAt_24 {σ0 : zSt} {σ : zSt} {x0 : Int32} {x1 : Int32} {x3 : Int32} (h : (zQ [3, 5, 7, 9, 11, 12, 15, 17, 19, 21, 23, 25, 27, 28, 29, 30, 32, 34, 36, 40, 42, 44, 45] [] [5, 38, 46, 48] []) σ0 σ) : zpc (fX10_waveAt_24 σ x0 x1 x3) (fun r => (zQ [3, 5, 7, 9, 11, 12, 15, 17, 19, 21, 23, 25, 27, 28, 29, 30, 32, 34, 36, 40, 42, 44, 45] [] [5, 38, 46, 48] []) σ0 (r.1)) := by
  unfold fX10_waveAt_24
  exact zpc_if (fun _ => fu_fX10_waveAt_49 h) (fun _ => fu_fX10_waveAt_49 h)
theorem fu_fX10_waveAt_13 {σ0 : zSt} {σ : zSt} {x0 : Int32} {x1 : Int32} {x2 : Int32} {s0 : Int32} (h : (zQ [3, 5, 7, 9, 11, 12, 15, 17, 19, 21, 23, 25, 27, 28, 29, 30, 32, 34, 36, 40, 42, 44, 45] [] [5, 38, 46, 48] []) σ0 σ) : zpc (fX10_waveAt_13 σ x0 x1 x2 s0) (fun r => (zQ [3, 5, 7, 9, 11, 12, 15, 17, 19, 21, 23, 25, 27, 28, 29, 30, 32, 34, 36, 40, 42, 44, 45] [] [5, 38, 46, 48] []) σ0 (r.1)) := by
  unfold fX10_waveAt_13
  exact zpc_if (fun _ => fu_fX10_waveAt_24 h) (fun _ => zpc_if (fun _ => fu_fX10_waveAt_24 h) (fun _ => zpc_some h))
theorem fu_fX10_waveAt {σ0 : zSt} {σ : zSt} {x0 : Int32} {x1 : Int32} {x2 : Int32} (h : (zQ [3, 5, 7, 9, 11, 12, 15, 17, 19, 21, 23, 25, 27, 28, 29, 30, 32, 34, 36, 40, 42, 44, 45] [] [5, 38, 46, 48] []) σ0 σ) : zpc (fX10_waveAt σ x0 x1 x2) (fun r => (zQ [3, 5, 7, 9, 11, 12, 15, 17, 19, 21, 23, 25, 27, 28, 29, 30, 32, 34, 36, 40, 42, 44, 45] [] [5, 38, 46, 48] []) σ0 (r.1)) := by
  unfold fX10_waveAt
  exact zpc_if (fun _ => fu_fX10_waveAt_13 h) (fun _ => fu_fX10_waveAt_13 h)
theorem fu_fX10_moveOut_55 {σ0 : zSt} {σ : zSt} {x1 : Int32} {x3 : Int32} (h : (zQ [3, 5, 7, 9, 11, 12, 15, 17, 19, 21, 23, 25, 27, 28, 29, 30, 32, 34, 36, 40, 42, 44, 45] [] [5, 38, 46, 48] []) σ0 σ) : zpc (fX10_moveOut_55 σ x1 x3) (fun r => (zQ [3, 5, 7, 9, 11, 12, 15, 17, 19, 21, 23, 25, 27, 28, 29, 30, 32, 34, 36, 40, 42, 44, 45] [] [5, 38, 46, 48] []) σ0 (r)) := by
  unfold fX10_moveOut_55
  exact zpc_ck (zpc_ck (zpc_bs (zQ.wi h rfl) (fun σ1 hσ1 => zpc_ck (zpc_bs (zQ.wi hσ1 rfl) (fun σ2 hσ2 => zpc_some hσ2)))))
theorem fu_fX10_moveOut_51 {σ0 : zSt} {σ : zSt} {x1 : Int32} {s0 : Int32} {s1 : Int32} {s2 : Int32} (h : (zQ [3, 5, 7, 9, 11, 12, 15, 17, 19, 21, 23, 25, 27, 28, 29, 30, 32, 34, 36, 40, 42, 44, 45] [] [5, 38, 46, 48] []) σ0 σ) : zpc (fX10_moveOut_51 σ x1 s0 s1 s2) (fun r => (zQ [3, 5, 7, 9, 11, 12, 15, 17, 19, 21, 23, 25, 27, 28, 29, 30, 32, 34, 36, 40, 42, 44, 45] [] [5, 38, 46, 48] []) σ0 (r)) := by
  unfold fX10_moveOut_51
  exact zpc_bi (fu_fX10_waveAt h) (fun σ3 v4 hσ3 => fu_fX10_moveOut_55 hσ3)
theorem fu_fX10_moveOut {σ0 : zSt} {σ : zSt} {x1 : Int32} {x2 : Int32} (h : (zQ [3, 5, 7, 9, 11, 12, 15, 17, 19, 21, 23, 25, 27, 28, 29, 30, 32, 34, 36, 40, 42, 44, 45] [] [5, 38, 46, 48] []) σ0 σ) : zpc (fX10_moveOut σ x1 x2) (fun r => (zQ [3, 5, 7, 9, 11, 12, 15, 17, 19, 21, 23, 25, 27, 28, 29, 30, 32, 34, 36, 40, 42, 44, 45] [] [5, 38, 46, 48] []) σ0 (r)) := by
  unfold fX10_moveOut
  exact zpc_ck (zpc_if (fun _ => fu_fX10_moveOut_55 h) (fun _ => zpc_bi (fu_fX10_turnedPhase h) (fun σ5 v6 hσ5 => zpc_bi (fu_fX10_softness hσ5) (fun σ7 v8 hσ7 => zpc_bi (fu_fX10_part hσ7) (fun σ9 v10 hσ9 => zpc_if (fun _ => fu_fX10_moveOut_51 hσ9) (fun _ => fu_fX10_moveOut_51 hσ9))))))
theorem fu_fX10_moveOperator_99 {σ0 : zSt} {σ : zSt} {x1 : Int32} {x2 : Int32} (h : (zQ [3, 5, 7, 9, 11, 12, 15, 17, 19, 21, 23, 25, 27, 28, 29, 30, 32, 34, 36, 40, 42, 44, 45] [] [5, 38, 46, 48] []) σ0 σ) : zpc (fX10_moveOperator_99 σ x1 x2) (fun r => (zQ [3, 5, 7, 9, 11, 12, 15, 17, 19, 21, 23, 25, 27, 28, 29, 30, 32, 34, 36, 40, 42, 44, 45] [] [5, 38, 46, 48] []) σ0 (r)) := by
  unfold fX10_moveOperator_99
  exact zpc_bi (fu_fX10_part h) (fun σ1 v2 hσ1 => zpc_bu (fu_fX10_movePhase hσ1) (fun σ3 hσ3 => zpc_bu (fu_fX10_moveOut hσ3) (fun σ4 hσ4 => zpc_some hσ4)))
theorem fu_fX10_moveOperator_78 {σ0 : zSt} {σ : zSt} {x1 : Int32} {x2 : Int32} (h : (zQ [3, 5, 7, 9, 11, 12, 15, 17, 19, 21, 23, 25, 27, 28, 29, 30, 32, 34, 36, 40, 42, 44, 45] [] [5, 38, 46, 48] []) σ0 σ) : zpc (fX10_moveOperator_78 σ x1 x2) (fun r => (zQ [3, 5, 7, 9, 11, 12, 15, 17, 19, 21, 23, 25, 27, 28, 29, 30, 32, 34, 36, 40, 42, 44, 45] [] [5, 38, 46, 48] []) σ0 (r)) := by
  unfold fX10_moveOperator_78
  exact zpc_bu (fu_fX10_moveLevel h) (fun σ5 hσ5 => zpc_bi (fu_fX10_part hσ5) (fun σ6 v7 hσ6 => zpc_bu (fu_fX10_moveState hσ6) (fun σ8 hσ8 => fu_fX10_moveOperator_99 hσ8)))
theorem fu_fX10_moveOperator_53 {σ0 : zSt} {σ : zSt} {x1 : Int32} {x2 : Int32} (h : (zQ [3, 5, 7, 9, 11, 12, 15, 17, 19, 21, 23, 25, 27, 28, 29, 30, 32, 34, 36, 40, 42, 44, 45] [] [5, 38, 46, 48] []) σ0 σ) : zpc (fX10_moveOperator_53 σ x1 x2) (fun r => (zQ [3, 5, 7, 9, 11, 12, 15, 17, 19, 21, 23, 25, 27, 28, 29, 30, 32, 34, 36, 40, 42, 44, 45] [] [5, 38, 46, 48] []) σ0 (r)) := by
  unfold fX10_moveOperator_53
  exact zpc_ck (zpc_if (fun _ => zpc_ck (zpc_if (fun _ => fu_fX10_moveOperator_99 h) (fun _ => fu_fX10_moveOperator_78 h))) (fun _ => fu_fX10_moveOperator_78 h))
theorem fu_fX10_moveOperator_52 {σ0 : zSt} {σ : zSt} {x1 : Int32} {x2 : Int32} {s0 : Int32} {s1 : Int32} (h : (zQ [3, 5, 7, 9, 11, 12, 15, 17, 19, 21, 23, 25, 27, 28, 29, 30, 32, 34, 36, 40, 42, 44, 45] [] [5, 38, 46, 48] []) σ0 σ) : zpc (fX10_moveOperator_52 σ x1 x2 s0 s1) (fun r => (zQ [3, 5, 7, 9, 11, 12, 15, 17, 19, 21, 23, 25, 27, 28, 29, 30, 32, 34, 36, 40, 42, 44, 45] [] [5, 38, 46, 48] []) σ0 (r)) := by
  unfold fX10_moveOperator_52
  exact zpc_ck (zpc_bs (zQ.wi h rfl) (fun σ9 hσ9 => fu_fX10_moveOperator_53 hσ9))
theorem fu_fX10_moveOperator_13 {σ0 : zSt} {σ : zSt} {x1 : Int32} {x2 : Int32} {s0 : Int32} (h : (zQ [3, 5, 7, 9, 11, 12, 15, 17, 19, 21, 23, 25, 27, 28, 29, 30, 32, 34, 36, 40, 42, 44, 45] [] [5, 38, 46, 48] []) σ0 σ) : zpc (fX10_moveOperator_13 σ x1 x2 s0) (fun r => (zQ [3, 5, 7, 9, 11, 12, 15, 17, 19, 21, 23, 25, 27, 28, 29, 30, 32, 34, 36, 40, 42, 44, 45] [] [5, 38, 46, 48] []) σ0 (r)) := by
  unfold fX10_moveOperator_13
  exact zpc_ck (zpc_if (fun _ => fu_fX10_moveOperator_53 h) (fun _ => zpc_ck (zpc_bs (zQ.wi h rfl) (fun σ10 hσ10 => zpc_if (fun _ => fu_fX10_moveOperator_52 hσ10) (fun _ => fu_fX10_moveOperator_52 hσ10)))))
theorem fu_fX10_moveOperator {σ0 : zSt} {σ : zSt} {x1 : Int32} {x2 : Int32} (h : (zQ [3, 5, 7, 9, 11, 12, 15, 17, 19, 21, 23, 25, 27, 28, 29, 30, 32, 34, 36, 40, 42, 44, 45] [] [5, 38, 46, 48] []) σ0 σ) : zpc (fX10_moveOperator σ x1 x2) (fun r => (zQ [3, 5, 7, 9, 11, 12, 15, 17, 19, 21, 23, 25, 27, 28, 29, 30, 32, 34, 36, 40, 42, 44, 45] [] [5, 38, 46, 48] []) σ0 (r)) := by
  unfold fX10_moveOperator
  exact zpc_bi (fu_fX10_isOn h) (fun σ11 v12 hσ11 => zpc_if (fun _ => fu_fX10_moveOperator_13 hσ11) (fun _ => fu_fX10_moveOperator_13 hσ11))
theorem fu_fX10_makeNext_136 {σ0 : zSt} {k41 : zSt → Int32 → Int32 → Option (zSt)} (hk41 : ∀ (y0 : zSt) (y1 : Int32) (y2 : Int32), (zQ [3, 5, 7, 9, 11, 12, 15, 17, 19, 21, 23, 25, 27, 28, 29, 30, 32, 34, 36, 40, 42, 44, 45] [] [5, 38, 46, 48] []) σ0 y0 → zpc (k41 y0 y1 y2) (fun r => (zQ [3, 5, 7, 9, 11, 12, 15, 17, 19, 21, 23, 25, 27, 28, 29, 30, 32, 34, 36, 40, 42, 44, 45] [] [5, 38, 46, 48] []) σ0 (r))) {σ : zSt} {x2 : Int32} {s0 : Int32} {s1 : Int32} {s2 : Int32} (h : (zQ [3, 5, 7, 9, 11, 12, 15, 17, 19, 21, 23, 25, 27, 28, 29, 30, 32, 34, 36, 40, 42, 44, 45] [] [5, 38, 46, 48] []) σ0 σ) : zpc (fX10_makeNext_136 k41 σ x2 s0 s1 s2) (fun r => (zQ [3, 5, 7, 9, 11, 12, 15, 17, 19, 21, 23, 25, 27, 28, 29, 30, 32, 34, 36, 40, 42, 44, 45] [] [5, 38, 46, 48] []) σ0 (r)) := by
  unfold fX10_makeNext_136
  exact zpc_bv (fun v1 _ => zpc_bv (fun v2 _ => hk41 _ _ _ h))
theorem fu_fX10_makeNext_135 {σ0 : zSt} {k41 : zSt → Int32 → Int32 → Option (zSt)} (hk41 : ∀ (y0 : zSt) (y1 : Int32) (y2 : Int32), (zQ [3, 5, 7, 9, 11, 12, 15, 17, 19, 21, 23, 25, 27, 28, 29, 30, 32, 34, 36, 40, 42, 44, 45] [] [5, 38, 46, 48] []) σ0 y0 → zpc (k41 y0 y1 y2) (fun r => (zQ [3, 5, 7, 9, 11, 12, 15, 17, 19, 21, 23, 25, 27, 28, 29, 30, 32, 34, 36, 40, 42, 44, 45] [] [5, 38, 46, 48] []) σ0 (r))) {σ : zSt} {x2 : Int32} {s0 : Int32} {s1 : Int32} (h : (zQ [3, 5, 7, 9, 11, 12, 15, 17, 19, 21, 23, 25, 27, 28, 29, 30, 32, 34, 36, 40, 42, 44, 45] [] [5, 38, 46, 48] []) σ0 σ) : zpc (fX10_makeNext_135 k41 σ x2 s0 s1) (fun r => (zQ [3, 5, 7, 9, 11, 12, 15, 17, 19, 21, 23, 25, 27, 28, 29, 30, 32, 34, 36, 40, 42, 44, 45] [] [5, 38, 46, 48] []) σ0 (r)) := by
  unfold fX10_makeNext_135
  exact fu_fX10_makeNext_136 hk41 h
theorem fu_fX10_makeNext_101 {σ0 : zSt} {k41 : zSt → Int32 → Int32 → Option (zSt)} (hk41 : ∀ (y0 : zSt) (y1 : Int32) (y2 : Int32), (zQ [3, 5, 7, 9, 11, 12, 15, 17, 19, 21, 23, 25, 27, 28, 29, 30, 32, 34, 36, 40, 42, 44, 45] [] [5, 38, 46, 48] []) σ0 y0 → zpc (k41 y0 y1 y2) (fun r => (zQ [3, 5, 7, 9, 11, 12, 15, 17, 19, 21, 23, 25, 27, 28, 29, 30, 32, 34, 36, 40, 42, 44, 45] [] [5, 38, 46, 48] []) σ0 (r))) {σ : zSt} {x1 : Int32} {x2 : Int32} {x3 : Int32} {s0 : Int32} (h : (zQ [3, 5, 7, 9, 11, 12, 15, 17, 19, 21, 23, 25, 27, 28, 29, 30, 32, 34, 36, 40, 42, 44, 45] [] [5, 38, 46, 48] []) σ0 σ) : zpc (fX10_makeNext_101 k41 σ x1 x2 x3 s0) (fun r => (zQ [3, 5, 7, 9, 11, 12, 15, 17, 19, 21, 23, 25, 27, 28, 29, 30, 32, 34, 36, 40, 42, 44, 45] [] [5, 38, 46, 48] []) σ0 (r)) := by
  unfold fX10_makeNext_101
  exact zpc_ck (zpc_if (fun _ => fu_fX10_makeNext_135 hk41 h) (fun _ => zpc_if (fun _ => fu_fX10_makeNext_135 hk41 h) (fun _ => fu_fX10_makeNext_136 hk41 h)))
theorem fu_fX10_makeNext_100 {σ0 : zSt} {k41 : zSt → Int32 → Int32 → Option (zSt)} (hk41 : ∀ (y0 : zSt) (y1 : Int32) (y2 : Int32), (zQ [3, 5, 7, 9, 11, 12, 15, 17, 19, 21, 23, 25, 27, 28, 29, 30, 32, 34, 36, 40, 42, 44, 45] [] [5, 38, 46, 48] []) σ0 y0 → zpc (k41 y0 y1 y2) (fun r => (zQ [3, 5, 7, 9, 11, 12, 15, 17, 19, 21, 23, 25, 27, 28, 29, 30, 32, 34, 36, 40, 42, 44, 45] [] [5, 38, 46, 48] []) σ0 (r))) {σ : zSt} {x1 : Int32} {x2 : Int32} {x3 : Int32} (h : (zQ [3, 5, 7, 9, 11, 12, 15, 17, 19, 21, 23, 25, 27, 28, 29, 30, 32, 34, 36, 40, 42, 44, 45] [] [5, 38, 46, 48] []) σ0 σ) : zpc (fX10_makeNext_100 k41 σ x1 x2 x3) (fun r => (zQ [3, 5, 7, 9, 11, 12, 15, 17, 19, 21, 23, 25, 27, 28, 29, 30, 32, 34, 36, 40, 42, 44, 45] [] [5, 38, 46, 48] []) σ0 (r)) := by
  unfold fX10_makeNext_100
  exact fu_fX10_makeNext_101 hk41 h
theorem fu_fX10_makeNext_174 {σ0 : zSt} {σ : zSt} {x1 : Int32} {s0 : Int32} {s1 : Int32} (h : (zQ [3, 5, 7, 9, 11, 12, 15, 17, 19, 21, 23, 25, 27, 28, 29, 30, 32, 34, 36, 40, 42, 44, 45] [] [5, 38, 46, 48] []) σ0 σ) : zpc (fX10_makeNext_174 σ x1 s0 s1) (fun r => (zQ [3, 5, 7, 9, 11, 12, 15, 17, 19, 21, 23, 25, 27, 28, 29, 30, 32, 34, 36, 40, 42, 44, 45] [] [5, 38, 46, 48] []) σ0 (r)) := by
  unfold fX10_makeNext_174
  exact zpc_ck (zpc_bs (zQ.wi h rfl) (fun σ3 hσ3 => zpc_ck (zpc_bs (zQ.wi hσ3 rfl) (fun σ4 hσ4 => zpc_some hσ4))))
theorem fu_fX10_makeNext_41_body {σ0 : zSt} {k41 : zSt → Int32 → Int32 → Option (zSt)} (hk41 : ∀ (y0 : zSt) (y1 : Int32) (y2 : Int32), (zQ [3, 5, 7, 9, 11, 12, 15, 17, 19, 21, 23, 25, 27, 28, 29, 30, 32, 34, 36, 40, 42, 44, 45] [] [5, 38, 46, 48] []) σ0 y0 → zpc (k41 y0 y1 y2) (fun r => (zQ [3, 5, 7, 9, 11, 12, 15, 17, 19, 21, 23, 25, 27, 28, 29, 30, 32, 34, 36, 40, 42, 44, 45] [] [5, 38, 46, 48] []) σ0 (r))) {σ : zSt} {x1 : Int32} {x2 : Int32} (h : (zQ [3, 5, 7, 9, 11, 12, 15, 17, 19, 21, 23, 25, 27, 28, 29, 30, 32, 34, 36, 40, 42, 44, 45] [] [5, 38, 46, 48] []) σ0 σ) : zpc (fX10_makeNext_41_body k41 σ x1 x2) (fun r => (zQ [3, 5, 7, 9, 11, 12, 15, 17, 19, 21, 23, 25, 27, 28, 29, 30, 32, 34, 36, 40, 42, 44, 45] [] [5, 38, 46, 48] []) σ0 (r)) := by
  unfold fX10_makeNext_41_body
  exact zpc_if (fun _ => zpc_ck (zpc_bv (fun v5 _ => zpc_if (fun _ => fu_fX10_makeNext_174 h) (fun _ => fu_fX10_makeNext_174 h)))) (fun _ => zpc_bu (fu_fX10_takeChannel h) (fun σ6 hσ6 => zpc_bv (fun v7 _ => zpc_bu (fu_fX10_moveOperator hσ6) (fun σ8 hσ8 => zpc_bu (fu_fX10_moveOperator hσ8) (fun σ9 hσ9 => zpc_if (fun _ => fu_fX10_makeNext_100 hk41 hσ9) (fun _ => zpc_if (fun _ => fu_fX10_makeNext_100 hk41 hσ9) (fun _ => zpc_ck (fu_fX10_makeNext_101 hk41 hσ9))))))))
theorem fu_fX10_makeNext_41 {σ0 : zSt} : ∀ (n : Nat) (y0 : zSt) (y1 : Int32) (y2 : Int32), (zQ [3, 5, 7, 9, 11, 12, 15, 17, 19, 21, 23, 25, 27, 28, 29, 30, 32, 34, 36, 40, 42, 44, 45] [] [5, 38, 46, 48] []) σ0 y0 → zpc (fX10_makeNext_41 n y0 y1 y2) (fun r => (zQ [3, 5, 7, 9, 11, 12, 15, 17, 19, 21, 23, 25, 27, 28, 29, 30, 32, 34, 36, 40, 42, 44, 45] [] [5, 38, 46, 48] []) σ0 (r)) := by
  intro n
  induction n with
  | zero => intro y0 y1 y2 h; exact zpc_none
  | succ n ih => intro y0 y1 y2 h; exact fu_fX10_makeNext_41_body ih h
theorem fu_fX10_makeNext_30 {σ0 : zSt} {σ : zSt} {s0 : Int32} (h : (zQ [3, 5, 7, 9, 11, 12, 15, 17, 19, 21, 23, 25, 27, 28, 29, 30, 32, 34, 36, 40, 42, 44, 45] [] [5, 38, 46, 48] []) σ0 σ) : zpc (fX10_makeNext_30 σ s0) (fun r => (zQ [3, 5, 7, 9, 11, 12, 15, 17, 19, 21, 23, 25, 27, 28, 29, 30, 32, 34, 36, 40, 42, 44, 45] [] [5, 38, 46, 48] []) σ0 (r)) := by
  unfold fX10_makeNext_30
  exact zpc_ck (zpc_bs (zQ.wi h rfl) (fun σ10 hσ10 => zpc_bu (fu_fX10_takeOwnPatch hσ10) (fun σ11 hσ11 => fu_fX10_makeNext_41 _ _ _ _ hσ11)))
theorem fu_fX10_makeNext {σ0 : zSt} {σ : zSt} (h : (zQ [3, 5, 7, 9, 11, 12, 15, 17, 19, 21, 23, 25, 27, 28, 29, 30, 32, 34, 36, 40, 42, 44, 45] [] [5, 38, 46, 48] []) σ0 σ) : zpc (fX10_makeNext σ) (fun r => (zQ [3, 5, 7, 9, 11, 12, 15, 17, 19, 21, 23, 25, 27, 28, 29, 30, 32, 34, 36, 40, 42, 44, 45] [] [5, 38, 46, 48] []) σ0 (r)) := by
  unfold fX10_makeNext
  exact zpc_ck (zpc_ck (zpc_bs (zQ.wi h rfl) (fun σ12 hσ12 => zpc_ck (zpc_if (fun _ => fu_fX10_makeNext_30 hσ12) (fun _ => fu_fX10_makeNext_30 hσ12)))))
theorem fu_fX10_heard_24 {σ0 : zSt} {σ : zSt} {s0 : Int32} (h : (zQ [3, 5, 7, 9, 11, 12, 15, 17, 19, 21, 23, 25, 27, 28, 29, 30, 32, 34, 36, 40, 42, 44, 45] [] [5, 38, 46, 48] []) σ0 σ) : zpc (fX10_heard_24 σ s0) (fun r => (zQ [3, 5, 7, 9, 11, 12, 15, 17, 19, 21, 23, 25, 27, 28, 29, 30, 32, 34, 36, 40, 42, 44, 45] [] [5, 38, 46, 48] []) σ0 (r.1)) := by
  unfold fX10_heard_24
  exact zpc_some h
theorem fu_fX10_heard {σ0 : zSt} {σ : zSt} (h : (zQ [3, 5, 7, 9, 11, 12, 15, 17, 19, 21, 23, 25, 27, 28, 29, 30, 32, 34, 36, 40, 42, 44, 45] [] [5, 38, 46, 48] []) σ0 σ) : zpc (fX10_heard σ) (fun r => (zQ [3, 5, 7, 9, 11, 12, 15, 17, 19, 21, 23, 25, 27, 28, 29, 30, 32, 34, 36, 40, 42, 44, 45] [] [5, 38, 46, 48] []) σ0 (r.1)) := by
  unfold fX10_heard
  exact zpc_ck (zpc_if (fun _ => zpc_ck (fu_fX10_heard_24 h)) (fun _ => fu_fX10_heard_24 h))
theorem fu_fX6_add_k12_56 {σ0 : zSt} {σ : zSt} (h : (zQ [3, 5, 7, 9, 11, 12, 15, 17, 19, 21, 23, 25, 27, 28, 29, 30, 32, 34, 36, 40, 42, 44, 45] [] [5, 38, 46, 48] []) σ0 σ) : zpc (fX6_add_k12_56 σ) (fun r => (zQ [3, 5, 7, 9, 11, 12, 15, 17, 19, 21, 23, 25, 27, 28, 29, 30, 32, 34, 36, 40, 42, 44, 45] [] [5, 38, 46, 48] []) σ0 (r)) := by
  unfold fX6_add_k12_56
  exact zpc_some h
theorem fu_fX6_add_k12 {σ0 : zSt} {σ : zSt} {x1 : Int64} (h : (zQ [3, 5, 7, 9, 11, 12, 15, 17, 19, 21, 23, 25, 27, 28, 29, 30, 32, 34, 36, 40, 42, 44, 45] [] [5, 38, 46, 48] []) σ0 σ) : zpc (fX6_add_k12 σ x1) (fun r => (zQ [3, 5, 7, 9, 11, 12, 15, 17, 19, 21, 23, 25, 27, 28, 29, 30, 32, 34, 36, 40, 42, 44, 45] [] [5, 38, 46, 48] []) σ0 (r)) := by
  unfold fX6_add_k12
  exact zpc_ck (zpc_bs (zQ.wl h rfl) (fun σ1 hσ1 => zpc_if (fun _ => zpc_bs (zQ.wi hσ1 rfl) (fun σ2 hσ2 => fu_fX6_add_k12_56 hσ2)) (fun _ => zpc_bs (zQ.wi hσ1 rfl) (fun σ3 hσ3 => fu_fX6_add_k12_56 hσ3))))
theorem fu_fX0_addMix {σ0 : zSt} {σ : zSt} (h : (zQ [3, 5, 7, 9, 11, 12, 15, 17, 19, 21, 23, 25, 27, 28, 29, 30, 32, 34, 36, 40, 42, 44, 45] [] [5, 38, 46, 48] []) σ0 σ) : zpc (fX0_addMix σ) (fun r => (zQ [3, 5, 7, 9, 11, 12, 15, 17, 19, 21, 23, 25, 27, 28, 29, 30, 32, 34, 36, 40, 42, 44, 45] [] [5, 38, 46, 48] []) σ0 (r)) := by
  unfold fX0_addMix
  exact zpc_ck (zpc_bv (fun v1 _ => zpc_ck (zpc_ck (zpc_bi (fu_fX10_heard h) (fun σ2 v3 hσ2 => zpc_bv (fun v4 _ => zpc_ck (zpc_ck (zpc_bi (fu_fX10_heard hσ2) (fun σ5 v6 hσ5 => zpc_bv (fun v7 _ => zpc_bu (fu_fX6_add_k12 hσ5) (fun σ8 hσ8 => zpc_ck (zpc_bs (zQ.wl hσ8 rfl) (fun σ9 hσ9 => zpc_ck (zpc_bs (zQ.wl hσ9 rfl) (fun σ10 hσ10 => zpc_ck (zpc_bs (zQ.wl hσ10 rfl) (fun σ11 hσ11 => zpc_some hσ11)))))))))))))))))
theorem fu_fX0_pass_105_body {σ0 : zSt} {k105 : zSt → Int64 → Int64 → Option (zSt)} (hk105 : ∀ (y0 : zSt) (y1 : Int64) (y2 : Int64), (zQ [3, 5, 7, 9, 11, 12, 15, 17, 19, 21, 23, 25, 27, 28, 29, 30, 32, 34, 36, 40, 42, 44, 45] [] [5, 38, 46, 48] []) σ0 y0 → zpc (k105 y0 y1 y2) (fun r => (zQ [3, 5, 7, 9, 11, 12, 15, 17, 19, 21, 23, 25, 27, 28, 29, 30, 32, 34, 36, 40, 42, 44, 45] [] [5, 38, 46, 48] []) σ0 (r))) {σ : zSt} {x4 : Int64} {x6 : Int64} (h : (zQ [3, 5, 7, 9, 11, 12, 15, 17, 19, 21, 23, 25, 27, 28, 29, 30, 32, 34, 36, 40, 42, 44, 45] [] [5, 38, 46, 48] []) σ0 σ) : zpc (fX0_pass_105_body k105 σ x4 x6) (fun r => (zQ [3, 5, 7, 9, 11, 12, 15, 17, 19, 21, 23, 25, 27, 28, 29, 30, 32, 34, 36, 40, 42, 44, 45] [] [5, 38, 46, 48] []) σ0 (r)) := by
  unfold fX0_pass_105_body
  exact zpc_ck (zpc_if (fun _ => zpc_some h) (fun _ => zpc_bu (fu_fX0_addMix h) (fun σ1 hσ1 => zpc_bv (fun v2 _ => hk105 _ _ _ hσ1))))
theorem fu_fX0_pass_105 {σ0 : zSt} : ∀ (n : Nat) (y0 : zSt) (y1 : Int64) (y2 : Int64), (zQ [3, 5, 7, 9, 11, 12, 15, 17, 19, 21, 23, 25, 27, 28, 29, 30, 32, 34, 36, 40, 42, 44, 45] [] [5, 38, 46, 48] []) σ0 y0 → zpc (fX0_pass_105 n y0 y1 y2) (fun r => (zQ [3, 5, 7, 9, 11, 12, 15, 17, 19, 21, 23, 25, 27, 28, 29, 30, 32, 34, 36, 40, 42, 44, 45] [] [5, 38, 46, 48] []) σ0 (r)) := by
  intro n
  induction n with
  | zero => intro y0 y1 y2 h; exact zpc_none
  | succ n ih => intro y0 y1 y2 h; exact fu_fX0_pass_105_body ih h
theorem fu_fX0_pass_70_body {σ0 : zSt} {k70 : zSt → Int64 → Int64 → Int64 → Option (zSt)} (hk70 : ∀ (y0 : zSt) (y1 : Int64) (y2 : Int64) (y3 : Int64), (zQ [3, 5, 7, 9, 11, 12, 15, 17, 19, 21, 23, 25, 27, 28, 29, 30, 32, 34, 36, 40, 42, 44, 45] [] [5, 38, 46, 48] []) σ0 y0 → zpc (k70 y0 y1 y2 y3) (fun r => (zQ [3, 5, 7, 9, 11, 12, 15, 17, 19, 21, 23, 25, 27, 28, 29, 30, 32, 34, 36, 40, 42, 44, 45] [] [5, 38, 46, 48] []) σ0 (r))) {σ : zSt} {x2 : Int64} {x4 : Int64} {x6 : Int64} (h : (zQ [3, 5, 7, 9, 11, 12, 15, 17, 19, 21, 23, 25, 27, 28, 29, 30, 32, 34, 36, 40, 42, 44, 45] [] [5, 38, 46, 48] []) σ0 σ) : zpc (fX0_pass_70_body k70 σ x2 x4 x6) (fun r => (zQ [3, 5, 7, 9, 11, 12, 15, 17, 19, 21, 23, 25, 27, 28, 29, 30, 32, 34, 36, 40, 42, 44, 45] [] [5, 38, 46, 48] []) σ0 (r)) := by
  unfold fX0_pass_70_body
  exact zpc_ck (zpc_if (fun _ => zpc_ck (zpc_bv (fun v3 _ => fu_fX0_pass_105 _ _ _ _ h))) (fun _ => zpc_bu (fu_fX10_makeNext h) (fun σ4 hσ4 => zpc_bv (fun v5 _ => hk70 _ _ _ _ hσ4))))
theorem fu_fX0_pass_70 {σ0 : zSt} : ∀ (n : Nat) (y0 : zSt) (y1 : Int64) (y2 : Int64) (y3 : Int64), (zQ [3, 5, 7, 9, 11, 12, 15, 17, 19, 21, 23, 25, 27, 28, 29, 30, 32, 34, 36, 40, 42, 44, 45] [] [5, 38, 46, 48] []) σ0 y0 → zpc (fX0_pass_70 n y0 y1 y2 y3) (fun r => (zQ [3, 5, 7, 9, 11, 12, 15, 17, 19, 21, 23, 25, 27, 28, 29, 30, 32, 34, 36, 40, 42, 44, 45] [] [5, 38, 46, 48] []) σ0 (r)) := by
  intro n
  induction n with
  | zero => intro y0 y1 y2 y3 h; exact zpc_none
  | succ n ih => intro y0 y1 y2 y3 h; exact fu_fX0_pass_70_body ih h
theorem fu_fX0_pass_38_body {σ0 : zSt} {k38 : zSt → Int64 → Int64 → Int64 → Option (zSt)} (hk38 : ∀ (y0 : zSt) (y1 : Int64) (y2 : Int64) (y3 : Int64), (zQ [3, 5, 7, 9, 11, 12, 15, 17, 19, 21, 23, 25, 27, 28, 29, 30, 32, 34, 36, 40, 42, 44, 45] [] [5, 38, 46, 48] []) σ0 y0 → zpc (k38 y0 y1 y2 y3) (fun r => (zQ [3, 5, 7, 9, 11, 12, 15, 17, 19, 21, 23, 25, 27, 28, 29, 30, 32, 34, 36, 40, 42, 44, 45] [] [5, 38, 46, 48] []) σ0 (r))) {σ : zSt} {x2 : Int64} {x4 : Int64} {x6 : Int64} (h : (zQ [3, 5, 7, 9, 11, 12, 15, 17, 19, 21, 23, 25, 27, 28, 29, 30, 32, 34, 36, 40, 42, 44, 45] [] [5, 38, 46, 48] []) σ0 σ) : zpc (fX0_pass_38_body k38 σ x2 x4 x6) (fun r => (zQ [3, 5, 7, 9, 11, 12, 15, 17, 19, 21, 23, 25, 27, 28, 29, 30, 32, 34, 36, 40, 42, 44, 45] [] [5, 38, 46, 48] []) σ0 (r)) := by
  unfold fX0_pass_38_body
  exact zpc_ck (zpc_if (fun _ => zpc_ck (zpc_bv (fun v6 _ => fu_fX0_pass_70 _ _ _ _ _ h))) (fun _ => zpc_bu (fu_fX0_addSample h) (fun σ7 hσ7 => zpc_bv (fun v8 _ => hk38 _ _ _ _ hσ7))))
theorem fu_fX0_pass_38 {σ0 : zSt} : ∀ (n : Nat) (y0 : zSt) (y1 : Int64) (y2 : Int64) (y3 : Int64), (zQ [3, 5, 7, 9, 11, 12, 15, 17, 19, 21, 23, 25, 27, 28, 29, 30, 32, 34, 36, 40, 42, 44, 45] [] [5, 38, 46, 48] []) σ0 y0 → zpc (fX0_pass_38 n y0 y1 y2 y3) (fun r => (zQ [3, 5, 7, 9, 11, 12, 15, 17, 19, 21, 23, 25, 27, 28, 29, 30, 32, 34, 36, 40, 42, 44, 45] [] [5, 38, 46, 48] []) σ0 (r)) := by
  intro n
  induction n with
  | zero => intro y0 y1 y2 y3 h; exact zpc_none
  | succ n ih => intro y0 y1 y2 y3 h; exact fu_fX0_pass_38_body ih h
theorem fu_fX0_pass {σ0 : zSt} {σ : zSt} {x1 : Int32} (h : (zQ [3, 5, 7, 9, 11, 12, 15, 17, 19, 21, 23, 25, 27, 28, 29, 30, 32, 34, 36, 40, 42, 44, 45] [] [5, 38, 46, 48] []) σ0 σ) : zpc (fX0_pass σ x1) (fun r => (zQ [3, 5, 7, 9, 11, 12, 15, 17, 19, 21, 23, 25, 27, 28, 29, 30, 32, 34, 36, 40, 42, 44, 45] [] [5, 38, 46, 48] []) σ0 (r)) := by
  unfold fX0_pass
  exact zpc_ck (zpc_bv (fun v9 _ => zpc_bv (fun v10 _ => zpc_ck (zpc_bs (zQ.wl h rfl) (fun σ11 hσ11 => zpc_ck (zpc_ck (zpc_bs (zQ.wl hσ11 rfl) (fun σ12 hσ12 => zpc_ck (zpc_bv (fun v13 _ => fu_fX0_pass_38 _ _ _ _ _ hσ12))))))))))
theorem fu_fX1_noteStep {σ0 : zSt} {σ : zSt} {x1 : Int32} (h : (zQ [3, 5, 7, 9, 11, 12, 15, 17, 19, 21, 23, 25, 27, 28, 29, 30, 32, 34, 36, 40, 42, 44, 45] [] [5, 38, 46, 48] []) σ0 σ) : zpc (fX1_noteStep σ x1) (fun r => (zQ [3, 5, 7, 9, 11, 12, 15, 17, 19, 21, 23, 25, 27, 28, 29, 30, 32, 34, 36, 40, 42, 44, 45] [] [5, 38, 46, 48] []) σ0 (r)) := by
  unfold fX1_noteStep
  exact zpc_ck (zpc_bs (zQ.wi h rfl) (fun σ1 hσ1 => zpc_bs (zQ.wi hσ1 rfl) (fun σ2 hσ2 => zpc_some hσ2)))
theorem fu_fX1_stepBack_30 {σ0 : zSt} {σ : zSt} {s0 : Int32} (h : (zQ [3, 5, 7, 9, 11, 12, 15, 17, 19, 21, 23, 25, 27, 28, 29, 30, 32, 34, 36, 40, 42, 44, 45] [] [5, 38, 46, 48] []) σ0 σ) : zpc (fX1_stepBack_30 σ s0) (fun r => (zQ [3, 5, 7, 9, 11, 12, 15, 17, 19, 21, 23, 25, 27, 28, 29, 30, 32, 34, 36, 40, 42, 44, 45] [] [5, 38, 46, 48] []) σ0 (r.1)) := by
  unfold fX1_stepBack_30
  exact zpc_some h
theorem fu_fX1_stepBack_10 {σ0 : zSt} {σ : zSt} (h : (zQ [3, 5, 7, 9, 11, 12, 15, 17, 19, 21, 23, 25, 27, 28, 29, 30, 32, 34, 36, 40, 42, 44, 45] [] [5, 38, 46, 48] []) σ0 σ) : zpc (fX1_stepBack_10 σ) (fun r => (zQ [3, 5, 7, 9, 11, 12, 15, 17, 19, 21, 23, 25, 27, 28, 29, 30, 32, 34, 36, 40, 42, 44, 45] [] [5, 38, 46, 48] []) σ0 (r.1)) := by
  unfold fX1_stepBack_10
  exact fu_fX1_stepBack_30 h
theorem fu_fX1_stepBack {σ0 : zSt} {σ : zSt} {x1 : Int32} (h : (zQ [3, 5, 7, 9, 11, 12, 15, 17, 19, 21, 23, 25, 27, 28, 29, 30, 32, 34, 36, 40, 42, 44, 45] [] [5, 38, 46, 48] []) σ0 σ) : zpc (fX1_stepBack σ x1) (fun r => (zQ [3, 5, 7, 9, 11, 12, 15, 17, 19, 21, 23, 25, 27, 28, 29, 30, 32, 34, 36, 40, 42, 44, 45] [] [5, 38, 46, 48] []) σ0 (r.1)) := by
  unfold fX1_stepBack
  exact zpc_if (fun _ => fu_fX1_stepBack_10 h) (fun _ => zpc_if (fun _ => zpc_ck (fu_fX1_stepBack_30 h)) (fun _ => fu_fX1_stepBack_10 h))
theorem fu_fX1_stopCount {σ0 : zSt} {σ : zSt} (h : (zQ [3, 5, 7, 9, 11, 12, 15, 17, 19, 21, 23, 25, 27, 28, 29, 30, 32, 34, 36, 40, 42, 44, 45] [] [5, 38, 46, 48] []) σ0 σ) : zpc (fX1_stopCount σ) (fun r => (zQ [3, 5, 7, 9, 11, 12, 15, 17, 19, 21, 23, 25, 27, 28, 29, 30, 32, 34, 36, 40, 42, 44, 45] [] [5, 38, 46, 48] []) σ0 (r.1)) := by
  unfold fX1_stopCount
  exact zpc_ck (zpc_some h)
theorem fu_fX1_placeOfStop_37 {σ0 : zSt} {σ : zSt} (h : (zQ [3, 5, 7, 9, 11, 12, 15, 17, 19, 21, 23, 25, 27, 28, 29, 30, 32, 34, 36, 40, 42, 44, 45] [] [5, 38, 46, 48] []) σ0 σ) : zpc (fX1_placeOfStop_37 σ) (fun r => (zQ [3, 5, 7, 9, 11, 12, 15, 17, 19, 21, 23, 25, 27, 28, 29, 30, 32, 34, 36, 40, 42, 44, 45] [] [5, 38, 46, 48] []) σ0 (r.1)) := by
  unfold fX1_placeOfStop_37
  exact zpc_some h
theorem fu_fX1_placeOfStop_2_body {σ0 : zSt} {k2 : zSt → Int32 → Int32 → Option (zSt × Int32)} (hk2 : ∀ (y0 : zSt) (y1 : Int32) (y2 : Int32), (zQ [3, 5, 7, 9, 11, 12, 15, 17, 19, 21, 23, 25, 27, 28, 29, 30, 32, 34, 36, 40, 42, 44, 45] [] [5, 38, 46, 48] []) σ0 y0 → zpc (k2 y0 y1 y2) (fun r => (zQ [3, 5, 7, 9, 11, 12, 15, 17, 19, 21, 23, 25, 27, 28, 29, 30, 32, 34, 36, 40, 42, 44, 45] [] [5, 38, 46, 48] []) σ0 (r.1))) {σ : zSt} {x1 : Int32} {x2 : Int32} (h : (zQ [3, 5, 7, 9, 11, 12, 15, 17, 19, 21, 23, 25, 27, 28, 29, 30, 32, 34, 36, 40, 42, 44, 45] [] [5, 38, 46, 48] []) σ0 σ) : zpc (fX1_placeOfStop_2_body k2 σ x1 x2) (fun r => (zQ [3, 5, 7, 9, 11, 12, 15, 17, 19, 21, 23, 25, 27, 28, 29, 30, 32, 34, 36, 40, 42, 44, 45] [] [5, 38, 46, 48] []) σ0 (r.1)) := by
  unfold fX1_placeOfStop_2_body
  exact zpc_if (fun _ => fu_fX1_placeOfStop_37 h) (fun _ => zpc_ck (zpc_if (fun _ => fu_fX1_placeOfStop_37 h) (fun _ => zpc_ck (zpc_if (fun _ => zpc_some h) (fun _ => zpc_bv (fun v1 _ => hk2 _ _ _ h))))))
theorem fu_fX1_placeOfStop_2 {σ0 : zSt} : ∀ (n : Nat) (y0 : zSt) (y1 : Int32) (y2 : Int32), (zQ [3, 5, 7, 9, 11, 12, 15, 17, 19, 21, 23, 25, 27, 28, 29, 30, 32, 34, 36, 40, 42, 44, 45] [] [5, 38, 46, 48] []) σ0 y0 → zpc (fX1_placeOfStop_2 n y0 y1 y2) (fun r => (zQ [3, 5, 7, 9, 11, 12, 15, 17, 19, 21, 23, 25, 27, 28, 29, 30, 32, 34, 36, 40, 42, 44, 45] [] [5, 38, 46, 48] []) σ0 (r.1)) := by
  intro n
  induction n with
  | zero => intro y0 y1 y2 h; exact zpc_none
  | succ n ih => intro y0 y1 y2 h; exact fu_fX1_placeOfStop_2_body ih h
theorem fu_fX1_placeOfStop {σ0 : zSt} {σ : zSt} {x1 : Int32} (h : (zQ [3, 5, 7, 9, 11, 12, 15, 17, 19, 21, 23, 25, 27, 28, 29, 30, 32, 34, 36, 40, 42, 44, 45] [] [5, 38, 46, 48] []) σ0 σ) : zpc (fX1_placeOfStop σ x1) (fun r => (zQ [3, 5, 7, 9, 11, 12, 15, 17, 19, 21, 23, 25, 27, 28, 29, 30, 32, 34, 36, 40, 42, 44, 45] [] [5, 38, 46, 48] []) σ0 (r.1)) := by
  unfold fX1_placeOfStop
  exact fu_fX1_placeOfStop_2 _ _ _ _ h
theorem fu_fX1_isStop_13 {σ0 : zSt} {σ : zSt} {s0 : Int32} (h : (zQ [3, 5, 7, 9, 11, 12, 15, 17, 19, 21, 23, 25, 27, 28, 29, 30, 32, 34, 36, 40, 42, 44, 45] [] [5, 38, 46, 48] []) σ0 σ) : zpc (fX1_isStop_13 σ s0) (fun r => (zQ [3, 5, 7, 9, 11, 12, 15, 17, 19, 21, 23, 25, 27, 28, 29, 30, 32, 34, 36, 40, 42, 44, 45] [] [5, 38, 46, 48] []) σ0 (r.1)) := by
  unfold fX1_isStop_13
  exact zpc_ck (zpc_some h)
theorem fu_fX1_isStop {σ0 : zSt} {σ : zSt} {x1 : Int32} (h : (zQ [3, 5, 7, 9, 11, 12, 15, 17, 19, 21, 23, 25, 27, 28, 29, 30, 32, 34, 36, 40, 42, 44, 45] [] [5, 38, 46, 48] []) σ0 σ) : zpc (fX1_isStop σ x1) (fun r => (zQ [3, 5, 7, 9, 11, 12, 15, 17, 19, 21, 23, 25, 27, 28, 29, 30, 32, 34, 36, 40, 42, 44, 45] [] [5, 38, 46, 48] []) σ0 (r.1)) := by
  unfold fX1_isStop
  exact zpc_bi (fu_fX1_placeOfStop h) (fun σ1 v2 hσ1 => zpc_if (fun _ => fu_fX1_isStop_13 hσ1) (fun _ => fu_fX1_isStop_13 hσ1))
theorem fu_fX1_stopsBeside_20 {σ0 : zSt} {σ : zSt} {s0 : Int32} {s1 : Int32} (h : (zQ [3, 5, 7, 9, 11, 12, 15, 17, 19, 21, 23, 25, 27, 28, 29, 30, 32, 34, 36, 40, 42, 44, 45] [] [5, 38, 46, 48] []) σ0 σ) : zpc (fX1_stopsBeside_20 σ s0 s1) (fun r => (zQ [3, 5, 7, 9, 11, 12, 15, 17, 19, 21, 23, 25, 27, 28, 29, 30, 32, 34, 36, 40, 42, 44, 45] [] [5, 38, 46, 48] []) σ0 (r.1)) := by
  unfold fX1_stopsBeside_20
  exact zpc_some h
theorem fu_fX1_stopsBeside {σ0 : zSt} {σ : zSt} {x1 : Int32} (h : (zQ [3, 5, 7, 9, 11, 12, 15, 17, 19, 21, 23, 25, 27, 28, 29, 30, 32, 34, 36, 40, 42, 44, 45] [] [5, 38, 46, 48] []) σ0 σ) : zpc (fX1_stopsBeside σ x1) (fun r => (zQ [3, 5, 7, 9, 11, 12, 15, 17, 19, 21, 23, 25, 27, 28, 29, 30, 32, 34, 36, 40, 42, 44, 45] [] [5, 38, 46, 48] []) σ0 (r.1)) := by
  unfold fX1_stopsBeside
  exact zpc_ck (zpc_bi (fu_fX1_isStop h) (fun σ1 v2 hσ1 => zpc_if (fun _ => fu_fX1_stopsBeside_20 hσ1) (fun _ => fu_fX1_stopsBeside_20 hσ1)))
theorem fu_fX1_changeStop_87 {σ0 : zSt} {σ : zSt} (h : (zQ [3, 5, 7, 9, 11, 12, 15, 17, 19, 21, 23, 25, 27, 28, 29, 30, 32, 34, 36, 40, 42, 44, 45] [] [5, 38, 46, 48] []) σ0 σ) : zpc (fX1_changeStop_87 σ) (fun r => (zQ [3, 5, 7, 9, 11, 12, 15, 17, 19, 21, 23, 25, 27, 28, 29, 30, 32, 34, 36, 40, 42, 44, 45] [] [5, 38, 46, 48] []) σ0 (r.1)) := by
  unfold fX1_changeStop_87
  exact zpc_ck (zpc_some h)
theorem fu_fX1_changeStop_50 {σ0 : zSt} {σ : zSt} {x2 : Int32} {x3 : Int32} {x4 : Int32} (h : (zQ [3, 5, 7, 9, 11, 12, 15, 17, 19, 21, 23, 25, 27, 28, 29, 30, 32, 34, 36, 40, 42, 44, 45] [] [5, 38, 46, 48] []) σ0 σ) : zpc (fX1_changeStop_50 σ x2 x3 x4) (fun r => (zQ [3, 5, 7, 9, 11, 12, 15, 17, 19, 21, 23, 25, 27, 28, 29, 30, 32, 34, 36, 40, 42, 44, 45] [] [5, 38, 46, 48] []) σ0 (r.1)) := by
  unfold fX1_changeStop_50
  exact zpc_if (fun _ => zpc_if (fun _ => fu_fX1_changeStop_87 h) (fun _ => zpc_ck (zpc_ck (zpc_bs (zQ.wi h rfl) (fun σ1 hσ1 => zpc_ck (zpc_bs (zQ.wi hσ1 rfl) (fun σ2 hσ2 => fu_fX1_changeStop_87 hσ2))))))) (fun _ => fu_fX1_changeStop_87 h)
theorem fu_fX1_changeStop {σ0 : zSt} {σ : zSt} {x1 : Int32} {x2 : Int32} (h : (zQ [3, 5, 7, 9, 11, 12, 15, 17, 19, 21, 23, 25, 27, 28, 29, 30, 32, 34, 36, 40, 42, 44, 45] [] [5, 38, 46, 48] []) σ0 σ) : zpc (fX1_changeStop σ x1 x2) (fun r => (zQ [3, 5, 7, 9, 11, 12, 15, 17, 19, 21, 23, 25, 27, 28, 29, 30, 32, 34, 36, 40, 42, 44, 45] [] [5, 38, 46, 48] []) σ0 (r.1)) := by
  unfold fX1_changeStop
  exact zpc_ck (zpc_bv (fun v3 _ => zpc_bi (fu_fX1_placeOfStop h) (fun σ4 v5 hσ4 => zpc_if (fun _ => fu_fX1_changeStop_50 hσ4) (fun _ => zpc_if (fun _ => fu_fX1_changeStop_50 hσ4) (fun _ => zpc_if (fun _ => fu_fX1_changeStop_50 hσ4) (fun _ => zpc_ck (zpc_bs (zQ.wi hσ4 rfl) (fun σ6 hσ6 => zpc_ck (zpc_bs (zQ.wi hσ6 rfl) (fun σ7 hσ7 => fu_fX1_changeStop_87 hσ7))))))))))
theorem fu_fX1_plansWaiting {σ0 : zSt} {σ : zSt} (h : (zQ [3, 5, 7, 9, 11, 12, 15, 17, 19, 21, 23, 25, 27, 28, 29, 30, 32, 34, 36, 40, 42, 44, 45] [] [5, 38, 46, 48] []) σ0 σ) : zpc (fX1_plansWaiting σ) (fun r => (zQ [3, 5, 7, 9, 11, 12, 15, 17, 19, 21, 23, 25, 27, 28, 29, 30, 32, 34, 36, 40, 42, 44, 45] [] [5, 38, 46, 48] []) σ0 (r.1)) := by
  unfold fX1_plansWaiting
  exact zpc_ck (zpc_some h)
theorem fu_fX1_placeOfPlan {σ0 : zSt} {σ : zSt} {x1 : Int32} (h : (zQ [3, 5, 7, 9, 11, 12, 15, 17, 19, 21, 23, 25, 27, 28, 29, 30, 32, 34, 36, 40, 42, 44, 45] [] [5, 38, 46, 48] []) σ0 σ) : zpc (fX1_placeOfPlan σ x1) (fun r => (zQ [3, 5, 7, 9, 11, 12, 15, 17, 19, 21, 23, 25, 27, 28, 29, 30, 32, 34, 36, 40, 42, 44, 45] [] [5, 38, 46, 48] []) σ0 (r.1)) := by
  unfold fX1_placeOfPlan
  exact zpc_ck (zpc_some h)
theorem fu_fX1_leastPlan_34 {σ0 : zSt} {σ : zSt} {s0 : Int32} (h : (zQ [3, 5, 7, 9, 11, 12, 15, 17, 19, 21, 23, 25, 27, 28, 29, 30, 32, 34, 36, 40, 42, 44, 45] [] [5, 38, 46, 48] []) σ0 σ) : zpc (fX1_leastPlan_34 σ s0) (fun r => (zQ [3, 5, 7, 9, 11, 12, 15, 17, 19, 21, 23, 25, 27, 28, 29, 30, 32, 34, 36, 40, 42, 44, 45] [] [5, 38, 46, 48] []) σ0 (r.1)) := by
  unfold fX1_leastPlan_34
  exact zpc_some h
theorem fu_fX1_leastPlan {σ0 : zSt} {σ : zSt} (h : (zQ [3, 5, 7, 9, 11, 12, 15, 17, 19, 21, 23, 25, 27, 28, 29, 30, 32, 34, 36, 40, 42, 44, 45] [] [5, 38, 46, 48] []) σ0 σ) : zpc (fX1_leastPlan σ) (fun r => (zQ [3, 5, 7, 9, 11, 12, 15, 17, 19, 21, 23, 25, 27, 28, 29, 30, 32, 34, 36, 40, 42, 44, 45] [] [5, 38, 46, 48] []) σ0 (r.1)) := by
  unfold fX1_leastPlan
  exact zpc_ck (zpc_if (fun _ => fu_fX1_leastPlan_34 h) (fun _ => zpc_ck (zpc_bi (fu_fX1_placeOfPlan h) (fun σ1 v2 hσ1 => zpc_ck (fu_fX1_leastPlan_34 hσ1)))))
theorem fu_fX1_addPlan {σ0 : zSt} {σ : zSt} {x1 : Int32} {x2 : Int32} {x3 : Int32} (h : (zQ [3, 5, 7, 9, 11, 12, 15, 17, 19, 21, 23, 25, 27, 28, 29, 30, 32, 34, 36, 40, 42, 44, 45] [] [5, 38, 46, 48] []) σ0 σ) : zpc (fX1_addPlan σ x1 x2 x3) (fun r => (zQ [3, 5, 7, 9, 11, 12, 15, 17, 19, 21, 23, 25, 27, 28, 29, 30, 32, 34, 36, 40, 42, 44, 45] [] [5, 38, 46, 48] []) σ0 (r.1)) := by
  unfold fX1_addPlan
  exact zpc_ck (zpc_bi (fu_fX1_placeOfPlan h) (fun σ1 v2 hσ1 => zpc_ck (zpc_bs (zQ.wi hσ1 rfl) (fun σ3 hσ3 => zpc_ck (zpc_bs (zQ.wi hσ3 rfl) (fun σ4 hσ4 => zpc_ck (zpc_bs (zQ.wi hσ4 rfl) (fun σ5 hσ5 => zpc_ck (zpc_ck (zpc_bs (zQ.wi hσ5 rfl) (fun σ6 hσ6 => zpc_ck (zpc_some hσ6))))))))))))
theorem fu_fX4_holdButtons {σ0 : zSt} {σ : zSt} {x1 : Int32} {x2 : Int32} (h : (zQ [3, 5, 7, 9, 11, 12, 15, 17, 19, 21, 23, 25, 27, 28, 29, 30, 32, 34, 36, 40, 42, 44, 45] [] [5, 38, 46, 48] []) σ0 σ) : zpc (fX4_holdButtons σ x1 x2) (fun r => (zQ [3, 5, 7, 9, 11, 12, 15, 17, 19, 21, 23, 25, 27, 28, 29, 30, 32, 34, 36, 40, 42, 44, 45] [] [5, 38, 46, 48] []) σ0 (r)) := by
  unfold fX4_holdButtons
  exact zpc_ck (zpc_bs (zQ.wi h rfl) (fun σ1 hσ1 => zpc_some hσ1))
theorem fu_fX1_carryOutPlans_107 {σ0 : zSt} {σ : zSt} (h : (zQ [3, 5, 7, 9, 11, 12, 15, 17, 19, 21, 23, 25, 27, 28, 29, 30, 32, 34, 36, 40, 42, 44, 45] [] [5, 38, 46, 48] []) σ0 σ) : zpc (fX1_carryOutPlans_107 σ) (fun r => (zQ [3, 5, 7, 9, 11, 12, 15, 17, 19, 21, 23, 25, 27, 28, 29, 30, 32, 34, 36, 40, 42, 44, 45] [] [5, 38, 46, 48] []) σ0 (r)) := by
  unfold fX1_carryOutPlans_107
  exact zpc_some h
theorem fu_fX1_carryOutPlans_3_body {σ0 : zSt} {k3 : zSt → Int64 → Int32 → Option (zSt)} (hk3 : ∀ (y0 : zSt) (y1 : Int64) (y2 : Int32), (zQ [3, 5, 7, 9, 11, 12, 15, 17, 19, 21, 23, 25, 27, 28, 29, 30, 32, 34, 36, 40, 42, 44, 45] [] [5, 38, 46, 48] []) σ0 y0 → zpc (k3 y0 y1 y2) (fun r => (zQ [3, 5, 7, 9, 11, 12, 15, 17, 19, 21, 23, 25, 27, 28, 29, 30, 32, 34, 36, 40, 42, 44, 45] [] [5, 38, 46, 48] []) σ0 (r))) {σ : zSt} {x1 : Int64} {x4 : Int32} (h : (zQ [3, 5, 7, 9, 11, 12, 15, 17, 19, 21, 23, 25, 27, 28, 29, 30, 32, 34, 36, 40, 42, 44, 45] [] [5, 38, 46, 48] []) σ0 σ) : zpc (fX1_carryOutPlans_3_body k3 σ x1 x4) (fun r => (zQ [3, 5, 7, 9, 11, 12, 15, 17, 19, 21, 23, 25, 27, 28, 29, 30, 32, 34, 36, 40, 42, 44, 45] [] [5, 38, 46, 48] []) σ0 (r)) := by
  unfold fX1_carryOutPlans_3_body
  exact zpc_if (fun _ => fu_fX1_carryOutPlans_107 h) (fun _ => zpc_ck (zpc_if (fun _ => fu_fX1_carryOutPlans_107 h) (fun _ => zpc_bi (fu_fX1_placeOfPlan h) (fun σ1 v2 hσ1 => zpc_ck (zpc_if (fun _ => zpc_ck (zpc_ck (zpc_bu (fu_fX4_holdButtons hσ1) (fun σ3 hσ3 => zpc_ck (zpc_ck (zpc_bs (zQ.wi hσ3 rfl) (fun σ4 hσ4 => zpc_ck (zpc_ck (zpc_bs (zQ.wi hσ4 rfl) (fun σ5 hσ5 => zpc_bv (fun v6 _ => hk3 _ _ _ hσ5))))))))))) (fun _ => fu_fX1_carryOutPlans_107 hσ1))))))
theorem fu_fX1_carryOutPlans_3 {σ0 : zSt} : ∀ (n : Nat) (y0 : zSt) (y1 : Int64) (y2 : Int32), (zQ [3, 5, 7, 9, 11, 12, 15, 17, 19, 21, 23, 25, 27, 28, 29, 30, 32, 34, 36, 40, 42, 44, 45] [] [5, 38, 46, 48] []) σ0 y0 → zpc (fX1_carryOutPlans_3 n y0 y1 y2) (fun r => (zQ [3, 5, 7, 9, 11, 12, 15, 17, 19, 21, 23, 25, 27, 28, 29, 30, 32, 34, 36, 40, 42, 44, 45] [] [5, 38, 46, 48] []) σ0 (r)) := by
  intro n
  induction n with
  | zero => intro y0 y1 y2 h; exact zpc_none
  | succ n ih => intro y0 y1 y2 h; exact fu_fX1_carryOutPlans_3_body ih h
theorem fu_fX1_carryOutPlans {σ0 : zSt} {σ : zSt} {x1 : Int64} (h : (zQ [3, 5, 7, 9, 11, 12, 15, 17, 19, 21, 23, 25, 27, 28, 29, 30, 32, 34, 36, 40, 42, 44, 45] [] [5, 38, 46, 48] []) σ0 σ) : zpc (fX1_carryOutPlans σ x1) (fun r => (zQ [3, 5, 7, 9, 11, 12, 15, 17, 19, 21, 23, 25, 27, 28, 29, 30, 32, 34, 36, 40, 42, 44, 45] [] [5, 38, 46, 48] []) σ0 (r)) := by
  unfold fX1_carryOutPlans
  exact fu_fX1_carryOutPlans_3 _ _ _ _ h
theorem fu_fX2_romByte_29 {σ0 : zSt} {σ : zSt} {s0 : Int32} (h : (zQ [3, 5, 7, 9, 11, 12, 15, 17, 19, 21, 23, 25, 27, 28, 29, 30, 32, 34, 36, 40, 42, 44, 45] [] [5, 38, 46, 48] []) σ0 σ) : zpc (fX2_romByte_29 σ s0) (fun r => (zQ [3, 5, 7, 9, 11, 12, 15, 17, 19, 21, 23, 25, 27, 28, 29, 30, 32, 34, 36, 40, 42, 44, 45] [] [5, 38, 46, 48] []) σ0 (r.1)) := by
  unfold fX2_romByte_29
  exact zpc_some h
theorem fu_fX2_romByte_26 {σ0 : zSt} {σ : zSt} (h : (zQ [3, 5, 7, 9, 11, 12, 15, 17, 19, 21, 23, 25, 27, 28, 29, 30, 32, 34, 36, 40, 42, 44, 45] [] [5, 38, 46, 48] []) σ0 σ) : zpc (fX2_romByte_26 σ) (fun r => (zQ [3, 5, 7, 9, 11, 12, 15, 17, 19, 21, 23, 25, 27, 28, 29, 30, 32, 34, 36, 40, 42, 44, 45] [] [5, 38, 46, 48] []) σ0 (r.1)) := by
  unfold fX2_romByte_26
  exact fu_fX2_romByte_29 h
theorem fu_fX2_romByte {σ0 : zSt} {σ : zSt} {x1 : Int32} (h : (zQ [3, 5, 7, 9, 11, 12, 15, 17, 19, 21, 23, 25, 27, 28, 29, 30, 32, 34, 36, 40, 42, 44, 45] [] [5, 38, 46, 48] []) σ0 σ) : zpc (fX2_romByte σ x1) (fun r => (zQ [3, 5, 7, 9, 11, 12, 15, 17, 19, 21, 23, 25, 27, 28, 29, 30, 32, 34, 36, 40, 42, 44, 45] [] [5, 38, 46, 48] []) σ0 (r.1)) := by
  unfold fX2_romByte
  exact zpc_if (fun _ => fu_fX2_romByte_26 h) (fun _ => zpc_if (fun _ => fu_fX2_romByte_26 h) (fun _ => zpc_ck (fu_fX2_romByte_29 h)))
theorem fu_fX2_romWord {σ0 : zSt} {σ : zSt} {x1 : Int32} (h : (zQ [3, 5, 7, 9, 11, 12, 15, 17, 19, 21, 23, 25, 27, 28, 29, 30, 32, 34, 36, 40, 42, 44, 45] [] [5, 38, 46, 48] []) σ0 σ) : zpc (fX2_romWord σ x1) (fun r => (zQ [3, 5, 7, 9, 11, 12, 15, 17, 19, 21, 23, 25, 27, 28, 29, 30, 32, 34, 36, 40, 42, 44, 45] [] [5, 38, 46, 48] []) σ0 (r.1)) := by
  unfold fX2_romWord
  exact zpc_bi (fu_fX2_romByte h) (fun σ1 v2 hσ1 => zpc_bi (fu_fX2_romByte hσ1) (fun σ3 v4 hσ3 => zpc_some hσ3))
theorem fu_fX2_sumOfCard_77 {σ0 : zSt} {σ : zSt} {x2 : Int32} (h : (zQ [3, 5, 7, 9, 11, 12, 15, 17, 19, 21, 23, 25, 27, 28, 29, 30, 32, 34, 36, 40, 42, 44, 45] [] [5, 38, 46, 48] []) σ0 σ) : zpc (fX2_sumOfCard_77 σ x2) (fun r => (zQ [3, 5, 7, 9, 11, 12, 15, 17, 19, 21, 23, 25, 27, 28, 29, 30, 32, 34, 36, 40, 42, 44, 45] [] [5, 38, 46, 48] []) σ0 (r.1)) := by
  unfold fX2_sumOfCard_77
  exact zpc_some h
theorem fu_fX2_sumOfCard_55_body {σ0 : zSt} {k55 : zSt → Int32 → Int32 → Option (zSt × Int32)} (hk55 : ∀ (y0 : zSt) (y1 : Int32) (y2 : Int32), (zQ [3, 5, 7, 9, 11, 12, 15, 17, 19, 21, 23, 25, 27, 28, 29, 30, 32, 34, 36, 40, 42, 44, 45] [] [5, 38, 46, 48] []) σ0 y0 → zpc (k55 y0 y1 y2) (fun r => (zQ [3, 5, 7, 9, 11, 12, 15, 17, 19, 21, 23, 25, 27, 28, 29, 30, 32, 34, 36, 40, 42, 44, 45] [] [5, 38, 46, 48] []) σ0 (r.1))) {σ : zSt} {x2 : Int32} {x3 : Int32} (h : (zQ [3, 5, 7, 9, 11, 12, 15, 17, 19, 21, 23, 25, 27, 28, 29, 30, 32, 34, 36, 40, 42, 44, 45] [] [5, 38, 46, 48] []) σ0 σ) : zpc (fX2_sumOfCard_55_body k55 σ x2 x3) (fun r => (zQ [3, 5, 7, 9, 11, 12, 15, 17, 19, 21, 23, 25, 27, 28, 29, 30, 32, 34, 36, 40, 42, 44, 45] [] [5, 38, 46, 48] []) σ0 (r.1)) := by
  unfold fX2_sumOfCard_55_body
  exact zpc_if (fun _ => fu_fX2_sumOfCard_77 h) (fun _ => zpc_bi (fu_fX2_romByte h) (fun σ1 v2 hσ1 => zpc_bv (fun v3 _ => zpc_bv (fun v4 _ => hk55 _ _ _ hσ1))))
theorem fu_fX2_sumOfCard_55 {σ0 : zSt} : ∀ (n : Nat) (y0 : zSt) (y1 : Int32) (y2 : Int32), (zQ [3, 5, 7, 9, 11, 12, 15, 17, 19, 21, 23, 25, 27, 28, 29, 30, 32, 34, 36, 40, 42, 44, 45] [] [5, 38, 46, 48] []) σ0 y0 → zpc (fX2_sumOfCard_55 n y0 y1 y2) (fun r => (zQ [3, 5, 7, 9, 11, 12, 15, 17, 19, 21, 23, 25, 27, 28, 29, 30, 32, 34, 36, 40, 42, 44, 45] [] [5, 38, 46, 48] []) σ0 (r.1)) := by
  intro n
  induction n with
  | zero => intro y0 y1 y2 h; exact zpc_none
  | succ n ih => intro y0 y1 y2 h; exact fu_fX2_sumOfCard_55_body ih h
theorem fu_fX2_sumOfCard_52 {σ0 : zSt} {σ : zSt} {x2 : Int32} (h : (zQ [3, 5, 7, 9, 11, 12, 15, 17, 19, 21, 23, 25, 27, 28, 29, 30, 32, 34, 36, 40, 42, 44, 45] [] [5, 38, 46, 48] []) σ0 σ) : zpc (fX2_sumOfCard_52 σ x2) (fun r => (zQ [3, 5, 7, 9, 11, 12, 15, 17, 19, 21, 23, 25, 27, 28, 29, 30, 32, 34, 36, 40, 42, 44, 45] [] [5, 38, 46, 48] []) σ0 (r.1)) := by
  unfold fX2_sumOfCard_52
  exact fu_fX2_sumOfCard_55 _ _ _ _ h
theorem fu_fX2_sumOfCard_19_body {σ0 : zSt} {k19 : zSt → Int32 → Int32 → Int32 → Option (zSt × Int32)} (hk19 : ∀ (y0 : zSt) (y1 : Int32) (y2 : Int32) (y3 : Int32), (zQ [3, 5, 7, 9, 11, 12, 15, 17, 19, 21, 23, 25, 27, 28, 29, 30, 32, 34, 36, 40, 42, 44, 45] [] [5, 38, 46, 48] []) σ0 y0 → zpc (k19 y0 y1 y2 y3) (fun r => (zQ [3, 5, 7, 9, 11, 12, 15, 17, 19, 21, 23, 25, 27, 28, 29, 30, 32, 34, 36, 40, 42, 44, 45] [] [5, 38, 46, 48] []) σ0 (r.1))) {σ : zSt} {x1 : Int32} {x2 : Int32} {x3 : Int32} (h : (zQ [3, 5, 7, 9, 11, 12, 15, 17, 19, 21, 23, 25, 27, 28, 29, 30, 32, 34, 36, 40, 42, 44, 45] [] [5, 38, 46, 48] []) σ0 σ) : zpc (fX2_sumOfCard_19_body k19 σ x1 x2 x3) (fun r => (zQ [3, 5, 7, 9, 11, 12, 15, 17, 19, 21, 23, 25, 27, 28, 29, 30, 32, 34, 36, 40, 42, 44, 45] [] [5, 38, 46, 48] []) σ0 (r.1)) := by
  unfold fX2_sumOfCard_19_body
  exact zpc_if (fun _ => zpc_if (fun _ => fu_fX2_sumOfCard_52 h) (fun _ => zpc_if (fun _ => fu_fX2_sumOfCard_77 h) (fun _ => fu_fX2_sumOfCard_52 h))) (fun _ => zpc_bi (fu_fX2_romByte h) (fun σ5 v6 hσ5 => zpc_bv (fun v7 _ => zpc_bv (fun v8 _ => hk19 _ _ _ _ hσ5))))
theorem fu_fX2_sumOfCard_19 {σ0 : zSt} : ∀ (n : Nat) (y0 : zSt) (y1 : Int32) (y2 : Int32) (y3 : Int32), (zQ [3, 5, 7, 9, 11, 12, 15, 17, 19, 21, 23, 25, 27, 28, 29, 30, 32, 34, 36, 40, 42, 44, 45] [] [5, 38, 46, 48] []) σ0 y0 → zpc (fX2_sumOfCard_19 n y0 y1 y2 y3) (fun r => (zQ [3, 5, 7, 9, 11, 12, 15, 17, 19, 21, 23, 25, 27, 28, 29, 30, 32, 34, 36, 40, 42, 44, 45] [] [5, 38, 46, 48] []) σ0 (r.1)) := by
  intro n
  induction n with
  | zero => intro y0 y1 y2 y3 h; exact zpc_none
  | succ n ih => intro y0 y1 y2 y3 h; exact fu_fX2_sumOfCard_19_body ih h
theorem fu_fX2_sumOfCard {σ0 : zSt} {σ : zSt} (h : (zQ [3, 5, 7, 9, 11, 12, 15, 17, 19, 21, 23, 25, 27, 28, 29, 30, 32, 34, 36, 40, 42, 44, 45] [] [5, 38, 46, 48] []) σ0 σ) : zpc (fX2_sumOfCard σ) (fun r => (zQ [3, 5, 7, 9, 11, 12, 15, 17, 19, 21, 23, 25, 27, 28, 29, 30, 32, 34, 36, 40, 42, 44, 45] [] [5, 38, 46, 48] []) σ0 (r.1)) := by
  unfold fX2_sumOfCard
  exact zpc_bi (fu_fX2_romByte h) (fun σ9 v10 hσ9 => zpc_bv (fun v11 _ => fu_fX2_sumOfCard_19 _ _ _ _ _ hσ9))
theorem fu_fX2_decimal {σ0 : zSt} {σ : zSt} {x1 : Int32} (h : (zQ [3, 5, 7, 9, 11, 12, 15, 17, 19, 21, 23, 25, 27, 28, 29, 30, 32, 34, 36, 40, 42, 44, 45] [] [5, 38, 46, 48] []) σ0 σ) : zpc (fX2_decimal σ x1) (fun r => (zQ [3, 5, 7, 9, 11, 12, 15, 17, 19, 21, 23, 25, 27, 28, 29, 30, 32, 34, 36, 40, 42, 44, 45] [] [5, 38, 46, 48] []) σ0 (r.1)) := by
  unfold fX2_decimal
  exact zpc_bi (fu_fX2_romByte h) (fun σ1 v2 hσ1 => zpc_some hσ1)
theorem fu_fX2_aboutCard_14 {σ0 : zSt} {σ : zSt} {x1 : Int32} (h : (zQ [3, 5, 7, 9, 11, 12, 15, 17, 19, 21, 23, 25, 27, 28, 29, 30, 32, 34, 36, 40, 42, 44, 45] [] [5, 38, 46, 48] []) σ0 σ) : zpc (fX2_aboutCard_14 σ x1) (fun r => (zQ [3, 5, 7, 9, 11, 12, 15, 17, 19, 21, 23, 25, 27, 28, 29, 30, 32, 34, 36, 40, 42, 44, 45] [] [5, 38, 46, 48] []) σ0 (r.1)) := by
  unfold fX2_aboutCard_14
  exact zpc_if (fun _ => zpc_some h) (fun _ => zpc_if (fun _ => zpc_some h) (fun _ => zpc_if (fun _ => zpc_some h) (fun _ => zpc_if (fun _ => zpc_bi (fu_fX2_decimal h) (fun σ1 v2 hσ1 => zpc_bi (fu_fX2_decimal hσ1) (fun σ3 v4 hσ3 => zpc_bi (fu_fX2_romByte hσ3) (fun σ5 v6 hσ5 => zpc_some hσ5)))) (fun _ => zpc_if (fun _ => zpc_bi (fu_fX2_romByte h) (fun σ7 v8 hσ7 => zpc_some hσ7)) (fun _ => zpc_if (fun _ => zpc_bi (fu_fX2_romByte h) (fun σ9 v10 hσ9 => zpc_some hσ9)) (fun _ => zpc_if (fun _ => zpc_bi (fu_fX2_romWord h) (fun σ11 v12 hσ11 => zpc_some hσ11)) (fun _ => zpc_bi (fu_fX2_sumOfCard h) (fun σ13 v14 hσ13 => zpc_some hσ13))))))))
theorem fu_fX2_aboutCard {σ0 : zSt} {σ : zSt} {x1 : Int32} (h : (zQ [3, 5, 7, 9, 11, 12, 15, 17, 19, 21, 23, 25, 27, 28, 29, 30, 32, 34, 36, 40, 42, 44, 45] [] [5, 38, 46, 48] []) σ0 σ) : zpc (fX2_aboutCard σ x1) (fun r => (zQ [3, 5, 7, 9, 11, 12, 15, 17, 19, 21, 23, 25, 27, 28, 29, 30, 32, 34, 36, 40, 42, 44, 45] [] [5, 38, 46, 48] []) σ0 (r.1)) := by
  unfold fX2_aboutCard
  exact zpc_if (fun _ => fu_fX2_aboutCard_14 h) (fun _ => zpc_if (fun _ => fu_fX2_aboutCard_14 h) (fun _ => zpc_some h))
theorem fu_fX2_cardSize {σ0 : zSt} {σ : zSt} (h : (zQ [3, 5, 7, 9, 11, 12, 15, 17, 19, 21, 23, 25, 27, 28, 29, 30, 32, 34, 36, 40, 42, 44, 45] [] [5, 38, 46, 48] []) σ0 σ) : zpc (fX2_cardSize σ) (fun r => (zQ [3, 5, 7, 9, 11, 12, 15, 17, 19, 21, 23, 25, 27, 28, 29, 30, 32, 34, 36, 40, 42, 44, 45] [] [5, 38, 46, 48] []) σ0 (r.1)) := by
  unfold fX2_cardSize
  exact zpc_some h
theorem fu_fX2_page {σ0 : zSt} {σ : zSt} {x1 : Int32} (h : (zQ [3, 5, 7, 9, 11, 12, 15, 17, 19, 21, 23, 25, 27, 28, 29, 30, 32, 34, 36, 40, 42, 44, 45] [] [5, 38, 46, 48] []) σ0 σ) : zpc (fX2_page σ x1) (fun r => (zQ [3, 5, 7, 9, 11, 12, 15, 17, 19, 21, 23, 25, 27, 28, 29, 30, 32, 34, 36, 40, 42, 44, 45] [] [5, 38, 46, 48] []) σ0 (r.1)) := by
  unfold fX2_page
  exact zpc_ck (zpc_some h)
theorem fu_fX2_batteryIsIn_25 {σ0 : zSt} {σ : zSt} {s0 : Int32} (h : (zQ [3, 5, 7, 9, 11, 12, 15, 17, 19, 21, 23, 25, 27, 28, 29, 30, 32, 34, 36, 40, 42, 44, 45] [] [5, 38, 46, 48] []) σ0 σ) : zpc (fX2_batteryIsIn_25 σ s0) (fun r => (zQ [3, 5, 7, 9, 11, 12, 15, 17, 19, 21, 23, 25, 27, 28, 29, 30, 32, 34, 36, 40, 42, 44, 45] [] [5, 38, 46, 48] []) σ0 (r.1)) := by
  unfold fX2_batteryIsIn_25
  exact zpc_ck (zpc_some h)
theorem fu_fX2_batteryIsIn_24 {σ0 : zSt} {σ : zSt} (h : (zQ [3, 5, 7, 9, 11, 12, 15, 17, 19, 21, 23, 25, 27, 28, 29, 30, 32, 34, 36, 40, 42, 44, 45] [] [5, 38, 46, 48] []) σ0 σ) : zpc (fX2_batteryIsIn_24 σ) (fun r => (zQ [3, 5, 7, 9, 11, 12, 15, 17, 19, 21, 23, 25, 27, 28, 29, 30, 32, 34, 36, 40, 42, 44, 45] [] [5, 38, 46, 48] []) σ0 (r.1)) := by
  unfold fX2_batteryIsIn_24
  exact fu_fX2_batteryIsIn_25 h
theorem fu_fX2_batteryIsIn {σ0 : zSt} {σ : zSt} (h : (zQ [3, 5, 7, 9, 11, 12, 15, 17, 19, 21, 23, 25, 27, 28, 29, 30, 32, 34, 36, 40, 42, 44, 45] [] [5, 38, 46, 48] []) σ0 σ) : zpc (fX2_batteryIsIn σ) (fun r => (zQ [3, 5, 7, 9, 11, 12, 15, 17, 19, 21, 23, 25, 27, 28, 29, 30, 32, 34, 36, 40, 42, 44, 45] [] [5, 38, 46, 48] []) σ0 (r.1)) := by
  unfold fX2_batteryIsIn
  exact zpc_if (fun _ => zpc_ck (zpc_if (fun _ => fu_fX2_batteryIsIn_24 h) (fun _ => fu_fX2_batteryIsIn_25 h))) (fun _ => fu_fX2_batteryIsIn_24 h)
theorem fu_fX2_batteryPlace {σ0 : zSt} {σ : zSt} {x1 : Int32} (h : (zQ [3, 5, 7, 9, 11, 12, 15, 17, 19, 21, 23, 25, 27, 28, 29, 30, 32, 34, 36, 40, 42, 44, 45] [] [5, 38, 46, 48] []) σ0 σ) : zpc (fX2_batteryPlace σ x1) (fun r => (zQ [3, 5, 7, 9, 11, 12, 15, 17, 19, 21, 23, 25, 27, 28, 29, 30, 32, 34, 36, 40, 42, 44, 45] [] [5, 38, 46, 48] []) σ0 (r.1)) := by
  unfold fX2_batteryPlace
  exact zpc_ck (zpc_some h)
theorem fu_fX2_read_169 {σ0 : zSt} {σ : zSt} {s0 : Int32} (h : (zQ [3, 5, 7, 9, 11, 12, 15, 17, 19, 21, 23, 25, 27, 28, 29, 30, 32, 34, 36, 40, 42, 44, 45] [] [5, 38, 46, 48] []) σ0 σ) : zpc (fX2_read_169 σ s0) (fun r => (zQ [3, 5, 7, 9, 11, 12, 15, 17, 19, 21, 23, 25, 27, 28, 29, 30, 32, 34, 36, 40, 42, 44, 45] [] [5, 38, 46, 48] []) σ0 (r.1)) := by
  unfold fX2_read_169
  exact zpc_some h
theorem fu_fX2_read_144 {σ0 : zSt} {σ : zSt} {x3 : Int32} (h : (zQ [3, 5, 7, 9, 11, 12, 15, 17, 19, 21, 23, 25, 27, 28, 29, 30, 32, 34, 36, 40, 42, 44, 45] [] [5, 38, 46, 48] []) σ0 σ) : zpc (fX2_read_144 σ x3) (fun r => (zQ [3, 5, 7, 9, 11, 12, 15, 17, 19, 21, 23, 25, 27, 28, 29, 30, 32, 34, 36, 40, 42, 44, 45] [] [5, 38, 46, 48] []) σ0 (r.1)) := by
  unfold fX2_read_144
  exact zpc_if (fun _ => fu_fX2_read_169 h) (fun _ => zpc_ck (fu_fX2_read_169 h))
theorem fu_fX2_read_126 {σ0 : zSt} {σ : zSt} {x2 : Int32} {x6 : Int32} (h : (zQ [3, 5, 7, 9, 11, 12, 15, 17, 19, 21, 23, 25, 27, 28, 29, 30, 32, 34, 36, 40, 42, 44, 45] [] [5, 38, 46, 48] []) σ0 σ) : zpc (fX2_read_126 σ x2 x6) (fun r => (zQ [3, 5, 7, 9, 11, 12, 15, 17, 19, 21, 23, 25, 27, 28, 29, 30, 32, 34, 36, 40, 42, 44, 45] [] [5, 38, 46, 48] []) σ0 (r.1)) := by
  unfold fX2_read_126
  exact zpc_ck (zpc_bv (fun v1 _ => fu_fX2_read_144 h))
theorem fu_fX2_read_106 {σ0 : zSt} {σ : zSt} {x2 : Int32} {s0 : Int32} (h : (zQ [3, 5, 7, 9, 11, 12, 15, 17, 19, 21, 23, 25, 27, 28, 29, 30, 32, 34, 36, 40, 42, 44, 45] [] [5, 38, 46, 48] []) σ0 σ) : zpc (fX2_read_106 σ x2 s0) (fun r => (zQ [3, 5, 7, 9, 11, 12, 15, 17, 19, 21, 23, 25, 27, 28, 29, 30, 32, 34, 36, 40, 42, 44, 45] [] [5, 38, 46, 48] []) σ0 (r.1)) := by
  unfold fX2_read_106
  exact zpc_if (fun _ => zpc_if (fun _ => fu_fX2_read_126 h) (fun _ => fu_fX2_read_126 h)) (fun _ => fu_fX2_read_126 h)
theorem fu_fX2_read_87 {σ0 : zSt} {σ : zSt} {x2 : Int32} {x4 : Int32} {s0 : Int32} (h : (zQ [3, 5, 7, 9, 11, 12, 15, 17, 19, 21, 23, 25, 27, 28, 29, 30, 32, 34, 36, 40, 42, 44, 45] [] [5, 38, 46, 48] []) σ0 σ) : zpc (fX2_read_87 σ x2 x4 s0) (fun r => (zQ [3, 5, 7, 9, 11, 12, 15, 17, 19, 21, 23, 25, 27, 28, 29, 30, 32, 34, 36, 40, 42, 44, 45] [] [5, 38, 46, 48] []) σ0 (r.1)) := by
  unfold fX2_read_87
  exact zpc_if (fun _ => zpc_ck (fu_fX2_read_106 h)) (fun _ => fu_fX2_read_106 h)
theorem fu_fX2_read_86 {σ0 : zSt} {σ : zSt} {x2 : Int32} {x4 : Int32} (h : (zQ [3, 5, 7, 9, 11, 12, 15, 17, 19, 21, 23, 25, 27, 28, 29, 30, 32, 34, 36, 40, 42, 44, 45] [] [5, 38, 46, 48] []) σ0 σ) : zpc (fX2_read_86 σ x2 x4) (fun r => (zQ [3, 5, 7, 9, 11, 12, 15, 17, 19, 21, 23, 25, 27, 28, 29, 30, 32, 34, 36, 40, 42, 44, 45] [] [5, 38, 46, 48] []) σ0 (r.1)) := by
  unfold fX2_read_86
  exact fu_fX2_read_87 h
theorem fu_fX2_read_62 {σ0 : zSt} {σ : zSt} {x2 : Int32} (h : (zQ [3, 5, 7, 9, 11, 12, 15, 17, 19, 21, 23, 25, 27, 28, 29, 30, 32, 34, 36, 40, 42, 44, 45] [] [5, 38, 46, 48] []) σ0 σ) : zpc (fX2_read_62 σ x2) (fun r => (zQ [3, 5, 7, 9, 11, 12, 15, 17, 19, 21, 23, 25, 27, 28, 29, 30, 32, 34, 36, 40, 42, 44, 45] [] [5, 38, 46, 48] []) σ0 (r.1)) := by
  unfold fX2_read_62
  exact zpc_bv (fun v2 _ => zpc_if (fun _ => zpc_if (fun _ => fu_fX2_read_86 h) (fun _ => fu_fX2_read_87 h)) (fun _ => fu_fX2_read_86 h))
theorem fu_fX2_read {σ0 : zSt} {σ : zSt} {x1 : Int32} (h : (zQ [3, 5, 7, 9, 11, 12, 15, 17, 19, 21, 23, 25, 27, 28, 29, 30, 32, 34, 36, 40, 42, 44, 45] [] [5, 38, 46, 48] []) σ0 σ) : zpc (fX2_read σ x1) (fun r => (zQ [3, 5, 7, 9, 11, 12, 15, 17, 19, 21, 23, 25, 27, 28, 29, 30, 32, 34, 36, 40, 42, 44, 45] [] [5, 38, 46, 48] []) σ0 (r.1)) := by
  unfold fX2_read
  exact zpc_bv (fun v3 _ => zpc_if (fun _ => zpc_if (fun _ => fu_fX2_read_144 h) (fun _ => zpc_if (fun _ => fu_fX2_read_144 h) (fun _ => zpc_if (fun _ => fu_fX2_read_62 h) (fun _ => zpc_bi (fu_fX2_batteryIsIn h) (fun σ4 v5 hσ4 => zpc_if (fun _ => fu_fX2_read_62 hσ4) (fun _ => zpc_bi (fu_fX2_batteryPlace hσ4) (fun σ6 v7 hσ6 => zpc_ck (zpc_some hσ6)))))))) (fun _ => zpc_ck (zpc_some h)))
theorem fu_fX2_write_151 {σ0 : zSt} {σ : zSt} (h : (zQ [3, 5, 7, 9, 11, 12, 15, 17, 19, 21, 23, 25, 27, 28, 29, 30, 32, 34, 36, 40, 42, 44, 45] [] [5, 38, 46, 48] []) σ0 σ) : zpc (fX2_write_151 σ) (fun r => (zQ [3, 5, 7, 9, 11, 12, 15, 17, 19, 21, 23, 25, 27, 28, 29, 30, 32, 34, 36, 40, 42, 44, 45] [] [5, 38, 46, 48] []) σ0 (r)) := by
  unfold fX2_write_151
  exact zpc_some h
theorem fu_fX2_write_54 {σ0 : zSt} {σ : zSt} {x2 : Int32} {s0 : Int32} (h : (zQ [3, 5, 7, 9, 11, 12, 15, 17, 19, 21, 23, 25, 27, 28, 29, 30, 32, 34, 36, 40, 42, 44, 45] [] [5, 38, 46, 48] []) σ0 σ) : zpc (fX2_write_54 σ x2 s0) (fun r => (zQ [3, 5, 7, 9, 11, 12, 15, 17, 19, 21, 23, 25, 27, 28, 29, 30, 32, 34, 36, 40, 42, 44, 45] [] [5, 38, 46, 48] []) σ0 (r)) := by
  unfold fX2_write_54
  exact zpc_ck (zpc_bs (zQ.wi h rfl) (fun σ1 hσ1 => fu_fX2_write_151 hσ1))
theorem fu_fX2_write_130 {σ0 : zSt} {σ : zSt} {x2 : Int32} {x3 : Int32} (h : (zQ [3, 5, 7, 9, 11, 12, 15, 17, 19, 21, 23, 25, 27, 28, 29, 30, 32, 34, 36, 40, 42, 44, 45] [] [5, 38, 46, 48] []) σ0 σ) : zpc (fX2_write_130 σ x2 x3) (fun r => (zQ [3, 5, 7, 9, 11, 12, 15, 17, 19, 21, 23, 25, 27, 28, 29, 30, 32, 34, 36, 40, 42, 44, 45] [] [5, 38, 46, 48] []) σ0 (r)) := by
  unfold fX2_write_130
  exact zpc_if (fun _ => zpc_if (fun _ => zpc_ck (zpc_bs (zQ.wi h rfl) (fun σ2 hσ2 => fu_fX2_write_151 hσ2))) (fun _ => fu_fX2_write_151 h)) (fun _ => fu_fX2_write_151 h)
theorem fu_fX2_write_117 {σ0 : zSt} {σ : zSt} {x2 : Int32} {x3 : Int32} (h : (zQ [3, 5, 7, 9, 11, 12, 15, 17, 19, 21, 23, 25, 27, 28, 29, 30, 32, 34, 36, 40, 42, 44, 45] [] [5, 38, 46, 48] []) σ0 σ) : zpc (fX2_write_117 σ x2 x3) (fun r => (zQ [3, 5, 7, 9, 11, 12, 15, 17, 19, 21, 23, 25, 27, 28, 29, 30, 32, 34, 36, 40, 42, 44, 45] [] [5, 38, 46, 48] []) σ0 (r)) := by
  unfold fX2_write_117
  exact zpc_ck (zpc_bs (zQ.wi h rfl) (fun σ3 hσ3 => fu_fX2_write_151 hσ3))
theorem fu_fX2_write_22 {σ0 : zSt} {σ : zSt} {x2 : Int32} {x3 : Int32} (h : (zQ [3, 5, 7, 9, 11, 12, 15, 17, 19, 21, 23, 25, 27, 28, 29, 30, 32, 34, 36, 40, 42, 44, 45] [] [5, 38, 46, 48] []) σ0 σ) : zpc (fX2_write_22 σ x2 x3) (fun r => (zQ [3, 5, 7, 9, 11, 12, 15, 17, 19, 21, 23, 25, 27, 28, 29, 30, 32, 34, 36, 40, 42, 44, 45] [] [5, 38, 46, 48] []) σ0 (r)) := by
  unfold fX2_write_22
  exact zpc_if (fun _ => zpc_if (fun _ => zpc_if (fun _ => fu_fX2_write_151 h) (fun _ => zpc_if (fun _ => fu_fX2_write_151 h) (fun _ => zpc_bi (fu_fX2_batteryIsIn h) (fun σ4 v5 hσ4 => zpc_if (fun _ => fu_fX2_write_151 hσ4) (fun _ => zpc_bi (fu_fX2_batteryPlace hσ4) (fun σ6 v7 hσ6 => zpc_ck (zpc_bs (zQ.wi hσ6 rfl) (fun σ8 hσ8 => fu_fX2_write_151 hσ8)))))))) (fun _ => zpc_if (fun _ => fu_fX2_write_54 h) (fun _ => fu_fX2_write_54 h))) (fun _ => zpc_if (fun _ => zpc_if (fun _ => fu_fX2_write_117 h) (fun _ => zpc_if (fun _ => fu_fX2_write_117 h) (fun _ => zpc_if (fun _ => fu_fX2_write_117 h) (fun _ => fu_fX2_write_130 h)))) (fun _ => fu_fX2_write_130 h))
theorem fu_fX2_write {σ0 : zSt} {σ : zSt} {x1 : Int32} {x2 : Int32} (h : (zQ [3, 5, 7, 9, 11, 12, 15, 17, 19, 21, 23, 25, 27, 28, 29, 30, 32, 34, 36, 40, 42, 44, 45] [] [5, 38, 46, 48] []) σ0 σ) : zpc (fX2_write σ x1 x2) (fun r => (zQ [3, 5, 7, 9, 11, 12, 15, 17, 19, 21, 23, 25, 27, 28, 29, 30, 32, 34, 36, 40, 42, 44, 45] [] [5, 38, 46, 48] []) σ0 (r)) := by
  unfold fX2_write
  exact zpc_bv (fun v9 _ => zpc_if (fun _ => fu_fX2_write_22 h) (fun _ => zpc_ck (zpc_bs (zQ.wi h rfl) (fun σ10 hσ10 => fu_fX2_write_22 hσ10))))
theorem fu_fX2_batteryByte {σ0 : zSt} {σ : zSt} {x1 : Int32} (h : (zQ [3, 5, 7, 9, 11, 12, 15, 17, 19, 21, 23, 25, 27, 28, 29, 30, 32, 34, 36, 40, 42, 44, 45] [] [5, 38, 46, 48] []) σ0 σ) : zpc (fX2_batteryByte σ x1) (fun r => (zQ [3, 5, 7, 9, 11, 12, 15, 17, 19, 21, 23, 25, 27, 28, 29, 30, 32, 34, 36, 40, 42, 44, 45] [] [5, 38, 46, 48] []) σ0 (r.1)) := by
  unfold fX2_batteryByte
  exact zpc_ck (zpc_some h)
theorem fu_fJ7_fill_53178_k17_5_body {σ0 : zSt} {k5 : zSt → Int32 → Int32 → Int32 → Option (zSt)} (hk5 : ∀ (y0 : zSt) (y1 : Int32) (y2 : Int32) (y3 : Int32), (zQ [3, 5, 7, 9, 11, 12, 15, 17, 19, 21, 23, 25, 27, 28, 29, 30, 32, 34, 36, 40, 42, 44, 45] [] [5, 38, 46, 48] []) σ0 y0 → zpc (k5 y0 y1 y2 y3) (fun r => (zQ [3, 5, 7, 9, 11, 12, 15, 17, 19, 21, 23, 25, 27, 28, 29, 30, 32, 34, 36, 40, 42, 44, 45] [] [5, 38, 46, 48] []) σ0 (r))) {σ : zSt} {x1 : Int32} {x2 : Int32} {x3 : Int32} (h : (zQ [3, 5, 7, 9, 11, 12, 15, 17, 19, 21, 23, 25, 27, 28, 29, 30, 32, 34, 36, 40, 42, 44, 45] [] [5, 38, 46, 48] []) σ0 σ) : zpc (fJ7_fill_53178_k17_5_body k5 σ x1 x2 x3) (fun r => (zQ [3, 5, 7, 9, 11, 12, 15, 17, 19, 21, 23, 25, 27, 28, 29, 30, 32, 34, 36, 40, 42, 44, 45] [] [5, 38, 46, 48] []) σ0 (r)) := by
  unfold fJ7_fill_53178_k17_5_body
  exact zpc_if (fun _ => zpc_some h) (fun _ => zpc_ck (zpc_bs (zQ.wi h rfl) (fun σ1 hσ1 => zpc_bv (fun v2 _ => hk5 _ _ _ _ hσ1))))
theorem fu_fJ7_fill_53178_k17_5 {σ0 : zSt} : ∀ (n : Nat) (y0 : zSt) (y1 : Int32) (y2 : Int32) (y3 : Int32), (zQ [3, 5, 7, 9, 11, 12, 15, 17, 19, 21, 23, 25, 27, 28, 29, 30, 32, 34, 36, 40, 42, 44, 45] [] [5, 38, 46, 48] []) σ0 y0 → zpc (fJ7_fill_53178_k17_5 n y0 y1 y2 y3) (fun r => (zQ [3, 5, 7, 9, 11, 12, 15, 17, 19, 21, 23, 25, 27, 28, 29, 30, 32, 34, 36, 40, 42, 44, 45] [] [5, 38, 46, 48] []) σ0 (r)) := by
  intro n
  induction n with
  | zero => intro y0 y1 y2 y3 h; exact zpc_none
  | succ n ih => intro y0 y1 y2 y3 h; exact fu_fJ7_fill_53178_k17_5_body ih h
theorem fu_fJ7_fill_53178_k17 {σ0 : zSt} {σ : zSt} {x1 : Int32} (h : (zQ [3, 5, 7, 9, 11, 12, 15, 17, 19, 21, 23, 25, 27, 28, 29, 30, 32, 34, 36, 40, 42, 44, 45] [] [5, 38, 46, 48] []) σ0 σ) : zpc (fJ7_fill_53178_k17 σ x1) (fun r => (zQ [3, 5, 7, 9, 11, 12, 15, 17, 19, 21, 23, 25, 27, 28, 29, 30, 32, 34, 36, 40, 42, 44, 45] [] [5, 38, 46, 48] []) σ0 (r)) := by
  unfold fJ7_fill_53178_k17
  exact fu_fJ7_fill_53178_k17_5 _ _ _ _ _ h
theorem fu_fX2_clearBattery {σ0 : zSt} {σ : zSt} (h : (zQ [3, 5, 7, 9, 11, 12, 15, 17, 19, 21, 23, 25, 27, 28, 29, 30, 32, 34, 36, 40, 42, 44, 45] [] [5, 38, 46, 48] []) σ0 σ) : zpc (fX2_clearBattery σ) (fun r => (zQ [3, 5, 7, 9, 11, 12, 15, 17, 19, 21, 23, 25, 27, 28, 29, 30, 32, 34, 36, 40, 42, 44, 45] [] [5, 38, 46, 48] []) σ0 (r)) := by
  unfold fX2_clearBattery
  exact zpc_bu (fu_fJ7_fill_53178_k17 h) (fun σ1 hσ1 => zpc_some hσ1)
theorem fu_fX2_clearPages_32 {σ0 : zSt} {σ : zSt} {s0 : Int32} {s1 : Int32} (h : (zQ [3, 5, 7, 9, 11, 12, 15, 17, 19, 21, 23, 25, 27, 28, 29, 30, 32, 34, 36, 40, 42, 44, 45] [] [5, 38, 46, 48] []) σ0 σ) : zpc (fX2_clearPages_32 σ s0 s1) (fun r => (zQ [3, 5, 7, 9, 11, 12, 15, 17, 19, 21, 23, 25, 27, 28, 29, 30, 32, 34, 36, 40, 42, 44, 45] [] [5, 38, 46, 48] []) σ0 (r)) := by
  unfold fX2_clearPages_32
  exact zpc_ck (zpc_bs (zQ.wi h rfl) (fun σ1 hσ1 => zpc_ck (zpc_bs (zQ.wi hσ1 rfl) (fun σ2 hσ2 => zpc_some hσ2))))
theorem fu_fX2_clearPages {σ0 : zSt} {σ : zSt} (h : (zQ [3, 5, 7, 9, 11, 12, 15, 17, 19, 21, 23, 25, 27, 28, 29, 30, 32, 34, 36, 40, 42, 44, 45] [] [5, 38, 46, 48] []) σ0 σ) : zpc (fX2_clearPages σ) (fun r => (zQ [3, 5, 7, 9, 11, 12, 15, 17, 19, 21, 23, 25, 27, 28, 29, 30, 32, 34, 36, 40, 42, 44, 45] [] [5, 38, 46, 48] []) σ0 (r)) := by
  unfold fX2_clearPages
  exact zpc_ck (zpc_bs (zQ.wi h rfl) (fun σ3 hσ3 => zpc_ck (zpc_bs (zQ.wi hσ3 rfl) (fun σ4 hσ4 => zpc_if (fun _ => fu_fX2_clearPages_32 hσ4) (fun _ => fu_fX2_clearPages_32 hσ4)))))
theorem fu_fX3_width_16 {σ0 : zSt} {σ : zSt} {s0 : Int32} (h : (zQ [3, 5, 7, 9, 11, 12, 15, 17, 19, 21, 23, 25, 27, 28, 29, 30, 32, 34, 36, 40, 42, 44, 45] [] [5, 38, 46, 48] []) σ0 σ) : zpc (fX3_width_16 σ s0) (fun r => (zQ [3, 5, 7, 9, 11, 12, 15, 17, 19, 21, 23, 25, 27, 28, 29, 30, 32, 34, 36, 40, 42, 44, 45] [] [5, 38, 46, 48] []) σ0 (r.1)) := by
  unfold fX3_width_16
  exact zpc_some h
theorem fu_fX3_width {σ0 : zSt} {σ : zSt} (h : (zQ [3, 5, 7, 9, 11, 12, 15, 17, 19, 21, 23, 25, 27, 28, 29, 30, 32, 34, 36, 40, 42, 44, 45] [] [5, 38, 46, 48] []) σ0 σ) : zpc (fX3_width σ) (fun r => (zQ [3, 5, 7, 9, 11, 12, 15, 17, 19, 21, 23, 25, 27, 28, 29, 30, 32, 34, 36, 40, 42, 44, 45] [] [5, 38, 46, 48] []) σ0 (r.1)) := by
  unfold fX3_width
  exact zpc_if (fun _ => fu_fX3_width_16 h) (fun _ => fu_fX3_width_16 h)
theorem fu_fX9_height {σ0 : zSt} {σ : zSt} (h : (zQ [3, 5, 7, 9, 11, 12, 15, 17, 19, 21, 23, 25, 27, 28, 29, 30, 32, 34, 36, 40, 42, 44, 45] [] [5, 38, 46, 48] []) σ0 σ) : zpc (fX9_height σ) (fun r => (zQ [3, 5, 7, 9, 11, 12, 15, 17, 19, 21, 23, 25, 27, 28, 29, 30, 32, 34, 36, 40, 42, 44, 45] [] [5, 38, 46, 48] []) σ0 (r.1)) := by
  unfold fX9_height
  exact zpc_ck (zpc_if (fun _ => zpc_ck (zpc_if (fun _ => zpc_some h) (fun _ => zpc_if (fun _ => zpc_some h) (fun _ => zpc_some h)))) (fun _ => zpc_some h))
theorem fu_fX3_height_20 {σ0 : zSt} {σ : zSt} {s0 : Int32} (h : (zQ [3, 5, 7, 9, 11, 12, 15, 17, 19, 21, 23, 25, 27, 28, 29, 30, 32, 34, 36, 40, 42, 44, 45] [] [5, 38, 46, 48] []) σ0 σ) : zpc (fX3_height_20 σ s0) (fun r => (zQ [3, 5, 7, 9, 11, 12, 15, 17, 19, 21, 23, 25, 27, 28, 29, 30, 32, 34, 36, 40, 42, 44, 45] [] [5, 38, 46, 48] []) σ0 (r.1)) := by
  unfold fX3_height_20
  exact zpc_some h
theorem fu_fX3_height {σ0 : zSt} {σ : zSt} (h : (zQ [3, 5, 7, 9, 11, 12, 15, 17, 19, 21, 23, 25, 27, 28, 29, 30, 32, 34, 36, 40, 42, 44, 45] [] [5, 38, 46, 48] []) σ0 σ) : zpc (fX3_height σ) (fun r => (zQ [3, 5, 7, 9, 11, 12, 15, 17, 19, 21, 23, 25, 27, 28, 29, 30, 32, 34, 36, 40, 42, 44, 45] [] [5, 38, 46, 48] []) σ0 (r.1)) := by
  unfold fX3_height
  exact zpc_if (fun _ => zpc_bi (fu_fX9_height h) (fun σ1 v2 hσ1 => fu_fX3_height_20 hσ1)) (fun _ => fu_fX3_height_20 h)
theorem fu_fX3_placeOf_26 {σ0 : zSt} {σ : zSt} {s0 : Int32} (h : (zQ [3, 5, 7, 9, 11, 12, 15, 17, 19, 21, 23, 25, 27, 28, 29, 30, 32, 34, 36, 40, 42, 44, 45] [] [5, 38, 46, 48] []) σ0 σ) : zpc (fX3_placeOf_26 σ s0) (fun r => (zQ [3, 5, 7, 9, 11, 12, 15, 17, 19, 21, 23, 25, 27, 28, 29, 30, 32, 34, 36, 40, 42, 44, 45] [] [5, 38, 46, 48] []) σ0 (r.1)) := by
  unfold fX3_placeOf_26
  exact zpc_some h
theorem fu_fX3_placeOf {σ0 : zSt} {σ : zSt} {x1 : Int32} (h : (zQ [3, 5, 7, 9, 11, 12, 15, 17, 19, 21, 23, 25, 27, 28, 29, 30, 32, 34, 36, 40, 42, 44, 45] [] [5, 38, 46, 48] []) σ0 σ) : zpc (fX3_placeOf σ x1) (fun r => (zQ [3, 5, 7, 9, 11, 12, 15, 17, 19, 21, 23, 25, 27, 28, 29, 30, 32, 34, 36, 40, 42, 44, 45] [] [5, 38, 46, 48] []) σ0 (r.1)) := by
  unfold fX3_placeOf
  exact zpc_if (fun _ => fu_fX3_placeOf_26 h) (fun _ => fu_fX3_placeOf_26 h)
theorem fu_fX3_dotAt_31 {σ0 : zSt} {σ : zSt} {s0 : Int32} (h : (zQ [3, 5, 7, 9, 11, 12, 15, 17, 19, 21, 23, 25, 27, 28, 29, 30, 32, 34, 36, 40, 42, 44, 45] [] [5, 38, 46, 48] []) σ0 σ) : zpc (fX3_dotAt_31 σ s0) (fun r => (zQ [3, 5, 7, 9, 11, 12, 15, 17, 19, 21, 23, 25, 27, 28, 29, 30, 32, 34, 36, 40, 42, 44, 45] [] [5, 38, 46, 48] []) σ0 (r.1)) := by
  unfold fX3_dotAt_31
  exact zpc_some h
theorem fu_fX3_dotAt_30 {σ0 : zSt} {σ : zSt} (h : (zQ [3, 5, 7, 9, 11, 12, 15, 17, 19, 21, 23, 25, 27, 28, 29, 30, 32, 34, 36, 40, 42, 44, 45] [] [5, 38, 46, 48] []) σ0 σ) : zpc (fX3_dotAt_30 σ) (fun r => (zQ [3, 5, 7, 9, 11, 12, 15, 17, 19, 21, 23, 25, 27, 28, 29, 30, 32, 34, 36, 40, 42, 44, 45] [] [5, 38, 46, 48] []) σ0 (r.1)) := by
  unfold fX3_dotAt_30
  exact fu_fX3_dotAt_31 h
theorem fu_fX3_dotAt {σ0 : zSt} {σ : zSt} {x1 : Int32} {x2 : Int32} (h : (zQ [3, 5, 7, 9, 11, 12, 15, 17, 19, 21, 23, 25, 27, 28, 29, 30, 32, 34, 36, 40, 42, 44, 45] [] [5, 38, 46, 48] []) σ0 σ) : zpc (fX3_dotAt σ x1 x2) (fun r => (zQ [3, 5, 7, 9, 11, 12, 15, 17, 19, 21, 23, 25, 27, 28, 29, 30, 32, 34, 36, 40, 42, 44, 45] [] [5, 38, 46, 48] []) σ0 (r.1)) := by
  unfold fX3_dotAt
  exact zpc_bi (fu_fX3_placeOf h) (fun σ1 v2 hσ1 => zpc_bv (fun v3 _ => zpc_if (fun _ => fu_fX3_dotAt_30 hσ1) (fun _ => zpc_if (fun _ => fu_fX3_dotAt_30 hσ1) (fun _ => zpc_ck (fu_fX3_dotAt_31 hσ1)))))
theorem fu_fX3_sumOfLine_31_body {σ0 : zSt} {k31 : zSt → Int32 → Int32 → Int32 → Option (zSt × Int32)} (hk31 : ∀ (y0 : zSt) (y1 : Int32) (y2 : Int32) (y3 : Int32), (zQ [3, 5, 7, 9, 11, 12, 15, 17, 19, 21, 23, 25, 27, 28, 29, 30, 32, 34, 36, 40, 42, 44, 45] [] [5, 38, 46, 48] []) σ0 y0 → zpc (k31 y0 y1 y2 y3) (fun r => (zQ [3, 5, 7, 9, 11, 12, 15, 17, 19, 21, 23, 25, 27, 28, 29, 30, 32, 34, 36, 40, 42, 44, 45] [] [5, 38, 46, 48] []) σ0 (r.1))) {σ : zSt} {x2 : Int32} {x4 : Int32} {x5 : Int32} (h : (zQ [3, 5, 7, 9, 11, 12, 15, 17, 19, 21, 23, 25, 27, 28, 29, 30, 32, 34, 36, 40, 42, 44, 45] [] [5, 38, 46, 48] []) σ0 σ) : zpc (fX3_sumOfLine_31_body k31 σ x2 x4 x5) (fun r => (zQ [3, 5, 7, 9, 11, 12, 15, 17, 19, 21, 23, 25, 27, 28, 29, 30, 32, 34, 36, 40, 42, 44, 45] [] [5, 38, 46, 48] []) σ0 (r.1)) := by
  unfold fX3_sumOfLine_31_body
  exact zpc_if (fun _ => zpc_some h) (fun _ => zpc_ck (zpc_bv (fun v1 _ => zpc_bv (fun v2 _ => hk31 _ _ _ _ h))))
theorem fu_fX3_sumOfLine_31 {σ0 : zSt} : ∀ (n : Nat) (y0 : zSt) (y1 : Int32) (y2 : Int32) (y3 : Int32), (zQ [3, 5, 7, 9, 11, 12, 15, 17, 19, 21, 23, 25, 27, 28, 29, 30, 32, 34, 36, 40, 42, 44, 45] [] [5, 38, 46, 48] []) σ0 y0 → zpc (fX3_sumOfLine_31 n y0 y1 y2 y3) (fun r => (zQ [3, 5, 7, 9, 11, 12, 15, 17, 19, 21, 23, 25, 27, 28, 29, 30, 32, 34, 36, 40, 42, 44, 45] [] [5, 38, 46, 48] []) σ0 (r.1)) := by
  intro n
  induction n with
  | zero => intro y0 y1 y2 y3 h; exact zpc_none
  | succ n ih => intro y0 y1 y2 y3 h; exact fu_fX3_sumOfLine_31_body ih h
theorem fu_fX3_sumOfLine {σ0 : zSt} {σ : zSt} {x1 : Int32} (h : (zQ [3, 5, 7, 9, 11, 12, 15, 17, 19, 21, 23, 25, 27, 28, 29, 30, 32, 34, 36, 40, 42, 44, 45] [] [5, 38, 46, 48] []) σ0 σ) : zpc (fX3_sumOfLine σ x1) (fun r => (zQ [3, 5, 7, 9, 11, 12, 15, 17, 19, 21, 23, 25, 27, 28, 29, 30, 32, 34, 36, 40, 42, 44, 45] [] [5, 38, 46, 48] []) σ0 (r.1)) := by
  unfold fX3_sumOfLine
  exact zpc_bi (fu_fX3_placeOf h) (fun σ3 v4 hσ3 => zpc_bi (fu_fX3_width hσ3) (fun σ5 v6 hσ5 => zpc_bv (fun v7 _ => zpc_bv (fun v8 _ => fu_fX3_sumOfLine_31 _ _ _ _ _ hσ5))))
theorem fu_fX9_held_20 {σ0 : zSt} {σ : zSt} {s0 : Int32} (h : (zQ [3, 5, 7, 9, 11, 12, 15, 17, 19, 21, 23, 25, 27, 28, 29, 30, 32, 34, 36, 40, 42, 44, 45] [] [5, 38, 46, 48] []) σ0 σ) : zpc (fX9_held_20 σ s0) (fun r => (zQ [3, 5, 7, 9, 11, 12, 15, 17, 19, 21, 23, 25, 27, 28, 29, 30, 32, 34, 36, 40, 42, 44, 45] [] [5, 38, 46, 48] []) σ0 (r.1)) := by
  unfold fX9_held_20
  exact zpc_some h
theorem fu_fX9_held_19 {σ0 : zSt} {σ : zSt} (h : (zQ [3, 5, 7, 9, 11, 12, 15, 17, 19, 21, 23, 25, 27, 28, 29, 30, 32, 34, 36, 40, 42, 44, 45] [] [5, 38, 46, 48] []) σ0 σ) : zpc (fX9_held_19 σ) (fun r => (zQ [3, 5, 7, 9, 11, 12, 15, 17, 19, 21, 23, 25, 27, 28, 29, 30, 32, 34, 36, 40, 42, 44, 45] [] [5, 38, 46, 48] []) σ0 (r.1)) := by
  unfold fX9_held_19
  exact fu_fX9_held_20 h
theorem fu_fX9_held {σ0 : zSt} {σ : zSt} {x1 : Int32} (h : (zQ [3, 5, 7, 9, 11, 12, 15, 17, 19, 21, 23, 25, 27, 28, 29, 30, 32, 34, 36, 40, 42, 44, 45] [] [5, 38, 46, 48] []) σ0 σ) : zpc (fX9_held σ x1) (fun r => (zQ [3, 5, 7, 9, 11, 12, 15, 17, 19, 21, 23, 25, 27, 28, 29, 30, 32, 34, 36, 40, 42, 44, 45] [] [5, 38, 46, 48] []) σ0 (r.1)) := by
  unfold fX9_held
  exact zpc_if (fun _ => fu_fX9_held_19 h) (fun _ => zpc_if (fun _ => fu_fX9_held_19 h) (fun _ => zpc_ck (fu_fX9_held_20 h)))
theorem fu_fX9_mode_57 {σ0 : zSt} {σ : zSt} {s0 : Int32} (h : (zQ [3, 5, 7, 9, 11, 12, 15, 17, 19, 21, 23, 25, 27, 28, 29, 30, 32, 34, 36, 40, 42, 44, 45] [] [5, 38, 46, 48] []) σ0 σ) : zpc (fX9_mode_57 σ s0) (fun r => (zQ [3, 5, 7, 9, 11, 12, 15, 17, 19, 21, 23, 25, 27, 28, 29, 30, 32, 34, 36, 40, 42, 44, 45] [] [5, 38, 46, 48] []) σ0 (r.1)) := by
  unfold fX9_mode_57
  exact zpc_some h
theorem fu_fX9_mode {σ0 : zSt} {σ : zSt} (h : (zQ [3, 5, 7, 9, 11, 12, 15, 17, 19, 21, 23, 25, 27, 28, 29, 30, 32, 34, 36, 40, 42, 44, 45] [] [5, 38, 46, 48] []) σ0 σ) : zpc (fX9_mode σ) (fun r => (zQ [3, 5, 7, 9, 11, 12, 15, 17, 19, 21, 23, 25, 27, 28, 29, 30, 32, 34, 36, 40, 42, 44, 45] [] [5, 38, 46, 48] []) σ0 (r.1)) := by
  unfold fX9_mode
  exact zpc_ck (zpc_if (fun _ => zpc_ck (zpc_if (fun _ => zpc_ck (zpc_if (fun _ => zpc_ck (zpc_if (fun _ => fu_fX9_mode_57 h) (fun _ => fu_fX9_mode_57 h))) (fun _ => zpc_some h))) (fun _ => zpc_some h))) (fun _ => zpc_some h))
theorem fu_fJ7_fill_53178_k27_5_body {σ0 : zSt} {k5 : zSt → Int32 → Int32 → Int32 → Option (zSt)} (hk5 : ∀ (y0 : zSt) (y1 : Int32) (y2 : Int32) (y3 : Int32), (zQ [3, 5, 7, 9, 11, 12, 15, 17, 19, 21, 23, 25, 27, 28, 29, 30, 32, 34, 36, 40, 42, 44, 45] [] [5, 38, 46, 48] []) σ0 y0 → zpc (k5 y0 y1 y2 y3) (fun r => (zQ [3, 5, 7, 9, 11, 12, 15, 17, 19, 21, 23, 25, 27, 28, 29, 30, 32, 34, 36, 40, 42, 44, 45] [] [5, 38, 46, 48] []) σ0 (r))) {σ : zSt} {x1 : Int32} {x2 : Int32} {x3 : Int32} (h : (zQ [3, 5, 7, 9, 11, 12, 15, 17, 19, 21, 23, 25, 27, 28, 29, 30, 32, 34, 36, 40, 42, 44, 45] [] [5, 38, 46, 48] []) σ0 σ) : zpc (fJ7_fill_53178_k27_5_body k5 σ x1 x2 x3) (fun r => (zQ [3, 5, 7, 9, 11, 12, 15, 17, 19, 21, 23, 25, 27, 28, 29, 30, 32, 34, 36, 40, 42, 44, 45] [] [5, 38, 46, 48] []) σ0 (r)) := by
  unfold fJ7_fill_53178_k27_5_body
  exact zpc_if (fun _ => zpc_some h) (fun _ => zpc_ck (zpc_bs (zQ.wi h rfl) (fun σ1 hσ1 => zpc_bv (fun v2 _ => hk5 _ _ _ _ hσ1))))
theorem fu_fJ7_fill_53178_k27_5 {σ0 : zSt} : ∀ (n : Nat) (y0 : zSt) (y1 : Int32) (y2 : Int32) (y3 : Int32), (zQ [3, 5, 7, 9, 11, 12, 15, 17, 19, 21, 23, 25, 27, 28, 29, 30, 32, 34, 36, 40, 42, 44, 45] [] [5, 38, 46, 48] []) σ0 y0 → zpc (fJ7_fill_53178_k27_5 n y0 y1 y2 y3) (fun r => (zQ [3, 5, 7, 9, 11, 12, 15, 17, 19, 21, 23, 25, 27, 28, 29, 30, 32, 34, 36, 40, 42, 44, 45] [] [5, 38, 46, 48] []) σ0 (r)) := by
  intro n
  induction n with
  | zero => intro y0 y1 y2 y3 h; exact zpc_none
  | succ n ih => intro y0 y1 y2 y3 h; exact fu_fJ7_fill_53178_k27_5_body ih h
theorem fu_fJ7_fill_53178_k27 {σ0 : zSt} {σ : zSt} {x1 : Int32} (h : (zQ [3, 5, 7, 9, 11, 12, 15, 17, 19, 21, 23, 25, 27, 28, 29, 30, 32, 34, 36, 40, 42, 44, 45] [] [5, 38, 46, 48] []) σ0 σ) : zpc (fJ7_fill_53178_k27 σ x1) (fun r => (zQ [3, 5, 7, 9, 11, 12, 15, 17, 19, 21, 23, 25, 27, 28, 29, 30, 32, 34, 36, 40, 42, 44, 45] [] [5, 38, 46, 48] []) σ0 (r)) := by
  unfold fJ7_fill_53178_k27
  exact fu_fJ7_fill_53178_k27_5 _ _ _ _ _ h
theorem fu_fX3_mixColours_130 {σ0 : zSt} {k2 : zSt → Int32 → Int32 → Option (zSt)} (hk2 : ∀ (y0 : zSt) (y1 : Int32) (y2 : Int32), (zQ [3, 5, 7, 9, 11, 12, 15, 17, 19, 21, 23, 25, 27, 28, 29, 30, 32, 34, 36, 40, 42, 44, 45] [] [5, 38, 46, 48] []) σ0 y0 → zpc (k2 y0 y1 y2) (fun r => (zQ [3, 5, 7, 9, 11, 12, 15, 17, 19, 21, 23, 25, 27, 28, 29, 30, 32, 34, 36, 40, 42, 44, 45] [] [5, 38, 46, 48] []) σ0 (r))) {σ : zSt} {x1 : Int32} {x2 : Int32} (h : (zQ [3, 5, 7, 9, 11, 12, 15, 17, 19, 21, 23, 25, 27, 28, 29, 30, 32, 34, 36, 40, 42, 44, 45] [] [5, 38, 46, 48] []) σ0 σ) : zpc (fX3_mixColours_130 k2 σ x1 x2) (fun r => (zQ [3, 5, 7, 9, 11, 12, 15, 17, 19, 21, 23, 25, 27, 28, 29, 30, 32, 34, 36, 40, 42, 44, 45] [] [5, 38, 46, 48] []) σ0 (r)) := by
  unfold fX3_mixColours_130
  exact zpc_bv (fun v1 _ => hk2 _ _ _ h)
theorem fu_fX3_mixColours_78 {σ0 : zSt} {k2 : zSt → Int32 → Int32 → Option (zSt)} (hk2 : ∀ (y0 : zSt) (y1 : Int32) (y2 : Int32), (zQ [3, 5, 7, 9, 11, 12, 15, 17, 19, 21, 23, 25, 27, 28, 29, 30, 32, 34, 36, 40, 42, 44, 45] [] [5, 38, 46, 48] []) σ0 y0 → zpc (k2 y0 y1 y2) (fun r => (zQ [3, 5, 7, 9, 11, 12, 15, 17, 19, 21, 23, 25, 27, 28, 29, 30, 32, 34, 36, 40, 42, 44, 45] [] [5, 38, 46, 48] []) σ0 (r))) {σ : zSt} {x1 : Int32} {x2 : Int32} {s0 : Int32} {s1 : Int32} (h : (zQ [3, 5, 7, 9, 11, 12, 15, 17, 19, 21, 23, 25, 27, 28, 29, 30, 32, 34, 36, 40, 42, 44, 45] [] [5, 38, 46, 48] []) σ0 σ) : zpc (fX3_mixColours_78 k2 σ x1 x2 s0 s1) (fun r => (zQ [3, 5, 7, 9, 11, 12, 15, 17, 19, 21, 23, 25, 27, 28, 29, 30, 32, 34, 36, 40, 42, 44, 45] [] [5, 38, 46, 48] []) σ0 (r)) := by
  unfold fX3_mixColours_78
  exact zpc_ck (zpc_bs (zQ.wi h rfl) (fun σ2 hσ2 => fu_fX3_mixColours_130 hk2 hσ2))
theorem fu_fX3_mixColours_129 {σ0 : zSt} {k2 : zSt → Int32 → Int32 → Option (zSt)} (hk2 : ∀ (y0 : zSt) (y1 : Int32) (y2 : Int32), (zQ [3, 5, 7, 9, 11, 12, 15, 17, 19, 21, 23, 25, 27, 28, 29, 30, 32, 34, 36, 40, 42, 44, 45] [] [5, 38, 46, 48] []) σ0 y0 → zpc (k2 y0 y1 y2) (fun r => (zQ [3, 5, 7, 9, 11, 12, 15, 17, 19, 21, 23, 25, 27, 28, 29, 30, 32, 34, 36, 40, 42, 44, 45] [] [5, 38, 46, 48] []) σ0 (r))) {σ : zSt} {x1 : Int32} {x2 : Int32} {s0 : Int32} {s1 : Int32} (h : (zQ [3, 5, 7, 9, 11, 12, 15, 17, 19, 21, 23, 25, 27, 28, 29, 30, 32, 34, 36, 40, 42, 44, 45] [] [5, 38, 46, 48] []) σ0 σ) : zpc (fX3_mixColours_129 k2 σ x1 x2 s0 s1) (fun r => (zQ [3, 5, 7, 9, 11, 12, 15, 17, 19, 21, 23, 25, 27, 28, 29, 30, 32, 34, 36, 40, 42, 44, 45] [] [5, 38, 46, 48] []) σ0 (r)) := by
  unfold fX3_mixColours_129
  exact zpc_ck (zpc_bs (zQ.wi h rfl) (fun σ3 hσ3 => fu_fX3_mixColours_130 hk2 hσ3))
theorem fu_fX3_mixColours_2_body {σ0 : zSt} {k2 : zSt → Int32 → Int32 → Option (zSt)} (hk2 : ∀ (y0 : zSt) (y1 : Int32) (y2 : Int32), (zQ [3, 5, 7, 9, 11, 12, 15, 17, 19, 21, 23, 25, 27, 28, 29, 30, 32, 34, 36, 40, 42, 44, 45] [] [5, 38, 46, 48] []) σ0 y0 → zpc (k2 y0 y1 y2) (fun r => (zQ [3, 5, 7, 9, 11, 12, 15, 17, 19, 21, 23, 25, 27, 28, 29, 30, 32, 34, 36, 40, 42, 44, 45] [] [5, 38, 46, 48] []) σ0 (r))) {σ : zSt} {x1 : Int32} {x2 : Int32} (h : (zQ [3, 5, 7, 9, 11, 12, 15, 17, 19, 21, 23, 25, 27, 28, 29, 30, 32, 34, 36, 40, 42, 44, 45] [] [5, 38, 46, 48] []) σ0 σ) : zpc (fX3_mixColours_2_body k2 σ x1 x2) (fun r => (zQ [3, 5, 7, 9, 11, 12, 15, 17, 19, 21, 23, 25, 27, 28, 29, 30, 32, 34, 36, 40, 42, 44, 45] [] [5, 38, 46, 48] []) σ0 (r)) := by
  unfold fX3_mixColours_2_body
  exact zpc_if (fun _ => zpc_some h) (fun _ => zpc_if (fun _ => zpc_if (fun _ => zpc_bi (fu_fX9_held h) (fun σ5 v6 hσ5 => fu_fX3_mixColours_78 hk2 hσ5)) (fun _ => zpc_bi (fu_fX9_held h) (fun σ7 v8 hσ7 => zpc_bi (fu_fX9_held hσ7) (fun σ9 v10 hσ9 => fu_fX3_mixColours_78 hk2 hσ9)))) (fun _ => zpc_ck (zpc_bv (fun v4 _ => zpc_if (fun _ => fu_fX3_mixColours_129 hk2 h) (fun _ => fu_fX3_mixColours_129 hk2 h)))))
theorem fu_fX3_mixColours_2 {σ0 : zSt} : ∀ (n : Nat) (y0 : zSt) (y1 : Int32) (y2 : Int32), (zQ [3, 5, 7, 9, 11, 12, 15, 17, 19, 21, 23, 25, 27, 28, 29, 30, 32, 34, 36, 40, 42, 44, 45] [] [5, 38, 46, 48] []) σ0 y0 → zpc (fX3_mixColours_2 n y0 y1 y2) (fun r => (zQ [3, 5, 7, 9, 11, 12, 15, 17, 19, 21, 23, 25, 27, 28, 29, 30, 32, 34, 36, 40, 42, 44, 45] [] [5, 38, 46, 48] []) σ0 (r)) := by
  intro n
  induction n with
  | zero => intro y0 y1 y2 h; exact zpc_none
  | succ n ih => intro y0 y1 y2 h; exact fu_fX3_mixColours_2_body ih h
theorem fu_fX3_mixColours {σ0 : zSt} {σ : zSt} {x1 : Int32} (h : (zQ [3, 5, 7, 9, 11, 12, 15, 17, 19, 21, 23, 25, 27, 28, 29, 30, 32, 34, 36, 40, 42, 44, 45] [] [5, 38, 46, 48] []) σ0 σ) : zpc (fX3_mixColours σ x1) (fun r => (zQ [3, 5, 7, 9, 11, 12, 15, 17, 19, 21, 23, 25, 27, 28, 29, 30, 32, 34, 36, 40, 42, 44, 45] [] [5, 38, 46, 48] []) σ0 (r)) := by
  unfold fX3_mixColours
  exact fu_fX3_mixColours_2 _ _ _ _ h
theorem fu_fX9_vramByte {σ0 : zSt} {σ : zSt} {x1 : Int32} (h : (zQ [3, 5, 7, 9, 11, 12, 15, 17, 19, 21, 23, 25, 27, 28, 29, 30, 32, 34, 36, 40, 42, 44, 45] [] [5, 38, 46, 48] []) σ0 σ) : zpc (fX9_vramByte σ x1) (fun r => (zQ [3, 5, 7, 9, 11, 12, 15, 17, 19, 21, 23, 25, 27, 28, 29, 30, 32, 34, 36, 40, 42, 44, 45] [] [5, 38, 46, 48] []) σ0 (r.1)) := by
  unfold fX9_vramByte
  exact zpc_ck (zpc_some h)
theorem fu_fX3_takePlanes {σ0 : zSt} {σ : zSt} {x1 : Int32} (h : (zQ [3, 5, 7, 9, 11, 12, 15, 17, 19, 21, 23, 25, 27, 28, 29, 30, 32, 34, 36, 40, 42, 44, 45] [] [5, 38, 46, 48] []) σ0 σ) : zpc (fX3_takePlanes σ x1) (fun r => (zQ [3, 5, 7, 9, 11, 12, 15, 17, 19, 21, 23, 25, 27, 28, 29, 30, 32, 34, 36, 40, 42, 44, 45] [] [5, 38, 46, 48] []) σ0 (r)) := by
  unfold fX3_takePlanes
  exact zpc_bi (fu_fX9_vramByte h) (fun σ1 v2 hσ1 => zpc_bi (fu_fX9_vramByte hσ1) (fun σ3 v4 hσ3 => zpc_bi (fu_fX9_vramByte hσ3) (fun σ5 v6 hσ5 => zpc_bi (fu_fX9_vramByte hσ5) (fun σ7 v8 hσ7 => zpc_bs (zQ.wi hσ7 rfl) (fun σ9 hσ9 => zpc_some hσ9)))))
theorem fu_fX3_takeTile_60 {σ0 : zSt} {σ : zSt} {s0 : Int32} (h : (zQ [3, 5, 7, 9, 11, 12, 15, 17, 19, 21, 23, 25, 27, 28, 29, 30, 32, 34, 36, 40, 42, 44, 45] [] [5, 38, 46, 48] []) σ0 σ) : zpc (fX3_takeTile_60 σ s0) (fun r => (zQ [3, 5, 7, 9, 11, 12, 15, 17, 19, 21, 23, 25, 27, 28, 29, 30, 32, 34, 36, 40, 42, 44, 45] [] [5, 38, 46, 48] []) σ0 (r)) := by
  unfold fX3_takeTile_60
  exact zpc_bu (fu_fX3_takePlanes h) (fun σ1 hσ1 => zpc_some hσ1)
theorem fu_fX3_takeTile {σ0 : zSt} {σ : zSt} {x1 : Int32} {x2 : Int32} (h : (zQ [3, 5, 7, 9, 11, 12, 15, 17, 19, 21, 23, 25, 27, 28, 29, 30, 32, 34, 36, 40, 42, 44, 45] [] [5, 38, 46, 48] []) σ0 σ) : zpc (fX3_takeTile σ x1 x2) (fun r => (zQ [3, 5, 7, 9, 11, 12, 15, 17, 19, 21, 23, 25, 27, 28, 29, 30, 32, 34, 36, 40, 42, 44, 45] [] [5, 38, 46, 48] []) σ0 (r)) := by
  unfold fX3_takeTile
  exact zpc_bv (fun v2 _ => zpc_bi (fu_fX9_vramByte h) (fun σ3 v4 hσ3 => zpc_bi (fu_fX9_vramByte hσ3) (fun σ5 v6 hσ5 => zpc_bs (zQ.wi hσ5 rfl) (fun σ7 hσ7 => zpc_if (fun _ => fu_fX3_takeTile_60 hσ7) (fun _ => fu_fX3_takeTile_60 hσ7)))))
theorem fu_fX3_numberIn {σ0 : zSt} {σ : zSt} {x0 : Int32} {x1 : Int32} (h : (zQ [3, 5, 7, 9, 11, 12, 15, 17, 19, 21, 23, 25, 27, 28, 29, 30, 32, 34, 36, 40, 42, 44, 45] [] [5, 38, 46, 48] []) σ0 σ) : zpc (fX3_numberIn σ x0 x1) (fun r => (zQ [3, 5, 7, 9, 11, 12, 15, 17, 19, 21, 23, 25, 27, 28, 29, 30, 32, 34, 36, 40, 42, 44, 45] [] [5, 38, 46, 48] []) σ0 (r.1)) := by
  unfold fX3_numberIn
  exact zpc_bv (fun v1 _ => zpc_some h)
theorem fu_fX3_drawTiles_316 {σ0 : zSt} {k143 : zSt → Int32 → Int32 → Int32 → Int32 → Int32 → Int32 → Option (zSt)} (hk143 : ∀ (y0 : zSt) (y1 : Int32) (y2 : Int32) (y3 : Int32) (y4 : Int32) (y5 : Int32) (y6 : Int32), (zQ [3, 5, 7, 9, 11, 12, 15, 17, 19, 21, 23, 25, 27, 28, 29, 30, 32, 34, 36, 40, 42, 44, 45] [] [5, 38, 46, 48] []) σ0 y0 → zpc (k143 y0 y1 y2 y3 y4 y5 y6) (fun r => (zQ [3, 5, 7, 9, 11, 12, 15, 17, 19, 21, 23, 25, 27, 28, 29, 30, 32, 34, 36, 40, 42, 44, 45] [] [5, 38, 46, 48] []) σ0 (r))) {σ : zSt} {x1 : Int32} {x5 : Int32} {x6 : Int32} {x7 : Int32} {x8 : Int32} {x9 : Int32} {s0 : Int32} {s1 : Int32} {s2 : Int32} (h : (zQ [3, 5, 7, 9, 11, 12, 15, 17, 19, 21, 23, 25, 27, 28, 29, 30, 32, 34, 36, 40, 42, 44, 45] [] [5, 38, 46, 48] []) σ0 σ) : zpc (fX3_drawTiles_316 k143 σ x1 x5 x6 x7 x8 x9 s0 s1 s2) (fun r => (zQ [3, 5, 7, 9, 11, 12, 15, 17, 19, 21, 23, 25, 27, 28, 29, 30, 32, 34, 36, 40, 42, 44, 45] [] [5, 38, 46, 48] []) σ0 (r)) := by
  unfold fX3_drawTiles_316
  exact zpc_ck (zpc_bs (zQ.wi h rfl) (fun σ1 hσ1 => zpc_bv (fun v2 _ => hk143 _ _ _ _ _ _ _ hσ1)))
theorem fu_fX3_drawTiles_303 {σ0 : zSt} {k143 : zSt → Int32 → Int32 → Int32 → Int32 → Int32 → Int32 → Option (zSt)} (hk143 : ∀ (y0 : zSt) (y1 : Int32) (y2 : Int32) (y3 : Int32) (y4 : Int32) (y5 : Int32) (y6 : Int32), (zQ [3, 5, 7, 9, 11, 12, 15, 17, 19, 21, 23, 25, 27, 28, 29, 30, 32, 34, 36, 40, 42, 44, 45] [] [5, 38, 46, 48] []) σ0 y0 → zpc (k143 y0 y1 y2 y3 y4 y5 y6) (fun r => (zQ [3, 5, 7, 9, 11, 12, 15, 17, 19, 21, 23, 25, 27, 28, 29, 30, 32, 34, 36, 40, 42, 44, 45] [] [5, 38, 46, 48] []) σ0 (r))) {σ : zSt} {x1 : Int32} {x5 : Int32} {x6 : Int32} {x7 : Int32} {x8 : Int32} {x9 : Int32} {x13 : Int32} {s0 : Int32} {s1 : Int32} {s2 : Int32} (h : (zQ [3, 5, 7, 9, 11, 12, 15, 17, 19, 21, 23, 25, 27, 28, 29, 30, 32, 34, 36, 40, 42, 44, 45] [] [5, 38, 46, 48] []) σ0 σ) : zpc (fX3_drawTiles_303 k143 σ x1 x5 x6 x7 x8 x9 x13 s0 s1 s2) (fun r => (zQ [3, 5, 7, 9, 11, 12, 15, 17, 19, 21, 23, 25, 27, 28, 29, 30, 32, 34, 36, 40, 42, 44, 45] [] [5, 38, 46, 48] []) σ0 (r)) := by
  unfold fX3_drawTiles_303
  exact zpc_if (fun _ => fu_fX3_drawTiles_316 hk143 h) (fun _ => fu_fX3_drawTiles_316 hk143 h)
theorem fu_fX3_drawTiles_276 {σ0 : zSt} {k143 : zSt → Int32 → Int32 → Int32 → Int32 → Int32 → Int32 → Option (zSt)} (hk143 : ∀ (y0 : zSt) (y1 : Int32) (y2 : Int32) (y3 : Int32) (y4 : Int32) (y5 : Int32) (y6 : Int32), (zQ [3, 5, 7, 9, 11, 12, 15, 17, 19, 21, 23, 25, 27, 28, 29, 30, 32, 34, 36, 40, 42, 44, 45] [] [5, 38, 46, 48] []) σ0 y0 → zpc (k143 y0 y1 y2 y3 y4 y5 y6) (fun r => (zQ [3, 5, 7, 9, 11, 12, 15, 17, 19, 21, 23, 25, 27, 28, 29, 30, 32, 34, 36, 40, 42, 44, 45] [] [5, 38, 46, 48] []) σ0 (r))) {σ : zSt} {x1 : Int32} {x5 : Int32} {x6 : Int32} {x7 : Int32} {x8 : Int32} {x9 : Int32} {x12 : Int32} {s0 : Int32} (h : (zQ [3, 5, 7, 9, 11, 12, 15, 17, 19, 21, 23, 25, 27, 28, 29, 30, 32, 34, 36, 40, 42, 44, 45] [] [5, 38, 46, 48] []) σ0 σ) : zpc (fX3_drawTiles_276 k143 σ x1 x5 x6 x7 x8 x9 x12 s0) (fun r => (zQ [3, 5, 7, 9, 11, 12, 15, 17, 19, 21, 23, 25, 27, 28, 29, 30, 32, 34, 36, 40, 42, 44, 45] [] [5, 38, 46, 48] []) σ0 (r)) := by
  unfold fX3_drawTiles_276
  exact zpc_if (fun _ => fu_fX3_drawTiles_303 hk143 h) (fun _ => fu_fX3_drawTiles_303 hk143 h)
theorem fu_fX3_drawTiles_275 {σ0 : zSt} {k143 : zSt → Int32 → Int32 → Int32 → Int32 → Int32 → Int32 → Option (zSt)} (hk143 : ∀ (y0 : zSt) (y1 : Int32) (y2 : Int32) (y3 : Int32) (y4 : Int32) (y5 : Int32) (y6 : Int32), (zQ [3, 5, 7, 9, 11, 12, 15, 17, 19, 21, 23, 25, 27, 28, 29, 30, 32, 34, 36, 40, 42, 44, 45] [] [5, 38, 46, 48] []) σ0 y0 → zpc (k143 y0 y1 y2 y3 y4 y5 y6) (fun r => (zQ [3, 5, 7, 9, 11, 12, 15, 17, 19, 21, 23, 25, 27, 28, 29, 30, 32, 34, 36, 40, 42, 44, 45] [] [5, 38, 46, 48] []) σ0 (r))) {σ : zSt} {x1 : Int32} {x5 : Int32} {x6 : Int32} {x7 : Int32} {x8 : Int32} {x9 : Int32} {x12 : Int32} (h : (zQ [3, 5, 7, 9, 11, 12, 15, 17, 19, 21, 23, 25, 27, 28, 29, 30, 32, 34, 36, 40, 42, 44, 45] [] [5, 38, 46, 48] []) σ0 σ) : zpc (fX3_drawTiles_275 k143 σ x1 x5 x6 x7 x8 x9 x12) (fun r => (zQ [3, 5, 7, 9, 11, 12, 15, 17, 19, 21, 23, 25, 27, 28, 29, 30, 32, 34, 36, 40, 42, 44, 45] [] [5, 38, 46, 48] []) σ0 (r)) := by
  unfold fX3_drawTiles_275
  exact fu_fX3_drawTiles_276 hk143 h
theorem fu_fX3_drawTiles_242 {σ0 : zSt} {k143 : zSt → Int32 → Int32 → Int32 → Int32 → Int32 → Int32 → Option (zSt)} (hk143 : ∀ (y0 : zSt) (y1 : Int32) (y2 : Int32) (y3 : Int32) (y4 : Int32) (y5 : Int32) (y6 : Int32), (zQ [3, 5, 7, 9, 11, 12, 15, 17, 19, 21, 23, 25, 27, 28, 29, 30, 32, 34, 36, 40, 42, 44, 45] [] [5, 38, 46, 48] []) σ0 y0 → zpc (k143 y0 y1 y2 y3 y4 y5 y6) (fun r => (zQ [3, 5, 7, 9, 11, 12, 15, 17, 19, 21, 23, 25, 27, 28, 29, 30, 32, 34, 36, 40, 42, 44, 45] [] [5, 38, 46, 48] []) σ0 (r))) {σ : zSt} {x1 : Int32} {x5 : Int32} {x6 : Int32} {x7 : Int32} {x8 : Int32} {x9 : Int32} {s0 : Int32} (h : (zQ [3, 5, 7, 9, 11, 12, 15, 17, 19, 21, 23, 25, 27, 28, 29, 30, 32, 34, 36, 40, 42, 44, 45] [] [5, 38, 46, 48] []) σ0 σ) : zpc (fX3_drawTiles_242 k143 σ x1 x5 x6 x7 x8 x9 s0) (fun r => (zQ [3, 5, 7, 9, 11, 12, 15, 17, 19, 21, 23, 25, 27, 28, 29, 30, 32, 34, 36, 40, 42, 44, 45] [] [5, 38, 46, 48] []) σ0 (r)) := by
  unfold fX3_drawTiles_242
  exact zpc_bi (fu_fX3_numberIn h) (fun σ3 v4 hσ3 => zpc_if (fun _ => fu_fX3_drawTiles_275 hk143 hσ3) (fun _ => zpc_if (fun _ => fu_fX3_drawTiles_275 hk143 hσ3) (fun _ => fu_fX3_drawTiles_276 hk143 hσ3)))
theorem fu_fX3_drawTiles_215 {σ0 : zSt} {k143 : zSt → Int32 → Int32 → Int32 → Int32 → Int32 → Int32 → Option (zSt)} (hk143 : ∀ (y0 : zSt) (y1 : Int32) (y2 : Int32) (y3 : Int32) (y4 : Int32) (y5 : Int32) (y6 : Int32), (zQ [3, 5, 7, 9, 11, 12, 15, 17, 19, 21, 23, 25, 27, 28, 29, 30, 32, 34, 36, 40, 42, 44, 45] [] [5, 38, 46, 48] []) σ0 y0 → zpc (k143 y0 y1 y2 y3 y4 y5 y6) (fun r => (zQ [3, 5, 7, 9, 11, 12, 15, 17, 19, 21, 23, 25, 27, 28, 29, 30, 32, 34, 36, 40, 42, 44, 45] [] [5, 38, 46, 48] []) σ0 (r))) {σ : zSt} {x1 : Int32} {x5 : Int32} {x6 : Int32} {x7 : Int32} {x8 : Int32} {x9 : Int32} {x10 : Int32} (h : (zQ [3, 5, 7, 9, 11, 12, 15, 17, 19, 21, 23, 25, 27, 28, 29, 30, 32, 34, 36, 40, 42, 44, 45] [] [5, 38, 46, 48] []) σ0 σ) : zpc (fX3_drawTiles_215 k143 σ x1 x5 x6 x7 x8 x9 x10) (fun r => (zQ [3, 5, 7, 9, 11, 12, 15, 17, 19, 21, 23, 25, 27, 28, 29, 30, 32, 34, 36, 40, 42, 44, 45] [] [5, 38, 46, 48] []) σ0 (r)) := by
  unfold fX3_drawTiles_215
  exact zpc_if (fun _ => fu_fX3_drawTiles_242 hk143 h) (fun _ => fu_fX3_drawTiles_242 hk143 h)
theorem fu_fX3_drawTiles_212 {σ0 : zSt} {k143 : zSt → Int32 → Int32 → Int32 → Int32 → Int32 → Int32 → Option (zSt)} (hk143 : ∀ (y0 : zSt) (y1 : Int32) (y2 : Int32) (y3 : Int32) (y4 : Int32) (y5 : Int32) (y6 : Int32), (zQ [3, 5, 7, 9, 11, 12, 15, 17, 19, 21, 23, 25, 27, 28, 29, 30, 32, 34, 36, 40, 42, 44, 45] [] [5, 38, 46, 48] []) σ0 y0 → zpc (k143 y0 y1 y2 y3 y4 y5 y6) (fun r => (zQ [3, 5, 7, 9, 11, 12, 15, 17, 19, 21, 23, 25, 27, 28, 29, 30, 32, 34, 36, 40, 42, 44, 45] [] [5, 38, 46, 48] []) σ0 (r))) {σ : zSt} {x1 : Int32} {x5 : Int32} {x6 : Int32} {x7 : Int32} {x8 : Int32} {x9 : Int32} {x10 : Int32} {s0 : Int32} {s1 : Int32} (h : (zQ [3, 5, 7, 9, 11, 12, 15, 17, 19, 21, 23, 25, 27, 28, 29, 30, 32, 34, 36, 40, 42, 44, 45] [] [5, 38, 46, 48] []) σ0 σ) : zpc (fX3_drawTiles_212 k143 σ x1 x5 x6 x7 x8 x9 x10 s0 s1) (fun r => (zQ [3, 5, 7, 9, 11, 12, 15, 17, 19, 21, 23, 25, 27, 28, 29, 30, 32, 34, 36, 40, 42, 44, 45] [] [5, 38, 46, 48] []) σ0 (r)) := by
  unfold fX3_drawTiles_212
  exact zpc_bu (fu_fX3_takeTile h) (fun σ5 hσ5 => fu_fX3_drawTiles_215 hk143 hσ5)
theorem fu_fX3_drawTiles_210 {σ0 : zSt} {k143 : zSt → Int32 → Int32 → Int32 → Int32 → Int32 → Int32 → Option (zSt)} (hk143 : ∀ (y0 : zSt) (y1 : Int32) (y2 : Int32) (y3 : Int32) (y4 : Int32) (y5 : Int32) (y6 : Int32), (zQ [3, 5, 7, 9, 11, 12, 15, 17, 19, 21, 23, 25, 27, 28, 29, 30, 32, 34, 36, 40, 42, 44, 45] [] [5, 38, 46, 48] []) σ0 y0 → zpc (k143 y0 y1 y2 y3 y4 y5 y6) (fun r => (zQ [3, 5, 7, 9, 11, 12, 15, 17, 19, 21, 23, 25, 27, 28, 29, 30, 32, 34, 36, 40, 42, 44, 45] [] [5, 38, 46, 48] []) σ0 (r))) {σ : zSt} {x1 : Int32} {x5 : Int32} {x6 : Int32} {x7 : Int32} {x8 : Int32} {x9 : Int32} {x10 : Int32} {s0 : Int32} (h : (zQ [3, 5, 7, 9, 11, 12, 15, 17, 19, 21, 23, 25, 27, 28, 29, 30, 32, 34, 36, 40, 42, 44, 45] [] [5, 38, 46, 48] []) σ0 σ) : zpc (fX3_drawTiles_210 k143 σ x1 x5 x6 x7 x8 x9 x10 s0) (fun r => (zQ [3, 5, 7, 9, 11, 12, 15, 17, 19, 21, 23, 25, 27, 28, 29, 30, 32, 34, 36, 40, 42, 44, 45] [] [5, 38, 46, 48] []) σ0 (r)) := by
  unfold fX3_drawTiles_210
  exact fu_fX3_drawTiles_212 hk143 h
theorem fu_fX3_drawTiles_183 {σ0 : zSt} {k143 : zSt → Int32 → Int32 → Int32 → Int32 → Int32 → Int32 → Option (zSt)} (hk143 : ∀ (y0 : zSt) (y1 : Int32) (y2 : Int32) (y3 : Int32) (y4 : Int32) (y5 : Int32) (y6 : Int32), (zQ [3, 5, 7, 9, 11, 12, 15, 17, 19, 21, 23, 25, 27, 28, 29, 30, 32, 34, 36, 40, 42, 44, 45] [] [5, 38, 46, 48] []) σ0 y0 → zpc (k143 y0 y1 y2 y3 y4 y5 y6) (fun r => (zQ [3, 5, 7, 9, 11, 12, 15, 17, 19, 21, 23, 25, 27, 28, 29, 30, 32, 34, 36, 40, 42, 44, 45] [] [5, 38, 46, 48] []) σ0 (r))) {σ : zSt} {x1 : Int32} {x5 : Int32} {x6 : Int32} {x7 : Int32} {x8 : Int32} {x9 : Int32} {x10 : Int32} (h : (zQ [3, 5, 7, 9, 11, 12, 15, 17, 19, 21, 23, 25, 27, 28, 29, 30, 32, 34, 36, 40, 42, 44, 45] [] [5, 38, 46, 48] []) σ0 σ) : zpc (fX3_drawTiles_183 k143 σ x1 x5 x6 x7 x8 x9 x10) (fun r => (zQ [3, 5, 7, 9, 11, 12, 15, 17, 19, 21, 23, 25, 27, 28, 29, 30, 32, 34, 36, 40, 42, 44, 45] [] [5, 38, 46, 48] []) σ0 (r)) := by
  unfold fX3_drawTiles_183
  exact zpc_if (fun _ => fu_fX3_drawTiles_210 hk143 h) (fun _ => zpc_if (fun _ => fu_fX3_drawTiles_210 hk143 h) (fun _ => fu_fX3_drawTiles_212 hk143 h))
theorem fu_fX3_drawTiles_143_body {σ0 : zSt} {k143 : zSt → Int32 → Int32 → Int32 → Int32 → Int32 → Int32 → Option (zSt)} (hk143 : ∀ (y0 : zSt) (y1 : Int32) (y2 : Int32) (y3 : Int32) (y4 : Int32) (y5 : Int32) (y6 : Int32), (zQ [3, 5, 7, 9, 11, 12, 15, 17, 19, 21, 23, 25, 27, 28, 29, 30, 32, 34, 36, 40, 42, 44, 45] [] [5, 38, 46, 48] []) σ0 y0 → zpc (k143 y0 y1 y2 y3 y4 y5 y6) (fun r => (zQ [3, 5, 7, 9, 11, 12, 15, 17, 19, 21, 23, 25, 27, 28, 29, 30, 32, 34, 36, 40, 42, 44, 45] [] [5, 38, 46, 48] []) σ0 (r))) {σ : zSt} {x1 : Int32} {x5 : Int32} {x6 : Int32} {x7 : Int32} {x8 : Int32} {x9 : Int32} (h : (zQ [3, 5, 7, 9, 11, 12, 15, 17, 19, 21, 23, 25, 27, 28, 29, 30, 32, 34, 36, 40, 42, 44, 45] [] [5, 38, 46, 48] []) σ0 σ) : zpc (fX3_drawTiles_143_body k143 σ x1 x5 x6 x7 x8 x9) (fun r => (zQ [3, 5, 7, 9, 11, 12, 15, 17, 19, 21, 23, 25, 27, 28, 29, 30, 32, 34, 36, 40, 42, 44, 45] [] [5, 38, 46, 48] []) σ0 (r)) := by
  unfold fX3_drawTiles_143_body
  exact zpc_if (fun _ => zpc_some h) (fun _ => zpc_bv (fun v6 _ => zpc_if (fun _ => fu_fX3_drawTiles_183 hk143 h) (fun _ => zpc_if (fun _ => fu_fX3_drawTiles_183 hk143 h) (fun _ => zpc_if (fun _ => fu_fX3_drawTiles_183 hk143 h) (fun _ => fu_fX3_drawTiles_215 hk143 h)))))
theorem fu_fX3_drawTiles_143 {σ0 : zSt} : ∀ (n : Nat) (y0 : zSt) (y1 : Int32) (y2 : Int32) (y3 : Int32) (y4 : Int32) (y5 : Int32) (y6 : Int32), (zQ [3, 5, 7, 9, 11, 12, 15, 17, 19, 21, 23, 25, 27, 28, 29, 30, 32, 34, 36, 40, 42, 44, 45] [] [5, 38, 46, 48] []) σ0 y0 → zpc (fX3_drawTiles_143 n y0 y1 y2 y3 y4 y5 y6) (fun r => (zQ [3, 5, 7, 9, 11, 12, 15, 17, 19, 21, 23, 25, 27, 28, 29, 30, 32, 34, 36, 40, 42, 44, 45] [] [5, 38, 46, 48] []) σ0 (r)) := by
  intro n
  induction n with
  | zero => intro y0 y1 y2 y3 y4 y5 y6 h; exact zpc_none
  | succ n ih => intro y0 y1 y2 y3 y4 y5 y6 h; exact fu_fX3_drawTiles_143_body ih h
theorem fu_fX3_drawTiles_138 {σ0 : zSt} {σ : zSt} {x1 : Int32} {x5 : Int32} {x6 : Int32} {x7 : Int32} {s0 : Int32} (h : (zQ [3, 5, 7, 9, 11, 12, 15, 17, 19, 21, 23, 25, 27, 28, 29, 30, 32, 34, 36, 40, 42, 44, 45] [] [5, 38, 46, 48] []) σ0 σ) : zpc (fX3_drawTiles_138 σ x1 x5 x6 x7 s0) (fun r => (zQ [3, 5, 7, 9, 11, 12, 15, 17, 19, 21, 23, 25, 27, 28, 29, 30, 32, 34, 36, 40, 42, 44, 45] [] [5, 38, 46, 48] []) σ0 (r)) := by
  unfold fX3_drawTiles_138
  exact fu_fX3_drawTiles_143 _ _ _ _ _ _ _ _ h
theorem fu_fX3_drawTiles_122 {σ0 : zSt} {σ : zSt} {x1 : Int32} {x3 : Int32} {x5 : Int32} {x6 : Int32} {s0 : Int32} {s1 : Int32} (h : (zQ [3, 5, 7, 9, 11, 12, 15, 17, 19, 21, 23, 25, 27, 28, 29, 30, 32, 34, 36, 40, 42, 44, 45] [] [5, 38, 46, 48] []) σ0 σ) : zpc (fX3_drawTiles_122 σ x1 x3 x5 x6 s0 s1) (fun r => (zQ [3, 5, 7, 9, 11, 12, 15, 17, 19, 21, 23, 25, 27, 28, 29, 30, 32, 34, 36, 40, 42, 44, 45] [] [5, 38, 46, 48] []) σ0 (r)) := by
  unfold fX3_drawTiles_122
  exact zpc_ck (zpc_bv (fun v7 _ => zpc_if (fun _ => fu_fX3_drawTiles_138 h) (fun _ => fu_fX3_drawTiles_138 h)))
theorem fu_fX3_drawTiles_96 {σ0 : zSt} {σ : zSt} {x1 : Int32} {x2 : Int32} {x3 : Int32} {x5 : Int32} {s0 : Int32} (h : (zQ [3, 5, 7, 9, 11, 12, 15, 17, 19, 21, 23, 25, 27, 28, 29, 30, 32, 34, 36, 40, 42, 44, 45] [] [5, 38, 46, 48] []) σ0 σ) : zpc (fX3_drawTiles_96 σ x1 x2 x3 x5 s0) (fun r => (zQ [3, 5, 7, 9, 11, 12, 15, 17, 19, 21, 23, 25, 27, 28, 29, 30, 32, 34, 36, 40, 42, 44, 45] [] [5, 38, 46, 48] []) σ0 (r)) := by
  unfold fX3_drawTiles_96
  exact zpc_bi (fu_fX9_held h) (fun σ8 v9 hσ8 => zpc_if (fun _ => fu_fX3_drawTiles_122 hσ8) (fun _ => fu_fX3_drawTiles_122 hσ8))
theorem fu_fX3_drawTiles_87 {σ0 : zSt} {σ : zSt} {x1 : Int32} {x2 : Int32} {x3 : Int32} {x5 : Int32} (h : (zQ [3, 5, 7, 9, 11, 12, 15, 17, 19, 21, 23, 25, 27, 28, 29, 30, 32, 34, 36, 40, 42, 44, 45] [] [5, 38, 46, 48] []) σ0 σ) : zpc (fX3_drawTiles_87 σ x1 x2 x3 x5) (fun r => (zQ [3, 5, 7, 9, 11, 12, 15, 17, 19, 21, 23, 25, 27, 28, 29, 30, 32, 34, 36, 40, 42, 44, 45] [] [5, 38, 46, 48] []) σ0 (r)) := by
  unfold fX3_drawTiles_87
  exact zpc_bi (fu_fX9_held h) (fun σ10 v11 hσ10 => fu_fX3_drawTiles_96 hσ10)
theorem fu_fX3_drawTiles_68 {σ0 : zSt} {σ : zSt} {x1 : Int32} {x2 : Int32} {x3 : Int32} {s0 : Int32} (h : (zQ [3, 5, 7, 9, 11, 12, 15, 17, 19, 21, 23, 25, 27, 28, 29, 30, 32, 34, 36, 40, 42, 44, 45] [] [5, 38, 46, 48] []) σ0 σ) : zpc (fX3_drawTiles_68 σ x1 x2 x3 s0) (fun r => (zQ [3, 5, 7, 9, 11, 12, 15, 17, 19, 21, 23, 25, 27, 28, 29, 30, 32, 34, 36, 40, 42, 44, 45] [] [5, 38, 46, 48] []) σ0 (r)) := by
  unfold fX3_drawTiles_68
  exact zpc_if (fun _ => fu_fX3_drawTiles_87 h) (fun _ => zpc_if (fun _ => fu_fX3_drawTiles_87 h) (fun _ => fu_fX3_drawTiles_96 h))
theorem fu_fX3_drawTiles_18 {σ0 : zSt} {σ : zSt} {x1 : Int32} {s0 : Int32} (h : (zQ [3, 5, 7, 9, 11, 12, 15, 17, 19, 21, 23, 25, 27, 28, 29, 30, 32, 34, 36, 40, 42, 44, 45] [] [5, 38, 46, 48] []) σ0 σ) : zpc (fX3_drawTiles_18 σ x1 s0) (fun r => (zQ [3, 5, 7, 9, 11, 12, 15, 17, 19, 21, 23, 25, 27, 28, 29, 30, 32, 34, 36, 40, 42, 44, 45] [] [5, 38, 46, 48] []) σ0 (r)) := by
  unfold fX3_drawTiles_18
  exact zpc_bi (fu_fX9_held h) (fun σ12 v13 hσ12 => zpc_bi (fu_fX9_held hσ12) (fun σ14 v15 hσ14 => zpc_if (fun _ => fu_fX3_drawTiles_68 hσ14) (fun _ => fu_fX3_drawTiles_68 hσ14)))
theorem fu_fX3_drawTiles {σ0 : zSt} {σ : zSt} {x1 : Int32} (h : (zQ [3, 5, 7, 9, 11, 12, 15, 17, 19, 21, 23, 25, 27, 28, 29, 30, 32, 34, 36, 40, 42, 44, 45] [] [5, 38, 46, 48] []) σ0 σ) : zpc (fX3_drawTiles σ x1) (fun r => (zQ [3, 5, 7, 9, 11, 12, 15, 17, 19, 21, 23, 25, 27, 28, 29, 30, 32, 34, 36, 40, 42, 44, 45] [] [5, 38, 46, 48] []) σ0 (r)) := by
  unfold fX3_drawTiles
  exact zpc_bi (fu_fX9_height h) (fun σ16 v17 hσ16 => zpc_if (fun _ => fu_fX3_drawTiles_18 hσ16) (fun _ => fu_fX3_drawTiles_18 hσ16))
theorem fu_fJ7_fill_53178_k28_5_body {σ0 : zSt} {k5 : zSt → Int32 → Int32 → Int32 → Option (zSt)} (hk5 : ∀ (y0 : zSt) (y1 : Int32) (y2 : Int32) (y3 : Int32), (zQ [3, 5, 7, 9, 11, 12, 15, 17, 19, 21, 23, 25, 27, 28, 29, 30, 32, 34, 36, 40, 42, 44, 45] [] [5, 38, 46, 48] []) σ0 y0 → zpc (k5 y0 y1 y2 y3) (fun r => (zQ [3, 5, 7, 9, 11, 12, 15, 17, 19, 21, 23, 25, 27, 28, 29, 30, 32, 34, 36, 40, 42, 44, 45] [] [5, 38, 46, 48] []) σ0 (r))) {σ : zSt} {x1 : Int32} {x2 : Int32} {x3 : Int32} (h : (zQ [3, 5, 7, 9, 11, 12, 15, 17, 19, 21, 23, 25, 27, 28, 29, 30, 32, 34, 36, 40, 42, 44, 45] [] [5, 38, 46, 48] []) σ0 σ) : zpc (fJ7_fill_53178_k28_5_body k5 σ x1 x2 x3) (fun r => (zQ [3, 5, 7, 9, 11, 12, 15, 17, 19, 21, 23, 25, 27, 28, 29, 30, 32, 34, 36, 40, 42, 44, 45] [] [5, 38, 46, 48] []) σ0 (r)) := by
  unfold fJ7_fill_53178_k28_5_body
  exact zpc_if (fun _ => zpc_some h) (fun _ => zpc_ck (zpc_bs (zQ.wi h rfl) (fun σ1 hσ1 => zpc_bv (fun v2 _ => hk5 _ _ _ _ hσ1))))
theorem fu_fJ7_fill_53178_k28_5 {σ0 : zSt} : ∀ (n : Nat) (y0 : zSt) (y1 : Int32) (y2 : Int32) (y3 : Int32), (zQ [3, 5, 7, 9, 11, 12, 15, 17, 19, 21, 23, 25, 27, 28, 29, 30, 32, 34, 36, 40, 42, 44, 45] [] [5, 38, 46, 48] []) σ0 y0 → zpc (fJ7_fill_53178_k28_5 n y0 y1 y2 y3) (fun r => (zQ [3, 5, 7, 9, 11, 12, 15, 17, 19, 21, 23, 25, 27, 28, 29, 30, 32, 34, 36, 40, 42, 44, 45] [] [5, 38, 46, 48] []) σ0 (r)) := by
  intro n
  induction n with
  | zero => intro y0 y1 y2 y3 h; exact zpc_none
  | succ n ih => intro y0 y1 y2 y3 h; exact fu_fJ7_fill_53178_k28_5_body ih h
theorem fu_fJ7_fill_53178_k28 {σ0 : zSt} {σ : zSt} {x1 : Int32} (h : (zQ [3, 5, 7, 9, 11, 12, 15, 17, 19, 21, 23, 25, 27, 28, 29, 30, 32, 34, 36, 40, 42, 44, 45] [] [5, 38, 46, 48] []) σ0 σ) : zpc (fJ7_fill_53178_k28 σ x1) (fun r => (zQ [3, 5, 7, 9, 11, 12, 15, 17, 19, 21, 23, 25, 27, 28, 29, 30, 32, 34, 36, 40, 42, 44, 45] [] [5, 38, 46, 48] []) σ0 (r)) := by
  unfold fJ7_fill_53178_k28
  exact fu_fJ7_fill_53178_k28_5 _ _ _ _ _ h
theorem fu_fX3_rowOfSprite_56 {σ0 : zSt} {σ : zSt} {s0 : Int32} (h : (zQ [3, 5, 7, 9, 11, 12, 15, 17, 19, 21, 23, 25, 27, 28, 29, 30, 32, 34, 36, 40, 42, 44, 45] [] [5, 38, 46, 48] []) σ0 σ) : zpc (fX3_rowOfSprite_56 σ s0) (fun r => (zQ [3, 5, 7, 9, 11, 12, 15, 17, 19, 21, 23, 25, 27, 28, 29, 30, 32, 34, 36, 40, 42, 44, 45] [] [5, 38, 46, 48] []) σ0 (r.1)) := by
  unfold fX3_rowOfSprite_56
  exact zpc_some h
theorem fu_fX3_rowOfSprite_47 {σ0 : zSt} {σ : zSt} {x4 : Int32} {s0 : Int32} {s1 : Int32} (h : (zQ [3, 5, 7, 9, 11, 12, 15, 17, 19, 21, 23, 25, 27, 28, 29, 30, 32, 34, 36, 40, 42, 44, 45] [] [5, 38, 46, 48] []) σ0 σ) : zpc (fX3_rowOfSprite_47 σ x4 s0 s1) (fun r => (zQ [3, 5, 7, 9, 11, 12, 15, 17, 19, 21, 23, 25, 27, 28, 29, 30, 32, 34, 36, 40, 42, 44, 45] [] [5, 38, 46, 48] []) σ0 (r.1)) := by
  unfold fX3_rowOfSprite_47
  exact zpc_if (fun _ => fu_fX3_rowOfSprite_56 h) (fun _ => fu_fX3_rowOfSprite_56 h)
theorem fu_fX3_rowOfSprite_32 {σ0 : zSt} {σ : zSt} {x3 : Int32} {x4 : Int32} (h : (zQ [3, 5, 7, 9, 11, 12, 15, 17, 19, 21, 23, 25, 27, 28, 29, 30, 32, 34, 36, 40, 42, 44, 45] [] [5, 38, 46, 48] []) σ0 σ) : zpc (fX3_rowOfSprite_32 σ x3 x4) (fun r => (zQ [3, 5, 7, 9, 11, 12, 15, 17, 19, 21, 23, 25, 27, 28, 29, 30, 32, 34, 36, 40, 42, 44, 45] [] [5, 38, 46, 48] []) σ0 (r.1)) := by
  unfold fX3_rowOfSprite_32
  exact zpc_if (fun _ => fu_fX3_rowOfSprite_47 h) (fun _ => fu_fX3_rowOfSprite_47 h)
theorem fu_fX3_rowOfSprite {σ0 : zSt} {σ : zSt} {x1 : Int32} {x2 : Int32} (h : (zQ [3, 5, 7, 9, 11, 12, 15, 17, 19, 21, 23, 25, 27, 28, 29, 30, 32, 34, 36, 40, 42, 44, 45] [] [5, 38, 46, 48] []) σ0 σ) : zpc (fX3_rowOfSprite σ x1 x2) (fun r => (zQ [3, 5, 7, 9, 11, 12, 15, 17, 19, 21, 23, 25, 27, 28, 29, 30, 32, 34, 36, 40, 42, 44, 45] [] [5, 38, 46, 48] []) σ0 (r.1)) := by
  unfold fX3_rowOfSprite
  exact zpc_bi (fu_fX9_held h) (fun σ1 v2 hσ1 => zpc_bv (fun v3 _ => zpc_if (fun _ => fu_fX3_rowOfSprite_32 hσ1) (fun _ => zpc_bv (fun v4 _ => fu_fX3_rowOfSprite_32 hσ1))))
theorem fu_fX9_mark {σ0 : zSt} {σ : zSt} {x1 : Int32} (h : (zQ [3, 5, 7, 9, 11, 12, 15, 17, 19, 21, 23, 25, 27, 28, 29, 30, 32, 34, 36, 40, 42, 44, 45] [] [5, 38, 46, 48] []) σ0 σ) : zpc (fX9_mark σ x1) (fun r => (zQ [3, 5, 7, 9, 11, 12, 15, 17, 19, 21, 23, 25, 27, 28, 29, 30, 32, 34, 36, 40, 42, 44, 45] [] [5, 38, 46, 48] []) σ0 (r)) := by
  unfold fX9_mark
  exact zpc_ck (zpc_ck (zpc_bs (zQ.wi h rfl) (fun σ1 hσ1 => zpc_some hσ1)))
theorem fu_fX3_drawSprite_190 {σ0 : zSt} {k111 : zSt → Int32 → Int32 → Int32 → Option (zSt)} (hk111 : ∀ (y0 : zSt) (y1 : Int32) (y2 : Int32) (y3 : Int32), (zQ [3, 5, 7, 9, 11, 12, 15, 17, 19, 21, 23, 25, 27, 28, 29, 30, 32, 34, 36, 40, 42, 44, 45] [] [5, 38, 46, 48] []) σ0 y0 → zpc (k111 y0 y1 y2 y3) (fun r => (zQ [3, 5, 7, 9, 11, 12, 15, 17, 19, 21, 23, 25, 27, 28, 29, 30, 32, 34, 36, 40, 42, 44, 45] [] [5, 38, 46, 48] []) σ0 (r))) {σ : zSt} {x3 : Int32} {x6 : Int32} {x7 : Int32} (h : (zQ [3, 5, 7, 9, 11, 12, 15, 17, 19, 21, 23, 25, 27, 28, 29, 30, 32, 34, 36, 40, 42, 44, 45] [] [5, 38, 46, 48] []) σ0 σ) : zpc (fX3_drawSprite_190 k111 σ x3 x6 x7) (fun r => (zQ [3, 5, 7, 9, 11, 12, 15, 17, 19, 21, 23, 25, 27, 28, 29, 30, 32, 34, 36, 40, 42, 44, 45] [] [5, 38, 46, 48] []) σ0 (r)) := by
  unfold fX3_drawSprite_190
  exact zpc_bv (fun v1 _ => hk111 _ _ _ _ h)
theorem fu_fX3_drawSprite_111_body {σ0 : zSt} {k111 : zSt → Int32 → Int32 → Int32 → Option (zSt)} (hk111 : ∀ (y0 : zSt) (y1 : Int32) (y2 : Int32) (y3 : Int32), (zQ [3, 5, 7, 9, 11, 12, 15, 17, 19, 21, 23, 25, 27, 28, 29, 30, 32, 34, 36, 40, 42, 44, 45] [] [5, 38, 46, 48] []) σ0 y0 → zpc (k111 y0 y1 y2 y3) (fun r => (zQ [3, 5, 7, 9, 11, 12, 15, 17, 19, 21, 23, 25, 27, 28, 29, 30, 32, 34, 36, 40, 42, 44, 45] [] [5, 38, 46, 48] []) σ0 (r))) {σ : zSt} {x3 : Int32} {x6 : Int32} {x7 : Int32} (h : (zQ [3, 5, 7, 9, 11, 12, 15, 17, 19, 21, 23, 25, 27, 28, 29, 30, 32, 34, 36, 40, 42, 44, 45] [] [5, 38, 46, 48] []) σ0 σ) : zpc (fX3_drawSprite_111_body k111 σ x3 x6 x7) (fun r => (zQ [3, 5, 7, 9, 11, 12, 15, 17, 19, 21, 23, 25, 27, 28, 29, 30, 32, 34, 36, 40, 42, 44, 45] [] [5, 38, 46, 48] []) σ0 (r)) := by
  unfold fX3_drawSprite_111_body
  exact zpc_if (fun _ => zpc_some h) (fun _ => zpc_bv (fun v2 _ => zpc_bi (fu_fX3_numberIn h) (fun σ3 v4 hσ3 => zpc_if (fun _ => fu_fX3_drawSprite_190 hk111 hσ3) (fun _ => zpc_if (fun _ => fu_fX3_drawSprite_190 hk111 hσ3) (fun _ => zpc_if (fun _ => fu_fX3_drawSprite_190 hk111 hσ3) (fun _ => zpc_ck (zpc_if (fun _ => zpc_ck (zpc_bs (zQ.wi hσ3 rfl) (fun σ5 hσ5 => fu_fX3_drawSprite_190 hk111 hσ5))) (fun _ => zpc_bu (fu_fX9_mark hσ3) (fun σ6 hσ6 => fu_fX3_drawSprite_190 hk111 hσ6)))))))))
theorem fu_fX3_drawSprite_111 {σ0 : zSt} : ∀ (n : Nat) (y0 : zSt) (y1 : Int32) (y2 : Int32) (y3 : Int32), (zQ [3, 5, 7, 9, 11, 12, 15, 17, 19, 21, 23, 25, 27, 28, 29, 30, 32, 34, 36, 40, 42, 44, 45] [] [5, 38, 46, 48] []) σ0 y0 → zpc (fX3_drawSprite_111 n y0 y1 y2 y3) (fun r => (zQ [3, 5, 7, 9, 11, 12, 15, 17, 19, 21, 23, 25, 27, 28, 29, 30, 32, 34, 36, 40, 42, 44, 45] [] [5, 38, 46, 48] []) σ0 (r)) := by
  intro n
  induction n with
  | zero => intro y0 y1 y2 y3 h; exact zpc_none
  | succ n ih => intro y0 y1 y2 y3 h; exact fu_fX3_drawSprite_111_body ih h
theorem fu_fX3_drawSprite_100 {σ0 : zSt} {σ : zSt} {x2 : Int32} {x3 : Int32} {x6 : Int32} {s0 : Int32} {s1 : Int32} (h : (zQ [3, 5, 7, 9, 11, 12, 15, 17, 19, 21, 23, 25, 27, 28, 29, 30, 32, 34, 36, 40, 42, 44, 45] [] [5, 38, 46, 48] []) σ0 σ) : zpc (fX3_drawSprite_100 σ x2 x3 x6 s0 s1) (fun r => (zQ [3, 5, 7, 9, 11, 12, 15, 17, 19, 21, 23, 25, 27, 28, 29, 30, 32, 34, 36, 40, 42, 44, 45] [] [5, 38, 46, 48] []) σ0 (r)) := by
  unfold fX3_drawSprite_100
  exact zpc_bu (fu_fX3_takePlanes h) (fun σ7 hσ7 => fu_fX3_drawSprite_111 _ _ _ _ _ hσ7)
theorem fu_fX3_drawSprite_61 {σ0 : zSt} {σ : zSt} {x2 : Int32} {x3 : Int32} {s0 : Int32} {s1 : Int32} (h : (zQ [3, 5, 7, 9, 11, 12, 15, 17, 19, 21, 23, 25, 27, 28, 29, 30, 32, 34, 36, 40, 42, 44, 45] [] [5, 38, 46, 48] []) σ0 σ) : zpc (fX3_drawSprite_61 σ x2 x3 s0 s1) (fun r => (zQ [3, 5, 7, 9, 11, 12, 15, 17, 19, 21, 23, 25, 27, 28, 29, 30, 32, 34, 36, 40, 42, 44, 45] [] [5, 38, 46, 48] []) σ0 (r)) := by
  unfold fX3_drawSprite_61
  exact zpc_bv (fun v8 _ => zpc_bi (fu_fX9_held h) (fun σ9 v10 hσ9 => zpc_bv (fun v11 _ => zpc_if (fun _ => fu_fX3_drawSprite_100 hσ9) (fun _ => fu_fX3_drawSprite_100 hσ9))))
theorem fu_fX3_drawSprite_28 {σ0 : zSt} {σ : zSt} {x1 : Int32} {x2 : Int32} {s0 : Int32} {s1 : Int32} (h : (zQ [3, 5, 7, 9, 11, 12, 15, 17, 19, 21, 23, 25, 27, 28, 29, 30, 32, 34, 36, 40, 42, 44, 45] [] [5, 38, 46, 48] []) σ0 σ) : zpc (fX3_drawSprite_28 σ x1 x2 s0 s1) (fun r => (zQ [3, 5, 7, 9, 11, 12, 15, 17, 19, 21, 23, 25, 27, 28, 29, 30, 32, 34, 36, 40, 42, 44, 45] [] [5, 38, 46, 48] []) σ0 (r)) := by
  unfold fX3_drawSprite_28
  exact zpc_bv (fun v12 _ => zpc_bi (fu_fX9_vramByte h) (fun σ13 v14 hσ13 => zpc_bi (fu_fX9_held hσ13) (fun σ15 v16 hσ15 => zpc_if (fun _ => fu_fX3_drawSprite_61 hσ15) (fun _ => fu_fX3_drawSprite_61 hσ15))))
theorem fu_fX3_drawSprite {σ0 : zSt} {σ : zSt} {x1 : Int32} {x2 : Int32} (h : (zQ [3, 5, 7, 9, 11, 12, 15, 17, 19, 21, 23, 25, 27, 28, 29, 30, 32, 34, 36, 40, 42, 44, 45] [] [5, 38, 46, 48] []) σ0 σ) : zpc (fX3_drawSprite σ x1 x2) (fun r => (zQ [3, 5, 7, 9, 11, 12, 15, 17, 19, 21, 23, 25, 27, 28, 29, 30, 32, 34, 36, 40, 42, 44, 45] [] [5, 38, 46, 48] []) σ0 (r)) := by
  unfold fX3_drawSprite
  exact zpc_bi (fu_fX9_vramByte h) (fun σ17 v18 hσ17 => zpc_bi (fu_fX9_held hσ17) (fun σ19 v20 hσ19 => zpc_if (fun _ => fu_fX3_drawSprite_28 hσ19) (fun _ => fu_fX3_drawSprite_28 hσ19)))
theorem fu_fX3_drawSprites_196 {σ0 : zSt} {k147 : zSt → Int32 → Option (zSt)} (hk147 : ∀ (y0 : zSt) (y1 : Int32), (zQ [3, 5, 7, 9, 11, 12, 15, 17, 19, 21, 23, 25, 27, 28, 29, 30, 32, 34, 36, 40, 42, 44, 45] [] [5, 38, 46, 48] []) σ0 y0 → zpc (k147 y0 y1) (fun r => (zQ [3, 5, 7, 9, 11, 12, 15, 17, 19, 21, 23, 25, 27, 28, 29, 30, 32, 34, 36, 40, 42, 44, 45] [] [5, 38, 46, 48] []) σ0 (r))) {σ : zSt} {x5 : Int32} (h : (zQ [3, 5, 7, 9, 11, 12, 15, 17, 19, 21, 23, 25, 27, 28, 29, 30, 32, 34, 36, 40, 42, 44, 45] [] [5, 38, 46, 48] []) σ0 σ) : zpc (fX3_drawSprites_196 k147 σ x5) (fun r => (zQ [3, 5, 7, 9, 11, 12, 15, 17, 19, 21, 23, 25, 27, 28, 29, 30, 32, 34, 36, 40, 42, 44, 45] [] [5, 38, 46, 48] []) σ0 (r)) := by
  unfold fX3_drawSprites_196
  exact zpc_bv (fun v1 _ => hk147 _ _ h)
theorem fu_fX3_drawSprites_147_body {σ0 : zSt} {k147 : zSt → Int32 → Option (zSt)} (hk147 : ∀ (y0 : zSt) (y1 : Int32), (zQ [3, 5, 7, 9, 11, 12, 15, 17, 19, 21, 23, 25, 27, 28, 29, 30, 32, 34, 36, 40, 42, 44, 45] [] [5, 38, 46, 48] []) σ0 y0 → zpc (k147 y0 y1) (fun r => (zQ [3, 5, 7, 9, 11, 12, 15, 17, 19, 21, 23, 25, 27, 28, 29, 30, 32, 34, 36, 40, 42, 44, 45] [] [5, 38, 46, 48] []) σ0 (r))) {σ : zSt} {x5 : Int32} (h : (zQ [3, 5, 7, 9, 11, 12, 15, 17, 19, 21, 23, 25, 27, 28, 29, 30, 32, 34, 36, 40, 42, 44, 45] [] [5, 38, 46, 48] []) σ0 σ) : zpc (fX3_drawSprites_147_body k147 σ x5) (fun r => (zQ [3, 5, 7, 9, 11, 12, 15, 17, 19, 21, 23, 25, 27, 28, 29, 30, 32, 34, 36, 40, 42, 44, 45] [] [5, 38, 46, 48] []) σ0 (r)) := by
  unfold fX3_drawSprites_147_body
  exact zpc_if (fun _ => zpc_some h) (fun _ => zpc_ck (zpc_if (fun _ => fu_fX3_drawSprites_196 hk147 h) (fun _ => zpc_ck (zpc_if (fun _ => zpc_ck (zpc_ck (zpc_bs (zQ.wi h rfl) (fun σ2 hσ2 => fu_fX3_drawSprites_196 hk147 hσ2)))) (fun _ => fu_fX3_drawSprites_196 hk147 h)))))
theorem fu_fX3_drawSprites_147 {σ0 : zSt} : ∀ (n : Nat) (y0 : zSt) (y1 : Int32), (zQ [3, 5, 7, 9, 11, 12, 15, 17, 19, 21, 23, 25, 27, 28, 29, 30, 32, 34, 36, 40, 42, 44, 45] [] [5, 38, 46, 48] []) σ0 y0 → zpc (fX3_drawSprites_147 n y0 y1) (fun r => (zQ [3, 5, 7, 9, 11, 12, 15, 17, 19, 21, 23, 25, 27, 28, 29, 30, 32, 34, 36, 40, 42, 44, 45] [] [5, 38, 46, 48] []) σ0 (r)) := by
  intro n
  induction n with
  | zero => intro y0 y1 h; exact zpc_none
  | succ n ih => intro y0 y1 h; exact fu_fX3_drawSprites_147_body ih h
theorem fu_fX3_drawSprites_144 {σ0 : zSt} {σ : zSt} (h : (zQ [3, 5, 7, 9, 11, 12, 15, 17, 19, 21, 23, 25, 27, 28, 29, 30, 32, 34, 36, 40, 42, 44, 45] [] [5, 38, 46, 48] []) σ0 σ) : zpc (fX3_drawSprites_144 σ) (fun r => (zQ [3, 5, 7, 9, 11, 12, 15, 17, 19, 21, 23, 25, 27, 28, 29, 30, 32, 34, 36, 40, 42, 44, 45] [] [5, 38, 46, 48] []) σ0 (r)) := by
  unfold fX3_drawSprites_144
  exact fu_fX3_drawSprites_147 _ _ _ h
theorem fu_fX3_drawSprites_138 {σ0 : zSt} {k51 : zSt → Int32 → Int32 → Int32 → Int32 → Int32 → Option (zSt)} (hk51 : ∀ (y0 : zSt) (y1 : Int32) (y2 : Int32) (y3 : Int32) (y4 : Int32) (y5 : Int32), (zQ [3, 5, 7, 9, 11, 12, 15, 17, 19, 21, 23, 25, 27, 28, 29, 30, 32, 34, 36, 40, 42, 44, 45] [] [5, 38, 46, 48] []) σ0 y0 → zpc (k51 y0 y1 y2 y3 y4 y5) (fun r => (zQ [3, 5, 7, 9, 11, 12, 15, 17, 19, 21, 23, 25, 27, 28, 29, 30, 32, 34, 36, 40, 42, 44, 45] [] [5, 38, 46, 48] []) σ0 (r))) {σ : zSt} {x1 : Int32} {x2 : Int32} {x3 : Int32} {x4 : Int32} {x5 : Int32} (h : (zQ [3, 5, 7, 9, 11, 12, 15, 17, 19, 21, 23, 25, 27, 28, 29, 30, 32, 34, 36, 40, 42, 44, 45] [] [5, 38, 46, 48] []) σ0 σ) : zpc (fX3_drawSprites_138 k51 σ x1 x2 x3 x4 x5) (fun r => (zQ [3, 5, 7, 9, 11, 12, 15, 17, 19, 21, 23, 25, 27, 28, 29, 30, 32, 34, 36, 40, 42, 44, 45] [] [5, 38, 46, 48] []) σ0 (r)) := by
  unfold fX3_drawSprites_138
  exact zpc_bv (fun v3 _ => hk51 _ _ _ _ _ _ h)
theorem fu_fX3_drawSprites_86 {σ0 : zSt} {k51 : zSt → Int32 → Int32 → Int32 → Int32 → Int32 → Option (zSt)} (hk51 : ∀ (y0 : zSt) (y1 : Int32) (y2 : Int32) (y3 : Int32) (y4 : Int32) (y5 : Int32), (zQ [3, 5, 7, 9, 11, 12, 15, 17, 19, 21, 23, 25, 27, 28, 29, 30, 32, 34, 36, 40, 42, 44, 45] [] [5, 38, 46, 48] []) σ0 y0 → zpc (k51 y0 y1 y2 y3 y4 y5) (fun r => (zQ [3, 5, 7, 9, 11, 12, 15, 17, 19, 21, 23, 25, 27, 28, 29, 30, 32, 34, 36, 40, 42, 44, 45] [] [5, 38, 46, 48] []) σ0 (r))) {σ : zSt} {x1 : Int32} {x2 : Int32} {x3 : Int32} {x4 : Int32} {x5 : Int32} {x6 : Int32} (h : (zQ [3, 5, 7, 9, 11, 12, 15, 17, 19, 21, 23, 25, 27, 28, 29, 30, 32, 34, 36, 40, 42, 44, 45] [] [5, 38, 46, 48] []) σ0 σ) : zpc (fX3_drawSprites_86 k51 σ x1 x2 x3 x4 x5 x6) (fun r => (zQ [3, 5, 7, 9, 11, 12, 15, 17, 19, 21, 23, 25, 27, 28, 29, 30, 32, 34, 36, 40, 42, 44, 45] [] [5, 38, 46, 48] []) σ0 (r)) := by
  unfold fX3_drawSprites_86
  exact zpc_bi (fu_fX3_rowOfSprite h) (fun σ4 v5 hσ4 => zpc_if (fun _ => fu_fX3_drawSprites_138 hk51 hσ4) (fun _ => zpc_bv (fun v6 _ => zpc_if (fun _ => zpc_bu (fu_fX3_drawSprite hσ4) (fun σ7 hσ7 => fu_fX3_drawSprites_138 hk51 hσ7)) (fun _ => zpc_bu (fu_fX9_mark hσ4) (fun σ8 hσ8 => fu_fX3_drawSprites_144 hσ8)))))
theorem fu_fX3_drawSprites_51_body {σ0 : zSt} {k51 : zSt → Int32 → Int32 → Int32 → Int32 → Int32 → Option (zSt)} (hk51 : ∀ (y0 : zSt) (y1 : Int32) (y2 : Int32) (y3 : Int32) (y4 : Int32) (y5 : Int32), (zQ [3, 5, 7, 9, 11, 12, 15, 17, 19, 21, 23, 25, 27, 28, 29, 30, 32, 34, 36, 40, 42, 44, 45] [] [5, 38, 46, 48] []) σ0 y0 → zpc (k51 y0 y1 y2 y3 y4 y5) (fun r => (zQ [3, 5, 7, 9, 11, 12, 15, 17, 19, 21, 23, 25, 27, 28, 29, 30, 32, 34, 36, 40, 42, 44, 45] [] [5, 38, 46, 48] []) σ0 (r))) {σ : zSt} {x1 : Int32} {x2 : Int32} {x3 : Int32} {x4 : Int32} {x5 : Int32} (h : (zQ [3, 5, 7, 9, 11, 12, 15, 17, 19, 21, 23, 25, 27, 28, 29, 30, 32, 34, 36, 40, 42, 44, 45] [] [5, 38, 46, 48] []) σ0 σ) : zpc (fX3_drawSprites_51_body k51 σ x1 x2 x3 x4 x5) (fun r => (zQ [3, 5, 7, 9, 11, 12, 15, 17, 19, 21, 23, 25, 27, 28, 29, 30, 32, 34, 36, 40, 42, 44, 45] [] [5, 38, 46, 48] []) σ0 (r)) := by
  unfold fX3_drawSprites_51_body
  exact zpc_if (fun _ => fu_fX3_drawSprites_144 h) (fun _ => zpc_bi (fu_fX9_vramByte h) (fun σ9 v10 hσ9 => zpc_if (fun _ => fu_fX3_drawSprites_86 hk51 hσ9) (fun _ => zpc_if (fun _ => fu_fX3_drawSprites_144 hσ9) (fun _ => fu_fX3_drawSprites_86 hk51 hσ9))))
theorem fu_fX3_drawSprites_51 {σ0 : zSt} : ∀ (n : Nat) (y0 : zSt) (y1 : Int32) (y2 : Int32) (y3 : Int32) (y4 : Int32) (y5 : Int32), (zQ [3, 5, 7, 9, 11, 12, 15, 17, 19, 21, 23, 25, 27, 28, 29, 30, 32, 34, 36, 40, 42, 44, 45] [] [5, 38, 46, 48] []) σ0 y0 → zpc (fX3_drawSprites_51 n y0 y1 y2 y3 y4 y5) (fun r => (zQ [3, 5, 7, 9, 11, 12, 15, 17, 19, 21, 23, 25, 27, 28, 29, 30, 32, 34, 36, 40, 42, 44, 45] [] [5, 38, 46, 48] []) σ0 (r)) := by
  intro n
  induction n with
  | zero => intro y0 y1 y2 y3 y4 y5 h; exact zpc_none
  | succ n ih => intro y0 y1 y2 y3 y4 y5 h; exact fu_fX3_drawSprites_51_body ih h
theorem fu_fX3_drawSprites_44 {σ0 : zSt} {σ : zSt} {x1 : Int32} {x2 : Int32} {s0 : Int32} (h : (zQ [3, 5, 7, 9, 11, 12, 15, 17, 19, 21, 23, 25, 27, 28, 29, 30, 32, 34, 36, 40, 42, 44, 45] [] [5, 38, 46, 48] []) σ0 σ) : zpc (fX3_drawSprites_44 σ x1 x2 s0) (fun r => (zQ [3, 5, 7, 9, 11, 12, 15, 17, 19, 21, 23, 25, 27, 28, 29, 30, 32, 34, 36, 40, 42, 44, 45] [] [5, 38, 46, 48] []) σ0 (r)) := by
  unfold fX3_drawSprites_44
  exact fu_fX3_drawSprites_51 _ _ _ _ _ _ _ h
theorem fu_fX3_drawSprites {σ0 : zSt} {σ : zSt} {x1 : Int32} (h : (zQ [3, 5, 7, 9, 11, 12, 15, 17, 19, 21, 23, 25, 27, 28, 29, 30, 32, 34, 36, 40, 42, 44, 45] [] [5, 38, 46, 48] []) σ0 σ) : zpc (fX3_drawSprites σ x1) (fun r => (zQ [3, 5, 7, 9, 11, 12, 15, 17, 19, 21, 23, 25, 27, 28, 29, 30, 32, 34, 36, 40, 42, 44, 45] [] [5, 38, 46, 48] []) σ0 (r)) := by
  unfold fX3_drawSprites
  exact zpc_bu (fu_fJ7_fill_53178_k28 h) (fun σ11 hσ11 => zpc_bi (fu_fX9_held hσ11) (fun σ12 v13 hσ12 => zpc_bv (fun v14 _ => zpc_bi (fu_fX9_height hσ12) (fun σ15 v16 hσ15 => zpc_if (fun _ => fu_fX3_drawSprites_44 hσ15) (fun _ => fu_fX3_drawSprites_44 hσ15)))))
theorem fu_fJ7_rangeCheck_23922 {σ0 : zSt} {σ : zSt} {x0 : Int32} {x1 : Int32} {x2 : Int32} (h : (zQ [3, 5, 7, 9, 11, 12, 15, 17, 19, 21, 23, 25, 27, 28, 29, 30, 32, 34, 36, 40, 42, 44, 45] [] [5, 38, 46, 48] []) σ0 σ) : zpc (fJ7_rangeCheck_23922 σ x0 x1 x2) (fun r => (zQ [3, 5, 7, 9, 11, 12, 15, 17, 19, 21, 23, 25, 27, 28, 29, 30, 32, 34, 36, 40, 42, 44, 45] [] [5, 38, 46, 48] []) σ0 (r)) := by
  unfold fJ7_rangeCheck_23922
  exact zpc_if (fun _ => zpc_if (fun _ => zpc_if (fun _ => zpc_some h) (fun _ => zpc_none)) (fun _ => zpc_none)) (fun _ => zpc_none)
theorem fu_fJ7_fill_fda19_k27_10_body {σ0 : zSt} {k10 : zSt → Int32 → Int32 → Int32 → Option (zSt)} (hk10 : ∀ (y0 : zSt) (y1 : Int32) (y2 : Int32) (y3 : Int32), (zQ [3, 5, 7, 9, 11, 12, 15, 17, 19, 21, 23, 25, 27, 28, 29, 30, 32, 34, 36, 40, 42, 44, 45] [] [5, 38, 46, 48] []) σ0 y0 → zpc (k10 y0 y1 y2 y3) (fun r => (zQ [3, 5, 7, 9, 11, 12, 15, 17, 19, 21, 23, 25, 27, 28, 29, 30, 32, 34, 36, 40, 42, 44, 45] [] [5, 38, 46, 48] []) σ0 (r))) {σ : zSt} {x2 : Int32} {x3 : Int32} {x4 : Int32} (h : (zQ [3, 5, 7, 9, 11, 12, 15, 17, 19, 21, 23, 25, 27, 28, 29, 30, 32, 34, 36, 40, 42, 44, 45] [] [5, 38, 46, 48] []) σ0 σ) : zpc (fJ7_fill_fda19_k27_10_body k10 σ x2 x3 x4) (fun r => (zQ [3, 5, 7, 9, 11, 12, 15, 17, 19, 21, 23, 25, 27, 28, 29, 30, 32, 34, 36, 40, 42, 44, 45] [] [5, 38, 46, 48] []) σ0 (r)) := by
  unfold fJ7_fill_fda19_k27_10_body
  exact zpc_if (fun _ => zpc_some h) (fun _ => zpc_ck (zpc_bs (zQ.wi h rfl) (fun σ1 hσ1 => zpc_bv (fun v2 _ => hk10 _ _ _ _ hσ1))))
theorem fu_fJ7_fill_fda19_k27_10 {σ0 : zSt} : ∀ (n : Nat) (y0 : zSt) (y1 : Int32) (y2 : Int32) (y3 : Int32), (zQ [3, 5, 7, 9, 11, 12, 15, 17, 19, 21, 23, 25, 27, 28, 29, 30, 32, 34, 36, 40, 42, 44, 45] [] [5, 38, 46, 48] []) σ0 y0 → zpc (fJ7_fill_fda19_k27_10 n y0 y1 y2 y3) (fun r => (zQ [3, 5, 7, 9, 11, 12, 15, 17, 19, 21, 23, 25, 27, 28, 29, 30, 32, 34, 36, 40, 42, 44, 45] [] [5, 38, 46, 48] []) σ0 (r)) := by
  intro n
  induction n with
  | zero => intro y0 y1 y2 y3 h; exact zpc_none
  | succ n ih => intro y0 y1 y2 y3 h; exact fu_fJ7_fill_fda19_k27_10_body ih h
theorem fu_fJ7_fill_fda19_k27 {σ0 : zSt} {σ : zSt} {x1 : Int32} {x2 : Int32} {x3 : Int32} (h : (zQ [3, 5, 7, 9, 11, 12, 15, 17, 19, 21, 23, 25, 27, 28, 29, 30, 32, 34, 36, 40, 42, 44, 45] [] [5, 38, 46, 48] []) σ0 σ) : zpc (fJ7_fill_fda19_k27 σ x1 x2 x3) (fun r => (zQ [3, 5, 7, 9, 11, 12, 15, 17, 19, 21, 23, 25, 27, 28, 29, 30, 32, 34, 36, 40, 42, 44, 45] [] [5, 38, 46, 48] []) σ0 (r)) := by
  unfold fJ7_fill_fda19_k27
  exact zpc_bu (fu_fJ7_rangeCheck_23922 h) (fun σ3 hσ3 => fu_fJ7_fill_fda19_k27_10 _ _ _ _ _ hσ3)
theorem fu_fX3_patternAt {σ0 : zSt} {σ : zSt} {x1 : Int32} {x2 : Int32} (h : (zQ [3, 5, 7, 9, 11, 12, 15, 17, 19, 21, 23, 25, 27, 28, 29, 30, 32, 34, 36, 40, 42, 44, 45] [] [5, 38, 46, 48] []) σ0 σ) : zpc (fX3_patternAt σ x1 x2) (fun r => (zQ [3, 5, 7, 9, 11, 12, 15, 17, 19, 21, 23, 25, 27, 28, 29, 30, 32, 34, 36, 40, 42, 44, 45] [] [5, 38, 46, 48] []) σ0 (r.1)) := by
  unfold fX3_patternAt
  exact zpc_bi (fu_fX9_held h) (fun σ1 v2 hσ1 => zpc_bi (fu_fX9_vramByte hσ1) (fun σ3 v4 hσ3 => zpc_some hσ3))
theorem fu_fX3_drawText_101 {σ0 : zSt} {k21 : zSt → Int32 → Int32 → Int32 → Int32 → Option (zSt)} (hk21 : ∀ (y0 : zSt) (y1 : Int32) (y2 : Int32) (y3 : Int32) (y4 : Int32), (zQ [3, 5, 7, 9, 11, 12, 15, 17, 19, 21, 23, 25, 27, 28, 29, 30, 32, 34, 36, 40, 42, 44, 45] [] [5, 38, 46, 48] []) σ0 y0 → zpc (k21 y0 y1 y2 y3 y4) (fun r => (zQ [3, 5, 7, 9, 11, 12, 15, 17, 19, 21, 23, 25, 27, 28, 29, 30, 32, 34, 36, 40, 42, 44, 45] [] [5, 38, 46, 48] []) σ0 (r))) {k56 : zSt → Int32 → Int32 → Int32 → Int32 → Int32 → Int32 → Option (zSt)} (hk56 : ∀ (y0 : zSt) (y1 : Int32) (y2 : Int32) (y3 : Int32) (y4 : Int32) (y5 : Int32) (y6 : Int32), (zQ [3, 5, 7, 9, 11, 12, 15, 17, 19, 21, 23, 25, 27, 28, 29, 30, 32, 34, 36, 40, 42, 44, 45] [] [5, 38, 46, 48] []) σ0 y0 → zpc (k56 y0 y1 y2 y3 y4 y5 y6) (fun r => (zQ [3, 5, 7, 9, 11, 12, 15, 17, 19, 21, 23, 25, 27, 28, 29, 30, 32, 34, 36, 40, 42, 44, 45] [] [5, 38, 46, 48] []) σ0 (r))) {σ : zSt} {x1 : Int32} {x2 : Int32} {x3 : Int32} {x4 : Int32} {x5 : Int32} {x6 : Int32} {s0 : Int32} {s1 : Int32} (h : (zQ [3, 5, 7, 9, 11, 12, 15, 17, 19, 21, 23, 25, 27, 28, 29, 30, 32, 34, 36, 40, 42, 44, 45] [] [5, 38, 46, 48] []) σ0 σ) : zpc (fX3_drawText_101 k21 k56 σ x1 x2 x3 x4 x5 x6 s0 s1) (fun r => (zQ [3, 5, 7, 9, 11, 12, 15, 17, 19, 21, 23, 25, 27, 28, 29, 30, 32, 34, 36, 40, 42, 44, 45] [] [5, 38, 46, 48] []) σ0 (r)) := by
  unfold fX3_drawText_101
  exact zpc_ck (zpc_bs (zQ.wi h rfl) (fun σ1 hσ1 => zpc_bv (fun v2 _ => hk56 _ _ _ _ _ _ _ hσ1)))
theorem fu_fX3_drawText_56_body {σ0 : zSt} {k21 : zSt → Int32 → Int32 → Int32 → Int32 → Option (zSt)} (hk21 : ∀ (y0 : zSt) (y1 : Int32) (y2 : Int32) (y3 : Int32) (y4 : Int32), (zQ [3, 5, 7, 9, 11, 12, 15, 17, 19, 21, 23, 25, 27, 28, 29, 30, 32, 34, 36, 40, 42, 44, 45] [] [5, 38, 46, 48] []) σ0 y0 → zpc (k21 y0 y1 y2 y3 y4) (fun r => (zQ [3, 5, 7, 9, 11, 12, 15, 17, 19, 21, 23, 25, 27, 28, 29, 30, 32, 34, 36, 40, 42, 44, 45] [] [5, 38, 46, 48] []) σ0 (r))) {k56 : zSt → Int32 → Int32 → Int32 → Int32 → Int32 → Int32 → Option (zSt)} (hk56 : ∀ (y0 : zSt) (y1 : Int32) (y2 : Int32) (y3 : Int32) (y4 : Int32) (y5 : Int32) (y6 : Int32), (zQ [3, 5, 7, 9, 11, 12, 15, 17, 19, 21, 23, 25, 27, 28, 29, 30, 32, 34, 36, 40, 42, 44, 45] [] [5, 38, 46, 48] []) σ0 y0 → zpc (k56 y0 y1 y2 y3 y4 y5 y6) (fun r => (zQ [3, 5, 7, 9, 11, 12, 15, 17, 19, 21, 23, 25, 27, 28, 29, 30, 32, 34, 36, 40, 42, 44, 45] [] [5, 38, 46, 48] []) σ0 (r))) {σ : zSt} {x1 : Int32} {x2 : Int32} {x3 : Int32} {x4 : Int32} {x5 : Int32} {x6 : Int32} (h : (zQ [3, 5, 7, 9, 11, 12, 15, 17, 19, 21, 23, 25, 27, 28, 29, 30, 32, 34, 36, 40, 42, 44, 45] [] [5, 38, 46, 48] []) σ0 σ) : zpc (fX3_drawText_56_body k21 k56 σ x1 x2 x3 x4 x5 x6) (fun r => (zQ [3, 5, 7, 9, 11, 12, 15, 17, 19, 21, 23, 25, 27, 28, 29, 30, 32, 34, 36, 40, 42, 44, 45] [] [5, 38, 46, 48] []) σ0 (r)) := by
  unfold fX3_drawText_56_body
  exact zpc_if (fun _ => zpc_bv (fun v3 _ => hk21 _ _ _ _ _ h)) (fun _ => zpc_if (fun _ => fu_fX3_drawText_101 hk21 hk56 h) (fun _ => fu_fX3_drawText_101 hk21 hk56 h))
theorem fu_fX3_drawText_56 {σ0 : zSt} {k21 : zSt → Int32 → Int32 → Int32 → Int32 → Option (zSt)} (hk21 : ∀ (y0 : zSt) (y1 : Int32) (y2 : Int32) (y3 : Int32) (y4 : Int32), (zQ [3, 5, 7, 9, 11, 12, 15, 17, 19, 21, 23, 25, 27, 28, 29, 30, 32, 34, 36, 40, 42, 44, 45] [] [5, 38, 46, 48] []) σ0 y0 → zpc (k21 y0 y1 y2 y3 y4) (fun r => (zQ [3, 5, 7, 9, 11, 12, 15, 17, 19, 21, 23, 25, 27, 28, 29, 30, 32, 34, 36, 40, 42, 44, 45] [] [5, 38, 46, 48] []) σ0 (r))) : ∀ (n : Nat) (y0 : zSt) (y1 : Int32) (y2 : Int32) (y3 : Int32) (y4 : Int32) (y5 : Int32) (y6 : Int32), (zQ [3, 5, 7, 9, 11, 12, 15, 17, 19, 21, 23, 25, 27, 28, 29, 30, 32, 34, 36, 40, 42, 44, 45] [] [5, 38, 46, 48] []) σ0 y0 → zpc (fX3_drawText_56 k21 n y0 y1 y2 y3 y4 y5 y6) (fun r => (zQ [3, 5, 7, 9, 11, 12, 15, 17, 19, 21, 23, 25, 27, 28, 29, 30, 32, 34, 36, 40, 42, 44, 45] [] [5, 38, 46, 48] []) σ0 (r)) := by
  intro n
  induction n with
  | zero => intro y0 y1 y2 y3 y4 y5 y6 h; exact zpc_none
  | succ n ih => intro y0 y1 y2 y3 y4 y5 y6 h; exact fu_fX3_drawText_56_body hk21 ih h
theorem fu_fX3_drawText_21_body {σ0 : zSt} {k21 : zSt → Int32 → Int32 → Int32 → Int32 → Option (zSt)} (hk21 : ∀ (y0 : zSt) (y1 : Int32) (y2 : Int32) (y3 : Int32) (y4 : Int32), (zQ [3, 5, 7, 9, 11, 12, 15, 17, 19, 21, 23, 25, 27, 28, 29, 30, 32, 34, 36, 40, 42, 44, 45] [] [5, 38, 46, 48] []) σ0 y0 → zpc (k21 y0 y1 y2 y3 y4) (fun r => (zQ [3, 5, 7, 9, 11, 12, 15, 17, 19, 21, 23, 25, 27, 28, 29, 30, 32, 34, 36, 40, 42, 44, 45] [] [5, 38, 46, 48] []) σ0 (r))) {σ : zSt} {x1 : Int32} {x2 : Int32} {x3 : Int32} {x4 : Int32} (h : (zQ [3, 5, 7, 9, 11, 12, 15, 17, 19, 21, 23, 25, 27, 28, 29, 30, 32, 34, 36, 40, 42, 44, 45] [] [5, 38, 46, 48] []) σ0 σ) : zpc (fX3_drawText_21_body k21 σ x1 x2 x3 x4) (fun r => (zQ [3, 5, 7, 9, 11, 12, 15, 17, 19, 21, 23, 25, 27, 28, 29, 30, 32, 34, 36, 40, 42, 44, 45] [] [5, 38, 46, 48] []) σ0 (r)) := by
  unfold fX3_drawText_21_body
  exact zpc_if (fun _ => zpc_some h) (fun _ => zpc_bi (fu_fX9_vramByte h) (fun σ4 v5 hσ4 => zpc_bi (fu_fX3_patternAt hσ4) (fun σ6 v7 hσ6 => fu_fX3_drawText_56 hk21 _ _ _ _ _ _ _ _ hσ6)))
theorem fu_fX3_drawText_21 {σ0 : zSt} : ∀ (n : Nat) (y0 : zSt) (y1 : Int32) (y2 : Int32) (y3 : Int32) (y4 : Int32), (zQ [3, 5, 7, 9, 11, 12, 15, 17, 19, 21, 23, 25, 27, 28, 29, 30, 32, 34, 36, 40, 42, 44, 45] [] [5, 38, 46, 48] []) σ0 y0 → zpc (fX3_drawText_21 n y0 y1 y2 y3 y4) (fun r => (zQ [3, 5, 7, 9, 11, 12, 15, 17, 19, 21, 23, 25, 27, 28, 29, 30, 32, 34, 36, 40, 42, 44, 45] [] [5, 38, 46, 48] []) σ0 (r)) := by
  intro n
  induction n with
  | zero => intro y0 y1 y2 y3 y4 h; exact zpc_none
  | succ n ih => intro y0 y1 y2 y3 y4 h; exact fu_fX3_drawText_21_body ih h
theorem fu_fX3_drawText {σ0 : zSt} {σ : zSt} {x1 : Int32} {x2 : Int32} (h : (zQ [3, 5, 7, 9, 11, 12, 15, 17, 19, 21, 23, 25, 27, 28, 29, 30, 32, 34, 36, 40, 42, 44, 45] [] [5, 38, 46, 48] []) σ0 σ) : zpc (fX3_drawText σ x1 x2) (fun r => (zQ [3, 5, 7, 9, 11, 12, 15, 17, 19, 21, 23, 25, 27, 28, 29, 30, 32, 34, 36, 40, 42, 44, 45] [] [5, 38, 46, 48] []) σ0 (r)) := by
  unfold fX3_drawText
  exact zpc_bi (fu_fX9_held h) (fun σ8 v9 hσ8 => zpc_bu (fu_fJ7_fill_53178_k27 hσ8) (fun σ10 hσ10 => fu_fX3_drawText_21 _ _ _ _ _ _ hσ10))
theorem fu_fX3_drawPattern_57 {σ0 : zSt} {σ : zSt} (h : (zQ [3, 5, 7, 9, 11, 12, 15, 17, 19, 21, 23, 25, 27, 28, 29, 30, 32, 34, 36, 40, 42, 44, 45] [] [5, 38, 46, 48] []) σ0 σ) : zpc (fX3_drawPattern_57 σ) (fun r => (zQ [3, 5, 7, 9, 11, 12, 15, 17, 19, 21, 23, 25, 27, 28, 29, 30, 32, 34, 36, 40, 42, 44, 45] [] [5, 38, 46, 48] []) σ0 (r)) := by
  unfold fX3_drawPattern_57
  exact zpc_some h
theorem fu_fX3_drawPattern_50 {σ0 : zSt} {k3 : zSt → Int32 → Int32 → Int32 → Int32 → Option (zSt)} (hk3 : ∀ (y0 : zSt) (y1 : Int32) (y2 : Int32) (y3 : Int32) (y4 : Int32), (zQ [3, 5, 7, 9, 11, 12, 15, 17, 19, 21, 23, 25, 27, 28, 29, 30, 32, 34, 36, 40, 42, 44, 45] [] [5, 38, 46, 48] []) σ0 y0 → zpc (k3 y0 y1 y2 y3 y4) (fun r => (zQ [3, 5, 7, 9, 11, 12, 15, 17, 19, 21, 23, 25, 27, 28, 29, 30, 32, 34, 36, 40, 42, 44, 45] [] [5, 38, 46, 48] []) σ0 (r))) {σ : zSt} {x1 : Int32} {x2 : Int32} {x3 : Int32} {x4 : Int32} {s0 : Int32} {s1 : Int32} (h : (zQ [3, 5, 7, 9, 11, 12, 15, 17, 19, 21, 23, 25, 27, 28, 29, 30, 32, 34, 36, 40, 42, 44, 45] [] [5, 38, 46, 48] []) σ0 σ) : zpc (fX3_drawPattern_50 k3 σ x1 x2 x3 x4 s0 s1) (fun r => (zQ [3, 5, 7, 9, 11, 12, 15, 17, 19, 21, 23, 25, 27, 28, 29, 30, 32, 34, 36, 40, 42, 44, 45] [] [5, 38, 46, 48] []) σ0 (r)) := by
  unfold fX3_drawPattern_50
  exact zpc_ck (zpc_bs (zQ.wi h rfl) (fun σ1 hσ1 => zpc_bv (fun v2 _ => hk3 _ _ _ _ _ hσ1)))
theorem fu_fX3_drawPattern_3_body {σ0 : zSt} {k3 : zSt → Int32 → Int32 → Int32 → Int32 → Option (zSt)} (hk3 : ∀ (y0 : zSt) (y1 : Int32) (y2 : Int32) (y3 : Int32) (y4 : Int32), (zQ [3, 5, 7, 9, 11, 12, 15, 17, 19, 21, 23, 25, 27, 28, 29, 30, 32, 34, 36, 40, 42, 44, 45] [] [5, 38, 46, 48] []) σ0 y0 → zpc (k3 y0 y1 y2 y3 y4) (fun r => (zQ [3, 5, 7, 9, 11, 12, 15, 17, 19, 21, 23, 25, 27, 28, 29, 30, 32, 34, 36, 40, 42, 44, 45] [] [5, 38, 46, 48] []) σ0 (r))) {σ : zSt} {x1 : Int32} {x2 : Int32} {x3 : Int32} {x4 : Int32} (h : (zQ [3, 5, 7, 9, 11, 12, 15, 17, 19, 21, 23, 25, 27, 28, 29, 30, 32, 34, 36, 40, 42, 44, 45] [] [5, 38, 46, 48] []) σ0 σ) : zpc (fX3_drawPattern_3_body k3 σ x1 x2 x3 x4) (fun r => (zQ [3, 5, 7, 9, 11, 12, 15, 17, 19, 21, 23, 25, 27, 28, 29, 30, 32, 34, 36, 40, 42, 44, 45] [] [5, 38, 46, 48] []) σ0 (r)) := by
  unfold fX3_drawPattern_3_body
  exact zpc_if (fun _ => fu_fX3_drawPattern_57 h) (fun _ => zpc_if (fun _ => fu_fX3_drawPattern_57 h) (fun _ => zpc_if (fun _ => fu_fX3_drawPattern_50 hk3 h) (fun _ => fu_fX3_drawPattern_50 hk3 h)))
theorem fu_fX3_drawPattern_3 {σ0 : zSt} : ∀ (n : Nat) (y0 : zSt) (y1 : Int32) (y2 : Int32) (y3 : Int32) (y4 : Int32), (zQ [3, 5, 7, 9, 11, 12, 15, 17, 19, 21, 23, 25, 27, 28, 29, 30, 32, 34, 36, 40, 42, 44, 45] [] [5, 38, 46, 48] []) σ0 y0 → zpc (fX3_drawPattern_3 n y0 y1 y2 y3 y4) (fun r => (zQ [3, 5, 7, 9, 11, 12, 15, 17, 19, 21, 23, 25, 27, 28, 29, 30, 32, 34, 36, 40, 42, 44, 45] [] [5, 38, 46, 48] []) σ0 (r)) := by
  intro n
  induction n with
  | zero => intro y0 y1 y2 y3 y4 h; exact zpc_none
  | succ n ih => intro y0 y1 y2 y3 y4 h; exact fu_fX3_drawPattern_3_body ih h
theorem fu_fX3_drawPattern {σ0 : zSt} {σ : zSt} {x1 : Int32} {x2 : Int32} {x3 : Int32} (h : (zQ [3, 5, 7, 9, 11, 12, 15, 17, 19, 21, 23, 25, 27, 28, 29, 30, 32, 34, 36, 40, 42, 44, 45] [] [5, 38, 46, 48] []) σ0 σ) : zpc (fX3_drawPattern σ x1 x2 x3) (fun r => (zQ [3, 5, 7, 9, 11, 12, 15, 17, 19, 21, 23, 25, 27, 28, 29, 30, 32, 34, 36, 40, 42, 44, 45] [] [5, 38, 46, 48] []) σ0 (r)) := by
  unfold fX3_drawPattern
  exact fu_fX3_drawPattern_3 _ _ _ _ _ _ h
theorem fu_fX3_drawBlocks {σ0 : zSt} {σ : zSt} {x1 : Int32} {x2 : Int32} {x3 : Int32} (h : (zQ [3, 5, 7, 9, 11, 12, 15, 17, 19, 21, 23, 25, 27, 28, 29, 30, 32, 34, 36, 40, 42, 44, 45] [] [5, 38, 46, 48] []) σ0 σ) : zpc (fX3_drawBlocks σ x1 x2 x3) (fun r => (zQ [3, 5, 7, 9, 11, 12, 15, 17, 19, 21, 23, 25, 27, 28, 29, 30, 32, 34, 36, 40, 42, 44, 45] [] [5, 38, 46, 48] []) σ0 (r)) := by
  unfold fX3_drawBlocks
  exact zpc_bi (fu_fX9_held h) (fun σ1 v2 hσ1 => zpc_bv (fun v3 _ => zpc_bi (fu_fX9_vramByte hσ1) (fun σ4 v5 hσ4 => zpc_bu (fu_fX3_drawPattern hσ4) (fun σ6 hσ6 => zpc_some hσ6))))
theorem fu_fX3_drawThird {σ0 : zSt} {σ : zSt} {x1 : Int32} {x2 : Int32} {x3 : Int32} (h : (zQ [3, 5, 7, 9, 11, 12, 15, 17, 19, 21, 23, 25, 27, 28, 29, 30, 32, 34, 36, 40, 42, 44, 45] [] [5, 38, 46, 48] []) σ0 σ) : zpc (fX3_drawThird σ x1 x2 x3) (fun r => (zQ [3, 5, 7, 9, 11, 12, 15, 17, 19, 21, 23, 25, 27, 28, 29, 30, 32, 34, 36, 40, 42, 44, 45] [] [5, 38, 46, 48] []) σ0 (r)) := by
  unfold fX3_drawThird
  exact zpc_bi (fu_fX9_held h) (fun σ1 v2 hσ1 => zpc_bi (fu_fX9_held hσ1) (fun σ3 v4 hσ3 => zpc_bv (fun v5 _ => zpc_bv (fun v6 _ => zpc_bi (fu_fX9_vramByte hσ3) (fun σ7 v8 hσ7 => zpc_bi (fu_fX9_vramByte hσ7) (fun σ9 v10 hσ9 => zpc_bu (fu_fX3_drawPattern hσ9) (fun σ11 hσ11 => zpc_some hσ11)))))))
theorem fu_fX3_drawOld_165 {σ0 : zSt} {k31 : zSt → Int32 → Int32 → Int32 → Int32 → Option (zSt)} (hk31 : ∀ (y0 : zSt) (y1 : Int32) (y2 : Int32) (y3 : Int32) (y4 : Int32), (zQ [3, 5, 7, 9, 11, 12, 15, 17, 19, 21, 23, 25, 27, 28, 29, 30, 32, 34, 36, 40, 42, 44, 45] [] [5, 38, 46, 48] []) σ0 y0 → zpc (k31 y0 y1 y2 y3 y4) (fun r => (zQ [3, 5, 7, 9, 11, 12, 15, 17, 19, 21, 23, 25, 27, 28, 29, 30, 32, 34, 36, 40, 42, 44, 45] [] [5, 38, 46, 48] []) σ0 (r))) {σ : zSt} {x1 : Int32} {x2 : Int32} {x3 : Int32} {x4 : Int32} (h : (zQ [3, 5, 7, 9, 11, 12, 15, 17, 19, 21, 23, 25, 27, 28, 29, 30, 32, 34, 36, 40, 42, 44, 45] [] [5, 38, 46, 48] []) σ0 σ) : zpc (fX3_drawOld_165 k31 σ x1 x2 x3 x4) (fun r => (zQ [3, 5, 7, 9, 11, 12, 15, 17, 19, 21, 23, 25, 27, 28, 29, 30, 32, 34, 36, 40, 42, 44, 45] [] [5, 38, 46, 48] []) σ0 (r)) := by
  unfold fX3_drawOld_165
  exact zpc_bv (fun v1 _ => hk31 _ _ _ _ _ h)
theorem fu_fX3_drawOld_31_body {σ0 : zSt} {k31 : zSt → Int32 → Int32 → Int32 → Int32 → Option (zSt)} (hk31 : ∀ (y0 : zSt) (y1 : Int32) (y2 : Int32) (y3 : Int32) (y4 : Int32), (zQ [3, 5, 7, 9, 11, 12, 15, 17, 19, 21, 23, 25, 27, 28, 29, 30, 32, 34, 36, 40, 42, 44, 45] [] [5, 38, 46, 48] []) σ0 y0 → zpc (k31 y0 y1 y2 y3 y4) (fun r => (zQ [3, 5, 7, 9, 11, 12, 15, 17, 19, 21, 23, 25, 27, 28, 29, 30, 32, 34, 36, 40, 42, 44, 45] [] [5, 38, 46, 48] []) σ0 (r))) {σ : zSt} {x1 : Int32} {x2 : Int32} {x3 : Int32} {x4 : Int32} (h : (zQ [3, 5, 7, 9, 11, 12, 15, 17, 19, 21, 23, 25, 27, 28, 29, 30, 32, 34, 36, 40, 42, 44, 45] [] [5, 38, 46, 48] []) σ0 σ) : zpc (fX3_drawOld_31_body k31 σ x1 x2 x3 x4) (fun r => (zQ [3, 5, 7, 9, 11, 12, 15, 17, 19, 21, 23, 25, 27, 28, 29, 30, 32, 34, 36, 40, 42, 44, 45] [] [5, 38, 46, 48] []) σ0 (r)) := by
  unfold fX3_drawOld_31_body
  exact zpc_if (fun _ => zpc_some h) (fun _ => zpc_bi (fu_fX9_vramByte h) (fun σ2 v3 hσ2 => zpc_if (fun _ => zpc_bi (fu_fX3_patternAt hσ2) (fun σ4 v5 hσ4 => zpc_bi (fu_fX9_held hσ4) (fun σ6 v7 hσ6 => zpc_bi (fu_fX9_vramByte hσ6) (fun σ8 v9 hσ8 => zpc_bu (fu_fX3_drawPattern hσ8) (fun σ10 hσ10 => fu_fX3_drawOld_165 hk31 hσ10))))) (fun _ => zpc_if (fun _ => zpc_bu (fu_fX3_drawThird hσ2) (fun σ11 hσ11 => fu_fX3_drawOld_165 hk31 hσ11)) (fun _ => zpc_bu (fu_fX3_drawBlocks hσ2) (fun σ12 hσ12 => fu_fX3_drawOld_165 hk31 hσ12)))))
theorem fu_fX3_drawOld_31 {σ0 : zSt} : ∀ (n : Nat) (y0 : zSt) (y1 : Int32) (y2 : Int32) (y3 : Int32) (y4 : Int32), (zQ [3, 5, 7, 9, 11, 12, 15, 17, 19, 21, 23, 25, 27, 28, 29, 30, 32, 34, 36, 40, 42, 44, 45] [] [5, 38, 46, 48] []) σ0 y0 → zpc (fX3_drawOld_31 n y0 y1 y2 y3 y4) (fun r => (zQ [3, 5, 7, 9, 11, 12, 15, 17, 19, 21, 23, 25, 27, 28, 29, 30, 32, 34, 36, 40, 42, 44, 45] [] [5, 38, 46, 48] []) σ0 (r)) := by
  intro n
  induction n with
  | zero => intro y0 y1 y2 y3 y4 h; exact zpc_none
  | succ n ih => intro y0 y1 y2 y3 y4 h; exact fu_fX3_drawOld_31_body ih h
theorem fu_fX3_drawOld {σ0 : zSt} {σ : zSt} {x1 : Int32} {x2 : Int32} (h : (zQ [3, 5, 7, 9, 11, 12, 15, 17, 19, 21, 23, 25, 27, 28, 29, 30, 32, 34, 36, 40, 42, 44, 45] [] [5, 38, 46, 48] []) σ0 σ) : zpc (fX3_drawOld σ x1 x2) (fun r => (zQ [3, 5, 7, 9, 11, 12, 15, 17, 19, 21, 23, 25, 27, 28, 29, 30, 32, 34, 36, 40, 42, 44, 45] [] [5, 38, 46, 48] []) σ0 (r)) := by
  unfold fX3_drawOld
  exact zpc_bi (fu_fX9_held h) (fun σ13 v14 hσ13 => zpc_bv (fun v15 _ => zpc_if (fun _ => zpc_bu (fu_fX3_drawText hσ13) (fun σ16 hσ16 => zpc_some hσ16)) (fun _ => fu_fX3_drawOld_31 _ _ _ _ _ _ hσ13)))
theorem fu_fX9_markFifth_39 {σ0 : zSt} {σ : zSt} (h : (zQ [3, 5, 7, 9, 11, 12, 15, 17, 19, 21, 23, 25, 27, 28, 29, 30, 32, 34, 36, 40, 42, 44, 45] [] [5, 38, 46, 48] []) σ0 σ) : zpc (fX9_markFifth_39 σ) (fun r => (zQ [3, 5, 7, 9, 11, 12, 15, 17, 19, 21, 23, 25, 27, 28, 29, 30, 32, 34, 36, 40, 42, 44, 45] [] [5, 38, 46, 48] []) σ0 (r)) := by
  unfold fX9_markFifth_39
  exact zpc_some h
theorem fu_fX9_markFifth {σ0 : zSt} {σ : zSt} {x1 : Int32} (h : (zQ [3, 5, 7, 9, 11, 12, 15, 17, 19, 21, 23, 25, 27, 28, 29, 30, 32, 34, 36, 40, 42, 44, 45] [] [5, 38, 46, 48] []) σ0 σ) : zpc (fX9_markFifth σ x1) (fun r => (zQ [3, 5, 7, 9, 11, 12, 15, 17, 19, 21, 23, 25, 27, 28, 29, 30, 32, 34, 36, 40, 42, 44, 45] [] [5, 38, 46, 48] []) σ0 (r)) := by
  unfold fX9_markFifth
  exact zpc_ck (zpc_if (fun _ => zpc_ck (zpc_ck (zpc_bs (zQ.wi h rfl) (fun σ1 hσ1 => fu_fX9_markFifth_39 hσ1)))) (fun _ => fu_fX9_markFifth_39 h))
theorem fu_fX3_takeDot_41 {σ0 : zSt} {σ : zSt} (h : (zQ [3, 5, 7, 9, 11, 12, 15, 17, 19, 21, 23, 25, 27, 28, 29, 30, 32, 34, 36, 40, 42, 44, 45] [] [5, 38, 46, 48] []) σ0 σ) : zpc (fX3_takeDot_41 σ) (fun r => (zQ [3, 5, 7, 9, 11, 12, 15, 17, 19, 21, 23, 25, 27, 28, 29, 30, 32, 34, 36, 40, 42, 44, 45] [] [5, 38, 46, 48] []) σ0 (r)) := by
  unfold fX3_takeDot_41
  exact zpc_some h
theorem fu_fX3_takeDot_18 {σ0 : zSt} {σ : zSt} {x1 : Int32} {x2 : Int32} (h : (zQ [3, 5, 7, 9, 11, 12, 15, 17, 19, 21, 23, 25, 27, 28, 29, 30, 32, 34, 36, 40, 42, 44, 45] [] [5, 38, 46, 48] []) σ0 σ) : zpc (fX3_takeDot_18 σ x1 x2) (fun r => (zQ [3, 5, 7, 9, 11, 12, 15, 17, 19, 21, 23, 25, 27, 28, 29, 30, 32, 34, 36, 40, 42, 44, 45] [] [5, 38, 46, 48] []) σ0 (r)) := by
  unfold fX3_takeDot_18
  exact zpc_ck (zpc_if (fun _ => zpc_ck (zpc_bs (zQ.wi h rfl) (fun σ1 hσ1 => fu_fX3_takeDot_41 hσ1))) (fun _ => fu_fX3_takeDot_41 h))
theorem fu_fX3_takeDot {σ0 : zSt} {σ : zSt} {x1 : Int32} {x2 : Int32} (h : (zQ [3, 5, 7, 9, 11, 12, 15, 17, 19, 21, 23, 25, 27, 28, 29, 30, 32, 34, 36, 40, 42, 44, 45] [] [5, 38, 46, 48] []) σ0 σ) : zpc (fX3_takeDot σ x1 x2) (fun r => (zQ [3, 5, 7, 9, 11, 12, 15, 17, 19, 21, 23, 25, 27, 28, 29, 30, 32, 34, 36, 40, 42, 44, 45] [] [5, 38, 46, 48] []) σ0 (r)) := by
  unfold fX3_takeDot
  exact zpc_ck (zpc_if (fun _ => fu_fX3_takeDot_18 h) (fun _ => zpc_bu (fu_fX9_mark h) (fun σ2 hσ2 => fu_fX3_takeDot_18 hσ2)))
theorem fu_fX3_drawOldSprite_224 {σ0 : zSt} {k158 : zSt → Int32 → Int32 → Int32 → Int32 → Int32 → Int32 → Option (zSt)} (hk158 : ∀ (y0 : zSt) (y1 : Int32) (y2 : Int32) (y3 : Int32) (y4 : Int32) (y5 : Int32) (y6 : Int32), (zQ [3, 5, 7, 9, 11, 12, 15, 17, 19, 21, 23, 25, 27, 28, 29, 30, 32, 34, 36, 40, 42, 44, 45] [] [5, 38, 46, 48] []) σ0 y0 → zpc (k158 y0 y1 y2 y3 y4 y5 y6) (fun r => (zQ [3, 5, 7, 9, 11, 12, 15, 17, 19, 21, 23, 25, 27, 28, 29, 30, 32, 34, 36, 40, 42, 44, 45] [] [5, 38, 46, 48] []) σ0 (r))) {σ : zSt} {x3 : Int32} {x4 : Int32} {x7 : Int32} {x8 : Int32} {x10 : Int32} {x11 : Int32} (h : (zQ [3, 5, 7, 9, 11, 12, 15, 17, 19, 21, 23, 25, 27, 28, 29, 30, 32, 34, 36, 40, 42, 44, 45] [] [5, 38, 46, 48] []) σ0 σ) : zpc (fX3_drawOldSprite_224 k158 σ x3 x4 x7 x8 x10 x11) (fun r => (zQ [3, 5, 7, 9, 11, 12, 15, 17, 19, 21, 23, 25, 27, 28, 29, 30, 32, 34, 36, 40, 42, 44, 45] [] [5, 38, 46, 48] []) σ0 (r)) := by
  unfold fX3_drawOldSprite_224
  exact zpc_bv (fun v1 _ => hk158 _ _ _ _ _ _ _ h)
theorem fu_fX3_drawOldSprite_172 {σ0 : zSt} {k158 : zSt → Int32 → Int32 → Int32 → Int32 → Int32 → Int32 → Option (zSt)} (hk158 : ∀ (y0 : zSt) (y1 : Int32) (y2 : Int32) (y3 : Int32) (y4 : Int32) (y5 : Int32) (y6 : Int32), (zQ [3, 5, 7, 9, 11, 12, 15, 17, 19, 21, 23, 25, 27, 28, 29, 30, 32, 34, 36, 40, 42, 44, 45] [] [5, 38, 46, 48] []) σ0 y0 → zpc (k158 y0 y1 y2 y3 y4 y5 y6) (fun r => (zQ [3, 5, 7, 9, 11, 12, 15, 17, 19, 21, 23, 25, 27, 28, 29, 30, 32, 34, 36, 40, 42, 44, 45] [] [5, 38, 46, 48] []) σ0 (r))) {σ : zSt} {x3 : Int32} {x4 : Int32} {x7 : Int32} {x8 : Int32} {x10 : Int32} {x11 : Int32} {s0 : Int32} {s1 : Int32} (h : (zQ [3, 5, 7, 9, 11, 12, 15, 17, 19, 21, 23, 25, 27, 28, 29, 30, 32, 34, 36, 40, 42, 44, 45] [] [5, 38, 46, 48] []) σ0 σ) : zpc (fX3_drawOldSprite_172 k158 σ x3 x4 x7 x8 x10 x11 s0 s1) (fun r => (zQ [3, 5, 7, 9, 11, 12, 15, 17, 19, 21, 23, 25, 27, 28, 29, 30, 32, 34, 36, 40, 42, 44, 45] [] [5, 38, 46, 48] []) σ0 (r)) := by
  unfold fX3_drawOldSprite_172
  exact zpc_if (fun _ => zpc_some h) (fun _ => zpc_bv (fun v2 _ => zpc_if (fun _ => fu_fX3_drawOldSprite_224 hk158 h) (fun _ => zpc_if (fun _ => fu_fX3_drawOldSprite_224 hk158 h) (fun _ => zpc_if (fun _ => fu_fX3_drawOldSprite_224 hk158 h) (fun _ => zpc_bu (fu_fX3_takeDot h) (fun σ3 hσ3 => fu_fX3_drawOldSprite_224 hk158 hσ3))))))
theorem fu_fX3_drawOldSprite_158_body {σ0 : zSt} {k158 : zSt → Int32 → Int32 → Int32 → Int32 → Int32 → Int32 → Option (zSt)} (hk158 : ∀ (y0 : zSt) (y1 : Int32) (y2 : Int32) (y3 : Int32) (y4 : Int32) (y5 : Int32) (y6 : Int32), (zQ [3, 5, 7, 9, 11, 12, 15, 17, 19, 21, 23, 25, 27, 28, 29, 30, 32, 34, 36, 40, 42, 44, 45] [] [5, 38, 46, 48] []) σ0 y0 → zpc (k158 y0 y1 y2 y3 y4 y5 y6) (fun r => (zQ [3, 5, 7, 9, 11, 12, 15, 17, 19, 21, 23, 25, 27, 28, 29, 30, 32, 34, 36, 40, 42, 44, 45] [] [5, 38, 46, 48] []) σ0 (r))) {σ : zSt} {x3 : Int32} {x4 : Int32} {x7 : Int32} {x8 : Int32} {x10 : Int32} {x11 : Int32} (h : (zQ [3, 5, 7, 9, 11, 12, 15, 17, 19, 21, 23, 25, 27, 28, 29, 30, 32, 34, 36, 40, 42, 44, 45] [] [5, 38, 46, 48] []) σ0 σ) : zpc (fX3_drawOldSprite_158_body k158 σ x3 x4 x7 x8 x10 x11) (fun r => (zQ [3, 5, 7, 9, 11, 12, 15, 17, 19, 21, 23, 25, 27, 28, 29, 30, 32, 34, 36, 40, 42, 44, 45] [] [5, 38, 46, 48] []) σ0 (r)) := by
  unfold fX3_drawOldSprite_158_body
  exact zpc_if (fun _ => fu_fX3_drawOldSprite_172 hk158 h) (fun _ => fu_fX3_drawOldSprite_172 hk158 h)
theorem fu_fX3_drawOldSprite_158 {σ0 : zSt} : ∀ (n : Nat) (y0 : zSt) (y1 : Int32) (y2 : Int32) (y3 : Int32) (y4 : Int32) (y5 : Int32) (y6 : Int32), (zQ [3, 5, 7, 9, 11, 12, 15, 17, 19, 21, 23, 25, 27, 28, 29, 30, 32, 34, 36, 40, 42, 44, 45] [] [5, 38, 46, 48] []) σ0 y0 → zpc (fX3_drawOldSprite_158 n y0 y1 y2 y3 y4 y5 y6) (fun r => (zQ [3, 5, 7, 9, 11, 12, 15, 17, 19, 21, 23, 25, 27, 28, 29, 30, 32, 34, 36, 40, 42, 44, 45] [] [5, 38, 46, 48] []) σ0 (r)) := by
  intro n
  induction n with
  | zero => intro y0 y1 y2 y3 y4 y5 y6 h; exact zpc_none
  | succ n ih => intro y0 y1 y2 y3 y4 y5 y6 h; exact fu_fX3_drawOldSprite_158_body ih h
theorem fu_fX3_drawOldSprite_152 {σ0 : zSt} {σ : zSt} {x3 : Int32} {x4 : Int32} {x7 : Int32} {x8 : Int32} {s0 : Int32} {s1 : Int32} (h : (zQ [3, 5, 7, 9, 11, 12, 15, 17, 19, 21, 23, 25, 27, 28, 29, 30, 32, 34, 36, 40, 42, 44, 45] [] [5, 38, 46, 48] []) σ0 σ) : zpc (fX3_drawOldSprite_152 σ x3 x4 x7 x8 s0 s1) (fun r => (zQ [3, 5, 7, 9, 11, 12, 15, 17, 19, 21, 23, 25, 27, 28, 29, 30, 32, 34, 36, 40, 42, 44, 45] [] [5, 38, 46, 48] []) σ0 (r)) := by
  unfold fX3_drawOldSprite_152
  exact zpc_bv (fun v4 _ => fu_fX3_drawOldSprite_158 _ _ _ _ _ _ _ _ h)
theorem fu_fX3_drawOldSprite_113 {σ0 : zSt} {σ : zSt} {x2 : Int32} {x3 : Int32} {x4 : Int32} {x7 : Int32} {x8 : Int32} {s0 : Int32} {s1 : Int32} {s2 : Int32} (h : (zQ [3, 5, 7, 9, 11, 12, 15, 17, 19, 21, 23, 25, 27, 28, 29, 30, 32, 34, 36, 40, 42, 44, 45] [] [5, 38, 46, 48] []) σ0 σ) : zpc (fX3_drawOldSprite_113 σ x2 x3 x4 x7 x8 s0 s1 s2) (fun r => (zQ [3, 5, 7, 9, 11, 12, 15, 17, 19, 21, 23, 25, 27, 28, 29, 30, 32, 34, 36, 40, 42, 44, 45] [] [5, 38, 46, 48] []) σ0 (r)) := by
  unfold fX3_drawOldSprite_113
  exact zpc_bv (fun v5 _ => zpc_bi (fu_fX9_vramByte h) (fun σ6 v7 hσ6 => zpc_if (fun _ => fu_fX3_drawOldSprite_152 hσ6) (fun _ => zpc_bi (fu_fX9_vramByte hσ6) (fun σ8 v9 hσ8 => fu_fX3_drawOldSprite_152 hσ8))))
theorem fu_fX3_drawOldSprite_78 {σ0 : zSt} {σ : zSt} {x2 : Int32} {x3 : Int32} {x4 : Int32} {x5 : Int32} {x7 : Int32} {s0 : Int32} (h : (zQ [3, 5, 7, 9, 11, 12, 15, 17, 19, 21, 23, 25, 27, 28, 29, 30, 32, 34, 36, 40, 42, 44, 45] [] [5, 38, 46, 48] []) σ0 σ) : zpc (fX3_drawOldSprite_78 σ x2 x3 x4 x5 x7 s0) (fun r => (zQ [3, 5, 7, 9, 11, 12, 15, 17, 19, 21, 23, 25, 27, 28, 29, 30, 32, 34, 36, 40, 42, 44, 45] [] [5, 38, 46, 48] []) σ0 (r)) := by
  unfold fX3_drawOldSprite_78
  exact zpc_bi (fu_fX9_held h) (fun σ10 v11 hσ10 => zpc_if (fun _ => fu_fX3_drawOldSprite_113 hσ10) (fun _ => fu_fX3_drawOldSprite_113 hσ10))
theorem fu_fX3_drawOldSprite_35 {σ0 : zSt} {σ : zSt} {x1 : Int32} {x2 : Int32} {x3 : Int32} {s0 : Int32} {s1 : Int32} (h : (zQ [3, 5, 7, 9, 11, 12, 15, 17, 19, 21, 23, 25, 27, 28, 29, 30, 32, 34, 36, 40, 42, 44, 45] [] [5, 38, 46, 48] []) σ0 σ) : zpc (fX3_drawOldSprite_35 σ x1 x2 x3 s0 s1) (fun r => (zQ [3, 5, 7, 9, 11, 12, 15, 17, 19, 21, 23, 25, 27, 28, 29, 30, 32, 34, 36, 40, 42, 44, 45] [] [5, 38, 46, 48] []) σ0 (r)) := by
  unfold fX3_drawOldSprite_35
  exact zpc_bv (fun v12 _ => zpc_bi (fu_fX9_vramByte h) (fun σ13 v14 hσ13 => zpc_bi (fu_fX9_held hσ13) (fun σ15 v16 hσ15 => zpc_bv (fun v17 _ => zpc_if (fun _ => fu_fX3_drawOldSprite_78 hσ15) (fun _ => fu_fX3_drawOldSprite_78 hσ15)))))
theorem fu_fX3_drawOldSprite {σ0 : zSt} {σ : zSt} {x1 : Int32} {x2 : Int32} (h : (zQ [3, 5, 7, 9, 11, 12, 15, 17, 19, 21, 23, 25, 27, 28, 29, 30, 32, 34, 36, 40, 42, 44, 45] [] [5, 38, 46, 48] []) σ0 σ) : zpc (fX3_drawOldSprite σ x1 x2) (fun r => (zQ [3, 5, 7, 9, 11, 12, 15, 17, 19, 21, 23, 25, 27, 28, 29, 30, 32, 34, 36, 40, 42, 44, 45] [] [5, 38, 46, 48] []) σ0 (r)) := by
  unfold fX3_drawOldSprite
  exact zpc_bi (fu_fX9_vramByte h) (fun σ18 v19 hσ18 => zpc_bi (fu_fX9_vramByte hσ18) (fun σ20 v21 hσ20 => zpc_if (fun _ => fu_fX3_drawOldSprite_35 hσ20) (fun _ => fu_fX3_drawOldSprite_35 hσ20)))
theorem fu_fX3_drawOldSprites_155 {σ0 : zSt} {k117 : zSt → Int32 → Option (zSt)} (hk117 : ∀ (y0 : zSt) (y1 : Int32), (zQ [3, 5, 7, 9, 11, 12, 15, 17, 19, 21, 23, 25, 27, 28, 29, 30, 32, 34, 36, 40, 42, 44, 45] [] [5, 38, 46, 48] []) σ0 y0 → zpc (k117 y0 y1) (fun r => (zQ [3, 5, 7, 9, 11, 12, 15, 17, 19, 21, 23, 25, 27, 28, 29, 30, 32, 34, 36, 40, 42, 44, 45] [] [5, 38, 46, 48] []) σ0 (r))) {σ : zSt} {x4 : Int32} (h : (zQ [3, 5, 7, 9, 11, 12, 15, 17, 19, 21, 23, 25, 27, 28, 29, 30, 32, 34, 36, 40, 42, 44, 45] [] [5, 38, 46, 48] []) σ0 σ) : zpc (fX3_drawOldSprites_155 k117 σ x4) (fun r => (zQ [3, 5, 7, 9, 11, 12, 15, 17, 19, 21, 23, 25, 27, 28, 29, 30, 32, 34, 36, 40, 42, 44, 45] [] [5, 38, 46, 48] []) σ0 (r)) := by
  unfold fX3_drawOldSprites_155
  exact zpc_bv (fun v1 _ => hk117 _ _ h)
theorem fu_fX3_drawOldSprites_117_body {σ0 : zSt} {k117 : zSt → Int32 → Option (zSt)} (hk117 : ∀ (y0 : zSt) (y1 : Int32), (zQ [3, 5, 7, 9, 11, 12, 15, 17, 19, 21, 23, 25, 27, 28, 29, 30, 32, 34, 36, 40, 42, 44, 45] [] [5, 38, 46, 48] []) σ0 y0 → zpc (k117 y0 y1) (fun r => (zQ [3, 5, 7, 9, 11, 12, 15, 17, 19, 21, 23, 25, 27, 28, 29, 30, 32, 34, 36, 40, 42, 44, 45] [] [5, 38, 46, 48] []) σ0 (r))) {σ : zSt} {x4 : Int32} (h : (zQ [3, 5, 7, 9, 11, 12, 15, 17, 19, 21, 23, 25, 27, 28, 29, 30, 32, 34, 36, 40, 42, 44, 45] [] [5, 38, 46, 48] []) σ0 σ) : zpc (fX3_drawOldSprites_117_body k117 σ x4) (fun r => (zQ [3, 5, 7, 9, 11, 12, 15, 17, 19, 21, 23, 25, 27, 28, 29, 30, 32, 34, 36, 40, 42, 44, 45] [] [5, 38, 46, 48] []) σ0 (r)) := by
  unfold fX3_drawOldSprites_117_body
  exact zpc_if (fun _ => zpc_some h) (fun _ => zpc_ck (zpc_if (fun _ => fu_fX3_drawOldSprites_155 hk117 h) (fun _ => zpc_ck (zpc_ck (zpc_bs (zQ.wi h rfl) (fun σ2 hσ2 => fu_fX3_drawOldSprites_155 hk117 hσ2))))))
theorem fu_fX3_drawOldSprites_117 {σ0 : zSt} : ∀ (n : Nat) (y0 : zSt) (y1 : Int32), (zQ [3, 5, 7, 9, 11, 12, 15, 17, 19, 21, 23, 25, 27, 28, 29, 30, 32, 34, 36, 40, 42, 44, 45] [] [5, 38, 46, 48] []) σ0 y0 → zpc (fX3_drawOldSprites_117 n y0 y1) (fun r => (zQ [3, 5, 7, 9, 11, 12, 15, 17, 19, 21, 23, 25, 27, 28, 29, 30, 32, 34, 36, 40, 42, 44, 45] [] [5, 38, 46, 48] []) σ0 (r)) := by
  intro n
  induction n with
  | zero => intro y0 y1 h; exact zpc_none
  | succ n ih => intro y0 y1 h; exact fu_fX3_drawOldSprites_117_body ih h
theorem fu_fX3_drawOldSprites_114 {σ0 : zSt} {σ : zSt} (h : (zQ [3, 5, 7, 9, 11, 12, 15, 17, 19, 21, 23, 25, 27, 28, 29, 30, 32, 34, 36, 40, 42, 44, 45] [] [5, 38, 46, 48] []) σ0 σ) : zpc (fX3_drawOldSprites_114 σ) (fun r => (zQ [3, 5, 7, 9, 11, 12, 15, 17, 19, 21, 23, 25, 27, 28, 29, 30, 32, 34, 36, 40, 42, 44, 45] [] [5, 38, 46, 48] []) σ0 (r)) := by
  unfold fX3_drawOldSprites_114
  exact fu_fX3_drawOldSprites_117 _ _ _ h
theorem fu_fX3_drawOldSprites_108 {σ0 : zSt} {k29 : zSt → Int32 → Int32 → Int32 → Int32 → Option (zSt)} (hk29 : ∀ (y0 : zSt) (y1 : Int32) (y2 : Int32) (y3 : Int32) (y4 : Int32), (zQ [3, 5, 7, 9, 11, 12, 15, 17, 19, 21, 23, 25, 27, 28, 29, 30, 32, 34, 36, 40, 42, 44, 45] [] [5, 38, 46, 48] []) σ0 y0 → zpc (k29 y0 y1 y2 y3 y4) (fun r => (zQ [3, 5, 7, 9, 11, 12, 15, 17, 19, 21, 23, 25, 27, 28, 29, 30, 32, 34, 36, 40, 42, 44, 45] [] [5, 38, 46, 48] []) σ0 (r))) {σ : zSt} {x1 : Int32} {x2 : Int32} {x3 : Int32} {x4 : Int32} (h : (zQ [3, 5, 7, 9, 11, 12, 15, 17, 19, 21, 23, 25, 27, 28, 29, 30, 32, 34, 36, 40, 42, 44, 45] [] [5, 38, 46, 48] []) σ0 σ) : zpc (fX3_drawOldSprites_108 k29 σ x1 x2 x3 x4) (fun r => (zQ [3, 5, 7, 9, 11, 12, 15, 17, 19, 21, 23, 25, 27, 28, 29, 30, 32, 34, 36, 40, 42, 44, 45] [] [5, 38, 46, 48] []) σ0 (r)) := by
  unfold fX3_drawOldSprites_108
  exact zpc_bv (fun v3 _ => hk29 _ _ _ _ _ h)
theorem fu_fX3_drawOldSprites_29_body {σ0 : zSt} {k29 : zSt → Int32 → Int32 → Int32 → Int32 → Option (zSt)} (hk29 : ∀ (y0 : zSt) (y1 : Int32) (y2 : Int32) (y3 : Int32) (y4 : Int32), (zQ [3, 5, 7, 9, 11, 12, 15, 17, 19, 21, 23, 25, 27, 28, 29, 30, 32, 34, 36, 40, 42, 44, 45] [] [5, 38, 46, 48] []) σ0 y0 → zpc (k29 y0 y1 y2 y3 y4) (fun r => (zQ [3, 5, 7, 9, 11, 12, 15, 17, 19, 21, 23, 25, 27, 28, 29, 30, 32, 34, 36, 40, 42, 44, 45] [] [5, 38, 46, 48] []) σ0 (r))) {σ : zSt} {x1 : Int32} {x2 : Int32} {x3 : Int32} {x4 : Int32} (h : (zQ [3, 5, 7, 9, 11, 12, 15, 17, 19, 21, 23, 25, 27, 28, 29, 30, 32, 34, 36, 40, 42, 44, 45] [] [5, 38, 46, 48] []) σ0 σ) : zpc (fX3_drawOldSprites_29_body k29 σ x1 x2 x3 x4) (fun r => (zQ [3, 5, 7, 9, 11, 12, 15, 17, 19, 21, 23, 25, 27, 28, 29, 30, 32, 34, 36, 40, 42, 44, 45] [] [5, 38, 46, 48] []) σ0 (r)) := by
  unfold fX3_drawOldSprites_29_body
  exact zpc_if (fun _ => fu_fX3_drawOldSprites_114 h) (fun _ => zpc_bv (fun v4 _ => zpc_bi (fu_fX9_vramByte h) (fun σ5 v6 hσ5 => zpc_if (fun _ => fu_fX3_drawOldSprites_114 hσ5) (fun _ => zpc_bi (fu_fX3_rowOfSprite hσ5) (fun σ7 v8 hσ7 => zpc_if (fun _ => fu_fX3_drawOldSprites_108 hk29 hσ7) (fun _ => zpc_bv (fun v9 _ => zpc_if (fun _ => zpc_bu (fu_fX3_drawOldSprite hσ7) (fun σ10 hσ10 => fu_fX3_drawOldSprites_108 hk29 hσ10)) (fun _ => zpc_bu (fu_fX9_markFifth hσ7) (fun σ11 hσ11 => fu_fX3_drawOldSprites_114 hσ11)))))))))
theorem fu_fX3_drawOldSprites_29 {σ0 : zSt} : ∀ (n : Nat) (y0 : zSt) (y1 : Int32) (y2 : Int32) (y3 : Int32) (y4 : Int32), (zQ [3, 5, 7, 9, 11, 12, 15, 17, 19, 21, 23, 25, 27, 28, 29, 30, 32, 34, 36, 40, 42, 44, 45] [] [5, 38, 46, 48] []) σ0 y0 → zpc (fX3_drawOldSprites_29 n y0 y1 y2 y3 y4) (fun r => (zQ [3, 5, 7, 9, 11, 12, 15, 17, 19, 21, 23, 25, 27, 28, 29, 30, 32, 34, 36, 40, 42, 44, 45] [] [5, 38, 46, 48] []) σ0 (r)) := by
  intro n
  induction n with
  | zero => intro y0 y1 y2 y3 y4 h; exact zpc_none
  | succ n ih => intro y0 y1 y2 y3 y4 h; exact fu_fX3_drawOldSprites_29_body ih h
theorem fu_fX3_drawOldSprites {σ0 : zSt} {σ : zSt} {x1 : Int32} (h : (zQ [3, 5, 7, 9, 11, 12, 15, 17, 19, 21, 23, 25, 27, 28, 29, 30, 32, 34, 36, 40, 42, 44, 45] [] [5, 38, 46, 48] []) σ0 σ) : zpc (fX3_drawOldSprites σ x1) (fun r => (zQ [3, 5, 7, 9, 11, 12, 15, 17, 19, 21, 23, 25, 27, 28, 29, 30, 32, 34, 36, 40, 42, 44, 45] [] [5, 38, 46, 48] []) σ0 (r)) := by
  unfold fX3_drawOldSprites
  exact zpc_bu (fu_fJ7_fill_53178_k28 h) (fun σ12 hσ12 => zpc_bi (fu_fX9_held hσ12) (fun σ13 v14 hσ13 => zpc_bv (fun v15 _ => fu_fX3_drawOldSprites_29 _ _ _ _ _ _ hσ13)))
theorem fu_fX3_fillBack_25 {σ0 : zSt} {k2 : zSt → Int32 → Int32 → Option (zSt)} (hk2 : ∀ (y0 : zSt) (y1 : Int32) (y2 : Int32), (zQ [3, 5, 7, 9, 11, 12, 15, 17, 19, 21, 23, 25, 27, 28, 29, 30, 32, 34, 36, 40, 42, 44, 45] [] [5, 38, 46, 48] []) σ0 y0 → zpc (k2 y0 y1 y2) (fun r => (zQ [3, 5, 7, 9, 11, 12, 15, 17, 19, 21, 23, 25, 27, 28, 29, 30, 32, 34, 36, 40, 42, 44, 45] [] [5, 38, 46, 48] []) σ0 (r))) {σ : zSt} {x1 : Int32} {x2 : Int32} (h : (zQ [3, 5, 7, 9, 11, 12, 15, 17, 19, 21, 23, 25, 27, 28, 29, 30, 32, 34, 36, 40, 42, 44, 45] [] [5, 38, 46, 48] []) σ0 σ) : zpc (fX3_fillBack_25 k2 σ x1 x2) (fun r => (zQ [3, 5, 7, 9, 11, 12, 15, 17, 19, 21, 23, 25, 27, 28, 29, 30, 32, 34, 36, 40, 42, 44, 45] [] [5, 38, 46, 48] []) σ0 (r)) := by
  unfold fX3_fillBack_25
  exact zpc_bv (fun v1 _ => hk2 _ _ _ h)
theorem fu_fX3_fillBack_2_body {σ0 : zSt} {k2 : zSt → Int32 → Int32 → Option (zSt)} (hk2 : ∀ (y0 : zSt) (y1 : Int32) (y2 : Int32), (zQ [3, 5, 7, 9, 11, 12, 15, 17, 19, 21, 23, 25, 27, 28, 29, 30, 32, 34, 36, 40, 42, 44, 45] [] [5, 38, 46, 48] []) σ0 y0 → zpc (k2 y0 y1 y2) (fun r => (zQ [3, 5, 7, 9, 11, 12, 15, 17, 19, 21, 23, 25, 27, 28, 29, 30, 32, 34, 36, 40, 42, 44, 45] [] [5, 38, 46, 48] []) σ0 (r))) {σ : zSt} {x1 : Int32} {x2 : Int32} (h : (zQ [3, 5, 7, 9, 11, 12, 15, 17, 19, 21, 23, 25, 27, 28, 29, 30, 32, 34, 36, 40, 42, 44, 45] [] [5, 38, 46, 48] []) σ0 σ) : zpc (fX3_fillBack_2_body k2 σ x1 x2) (fun r => (zQ [3, 5, 7, 9, 11, 12, 15, 17, 19, 21, 23, 25, 27, 28, 29, 30, 32, 34, 36, 40, 42, 44, 45] [] [5, 38, 46, 48] []) σ0 (r)) := by
  unfold fX3_fillBack_2_body
  exact zpc_if (fun _ => zpc_some h) (fun _ => zpc_ck (zpc_if (fun _ => zpc_ck (zpc_bs (zQ.wi h rfl) (fun σ2 hσ2 => fu_fX3_fillBack_25 hk2 hσ2))) (fun _ => fu_fX3_fillBack_25 hk2 h)))
theorem fu_fX3_fillBack_2 {σ0 : zSt} : ∀ (n : Nat) (y0 : zSt) (y1 : Int32) (y2 : Int32), (zQ [3, 5, 7, 9, 11, 12, 15, 17, 19, 21, 23, 25, 27, 28, 29, 30, 32, 34, 36, 40, 42, 44, 45] [] [5, 38, 46, 48] []) σ0 y0 → zpc (fX3_fillBack_2 n y0 y1 y2) (fun r => (zQ [3, 5, 7, 9, 11, 12, 15, 17, 19, 21, 23, 25, 27, 28, 29, 30, 32, 34, 36, 40, 42, 44, 45] [] [5, 38, 46, 48] []) σ0 (r)) := by
  intro n
  induction n with
  | zero => intro y0 y1 y2 h; exact zpc_none
  | succ n ih => intro y0 y1 y2 h; exact fu_fX3_fillBack_2_body ih h
theorem fu_fX3_fillBack {σ0 : zSt} {σ : zSt} {x1 : Int32} (h : (zQ [3, 5, 7, 9, 11, 12, 15, 17, 19, 21, 23, 25, 27, 28, 29, 30, 32, 34, 36, 40, 42, 44, 45] [] [5, 38, 46, 48] []) σ0 σ) : zpc (fX3_fillBack σ x1) (fun r => (zQ [3, 5, 7, 9, 11, 12, 15, 17, 19, 21, 23, 25, 27, 28, 29, 30, 32, 34, 36, 40, 42, 44, 45] [] [5, 38, 46, 48] []) σ0 (r)) := by
  unfold fX3_fillBack
  exact fu_fX3_fillBack_2 _ _ _ _ h
theorem fu_fX3_draw_21 {σ0 : zSt} {σ : zSt} (h : (zQ [3, 5, 7, 9, 11, 12, 15, 17, 19, 21, 23, 25, 27, 28, 29, 30, 32, 34, 36, 40, 42, 44, 45] [] [5, 38, 46, 48] []) σ0 σ) : zpc (fX3_draw_21 σ) (fun r => (zQ [3, 5, 7, 9, 11, 12, 15, 17, 19, 21, 23, 25, 27, 28, 29, 30, 32, 34, 36, 40, 42, 44, 45] [] [5, 38, 46, 48] []) σ0 (r)) := by
  unfold fX3_draw_21
  exact zpc_some h
theorem fu_fX3_draw_152_body {σ0 : zSt} {k152 : zSt → Int32 → Int32 → Option (zSt)} (hk152 : ∀ (y0 : zSt) (y1 : Int32) (y2 : Int32), (zQ [3, 5, 7, 9, 11, 12, 15, 17, 19, 21, 23, 25, 27, 28, 29, 30, 32, 34, 36, 40, 42, 44, 45] [] [5, 38, 46, 48] []) σ0 y0 → zpc (k152 y0 y1 y2) (fun r => (zQ [3, 5, 7, 9, 11, 12, 15, 17, 19, 21, 23, 25, 27, 28, 29, 30, 32, 34, 36, 40, 42, 44, 45] [] [5, 38, 46, 48] []) σ0 (r))) {σ : zSt} {x1 : Int32} {x4 : Int32} (h : (zQ [3, 5, 7, 9, 11, 12, 15, 17, 19, 21, 23, 25, 27, 28, 29, 30, 32, 34, 36, 40, 42, 44, 45] [] [5, 38, 46, 48] []) σ0 σ) : zpc (fX3_draw_152_body k152 σ x1 x4) (fun r => (zQ [3, 5, 7, 9, 11, 12, 15, 17, 19, 21, 23, 25, 27, 28, 29, 30, 32, 34, 36, 40, 42, 44, 45] [] [5, 38, 46, 48] []) σ0 (r)) := by
  unfold fX3_draw_152_body
  exact zpc_if (fun _ => zpc_some h) (fun _ => zpc_ck (zpc_ck (zpc_ck (zpc_bs (zQ.wi h rfl) (fun σ1 hσ1 => zpc_bv (fun v2 _ => hk152 _ _ _ hσ1))))))
theorem fu_fX3_draw_152 {σ0 : zSt} : ∀ (n : Nat) (y0 : zSt) (y1 : Int32) (y2 : Int32), (zQ [3, 5, 7, 9, 11, 12, 15, 17, 19, 21, 23, 25, 27, 28, 29, 30, 32, 34, 36, 40, 42, 44, 45] [] [5, 38, 46, 48] []) σ0 y0 → zpc (fX3_draw_152 n y0 y1 y2) (fun r => (zQ [3, 5, 7, 9, 11, 12, 15, 17, 19, 21, 23, 25, 27, 28, 29, 30, 32, 34, 36, 40, 42, 44, 45] [] [5, 38, 46, 48] []) σ0 (r)) := by
  intro n
  induction n with
  | zero => intro y0 y1 y2 h; exact zpc_none
  | succ n ih => intro y0 y1 y2 h; exact fu_fX3_draw_152_body ih h
theorem fu_fX3_draw_144 {σ0 : zSt} {σ : zSt} {x1 : Int32} {x2 : Int32} (h : (zQ [3, 5, 7, 9, 11, 12, 15, 17, 19, 21, 23, 25, 27, 28, 29, 30, 32, 34, 36, 40, 42, 44, 45] [] [5, 38, 46, 48] []) σ0 σ) : zpc (fX3_draw_144 σ x1 x2) (fun r => (zQ [3, 5, 7, 9, 11, 12, 15, 17, 19, 21, 23, 25, 27, 28, 29, 30, 32, 34, 36, 40, 42, 44, 45] [] [5, 38, 46, 48] []) σ0 (r)) := by
  unfold fX3_draw_144
  exact zpc_bu (fu_fX3_mixColours h) (fun σ3 hσ3 => fu_fX3_draw_152 _ _ _ _ hσ3)
theorem fu_fX3_draw_139 {σ0 : zSt} {σ : zSt} {x1 : Int32} {x2 : Int32} {x3 : Int32} (h : (zQ [3, 5, 7, 9, 11, 12, 15, 17, 19, 21, 23, 25, 27, 28, 29, 30, 32, 34, 36, 40, 42, 44, 45] [] [5, 38, 46, 48] []) σ0 σ) : zpc (fX3_draw_139 σ x1 x2 x3) (fun r => (zQ [3, 5, 7, 9, 11, 12, 15, 17, 19, 21, 23, 25, 27, 28, 29, 30, 32, 34, 36, 40, 42, 44, 45] [] [5, 38, 46, 48] []) σ0 (r)) := by
  unfold fX3_draw_139
  exact zpc_bu (fu_fX3_fillBack h) (fun σ4 hσ4 => fu_fX3_draw_144 hσ4)
theorem fu_fX3_draw_41 {σ0 : zSt} {σ : zSt} {x1 : Int32} {x2 : Int32} {s0 : Int32} (h : (zQ [3, 5, 7, 9, 11, 12, 15, 17, 19, 21, 23, 25, 27, 28, 29, 30, 32, 34, 36, 40, 42, 44, 45] [] [5, 38, 46, 48] []) σ0 σ) : zpc (fX3_draw_41 σ x1 x2 s0) (fun r => (zQ [3, 5, 7, 9, 11, 12, 15, 17, 19, 21, 23, 25, 27, 28, 29, 30, 32, 34, 36, 40, 42, 44, 45] [] [5, 38, 46, 48] []) σ0 (r)) := by
  unfold fX3_draw_41
  exact zpc_bi (fu_fX9_held h) (fun σ5 v6 hσ5 => zpc_bv (fun v7 _ => zpc_bi (fu_fX9_held hσ5) (fun σ8 v9 hσ8 => zpc_if (fun _ => zpc_bu (fu_fJ7_fill_53178_k27 hσ8) (fun σ17 hσ17 => fu_fX3_draw_144 hσ17)) (fun _ => zpc_if (fun _ => zpc_bu (fu_fX3_drawTiles hσ8) (fun σ12 hσ12 => zpc_bu (fu_fX3_drawSprites hσ12) (fun σ13 hσ13 => zpc_bi (fu_fX9_held hσ13) (fun σ14 v15 hσ14 => zpc_if (fun _ => fu_fX3_draw_144 hσ14) (fun _ => zpc_bu (fu_fJ7_fill_fda19_k27 hσ14) (fun σ16 hσ16 => fu_fX3_draw_144 hσ16)))))) (fun _ => zpc_bu (fu_fX3_drawOld hσ8) (fun σ10 hσ10 => zpc_if (fun _ => fu_fX3_draw_139 hσ10) (fun _ => zpc_bu (fu_fX3_drawOldSprites hσ10) (fun σ11 hσ11 => fu_fX3_draw_139 hσ11))))))))
theorem fu_fX3_draw {σ0 : zSt} {σ : zSt} (h : (zQ [3, 5, 7, 9, 11, 12, 15, 17, 19, 21, 23, 25, 27, 28, 29, 30, 32, 34, 36, 40, 42, 44, 45] [] [5, 38, 46, 48] []) σ0 σ) : zpc (fX3_draw σ) (fun r => (zQ [3, 5, 7, 9, 11, 12, 15, 17, 19, 21, 23, 25, 27, 28, 29, 30, 32, 34, 36, 40, 42, 44, 45] [] [5, 38, 46, 48] []) σ0 (r)) := by
  unfold fX3_draw
  exact zpc_bi (fu_fX9_held h) (fun σ18 v19 hσ18 => zpc_if (fun _ => fu_fX3_draw_21 hσ18) (fun _ => zpc_if (fun _ => zpc_bi (fu_fX9_mode hσ18) (fun σ20 v21 hσ20 => zpc_if (fun _ => fu_fX3_draw_41 hσ20) (fun _ => fu_fX3_draw_41 hσ20))) (fun _ => fu_fX3_draw_21 hσ18)))
theorem fu_fX4_clear {σ0 : zSt} {σ : zSt} (h : (zQ [3, 5, 7, 9, 11, 12, 15, 17, 19, 21, 23, 25, 27, 28, 29, 30, 32, 34, 36, 40, 42, 44, 45] [] [5, 38, 46, 48] []) σ0 σ) : zpc (fX4_clear σ) (fun r => (zQ [3, 5, 7, 9, 11, 12, 15, 17, 19, 21, 23, 25, 27, 28, 29, 30, 32, 34, 36, 40, 42, 44, 45] [] [5, 38, 46, 48] []) σ0 (r)) := by
  unfold fX4_clear
  exact zpc_ck (zpc_bs (zQ.wi h rfl) (fun σ1 hσ1 => zpc_ck (zpc_bs (zQ.wi hσ1 rfl) (fun σ2 hσ2 => zpc_ck (zpc_bs (zQ.wi hσ2 rfl) (fun σ3 hσ3 => zpc_ck (zpc_bs (zQ.wi hσ3 rfl) (fun σ4 hσ4 => zpc_ck (zpc_bs (zQ.wi hσ4 rfl) (fun σ5 hσ5 => zpc_ck (zpc_bs (zQ.wi hσ5 rfl) (fun σ6 hσ6 => zpc_ck (zpc_bs (zQ.wi hσ6 rfl) (fun σ7 hσ7 => zpc_some hσ7))))))))))))))
theorem fu_fX4_value_20 {σ0 : zSt} {σ : zSt} {s0 : Int32} (h : (zQ [3, 5, 7, 9, 11, 12, 15, 17, 19, 21, 23, 25, 27, 28, 29, 30, 32, 34, 36, 40, 42, 44, 45] [] [5, 38, 46, 48] []) σ0 σ) : zpc (fX4_value_20 σ s0) (fun r => (zQ [3, 5, 7, 9, 11, 12, 15, 17, 19, 21, 23, 25, 27, 28, 29, 30, 32, 34, 36, 40, 42, 44, 45] [] [5, 38, 46, 48] []) σ0 (r.1)) := by
  unfold fX4_value_20
  exact zpc_some h
theorem fu_fX4_value_19 {σ0 : zSt} {σ : zSt} (h : (zQ [3, 5, 7, 9, 11, 12, 15, 17, 19, 21, 23, 25, 27, 28, 29, 30, 32, 34, 36, 40, 42, 44, 45] [] [5, 38, 46, 48] []) σ0 σ) : zpc (fX4_value_19 σ) (fun r => (zQ [3, 5, 7, 9, 11, 12, 15, 17, 19, 21, 23, 25, 27, 28, 29, 30, 32, 34, 36, 40, 42, 44, 45] [] [5, 38, 46, 48] []) σ0 (r.1)) := by
  unfold fX4_value_19
  exact fu_fX4_value_20 h
theorem fu_fX4_value {σ0 : zSt} {σ : zSt} {x1 : Int32} (h : (zQ [3, 5, 7, 9, 11, 12, 15, 17, 19, 21, 23, 25, 27, 28, 29, 30, 32, 34, 36, 40, 42, 44, 45] [] [5, 38, 46, 48] []) σ0 σ) : zpc (fX4_value σ x1) (fun r => (zQ [3, 5, 7, 9, 11, 12, 15, 17, 19, 21, 23, 25, 27, 28, 29, 30, 32, 34, 36, 40, 42, 44, 45] [] [5, 38, 46, 48] []) σ0 (r.1)) := by
  unfold fX4_value
  exact zpc_if (fun _ => fu_fX4_value_19 h) (fun _ => zpc_if (fun _ => fu_fX4_value_19 h) (fun _ => zpc_ck (fu_fX4_value_20 h)))
theorem fu_fX4_canPress_24 {σ0 : zSt} {σ : zSt} {s0 : Int32} (h : (zQ [3, 5, 7, 9, 11, 12, 15, 17, 19, 21, 23, 25, 27, 28, 29, 30, 32, 34, 36, 40, 42, 44, 45] [] [5, 38, 46, 48] []) σ0 σ) : zpc (fX4_canPress_24 σ s0) (fun r => (zQ [3, 5, 7, 9, 11, 12, 15, 17, 19, 21, 23, 25, 27, 28, 29, 30, 32, 34, 36, 40, 42, 44, 45] [] [5, 38, 46, 48] []) σ0 (r.1)) := by
  unfold fX4_canPress_24
  exact zpc_ck (zpc_some h)
theorem fu_fX4_canPress_23 {σ0 : zSt} {σ : zSt} (h : (zQ [3, 5, 7, 9, 11, 12, 15, 17, 19, 21, 23, 25, 27, 28, 29, 30, 32, 34, 36, 40, 42, 44, 45] [] [5, 38, 46, 48] []) σ0 σ) : zpc (fX4_canPress_23 σ) (fun r => (zQ [3, 5, 7, 9, 11, 12, 15, 17, 19, 21, 23, 25, 27, 28, 29, 30, 32, 34, 36, 40, 42, 44, 45] [] [5, 38, 46, 48] []) σ0 (r.1)) := by
  unfold fX4_canPress_23
  exact fu_fX4_canPress_24 h
theorem fu_fX4_canPress {σ0 : zSt} {σ : zSt} {x0 : Int32} {x1 : Int32} (h : (zQ [3, 5, 7, 9, 11, 12, 15, 17, 19, 21, 23, 25, 27, 28, 29, 30, 32, 34, 36, 40, 42, 44, 45] [] [5, 38, 46, 48] []) σ0 σ) : zpc (fX4_canPress σ x0 x1) (fun r => (zQ [3, 5, 7, 9, 11, 12, 15, 17, 19, 21, 23, 25, 27, 28, 29, 30, 32, 34, 36, 40, 42, 44, 45] [] [5, 38, 46, 48] []) σ0 (r.1)) := by
  unfold fX4_canPress
  exact zpc_if (fun _ => fu_fX4_canPress_23 h) (fun _ => zpc_if (fun _ => fu_fX4_canPress_23 h) (fun _ => zpc_if (fun _ => fu_fX4_canPress_23 h) (fun _ => zpc_if (fun _ => fu_fX4_canPress_23 h) (fun _ => fu_fX4_canPress_24 h))))
theorem fu_fX4_holdStart_15 {σ0 : zSt} {σ : zSt} {s0 : Int32} {s1 : Int32} (h : (zQ [3, 5, 7, 9, 11, 12, 15, 17, 19, 21, 23, 25, 27, 28, 29, 30, 32, 34, 36, 40, 42, 44, 45] [] [5, 38, 46, 48] []) σ0 σ) : zpc (fX4_holdStart_15 σ s0 s1) (fun r => (zQ [3, 5, 7, 9, 11, 12, 15, 17, 19, 21, 23, 25, 27, 28, 29, 30, 32, 34, 36, 40, 42, 44, 45] [] [5, 38, 46, 48] []) σ0 (r)) := by
  unfold fX4_holdStart_15
  exact zpc_ck (zpc_bs (zQ.wi h rfl) (fun σ1 hσ1 => zpc_some hσ1))
theorem fu_fX4_holdStart {σ0 : zSt} {σ : zSt} {x1 : Int32} (h : (zQ [3, 5, 7, 9, 11, 12, 15, 17, 19, 21, 23, 25, 27, 28, 29, 30, 32, 34, 36, 40, 42, 44, 45] [] [5, 38, 46, 48] []) σ0 σ) : zpc (fX4_holdStart σ x1) (fun r => (zQ [3, 5, 7, 9, 11, 12, 15, 17, 19, 21, 23, 25, 27, 28, 29, 30, 32, 34, 36, 40, 42, 44, 45] [] [5, 38, 46, 48] []) σ0 (r)) := by
  unfold fX4_holdStart
  exact zpc_if (fun _ => fu_fX4_holdStart_15 h) (fun _ => fu_fX4_holdStart_15 h)
theorem fu_fX4_lines_52 {σ0 : zSt} {σ : zSt} {x2 : Int32} {s0 : Int32} (h : (zQ [3, 5, 7, 9, 11, 12, 15, 17, 19, 21, 23, 25, 27, 28, 29, 30, 32, 34, 36, 40, 42, 44, 45] [] [5, 38, 46, 48] []) σ0 σ) : zpc (fX4_lines_52 σ x2 s0) (fun r => (zQ [3, 5, 7, 9, 11, 12, 15, 17, 19, 21, 23, 25, 27, 28, 29, 30, 32, 34, 36, 40, 42, 44, 45] [] [5, 38, 46, 48] []) σ0 (r.1)) := by
  unfold fX4_lines_52
  exact zpc_some h
theorem fu_fX4_lines_28 {σ0 : zSt} {σ : zSt} {x1 : Int32} {s0 : Int32} (h : (zQ [3, 5, 7, 9, 11, 12, 15, 17, 19, 21, 23, 25, 27, 28, 29, 30, 32, 34, 36, 40, 42, 44, 45] [] [5, 38, 46, 48] []) σ0 σ) : zpc (fX4_lines_28 σ x1 s0) (fun r => (zQ [3, 5, 7, 9, 11, 12, 15, 17, 19, 21, 23, 25, 27, 28, 29, 30, 32, 34, 36, 40, 42, 44, 45] [] [5, 38, 46, 48] []) σ0 (r.1)) := by
  unfold fX4_lines_28
  exact zpc_if (fun _ => fu_fX4_lines_52 h) (fun _ => zpc_ck (fu_fX4_lines_52 h))
theorem fu_fX4_lines {σ0 : zSt} {σ : zSt} (h : (zQ [3, 5, 7, 9, 11, 12, 15, 17, 19, 21, 23, 25, 27, 28, 29, 30, 32, 34, 36, 40, 42, 44, 45] [] [5, 38, 46, 48] []) σ0 σ) : zpc (fX4_lines σ) (fun r => (zQ [3, 5, 7, 9, 11, 12, 15, 17, 19, 21, 23, 25, 27, 28, 29, 30, 32, 34, 36, 40, 42, 44, 45] [] [5, 38, 46, 48] []) σ0 (r.1)) := by
  unfold fX4_lines
  exact zpc_ck (zpc_bv (fun v1 _ => zpc_if (fun _ => fu_fX4_lines_28 h) (fun _ => zpc_ck (fu_fX4_lines_28 h))))
theorem fu_fX9_hCount_27 {σ0 : zSt} {σ : zSt} {s0 : Int32} (h : (zQ [3, 5, 7, 9, 11, 12, 15, 17, 19, 21, 23, 25, 27, 28, 29, 30, 32, 34, 36, 40, 42, 44, 45] [] [5, 38, 46, 48] []) σ0 σ) : zpc (fX9_hCount_27 σ s0) (fun r => (zQ [3, 5, 7, 9, 11, 12, 15, 17, 19, 21, 23, 25, 27, 28, 29, 30, 32, 34, 36, 40, 42, 44, 45] [] [5, 38, 46, 48] []) σ0 (r.1)) := by
  unfold fX9_hCount_27
  exact zpc_some h
theorem fu_fX9_hCount {σ0 : zSt} {σ : zSt} (h : (zQ [3, 5, 7, 9, 11, 12, 15, 17, 19, 21, 23, 25, 27, 28, 29, 30, 32, 34, 36, 40, 42, 44, 45] [] [5, 38, 46, 48] []) σ0 σ) : zpc (fX9_hCount σ) (fun r => (zQ [3, 5, 7, 9, 11, 12, 15, 17, 19, 21, 23, 25, 27, 28, 29, 30, 32, 34, 36, 40, 42, 44, 45] [] [5, 38, 46, 48] []) σ0 (r.1)) := by
  unfold fX9_hCount
  exact zpc_ck (zpc_ck (zpc_bv (fun v1 _ => zpc_if (fun _ => fu_fX9_hCount_27 h) (fun _ => fu_fX9_hCount_27 h))))
theorem fu_fX4_changeLines_37 {σ0 : zSt} {σ : zSt} (h : (zQ [3, 5, 7, 9, 11, 12, 15, 17, 19, 21, 23, 25, 27, 28, 29, 30, 32, 34, 36, 40, 42, 44, 45] [] [5, 38, 46, 48] []) σ0 σ) : zpc (fX4_changeLines_37 σ) (fun r => (zQ [3, 5, 7, 9, 11, 12, 15, 17, 19, 21, 23, 25, 27, 28, 29, 30, 32, 34, 36, 40, 42, 44, 45] [] [5, 38, 46, 48] []) σ0 (r)) := by
  unfold fX4_changeLines_37
  exact zpc_some h
theorem fu_fX4_changeLines {σ0 : zSt} {σ : zSt} {x1 : Int32} {x2 : Int32} (h : (zQ [3, 5, 7, 9, 11, 12, 15, 17, 19, 21, 23, 25, 27, 28, 29, 30, 32, 34, 36, 40, 42, 44, 45] [] [5, 38, 46, 48] []) σ0 σ) : zpc (fX4_changeLines σ x1 x2) (fun r => (zQ [3, 5, 7, 9, 11, 12, 15, 17, 19, 21, 23, 25, 27, 28, 29, 30, 32, 34, 36, 40, 42, 44, 45] [] [5, 38, 46, 48] []) σ0 (r)) := by
  unfold fX4_changeLines
  exact zpc_bi (fu_fX4_lines h) (fun σ1 v2 hσ1 => zpc_ck (zpc_bs (zQ.wi hσ1 rfl) (fun σ3 hσ3 => zpc_bi (fu_fX4_lines hσ3) (fun σ4 v5 hσ4 => zpc_if (fun _ => fu_fX4_changeLines_37 hσ4) (fun _ => zpc_bi (fu_fX9_hCount hσ4) (fun σ6 v7 hσ6 => zpc_ck (zpc_bs (zQ.wi hσ6 rfl) (fun σ8 hσ8 => fu_fX4_changeLines_37 hσ8))))))))
theorem fu_fX4_moveLine_16 {σ0 : zSt} {σ : zSt} {s0 : Int32} {s1 : Int32} (h : (zQ [3, 5, 7, 9, 11, 12, 15, 17, 19, 21, 23, 25, 27, 28, 29, 30, 32, 34, 36, 40, 42, 44, 45] [] [5, 38, 46, 48] []) σ0 σ) : zpc (fX4_moveLine_16 σ s0 s1) (fun r => (zQ [3, 5, 7, 9, 11, 12, 15, 17, 19, 21, 23, 25, 27, 28, 29, 30, 32, 34, 36, 40, 42, 44, 45] [] [5, 38, 46, 48] []) σ0 (r)) := by
  unfold fX4_moveLine_16
  exact zpc_bu (fu_fX4_changeLines h) (fun σ1 hσ1 => zpc_some hσ1)
theorem fu_fX4_moveLine {σ0 : zSt} {σ : zSt} {x1 : Int32} {x2 : Int32} (h : (zQ [3, 5, 7, 9, 11, 12, 15, 17, 19, 21, 23, 25, 27, 28, 29, 30, 32, 34, 36, 40, 42, 44, 45] [] [5, 38, 46, 48] []) σ0 σ) : zpc (fX4_moveLine σ x1 x2) (fun r => (zQ [3, 5, 7, 9, 11, 12, 15, 17, 19, 21, 23, 25, 27, 28, 29, 30, 32, 34, 36, 40, 42, 44, 45] [] [5, 38, 46, 48] []) σ0 (r)) := by
  unfold fX4_moveLine
  exact zpc_if (fun _ => fu_fX4_moveLine_16 h) (fun _ => fu_fX4_moveLine_16 h)
theorem fu_fX10_value_11 {σ0 : zSt} {σ : zSt} (h : (zQ [3, 5, 7, 9, 11, 12, 15, 17, 19, 21, 23, 25, 27, 28, 29, 30, 32, 34, 36, 40, 42, 44, 45] [] [5, 38, 46, 48] []) σ0 σ) : zpc (fX10_value_11 σ) (fun r => (zQ [3, 5, 7, 9, 11, 12, 15, 17, 19, 21, 23, 25, 27, 28, 29, 30, 32, 34, 36, 40, 42, 44, 45] [] [5, 38, 46, 48] []) σ0 (r.1)) := by
  unfold fX10_value_11
  exact zpc_some h
theorem fu_fX10_value_38 {σ0 : zSt} {σ : zSt} {s0 : Int32} (h : (zQ [3, 5, 7, 9, 11, 12, 15, 17, 19, 21, 23, 25, 27, 28, 29, 30, 32, 34, 36, 40, 42, 44, 45] [] [5, 38, 46, 48] []) σ0 σ) : zpc (fX10_value_38 σ s0) (fun r => (zQ [3, 5, 7, 9, 11, 12, 15, 17, 19, 21, 23, 25, 27, 28, 29, 30, 32, 34, 36, 40, 42, 44, 45] [] [5, 38, 46, 48] []) σ0 (r.1)) := by
  unfold fX10_value_38
  exact zpc_some h
theorem fu_fX10_value {σ0 : zSt} {σ : zSt} {x1 : Int32} (h : (zQ [3, 5, 7, 9, 11, 12, 15, 17, 19, 21, 23, 25, 27, 28, 29, 30, 32, 34, 36, 40, 42, 44, 45] [] [5, 38, 46, 48] []) σ0 σ) : zpc (fX10_value σ x1) (fun r => (zQ [3, 5, 7, 9, 11, 12, 15, 17, 19, 21, 23, 25, 27, 28, 29, 30, 32, 34, 36, 40, 42, 44, 45] [] [5, 38, 46, 48] []) σ0 (r.1)) := by
  unfold fX10_value
  exact zpc_if (fun _ => fu_fX10_value_11 h) (fun _ => zpc_if (fun _ => zpc_if (fun _ => zpc_ck (fu_fX10_value_38 h)) (fun _ => zpc_ck (fu_fX10_value_38 h))) (fun _ => fu_fX10_value_11 h))
theorem fu_fX4_readEvenPads_56 {σ0 : zSt} {σ : zSt} {s0 : Int32} (h : (zQ [3, 5, 7, 9, 11, 12, 15, 17, 19, 21, 23, 25, 27, 28, 29, 30, 32, 34, 36, 40, 42, 44, 45] [] [5, 38, 46, 48] []) σ0 σ) : zpc (fX4_readEvenPads_56 σ s0) (fun r => (zQ [3, 5, 7, 9, 11, 12, 15, 17, 19, 21, 23, 25, 27, 28, 29, 30, 32, 34, 36, 40, 42, 44, 45] [] [5, 38, 46, 48] []) σ0 (r.1)) := by
  unfold fX4_readEvenPads_56
  exact zpc_some h
theorem fu_fX4_readEvenPads {σ0 : zSt} {σ : zSt} (h : (zQ [3, 5, 7, 9, 11, 12, 15, 17, 19, 21, 23, 25, 27, 28, 29, 30, 32, 34, 36, 40, 42, 44, 45] [] [5, 38, 46, 48] []) σ0 σ) : zpc (fX4_readEvenPads σ) (fun r => (zQ [3, 5, 7, 9, 11, 12, 15, 17, 19, 21, 23, 25, 27, 28, 29, 30, 32, 34, 36, 40, 42, 44, 45] [] [5, 38, 46, 48] []) σ0 (r.1)) := by
  unfold fX4_readEvenPads
  exact zpc_ck (zpc_ck (zpc_bv (fun v1 _ => zpc_ck (zpc_if (fun _ => zpc_ck (fu_fX4_readEvenPads_56 h)) (fun _ => fu_fX4_readEvenPads_56 h)))))
theorem fu_fX4_readOddPads_57 {σ0 : zSt} {σ : zSt} {s0 : Int32} (h : (zQ [3, 5, 7, 9, 11, 12, 15, 17, 19, 21, 23, 25, 27, 28, 29, 30, 32, 34, 36, 40, 42, 44, 45] [] [5, 38, 46, 48] []) σ0 σ) : zpc (fX4_readOddPads_57 σ s0) (fun r => (zQ [3, 5, 7, 9, 11, 12, 15, 17, 19, 21, 23, 25, 27, 28, 29, 30, 32, 34, 36, 40, 42, 44, 45] [] [5, 38, 46, 48] []) σ0 (r.1)) := by
  unfold fX4_readOddPads_57
  exact zpc_some h
theorem fu_fX4_readOddPads {σ0 : zSt} {σ : zSt} (h : (zQ [3, 5, 7, 9, 11, 12, 15, 17, 19, 21, 23, 25, 27, 28, 29, 30, 32, 34, 36, 40, 42, 44, 45] [] [5, 38, 46, 48] []) σ0 σ) : zpc (fX4_readOddPads σ) (fun r => (zQ [3, 5, 7, 9, 11, 12, 15, 17, 19, 21, 23, 25, 27, 28, 29, 30, 32, 34, 36, 40, 42, 44, 45] [] [5, 38, 46, 48] []) σ0 (r.1)) := by
  unfold fX4_readOddPads
  exact zpc_ck (zpc_bi (fu_fX4_lines h) (fun σ1 v2 hσ1 => zpc_bv (fun v3 _ => zpc_ck (zpc_if (fun _ => zpc_ck (fu_fX4_readOddPads_57 hσ1)) (fun _ => fu_fX4_readOddPads_57 hσ1)))))
theorem fu_fX9_readAhead {σ0 : zSt} {σ : zSt} (h : (zQ [3, 5, 7, 9, 11, 12, 15, 17, 19, 21, 23, 25, 27, 28, 29, 30, 32, 34, 36, 40, 42, 44, 45] [] [5, 38, 46, 48] []) σ0 σ) : zpc (fX9_readAhead σ) (fun r => (zQ [3, 5, 7, 9, 11, 12, 15, 17, 19, 21, 23, 25, 27, 28, 29, 30, 32, 34, 36, 40, 42, 44, 45] [] [5, 38, 46, 48] []) σ0 (r)) := by
  unfold fX9_readAhead
  exact zpc_ck (zpc_ck (zpc_ck (zpc_bs (zQ.wi h rfl) (fun σ1 hσ1 => zpc_ck (zpc_ck (zpc_bs (zQ.wi hσ1 rfl) (fun σ2 hσ2 => zpc_some hσ2)))))))
theorem fu_fX9_readData {σ0 : zSt} {σ : zSt} (h : (zQ [3, 5, 7, 9, 11, 12, 15, 17, 19, 21, 23, 25, 27, 28, 29, 30, 32, 34, 36, 40, 42, 44, 45] [] [5, 38, 46, 48] []) σ0 σ) : zpc (fX9_readData σ) (fun r => (zQ [3, 5, 7, 9, 11, 12, 15, 17, 19, 21, 23, 25, 27, 28, 29, 30, 32, 34, 36, 40, 42, 44, 45] [] [5, 38, 46, 48] []) σ0 (r.1)) := by
  unfold fX9_readData
  exact zpc_ck (zpc_bv (fun v1 _ => zpc_ck (zpc_bs (zQ.wi h rfl) (fun σ2 hσ2 => zpc_bu (fu_fX9_readAhead hσ2) (fun σ3 hσ3 => zpc_some hσ3)))))
theorem fu_fX9_readStatus {σ0 : zSt} {σ : zSt} (h : (zQ [3, 5, 7, 9, 11, 12, 15, 17, 19, 21, 23, 25, 27, 28, 29, 30, 32, 34, 36, 40, 42, 44, 45] [] [5, 38, 46, 48] []) σ0 σ) : zpc (fX9_readStatus σ) (fun r => (zQ [3, 5, 7, 9, 11, 12, 15, 17, 19, 21, 23, 25, 27, 28, 29, 30, 32, 34, 36, 40, 42, 44, 45] [] [5, 38, 46, 48] []) σ0 (r.1)) := by
  unfold fX9_readStatus
  exact zpc_ck (zpc_bv (fun v1 _ => zpc_ck (zpc_bs (zQ.wi h rfl) (fun σ2 hσ2 => zpc_ck (zpc_bs (zQ.wi hσ2 rfl) (fun σ3 hσ3 => zpc_ck (zpc_bs (zQ.wi hσ3 rfl) (fun σ4 hσ4 => zpc_some hσ4))))))))
theorem fu_fX9_vCount_137 {σ0 : zSt} {σ : zSt} {s0 : Int32} (h : (zQ [3, 5, 7, 9, 11, 12, 15, 17, 19, 21, 23, 25, 27, 28, 29, 30, 32, 34, 36, 40, 42, 44, 45] [] [5, 38, 46, 48] []) σ0 σ) : zpc (fX9_vCount_137 σ s0) (fun r => (zQ [3, 5, 7, 9, 11, 12, 15, 17, 19, 21, 23, 25, 27, 28, 29, 30, 32, 34, 36, 40, 42, 44, 45] [] [5, 38, 46, 48] []) σ0 (r.1)) := by
  unfold fX9_vCount_137
  exact zpc_some h
theorem fu_fX9_vCount_136 {σ0 : zSt} {σ : zSt} {s0 : Int32} {s1 : Int32} (h : (zQ [3, 5, 7, 9, 11, 12, 15, 17, 19, 21, 23, 25, 27, 28, 29, 30, 32, 34, 36, 40, 42, 44, 45] [] [5, 38, 46, 48] []) σ0 σ) : zpc (fX9_vCount_136 σ s0 s1) (fun r => (zQ [3, 5, 7, 9, 11, 12, 15, 17, 19, 21, 23, 25, 27, 28, 29, 30, 32, 34, 36, 40, 42, 44, 45] [] [5, 38, 46, 48] []) σ0 (r.1)) := by
  unfold fX9_vCount_136
  exact fu_fX9_vCount_137 h
theorem fu_fX9_vCount_97 {σ0 : zSt} {σ : zSt} {x2 : Int32} {x3 : Int32} (h : (zQ [3, 5, 7, 9, 11, 12, 15, 17, 19, 21, 23, 25, 27, 28, 29, 30, 32, 34, 36, 40, 42, 44, 45] [] [5, 38, 46, 48] []) σ0 σ) : zpc (fX9_vCount_97 σ x2 x3) (fun r => (zQ [3, 5, 7, 9, 11, 12, 15, 17, 19, 21, 23, 25, 27, 28, 29, 30, 32, 34, 36, 40, 42, 44, 45] [] [5, 38, 46, 48] []) σ0 (r.1)) := by
  unfold fX9_vCount_97
  exact zpc_ck (zpc_if (fun _ => zpc_ck (zpc_if (fun _ => fu_fX9_vCount_136 h) (fun _ => fu_fX9_vCount_136 h))) (fun _ => zpc_ck (fu_fX9_vCount_137 h)))
theorem fu_fX9_vCount_96 {σ0 : zSt} {σ : zSt} {x2 : Int32} {s0 : Int32} (h : (zQ [3, 5, 7, 9, 11, 12, 15, 17, 19, 21, 23, 25, 27, 28, 29, 30, 32, 34, 36, 40, 42, 44, 45] [] [5, 38, 46, 48] []) σ0 σ) : zpc (fX9_vCount_96 σ x2 s0) (fun r => (zQ [3, 5, 7, 9, 11, 12, 15, 17, 19, 21, 23, 25, 27, 28, 29, 30, 32, 34, 36, 40, 42, 44, 45] [] [5, 38, 46, 48] []) σ0 (r.1)) := by
  unfold fX9_vCount_96
  exact fu_fX9_vCount_97 h
theorem fu_fX9_vCount_78 {σ0 : zSt} {σ : zSt} {x2 : Int32} {s0 : Int32} (h : (zQ [3, 5, 7, 9, 11, 12, 15, 17, 19, 21, 23, 25, 27, 28, 29, 30, 32, 34, 36, 40, 42, 44, 45] [] [5, 38, 46, 48] []) σ0 σ) : zpc (fX9_vCount_78 σ x2 s0) (fun r => (zQ [3, 5, 7, 9, 11, 12, 15, 17, 19, 21, 23, 25, 27, 28, 29, 30, 32, 34, 36, 40, 42, 44, 45] [] [5, 38, 46, 48] []) σ0 (r.1)) := by
  unfold fX9_vCount_78
  exact fu_fX9_vCount_97 h
theorem fu_fX9_vCount_61 {σ0 : zSt} {σ : zSt} {x2 : Int32} {s0 : Int32} (h : (zQ [3, 5, 7, 9, 11, 12, 15, 17, 19, 21, 23, 25, 27, 28, 29, 30, 32, 34, 36, 40, 42, 44, 45] [] [5, 38, 46, 48] []) σ0 σ) : zpc (fX9_vCount_61 σ x2 s0) (fun r => (zQ [3, 5, 7, 9, 11, 12, 15, 17, 19, 21, 23, 25, 27, 28, 29, 30, 32, 34, 36, 40, 42, 44, 45] [] [5, 38, 46, 48] []) σ0 (r.1)) := by
  unfold fX9_vCount_61
  exact fu_fX9_vCount_97 h
theorem fu_fX9_vCount_20 {σ0 : zSt} {σ : zSt} {x1 : Int32} {s0 : Int32} (h : (zQ [3, 5, 7, 9, 11, 12, 15, 17, 19, 21, 23, 25, 27, 28, 29, 30, 32, 34, 36, 40, 42, 44, 45] [] [5, 38, 46, 48] []) σ0 σ) : zpc (fX9_vCount_20 σ x1 s0) (fun r => (zQ [3, 5, 7, 9, 11, 12, 15, 17, 19, 21, 23, 25, 27, 28, 29, 30, 32, 34, 36, 40, 42, 44, 45] [] [5, 38, 46, 48] []) σ0 (r.1)) := by
  unfold fX9_vCount_20
  exact zpc_if (fun _ => zpc_if (fun _ => fu_fX9_vCount_61 h) (fun _ => fu_fX9_vCount_61 h)) (fun _ => zpc_if (fun _ => zpc_if (fun _ => fu_fX9_vCount_78 h) (fun _ => fu_fX9_vCount_78 h)) (fun _ => zpc_if (fun _ => fu_fX9_vCount_96 h) (fun _ => fu_fX9_vCount_96 h)))
theorem fu_fX9_vCount {σ0 : zSt} {σ : zSt} (h : (zQ [3, 5, 7, 9, 11, 12, 15, 17, 19, 21, 23, 25, 27, 28, 29, 30, 32, 34, 36, 40, 42, 44, 45] [] [5, 38, 46, 48] []) σ0 σ) : zpc (fX9_vCount σ) (fun r => (zQ [3, 5, 7, 9, 11, 12, 15, 17, 19, 21, 23, 25, 27, 28, 29, 30, 32, 34, 36, 40, 42, 44, 45] [] [5, 38, 46, 48] []) σ0 (r.1)) := by
  unfold fX9_vCount
  exact zpc_bi (fu_fX9_height h) (fun σ1 v2 hσ1 => zpc_if (fun _ => fu_fX9_vCount_20 hσ1) (fun _ => fu_fX9_vCount_20 hσ1))
theorem fu_fX4_readHandy_23 {σ0 : zSt} {σ : zSt} {s0 : Int32} (h : (zQ [3, 5, 7, 9, 11, 12, 15, 17, 19, 21, 23, 25, 27, 28, 29, 30, 32, 34, 36, 40, 42, 44, 45] [] [5, 38, 46, 48] []) σ0 σ) : zpc (fX4_readHandy_23 σ s0) (fun r => (zQ [3, 5, 7, 9, 11, 12, 15, 17, 19, 21, 23, 25, 27, 28, 29, 30, 32, 34, 36, 40, 42, 44, 45] [] [5, 38, 46, 48] []) σ0 (r.1)) := by
  unfold fX4_readHandy_23
  exact zpc_some h
theorem fu_fX4_readHandy_46 {σ0 : zSt} {σ : zSt} {s0 : Int32} (h : (zQ [3, 5, 7, 9, 11, 12, 15, 17, 19, 21, 23, 25, 27, 28, 29, 30, 32, 34, 36, 40, 42, 44, 45] [] [5, 38, 46, 48] []) σ0 σ) : zpc (fX4_readHandy_46 σ s0) (fun r => (zQ [3, 5, 7, 9, 11, 12, 15, 17, 19, 21, 23, 25, 27, 28, 29, 30, 32, 34, 36, 40, 42, 44, 45] [] [5, 38, 46, 48] []) σ0 (r.1)) := by
  unfold fX4_readHandy_46
  exact zpc_some h
theorem fu_fX4_readHandy_43 {σ0 : zSt} {σ : zSt} (h : (zQ [3, 5, 7, 9, 11, 12, 15, 17, 19, 21, 23, 25, 27, 28, 29, 30, 32, 34, 36, 40, 42, 44, 45] [] [5, 38, 46, 48] []) σ0 σ) : zpc (fX4_readHandy_43 σ) (fun r => (zQ [3, 5, 7, 9, 11, 12, 15, 17, 19, 21, 23, 25, 27, 28, 29, 30, 32, 34, 36, 40, 42, 44, 45] [] [5, 38, 46, 48] []) σ0 (r.1)) := by
  unfold fX4_readHandy_43
  exact fu_fX4_readHandy_46 h
theorem fu_fX4_readHandy {σ0 : zSt} {σ : zSt} {x1 : Int32} (h : (zQ [3, 5, 7, 9, 11, 12, 15, 17, 19, 21, 23, 25, 27, 28, 29, 30, 32, 34, 36, 40, 42, 44, 45] [] [5, 38, 46, 48] []) σ0 σ) : zpc (fX4_readHandy σ x1) (fun r => (zQ [3, 5, 7, 9, 11, 12, 15, 17, 19, 21, 23, 25, 27, 28, 29, 30, 32, 34, 36, 40, 42, 44, 45] [] [5, 38, 46, 48] []) σ0 (r.1)) := by
  unfold fX4_readHandy
  exact zpc_if (fun _ => zpc_ck (zpc_if (fun _ => fu_fX4_readHandy_23 h) (fun _ => fu_fX4_readHandy_23 h))) (fun _ => zpc_if (fun _ => fu_fX4_readHandy_43 h) (fun _ => zpc_if (fun _ => fu_fX4_readHandy_43 h) (fun _ => zpc_ck (fu_fX4_readHandy_46 h))))
theorem fu_fX4_read_146 {σ0 : zSt} {σ : zSt} {s0 : Int32} (h : (zQ [3, 5, 7, 9, 11, 12, 15, 17, 19, 21, 23, 25, 27, 28, 29, 30, 32, 34, 36, 40, 42, 44, 45] [] [5, 38, 46, 48] []) σ0 σ) : zpc (fX4_read_146 σ s0) (fun r => (zQ [3, 5, 7, 9, 11, 12, 15, 17, 19, 21, 23, 25, 27, 28, 29, 30, 32, 34, 36, 40, 42, 44, 45] [] [5, 38, 46, 48] []) σ0 (r.1)) := by
  unfold fX4_read_146
  exact zpc_some h
theorem fu_fX4_read_131 {σ0 : zSt} {σ : zSt} {x2 : Int32} (h : (zQ [3, 5, 7, 9, 11, 12, 15, 17, 19, 21, 23, 25, 27, 28, 29, 30, 32, 34, 36, 40, 42, 44, 45] [] [5, 38, 46, 48] []) σ0 σ) : zpc (fX4_read_131 σ x2) (fun r => (zQ [3, 5, 7, 9, 11, 12, 15, 17, 19, 21, 23, 25, 27, 28, 29, 30, 32, 34, 36, 40, 42, 44, 45] [] [5, 38, 46, 48] []) σ0 (r.1)) := by
  unfold fX4_read_131
  exact zpc_if (fun _ => zpc_bi (fu_fX4_readOddPads h) (fun σ1 v2 hσ1 => fu_fX4_read_146 hσ1)) (fun _ => zpc_bi (fu_fX4_readEvenPads h) (fun σ3 v4 hσ3 => fu_fX4_read_146 hσ3))
theorem fu_fX4_read_106 {σ0 : zSt} {σ : zSt} {s0 : Int32} (h : (zQ [3, 5, 7, 9, 11, 12, 15, 17, 19, 21, 23, 25, 27, 28, 29, 30, 32, 34, 36, 40, 42, 44, 45] [] [5, 38, 46, 48] []) σ0 σ) : zpc (fX4_read_106 σ s0) (fun r => (zQ [3, 5, 7, 9, 11, 12, 15, 17, 19, 21, 23, 25, 27, 28, 29, 30, 32, 34, 36, 40, 42, 44, 45] [] [5, 38, 46, 48] []) σ0 (r.1)) := by
  unfold fX4_read_106
  exact zpc_some h
theorem fu_fX4_read_84 {σ0 : zSt} {σ : zSt} {s0 : Int32} (h : (zQ [3, 5, 7, 9, 11, 12, 15, 17, 19, 21, 23, 25, 27, 28, 29, 30, 32, 34, 36, 40, 42, 44, 45] [] [5, 38, 46, 48] []) σ0 σ) : zpc (fX4_read_84 σ s0) (fun r => (zQ [3, 5, 7, 9, 11, 12, 15, 17, 19, 21, 23, 25, 27, 28, 29, 30, 32, 34, 36, 40, 42, 44, 45] [] [5, 38, 46, 48] []) σ0 (r.1)) := by
  unfold fX4_read_84
  exact zpc_some h
theorem fu_fX4_read_62 {σ0 : zSt} {σ : zSt} {s0 : Int32} (h : (zQ [3, 5, 7, 9, 11, 12, 15, 17, 19, 21, 23, 25, 27, 28, 29, 30, 32, 34, 36, 40, 42, 44, 45] [] [5, 38, 46, 48] []) σ0 σ) : zpc (fX4_read_62 σ s0) (fun r => (zQ [3, 5, 7, 9, 11, 12, 15, 17, 19, 21, 23, 25, 27, 28, 29, 30, 32, 34, 36, 40, 42, 44, 45] [] [5, 38, 46, 48] []) σ0 (r.1)) := by
  unfold fX4_read_62
  exact zpc_some h
theorem fu_fX4_read_11 {σ0 : zSt} {σ : zSt} {x1 : Int32} {s0 : Int32} (h : (zQ [3, 5, 7, 9, 11, 12, 15, 17, 19, 21, 23, 25, 27, 28, 29, 30, 32, 34, 36, 40, 42, 44, 45] [] [5, 38, 46, 48] []) σ0 σ) : zpc (fX4_read_11 σ x1 s0) (fun r => (zQ [3, 5, 7, 9, 11, 12, 15, 17, 19, 21, 23, 25, 27, 28, 29, 30, 32, 34, 36, 40, 42, 44, 45] [] [5, 38, 46, 48] []) σ0 (r.1)) := by
  unfold fX4_read_11
  exact zpc_if (fun _ => zpc_if (fun _ => fu_fX4_read_62 h) (fun _ => zpc_bi (fu_fX4_readHandy h) (fun σ5 v6 hσ5 => fu_fX4_read_62 hσ5))) (fun _ => zpc_if (fun _ => zpc_if (fun _ => zpc_ck (fu_fX4_read_84 h)) (fun _ => zpc_bi (fu_fX9_vCount h) (fun σ7 v8 hσ7 => fu_fX4_read_84 hσ7))) (fun _ => zpc_if (fun _ => zpc_if (fun _ => zpc_bi (fu_fX9_readStatus h) (fun σ9 v10 hσ9 => fu_fX4_read_106 hσ9)) (fun _ => zpc_bi (fu_fX9_readData h) (fun σ11 v12 hσ11 => fu_fX4_read_106 hσ11))) (fun _ => zpc_if (fun _ => zpc_if (fun _ => zpc_bi (fu_fX10_value h) (fun σ13 v14 hσ13 => zpc_some hσ13)) (fun _ => fu_fX4_read_131 h)) (fun _ => fu_fX4_read_131 h))))
theorem fu_fX4_read {σ0 : zSt} {σ : zSt} {x1 : Int32} (h : (zQ [3, 5, 7, 9, 11, 12, 15, 17, 19, 21, 23, 25, 27, 28, 29, 30, 32, 34, 36, 40, 42, 44, 45] [] [5, 38, 46, 48] []) σ0 σ) : zpc (fX4_read σ x1) (fun r => (zQ [3, 5, 7, 9, 11, 12, 15, 17, 19, 21, 23, 25, 27, 28, 29, 30, 32, 34, 36, 40, 42, 44, 45] [] [5, 38, 46, 48] []) σ0 (r.1)) := by
  unfold fX4_read
  exact zpc_if (fun _ => fu_fX4_read_11 h) (fun _ => fu_fX4_read_11 h)
theorem fu_fX10_take_57 {σ0 : zSt} {σ : zSt} (h : (zQ [3, 5, 7, 9, 11, 12, 15, 17, 19, 21, 23, 25, 27, 28, 29, 30, 32, 34, 36, 40, 42, 44, 45] [] [5, 38, 46, 48] []) σ0 σ) : zpc (fX10_take_57 σ) (fun r => (zQ [3, 5, 7, 9, 11, 12, 15, 17, 19, 21, 23, 25, 27, 28, 29, 30, 32, 34, 36, 40, 42, 44, 45] [] [5, 38, 46, 48] []) σ0 (r)) := by
  unfold fX10_take_57
  exact zpc_some h
theorem fu_fX10_take {σ0 : zSt} {σ : zSt} {x1 : Int32} {x2 : Int32} (h : (zQ [3, 5, 7, 9, 11, 12, 15, 17, 19, 21, 23, 25, 27, 28, 29, 30, 32, 34, 36, 40, 42, 44, 45] [] [5, 38, 46, 48] []) σ0 σ) : zpc (fX10_take σ x1 x2) (fun r => (zQ [3, 5, 7, 9, 11, 12, 15, 17, 19, 21, 23, 25, 27, 28, 29, 30, 32, 34, 36, 40, 42, 44, 45] [] [5, 38, 46, 48] []) σ0 (r)) := by
  unfold fX10_take
  exact zpc_if (fun _ => zpc_ck (zpc_bs (zQ.wi h rfl) (fun σ3 hσ3 => fu_fX10_take_57 hσ3))) (fun _ => zpc_if (fun _ => zpc_ck (zpc_ck (zpc_bs (zQ.wi h rfl) (fun σ2 hσ2 => fu_fX10_take_57 hσ2)))) (fun _ => zpc_ck (zpc_bs (zQ.wi h rfl) (fun σ1 hσ1 => fu_fX10_take_57 hσ1))))
theorem fu_fX9_writeColour_72 {σ0 : zSt} {σ : zSt} (h : (zQ [3, 5, 7, 9, 11, 12, 15, 17, 19, 21, 23, 25, 27, 28, 29, 30, 32, 34, 36, 40, 42, 44, 45] [] [5, 38, 46, 48] []) σ0 σ) : zpc (fX9_writeColour_72 σ) (fun r => (zQ [3, 5, 7, 9, 11, 12, 15, 17, 19, 21, 23, 25, 27, 28, 29, 30, 32, 34, 36, 40, 42, 44, 45] [] [5, 38, 46, 48] []) σ0 (r)) := by
  unfold fX9_writeColour_72
  exact zpc_some h
theorem fu_fX9_writeColour {σ0 : zSt} {σ : zSt} {x1 : Int32} {x2 : Int32} (h : (zQ [3, 5, 7, 9, 11, 12, 15, 17, 19, 21, 23, 25, 27, 28, 29, 30, 32, 34, 36, 40, 42, 44, 45] [] [5, 38, 46, 48] []) σ0 σ) : zpc (fX9_writeColour σ x1 x2) (fun r => (zQ [3, 5, 7, 9, 11, 12, 15, 17, 19, 21, 23, 25, 27, 28, 29, 30, 32, 34, 36, 40, 42, 44, 45] [] [5, 38, 46, 48] []) σ0 (r)) := by
  unfold fX9_writeColour
  exact zpc_if (fun _ => zpc_ck (zpc_bs (zQ.wi h rfl) (fun σ4 hσ4 => fu_fX9_writeColour_72 hσ4))) (fun _ => zpc_if (fun _ => zpc_ck (zpc_bs (zQ.wi h rfl) (fun σ3 hσ3 => fu_fX9_writeColour_72 hσ3))) (fun _ => zpc_ck (zpc_ck (zpc_bs (zQ.wi h rfl) (fun σ1 hσ1 => zpc_ck (zpc_bs (zQ.wi hσ1 rfl) (fun σ2 hσ2 => fu_fX9_writeColour_72 hσ2)))))))
theorem fu_fX9_writeData_69 {σ0 : zSt} {σ : zSt} (h : (zQ [3, 5, 7, 9, 11, 12, 15, 17, 19, 21, 23, 25, 27, 28, 29, 30, 32, 34, 36, 40, 42, 44, 45] [] [5, 38, 46, 48] []) σ0 σ) : zpc (fX9_writeData_69 σ) (fun r => (zQ [3, 5, 7, 9, 11, 12, 15, 17, 19, 21, 23, 25, 27, 28, 29, 30, 32, 34, 36, 40, 42, 44, 45] [] [5, 38, 46, 48] []) σ0 (r)) := by
  unfold fX9_writeData_69
  exact zpc_some h
theorem fu_fX9_writeData {σ0 : zSt} {σ : zSt} {x1 : Int32} (h : (zQ [3, 5, 7, 9, 11, 12, 15, 17, 19, 21, 23, 25, 27, 28, 29, 30, 32, 34, 36, 40, 42, 44, 45] [] [5, 38, 46, 48] []) σ0 σ) : zpc (fX9_writeData σ x1) (fun r => (zQ [3, 5, 7, 9, 11, 12, 15, 17, 19, 21, 23, 25, 27, 28, 29, 30, 32, 34, 36, 40, 42, 44, 45] [] [5, 38, 46, 48] []) σ0 (r)) := by
  unfold fX9_writeData
  exact zpc_ck (zpc_bv (fun v1 _ => zpc_ck (zpc_bs (zQ.wi h rfl) (fun σ2 hσ2 => zpc_ck (zpc_bs (zQ.wi hσ2 rfl) (fun σ3 hσ3 => zpc_ck (zpc_bs (zQ.wi hσ3 rfl) (fun σ4 hσ4 => zpc_ck (zpc_if (fun _ => zpc_bu (fu_fX9_writeColour hσ4) (fun σ6 hσ6 => fu_fX9_writeData_69 hσ6)) (fun _ => zpc_ck (zpc_bs (zQ.wi hσ4 rfl) (fun σ5 hσ5 => fu_fX9_writeData_69 hσ5))))))))))))
theorem fu_fX9_writeControl_141 {σ0 : zSt} {σ : zSt} (h : (zQ [3, 5, 7, 9, 11, 12, 15, 17, 19, 21, 23, 25, 27, 28, 29, 30, 32, 34, 36, 40, 42, 44, 45] [] [5, 38, 46, 48] []) σ0 σ) : zpc (fX9_writeControl_141 σ) (fun r => (zQ [3, 5, 7, 9, 11, 12, 15, 17, 19, 21, 23, 25, 27, 28, 29, 30, 32, 34, 36, 40, 42, 44, 45] [] [5, 38, 46, 48] []) σ0 (r)) := by
  unfold fX9_writeControl_141
  exact zpc_some h
theorem fu_fX9_writeControl {σ0 : zSt} {σ : zSt} {x1 : Int32} (h : (zQ [3, 5, 7, 9, 11, 12, 15, 17, 19, 21, 23, 25, 27, 28, 29, 30, 32, 34, 36, 40, 42, 44, 45] [] [5, 38, 46, 48] []) σ0 σ) : zpc (fX9_writeControl σ x1) (fun r => (zQ [3, 5, 7, 9, 11, 12, 15, 17, 19, 21, 23, 25, 27, 28, 29, 30, 32, 34, 36, 40, 42, 44, 45] [] [5, 38, 46, 48] []) σ0 (r)) := by
  unfold fX9_writeControl
  exact zpc_ck (zpc_if (fun _ => zpc_ck (zpc_ck (zpc_bs (zQ.wi h rfl) (fun σ6 hσ6 => zpc_ck (zpc_bs (zQ.wi hσ6 rfl) (fun σ7 hσ7 => zpc_some hσ7)))))) (fun _ => zpc_ck (zpc_bs (zQ.wi h rfl) (fun σ1 hσ1 => zpc_ck (zpc_ck (zpc_bs (zQ.wi hσ1 rfl) (fun σ2 hσ2 => zpc_ck (zpc_bs (zQ.wi hσ2 rfl) (fun σ3 hσ3 => zpc_ck (zpc_if (fun _ => zpc_bu (fu_fX9_readAhead hσ3) (fun σ5 hσ5 => fu_fX9_writeControl_141 hσ5)) (fun _ => zpc_ck (zpc_if (fun _ => zpc_if (fun _ => fu_fX9_writeControl_141 hσ3) (fun _ => zpc_ck (zpc_ck (zpc_bs (zQ.wi hσ3 rfl) (fun σ4 hσ4 => fu_fX9_writeControl_141 hσ4))))) (fun _ => fu_fX9_writeControl_141 hσ3)))))))))))))
theorem fu_fX7_take_155 {σ0 : zSt} {σ : zSt} (h : (zQ [3, 5, 7, 9, 11, 12, 15, 17, 19, 21, 23, 25, 27, 28, 29, 30, 32, 34, 36, 40, 42, 44, 45] [] [5, 38, 46, 48] []) σ0 σ) : zpc (fX7_take_155 σ) (fun r => (zQ [3, 5, 7, 9, 11, 12, 15, 17, 19, 21, 23, 25, 27, 28, 29, 30, 32, 34, 36, 40, 42, 44, 45] [] [5, 38, 46, 48] []) σ0 (r)) := by
  unfold fX7_take_155
  exact zpc_some h
theorem fu_fX7_take_30 {σ0 : zSt} {σ : zSt} {x1 : Int32} {x2 : Int32} (h : (zQ [3, 5, 7, 9, 11, 12, 15, 17, 19, 21, 23, 25, 27, 28, 29, 30, 32, 34, 36, 40, 42, 44, 45] [] [5, 38, 46, 48] []) σ0 σ) : zpc (fX7_take_30 σ x1 x2) (fun r => (zQ [3, 5, 7, 9, 11, 12, 15, 17, 19, 21, 23, 25, 27, 28, 29, 30, 32, 34, 36, 40, 42, 44, 45] [] [5, 38, 46, 48] []) σ0 (r)) := by
  unfold fX7_take_30
  exact zpc_ck (zpc_bv (fun v1 _ => zpc_ck (zpc_if (fun _ => zpc_ck (zpc_bs (zQ.wi h rfl) (fun σ6 hσ6 => fu_fX7_take_155 hσ6))) (fun _ => zpc_if (fun _ => zpc_ck (zpc_bs (zQ.wi h rfl) (fun σ4 hσ4 => zpc_ck (zpc_bs (zQ.wi hσ4 rfl) (fun σ5 hσ5 => fu_fX7_take_155 hσ5))))) (fun _ => zpc_if (fun _ => zpc_ck (zpc_ck (zpc_bs (zQ.wi h rfl) (fun σ2 hσ2 => fu_fX7_take_155 hσ2)))) (fun _ => zpc_ck (zpc_ck (zpc_bs (zQ.wi h rfl) (fun σ3 hσ3 => fu_fX7_take_155 hσ3)))))))))
theorem fu_fX7_take_12 {σ0 : zSt} {σ : zSt} {x1 : Int32} {s0 : Int32} (h : (zQ [3, 5, 7, 9, 11, 12, 15, 17, 19, 21, 23, 25, 27, 28, 29, 30, 32, 34, 36, 40, 42, 44, 45] [] [5, 38, 46, 48] []) σ0 σ) : zpc (fX7_take_12 σ x1 s0) (fun r => (zQ [3, 5, 7, 9, 11, 12, 15, 17, 19, 21, 23, 25, 27, 28, 29, 30, 32, 34, 36, 40, 42, 44, 45] [] [5, 38, 46, 48] []) σ0 (r)) := by
  unfold fX7_take_12
  exact zpc_if (fun _ => fu_fX7_take_30 h) (fun _ => zpc_ck (zpc_bs (zQ.wi h rfl) (fun σ7 hσ7 => fu_fX7_take_30 hσ7)))
theorem fu_fX7_take {σ0 : zSt} {σ : zSt} {x1 : Int32} (h : (zQ [3, 5, 7, 9, 11, 12, 15, 17, 19, 21, 23, 25, 27, 28, 29, 30, 32, 34, 36, 40, 42, 44, 45] [] [5, 38, 46, 48] []) σ0 σ) : zpc (fX7_take σ x1) (fun r => (zQ [3, 5, 7, 9, 11, 12, 15, 17, 19, 21, 23, 25, 27, 28, 29, 30, 32, 34, 36, 40, 42, 44, 45] [] [5, 38, 46, 48] []) σ0 (r)) := by
  unfold fX7_take
  exact zpc_if (fun _ => fu_fX7_take_12 h) (fun _ => fu_fX7_take_12 h)
theorem fu_fX7_takeStereo {σ0 : zSt} {σ : zSt} {x1 : Int32} (h : (zQ [3, 5, 7, 9, 11, 12, 15, 17, 19, 21, 23, 25, 27, 28, 29, 30, 32, 34, 36, 40, 42, 44, 45] [] [5, 38, 46, 48] []) σ0 σ) : zpc (fX7_takeStereo σ x1) (fun r => (zQ [3, 5, 7, 9, 11, 12, 15, 17, 19, 21, 23, 25, 27, 28, 29, 30, 32, 34, 36, 40, 42, 44, 45] [] [5, 38, 46, 48] []) σ0 (r)) := by
  unfold fX7_takeStereo
  exact zpc_ck (zpc_bs (zQ.wi h rfl) (fun σ1 hσ1 => zpc_some hσ1))
theorem fu_fX4_writeHandy_34 {σ0 : zSt} {σ : zSt} (h : (zQ [3, 5, 7, 9, 11, 12, 15, 17, 19, 21, 23, 25, 27, 28, 29, 30, 32, 34, 36, 40, 42, 44, 45] [] [5, 38, 46, 48] []) σ0 σ) : zpc (fX4_writeHandy_34 σ) (fun r => (zQ [3, 5, 7, 9, 11, 12, 15, 17, 19, 21, 23, 25, 27, 28, 29, 30, 32, 34, 36, 40, 42, 44, 45] [] [5, 38, 46, 48] []) σ0 (r)) := by
  unfold fX4_writeHandy_34
  exact zpc_some h
theorem fu_fX4_writeHandy {σ0 : zSt} {σ : zSt} {x1 : Int32} {x2 : Int32} (h : (zQ [3, 5, 7, 9, 11, 12, 15, 17, 19, 21, 23, 25, 27, 28, 29, 30, 32, 34, 36, 40, 42, 44, 45] [] [5, 38, 46, 48] []) σ0 σ) : zpc (fX4_writeHandy σ x1 x2) (fun r => (zQ [3, 5, 7, 9, 11, 12, 15, 17, 19, 21, 23, 25, 27, 28, 29, 30, 32, 34, 36, 40, 42, 44, 45] [] [5, 38, 46, 48] []) σ0 (r)) := by
  unfold fX4_writeHandy
  exact zpc_if (fun _ => zpc_bu (fu_fX7_takeStereo h) (fun σ2 hσ2 => fu_fX4_writeHandy_34 hσ2)) (fun _ => zpc_if (fun _ => fu_fX4_writeHandy_34 h) (fun _ => zpc_if (fun _ => fu_fX4_writeHandy_34 h) (fun _ => zpc_ck (zpc_bs (zQ.wi h rfl) (fun σ1 hσ1 => fu_fX4_writeHandy_34 hσ1)))))
theorem fu_fX4_write_151 {σ0 : zSt} {σ : zSt} (h : (zQ [3, 5, 7, 9, 11, 12, 15, 17, 19, 21, 23, 25, 27, 28, 29, 30, 32, 34, 36, 40, 42, 44, 45] [] [5, 38, 46, 48] []) σ0 σ) : zpc (fX4_write_151 σ) (fun r => (zQ [3, 5, 7, 9, 11, 12, 15, 17, 19, 21, 23, 25, 27, 28, 29, 30, 32, 34, 36, 40, 42, 44, 45] [] [5, 38, 46, 48] []) σ0 (r)) := by
  unfold fX4_write_151
  exact zpc_some h
theorem fu_fX4_write_71 {σ0 : zSt} {σ : zSt} {x2 : Int32} {x3 : Int32} (h : (zQ [3, 5, 7, 9, 11, 12, 15, 17, 19, 21, 23, 25, 27, 28, 29, 30, 32, 34, 36, 40, 42, 44, 45] [] [5, 38, 46, 48] []) σ0 σ) : zpc (fX4_write_71 σ x2 x3) (fun r => (zQ [3, 5, 7, 9, 11, 12, 15, 17, 19, 21, 23, 25, 27, 28, 29, 30, 32, 34, 36, 40, 42, 44, 45] [] [5, 38, 46, 48] []) σ0 (r)) := by
  unfold fX4_write_71
  exact zpc_if (fun _ => zpc_bu (fu_fX4_changeLines h) (fun σ1 hσ1 => fu_fX4_write_151 hσ1)) (fun _ => fu_fX4_write_151 h)
theorem fu_fX4_write_11 {σ0 : zSt} {σ : zSt} {x1 : Int32} {x2 : Int32} {s0 : Int32} (h : (zQ [3, 5, 7, 9, 11, 12, 15, 17, 19, 21, 23, 25, 27, 28, 29, 30, 32, 34, 36, 40, 42, 44, 45] [] [5, 38, 46, 48] []) σ0 σ) : zpc (fX4_write_11 σ x1 x2 s0) (fun r => (zQ [3, 5, 7, 9, 11, 12, 15, 17, 19, 21, 23, 25, 27, 28, 29, 30, 32, 34, 36, 40, 42, 44, 45] [] [5, 38, 46, 48] []) σ0 (r)) := by
  unfold fX4_write_11
  exact zpc_if (fun _ => zpc_if (fun _ => fu_fX4_write_71 h) (fun _ => zpc_if (fun _ => fu_fX4_write_71 h) (fun _ => zpc_if (fun _ => fu_fX4_write_71 h) (fun _ => zpc_bu (fu_fX4_writeHandy h) (fun σ2 hσ2 => fu_fX4_write_151 hσ2))))) (fun _ => zpc_if (fun _ => zpc_bu (fu_fX7_take h) (fun σ3 hσ3 => fu_fX4_write_151 hσ3)) (fun _ => zpc_if (fun _ => zpc_if (fun _ => zpc_bu (fu_fX9_writeControl h) (fun σ4 hσ4 => fu_fX4_write_151 hσ4)) (fun _ => zpc_bu (fu_fX9_writeData h) (fun σ5 hσ5 => fu_fX4_write_151 hσ5))) (fun _ => zpc_if (fun _ => zpc_if (fun _ => fu_fX4_write_151 h) (fun _ => zpc_if (fun _ => fu_fX4_write_151 h) (fun _ => zpc_bu (fu_fX10_take h) (fun σ6 hσ6 => fu_fX4_write_151 hσ6)))) (fun _ => fu_fX4_write_151 h))))
theorem fu_fX4_write {σ0 : zSt} {σ : zSt} {x1 : Int32} {x2 : Int32} (h : (zQ [3, 5, 7, 9, 11, 12, 15, 17, 19, 21, 23, 25, 27, 28, 29, 30, 32, 34, 36, 40, 42, 44, 45] [] [5, 38, 46, 48] []) σ0 σ) : zpc (fX4_write σ x1 x2) (fun r => (zQ [3, 5, 7, 9, 11, 12, 15, 17, 19, 21, 23, 25, 27, 28, 29, 30, 32, 34, 36, 40, 42, 44, 45] [] [5, 38, 46, 48] []) σ0 (r)) := by
  unfold fX4_write
  exact zpc_if (fun _ => fu_fX4_write_11 h) (fun _ => fu_fX4_write_11 h)
theorem fu_fJ7_fill_53178_k36_5_body {σ0 : zSt} {k5 : zSt → Int32 → Int32 → Int32 → Option (zSt)} (hk5 : ∀ (y0 : zSt) (y1 : Int32) (y2 : Int32) (y3 : Int32), (zQ [3, 5, 7, 9, 11, 12, 15, 17, 19, 21, 23, 25, 27, 28, 29, 30, 32, 34, 36, 40, 42, 44, 45] [] [5, 38, 46, 48] []) σ0 y0 → zpc (k5 y0 y1 y2 y3) (fun r => (zQ [3, 5, 7, 9, 11, 12, 15, 17, 19, 21, 23, 25, 27, 28, 29, 30, 32, 34, 36, 40, 42, 44, 45] [] [5, 38, 46, 48] []) σ0 (r))) {σ : zSt} {x1 : Int32} {x2 : Int32} {x3 : Int32} (h : (zQ [3, 5, 7, 9, 11, 12, 15, 17, 19, 21, 23, 25, 27, 28, 29, 30, 32, 34, 36, 40, 42, 44, 45] [] [5, 38, 46, 48] []) σ0 σ) : zpc (fJ7_fill_53178_k36_5_body k5 σ x1 x2 x3) (fun r => (zQ [3, 5, 7, 9, 11, 12, 15, 17, 19, 21, 23, 25, 27, 28, 29, 30, 32, 34, 36, 40, 42, 44, 45] [] [5, 38, 46, 48] []) σ0 (r)) := by
  unfold fJ7_fill_53178_k36_5_body
  exact zpc_if (fun _ => zpc_some h) (fun _ => zpc_ck (zpc_bs (zQ.wi h rfl) (fun σ1 hσ1 => zpc_bv (fun v2 _ => hk5 _ _ _ _ hσ1))))
theorem fu_fJ7_fill_53178_k36_5 {σ0 : zSt} : ∀ (n : Nat) (y0 : zSt) (y1 : Int32) (y2 : Int32) (y3 : Int32), (zQ [3, 5, 7, 9, 11, 12, 15, 17, 19, 21, 23, 25, 27, 28, 29, 30, 32, 34, 36, 40, 42, 44, 45] [] [5, 38, 46, 48] []) σ0 y0 → zpc (fJ7_fill_53178_k36_5 n y0 y1 y2 y3) (fun r => (zQ [3, 5, 7, 9, 11, 12, 15, 17, 19, 21, 23, 25, 27, 28, 29, 30, 32, 34, 36, 40, 42, 44, 45] [] [5, 38, 46, 48] []) σ0 (r)) := by
  intro n
  induction n with
  | zero => intro y0 y1 y2 y3 h; exact zpc_none
  | succ n ih => intro y0 y1 y2 y3 h; exact fu_fJ7_fill_53178_k36_5_body ih h
theorem fu_fJ7_fill_53178_k36 {σ0 : zSt} {σ : zSt} {x1 : Int32} (h : (zQ [3, 5, 7, 9, 11, 12, 15, 17, 19, 21, 23, 25, 27, 28, 29, 30, 32, 34, 36, 40, 42, 44, 45] [] [5, 38, 46, 48] []) σ0 σ) : zpc (fJ7_fill_53178_k36 σ x1) (fun r => (zQ [3, 5, 7, 9, 11, 12, 15, 17, 19, 21, 23, 25, 27, 28, 29, 30, 32, 34, 36, 40, 42, 44, 45] [] [5, 38, 46, 48] []) σ0 (r)) := by
  unfold fJ7_fill_53178_k36
  exact fu_fJ7_fill_53178_k36_5 _ _ _ _ _ h
theorem fu_fX5_clear {σ0 : zSt} {σ : zSt} (h : (zQ [3, 5, 7, 9, 11, 12, 15, 17, 19, 21, 23, 25, 27, 28, 29, 30, 32, 34, 36, 40, 42, 44, 45] [] [5, 38, 46, 48] []) σ0 σ) : zpc (fX5_clear σ) (fun r => (zQ [3, 5, 7, 9, 11, 12, 15, 17, 19, 21, 23, 25, 27, 28, 29, 30, 32, 34, 36, 40, 42, 44, 45] [] [5, 38, 46, 48] []) σ0 (r)) := by
  unfold fX5_clear
  exact zpc_bu (fu_fJ7_fill_53178_k36 h) (fun σ1 hσ1 => zpc_ck (zpc_bs (zQ.wi hσ1 rfl) (fun σ2 hσ2 => zpc_some hσ2)))
theorem fu_fX5_value_20 {σ0 : zSt} {σ : zSt} {s0 : Int32} (h : (zQ [3, 5, 7, 9, 11, 12, 15, 17, 19, 21, 23, 25, 27, 28, 29, 30, 32, 34, 36, 40, 42, 44, 45] [] [5, 38, 46, 48] []) σ0 σ) : zpc (fX5_value_20 σ s0) (fun r => (zQ [3, 5, 7, 9, 11, 12, 15, 17, 19, 21, 23, 25, 27, 28, 29, 30, 32, 34, 36, 40, 42, 44, 45] [] [5, 38, 46, 48] []) σ0 (r.1)) := by
  unfold fX5_value_20
  exact zpc_some h
theorem fu_fX5_value_19 {σ0 : zSt} {σ : zSt} (h : (zQ [3, 5, 7, 9, 11, 12, 15, 17, 19, 21, 23, 25, 27, 28, 29, 30, 32, 34, 36, 40, 42, 44, 45] [] [5, 38, 46, 48] []) σ0 σ) : zpc (fX5_value_19 σ) (fun r => (zQ [3, 5, 7, 9, 11, 12, 15, 17, 19, 21, 23, 25, 27, 28, 29, 30, 32, 34, 36, 40, 42, 44, 45] [] [5, 38, 46, 48] []) σ0 (r.1)) := by
  unfold fX5_value_19
  exact fu_fX5_value_20 h
theorem fu_fX5_value {σ0 : zSt} {σ : zSt} {x1 : Int32} (h : (zQ [3, 5, 7, 9, 11, 12, 15, 17, 19, 21, 23, 25, 27, 28, 29, 30, 32, 34, 36, 40, 42, 44, 45] [] [5, 38, 46, 48] []) σ0 σ) : zpc (fX5_value σ x1) (fun r => (zQ [3, 5, 7, 9, 11, 12, 15, 17, 19, 21, 23, 25, 27, 28, 29, 30, 32, 34, 36, 40, 42, 44, 45] [] [5, 38, 46, 48] []) σ0 (r.1)) := by
  unfold fX5_value
  exact zpc_if (fun _ => fu_fX5_value_19 h) (fun _ => zpc_if (fun _ => fu_fX5_value_19 h) (fun _ => zpc_ck (fu_fX5_value_20 h)))
theorem fu_fX5_change_10 {σ0 : zSt} {σ : zSt} (h : (zQ [3, 5, 7, 9, 11, 12, 15, 17, 19, 21, 23, 25, 27, 28, 29, 30, 32, 34, 36, 40, 42, 44, 45] [] [5, 38, 46, 48] []) σ0 σ) : zpc (fX5_change_10 σ) (fun r => (zQ [3, 5, 7, 9, 11, 12, 15, 17, 19, 21, 23, 25, 27, 28, 29, 30, 32, 34, 36, 40, 42, 44, 45] [] [5, 38, 46, 48] []) σ0 (r)) := by
  unfold fX5_change_10
  exact zpc_some h
theorem fu_fX5_change_81 {σ0 : zSt} {σ : zSt} (h : (zQ [3, 5, 7, 9, 11, 12, 15, 17, 19, 21, 23, 25, 27, 28, 29, 30, 32, 34, 36, 40, 42, 44, 45] [] [5, 38, 46, 48] []) σ0 σ) : zpc (fX5_change_81 σ) (fun r => (zQ [3, 5, 7, 9, 11, 12, 15, 17, 19, 21, 23, 25, 27, 28, 29, 30, 32, 34, 36, 40, 42, 44, 45] [] [5, 38, 46, 48] []) σ0 (r)) := by
  unfold fX5_change_81
  exact zpc_some h
theorem fu_fX5_change_80 {σ0 : zSt} {σ : zSt} {s0 : Int32} {s1 : Int32} (h : (zQ [3, 5, 7, 9, 11, 12, 15, 17, 19, 21, 23, 25, 27, 28, 29, 30, 32, 34, 36, 40, 42, 44, 45] [] [5, 38, 46, 48] []) σ0 σ) : zpc (fX5_change_80 σ s0 s1) (fun r => (zQ [3, 5, 7, 9, 11, 12, 15, 17, 19, 21, 23, 25, 27, 28, 29, 30, 32, 34, 36, 40, 42, 44, 45] [] [5, 38, 46, 48] []) σ0 (r)) := by
  unfold fX5_change_80
  exact zpc_ck (zpc_bs (zQ.wi h rfl) (fun σ1 hσ1 => fu_fX5_change_81 hσ1))
theorem fu_fX5_change_75 {σ0 : zSt} {σ : zSt} {x2 : Int32} {s0 : Int32} (h : (zQ [3, 5, 7, 9, 11, 12, 15, 17, 19, 21, 23, 25, 27, 28, 29, 30, 32, 34, 36, 40, 42, 44, 45] [] [5, 38, 46, 48] []) σ0 σ) : zpc (fX5_change_75 σ x2 s0) (fun r => (zQ [3, 5, 7, 9, 11, 12, 15, 17, 19, 21, 23, 25, 27, 28, 29, 30, 32, 34, 36, 40, 42, 44, 45] [] [5, 38, 46, 48] []) σ0 (r)) := by
  unfold fX5_change_75
  exact fu_fX5_change_80 h
theorem fu_fX5_change {σ0 : zSt} {σ : zSt} {x1 : Int32} {x2 : Int32} (h : (zQ [3, 5, 7, 9, 11, 12, 15, 17, 19, 21, 23, 25, 27, 28, 29, 30, 32, 34, 36, 40, 42, 44, 45] [] [5, 38, 46, 48] []) σ0 σ) : zpc (fX5_change σ x1 x2) (fun r => (zQ [3, 5, 7, 9, 11, 12, 15, 17, 19, 21, 23, 25, 27, 28, 29, 30, 32, 34, 36, 40, 42, 44, 45] [] [5, 38, 46, 48] []) σ0 (r)) := by
  unfold fX5_change
  exact zpc_if (fun _ => fu_fX5_change_10 h) (fun _ => zpc_if (fun _ => zpc_if (fun _ => zpc_ck (zpc_bs (zQ.wi h rfl) (fun σ3 hσ3 => fu_fX5_change_81 hσ3))) (fun _ => zpc_if (fun _ => zpc_if (fun _ => fu_fX5_change_75 h) (fun _ => zpc_if (fun _ => fu_fX5_change_75 h) (fun _ => fu_fX5_change_80 h))) (fun _ => zpc_ck (zpc_bs (zQ.wi h rfl) (fun σ2 hσ2 => fu_fX5_change_81 hσ2))))) (fun _ => fu_fX5_change_10 h))
theorem fu_fX5_askForPause {σ0 : zSt} {σ : zSt} (h : (zQ [3, 5, 7, 9, 11, 12, 15, 17, 19, 21, 23, 25, 27, 28, 29, 30, 32, 34, 36, 40, 42, 44, 45] [] [5, 38, 46, 48] []) σ0 σ) : zpc (fX5_askForPause σ) (fun r => (zQ [3, 5, 7, 9, 11, 12, 15, 17, 19, 21, 23, 25, 27, 28, 29, 30, 32, 34, 36, 40, 42, 44, 45] [] [5, 38, 46, 48] []) σ0 (r)) := by
  unfold fX5_askForPause
  exact zpc_ck (zpc_bs (zQ.wi h rfl) (fun σ1 hσ1 => zpc_some hσ1))
theorem fu_fX5_growR {σ0 : zSt} {σ : zSt} (h : (zQ [3, 5, 7, 9, 11, 12, 15, 17, 19, 21, 23, 25, 27, 28, 29, 30, 32, 34, 36, 40, 42, 44, 45] [] [5, 38, 46, 48] []) σ0 σ) : zpc (fX5_growR σ) (fun r => (zQ [3, 5, 7, 9, 11, 12, 15, 17, 19, 21, 23, 25, 27, 28, 29, 30, 32, 34, 36, 40, 42, 44, 45] [] [5, 38, 46, 48] []) σ0 (r)) := by
  unfold fX5_growR
  exact zpc_ck (zpc_ck (zpc_ck (zpc_bs (zQ.wi h rfl) (fun σ1 hσ1 => zpc_some hσ1))))
theorem fu_fX5_push {σ0 : zSt} {σ : zSt} {x1 : Int32} (h : (zQ [3, 5, 7, 9, 11, 12, 15, 17, 19, 21, 23, 25, 27, 28, 29, 30, 32, 34, 36, 40, 42, 44, 45] [] [5, 38, 46, 48] []) σ0 σ) : zpc (fX5_push σ x1) (fun r => (zQ [3, 5, 7, 9, 11, 12, 15, 17, 19, 21, 23, 25, 27, 28, 29, 30, 32, 34, 36, 40, 42, 44, 45] [] [5, 38, 46, 48] []) σ0 (r)) := by
  unfold fX5_push
  exact zpc_ck (zpc_bu (fu_fX2_write h) (fun σ1 hσ1 => zpc_ck (zpc_bu (fu_fX2_write hσ1) (fun σ2 hσ2 => zpc_ck (zpc_ck (zpc_bs (zQ.wi hσ2 rfl) (fun σ3 hσ3 => zpc_some hσ3)))))))
theorem fu_fX5_goTo {σ0 : zSt} {σ : zSt} {x1 : Int32} (h : (zQ [3, 5, 7, 9, 11, 12, 15, 17, 19, 21, 23, 25, 27, 28, 29, 30, 32, 34, 36, 40, 42, 44, 45] [] [5, 38, 46, 48] []) σ0 σ) : zpc (fX5_goTo σ x1) (fun r => (zQ [3, 5, 7, 9, 11, 12, 15, 17, 19, 21, 23, 25, 27, 28, 29, 30, 32, 34, 36, 40, 42, 44, 45] [] [5, 38, 46, 48] []) σ0 (r)) := by
  unfold fX5_goTo
  exact zpc_ck (zpc_bs (zQ.wi h rfl) (fun σ1 hσ1 => zpc_ck (zpc_bs (zQ.wi hσ1 rfl) (fun σ2 hσ2 => zpc_some hσ2))))
theorem fu_fX5_breakOff {σ0 : zSt} {σ : zSt} {x1 : Int32} (h : (zQ [3, 5, 7, 9, 11, 12, 15, 17, 19, 21, 23, 25, 27, 28, 29, 30, 32, 34, 36, 40, 42, 44, 45] [] [5, 38, 46, 48] []) σ0 σ) : zpc (fX5_breakOff σ x1) (fun r => (zQ [3, 5, 7, 9, 11, 12, 15, 17, 19, 21, 23, 25, 27, 28, 29, 30, 32, 34, 36, 40, 42, 44, 45] [] [5, 38, 46, 48] []) σ0 (r)) := by
  unfold fX5_breakOff
  exact zpc_bu (fu_fX5_growR h) (fun σ1 hσ1 => zpc_ck (zpc_bs (zQ.wi hσ1 rfl) (fun σ2 hσ2 => zpc_ck (zpc_bu (fu_fX5_push hσ2) (fun σ3 hσ3 => zpc_bu (fu_fX5_goTo hσ3) (fun σ4 hσ4 => zpc_some hσ4))))))
theorem fu_fX5_readWord {σ0 : zSt} {σ : zSt} {x1 : Int32} (h : (zQ [3, 5, 7, 9, 11, 12, 15, 17, 19, 21, 23, 25, 27, 28, 29, 30, 32, 34, 36, 40, 42, 44, 45] [] [5, 38, 46, 48] []) σ0 σ) : zpc (fX5_readWord σ x1) (fun r => (zQ [3, 5, 7, 9, 11, 12, 15, 17, 19, 21, 23, 25, 27, 28, 29, 30, 32, 34, 36, 40, 42, 44, 45] [] [5, 38, 46, 48] []) σ0 (r.1)) := by
  unfold fX5_readWord
  exact zpc_bi (fu_fX2_read h) (fun σ1 v2 hσ1 => zpc_bi (fu_fX2_read hσ1) (fun σ3 v4 hσ3 => zpc_some hσ3))
theorem fu_fX5_answerCalls_82 {σ0 : zSt} {σ : zSt} (h : (zQ [3, 5, 7, 9, 11, 12, 15, 17, 19, 21, 23, 25, 27, 28, 29, 30, 32, 34, 36, 40, 42, 44, 45] [] [5, 38, 46, 48] []) σ0 σ) : zpc (fX5_answerCalls_82 σ) (fun r => (zQ [3, 5, 7, 9, 11, 12, 15, 17, 19, 21, 23, 25, 27, 28, 29, 30, 32, 34, 36, 40, 42, 44, 45] [] [5, 38, 46, 48] []) σ0 (r.1)) := by
  unfold fX5_answerCalls_82
  exact zpc_some h
theorem fu_fX5_answerCalls_64 {σ0 : zSt} {σ : zSt} {x1 : Int32} {x2 : Int32} (h : (zQ [3, 5, 7, 9, 11, 12, 15, 17, 19, 21, 23, 25, 27, 28, 29, 30, 32, 34, 36, 40, 42, 44, 45] [] [5, 38, 46, 48] []) σ0 σ) : zpc (fX5_answerCalls_64 σ x1 x2) (fun r => (zQ [3, 5, 7, 9, 11, 12, 15, 17, 19, 21, 23, 25, 27, 28, 29, 30, 32, 34, 36, 40, 42, 44, 45] [] [5, 38, 46, 48] []) σ0 (r.1)) := by
  unfold fX5_answerCalls_64
  exact zpc_if (fun _ => fu_fX5_answerCalls_82 h) (fun _ => zpc_if (fun _ => fu_fX5_answerCalls_82 h) (fun _ => zpc_ck (zpc_if (fun _ => fu_fX5_answerCalls_82 h) (fun _ => zpc_ck (zpc_bs (zQ.wi h rfl) (fun σ1 hσ1 => zpc_ck (zpc_bs (zQ.wi hσ1 rfl) (fun σ2 hσ2 => zpc_ck (zpc_if (fun _ => zpc_ck (zpc_bi (fu_fX5_readWord hσ2) (fun σ4 v5 hσ4 => zpc_bu (fu_fX5_breakOff hσ4) (fun σ6 hσ6 => zpc_some hσ6)))) (fun _ => zpc_bu (fu_fX5_breakOff hσ2) (fun σ3 hσ3 => zpc_some hσ3)))))))))))
theorem fu_fX5_answerCalls_15 {σ0 : zSt} {σ : zSt} {x1 : Int32} {s0 : Int32} (h : (zQ [3, 5, 7, 9, 11, 12, 15, 17, 19, 21, 23, 25, 27, 28, 29, 30, 32, 34, 36, 40, 42, 44, 45] [] [5, 38, 46, 48] []) σ0 σ) : zpc (fX5_answerCalls_15 σ x1 s0) (fun r => (zQ [3, 5, 7, 9, 11, 12, 15, 17, 19, 21, 23, 25, 27, 28, 29, 30, 32, 34, 36, 40, 42, 44, 45] [] [5, 38, 46, 48] []) σ0 (r.1)) := by
  unfold fX5_answerCalls_15
  exact zpc_ck (zpc_bs (zQ.wi h rfl) (fun σ7 hσ7 => zpc_if (fun _ => fu_fX5_answerCalls_64 hσ7) (fun _ => zpc_ck (zpc_if (fun _ => zpc_ck (zpc_bs (zQ.wi hσ7 rfl) (fun σ8 hσ8 => zpc_ck (zpc_bs (zQ.wi hσ8 rfl) (fun σ9 hσ9 => zpc_bu (fu_fX5_breakOff hσ9) (fun σ10 hσ10 => zpc_some hσ10)))))) (fun _ => fu_fX5_answerCalls_64 hσ7)))))
theorem fu_fX5_answerCalls {σ0 : zSt} {σ : zSt} {x1 : Int32} (h : (zQ [3, 5, 7, 9, 11, 12, 15, 17, 19, 21, 23, 25, 27, 28, 29, 30, 32, 34, 36, 40, 42, 44, 45] [] [5, 38, 46, 48] []) σ0 σ) : zpc (fX5_answerCalls σ x1) (fun r => (zQ [3, 5, 7, 9, 11, 12, 15, 17, 19, 21, 23, 25, 27, 28, 29, 30, 32, 34, 36, 40, 42, 44, 45] [] [5, 38, 46, 48] []) σ0 (r.1)) := by
  unfold fX5_answerCalls
  exact zpc_ck (zpc_if (fun _ => fu_fX5_answerCalls_15 h) (fun _ => fu_fX5_answerCalls_15 h))
theorem fu_fX5_pairAt {σ0 : zSt} {σ : zSt} {x1 : Int32} (h : (zQ [3, 5, 7, 9, 11, 12, 15, 17, 19, 21, 23, 25, 27, 28, 29, 30, 32, 34, 36, 40, 42, 44, 45] [] [5, 38, 46, 48] []) σ0 σ) : zpc (fX5_pairAt σ x1) (fun r => (zQ [3, 5, 7, 9, 11, 12, 15, 17, 19, 21, 23, 25, 27, 28, 29, 30, 32, 34, 36, 40, 42, 44, 45] [] [5, 38, 46, 48] []) σ0 (r.1)) := by
  unfold fX5_pairAt
  exact zpc_ck (zpc_ck (zpc_some h))
theorem fu_fX5_fetch {σ0 : zSt} {σ : zSt} (h : (zQ [3, 5, 7, 9, 11, 12, 15, 17, 19, 21, 23, 25, 27, 28, 29, 30, 32, 34, 36, 40, 42, 44, 45] [] [5, 38, 46, 48] []) σ0 σ) : zpc (fX5_fetch σ) (fun r => (zQ [3, 5, 7, 9, 11, 12, 15, 17, 19, 21, 23, 25, 27, 28, 29, 30, 32, 34, 36, 40, 42, 44, 45] [] [5, 38, 46, 48] []) σ0 (r.1)) := by
  unfold fX5_fetch
  exact zpc_ck (zpc_bi (fu_fX2_read h) (fun σ1 v2 hσ1 => zpc_ck (zpc_ck (zpc_bs (zQ.wi hσ1 rfl) (fun σ3 hσ3 => zpc_some hσ3)))))
theorem fu_fX5_fetchOp {σ0 : zSt} {σ : zSt} (h : (zQ [3, 5, 7, 9, 11, 12, 15, 17, 19, 21, 23, 25, 27, 28, 29, 30, 32, 34, 36, 40, 42, 44, 45] [] [5, 38, 46, 48] []) σ0 σ) : zpc (fX5_fetchOp σ) (fun r => (zQ [3, 5, 7, 9, 11, 12, 15, 17, 19, 21, 23, 25, 27, 28, 29, 30, 32, 34, 36, 40, 42, 44, 45] [] [5, 38, 46, 48] []) σ0 (r.1)) := by
  unfold fX5_fetchOp
  exact zpc_bu (fu_fX5_growR h) (fun σ1 hσ1 => zpc_bi (fu_fX5_fetch hσ1) (fun σ2 v3 hσ2 => zpc_some hσ2))
theorem fu_fX5_askBit_38 {σ0 : zSt} {σ : zSt} {x3 : Int32} {s0 : Int32} {s1 : Int32} {s2 : Int32} (h : (zQ [3, 5, 7, 9, 11, 12, 15, 17, 19, 21, 23, 25, 27, 28, 29, 30, 32, 34, 36, 40, 42, 44, 45] [] [5, 38, 46, 48] []) σ0 σ) : zpc (fX5_askBit_38 σ x3 s0 s1 s2) (fun r => (zQ [3, 5, 7, 9, 11, 12, 15, 17, 19, 21, 23, 25, 27, 28, 29, 30, 32, 34, 36, 40, 42, 44, 45] [] [5, 38, 46, 48] []) σ0 (r)) := by
  unfold fX5_askBit_38
  exact zpc_ck (zpc_bs (zQ.wi h rfl) (fun σ1 hσ1 => zpc_some hσ1))
theorem fu_fX5_askBit {σ0 : zSt} {σ : zSt} {x1 : Int32} {x2 : Int32} {x3 : Int32} (h : (zQ [3, 5, 7, 9, 11, 12, 15, 17, 19, 21, 23, 25, 27, 28, 29, 30, 32, 34, 36, 40, 42, 44, 45] [] [5, 38, 46, 48] []) σ0 σ) : zpc (fX5_askBit σ x1 x2 x3) (fun r => (zQ [3, 5, 7, 9, 11, 12, 15, 17, 19, 21, 23, 25, 27, 28, 29, 30, 32, 34, 36, 40, 42, 44, 45] [] [5, 38, 46, 48] []) σ0 (r)) := by
  unfold fX5_askBit
  exact zpc_bv (fun v2 _ => zpc_ck (zpc_if (fun _ => fu_fX5_askBit_38 h) (fun _ => fu_fX5_askBit_38 h)))
theorem fu_fX5_by_15 {σ0 : zSt} {σ : zSt} {s0 : Int32} {s1 : Int32} (h : (zQ [3, 5, 7, 9, 11, 12, 15, 17, 19, 21, 23, 25, 27, 28, 29, 30, 32, 34, 36, 40, 42, 44, 45] [] [5, 38, 46, 48] []) σ0 σ) : zpc (fX5_by_15 σ s0 s1) (fun r => (zQ [3, 5, 7, 9, 11, 12, 15, 17, 19, 21, 23, 25, 27, 28, 29, 30, 32, 34, 36, 40, 42, 44, 45] [] [5, 38, 46, 48] []) σ0 (r.1)) := by
  unfold fX5_by_15
  exact zpc_some h
theorem fu_fX5_by {σ0 : zSt} {σ : zSt} {x0 : Int32} (h : (zQ [3, 5, 7, 9, 11, 12, 15, 17, 19, 21, 23, 25, 27, 28, 29, 30, 32, 34, 36, 40, 42, 44, 45] [] [5, 38, 46, 48] []) σ0 σ) : zpc (fX5_by σ x0) (fun r => (zQ [3, 5, 7, 9, 11, 12, 15, 17, 19, 21, 23, 25, 27, 28, 29, 30, 32, 34, 36, 40, 42, 44, 45] [] [5, 38, 46, 48] []) σ0 (r.1)) := by
  unfold fX5_by
  exact zpc_if (fun _ => fu_fX5_by_15 h) (fun _ => fu_fX5_by_15 h)
theorem fu_fJ6_bitCount_0f7a4 {σ0 : zSt} {σ : zSt} {x0 : Int32} (h : (zQ [3, 5, 7, 9, 11, 12, 15, 17, 19, 21, 23, 25, 27, 28, 29, 30, 32, 34, 36, 40, 42, 44, 45] [] [5, 38, 46, 48] []) σ0 σ) : zpc (fJ6_bitCount_0f7a4 σ x0) (fun r => (zQ [3, 5, 7, 9, 11, 12, 15, 17, 19, 21, 23, 25, 27, 28, 29, 30, 32, 34, 36, 40, 42, 44, 45] [] [5, 38, 46, 48] []) σ0 (r.1)) := by
  unfold fJ6_bitCount_0f7a4
  exact zpc_bv (fun v1 _ => zpc_bv (fun v2 _ => zpc_bv (fun v3 _ => zpc_bv (fun v4 _ => zpc_bv (fun v5 _ => zpc_some h)))))
theorem fu_fX5_parity_14 {σ0 : zSt} {σ : zSt} {s0 : Int32} (h : (zQ [3, 5, 7, 9, 11, 12, 15, 17, 19, 21, 23, 25, 27, 28, 29, 30, 32, 34, 36, 40, 42, 44, 45] [] [5, 38, 46, 48] []) σ0 σ) : zpc (fX5_parity_14 σ s0) (fun r => (zQ [3, 5, 7, 9, 11, 12, 15, 17, 19, 21, 23, 25, 27, 28, 29, 30, 32, 34, 36, 40, 42, 44, 45] [] [5, 38, 46, 48] []) σ0 (r.1)) := by
  unfold fX5_parity_14
  exact zpc_some h
theorem fu_fX5_parity {σ0 : zSt} {σ : zSt} {x0 : Int32} (h : (zQ [3, 5, 7, 9, 11, 12, 15, 17, 19, 21, 23, 25, 27, 28, 29, 30, 32, 34, 36, 40, 42, 44, 45] [] [5, 38, 46, 48] []) σ0 σ) : zpc (fX5_parity σ x0) (fun r => (zQ [3, 5, 7, 9, 11, 12, 15, 17, 19, 21, 23, 25, 27, 28, 29, 30, 32, 34, 36, 40, 42, 44, 45] [] [5, 38, 46, 48] []) σ0 (r.1)) := by
  unfold fX5_parity
  exact zpc_bi (fu_fJ6_bitCount_0f7a4 h) (fun σ1 v2 hσ1 => zpc_if (fun _ => fu_fX5_parity_14 hσ1) (fun _ => fu_fX5_parity_14 hσ1))
theorem fu_fX5_turn_136 {σ0 : zSt} {σ : zSt} {x4 : Int32} {s0 : Int32} (h : (zQ [3, 5, 7, 9, 11, 12, 15, 17, 19, 21, 23, 25, 27, 28, 29, 30, 32, 34, 36, 40, 42, 44, 45] [] [5, 38, 46, 48] []) σ0 σ) : zpc (fX5_turn_136 σ x4 s0) (fun r => (zQ [3, 5, 7, 9, 11, 12, 15, 17, 19, 21, 23, 25, 27, 28, 29, 30, 32, 34, 36, 40, 42, 44, 45] [] [5, 38, 46, 48] []) σ0 (r.1)) := by
  unfold fX5_turn_136
  exact zpc_bi (fu_fX5_by h) (fun σ1 v2 hσ1 => zpc_bi (fu_fX5_parity hσ1) (fun σ3 v4 hσ3 => zpc_ck (zpc_bs (zQ.wi hσ3 rfl) (fun σ5 hσ5 => zpc_some hσ5))))
theorem fu_fX5_turn_110 {σ0 : zSt} {σ : zSt} {x2 : Int32} {x3 : Int32} {x4 : Int32} {x5 : Int32} (h : (zQ [3, 5, 7, 9, 11, 12, 15, 17, 19, 21, 23, 25, 27, 28, 29, 30, 32, 34, 36, 40, 42, 44, 45] [] [5, 38, 46, 48] []) σ0 σ) : zpc (fX5_turn_110 σ x2 x3 x4 x5) (fun r => (zQ [3, 5, 7, 9, 11, 12, 15, 17, 19, 21, 23, 25, 27, 28, 29, 30, 32, 34, 36, 40, 42, 44, 45] [] [5, 38, 46, 48] []) σ0 (r.1)) := by
  unfold fX5_turn_110
  exact zpc_if (fun _ => fu_fX5_turn_136 h) (fun _ => fu_fX5_turn_136 h)
theorem fu_fX5_turn_72 {σ0 : zSt} {σ : zSt} {x2 : Int32} {x3 : Int32} {x4 : Int32} (h : (zQ [3, 5, 7, 9, 11, 12, 15, 17, 19, 21, 23, 25, 27, 28, 29, 30, 32, 34, 36, 40, 42, 44, 45] [] [5, 38, 46, 48] []) σ0 σ) : zpc (fX5_turn_72 σ x2 x3 x4) (fun r => (zQ [3, 5, 7, 9, 11, 12, 15, 17, 19, 21, 23, 25, 27, 28, 29, 30, 32, 34, 36, 40, 42, 44, 45] [] [5, 38, 46, 48] []) σ0 (r.1)) := by
  unfold fX5_turn_72
  exact fu_fX5_turn_110 h
theorem fu_fX5_turn_79 {σ0 : zSt} {σ : zSt} {x2 : Int32} {x3 : Int32} {x4 : Int32} (h : (zQ [3, 5, 7, 9, 11, 12, 15, 17, 19, 21, 23, 25, 27, 28, 29, 30, 32, 34, 36, 40, 42, 44, 45] [] [5, 38, 46, 48] []) σ0 σ) : zpc (fX5_turn_79 σ x2 x3 x4) (fun r => (zQ [3, 5, 7, 9, 11, 12, 15, 17, 19, 21, 23, 25, 27, 28, 29, 30, 32, 34, 36, 40, 42, 44, 45] [] [5, 38, 46, 48] []) σ0 (r.1)) := by
  unfold fX5_turn_79
  exact zpc_ck (zpc_bv (fun v6 _ => fu_fX5_turn_110 h))
theorem fu_fX5_turn_107 {σ0 : zSt} {σ : zSt} {x2 : Int32} {x3 : Int32} {x4 : Int32} (h : (zQ [3, 5, 7, 9, 11, 12, 15, 17, 19, 21, 23, 25, 27, 28, 29, 30, 32, 34, 36, 40, 42, 44, 45] [] [5, 38, 46, 48] []) σ0 σ) : zpc (fX5_turn_107 σ x2 x3 x4) (fun r => (zQ [3, 5, 7, 9, 11, 12, 15, 17, 19, 21, 23, 25, 27, 28, 29, 30, 32, 34, 36, 40, 42, 44, 45] [] [5, 38, 46, 48] []) σ0 (r.1)) := by
  unfold fX5_turn_107
  exact fu_fX5_turn_110 h
theorem fu_fX5_turn_26 {σ0 : zSt} {σ : zSt} {x1 : Int32} {x2 : Int32} {x3 : Int32} {s0 : Int32} (h : (zQ [3, 5, 7, 9, 11, 12, 15, 17, 19, 21, 23, 25, 27, 28, 29, 30, 32, 34, 36, 40, 42, 44, 45] [] [5, 38, 46, 48] []) σ0 σ) : zpc (fX5_turn_26 σ x1 x2 x3 s0) (fun r => (zQ [3, 5, 7, 9, 11, 12, 15, 17, 19, 21, 23, 25, 27, 28, 29, 30, 32, 34, 36, 40, 42, 44, 45] [] [5, 38, 46, 48] []) σ0 (r.1)) := by
  unfold fX5_turn_26
  exact zpc_if (fun _ => fu_fX5_turn_72 h) (fun _ => zpc_if (fun _ => fu_fX5_turn_72 h) (fun _ => zpc_if (fun _ => fu_fX5_turn_79 h) (fun _ => zpc_if (fun _ => fu_fX5_turn_79 h) (fun _ => zpc_if (fun _ => fu_fX5_turn_107 h) (fun _ => zpc_if (fun _ => zpc_bv (fun v7 _ => fu_fX5_turn_110 h)) (fun _ => zpc_if (fun _ => fu_fX5_turn_110 h) (fun _ => fu_fX5_turn_107 h)))))))
theorem fu_fX5_turn_11 {σ0 : zSt} {σ : zSt} {x1 : Int32} {x2 : Int32} {s0 : Int32} (h : (zQ [3, 5, 7, 9, 11, 12, 15, 17, 19, 21, 23, 25, 27, 28, 29, 30, 32, 34, 36, 40, 42, 44, 45] [] [5, 38, 46, 48] []) σ0 σ) : zpc (fX5_turn_11 σ x1 x2 s0) (fun r => (zQ [3, 5, 7, 9, 11, 12, 15, 17, 19, 21, 23, 25, 27, 28, 29, 30, 32, 34, 36, 40, 42, 44, 45] [] [5, 38, 46, 48] []) σ0 (r.1)) := by
  unfold fX5_turn_11
  exact zpc_if (fun _ => fu_fX5_turn_26 h) (fun _ => fu_fX5_turn_26 h)
theorem fu_fX5_turn {σ0 : zSt} {σ : zSt} {x1 : Int32} {x2 : Int32} (h : (zQ [3, 5, 7, 9, 11, 12, 15, 17, 19, 21, 23, 25, 27, 28, 29, 30, 32, 34, 36, 40, 42, 44, 45] [] [5, 38, 46, 48] []) σ0 σ) : zpc (fX5_turn σ x1 x2) (fun r => (zQ [3, 5, 7, 9, 11, 12, 15, 17, 19, 21, 23, 25, 27, 28, 29, 30, 32, 34, 36, 40, 42, 44, 45] [] [5, 38, 46, 48] []) σ0 (r.1)) := by
  unfold fX5_turn
  exact zpc_if (fun _ => fu_fX5_turn_11 h) (fun _ => fu_fX5_turn_11 h)
theorem fu_fX5_turned {σ0 : zSt} {σ : zSt} {x1 : Int32} {x2 : Int32} (h : (zQ [3, 5, 7, 9, 11, 12, 15, 17, 19, 21, 23, 25, 27, 28, 29, 30, 32, 34, 36, 40, 42, 44, 45] [] [5, 38, 46, 48] []) σ0 σ) : zpc (fX5_turned σ x1 x2) (fun r => (zQ [3, 5, 7, 9, 11, 12, 15, 17, 19, 21, 23, 25, 27, 28, 29, 30, 32, 34, 36, 40, 42, 44, 45] [] [5, 38, 46, 48] []) σ0 (r.1)) := by
  unfold fX5_turned
  exact zpc_bv (fun v1 _ => zpc_if (fun _ => zpc_bi (fu_fX5_turn h) (fun σ2 v3 hσ2 => zpc_some hσ2)) (fun _ => zpc_if (fun _ => zpc_some h) (fun _ => zpc_some h)))
theorem fu_fX5_putPairHalf_69 {σ0 : zSt} {σ : zSt} (h : (zQ [3, 5, 7, 9, 11, 12, 15, 17, 19, 21, 23, 25, 27, 28, 29, 30, 32, 34, 36, 40, 42, 44, 45] [] [5, 38, 46, 48] []) σ0 σ) : zpc (fX5_putPairHalf_69 σ) (fun r => (zQ [3, 5, 7, 9, 11, 12, 15, 17, 19, 21, 23, 25, 27, 28, 29, 30, 32, 34, 36, 40, 42, 44, 45] [] [5, 38, 46, 48] []) σ0 (r)) := by
  unfold fX5_putPairHalf_69
  exact zpc_some h
theorem fu_fX5_putPairHalf_68 {σ0 : zSt} {σ : zSt} {s0 : Int32} {s1 : Int32} (h : (zQ [3, 5, 7, 9, 11, 12, 15, 17, 19, 21, 23, 25, 27, 28, 29, 30, 32, 34, 36, 40, 42, 44, 45] [] [5, 38, 46, 48] []) σ0 σ) : zpc (fX5_putPairHalf_68 σ s0 s1) (fun r => (zQ [3, 5, 7, 9, 11, 12, 15, 17, 19, 21, 23, 25, 27, 28, 29, 30, 32, 34, 36, 40, 42, 44, 45] [] [5, 38, 46, 48] []) σ0 (r)) := by
  unfold fX5_putPairHalf_68
  exact zpc_ck (zpc_bs (zQ.wi h rfl) (fun σ1 hσ1 => fu_fX5_putPairHalf_69 hσ1))
theorem fu_fX5_putPairHalf {σ0 : zSt} {σ : zSt} {x1 : Int32} {x2 : Int32} (h : (zQ [3, 5, 7, 9, 11, 12, 15, 17, 19, 21, 23, 25, 27, 28, 29, 30, 32, 34, 36, 40, 42, 44, 45] [] [5, 38, 46, 48] []) σ0 σ) : zpc (fX5_putPairHalf σ x1 x2) (fun r => (zQ [3, 5, 7, 9, 11, 12, 15, 17, 19, 21, 23, 25, 27, 28, 29, 30, 32, 34, 36, 40, 42, 44, 45] [] [5, 38, 46, 48] []) σ0 (r)) := by
  unfold fX5_putPairHalf
  exact zpc_if (fun _ => zpc_ck (zpc_bs (zQ.wi h rfl) (fun σ2 hσ2 => fu_fX5_putPairHalf_69 hσ2))) (fun _ => zpc_if (fun _ => zpc_ck (fu_fX5_putPairHalf_68 h)) (fun _ => zpc_ck (fu_fX5_putPairHalf_68 h)))
theorem fu_fX5_putOne_88 {σ0 : zSt} {σ : zSt} (h : (zQ [3, 5, 7, 9, 11, 12, 15, 17, 19, 21, 23, 25, 27, 28, 29, 30, 32, 34, 36, 40, 42, 44, 45] [] [5, 38, 46, 48] []) σ0 σ) : zpc (fX5_putOne_88 σ) (fun r => (zQ [3, 5, 7, 9, 11, 12, 15, 17, 19, 21, 23, 25, 27, 28, 29, 30, 32, 34, 36, 40, 42, 44, 45] [] [5, 38, 46, 48] []) σ0 (r)) := by
  unfold fX5_putOne_88
  exact zpc_some h
theorem fu_fX5_putOne {σ0 : zSt} {σ : zSt} {x1 : Int32} {x2 : Int32} (h : (zQ [3, 5, 7, 9, 11, 12, 15, 17, 19, 21, 23, 25, 27, 28, 29, 30, 32, 34, 36, 40, 42, 44, 45] [] [5, 38, 46, 48] []) σ0 σ) : zpc (fX5_putOne σ x1 x2) (fun r => (zQ [3, 5, 7, 9, 11, 12, 15, 17, 19, 21, 23, 25, 27, 28, 29, 30, 32, 34, 36, 40, 42, 44, 45] [] [5, 38, 46, 48] []) σ0 (r)) := by
  unfold fX5_putOne
  exact zpc_if (fun _ => zpc_bu (fu_fX5_putPairHalf h) (fun σ1 hσ1 => fu_fX5_putOne_88 hσ1)) (fun _ => zpc_if (fun _ => zpc_bu (fu_fX5_putPairHalf h) (fun σ2 hσ2 => fu_fX5_putOne_88 hσ2)) (fun _ => zpc_if (fun _ => zpc_bu (fu_fX2_write h) (fun σ3 hσ3 => fu_fX5_putOne_88 hσ3)) (fun _ => zpc_if (fun _ => zpc_ck (zpc_bs (zQ.wi h rfl) (fun σ4 hσ4 => fu_fX5_putOne_88 hσ4))) (fun _ => zpc_ck (zpc_bs (zQ.wi h rfl) (fun σ5 hσ5 => fu_fX5_putOne_88 hσ5))))))
theorem fu_fX5_turnBeside_128 {σ0 : zSt} {σ : zSt} (h : (zQ [3, 5, 7, 9, 11, 12, 15, 17, 19, 21, 23, 25, 27, 28, 29, 30, 32, 34, 36, 40, 42, 44, 45] [] [5, 38, 46, 48] []) σ0 σ) : zpc (fX5_turnBeside_128 σ) (fun r => (zQ [3, 5, 7, 9, 11, 12, 15, 17, 19, 21, 23, 25, 27, 28, 29, 30, 32, 34, 36, 40, 42, 44, 45] [] [5, 38, 46, 48] []) σ0 (r.1)) := by
  unfold fX5_turnBeside_128
  exact zpc_some h
theorem fu_fX5_turnBeside {σ0 : zSt} {σ : zSt} (h : (zQ [3, 5, 7, 9, 11, 12, 15, 17, 19, 21, 23, 25, 27, 28, 29, 30, 32, 34, 36, 40, 42, 44, 45] [] [5, 38, 46, 48] []) σ0 σ) : zpc (fX5_turnBeside σ) (fun r => (zQ [3, 5, 7, 9, 11, 12, 15, 17, 19, 21, 23, 25, 27, 28, 29, 30, 32, 34, 36, 40, 42, 44, 45] [] [5, 38, 46, 48] []) σ0 (r.1)) := by
  unfold fX5_turnBeside
  exact zpc_ck (zpc_bi (fu_fX5_fetch h) (fun σ1 v2 hσ1 => zpc_ck (zpc_bs (zQ.wi hσ1 rfl) (fun σ3 hσ3 => zpc_ck (zpc_bs (zQ.wi hσ3 rfl) (fun σ4 hσ4 => zpc_bs (zQ.wi hσ4 rfl) (fun σ5 hσ5 => zpc_bi (fu_fX5_fetch hσ5) (fun σ6 v7 hσ6 => zpc_bi (fu_fX2_read hσ6) (fun σ8 v9 hσ8 => zpc_if (fun _ => zpc_ck (zpc_bu (fu_fX5_askBit hσ8) (fun σ14 hσ14 => zpc_some hσ14))) (fun _ => zpc_bi (fu_fX5_turned hσ8) (fun σ10 v11 hσ10 => zpc_bu (fu_fX2_write hσ10) (fun σ12 hσ12 => zpc_if (fun _ => fu_fX5_turnBeside_128 hσ12) (fun _ => zpc_bu (fu_fX5_putOne hσ12) (fun σ13 hσ13 => fu_fX5_turnBeside_128 hσ13))))))))))))))
theorem fu_fX5_meansPlace_97 {σ0 : zSt} {σ : zSt} {s0 : Int32} (h : (zQ [3, 5, 7, 9, 11, 12, 15, 17, 19, 21, 23, 25, 27, 28, 29, 30, 32, 34, 36, 40, 42, 44, 45] [] [5, 38, 46, 48] []) σ0 σ) : zpc (fX5_meansPlace_97 σ s0) (fun r => (zQ [3, 5, 7, 9, 11, 12, 15, 17, 19, 21, 23, 25, 27, 28, 29, 30, 32, 34, 36, 40, 42, 44, 45] [] [5, 38, 46, 48] []) σ0 (r.1)) := by
  unfold fX5_meansPlace_97
  exact zpc_ck (zpc_some h)
theorem fu_fX5_meansPlace_86 {σ0 : zSt} {σ : zSt} {s0 : Int32} (h : (zQ [3, 5, 7, 9, 11, 12, 15, 17, 19, 21, 23, 25, 27, 28, 29, 30, 32, 34, 36, 40, 42, 44, 45] [] [5, 38, 46, 48] []) σ0 σ) : zpc (fX5_meansPlace_86 σ s0) (fun r => (zQ [3, 5, 7, 9, 11, 12, 15, 17, 19, 21, 23, 25, 27, 28, 29, 30, 32, 34, 36, 40, 42, 44, 45] [] [5, 38, 46, 48] []) σ0 (r.1)) := by
  unfold fX5_meansPlace_86
  exact zpc_ck (zpc_some h)
theorem fu_fX5_meansPlace_85 {σ0 : zSt} {σ : zSt} (h : (zQ [3, 5, 7, 9, 11, 12, 15, 17, 19, 21, 23, 25, 27, 28, 29, 30, 32, 34, 36, 40, 42, 44, 45] [] [5, 38, 46, 48] []) σ0 σ) : zpc (fX5_meansPlace_85 σ) (fun r => (zQ [3, 5, 7, 9, 11, 12, 15, 17, 19, 21, 23, 25, 27, 28, 29, 30, 32, 34, 36, 40, 42, 44, 45] [] [5, 38, 46, 48] []) σ0 (r.1)) := by
  unfold fX5_meansPlace_85
  exact fu_fX5_meansPlace_86 h
theorem fu_fX5_meansPlace_29 {σ0 : zSt} {σ : zSt} {x0 : Int32} {x1 : Int32} {s0 : Int32} (h : (zQ [3, 5, 7, 9, 11, 12, 15, 17, 19, 21, 23, 25, 27, 28, 29, 30, 32, 34, 36, 40, 42, 44, 45] [] [5, 38, 46, 48] []) σ0 σ) : zpc (fX5_meansPlace_29 σ x0 x1 s0) (fun r => (zQ [3, 5, 7, 9, 11, 12, 15, 17, 19, 21, 23, 25, 27, 28, 29, 30, 32, 34, 36, 40, 42, 44, 45] [] [5, 38, 46, 48] []) σ0 (r.1)) := by
  unfold fX5_meansPlace_29
  exact zpc_if (fun _ => zpc_if (fun _ => fu_fX5_meansPlace_85 h) (fun _ => zpc_if (fun _ => fu_fX5_meansPlace_85 h) (fun _ => zpc_if (fun _ => fu_fX5_meansPlace_85 h) (fun _ => fu_fX5_meansPlace_86 h)))) (fun _ => zpc_if (fun _ => zpc_if (fun _ => fu_fX5_meansPlace_97 h) (fun _ => fu_fX5_meansPlace_97 h)) (fun _ => zpc_if (fun _ => zpc_ck (zpc_some h)) (fun _ => zpc_ck (zpc_some h))))
theorem fu_fX5_meansPlace_14 {σ0 : zSt} {σ : zSt} {x0 : Int32} {s0 : Int32} (h : (zQ [3, 5, 7, 9, 11, 12, 15, 17, 19, 21, 23, 25, 27, 28, 29, 30, 32, 34, 36, 40, 42, 44, 45] [] [5, 38, 46, 48] []) σ0 σ) : zpc (fX5_meansPlace_14 σ x0 s0) (fun r => (zQ [3, 5, 7, 9, 11, 12, 15, 17, 19, 21, 23, 25, 27, 28, 29, 30, 32, 34, 36, 40, 42, 44, 45] [] [5, 38, 46, 48] []) σ0 (r.1)) := by
  unfold fX5_meansPlace_14
  exact zpc_if (fun _ => fu_fX5_meansPlace_29 h) (fun _ => fu_fX5_meansPlace_29 h)
theorem fu_fX5_meansPlace {σ0 : zSt} {σ : zSt} {x0 : Int32} (h : (zQ [3, 5, 7, 9, 11, 12, 15, 17, 19, 21, 23, 25, 27, 28, 29, 30, 32, 34, 36, 40, 42, 44, 45] [] [5, 38, 46, 48] []) σ0 σ) : zpc (fX5_meansPlace σ x0) (fun r => (zQ [3, 5, 7, 9, 11, 12, 15, 17, 19, 21, 23, 25, 27, 28, 29, 30, 32, 34, 36, 40, 42, 44, 45] [] [5, 38, 46, 48] []) σ0 (r.1)) := by
  unfold fX5_meansPlace
  exact zpc_if (fun _ => fu_fX5_meansPlace_14 h) (fun _ => fu_fX5_meansPlace_14 h)
theorem fu_fX5_takePlace_64 {σ0 : zSt} {σ : zSt} {s0 : Int32} (h : (zQ [3, 5, 7, 9, 11, 12, 15, 17, 19, 21, 23, 25, 27, 28, 29, 30, 32, 34, 36, 40, 42, 44, 45] [] [5, 38, 46, 48] []) σ0 σ) : zpc (fX5_takePlace_64 σ s0) (fun r => (zQ [3, 5, 7, 9, 11, 12, 15, 17, 19, 21, 23, 25, 27, 28, 29, 30, 32, 34, 36, 40, 42, 44, 45] [] [5, 38, 46, 48] []) σ0 (r.1)) := by
  unfold fX5_takePlace_64
  exact zpc_some h
theorem fu_fX5_takePlace {σ0 : zSt} {σ : zSt} {x1 : Int32} (h : (zQ [3, 5, 7, 9, 11, 12, 15, 17, 19, 21, 23, 25, 27, 28, 29, 30, 32, 34, 36, 40, 42, 44, 45] [] [5, 38, 46, 48] []) σ0 σ) : zpc (fX5_takePlace σ x1) (fun r => (zQ [3, 5, 7, 9, 11, 12, 15, 17, 19, 21, 23, 25, 27, 28, 29, 30, 32, 34, 36, 40, 42, 44, 45] [] [5, 38, 46, 48] []) σ0 (r.1)) := by
  unfold fX5_takePlace
  exact zpc_bi (fu_fX5_meansPlace h) (fun σ1 v2 hσ1 => zpc_if (fun _ => zpc_some hσ1) (fun _ => zpc_ck (zpc_bi (fu_fX5_fetch hσ1) (fun σ3 v4 hσ3 => zpc_ck (zpc_bs (zQ.wi hσ3 rfl) (fun σ5 hσ5 => zpc_ck (zpc_bs (zQ.wi hσ5 rfl) (fun σ6 hσ6 => zpc_bs (zQ.wi hσ6 rfl) (fun σ7 hσ7 => zpc_if (fun _ => fu_fX5_takePlace_64 hσ7) (fun _ => fu_fX5_takePlace_64 hσ7))))))))))
theorem fu_fX5_one_96 {σ0 : zSt} {σ : zSt} {s0 : Int32} (h : (zQ [3, 5, 7, 9, 11, 12, 15, 17, 19, 21, 23, 25, 27, 28, 29, 30, 32, 34, 36, 40, 42, 44, 45] [] [5, 38, 46, 48] []) σ0 σ) : zpc (fX5_one_96 σ s0) (fun r => (zQ [3, 5, 7, 9, 11, 12, 15, 17, 19, 21, 23, 25, 27, 28, 29, 30, 32, 34, 36, 40, 42, 44, 45] [] [5, 38, 46, 48] []) σ0 (r.1)) := by
  unfold fX5_one_96
  exact zpc_some h
theorem fu_fX5_one_63 {σ0 : zSt} {σ : zSt} {s0 : Int32} (h : (zQ [3, 5, 7, 9, 11, 12, 15, 17, 19, 21, 23, 25, 27, 28, 29, 30, 32, 34, 36, 40, 42, 44, 45] [] [5, 38, 46, 48] []) σ0 σ) : zpc (fX5_one_63 σ s0) (fun r => (zQ [3, 5, 7, 9, 11, 12, 15, 17, 19, 21, 23, 25, 27, 28, 29, 30, 32, 34, 36, 40, 42, 44, 45] [] [5, 38, 46, 48] []) σ0 (r.1)) := by
  unfold fX5_one_63
  exact zpc_some h
theorem fu_fX5_one {σ0 : zSt} {σ : zSt} {x1 : Int32} (h : (zQ [3, 5, 7, 9, 11, 12, 15, 17, 19, 21, 23, 25, 27, 28, 29, 30, 32, 34, 36, 40, 42, 44, 45] [] [5, 38, 46, 48] []) σ0 σ) : zpc (fX5_one σ x1) (fun r => (zQ [3, 5, 7, 9, 11, 12, 15, 17, 19, 21, 23, 25, 27, 28, 29, 30, 32, 34, 36, 40, 42, 44, 45] [] [5, 38, 46, 48] []) σ0 (r.1)) := by
  unfold fX5_one
  exact zpc_if (fun _ => zpc_if (fun _ => zpc_ck (fu_fX5_one_63 h)) (fun _ => zpc_ck (fu_fX5_one_63 h))) (fun _ => zpc_if (fun _ => zpc_if (fun _ => zpc_ck (fu_fX5_one_96 h)) (fun _ => zpc_ck (fu_fX5_one_96 h))) (fun _ => zpc_if (fun _ => zpc_bi (fu_fX2_read h) (fun σ1 v2 hσ1 => zpc_some hσ1)) (fun _ => zpc_if (fun _ => zpc_ck (zpc_some h)) (fun _ => zpc_ck (zpc_some h)))))
theorem fu_fX5_turns_63 {σ0 : zSt} {σ : zSt} {s0 : Int32} (h : (zQ [3, 5, 7, 9, 11, 12, 15, 17, 19, 21, 23, 25, 27, 28, 29, 30, 32, 34, 36, 40, 42, 44, 45] [] [5, 38, 46, 48] []) σ0 σ) : zpc (fX5_turns_63 σ s0) (fun r => (zQ [3, 5, 7, 9, 11, 12, 15, 17, 19, 21, 23, 25, 27, 28, 29, 30, 32, 34, 36, 40, 42, 44, 45] [] [5, 38, 46, 48] []) σ0 (r.1)) := by
  unfold fX5_turns_63
  exact zpc_some h
theorem fu_fX5_turns_47 {σ0 : zSt} {σ : zSt} {x2 : Int32} {s0 : Int32} {s1 : Int32} {s2 : Int32} (h : (zQ [3, 5, 7, 9, 11, 12, 15, 17, 19, 21, 23, 25, 27, 28, 29, 30, 32, 34, 36, 40, 42, 44, 45] [] [5, 38, 46, 48] []) σ0 σ) : zpc (fX5_turns_47 σ x2 s0 s1 s2) (fun r => (zQ [3, 5, 7, 9, 11, 12, 15, 17, 19, 21, 23, 25, 27, 28, 29, 30, 32, 34, 36, 40, 42, 44, 45] [] [5, 38, 46, 48] []) σ0 (r.1)) := by
  unfold fX5_turns_47
  exact zpc_bu (fu_fX5_askBit h) (fun σ1 hσ1 => zpc_if (fun _ => fu_fX5_turns_63 hσ1) (fun _ => fu_fX5_turns_63 hσ1))
theorem fu_fX5_turns_88 {σ0 : zSt} {σ : zSt} {s0 : Int32} (h : (zQ [3, 5, 7, 9, 11, 12, 15, 17, 19, 21, 23, 25, 27, 28, 29, 30, 32, 34, 36, 40, 42, 44, 45] [] [5, 38, 46, 48] []) σ0 σ) : zpc (fX5_turns_88 σ s0) (fun r => (zQ [3, 5, 7, 9, 11, 12, 15, 17, 19, 21, 23, 25, 27, 28, 29, 30, 32, 34, 36, 40, 42, 44, 45] [] [5, 38, 46, 48] []) σ0 (r.1)) := by
  unfold fX5_turns_88
  exact zpc_some h
theorem fu_fX5_turns {σ0 : zSt} {σ : zSt} {x1 : Int32} (h : (zQ [3, 5, 7, 9, 11, 12, 15, 17, 19, 21, 23, 25, 27, 28, 29, 30, 32, 34, 36, 40, 42, 44, 45] [] [5, 38, 46, 48] []) σ0 σ) : zpc (fX5_turns σ x1) (fun r => (zQ [3, 5, 7, 9, 11, 12, 15, 17, 19, 21, 23, 25, 27, 28, 29, 30, 32, 34, 36, 40, 42, 44, 45] [] [5, 38, 46, 48] []) σ0 (r.1)) := by
  unfold fX5_turns
  exact zpc_bv (fun v2 _ => zpc_bi (fu_fX5_one h) (fun σ3 v4 hσ3 => zpc_if (fun _ => zpc_if (fun _ => zpc_ck (fu_fX5_turns_47 hσ3)) (fun _ => fu_fX5_turns_47 hσ3)) (fun _ => zpc_bi (fu_fX5_turned hσ3) (fun σ5 v6 hσ5 => zpc_bu (fu_fX5_putOne hσ5) (fun σ7 hσ7 => zpc_if (fun _ => fu_fX5_turns_88 hσ7) (fun _ => fu_fX5_turns_88 hσ7))))))
theorem fu_fX5_putPairAt {σ0 : zSt} {σ : zSt} {x1 : Int32} {x2 : Int32} (h : (zQ [3, 5, 7, 9, 11, 12, 15, 17, 19, 21, 23, 25, 27, 28, 29, 30, 32, 34, 36, 40, 42, 44, 45] [] [5, 38, 46, 48] []) σ0 σ) : zpc (fX5_putPairAt σ x1 x2) (fun r => (zQ [3, 5, 7, 9, 11, 12, 15, 17, 19, 21, 23, 25, 27, 28, 29, 30, 32, 34, 36, 40, 42, 44, 45] [] [5, 38, 46, 48] []) σ0 (r)) := by
  unfold fX5_putPairAt
  exact zpc_ck (zpc_bs (zQ.wi h rfl) (fun σ1 hσ1 => zpc_ck (zpc_bs (zQ.wi hσ1 rfl) (fun σ2 hσ2 => zpc_some hσ2))))
theorem fu_fX5_tellOfPort_34 {σ0 : zSt} {σ : zSt} {x2 : Int32} {s0 : Int32} {s1 : Int32} {s2 : Int32} (h : (zQ [3, 5, 7, 9, 11, 12, 15, 17, 19, 21, 23, 25, 27, 28, 29, 30, 32, 34, 36, 40, 42, 44, 45] [] [5, 38, 46, 48] []) σ0 σ) : zpc (fX5_tellOfPort_34 σ x2 s0 s1 s2) (fun r => (zQ [3, 5, 7, 9, 11, 12, 15, 17, 19, 21, 23, 25, 27, 28, 29, 30, 32, 34, 36, 40, 42, 44, 45] [] [5, 38, 46, 48] []) σ0 (r)) := by
  unfold fX5_tellOfPort_34
  exact zpc_ck (zpc_bi (fu_fX5_parity h) (fun σ1 v2 hσ1 => zpc_ck (zpc_bs (zQ.wi hσ1 rfl) (fun σ3 hσ3 => zpc_some hσ3))))
theorem fu_fX5_tellOfPort {σ0 : zSt} {σ : zSt} {x1 : Int32} {x2 : Int32} (h : (zQ [3, 5, 7, 9, 11, 12, 15, 17, 19, 21, 23, 25, 27, 28, 29, 30, 32, 34, 36, 40, 42, 44, 45] [] [5, 38, 46, 48] []) σ0 σ) : zpc (fX5_tellOfPort σ x1 x2) (fun r => (zQ [3, 5, 7, 9, 11, 12, 15, 17, 19, 21, 23, 25, 27, 28, 29, 30, 32, 34, 36, 40, 42, 44, 45] [] [5, 38, 46, 48] []) σ0 (r)) := by
  unfold fX5_tellOfPort
  exact zpc_ck (zpc_bi (fu_fX5_by h) (fun σ4 v5 hσ4 => zpc_if (fun _ => fu_fX5_tellOfPort_34 hσ4) (fun _ => fu_fX5_tellOfPort_34 hσ4)))
theorem fu_fX5_giveOne_105 {σ0 : zSt} {σ : zSt} {s0 : Int32} (h : (zQ [3, 5, 7, 9, 11, 12, 15, 17, 19, 21, 23, 25, 27, 28, 29, 30, 32, 34, 36, 40, 42, 44, 45] [] [5, 38, 46, 48] []) σ0 σ) : zpc (fX5_giveOne_105 σ s0) (fun r => (zQ [3, 5, 7, 9, 11, 12, 15, 17, 19, 21, 23, 25, 27, 28, 29, 30, 32, 34, 36, 40, 42, 44, 45] [] [5, 38, 46, 48] []) σ0 (r.1)) := by
  unfold fX5_giveOne_105
  exact zpc_ck (zpc_some h)
theorem fu_fX5_giveOne {σ0 : zSt} {σ : zSt} {x1 : Int32} (h : (zQ [3, 5, 7, 9, 11, 12, 15, 17, 19, 21, 23, 25, 27, 28, 29, 30, 32, 34, 36, 40, 42, 44, 45] [] [5, 38, 46, 48] []) σ0 σ) : zpc (fX5_giveOne σ x1) (fun r => (zQ [3, 5, 7, 9, 11, 12, 15, 17, 19, 21, 23, 25, 27, 28, 29, 30, 32, 34, 36, 40, 42, 44, 45] [] [5, 38, 46, 48] []) σ0 (r.1)) := by
  unfold fX5_giveOne
  exact zpc_bi (fu_fX5_pairAt h) (fun σ1 v2 hσ1 => zpc_bi (fu_fX2_read hσ1) (fun σ3 v4 hσ3 => zpc_ck (zpc_ck (zpc_bs (zQ.wi hσ3 rfl) (fun σ5 hσ5 => zpc_ck (zpc_bu (fu_fX4_write hσ5) (fun σ6 hσ6 => zpc_bi (fu_fX5_pairAt hσ6) (fun σ7 v8 hσ7 => zpc_bu (fu_fX5_putPairAt hσ7) (fun σ9 hσ9 => zpc_bi (fu_fX5_pairAt hσ9) (fun σ10 v11 hσ10 => zpc_ck (zpc_bs (zQ.wi hσ10 rfl) (fun σ12 hσ12 => zpc_ck (zpc_bu (fu_fX5_tellOfPort hσ12) (fun σ13 hσ13 => zpc_ck (zpc_if (fun _ => fu_fX5_giveOne_105 hσ13) (fun _ => fu_fX5_giveOne_105 hσ13))))))))))))))))
theorem fu_fX5_takeOne_110 {σ0 : zSt} {σ : zSt} {s0 : Int32} (h : (zQ [3, 5, 7, 9, 11, 12, 15, 17, 19, 21, 23, 25, 27, 28, 29, 30, 32, 34, 36, 40, 42, 44, 45] [] [5, 38, 46, 48] []) σ0 σ) : zpc (fX5_takeOne_110 σ s0) (fun r => (zQ [3, 5, 7, 9, 11, 12, 15, 17, 19, 21, 23, 25, 27, 28, 29, 30, 32, 34, 36, 40, 42, 44, 45] [] [5, 38, 46, 48] []) σ0 (r.1)) := by
  unfold fX5_takeOne_110
  exact zpc_ck (zpc_some h)
theorem fu_fX5_takeOne {σ0 : zSt} {σ : zSt} {x1 : Int32} (h : (zQ [3, 5, 7, 9, 11, 12, 15, 17, 19, 21, 23, 25, 27, 28, 29, 30, 32, 34, 36, 40, 42, 44, 45] [] [5, 38, 46, 48] []) σ0 σ) : zpc (fX5_takeOne σ x1) (fun r => (zQ [3, 5, 7, 9, 11, 12, 15, 17, 19, 21, 23, 25, 27, 28, 29, 30, 32, 34, 36, 40, 42, 44, 45] [] [5, 38, 46, 48] []) σ0 (r.1)) := by
  unfold fX5_takeOne
  exact zpc_bi (fu_fX5_pairAt h) (fun σ1 v2 hσ1 => zpc_ck (zpc_bs (zQ.wi hσ1 rfl) (fun σ3 hσ3 => zpc_ck (zpc_bi (fu_fX4_read hσ3) (fun σ4 v5 hσ4 => zpc_ck (zpc_ck (zpc_bs (zQ.wi hσ4 rfl) (fun σ6 hσ6 => zpc_bi (fu_fX5_pairAt hσ6) (fun σ7 v8 hσ7 => zpc_bu (fu_fX2_write hσ7) (fun σ9 hσ9 => zpc_bi (fu_fX5_pairAt hσ9) (fun σ10 v11 hσ10 => zpc_bu (fu_fX5_putPairAt hσ10) (fun σ12 hσ12 => zpc_ck (zpc_bu (fu_fX5_tellOfPort hσ12) (fun σ13 hσ13 => zpc_ck (zpc_if (fun _ => fu_fX5_takeOne_110 hσ13) (fun _ => fu_fX5_takeOne_110 hσ13))))))))))))))))
theorem fu_fX5_compareOne_184 {σ0 : zSt} {σ : zSt} {s0 : Int32} (h : (zQ [3, 5, 7, 9, 11, 12, 15, 17, 19, 21, 23, 25, 27, 28, 29, 30, 32, 34, 36, 40, 42, 44, 45] [] [5, 38, 46, 48] []) σ0 σ) : zpc (fX5_compareOne_184 σ s0) (fun r => (zQ [3, 5, 7, 9, 11, 12, 15, 17, 19, 21, 23, 25, 27, 28, 29, 30, 32, 34, 36, 40, 42, 44, 45] [] [5, 38, 46, 48] []) σ0 (r.1)) := by
  unfold fX5_compareOne_184
  exact zpc_ck (zpc_some h)
theorem fu_fX5_compareOne_183 {σ0 : zSt} {σ : zSt} (h : (zQ [3, 5, 7, 9, 11, 12, 15, 17, 19, 21, 23, 25, 27, 28, 29, 30, 32, 34, 36, 40, 42, 44, 45] [] [5, 38, 46, 48] []) σ0 σ) : zpc (fX5_compareOne_183 σ) (fun r => (zQ [3, 5, 7, 9, 11, 12, 15, 17, 19, 21, 23, 25, 27, 28, 29, 30, 32, 34, 36, 40, 42, 44, 45] [] [5, 38, 46, 48] []) σ0 (r.1)) := by
  unfold fX5_compareOne_183
  exact fu_fX5_compareOne_184 h
theorem fu_fX5_compareOne_166 {σ0 : zSt} {σ : zSt} {x3 : Int32} {x5 : Int32} {s0 : Int32} {s1 : Int32} {s2 : Int32} (h : (zQ [3, 5, 7, 9, 11, 12, 15, 17, 19, 21, 23, 25, 27, 28, 29, 30, 32, 34, 36, 40, 42, 44, 45] [] [5, 38, 46, 48] []) σ0 σ) : zpc (fX5_compareOne_166 σ x3 x5 s0 s1 s2) (fun r => (zQ [3, 5, 7, 9, 11, 12, 15, 17, 19, 21, 23, 25, 27, 28, 29, 30, 32, 34, 36, 40, 42, 44, 45] [] [5, 38, 46, 48] []) σ0 (r.1)) := by
  unfold fX5_compareOne_166
  exact zpc_ck (zpc_bs (zQ.wi h rfl) (fun σ1 hσ1 => zpc_if (fun _ => fu_fX5_compareOne_183 hσ1) (fun _ => zpc_if (fun _ => fu_fX5_compareOne_183 hσ1) (fun _ => fu_fX5_compareOne_184 hσ1))))
theorem fu_fX5_compareOne_139 {σ0 : zSt} {σ : zSt} {x3 : Int32} {x4 : Int32} {x5 : Int32} {x6 : Int32} {s0 : Int32} {s1 : Int32} {s2 : Int32} (h : (zQ [3, 5, 7, 9, 11, 12, 15, 17, 19, 21, 23, 25, 27, 28, 29, 30, 32, 34, 36, 40, 42, 44, 45] [] [5, 38, 46, 48] []) σ0 σ) : zpc (fX5_compareOne_139 σ x3 x4 x5 x6 s0 s1 s2) (fun r => (zQ [3, 5, 7, 9, 11, 12, 15, 17, 19, 21, 23, 25, 27, 28, 29, 30, 32, 34, 36, 40, 42, 44, 45] [] [5, 38, 46, 48] []) σ0 (r.1)) := by
  unfold fX5_compareOne_139
  exact zpc_if (fun _ => fu_fX5_compareOne_166 h) (fun _ => fu_fX5_compareOne_166 h)
theorem fu_fX5_compareOne_100 {σ0 : zSt} {σ : zSt} {x3 : Int32} {x4 : Int32} {s0 : Int32} (h : (zQ [3, 5, 7, 9, 11, 12, 15, 17, 19, 21, 23, 25, 27, 28, 29, 30, 32, 34, 36, 40, 42, 44, 45] [] [5, 38, 46, 48] []) σ0 σ) : zpc (fX5_compareOne_100 σ x3 x4 s0) (fun r => (zQ [3, 5, 7, 9, 11, 12, 15, 17, 19, 21, 23, 25, 27, 28, 29, 30, 32, 34, 36, 40, 42, 44, 45] [] [5, 38, 46, 48] []) σ0 (r.1)) := by
  unfold fX5_compareOne_100
  exact zpc_bv (fun v2 _ => zpc_ck (zpc_if (fun _ => fu_fX5_compareOne_139 h) (fun _ => fu_fX5_compareOne_139 h)))
theorem fu_fX5_compareOne {σ0 : zSt} {σ : zSt} {x1 : Int32} (h : (zQ [3, 5, 7, 9, 11, 12, 15, 17, 19, 21, 23, 25, 27, 28, 29, 30, 32, 34, 36, 40, 42, 44, 45] [] [5, 38, 46, 48] []) σ0 σ) : zpc (fX5_compareOne σ x1) (fun r => (zQ [3, 5, 7, 9, 11, 12, 15, 17, 19, 21, 23, 25, 27, 28, 29, 30, 32, 34, 36, 40, 42, 44, 45] [] [5, 38, 46, 48] []) σ0 (r.1)) := by
  unfold fX5_compareOne
  exact zpc_bi (fu_fX5_pairAt h) (fun σ3 v4 hσ3 => zpc_bi (fu_fX2_read hσ3) (fun σ5 v6 hσ5 => zpc_ck (zpc_bv (fun v7 _ => zpc_ck (zpc_bv (fun v8 _ => zpc_bi (fu_fX5_pairAt hσ5) (fun σ9 v10 hσ9 => zpc_bu (fu_fX5_putPairAt hσ9) (fun σ11 hσ11 => zpc_bi (fu_fX5_pairAt hσ11) (fun σ12 v13 hσ12 => zpc_bu (fu_fX5_putPairAt hσ12) (fun σ14 hσ14 => zpc_ck (zpc_ck (zpc_bs (zQ.wi hσ14 rfl) (fun σ15 hσ15 => zpc_bi (fu_fX5_pairAt hσ15) (fun σ16 v17 hσ16 => zpc_if (fun _ => fu_fX5_compareOne_100 hσ16) (fun _ => fu_fX5_compareOne_100 hσ16)))))))))))))))
theorem fu_fX5_copyOne_126 {σ0 : zSt} {σ : zSt} {x3 : Int32} {s0 : Int32} {s1 : Int32} {s2 : Int32} (h : (zQ [3, 5, 7, 9, 11, 12, 15, 17, 19, 21, 23, 25, 27, 28, 29, 30, 32, 34, 36, 40, 42, 44, 45] [] [5, 38, 46, 48] []) σ0 σ) : zpc (fX5_copyOne_126 σ x3 s0 s1 s2) (fun r => (zQ [3, 5, 7, 9, 11, 12, 15, 17, 19, 21, 23, 25, 27, 28, 29, 30, 32, 34, 36, 40, 42, 44, 45] [] [5, 38, 46, 48] []) σ0 (r.1)) := by
  unfold fX5_copyOne_126
  exact zpc_ck (zpc_bs (zQ.wi h rfl) (fun σ1 hσ1 => zpc_ck (zpc_some hσ1)))
theorem fu_fX5_copyOne_78 {σ0 : zSt} {σ : zSt} {x2 : Int32} {s0 : Int32} (h : (zQ [3, 5, 7, 9, 11, 12, 15, 17, 19, 21, 23, 25, 27, 28, 29, 30, 32, 34, 36, 40, 42, 44, 45] [] [5, 38, 46, 48] []) σ0 σ) : zpc (fX5_copyOne_78 σ x2 s0) (fun r => (zQ [3, 5, 7, 9, 11, 12, 15, 17, 19, 21, 23, 25, 27, 28, 29, 30, 32, 34, 36, 40, 42, 44, 45] [] [5, 38, 46, 48] []) σ0 (r.1)) := by
  unfold fX5_copyOne_78
  exact zpc_ck (zpc_bv (fun v2 _ => zpc_ck (zpc_if (fun _ => fu_fX5_copyOne_126 h) (fun _ => fu_fX5_copyOne_126 h))))
theorem fu_fX5_copyOne {σ0 : zSt} {σ : zSt} {x1 : Int32} (h : (zQ [3, 5, 7, 9, 11, 12, 15, 17, 19, 21, 23, 25, 27, 28, 29, 30, 32, 34, 36, 40, 42, 44, 45] [] [5, 38, 46, 48] []) σ0 σ) : zpc (fX5_copyOne σ x1) (fun r => (zQ [3, 5, 7, 9, 11, 12, 15, 17, 19, 21, 23, 25, 27, 28, 29, 30, 32, 34, 36, 40, 42, 44, 45] [] [5, 38, 46, 48] []) σ0 (r.1)) := by
  unfold fX5_copyOne
  exact zpc_bi (fu_fX5_pairAt h) (fun σ3 v4 hσ3 => zpc_bi (fu_fX2_read hσ3) (fun σ5 v6 hσ5 => zpc_bi (fu_fX5_pairAt hσ5) (fun σ7 v8 hσ7 => zpc_bu (fu_fX2_write hσ7) (fun σ9 hσ9 => zpc_bi (fu_fX5_pairAt hσ9) (fun σ10 v11 hσ10 => zpc_bu (fu_fX5_putPairAt hσ10) (fun σ12 hσ12 => zpc_bi (fu_fX5_pairAt hσ12) (fun σ13 v14 hσ13 => zpc_bu (fu_fX5_putPairAt hσ13) (fun σ15 hσ15 => zpc_bi (fu_fX5_pairAt hσ15) (fun σ16 v17 hσ16 => zpc_bu (fu_fX5_putPairAt hσ16) (fun σ18 hσ18 => zpc_bi (fu_fX5_pairAt hσ18) (fun σ19 v20 hσ19 => zpc_if (fun _ => fu_fX5_copyOne_78 hσ19) (fun _ => fu_fX5_copyOne_78 hσ19))))))))))))
theorem fu_fX5_block_88 {σ0 : zSt} {σ : zSt} (h : (zQ [3, 5, 7, 9, 11, 12, 15, 17, 19, 21, 23, 25, 27, 28, 29, 30, 32, 34, 36, 40, 42, 44, 45] [] [5, 38, 46, 48] []) σ0 σ) : zpc (fX5_block_88 σ) (fun r => (zQ [3, 5, 7, 9, 11, 12, 15, 17, 19, 21, 23, 25, 27, 28, 29, 30, 32, 34, 36, 40, 42, 44, 45] [] [5, 38, 46, 48] []) σ0 (r.1)) := by
  unfold fX5_block_88
  exact zpc_some h
theorem fu_fX5_block_135 {σ0 : zSt} {σ : zSt} (h : (zQ [3, 5, 7, 9, 11, 12, 15, 17, 19, 21, 23, 25, 27, 28, 29, 30, 32, 34, 36, 40, 42, 44, 45] [] [5, 38, 46, 48] []) σ0 σ) : zpc (fX5_block_135 σ) (fun r => (zQ [3, 5, 7, 9, 11, 12, 15, 17, 19, 21, 23, 25, 27, 28, 29, 30, 32, 34, 36, 40, 42, 44, 45] [] [5, 38, 46, 48] []) σ0 (r.1)) := by
  unfold fX5_block_135
  exact zpc_some h
theorem fu_fX5_block_77 {σ0 : zSt} {σ : zSt} {x1 : Int32} {x3 : Int32} (h : (zQ [3, 5, 7, 9, 11, 12, 15, 17, 19, 21, 23, 25, 27, 28, 29, 30, 32, 34, 36, 40, 42, 44, 45] [] [5, 38, 46, 48] []) σ0 σ) : zpc (fX5_block_77 σ x1 x3) (fun r => (zQ [3, 5, 7, 9, 11, 12, 15, 17, 19, 21, 23, 25, 27, 28, 29, 30, 32, 34, 36, 40, 42, 44, 45] [] [5, 38, 46, 48] []) σ0 (r.1)) := by
  unfold fX5_block_77
  exact zpc_if (fun _ => fu_fX5_block_88 h) (fun _ => zpc_if (fun _ => fu_fX5_block_88 h) (fun _ => zpc_ck (zpc_ck (zpc_bs (zQ.wi h rfl) (fun σ1 hσ1 => zpc_if (fun _ => zpc_ck (zpc_ck (zpc_bs (zQ.wi hσ1 rfl) (fun σ2 hσ2 => fu_fX5_block_135 hσ2)))) (fun _ => fu_fX5_block_135 hσ1))))))
theorem fu_fX5_block_12 {σ0 : zSt} {σ : zSt} {x1 : Int32} {s0 : Int32} (h : (zQ [3, 5, 7, 9, 11, 12, 15, 17, 19, 21, 23, 25, 27, 28, 29, 30, 32, 34, 36, 40, 42, 44, 45] [] [5, 38, 46, 48] []) σ0 σ) : zpc (fX5_block_12 σ x1 s0) (fun r => (zQ [3, 5, 7, 9, 11, 12, 15, 17, 19, 21, 23, 25, 27, 28, 29, 30, 32, 34, 36, 40, 42, 44, 45] [] [5, 38, 46, 48] []) σ0 (r.1)) := by
  unfold fX5_block_12
  exact zpc_if (fun _ => zpc_bi (fu_fX5_copyOne h) (fun σ3 v4 hσ3 => fu_fX5_block_77 hσ3)) (fun _ => zpc_if (fun _ => zpc_bi (fu_fX5_compareOne h) (fun σ5 v6 hσ5 => fu_fX5_block_77 hσ5)) (fun _ => zpc_if (fun _ => zpc_bi (fu_fX5_takeOne h) (fun σ7 v8 hσ7 => fu_fX5_block_77 hσ7)) (fun _ => zpc_bi (fu_fX5_giveOne h) (fun σ9 v10 hσ9 => fu_fX5_block_77 hσ9))))
theorem fu_fX5_block {σ0 : zSt} {σ : zSt} {x1 : Int32} (h : (zQ [3, 5, 7, 9, 11, 12, 15, 17, 19, 21, 23, 25, 27, 28, 29, 30, 32, 34, 36, 40, 42, 44, 45] [] [5, 38, 46, 48] []) σ0 σ) : zpc (fX5_block σ x1) (fun r => (zQ [3, 5, 7, 9, 11, 12, 15, 17, 19, 21, 23, 25, 27, 28, 29, 30, 32, 34, 36, 40, 42, 44, 45] [] [5, 38, 46, 48] []) σ0 (r.1)) := by
  unfold fX5_block
  exact zpc_if (fun _ => fu_fX5_block_12 h) (fun _ => fu_fX5_block_12 h)
theorem fu_fX5_turnDigits_102 {σ0 : zSt} {σ : zSt} {s0 : Int32} {s1 : Int32} {s2 : Int32} (h : (zQ [3, 5, 7, 9, 11, 12, 15, 17, 19, 21, 23, 25, 27, 28, 29, 30, 32, 34, 36, 40, 42, 44, 45] [] [5, 38, 46, 48] []) σ0 σ) : zpc (fX5_turnDigits_102 σ s0 s1 s2) (fun r => (zQ [3, 5, 7, 9, 11, 12, 15, 17, 19, 21, 23, 25, 27, 28, 29, 30, 32, 34, 36, 40, 42, 44, 45] [] [5, 38, 46, 48] []) σ0 (r)) := by
  unfold fX5_turnDigits_102
  exact zpc_ck (zpc_bs (zQ.wi h rfl) (fun σ1 hσ1 => zpc_ck (zpc_ck (zpc_bi (fu_fX5_by hσ1) (fun σ2 v3 hσ2 => zpc_ck (zpc_bi (fu_fX5_parity hσ2) (fun σ4 v5 hσ4 => zpc_ck (zpc_bs (zQ.wi hσ4 rfl) (fun σ6 hσ6 => zpc_some hσ6)))))))))
theorem fu_fX5_turnDigits_70 {σ0 : zSt} {σ : zSt} {x1 : Int32} {x3 : Int32} {s0 : Int32} {s1 : Int32} (h : (zQ [3, 5, 7, 9, 11, 12, 15, 17, 19, 21, 23, 25, 27, 28, 29, 30, 32, 34, 36, 40, 42, 44, 45] [] [5, 38, 46, 48] []) σ0 σ) : zpc (fX5_turnDigits_70 σ x1 x3 s0 s1) (fun r => (zQ [3, 5, 7, 9, 11, 12, 15, 17, 19, 21, 23, 25, 27, 28, 29, 30, 32, 34, 36, 40, 42, 44, 45] [] [5, 38, 46, 48] []) σ0 (r)) := by
  unfold fX5_turnDigits_70
  exact zpc_bu (fu_fX2_write h) (fun σ7 hσ7 => zpc_ck (zpc_if (fun _ => fu_fX5_turnDigits_102 hσ7) (fun _ => fu_fX5_turnDigits_102 hσ7)))
theorem fu_fX5_turnDigits {σ0 : zSt} {σ : zSt} {x1 : Int32} (h : (zQ [3, 5, 7, 9, 11, 12, 15, 17, 19, 21, 23, 25, 27, 28, 29, 30, 32, 34, 36, 40, 42, 44, 45] [] [5, 38, 46, 48] []) σ0 σ) : zpc (fX5_turnDigits σ x1) (fun r => (zQ [3, 5, 7, 9, 11, 12, 15, 17, 19, 21, 23, 25, 27, 28, 29, 30, 32, 34, 36, 40, 42, 44, 45] [] [5, 38, 46, 48] []) σ0 (r)) := by
  unfold fX5_turnDigits
  exact zpc_bi (fu_fX5_pairAt h) (fun σ8 v9 hσ8 => zpc_bi (fu_fX2_read hσ8) (fun σ10 v11 hσ10 => zpc_ck (zpc_bv (fun v12 _ => zpc_ck (zpc_bs (zQ.wi hσ10 rfl) (fun σ13 hσ13 => zpc_if (fun _ => fu_fX5_turnDigits_70 hσ13) (fun _ => fu_fX5_turnDigits_70 hσ13)))))))
theorem fu_fX5_moreOfA_139 {σ0 : zSt} {σ : zSt} {s0 : Int32} {s1 : Int32} {s2 : Int32} (h : (zQ [3, 5, 7, 9, 11, 12, 15, 17, 19, 21, 23, 25, 27, 28, 29, 30, 32, 34, 36, 40, 42, 44, 45] [] [5, 38, 46, 48] []) σ0 σ) : zpc (fX5_moreOfA_139 σ s0 s1 s2) (fun r => (zQ [3, 5, 7, 9, 11, 12, 15, 17, 19, 21, 23, 25, 27, 28, 29, 30, 32, 34, 36, 40, 42, 44, 45] [] [5, 38, 46, 48] []) σ0 (r.1)) := by
  unfold fX5_moreOfA_139
  exact zpc_ck (zpc_bs (zQ.wi h rfl) (fun σ1 hσ1 => zpc_some hσ1))
theorem fu_fX5_moreOfA_99 {σ0 : zSt} {σ : zSt} {s0 : Int32} {s1 : Int32} (h : (zQ [3, 5, 7, 9, 11, 12, 15, 17, 19, 21, 23, 25, 27, 28, 29, 30, 32, 34, 36, 40, 42, 44, 45] [] [5, 38, 46, 48] []) σ0 σ) : zpc (fX5_moreOfA_99 σ s0 s1) (fun r => (zQ [3, 5, 7, 9, 11, 12, 15, 17, 19, 21, 23, 25, 27, 28, 29, 30, 32, 34, 36, 40, 42, 44, 45] [] [5, 38, 46, 48] []) σ0 (r.1)) := by
  unfold fX5_moreOfA_99
  exact zpc_ck (zpc_bs (zQ.wi h rfl) (fun σ2 hσ2 => zpc_ck (zpc_ck (zpc_bi (fu_fX5_by hσ2) (fun σ3 v4 hσ3 => zpc_ck (zpc_if (fun _ => fu_fX5_moreOfA_139 hσ3) (fun _ => fu_fX5_moreOfA_139 hσ3)))))))
theorem fu_fX5_moreOfA_72 {σ0 : zSt} {σ : zSt} {x1 : Int32} (h : (zQ [3, 5, 7, 9, 11, 12, 15, 17, 19, 21, 23, 25, 27, 28, 29, 30, 32, 34, 36, 40, 42, 44, 45] [] [5, 38, 46, 48] []) σ0 σ) : zpc (fX5_moreOfA_72 σ x1) (fun r => (zQ [3, 5, 7, 9, 11, 12, 15, 17, 19, 21, 23, 25, 27, 28, 29, 30, 32, 34, 36, 40, 42, 44, 45] [] [5, 38, 46, 48] []) σ0 (r.1)) := by
  unfold fX5_moreOfA_72
  exact zpc_if (fun _ => zpc_ck (fu_fX5_moreOfA_99 h)) (fun _ => zpc_ck (fu_fX5_moreOfA_99 h))
theorem fu_fX5_moreOfA_155 {σ0 : zSt} {σ : zSt} {s0 : Int32} (h : (zQ [3, 5, 7, 9, 11, 12, 15, 17, 19, 21, 23, 25, 27, 28, 29, 30, 32, 34, 36, 40, 42, 44, 45] [] [5, 38, 46, 48] []) σ0 σ) : zpc (fX5_moreOfA_155 σ s0) (fun r => (zQ [3, 5, 7, 9, 11, 12, 15, 17, 19, 21, 23, 25, 27, 28, 29, 30, 32, 34, 36, 40, 42, 44, 45] [] [5, 38, 46, 48] []) σ0 (r.1)) := by
  unfold fX5_moreOfA_155
  exact zpc_bu (fu_fX5_turnDigits h) (fun σ5 hσ5 => zpc_some hσ5)
theorem fu_fX5_moreOfA_144 {σ0 : zSt} {σ : zSt} {x1 : Int32} (h : (zQ [3, 5, 7, 9, 11, 12, 15, 17, 19, 21, 23, 25, 27, 28, 29, 30, 32, 34, 36, 40, 42, 44, 45] [] [5, 38, 46, 48] []) σ0 σ) : zpc (fX5_moreOfA_144 σ x1) (fun r => (zQ [3, 5, 7, 9, 11, 12, 15, 17, 19, 21, 23, 25, 27, 28, 29, 30, 32, 34, 36, 40, 42, 44, 45] [] [5, 38, 46, 48] []) σ0 (r.1)) := by
  unfold fX5_moreOfA_144
  exact zpc_if (fun _ => fu_fX5_moreOfA_155 h) (fun _ => fu_fX5_moreOfA_155 h)
theorem fu_fX5_moreOfA {σ0 : zSt} {σ : zSt} {x1 : Int32} (h : (zQ [3, 5, 7, 9, 11, 12, 15, 17, 19, 21, 23, 25, 27, 28, 29, 30, 32, 34, 36, 40, 42, 44, 45] [] [5, 38, 46, 48] []) σ0 σ) : zpc (fX5_moreOfA σ x1) (fun r => (zQ [3, 5, 7, 9, 11, 12, 15, 17, 19, 21, 23, 25, 27, 28, 29, 30, 32, 34, 36, 40, 42, 44, 45] [] [5, 38, 46, 48] []) σ0 (r.1)) := by
  unfold fX5_moreOfA
  exact zpc_if (fun _ => zpc_ck (zpc_ck (zpc_bs (zQ.wi h rfl) (fun σ6 hσ6 => zpc_some hσ6)))) (fun _ => zpc_if (fun _ => zpc_ck (zpc_ck (zpc_bs (zQ.wi h rfl) (fun σ7 hσ7 => zpc_some hσ7)))) (fun _ => zpc_if (fun _ => fu_fX5_moreOfA_72 h) (fun _ => zpc_if (fun _ => fu_fX5_moreOfA_72 h) (fun _ => zpc_if (fun _ => fu_fX5_moreOfA_144 h) (fun _ => zpc_if (fun _ => fu_fX5_moreOfA_144 h) (fun _ => zpc_some h))))))
theorem fu_fX5_pop {σ0 : zSt} {σ : zSt} (h : (zQ [3, 5, 7, 9, 11, 12, 15, 17, 19, 21, 23, 25, 27, 28, 29, 30, 32, 34, 36, 40, 42, 44, 45] [] [5, 38, 46, 48] []) σ0 σ) : zpc (fX5_pop σ) (fun r => (zQ [3, 5, 7, 9, 11, 12, 15, 17, 19, 21, 23, 25, 27, 28, 29, 30, 32, 34, 36, 40, 42, 44, 45] [] [5, 38, 46, 48] []) σ0 (r.1)) := by
  unfold fX5_pop
  exact zpc_ck (zpc_bi (fu_fX2_read h) (fun σ1 v2 hσ1 => zpc_ck (zpc_bi (fu_fX2_read hσ1) (fun σ3 v4 hσ3 => zpc_bv (fun v5 _ => zpc_ck (zpc_ck (zpc_bs (zQ.wi hσ3 rfl) (fun σ6 hσ6 => zpc_some hσ6))))))))
theorem fu_fX5_difference_72 {σ0 : zSt} {σ : zSt} {x5 : Int32} {s0 : Int32} {s1 : Int32} {s2 : Int32} (h : (zQ [3, 5, 7, 9, 11, 12, 15, 17, 19, 21, 23, 25, 27, 28, 29, 30, 32, 34, 36, 40, 42, 44, 45] [] [5, 38, 46, 48] []) σ0 σ) : zpc (fX5_difference_72 σ x5 s0 s1 s2) (fun r => (zQ [3, 5, 7, 9, 11, 12, 15, 17, 19, 21, 23, 25, 27, 28, 29, 30, 32, 34, 36, 40, 42, 44, 45] [] [5, 38, 46, 48] []) σ0 (r.1)) := by
  unfold fX5_difference_72
  exact zpc_ck (zpc_bs (zQ.wi h rfl) (fun σ1 hσ1 => zpc_some hσ1))
theorem fu_fX5_difference_59 {σ0 : zSt} {σ : zSt} {x4 : Int32} {x5 : Int32} {s0 : Int32} {s1 : Int32} {s2 : Int32} (h : (zQ [3, 5, 7, 9, 11, 12, 15, 17, 19, 21, 23, 25, 27, 28, 29, 30, 32, 34, 36, 40, 42, 44, 45] [] [5, 38, 46, 48] []) σ0 σ) : zpc (fX5_difference_59 σ x4 x5 s0 s1 s2) (fun r => (zQ [3, 5, 7, 9, 11, 12, 15, 17, 19, 21, 23, 25, 27, 28, 29, 30, 32, 34, 36, 40, 42, 44, 45] [] [5, 38, 46, 48] []) σ0 (r.1)) := by
  unfold fX5_difference_59
  exact zpc_if (fun _ => fu_fX5_difference_72 h) (fun _ => fu_fX5_difference_72 h)
theorem fu_fX5_difference {σ0 : zSt} {σ : zSt} {x1 : Int32} {x2 : Int32} {x3 : Int32} (h : (zQ [3, 5, 7, 9, 11, 12, 15, 17, 19, 21, 23, 25, 27, 28, 29, 30, 32, 34, 36, 40, 42, 44, 45] [] [5, 38, 46, 48] []) σ0 σ) : zpc (fX5_difference σ x1 x2 x3) (fun r => (zQ [3, 5, 7, 9, 11, 12, 15, 17, 19, 21, 23, 25, 27, 28, 29, 30, 32, 34, 36, 40, 42, 44, 45] [] [5, 38, 46, 48] []) σ0 (r.1)) := by
  unfold fX5_difference
  exact zpc_bv (fun v2 _ => zpc_bv (fun v3 _ => zpc_bv (fun v4 _ => zpc_bi (fu_fX5_by h) (fun σ5 v6 hσ5 => zpc_if (fun _ => fu_fX5_difference_59 hσ5) (fun _ => fu_fX5_difference_59 hσ5)))))
theorem fu_fX5_fetchWord {σ0 : zSt} {σ : zSt} (h : (zQ [3, 5, 7, 9, 11, 12, 15, 17, 19, 21, 23, 25, 27, 28, 29, 30, 32, 34, 36, 40, 42, 44, 45] [] [5, 38, 46, 48] []) σ0 σ) : zpc (fX5_fetchWord σ) (fun r => (zQ [3, 5, 7, 9, 11, 12, 15, 17, 19, 21, 23, 25, 27, 28, 29, 30, 32, 34, 36, 40, 42, 44, 45] [] [5, 38, 46, 48] []) σ0 (r.1)) := by
  unfold fX5_fetchWord
  exact zpc_ck (zpc_bi (fu_fX2_read h) (fun σ1 v2 hσ1 => zpc_ck (zpc_bi (fu_fX2_read hσ1) (fun σ3 v4 hσ3 => zpc_bv (fun v5 _ => zpc_ck (zpc_ck (zpc_bs (zQ.wi hσ3 rfl) (fun σ6 hσ6 => zpc_some hσ6))))))))
theorem fu_fX5_hl_27 {σ0 : zSt} {σ : zSt} {s0 : Int32} (h : (zQ [3, 5, 7, 9, 11, 12, 15, 17, 19, 21, 23, 25, 27, 28, 29, 30, 32, 34, 36, 40, 42, 44, 45] [] [5, 38, 46, 48] []) σ0 σ) : zpc (fX5_hl_27 σ s0) (fun r => (zQ [3, 5, 7, 9, 11, 12, 15, 17, 19, 21, 23, 25, 27, 28, 29, 30, 32, 34, 36, 40, 42, 44, 45] [] [5, 38, 46, 48] []) σ0 (r.1)) := by
  unfold fX5_hl_27
  exact zpc_some h
theorem fu_fX5_hl {σ0 : zSt} {σ : zSt} (h : (zQ [3, 5, 7, 9, 11, 12, 15, 17, 19, 21, 23, 25, 27, 28, 29, 30, 32, 34, 36, 40, 42, 44, 45] [] [5, 38, 46, 48] []) σ0 σ) : zpc (fX5_hl σ) (fun r => (zQ [3, 5, 7, 9, 11, 12, 15, 17, 19, 21, 23, 25, 27, 28, 29, 30, 32, 34, 36, 40, 42, 44, 45] [] [5, 38, 46, 48] []) σ0 (r.1)) := by
  unfold fX5_hl
  exact zpc_if (fun _ => zpc_bi (fu_fX5_pairAt h) (fun σ1 v2 hσ1 => fu_fX5_hl_27 hσ1)) (fun _ => zpc_ck (fu_fX5_hl_27 h))
theorem fu_fX5_pair {σ0 : zSt} {σ : zSt} {x1 : Int32} (h : (zQ [3, 5, 7, 9, 11, 12, 15, 17, 19, 21, 23, 25, 27, 28, 29, 30, 32, 34, 36, 40, 42, 44, 45] [] [5, 38, 46, 48] []) σ0 σ) : zpc (fX5_pair σ x1) (fun r => (zQ [3, 5, 7, 9, 11, 12, 15, 17, 19, 21, 23, 25, 27, 28, 29, 30, 32, 34, 36, 40, 42, 44, 45] [] [5, 38, 46, 48] []) σ0 (r.1)) := by
  unfold fX5_pair
  exact zpc_if (fun _ => zpc_bi (fu_fX5_pairAt h) (fun σ1 v2 hσ1 => zpc_some hσ1)) (fun _ => zpc_if (fun _ => zpc_bi (fu_fX5_pairAt h) (fun σ3 v4 hσ3 => zpc_some hσ3)) (fun _ => zpc_if (fun _ => zpc_bi (fu_fX5_hl h) (fun σ5 v6 hσ5 => zpc_some hσ5)) (fun _ => zpc_ck (zpc_some h))))
theorem fu_fX5_writeWord {σ0 : zSt} {σ : zSt} {x1 : Int32} {x2 : Int32} (h : (zQ [3, 5, 7, 9, 11, 12, 15, 17, 19, 21, 23, 25, 27, 28, 29, 30, 32, 34, 36, 40, 42, 44, 45] [] [5, 38, 46, 48] []) σ0 σ) : zpc (fX5_writeWord σ x1 x2) (fun r => (zQ [3, 5, 7, 9, 11, 12, 15, 17, 19, 21, 23, 25, 27, 28, 29, 30, 32, 34, 36, 40, 42, 44, 45] [] [5, 38, 46, 48] []) σ0 (r)) := by
  unfold fX5_writeWord
  exact zpc_bu (fu_fX2_write h) (fun σ1 hσ1 => zpc_bu (fu_fX2_write hσ1) (fun σ2 hσ2 => zpc_some hσ2))
theorem fu_fX5_putHl_32 {σ0 : zSt} {σ : zSt} (h : (zQ [3, 5, 7, 9, 11, 12, 15, 17, 19, 21, 23, 25, 27, 28, 29, 30, 32, 34, 36, 40, 42, 44, 45] [] [5, 38, 46, 48] []) σ0 σ) : zpc (fX5_putHl_32 σ) (fun r => (zQ [3, 5, 7, 9, 11, 12, 15, 17, 19, 21, 23, 25, 27, 28, 29, 30, 32, 34, 36, 40, 42, 44, 45] [] [5, 38, 46, 48] []) σ0 (r)) := by
  unfold fX5_putHl_32
  exact zpc_some h
theorem fu_fX5_putHl {σ0 : zSt} {σ : zSt} {x1 : Int32} (h : (zQ [3, 5, 7, 9, 11, 12, 15, 17, 19, 21, 23, 25, 27, 28, 29, 30, 32, 34, 36, 40, 42, 44, 45] [] [5, 38, 46, 48] []) σ0 σ) : zpc (fX5_putHl σ x1) (fun r => (zQ [3, 5, 7, 9, 11, 12, 15, 17, 19, 21, 23, 25, 27, 28, 29, 30, 32, 34, 36, 40, 42, 44, 45] [] [5, 38, 46, 48] []) σ0 (r)) := by
  unfold fX5_putHl
  exact zpc_if (fun _ => zpc_bu (fu_fX5_putPairAt h) (fun σ2 hσ2 => fu_fX5_putHl_32 hσ2)) (fun _ => zpc_ck (zpc_bs (zQ.wi h rfl) (fun σ1 hσ1 => fu_fX5_putHl_32 hσ1)))
theorem fu_fX5_putPair_65 {σ0 : zSt} {σ : zSt} (h : (zQ [3, 5, 7, 9, 11, 12, 15, 17, 19, 21, 23, 25, 27, 28, 29, 30, 32, 34, 36, 40, 42, 44, 45] [] [5, 38, 46, 48] []) σ0 σ) : zpc (fX5_putPair_65 σ) (fun r => (zQ [3, 5, 7, 9, 11, 12, 15, 17, 19, 21, 23, 25, 27, 28, 29, 30, 32, 34, 36, 40, 42, 44, 45] [] [5, 38, 46, 48] []) σ0 (r)) := by
  unfold fX5_putPair_65
  exact zpc_some h
theorem fu_fX5_putPair {σ0 : zSt} {σ : zSt} {x1 : Int32} {x2 : Int32} (h : (zQ [3, 5, 7, 9, 11, 12, 15, 17, 19, 21, 23, 25, 27, 28, 29, 30, 32, 34, 36, 40, 42, 44, 45] [] [5, 38, 46, 48] []) σ0 σ) : zpc (fX5_putPair σ x1 x2) (fun r => (zQ [3, 5, 7, 9, 11, 12, 15, 17, 19, 21, 23, 25, 27, 28, 29, 30, 32, 34, 36, 40, 42, 44, 45] [] [5, 38, 46, 48] []) σ0 (r)) := by
  unfold fX5_putPair
  exact zpc_if (fun _ => zpc_bu (fu_fX5_putPairAt h) (fun σ1 hσ1 => fu_fX5_putPair_65 hσ1)) (fun _ => zpc_if (fun _ => zpc_bu (fu_fX5_putPairAt h) (fun σ2 hσ2 => fu_fX5_putPair_65 hσ2)) (fun _ => zpc_if (fun _ => zpc_bu (fu_fX5_putHl h) (fun σ3 hσ3 => fu_fX5_putPair_65 hσ3)) (fun _ => zpc_ck (zpc_bs (zQ.wi h rfl) (fun σ4 hσ4 => fu_fX5_putPair_65 hσ4)))))
theorem fu_fX5_farPair_51 {σ0 : zSt} {σ : zSt} (h : (zQ [3, 5, 7, 9, 11, 12, 15, 17, 19, 21, 23, 25, 27, 28, 29, 30, 32, 34, 36, 40, 42, 44, 45] [] [5, 38, 46, 48] []) σ0 σ) : zpc (fX5_farPair_51 σ) (fun r => (zQ [3, 5, 7, 9, 11, 12, 15, 17, 19, 21, 23, 25, 27, 28, 29, 30, 32, 34, 36, 40, 42, 44, 45] [] [5, 38, 46, 48] []) σ0 (r.1)) := by
  unfold fX5_farPair_51
  exact zpc_some h
theorem fu_fX5_farPair {σ0 : zSt} {σ : zSt} {x1 : Int32} (h : (zQ [3, 5, 7, 9, 11, 12, 15, 17, 19, 21, 23, 25, 27, 28, 29, 30, 32, 34, 36, 40, 42, 44, 45] [] [5, 38, 46, 48] []) σ0 σ) : zpc (fX5_farPair σ x1) (fun r => (zQ [3, 5, 7, 9, 11, 12, 15, 17, 19, 21, 23, 25, 27, 28, 29, 30, 32, 34, 36, 40, 42, 44, 45] [] [5, 38, 46, 48] []) σ0 (r.1)) := by
  unfold fX5_farPair
  exact zpc_bi (fu_fX5_fetchWord h) (fun σ1 v2 hσ1 => zpc_ck (zpc_bs (zQ.wi hσ1 rfl) (fun σ3 hσ3 => zpc_if (fun _ => zpc_bi (fu_fX5_pair hσ3) (fun σ7 v8 hσ7 => zpc_bu (fu_fX5_writeWord hσ7) (fun σ9 hσ9 => fu_fX5_farPair_51 hσ9))) (fun _ => zpc_bi (fu_fX5_readWord hσ3) (fun σ4 v5 hσ4 => zpc_bu (fu_fX5_putPair hσ4) (fun σ6 hσ6 => fu_fX5_farPair_51 hσ6))))))
theorem fu_fX5_putWide_44 {σ0 : zSt} {σ : zSt} {x1 : Int32} {x2 : Int32} {x3 : Int32} {s0 : Int32} {s1 : Int32} {s2 : Int32} (h : (zQ [3, 5, 7, 9, 11, 12, 15, 17, 19, 21, 23, 25, 27, 28, 29, 30, 32, 34, 36, 40, 42, 44, 45] [] [5, 38, 46, 48] []) σ0 σ) : zpc (fX5_putWide_44 σ x1 x2 x3 s0 s1 s2) (fun r => (zQ [3, 5, 7, 9, 11, 12, 15, 17, 19, 21, 23, 25, 27, 28, 29, 30, 32, 34, 36, 40, 42, 44, 45] [] [5, 38, 46, 48] []) σ0 (r)) := by
  unfold fX5_putWide_44
  exact zpc_ck (zpc_bs (zQ.wi h rfl) (fun σ1 hσ1 => zpc_some hσ1))
theorem fu_fX5_putWide {σ0 : zSt} {σ : zSt} {x1 : Int32} {x2 : Int32} {x3 : Int32} (h : (zQ [3, 5, 7, 9, 11, 12, 15, 17, 19, 21, 23, 25, 27, 28, 29, 30, 32, 34, 36, 40, 42, 44, 45] [] [5, 38, 46, 48] []) σ0 σ) : zpc (fX5_putWide σ x1 x2 x3) (fun r => (zQ [3, 5, 7, 9, 11, 12, 15, 17, 19, 21, 23, 25, 27, 28, 29, 30, 32, 34, 36, 40, 42, 44, 45] [] [5, 38, 46, 48] []) σ0 (r)) := by
  unfold fX5_putWide
  exact zpc_ck (zpc_bs (zQ.wi h rfl) (fun σ2 hσ2 => zpc_bu (fu_fX5_putHl hσ2) (fun σ3 hσ3 => zpc_if (fun _ => fu_fX5_putWide_44 hσ3) (fun _ => fu_fX5_putWide_44 hσ3))))
theorem fu_fX5_takePair_63 {σ0 : zSt} {σ : zSt} {s0 : Int32} {s1 : Int32} {s2 : Int32} (h : (zQ [3, 5, 7, 9, 11, 12, 15, 17, 19, 21, 23, 25, 27, 28, 29, 30, 32, 34, 36, 40, 42, 44, 45] [] [5, 38, 46, 48] []) σ0 σ) : zpc (fX5_takePair_63 σ s0 s1 s2) (fun r => (zQ [3, 5, 7, 9, 11, 12, 15, 17, 19, 21, 23, 25, 27, 28, 29, 30, 32, 34, 36, 40, 42, 44, 45] [] [5, 38, 46, 48] []) σ0 (r.1)) := by
  unfold fX5_takePair_63
  exact zpc_ck (zpc_bs (zQ.wi h rfl) (fun σ1 hσ1 => zpc_some hσ1))
theorem fu_fX5_takePair {σ0 : zSt} {σ : zSt} {x1 : Int32} (h : (zQ [3, 5, 7, 9, 11, 12, 15, 17, 19, 21, 23, 25, 27, 28, 29, 30, 32, 34, 36, 40, 42, 44, 45] [] [5, 38, 46, 48] []) σ0 σ) : zpc (fX5_takePair σ x1) (fun r => (zQ [3, 5, 7, 9, 11, 12, 15, 17, 19, 21, 23, 25, 27, 28, 29, 30, 32, 34, 36, 40, 42, 44, 45] [] [5, 38, 46, 48] []) σ0 (r.1)) := by
  unfold fX5_takePair
  exact zpc_bi (fu_fX5_hl h) (fun σ2 v3 hσ2 => zpc_bi (fu_fX5_pair hσ2) (fun σ4 v5 hσ4 => zpc_ck (zpc_bv (fun v6 _ => zpc_bu (fu_fX5_putWide hσ4) (fun σ7 hσ7 => zpc_bv (fun v8 _ => zpc_ck (zpc_if (fun _ => fu_fX5_takePair_63 hσ7) (fun _ => fu_fX5_takePair_63 hσ7))))))))
theorem fu_fX5_addPairAndCarry_65 {σ0 : zSt} {σ : zSt} {s0 : Int32} {s1 : Int32} {s2 : Int32} (h : (zQ [3, 5, 7, 9, 11, 12, 15, 17, 19, 21, 23, 25, 27, 28, 29, 30, 32, 34, 36, 40, 42, 44, 45] [] [5, 38, 46, 48] []) σ0 σ) : zpc (fX5_addPairAndCarry_65 σ s0 s1 s2) (fun r => (zQ [3, 5, 7, 9, 11, 12, 15, 17, 19, 21, 23, 25, 27, 28, 29, 30, 32, 34, 36, 40, 42, 44, 45] [] [5, 38, 46, 48] []) σ0 (r.1)) := by
  unfold fX5_addPairAndCarry_65
  exact zpc_ck (zpc_bs (zQ.wi h rfl) (fun σ1 hσ1 => zpc_some hσ1))
theorem fu_fX5_addPairAndCarry {σ0 : zSt} {σ : zSt} {x1 : Int32} (h : (zQ [3, 5, 7, 9, 11, 12, 15, 17, 19, 21, 23, 25, 27, 28, 29, 30, 32, 34, 36, 40, 42, 44, 45] [] [5, 38, 46, 48] []) σ0 σ) : zpc (fX5_addPairAndCarry σ x1) (fun r => (zQ [3, 5, 7, 9, 11, 12, 15, 17, 19, 21, 23, 25, 27, 28, 29, 30, 32, 34, 36, 40, 42, 44, 45] [] [5, 38, 46, 48] []) σ0 (r.1)) := by
  unfold fX5_addPairAndCarry
  exact zpc_bi (fu_fX5_hl h) (fun σ2 v3 hσ2 => zpc_bi (fu_fX5_pair hσ2) (fun σ4 v5 hσ4 => zpc_ck (zpc_bv (fun v6 _ => zpc_bu (fu_fX5_putWide hσ4) (fun σ7 hσ7 => zpc_bv (fun v8 _ => zpc_ck (zpc_if (fun _ => fu_fX5_addPairAndCarry_65 hσ7) (fun _ => fu_fX5_addPairAndCarry_65 hσ7))))))))
theorem fu_fX5_takeFromPort_26 {σ0 : zSt} {σ : zSt} {x2 : Int32} (h : (zQ [3, 5, 7, 9, 11, 12, 15, 17, 19, 21, 23, 25, 27, 28, 29, 30, 32, 34, 36, 40, 42, 44, 45] [] [5, 38, 46, 48] []) σ0 σ) : zpc (fX5_takeFromPort_26 σ x2) (fun r => (zQ [3, 5, 7, 9, 11, 12, 15, 17, 19, 21, 23, 25, 27, 28, 29, 30, 32, 34, 36, 40, 42, 44, 45] [] [5, 38, 46, 48] []) σ0 (r)) := by
  unfold fX5_takeFromPort_26
  exact zpc_ck (zpc_bi (fu_fX5_by h) (fun σ1 v2 hσ1 => zpc_bi (fu_fX5_parity hσ1) (fun σ3 v4 hσ3 => zpc_ck (zpc_bs (zQ.wi hσ3 rfl) (fun σ5 hσ5 => zpc_some hσ5)))))
theorem fu_fX5_takeFromPort {σ0 : zSt} {σ : zSt} {x1 : Int32} (h : (zQ [3, 5, 7, 9, 11, 12, 15, 17, 19, 21, 23, 25, 27, 28, 29, 30, 32, 34, 36, 40, 42, 44, 45] [] [5, 38, 46, 48] []) σ0 σ) : zpc (fX5_takeFromPort σ x1) (fun r => (zQ [3, 5, 7, 9, 11, 12, 15, 17, 19, 21, 23, 25, 27, 28, 29, 30, 32, 34, 36, 40, 42, 44, 45] [] [5, 38, 46, 48] []) σ0 (r)) := by
  unfold fX5_takeFromPort
  exact zpc_ck (zpc_bi (fu_fX4_read h) (fun σ6 v7 hσ6 => zpc_if (fun _ => fu_fX5_takeFromPort_26 hσ6) (fun _ => zpc_bu (fu_fX5_putOne hσ6) (fun σ8 hσ8 => fu_fX5_takeFromPort_26 hσ8))))
theorem fu_fX5_behindEd_160 {σ0 : zSt} {σ : zSt} {s0 : Int32} (h : (zQ [3, 5, 7, 9, 11, 12, 15, 17, 19, 21, 23, 25, 27, 28, 29, 30, 32, 34, 36, 40, 42, 44, 45] [] [5, 38, 46, 48] []) σ0 σ) : zpc (fX5_behindEd_160 σ s0) (fun r => (zQ [3, 5, 7, 9, 11, 12, 15, 17, 19, 21, 23, 25, 27, 28, 29, 30, 32, 34, 36, 40, 42, 44, 45] [] [5, 38, 46, 48] []) σ0 (r.1)) := by
  unfold fX5_behindEd_160
  exact zpc_some h
theorem fu_fX5_behindEd_131 {σ0 : zSt} {σ : zSt} {s0 : Int32} {s1 : Int32} (h : (zQ [3, 5, 7, 9, 11, 12, 15, 17, 19, 21, 23, 25, 27, 28, 29, 30, 32, 34, 36, 40, 42, 44, 45] [] [5, 38, 46, 48] []) σ0 σ) : zpc (fX5_behindEd_131 σ s0 s1) (fun r => (zQ [3, 5, 7, 9, 11, 12, 15, 17, 19, 21, 23, 25, 27, 28, 29, 30, 32, 34, 36, 40, 42, 44, 45] [] [5, 38, 46, 48] []) σ0 (r.1)) := by
  unfold fX5_behindEd_131
  exact zpc_bu (fu_fX4_write h) (fun σ1 hσ1 => zpc_some hσ1)
theorem fu_fX5_behindEd {σ0 : zSt} {σ : zSt} {x1 : Int32} (h : (zQ [3, 5, 7, 9, 11, 12, 15, 17, 19, 21, 23, 25, 27, 28, 29, 30, 32, 34, 36, 40, 42, 44, 45] [] [5, 38, 46, 48] []) σ0 σ) : zpc (fX5_behindEd σ x1) (fun r => (zQ [3, 5, 7, 9, 11, 12, 15, 17, 19, 21, 23, 25, 27, 28, 29, 30, 32, 34, 36, 40, 42, 44, 45] [] [5, 38, 46, 48] []) σ0 (r.1)) := by
  unfold fX5_behindEd
  exact zpc_if (fun _ => zpc_bv (fun v2 _ => zpc_if (fun _ => zpc_bi (fu_fX5_pairAt h) (fun σ3 v4 hσ3 => zpc_ck (zpc_bs (zQ.wi hσ3 rfl) (fun σ5 hσ5 => zpc_bu (fu_fX5_takeFromPort hσ5) (fun σ6 hσ6 => zpc_some hσ6))))) (fun _ => zpc_if (fun _ => zpc_bi (fu_fX5_pairAt h) (fun σ7 v8 hσ7 => zpc_ck (zpc_bs (zQ.wi hσ7 rfl) (fun σ9 hσ9 => zpc_ck (zpc_if (fun _ => fu_fX5_behindEd_131 hσ9) (fun _ => zpc_bi (fu_fX5_one hσ9) (fun σ10 v11 hσ10 => fu_fX5_behindEd_131 hσ10))))))) (fun _ => zpc_if (fun _ => zpc_if (fun _ => zpc_bi (fu_fX5_takePair h) (fun σ14 v15 hσ14 => fu_fX5_behindEd_160 hσ14)) (fun _ => zpc_bi (fu_fX5_addPairAndCarry h) (fun σ12 v13 hσ12 => fu_fX5_behindEd_160 hσ12))) (fun _ => zpc_if (fun _ => zpc_bi (fu_fX5_farPair h) (fun σ16 v17 hσ16 => zpc_some hσ16)) (fun _ => zpc_if (fun _ => zpc_ck (zpc_bi (fu_fX5_difference h) (fun σ18 v19 hσ18 => zpc_ck (zpc_bs (zQ.wi hσ18 rfl) (fun σ20 hσ20 => zpc_some hσ20))))) (fun _ => zpc_if (fun _ => zpc_bi (fu_fX5_pop h) (fun σ21 v22 hσ21 => zpc_bu (fu_fX5_goTo hσ21) (fun σ23 hσ23 => zpc_ck (zpc_ck (zpc_bs (zQ.wi hσ23 rfl) (fun σ24 hσ24 => zpc_some hσ24)))))) (fun _ => zpc_if (fun _ => zpc_ck (zpc_bs (zQ.wi h rfl) (fun σ25 hσ25 => zpc_some hσ25))) (fun _ => zpc_bi (fu_fX5_moreOfA h) (fun σ26 v27 hσ26 => zpc_some hσ26)))))))))) (fun _ => zpc_some h)
theorem fu_fX5_exchange_211 {σ0 : zSt} {σ : zSt} {x1 : Int32} (h : (zQ [3, 5, 7, 9, 11, 12, 15, 17, 19, 21, 23, 25, 27, 28, 29, 30, 32, 34, 36, 40, 42, 44, 45] [] [5, 38, 46, 48] []) σ0 σ) : zpc (fX5_exchange_211 σ x1) (fun r => (zQ [3, 5, 7, 9, 11, 12, 15, 17, 19, 21, 23, 25, 27, 28, 29, 30, 32, 34, 36, 40, 42, 44, 45] [] [5, 38, 46, 48] []) σ0 (r.1)) := by
  unfold fX5_exchange_211
  exact zpc_ck (zpc_bs (zQ.wi h rfl) (fun σ1 hσ1 => zpc_ck (zpc_bs (zQ.wi hσ1 rfl) (fun σ2 hσ2 => zpc_ck (zpc_bs (zQ.wi hσ2 rfl) (fun σ3 hσ3 => zpc_some hσ3))))))
theorem fu_fX5_exchange {σ0 : zSt} {σ : zSt} {x1 : Int32} (h : (zQ [3, 5, 7, 9, 11, 12, 15, 17, 19, 21, 23, 25, 27, 28, 29, 30, 32, 34, 36, 40, 42, 44, 45] [] [5, 38, 46, 48] []) σ0 σ) : zpc (fX5_exchange σ x1) (fun r => (zQ [3, 5, 7, 9, 11, 12, 15, 17, 19, 21, 23, 25, 27, 28, 29, 30, 32, 34, 36, 40, 42, 44, 45] [] [5, 38, 46, 48] []) σ0 (r.1)) := by
  unfold fX5_exchange
  exact zpc_if (fun _ => zpc_bi (fu_fX5_fetchWord h) (fun σ4 v5 hσ4 => zpc_bu (fu_fX5_goTo hσ4) (fun σ6 hσ6 => zpc_some hσ6))) (fun _ => zpc_if (fun _ => fu_fX5_exchange_211 h) (fun _ => zpc_if (fun _ => zpc_bi (fu_fX5_fetch h) (fun σ7 v8 hσ7 => zpc_ck (zpc_bu (fu_fX4_write hσ7) (fun σ9 hσ9 => zpc_ck (zpc_ck (zpc_bs (zQ.wi hσ9 rfl) (fun σ10 hσ10 => zpc_some hσ10))))))) (fun _ => zpc_if (fun _ => zpc_bi (fu_fX5_fetch h) (fun σ11 v12 hσ11 => zpc_ck (zpc_ck (zpc_bs (zQ.wi hσ11 rfl) (fun σ13 hσ13 => zpc_bi (fu_fX4_read hσ13) (fun σ14 v15 hσ14 => zpc_ck (zpc_bs (zQ.wi hσ14 rfl) (fun σ16 hσ16 => zpc_some hσ16)))))))) (fun _ => zpc_if (fun _ => zpc_ck (zpc_bi (fu_fX5_readWord h) (fun σ17 v18 hσ17 => zpc_ck (zpc_bi (fu_fX5_hl hσ17) (fun σ19 v20 hσ19 => zpc_bu (fu_fX5_writeWord hσ19) (fun σ21 hσ21 => zpc_bu (fu_fX5_putHl hσ21) (fun σ22 hσ22 => zpc_ck (zpc_bs (zQ.wi hσ22 rfl) (fun σ23 hσ23 => zpc_some hσ23))))))))) (fun _ => zpc_if (fun _ => zpc_bi (fu_fX5_pairAt h) (fun σ24 v25 hσ24 => zpc_bi (fu_fX5_pairAt hσ24) (fun σ26 v27 hσ26 => zpc_bu (fu_fX5_putPairAt hσ26) (fun σ28 hσ28 => zpc_bu (fu_fX5_putPairAt hσ28) (fun σ29 hσ29 => zpc_some hσ29))))) (fun _ => fu_fX5_exchange_211 h))))))
theorem fu_fX5_sum_61 {σ0 : zSt} {σ : zSt} {x4 : Int32} {x5 : Int32} {s0 : Int32} {s1 : Int32} {s2 : Int32} (h : (zQ [3, 5, 7, 9, 11, 12, 15, 17, 19, 21, 23, 25, 27, 28, 29, 30, 32, 34, 36, 40, 42, 44, 45] [] [5, 38, 46, 48] []) σ0 σ) : zpc (fX5_sum_61 σ x4 x5 s0 s1 s2) (fun r => (zQ [3, 5, 7, 9, 11, 12, 15, 17, 19, 21, 23, 25, 27, 28, 29, 30, 32, 34, 36, 40, 42, 44, 45] [] [5, 38, 46, 48] []) σ0 (r.1)) := by
  unfold fX5_sum_61
  exact zpc_ck (zpc_bs (zQ.wi h rfl) (fun σ1 hσ1 => zpc_some hσ1))
theorem fu_fX5_sum {σ0 : zSt} {σ : zSt} {x1 : Int32} {x2 : Int32} {x3 : Int32} (h : (zQ [3, 5, 7, 9, 11, 12, 15, 17, 19, 21, 23, 25, 27, 28, 29, 30, 32, 34, 36, 40, 42, 44, 45] [] [5, 38, 46, 48] []) σ0 σ) : zpc (fX5_sum σ x1 x2 x3) (fun r => (zQ [3, 5, 7, 9, 11, 12, 15, 17, 19, 21, 23, 25, 27, 28, 29, 30, 32, 34, 36, 40, 42, 44, 45] [] [5, 38, 46, 48] []) σ0 (r.1)) := by
  unfold fX5_sum
  exact zpc_bv (fun v2 _ => zpc_bv (fun v3 _ => zpc_bv (fun v4 _ => zpc_bi (fu_fX5_by h) (fun σ5 v6 hσ5 => zpc_if (fun _ => fu_fX5_sum_61 hσ5) (fun _ => fu_fX5_sum_61 hσ5)))))
theorem fu_fX5_doWith_292 {σ0 : zSt} {σ : zSt} (h : (zQ [3, 5, 7, 9, 11, 12, 15, 17, 19, 21, 23, 25, 27, 28, 29, 30, 32, 34, 36, 40, 42, 44, 45] [] [5, 38, 46, 48] []) σ0 σ) : zpc (fX5_doWith_292 σ) (fun r => (zQ [3, 5, 7, 9, 11, 12, 15, 17, 19, 21, 23, 25, 27, 28, 29, 30, 32, 34, 36, 40, 42, 44, 45] [] [5, 38, 46, 48] []) σ0 (r)) := by
  unfold fX5_doWith_292
  exact zpc_some h
theorem fu_fX5_doWith {σ0 : zSt} {σ : zSt} {x1 : Int32} {x2 : Int32} (h : (zQ [3, 5, 7, 9, 11, 12, 15, 17, 19, 21, 23, 25, 27, 28, 29, 30, 32, 34, 36, 40, 42, 44, 45] [] [5, 38, 46, 48] []) σ0 σ) : zpc (fX5_doWith σ x1 x2) (fun r => (zQ [3, 5, 7, 9, 11, 12, 15, 17, 19, 21, 23, 25, 27, 28, 29, 30, 32, 34, 36, 40, 42, 44, 45] [] [5, 38, 46, 48] []) σ0 (r)) := by
  unfold fX5_doWith
  exact zpc_if (fun _ => zpc_ck (zpc_bi (fu_fX5_sum h) (fun σ1 v2 hσ1 => zpc_ck (zpc_bs (zQ.wi hσ1 rfl) (fun σ3 hσ3 => fu_fX5_doWith_292 hσ3))))) (fun _ => zpc_if (fun _ => zpc_ck (zpc_ck (zpc_bi (fu_fX5_sum h) (fun σ4 v5 hσ4 => zpc_ck (zpc_bs (zQ.wi hσ4 rfl) (fun σ6 hσ6 => fu_fX5_doWith_292 hσ6)))))) (fun _ => zpc_if (fun _ => zpc_ck (zpc_bi (fu_fX5_difference h) (fun σ7 v8 hσ7 => zpc_ck (zpc_bs (zQ.wi hσ7 rfl) (fun σ9 hσ9 => fu_fX5_doWith_292 hσ9))))) (fun _ => zpc_if (fun _ => zpc_ck (zpc_ck (zpc_bi (fu_fX5_difference h) (fun σ10 v11 hσ10 => zpc_ck (zpc_bs (zQ.wi hσ10 rfl) (fun σ12 hσ12 => fu_fX5_doWith_292 hσ12)))))) (fun _ => zpc_if (fun _ => zpc_ck (zpc_ck (zpc_bs (zQ.wi h rfl) (fun σ13 hσ13 => zpc_ck (zpc_bi (fu_fX5_by hσ13) (fun σ14 v15 hσ14 => zpc_ck (zpc_bi (fu_fX5_parity hσ14) (fun σ16 v17 hσ16 => zpc_ck (zpc_bs (zQ.wi hσ16 rfl) (fun σ18 hσ18 => fu_fX5_doWith_292 hσ18)))))))))) (fun _ => zpc_if (fun _ => zpc_ck (zpc_ck (zpc_bs (zQ.wi h rfl) (fun σ19 hσ19 => zpc_ck (zpc_bi (fu_fX5_by hσ19) (fun σ20 v21 hσ20 => zpc_ck (zpc_bi (fu_fX5_parity hσ20) (fun σ22 v23 hσ22 => zpc_ck (zpc_bs (zQ.wi hσ22 rfl) (fun σ24 hσ24 => fu_fX5_doWith_292 hσ24)))))))))) (fun _ => zpc_if (fun _ => zpc_ck (zpc_ck (zpc_bs (zQ.wi h rfl) (fun σ25 hσ25 => zpc_ck (zpc_bi (fu_fX5_by hσ25) (fun σ26 v27 hσ26 => zpc_ck (zpc_bi (fu_fX5_parity hσ26) (fun σ28 v29 hσ28 => zpc_ck (zpc_bs (zQ.wi hσ28 rfl) (fun σ30 hσ30 => fu_fX5_doWith_292 hσ30)))))))))) (fun _ => zpc_ck (zpc_bi (fu_fX5_difference h) (fun σ31 v32 hσ31 => zpc_ck (zpc_ck (zpc_bs (zQ.wi hσ31 rfl) (fun σ33 hσ33 => fu_fX5_doWith_292 hσ33))))))))))))
theorem fu_fX5_callIf {σ0 : zSt} {σ : zSt} {x1 : Int32} (h : (zQ [3, 5, 7, 9, 11, 12, 15, 17, 19, 21, 23, 25, 27, 28, 29, 30, 32, 34, 36, 40, 42, 44, 45] [] [5, 38, 46, 48] []) σ0 σ) : zpc (fX5_callIf σ x1) (fun r => (zQ [3, 5, 7, 9, 11, 12, 15, 17, 19, 21, 23, 25, 27, 28, 29, 30, 32, 34, 36, 40, 42, 44, 45] [] [5, 38, 46, 48] []) σ0 (r.1)) := by
  unfold fX5_callIf
  exact zpc_bi (fu_fX5_fetchWord h) (fun σ1 v2 hσ1 => zpc_ck (zpc_bs (zQ.wi hσ1 rfl) (fun σ3 hσ3 => zpc_if (fun _ => zpc_some hσ3) (fun _ => zpc_ck (zpc_bu (fu_fX5_push hσ3) (fun σ4 hσ4 => zpc_ck (zpc_bs (zQ.wi hσ4 rfl) (fun σ5 hσ5 => zpc_some hσ5))))))))
theorem fu_fX5_holds_44 {σ0 : zSt} {σ : zSt} {s0 : Int32} (h : (zQ [3, 5, 7, 9, 11, 12, 15, 17, 19, 21, 23, 25, 27, 28, 29, 30, 32, 34, 36, 40, 42, 44, 45] [] [5, 38, 46, 48] []) σ0 σ) : zpc (fX5_holds_44 σ s0) (fun r => (zQ [3, 5, 7, 9, 11, 12, 15, 17, 19, 21, 23, 25, 27, 28, 29, 30, 32, 34, 36, 40, 42, 44, 45] [] [5, 38, 46, 48] []) σ0 (r.1)) := by
  unfold fX5_holds_44
  exact zpc_ck (zpc_some h)
theorem fu_fX5_holds_36 {σ0 : zSt} {σ : zSt} {s0 : Int32} {s1 : Int32} (h : (zQ [3, 5, 7, 9, 11, 12, 15, 17, 19, 21, 23, 25, 27, 28, 29, 30, 32, 34, 36, 40, 42, 44, 45] [] [5, 38, 46, 48] []) σ0 σ) : zpc (fX5_holds_36 σ s0 s1) (fun r => (zQ [3, 5, 7, 9, 11, 12, 15, 17, 19, 21, 23, 25, 27, 28, 29, 30, 32, 34, 36, 40, 42, 44, 45] [] [5, 38, 46, 48] []) σ0 (r.1)) := by
  unfold fX5_holds_36
  exact zpc_if (fun _ => fu_fX5_holds_44 h) (fun _ => fu_fX5_holds_44 h)
theorem fu_fX5_holds_24 {σ0 : zSt} {σ : zSt} {x1 : Int32} {s0 : Int32} (h : (zQ [3, 5, 7, 9, 11, 12, 15, 17, 19, 21, 23, 25, 27, 28, 29, 30, 32, 34, 36, 40, 42, 44, 45] [] [5, 38, 46, 48] []) σ0 σ) : zpc (fX5_holds_24 σ x1 s0) (fun r => (zQ [3, 5, 7, 9, 11, 12, 15, 17, 19, 21, 23, 25, 27, 28, 29, 30, 32, 34, 36, 40, 42, 44, 45] [] [5, 38, 46, 48] []) σ0 (r.1)) := by
  unfold fX5_holds_24
  exact zpc_if (fun _ => fu_fX5_holds_36 h) (fun _ => fu_fX5_holds_36 h)
theorem fu_fX5_holds {σ0 : zSt} {σ : zSt} {x1 : Int32} (h : (zQ [3, 5, 7, 9, 11, 12, 15, 17, 19, 21, 23, 25, 27, 28, 29, 30, 32, 34, 36, 40, 42, 44, 45] [] [5, 38, 46, 48] []) σ0 σ) : zpc (fX5_holds σ x1) (fun r => (zQ [3, 5, 7, 9, 11, 12, 15, 17, 19, 21, 23, 25, 27, 28, 29, 30, 32, 34, 36, 40, 42, 44, 45] [] [5, 38, 46, 48] []) σ0 (r.1)) := by
  unfold fX5_holds
  exact zpc_ck (zpc_ck (zpc_if (fun _ => fu_fX5_holds_24 h) (fun _ => fu_fX5_holds_24 h)))
theorem fu_fX5_popPair_25 {σ0 : zSt} {σ : zSt} (h : (zQ [3, 5, 7, 9, 11, 12, 15, 17, 19, 21, 23, 25, 27, 28, 29, 30, 32, 34, 36, 40, 42, 44, 45] [] [5, 38, 46, 48] []) σ0 σ) : zpc (fX5_popPair_25 σ) (fun r => (zQ [3, 5, 7, 9, 11, 12, 15, 17, 19, 21, 23, 25, 27, 28, 29, 30, 32, 34, 36, 40, 42, 44, 45] [] [5, 38, 46, 48] []) σ0 (r.1)) := by
  unfold fX5_popPair_25
  exact zpc_some h
theorem fu_fX5_popPair {σ0 : zSt} {σ : zSt} {x1 : Int32} (h : (zQ [3, 5, 7, 9, 11, 12, 15, 17, 19, 21, 23, 25, 27, 28, 29, 30, 32, 34, 36, 40, 42, 44, 45] [] [5, 38, 46, 48] []) σ0 σ) : zpc (fX5_popPair σ x1) (fun r => (zQ [3, 5, 7, 9, 11, 12, 15, 17, 19, 21, 23, 25, 27, 28, 29, 30, 32, 34, 36, 40, 42, 44, 45] [] [5, 38, 46, 48] []) σ0 (r.1)) := by
  unfold fX5_popPair
  exact zpc_bi (fu_fX5_pop h) (fun σ1 v2 hσ1 => zpc_if (fun _ => zpc_bu (fu_fX5_putPairAt hσ1) (fun σ4 hσ4 => fu_fX5_popPair_25 hσ4)) (fun _ => zpc_bu (fu_fX5_putPair hσ1) (fun σ3 hσ3 => fu_fX5_popPair_25 hσ3)))
theorem fu_fX5_changeWithOther {σ0 : zSt} {σ : zSt} {x1 : Int32} (h : (zQ [3, 5, 7, 9, 11, 12, 15, 17, 19, 21, 23, 25, 27, 28, 29, 30, 32, 34, 36, 40, 42, 44, 45] [] [5, 38, 46, 48] []) σ0 σ) : zpc (fX5_changeWithOther σ x1) (fun r => (zQ [3, 5, 7, 9, 11, 12, 15, 17, 19, 21, 23, 25, 27, 28, 29, 30, 32, 34, 36, 40, 42, 44, 45] [] [5, 38, 46, 48] []) σ0 (r)) := by
  unfold fX5_changeWithOther
  exact zpc_ck (zpc_bv (fun v1 _ => zpc_ck (zpc_ck (zpc_bs (zQ.wi h rfl) (fun σ2 hσ2 => zpc_ck (zpc_bs (zQ.wi hσ2 rfl) (fun σ3 hσ3 => zpc_some hσ3)))))))
theorem fu_fX5_leave_41_body {σ0 : zSt} {k41 : zSt → Int32 → Option (zSt × Int32)} (hk41 : ∀ (y0 : zSt) (y1 : Int32), (zQ [3, 5, 7, 9, 11, 12, 15, 17, 19, 21, 23, 25, 27, 28, 29, 30, 32, 34, 36, 40, 42, 44, 45] [] [5, 38, 46, 48] []) σ0 y0 → zpc (k41 y0 y1) (fun r => (zQ [3, 5, 7, 9, 11, 12, 15, 17, 19, 21, 23, 25, 27, 28, 29, 30, 32, 34, 36, 40, 42, 44, 45] [] [5, 38, 46, 48] []) σ0 (r.1))) {σ : zSt} {x2 : Int32} (h : (zQ [3, 5, 7, 9, 11, 12, 15, 17, 19, 21, 23, 25, 27, 28, 29, 30, 32, 34, 36, 40, 42, 44, 45] [] [5, 38, 46, 48] []) σ0 σ) : zpc (fX5_leave_41_body k41 σ x2) (fun r => (zQ [3, 5, 7, 9, 11, 12, 15, 17, 19, 21, 23, 25, 27, 28, 29, 30, 32, 34, 36, 40, 42, 44, 45] [] [5, 38, 46, 48] []) σ0 (r.1)) := by
  unfold fX5_leave_41_body
  exact zpc_if (fun _ => zpc_some h) (fun _ => zpc_bu (fu_fX5_changeWithOther h) (fun σ1 hσ1 => zpc_bv (fun v2 _ => hk41 _ _ hσ1)))
theorem fu_fX5_leave_41 {σ0 : zSt} : ∀ (n : Nat) (y0 : zSt) (y1 : Int32), (zQ [3, 5, 7, 9, 11, 12, 15, 17, 19, 21, 23, 25, 27, 28, 29, 30, 32, 34, 36, 40, 42, 44, 45] [] [5, 38, 46, 48] []) σ0 y0 → zpc (fX5_leave_41 n y0 y1) (fun r => (zQ [3, 5, 7, 9, 11, 12, 15, 17, 19, 21, 23, 25, 27, 28, 29, 30, 32, 34, 36, 40, 42, 44, 45] [] [5, 38, 46, 48] []) σ0 (r.1)) := by
  intro n
  induction n with
  | zero => intro y0 y1 h; exact zpc_none
  | succ n ih => intro y0 y1 h; exact fu_fX5_leave_41_body ih h
theorem fu_fX5_leave {σ0 : zSt} {σ : zSt} {x1 : Int32} (h : (zQ [3, 5, 7, 9, 11, 12, 15, 17, 19, 21, 23, 25, 27, 28, 29, 30, 32, 34, 36, 40, 42, 44, 45] [] [5, 38, 46, 48] []) σ0 σ) : zpc (fX5_leave σ x1) (fun r => (zQ [3, 5, 7, 9, 11, 12, 15, 17, 19, 21, 23, 25, 27, 28, 29, 30, 32, 34, 36, 40, 42, 44, 45] [] [5, 38, 46, 48] []) σ0 (r.1)) := by
  unfold fX5_leave
  exact zpc_if (fun _ => zpc_bi (fu_fX5_pop h) (fun σ3 v4 hσ3 => zpc_bu (fu_fX5_goTo hσ3) (fun σ5 hσ5 => zpc_some hσ5))) (fun _ => zpc_if (fun _ => fu_fX5_leave_41 _ _ _ h) (fun _ => zpc_if (fun _ => zpc_bi (fu_fX5_hl h) (fun σ6 v7 hσ6 => zpc_ck (zpc_bs (zQ.wi hσ6 rfl) (fun σ8 hσ8 => zpc_some hσ8)))) (fun _ => zpc_bi (fu_fX5_hl h) (fun σ9 v10 hσ9 => zpc_ck (zpc_bs (zQ.wi hσ9 rfl) (fun σ11 hσ11 => zpc_some hσ11))))))
theorem fu_fX5_lastQuarter_196 {σ0 : zSt} {σ : zSt} {x2 : Int32} (h : (zQ [3, 5, 7, 9, 11, 12, 15, 17, 19, 21, 23, 25, 27, 28, 29, 30, 32, 34, 36, 40, 42, 44, 45] [] [5, 38, 46, 48] []) σ0 σ) : zpc (fX5_lastQuarter_196 σ x2) (fun r => (zQ [3, 5, 7, 9, 11, 12, 15, 17, 19, 21, 23, 25, 27, 28, 29, 30, 32, 34, 36, 40, 42, 44, 45] [] [5, 38, 46, 48] []) σ0 (r.1)) := by
  unfold fX5_lastQuarter_196
  exact zpc_ck (zpc_bu (fu_fX5_push h) (fun σ1 hσ1 => zpc_bu (fu_fX5_goTo hσ1) (fun σ2 hσ2 => zpc_some hσ2)))
theorem fu_fX5_lastQuarter_178 {σ0 : zSt} {σ : zSt} {s0 : Int32} (h : (zQ [3, 5, 7, 9, 11, 12, 15, 17, 19, 21, 23, 25, 27, 28, 29, 30, 32, 34, 36, 40, 42, 44, 45] [] [5, 38, 46, 48] []) σ0 σ) : zpc (fX5_lastQuarter_178 σ s0) (fun r => (zQ [3, 5, 7, 9, 11, 12, 15, 17, 19, 21, 23, 25, 27, 28, 29, 30, 32, 34, 36, 40, 42, 44, 45] [] [5, 38, 46, 48] []) σ0 (r.1)) := by
  unfold fX5_lastQuarter_178
  exact zpc_bu (fu_fX5_push h) (fun σ3 hσ3 => zpc_some hσ3)
theorem fu_fX5_lastQuarter_130 {σ0 : zSt} {σ : zSt} (h : (zQ [3, 5, 7, 9, 11, 12, 15, 17, 19, 21, 23, 25, 27, 28, 29, 30, 32, 34, 36, 40, 42, 44, 45] [] [5, 38, 46, 48] []) σ0 σ) : zpc (fX5_lastQuarter_130 σ) (fun r => (zQ [3, 5, 7, 9, 11, 12, 15, 17, 19, 21, 23, 25, 27, 28, 29, 30, 32, 34, 36, 40, 42, 44, 45] [] [5, 38, 46, 48] []) σ0 (r.1)) := by
  unfold fX5_lastQuarter_130
  exact zpc_some h
theorem fu_fX5_lastQuarter_96 {σ0 : zSt} {σ : zSt} {s0 : Int32} (h : (zQ [3, 5, 7, 9, 11, 12, 15, 17, 19, 21, 23, 25, 27, 28, 29, 30, 32, 34, 36, 40, 42, 44, 45] [] [5, 38, 46, 48] []) σ0 σ) : zpc (fX5_lastQuarter_96 σ s0) (fun r => (zQ [3, 5, 7, 9, 11, 12, 15, 17, 19, 21, 23, 25, 27, 28, 29, 30, 32, 34, 36, 40, 42, 44, 45] [] [5, 38, 46, 48] []) σ0 (r.1)) := by
  unfold fX5_lastQuarter_96
  exact zpc_some h
theorem fu_fX5_lastQuarter {σ0 : zSt} {σ : zSt} {x1 : Int32} (h : (zQ [3, 5, 7, 9, 11, 12, 15, 17, 19, 21, 23, 25, 27, 28, 29, 30, 32, 34, 36, 40, 42, 44, 45] [] [5, 38, 46, 48] []) σ0 σ) : zpc (fX5_lastQuarter σ x1) (fun r => (zQ [3, 5, 7, 9, 11, 12, 15, 17, 19, 21, 23, 25, 27, 28, 29, 30, 32, 34, 36, 40, 42, 44, 45] [] [5, 38, 46, 48] []) σ0 (r.1)) := by
  unfold fX5_lastQuarter
  exact zpc_bv (fun v4 _ => zpc_if (fun _ => zpc_bi (fu_fX5_holds h) (fun σ5 v6 hσ5 => zpc_if (fun _ => zpc_some hσ5) (fun _ => zpc_bi (fu_fX5_pop hσ5) (fun σ7 v8 hσ7 => zpc_bu (fu_fX5_goTo hσ7) (fun σ9 hσ9 => zpc_some hσ9))))) (fun _ => zpc_if (fun _ => zpc_if (fun _ => zpc_bi (fu_fX5_popPair h) (fun σ12 v13 hσ12 => fu_fX5_lastQuarter_96 hσ12)) (fun _ => zpc_bi (fu_fX5_leave h) (fun σ10 v11 hσ10 => fu_fX5_lastQuarter_96 hσ10))) (fun _ => zpc_if (fun _ => zpc_bi (fu_fX5_fetchWord h) (fun σ14 v15 hσ14 => zpc_ck (zpc_bs (zQ.wi hσ14 rfl) (fun σ16 hσ16 => zpc_bi (fu_fX5_holds hσ16) (fun σ17 v18 hσ17 => zpc_if (fun _ => fu_fX5_lastQuarter_130 hσ17) (fun _ => zpc_ck (zpc_ck (zpc_bs (zQ.wi hσ17 rfl) (fun σ19 hσ19 => fu_fX5_lastQuarter_130 hσ19))))))))) (fun _ => zpc_if (fun _ => fu_fX5_lastQuarter_196 h) (fun _ => zpc_if (fun _ => zpc_bi (fu_fX5_holds h) (fun σ20 v21 hσ20 => zpc_bi (fu_fX5_callIf hσ20) (fun σ22 v23 hσ22 => zpc_some hσ22))) (fun _ => zpc_if (fun _ => zpc_if (fun _ => zpc_bi (fu_fX5_callIf h) (fun σ28 v29 hσ28 => zpc_some hσ28)) (fun _ => zpc_if (fun _ => zpc_bi (fu_fX5_pairAt h) (fun σ26 v27 hσ26 => fu_fX5_lastQuarter_178 hσ26)) (fun _ => zpc_bi (fu_fX5_pair h) (fun σ24 v25 hσ24 => fu_fX5_lastQuarter_178 hσ24)))) (fun _ => zpc_if (fun _ => zpc_bi (fu_fX5_fetch h) (fun σ30 v31 hσ30 => zpc_bu (fu_fX5_doWith hσ30) (fun σ32 hσ32 => zpc_some hσ32))) (fun _ => fu_fX5_lastQuarter_196 h))))))))
theorem fu_fX5_doWithRegister_33 {σ0 : zSt} {σ : zSt} {s0 : Int32} (h : (zQ [3, 5, 7, 9, 11, 12, 15, 17, 19, 21, 23, 25, 27, 28, 29, 30, 32, 34, 36, 40, 42, 44, 45] [] [5, 38, 46, 48] []) σ0 σ) : zpc (fX5_doWithRegister_33 σ s0) (fun r => (zQ [3, 5, 7, 9, 11, 12, 15, 17, 19, 21, 23, 25, 27, 28, 29, 30, 32, 34, 36, 40, 42, 44, 45] [] [5, 38, 46, 48] []) σ0 (r.1)) := by
  unfold fX5_doWithRegister_33
  exact zpc_some h
theorem fu_fX5_doWithRegister {σ0 : zSt} {σ : zSt} {x1 : Int32} (h : (zQ [3, 5, 7, 9, 11, 12, 15, 17, 19, 21, 23, 25, 27, 28, 29, 30, 32, 34, 36, 40, 42, 44, 45] [] [5, 38, 46, 48] []) σ0 σ) : zpc (fX5_doWithRegister σ x1) (fun r => (zQ [3, 5, 7, 9, 11, 12, 15, 17, 19, 21, 23, 25, 27, 28, 29, 30, 32, 34, 36, 40, 42, 44, 45] [] [5, 38, 46, 48] []) σ0 (r.1)) := by
  unfold fX5_doWithRegister
  exact zpc_bi (fu_fX5_one h) (fun σ1 v2 hσ1 => zpc_bu (fu_fX5_doWith hσ1) (fun σ3 hσ3 => zpc_if (fun _ => fu_fX5_doWithRegister_33 hσ3) (fun _ => fu_fX5_doWithRegister_33 hσ3)))
theorem fu_fX5_move_56 {σ0 : zSt} {σ : zSt} {s0 : Int32} (h : (zQ [3, 5, 7, 9, 11, 12, 15, 17, 19, 21, 23, 25, 27, 28, 29, 30, 32, 34, 36, 40, 42, 44, 45] [] [5, 38, 46, 48] []) σ0 σ) : zpc (fX5_move_56 σ s0) (fun r => (zQ [3, 5, 7, 9, 11, 12, 15, 17, 19, 21, 23, 25, 27, 28, 29, 30, 32, 34, 36, 40, 42, 44, 45] [] [5, 38, 46, 48] []) σ0 (r.1)) := by
  unfold fX5_move_56
  exact zpc_some h
theorem fu_fX5_move_50 {σ0 : zSt} {σ : zSt} (h : (zQ [3, 5, 7, 9, 11, 12, 15, 17, 19, 21, 23, 25, 27, 28, 29, 30, 32, 34, 36, 40, 42, 44, 45] [] [5, 38, 46, 48] []) σ0 σ) : zpc (fX5_move_50 σ) (fun r => (zQ [3, 5, 7, 9, 11, 12, 15, 17, 19, 21, 23, 25, 27, 28, 29, 30, 32, 34, 36, 40, 42, 44, 45] [] [5, 38, 46, 48] []) σ0 (r.1)) := by
  unfold fX5_move_50
  exact fu_fX5_move_56 h
theorem fu_fX5_move {σ0 : zSt} {σ : zSt} {x1 : Int32} (h : (zQ [3, 5, 7, 9, 11, 12, 15, 17, 19, 21, 23, 25, 27, 28, 29, 30, 32, 34, 36, 40, 42, 44, 45] [] [5, 38, 46, 48] []) σ0 σ) : zpc (fX5_move σ x1) (fun r => (zQ [3, 5, 7, 9, 11, 12, 15, 17, 19, 21, 23, 25, 27, 28, 29, 30, 32, 34, 36, 40, 42, 44, 45] [] [5, 38, 46, 48] []) σ0 (r.1)) := by
  unfold fX5_move
  exact zpc_if (fun _ => zpc_ck (zpc_bs (zQ.wi h rfl) (fun σ6 hσ6 => zpc_some hσ6))) (fun _ => zpc_bv (fun v1 _ => zpc_bv (fun v2 _ => zpc_bi (fu_fX5_one h) (fun σ3 v4 hσ3 => zpc_bu (fu_fX5_putOne hσ3) (fun σ5 hσ5 => zpc_if (fun _ => fu_fX5_move_50 hσ5) (fun _ => zpc_if (fun _ => fu_fX5_move_50 hσ5) (fun _ => fu_fX5_move_56 hσ5)))))))
theorem fu_fX5_adjustA_202 {σ0 : zSt} {σ : zSt} {x4 : Int32} {s0 : Int32} {s1 : Int32} {s2 : Int32} (h : (zQ [3, 5, 7, 9, 11, 12, 15, 17, 19, 21, 23, 25, 27, 28, 29, 30, 32, 34, 36, 40, 42, 44, 45] [] [5, 38, 46, 48] []) σ0 σ) : zpc (fX5_adjustA_202 σ x4 s0 s1 s2) (fun r => (zQ [3, 5, 7, 9, 11, 12, 15, 17, 19, 21, 23, 25, 27, 28, 29, 30, 32, 34, 36, 40, 42, 44, 45] [] [5, 38, 46, 48] []) σ0 (r)) := by
  unfold fX5_adjustA_202
  exact zpc_ck (zpc_ck (zpc_bs (zQ.wi h rfl) (fun σ1 hσ1 => zpc_some hσ1)))
theorem fu_fX5_adjustA_161 {σ0 : zSt} {σ : zSt} {x4 : Int32} {x6 : Int32} {s0 : Int32} (h : (zQ [3, 5, 7, 9, 11, 12, 15, 17, 19, 21, 23, 25, 27, 28, 29, 30, 32, 34, 36, 40, 42, 44, 45] [] [5, 38, 46, 48] []) σ0 σ) : zpc (fX5_adjustA_161 σ x4 x6 s0) (fun r => (zQ [3, 5, 7, 9, 11, 12, 15, 17, 19, 21, 23, 25, 27, 28, 29, 30, 32, 34, 36, 40, 42, 44, 45] [] [5, 38, 46, 48] []) σ0 (r)) := by
  unfold fX5_adjustA_161
  exact zpc_bv (fun v2 _ => zpc_ck (zpc_bs (zQ.wi h rfl) (fun σ3 hσ3 => zpc_bi (fu_fX5_by hσ3) (fun σ4 v5 hσ4 => zpc_bi (fu_fX5_parity hσ4) (fun σ6 v7 hσ6 => zpc_if (fun _ => fu_fX5_adjustA_202 hσ6) (fun _ => fu_fX5_adjustA_202 hσ6))))))
theorem fu_fX5_adjustA_134 {σ0 : zSt} {σ : zSt} {x3 : Int32} {x4 : Int32} {x5 : Int32} {s0 : Int32} (h : (zQ [3, 5, 7, 9, 11, 12, 15, 17, 19, 21, 23, 25, 27, 28, 29, 30, 32, 34, 36, 40, 42, 44, 45] [] [5, 38, 46, 48] []) σ0 σ) : zpc (fX5_adjustA_134 σ x3 x4 x5 s0) (fun r => (zQ [3, 5, 7, 9, 11, 12, 15, 17, 19, 21, 23, 25, 27, 28, 29, 30, 32, 34, 36, 40, 42, 44, 45] [] [5, 38, 46, 48] []) σ0 (r)) := by
  unfold fX5_adjustA_134
  exact zpc_if (fun _ => zpc_ck (fu_fX5_adjustA_161 h)) (fun _ => zpc_ck (fu_fX5_adjustA_161 h))
theorem fu_fX5_adjustA_119 {σ0 : zSt} {σ : zSt} {x3 : Int32} {x4 : Int32} {x5 : Int32} (h : (zQ [3, 5, 7, 9, 11, 12, 15, 17, 19, 21, 23, 25, 27, 28, 29, 30, 32, 34, 36, 40, 42, 44, 45] [] [5, 38, 46, 48] []) σ0 σ) : zpc (fX5_adjustA_119 σ x3 x4 x5) (fun r => (zQ [3, 5, 7, 9, 11, 12, 15, 17, 19, 21, 23, 25, 27, 28, 29, 30, 32, 34, 36, 40, 42, 44, 45] [] [5, 38, 46, 48] []) σ0 (r)) := by
  unfold fX5_adjustA_119
  exact fu_fX5_adjustA_134 h
theorem fu_fX5_adjustA_98 {σ0 : zSt} {σ : zSt} {x1 : Int32} {x2 : Int32} {x3 : Int32} {x4 : Int32} {s0 : Int32} {s1 : Int32} (h : (zQ [3, 5, 7, 9, 11, 12, 15, 17, 19, 21, 23, 25, 27, 28, 29, 30, 32, 34, 36, 40, 42, 44, 45] [] [5, 38, 46, 48] []) σ0 σ) : zpc (fX5_adjustA_98 σ x1 x2 x3 x4 s0 s1) (fun r => (zQ [3, 5, 7, 9, 11, 12, 15, 17, 19, 21, 23, 25, 27, 28, 29, 30, 32, 34, 36, 40, 42, 44, 45] [] [5, 38, 46, 48] []) σ0 (r)) := by
  unfold fX5_adjustA_98
  exact zpc_bv (fun v8 _ => zpc_if (fun _ => zpc_if (fun _ => fu_fX5_adjustA_134 h) (fun _ => fu_fX5_adjustA_134 h)) (fun _ => zpc_if (fun _ => fu_fX5_adjustA_119 h) (fun _ => zpc_if (fun _ => fu_fX5_adjustA_119 h) (fun _ => fu_fX5_adjustA_134 h))))
theorem fu_fX5_adjustA_87 {σ0 : zSt} {σ : zSt} {x1 : Int32} {x2 : Int32} {x3 : Int32} {x4 : Int32} {s0 : Int32} (h : (zQ [3, 5, 7, 9, 11, 12, 15, 17, 19, 21, 23, 25, 27, 28, 29, 30, 32, 34, 36, 40, 42, 44, 45] [] [5, 38, 46, 48] []) σ0 σ) : zpc (fX5_adjustA_87 σ x1 x2 x3 x4 s0) (fun r => (zQ [3, 5, 7, 9, 11, 12, 15, 17, 19, 21, 23, 25, 27, 28, 29, 30, 32, 34, 36, 40, 42, 44, 45] [] [5, 38, 46, 48] []) σ0 (r)) := by
  unfold fX5_adjustA_87
  exact zpc_if (fun _ => fu_fX5_adjustA_98 h) (fun _ => fu_fX5_adjustA_98 h)
theorem fu_fX5_adjustA_81 {σ0 : zSt} {σ : zSt} {x1 : Int32} {x2 : Int32} {x3 : Int32} {x4 : Int32} (h : (zQ [3, 5, 7, 9, 11, 12, 15, 17, 19, 21, 23, 25, 27, 28, 29, 30, 32, 34, 36, 40, 42, 44, 45] [] [5, 38, 46, 48] []) σ0 σ) : zpc (fX5_adjustA_81 σ x1 x2 x3 x4) (fun r => (zQ [3, 5, 7, 9, 11, 12, 15, 17, 19, 21, 23, 25, 27, 28, 29, 30, 32, 34, 36, 40, 42, 44, 45] [] [5, 38, 46, 48] []) σ0 (r)) := by
  unfold fX5_adjustA_81
  exact fu_fX5_adjustA_87 h
theorem fu_fX5_adjustA_69 {σ0 : zSt} {σ : zSt} {x1 : Int32} {x2 : Int32} {x3 : Int32} {s0 : Int32} (h : (zQ [3, 5, 7, 9, 11, 12, 15, 17, 19, 21, 23, 25, 27, 28, 29, 30, 32, 34, 36, 40, 42, 44, 45] [] [5, 38, 46, 48] []) σ0 σ) : zpc (fX5_adjustA_69 σ x1 x2 x3 s0) (fun r => (zQ [3, 5, 7, 9, 11, 12, 15, 17, 19, 21, 23, 25, 27, 28, 29, 30, 32, 34, 36, 40, 42, 44, 45] [] [5, 38, 46, 48] []) σ0 (r)) := by
  unfold fX5_adjustA_69
  exact zpc_if (fun _ => fu_fX5_adjustA_81 h) (fun _ => zpc_if (fun _ => fu_fX5_adjustA_87 h) (fun _ => fu_fX5_adjustA_81 h))
theorem fu_fX5_adjustA_44 {σ0 : zSt} {σ : zSt} {x1 : Int32} {x2 : Int32} {s0 : Int32} (h : (zQ [3, 5, 7, 9, 11, 12, 15, 17, 19, 21, 23, 25, 27, 28, 29, 30, 32, 34, 36, 40, 42, 44, 45] [] [5, 38, 46, 48] []) σ0 σ) : zpc (fX5_adjustA_44 σ x1 x2 s0) (fun r => (zQ [3, 5, 7, 9, 11, 12, 15, 17, 19, 21, 23, 25, 27, 28, 29, 30, 32, 34, 36, 40, 42, 44, 45] [] [5, 38, 46, 48] []) σ0 (r)) := by
  unfold fX5_adjustA_44
  exact zpc_ck (zpc_if (fun _ => zpc_ck (fu_fX5_adjustA_69 h)) (fun _ => fu_fX5_adjustA_69 h))
theorem fu_fX5_adjustA_27 {σ0 : zSt} {σ : zSt} {x1 : Int32} {s0 : Int32} (h : (zQ [3, 5, 7, 9, 11, 12, 15, 17, 19, 21, 23, 25, 27, 28, 29, 30, 32, 34, 36, 40, 42, 44, 45] [] [5, 38, 46, 48] []) σ0 σ) : zpc (fX5_adjustA_27 σ x1 s0) (fun r => (zQ [3, 5, 7, 9, 11, 12, 15, 17, 19, 21, 23, 25, 27, 28, 29, 30, 32, 34, 36, 40, 42, 44, 45] [] [5, 38, 46, 48] []) σ0 (r)) := by
  unfold fX5_adjustA_27
  exact zpc_ck (zpc_if (fun _ => fu_fX5_adjustA_44 h) (fun _ => fu_fX5_adjustA_44 h))
theorem fu_fX5_adjustA {σ0 : zSt} {σ : zSt} (h : (zQ [3, 5, 7, 9, 11, 12, 15, 17, 19, 21, 23, 25, 27, 28, 29, 30, 32, 34, 36, 40, 42, 44, 45] [] [5, 38, 46, 48] []) σ0 σ) : zpc (fX5_adjustA σ) (fun r => (zQ [3, 5, 7, 9, 11, 12, 15, 17, 19, 21, 23, 25, 27, 28, 29, 30, 32, 34, 36, 40, 42, 44, 45] [] [5, 38, 46, 48] []) σ0 (r)) := by
  unfold fX5_adjustA
  exact zpc_ck (zpc_bv (fun v9 _ => zpc_ck (zpc_if (fun _ => fu_fX5_adjustA_27 h) (fun _ => fu_fX5_adjustA_27 h))))
theorem fu_fX5_changeA_130 {σ0 : zSt} {σ : zSt} {s0 : Int32} {s1 : Int32} {s2 : Int32} (h : (zQ [3, 5, 7, 9, 11, 12, 15, 17, 19, 21, 23, 25, 27, 28, 29, 30, 32, 34, 36, 40, 42, 44, 45] [] [5, 38, 46, 48] []) σ0 σ) : zpc (fX5_changeA_130 σ s0 s1 s2) (fun r => (zQ [3, 5, 7, 9, 11, 12, 15, 17, 19, 21, 23, 25, 27, 28, 29, 30, 32, 34, 36, 40, 42, 44, 45] [] [5, 38, 46, 48] []) σ0 (r)) := by
  unfold fX5_changeA_130
  exact zpc_ck (zpc_ck (zpc_bs (zQ.wi h rfl) (fun σ1 hσ1 => zpc_some hσ1)))
theorem fu_fX5_changeA {σ0 : zSt} {σ : zSt} {x1 : Int32} (h : (zQ [3, 5, 7, 9, 11, 12, 15, 17, 19, 21, 23, 25, 27, 28, 29, 30, 32, 34, 36, 40, 42, 44, 45] [] [5, 38, 46, 48] []) σ0 σ) : zpc (fX5_changeA σ x1) (fun r => (zQ [3, 5, 7, 9, 11, 12, 15, 17, 19, 21, 23, 25, 27, 28, 29, 30, 32, 34, 36, 40, 42, 44, 45] [] [5, 38, 46, 48] []) σ0 (r)) := by
  unfold fX5_changeA
  exact zpc_ck (zpc_bv (fun v2 _ => zpc_ck (zpc_bv (fun v3 _ => zpc_if (fun _ => zpc_bu (fu_fX5_adjustA h) (fun σ4 hσ4 => zpc_some hσ4)) (fun _ => zpc_if (fun _ => zpc_ck (zpc_ck (zpc_bs (zQ.wi h rfl) (fun σ5 hσ5 => zpc_ck (zpc_ck (zpc_bs (zQ.wi hσ5 rfl) (fun σ6 hσ6 => zpc_some hσ6))))))) (fun _ => zpc_if (fun _ => zpc_ck (zpc_ck (zpc_bs (zQ.wi h rfl) (fun σ7 hσ7 => zpc_some hσ7)))) (fun _ => zpc_if (fun _ => zpc_if (fun _ => fu_fX5_changeA_130 h) (fun _ => fu_fX5_changeA_130 h)) (fun _ => zpc_ck (zpc_bi (fu_fX5_turn h) (fun σ8 v9 hσ8 => zpc_ck (zpc_bs (zQ.wi hσ8 rfl) (fun σ10 hσ10 => zpc_ck (zpc_ck (zpc_bs (zQ.wi hσ10 rfl) (fun σ11 hσ11 => zpc_some hσ11)))))))))))))))
theorem fu_fX5_oneLess_53 {σ0 : zSt} {σ : zSt} {x2 : Int32} {s0 : Int32} {s1 : Int32} {s2 : Int32} (h : (zQ [3, 5, 7, 9, 11, 12, 15, 17, 19, 21, 23, 25, 27, 28, 29, 30, 32, 34, 36, 40, 42, 44, 45] [] [5, 38, 46, 48] []) σ0 σ) : zpc (fX5_oneLess_53 σ x2 s0 s1 s2) (fun r => (zQ [3, 5, 7, 9, 11, 12, 15, 17, 19, 21, 23, 25, 27, 28, 29, 30, 32, 34, 36, 40, 42, 44, 45] [] [5, 38, 46, 48] []) σ0 (r.1)) := by
  unfold fX5_oneLess_53
  exact zpc_ck (zpc_bs (zQ.wi h rfl) (fun σ1 hσ1 => zpc_some hσ1))
theorem fu_fX5_oneLess_41 {σ0 : zSt} {σ : zSt} {x2 : Int32} {s0 : Int32} {s1 : Int32} {s2 : Int32} (h : (zQ [3, 5, 7, 9, 11, 12, 15, 17, 19, 21, 23, 25, 27, 28, 29, 30, 32, 34, 36, 40, 42, 44, 45] [] [5, 38, 46, 48] []) σ0 σ) : zpc (fX5_oneLess_41 σ x2 s0 s1 s2) (fun r => (zQ [3, 5, 7, 9, 11, 12, 15, 17, 19, 21, 23, 25, 27, 28, 29, 30, 32, 34, 36, 40, 42, 44, 45] [] [5, 38, 46, 48] []) σ0 (r.1)) := by
  unfold fX5_oneLess_41
  exact zpc_if (fun _ => fu_fX5_oneLess_53 h) (fun _ => fu_fX5_oneLess_53 h)
theorem fu_fX5_oneLess {σ0 : zSt} {σ : zSt} {x1 : Int32} (h : (zQ [3, 5, 7, 9, 11, 12, 15, 17, 19, 21, 23, 25, 27, 28, 29, 30, 32, 34, 36, 40, 42, 44, 45] [] [5, 38, 46, 48] []) σ0 σ) : zpc (fX5_oneLess σ x1) (fun r => (zQ [3, 5, 7, 9, 11, 12, 15, 17, 19, 21, 23, 25, 27, 28, 29, 30, 32, 34, 36, 40, 42, 44, 45] [] [5, 38, 46, 48] []) σ0 (r.1)) := by
  unfold fX5_oneLess
  exact zpc_bv (fun v2 _ => zpc_ck (zpc_bi (fu_fX5_by h) (fun σ3 v4 hσ3 => zpc_if (fun _ => fu_fX5_oneLess_41 hσ3) (fun _ => fu_fX5_oneLess_41 hσ3))))
theorem fu_fX5_oneMore_52 {σ0 : zSt} {σ : zSt} {x2 : Int32} {s0 : Int32} {s1 : Int32} {s2 : Int32} (h : (zQ [3, 5, 7, 9, 11, 12, 15, 17, 19, 21, 23, 25, 27, 28, 29, 30, 32, 34, 36, 40, 42, 44, 45] [] [5, 38, 46, 48] []) σ0 σ) : zpc (fX5_oneMore_52 σ x2 s0 s1 s2) (fun r => (zQ [3, 5, 7, 9, 11, 12, 15, 17, 19, 21, 23, 25, 27, 28, 29, 30, 32, 34, 36, 40, 42, 44, 45] [] [5, 38, 46, 48] []) σ0 (r.1)) := by
  unfold fX5_oneMore_52
  exact zpc_ck (zpc_bs (zQ.wi h rfl) (fun σ1 hσ1 => zpc_some hσ1))
theorem fu_fX5_oneMore_39 {σ0 : zSt} {σ : zSt} {x2 : Int32} {s0 : Int32} {s1 : Int32} {s2 : Int32} (h : (zQ [3, 5, 7, 9, 11, 12, 15, 17, 19, 21, 23, 25, 27, 28, 29, 30, 32, 34, 36, 40, 42, 44, 45] [] [5, 38, 46, 48] []) σ0 σ) : zpc (fX5_oneMore_39 σ x2 s0 s1 s2) (fun r => (zQ [3, 5, 7, 9, 11, 12, 15, 17, 19, 21, 23, 25, 27, 28, 29, 30, 32, 34, 36, 40, 42, 44, 45] [] [5, 38, 46, 48] []) σ0 (r.1)) := by
  unfold fX5_oneMore_39
  exact zpc_if (fun _ => fu_fX5_oneMore_52 h) (fun _ => fu_fX5_oneMore_52 h)
theorem fu_fX5_oneMore {σ0 : zSt} {σ : zSt} {x1 : Int32} (h : (zQ [3, 5, 7, 9, 11, 12, 15, 17, 19, 21, 23, 25, 27, 28, 29, 30, 32, 34, 36, 40, 42, 44, 45] [] [5, 38, 46, 48] []) σ0 σ) : zpc (fX5_oneMore σ x1) (fun r => (zQ [3, 5, 7, 9, 11, 12, 15, 17, 19, 21, 23, 25, 27, 28, 29, 30, 32, 34, 36, 40, 42, 44, 45] [] [5, 38, 46, 48] []) σ0 (r.1)) := by
  unfold fX5_oneMore
  exact zpc_bv (fun v2 _ => zpc_ck (zpc_bi (fu_fX5_by h) (fun σ3 v4 hσ3 => zpc_if (fun _ => fu_fX5_oneMore_39 hσ3) (fun _ => fu_fX5_oneMore_39 hσ3))))
theorem fu_fX5_far_78 {σ0 : zSt} {σ : zSt} (h : (zQ [3, 5, 7, 9, 11, 12, 15, 17, 19, 21, 23, 25, 27, 28, 29, 30, 32, 34, 36, 40, 42, 44, 45] [] [5, 38, 46, 48] []) σ0 σ) : zpc (fX5_far_78 σ) (fun r => (zQ [3, 5, 7, 9, 11, 12, 15, 17, 19, 21, 23, 25, 27, 28, 29, 30, 32, 34, 36, 40, 42, 44, 45] [] [5, 38, 46, 48] []) σ0 (r.1)) := by
  unfold fX5_far_78
  exact zpc_some h
theorem fu_fX5_far_152 {σ0 : zSt} {σ : zSt} {s0 : Int32} (h : (zQ [3, 5, 7, 9, 11, 12, 15, 17, 19, 21, 23, 25, 27, 28, 29, 30, 32, 34, 36, 40, 42, 44, 45] [] [5, 38, 46, 48] []) σ0 σ) : zpc (fX5_far_152 σ s0) (fun r => (zQ [3, 5, 7, 9, 11, 12, 15, 17, 19, 21, 23, 25, 27, 28, 29, 30, 32, 34, 36, 40, 42, 44, 45] [] [5, 38, 46, 48] []) σ0 (r.1)) := by
  unfold fX5_far_152
  exact zpc_some h
theorem fu_fX5_far_140 {σ0 : zSt} {σ : zSt} {x1 : Int32} (h : (zQ [3, 5, 7, 9, 11, 12, 15, 17, 19, 21, 23, 25, 27, 28, 29, 30, 32, 34, 36, 40, 42, 44, 45] [] [5, 38, 46, 48] []) σ0 σ) : zpc (fX5_far_140 σ x1) (fun r => (zQ [3, 5, 7, 9, 11, 12, 15, 17, 19, 21, 23, 25, 27, 28, 29, 30, 32, 34, 36, 40, 42, 44, 45] [] [5, 38, 46, 48] []) σ0 (r.1)) := by
  unfold fX5_far_140
  exact zpc_if (fun _ => fu_fX5_far_152 h) (fun _ => fu_fX5_far_152 h)
theorem fu_fX5_far_32 {σ0 : zSt} {σ : zSt} {x1 : Int32} {x2 : Int32} {s0 : Int32} (h : (zQ [3, 5, 7, 9, 11, 12, 15, 17, 19, 21, 23, 25, 27, 28, 29, 30, 32, 34, 36, 40, 42, 44, 45] [] [5, 38, 46, 48] []) σ0 σ) : zpc (fX5_far_32 σ x1 x2 s0) (fun r => (zQ [3, 5, 7, 9, 11, 12, 15, 17, 19, 21, 23, 25, 27, 28, 29, 30, 32, 34, 36, 40, 42, 44, 45] [] [5, 38, 46, 48] []) σ0 (r.1)) := by
  unfold fX5_far_32
  exact zpc_ck (zpc_bs (zQ.wi h rfl) (fun σ1 hσ1 => zpc_if (fun _ => zpc_if (fun _ => zpc_bi (fu_fX5_hl hσ1) (fun σ7 v8 hσ7 => zpc_bu (fu_fX5_writeWord hσ7) (fun σ9 hσ9 => fu_fX5_far_78 hσ9))) (fun _ => zpc_bi (fu_fX5_readWord hσ1) (fun σ10 v11 hσ10 => zpc_bu (fu_fX5_putHl hσ10) (fun σ12 hσ12 => fu_fX5_far_78 hσ12)))) (fun _ => zpc_if (fun _ => zpc_ck (zpc_bu (fu_fX2_write hσ1) (fun σ2 hσ2 => zpc_ck (zpc_ck (zpc_bs (zQ.wi hσ2 rfl) (fun σ3 hσ3 => fu_fX5_far_140 hσ3)))))) (fun _ => zpc_bi (fu_fX2_read hσ1) (fun σ4 v5 hσ4 => zpc_ck (zpc_bs (zQ.wi hσ4 rfl) (fun σ6 hσ6 => fu_fX5_far_140 hσ6)))))))
theorem fu_fX5_far_12 {σ0 : zSt} {σ : zSt} {x1 : Int32} {s0 : Int32} (h : (zQ [3, 5, 7, 9, 11, 12, 15, 17, 19, 21, 23, 25, 27, 28, 29, 30, 32, 34, 36, 40, 42, 44, 45] [] [5, 38, 46, 48] []) σ0 σ) : zpc (fX5_far_12 σ x1 s0) (fun r => (zQ [3, 5, 7, 9, 11, 12, 15, 17, 19, 21, 23, 25, 27, 28, 29, 30, 32, 34, 36, 40, 42, 44, 45] [] [5, 38, 46, 48] []) σ0 (r.1)) := by
  unfold fX5_far_12
  exact zpc_if (fun _ => zpc_bi (fu_fX5_fetchWord h) (fun σ13 v14 hσ13 => fu_fX5_far_32 hσ13)) (fun _ => zpc_bi (fu_fX5_pair h) (fun σ15 v16 hσ15 => fu_fX5_far_32 hσ15))
theorem fu_fX5_far {σ0 : zSt} {σ : zSt} {x1 : Int32} (h : (zQ [3, 5, 7, 9, 11, 12, 15, 17, 19, 21, 23, 25, 27, 28, 29, 30, 32, 34, 36, 40, 42, 44, 45] [] [5, 38, 46, 48] []) σ0 σ) : zpc (fX5_far σ x1) (fun r => (zQ [3, 5, 7, 9, 11, 12, 15, 17, 19, 21, 23, 25, 27, 28, 29, 30, 32, 34, 36, 40, 42, 44, 45] [] [5, 38, 46, 48] []) σ0 (r.1)) := by
  unfold fX5_far
  exact zpc_if (fun _ => fu_fX5_far_12 h) (fun _ => fu_fX5_far_12 h)
theorem fu_fX5_loadPair {σ0 : zSt} {σ : zSt} {x1 : Int32} (h : (zQ [3, 5, 7, 9, 11, 12, 15, 17, 19, 21, 23, 25, 27, 28, 29, 30, 32, 34, 36, 40, 42, 44, 45] [] [5, 38, 46, 48] []) σ0 σ) : zpc (fX5_loadPair σ x1) (fun r => (zQ [3, 5, 7, 9, 11, 12, 15, 17, 19, 21, 23, 25, 27, 28, 29, 30, 32, 34, 36, 40, 42, 44, 45] [] [5, 38, 46, 48] []) σ0 (r.1)) := by
  unfold fX5_loadPair
  exact zpc_bi (fu_fX5_fetchWord h) (fun σ1 v2 hσ1 => zpc_bu (fu_fX5_putPair hσ1) (fun σ3 hσ3 => zpc_some hσ3))
theorem fu_fX5_addPair {σ0 : zSt} {σ : zSt} {x1 : Int32} (h : (zQ [3, 5, 7, 9, 11, 12, 15, 17, 19, 21, 23, 25, 27, 28, 29, 30, 32, 34, 36, 40, 42, 44, 45] [] [5, 38, 46, 48] []) σ0 σ) : zpc (fX5_addPair σ x1) (fun r => (zQ [3, 5, 7, 9, 11, 12, 15, 17, 19, 21, 23, 25, 27, 28, 29, 30, 32, 34, 36, 40, 42, 44, 45] [] [5, 38, 46, 48] []) σ0 (r.1)) := by
  unfold fX5_addPair
  exact zpc_bi (fu_fX5_hl h) (fun σ1 v2 hσ1 => zpc_bi (fu_fX5_pair hσ1) (fun σ3 v4 hσ3 => zpc_bv (fun v5 _ => zpc_ck (zpc_bs (zQ.wi hσ3 rfl) (fun σ6 hσ6 => zpc_bu (fu_fX5_putHl hσ6) (fun σ7 hσ7 => zpc_ck (zpc_ck (zpc_bs (zQ.wi hσ7 rfl) (fun σ8 hσ8 => zpc_some hσ8)))))))))
theorem fu_fX5_near_20 {σ0 : zSt} {σ : zSt} (h : (zQ [3, 5, 7, 9, 11, 12, 15, 17, 19, 21, 23, 25, 27, 28, 29, 30, 32, 34, 36, 40, 42, 44, 45] [] [5, 38, 46, 48] []) σ0 σ) : zpc (fX5_near_20 σ) (fun r => (zQ [3, 5, 7, 9, 11, 12, 15, 17, 19, 21, 23, 25, 27, 28, 29, 30, 32, 34, 36, 40, 42, 44, 45] [] [5, 38, 46, 48] []) σ0 (r.1)) := by
  unfold fX5_near_20
  exact zpc_some h
theorem fu_fX5_near_133 {σ0 : zSt} {σ : zSt} {s0 : Int32} {s1 : Int32} (h : (zQ [3, 5, 7, 9, 11, 12, 15, 17, 19, 21, 23, 25, 27, 28, 29, 30, 32, 34, 36, 40, 42, 44, 45] [] [5, 38, 46, 48] []) σ0 σ) : zpc (fX5_near_133 σ s0 s1) (fun r => (zQ [3, 5, 7, 9, 11, 12, 15, 17, 19, 21, 23, 25, 27, 28, 29, 30, 32, 34, 36, 40, 42, 44, 45] [] [5, 38, 46, 48] []) σ0 (r.1)) := by
  unfold fX5_near_133
  exact zpc_some h
theorem fu_fX5_near_123 {σ0 : zSt} {σ : zSt} {x1 : Int32} {s0 : Int32} (h : (zQ [3, 5, 7, 9, 11, 12, 15, 17, 19, 21, 23, 25, 27, 28, 29, 30, 32, 34, 36, 40, 42, 44, 45] [] [5, 38, 46, 48] []) σ0 σ) : zpc (fX5_near_123 σ x1 s0) (fun r => (zQ [3, 5, 7, 9, 11, 12, 15, 17, 19, 21, 23, 25, 27, 28, 29, 30, 32, 34, 36, 40, 42, 44, 45] [] [5, 38, 46, 48] []) σ0 (r.1)) := by
  unfold fX5_near_123
  exact zpc_if (fun _ => fu_fX5_near_133 h) (fun _ => fu_fX5_near_133 h)
theorem fu_fX5_near_112 {σ0 : zSt} {σ : zSt} {x1 : Int32} {x3 : Int32} (h : (zQ [3, 5, 7, 9, 11, 12, 15, 17, 19, 21, 23, 25, 27, 28, 29, 30, 32, 34, 36, 40, 42, 44, 45] [] [5, 38, 46, 48] []) σ0 σ) : zpc (fX5_near_112 σ x1 x3) (fun r => (zQ [3, 5, 7, 9, 11, 12, 15, 17, 19, 21, 23, 25, 27, 28, 29, 30, 32, 34, 36, 40, 42, 44, 45] [] [5, 38, 46, 48] []) σ0 (r.1)) := by
  unfold fX5_near_112
  exact zpc_if (fun _ => fu_fX5_near_123 h) (fun _ => fu_fX5_near_123 h)
theorem fu_fX5_near_92 {σ0 : zSt} {σ : zSt} {x1 : Int32} {x2 : Int32} {x3 : Int32} (h : (zQ [3, 5, 7, 9, 11, 12, 15, 17, 19, 21, 23, 25, 27, 28, 29, 30, 32, 34, 36, 40, 42, 44, 45] [] [5, 38, 46, 48] []) σ0 σ) : zpc (fX5_near_92 σ x1 x2 x3) (fun r => (zQ [3, 5, 7, 9, 11, 12, 15, 17, 19, 21, 23, 25, 27, 28, 29, 30, 32, 34, 36, 40, 42, 44, 45] [] [5, 38, 46, 48] []) σ0 (r.1)) := by
  unfold fX5_near_92
  exact zpc_if (fun _ => fu_fX5_near_112 h) (fun _ => zpc_ck (zpc_bu (fu_fX5_goTo h) (fun σ1 hσ1 => fu_fX5_near_112 hσ1)))
theorem fu_fX5_near_91 {σ0 : zSt} {σ : zSt} {x1 : Int32} {x2 : Int32} {s0 : Int32} (h : (zQ [3, 5, 7, 9, 11, 12, 15, 17, 19, 21, 23, 25, 27, 28, 29, 30, 32, 34, 36, 40, 42, 44, 45] [] [5, 38, 46, 48] []) σ0 σ) : zpc (fX5_near_91 σ x1 x2 s0) (fun r => (zQ [3, 5, 7, 9, 11, 12, 15, 17, 19, 21, 23, 25, 27, 28, 29, 30, 32, 34, 36, 40, 42, 44, 45] [] [5, 38, 46, 48] []) σ0 (r.1)) := by
  unfold fX5_near_91
  exact fu_fX5_near_92 h
theorem fu_fX5_near_53 {σ0 : zSt} {σ : zSt} {x1 : Int32} {x2 : Int32} {s0 : Int32} (h : (zQ [3, 5, 7, 9, 11, 12, 15, 17, 19, 21, 23, 25, 27, 28, 29, 30, 32, 34, 36, 40, 42, 44, 45] [] [5, 38, 46, 48] []) σ0 σ) : zpc (fX5_near_53 σ x1 x2 s0) (fun r => (zQ [3, 5, 7, 9, 11, 12, 15, 17, 19, 21, 23, 25, 27, 28, 29, 30, 32, 34, 36, 40, 42, 44, 45] [] [5, 38, 46, 48] []) σ0 (r.1)) := by
  unfold fX5_near_53
  exact zpc_if (fun _ => zpc_ck (zpc_ck (zpc_bs (zQ.wi h rfl) (fun σ2 hσ2 => zpc_ck (zpc_if (fun _ => fu_fX5_near_91 hσ2) (fun _ => fu_fX5_near_91 hσ2)))))) (fun _ => fu_fX5_near_92 h)
theorem fu_fX5_near_48 {σ0 : zSt} {σ : zSt} {x1 : Int32} {x2 : Int32} (h : (zQ [3, 5, 7, 9, 11, 12, 15, 17, 19, 21, 23, 25, 27, 28, 29, 30, 32, 34, 36, 40, 42, 44, 45] [] [5, 38, 46, 48] []) σ0 σ) : zpc (fX5_near_48 σ x1 x2) (fun r => (zQ [3, 5, 7, 9, 11, 12, 15, 17, 19, 21, 23, 25, 27, 28, 29, 30, 32, 34, 36, 40, 42, 44, 45] [] [5, 38, 46, 48] []) σ0 (r.1)) := by
  unfold fX5_near_48
  exact fu_fX5_near_53 h
theorem fu_fX5_near_52 {σ0 : zSt} {σ : zSt} {x1 : Int32} {x2 : Int32} (h : (zQ [3, 5, 7, 9, 11, 12, 15, 17, 19, 21, 23, 25, 27, 28, 29, 30, 32, 34, 36, 40, 42, 44, 45] [] [5, 38, 46, 48] []) σ0 σ) : zpc (fX5_near_52 σ x1 x2) (fun r => (zQ [3, 5, 7, 9, 11, 12, 15, 17, 19, 21, 23, 25, 27, 28, 29, 30, 32, 34, 36, 40, 42, 44, 45] [] [5, 38, 46, 48] []) σ0 (r.1)) := by
  unfold fX5_near_52
  exact fu_fX5_near_53 h
theorem fu_fX5_near {σ0 : zSt} {σ : zSt} {x1 : Int32} (h : (zQ [3, 5, 7, 9, 11, 12, 15, 17, 19, 21, 23, 25, 27, 28, 29, 30, 32, 34, 36, 40, 42, 44, 45] [] [5, 38, 46, 48] []) σ0 σ) : zpc (fX5_near σ x1) (fun r => (zQ [3, 5, 7, 9, 11, 12, 15, 17, 19, 21, 23, 25, 27, 28, 29, 30, 32, 34, 36, 40, 42, 44, 45] [] [5, 38, 46, 48] []) σ0 (r.1)) := by
  unfold fX5_near
  exact zpc_if (fun _ => zpc_bi (fu_fX5_fetch h) (fun σ3 v4 hσ3 => zpc_bv (fun v5 _ => zpc_if (fun _ => fu_fX5_near_48 hσ3) (fun _ => zpc_if (fun _ => fu_fX5_near_52 hσ3) (fun _ => zpc_bi (fu_fX5_holds hσ3) (fun σ6 v7 hσ6 => zpc_if (fun _ => fu_fX5_near_52 hσ6) (fun _ => fu_fX5_near_48 hσ6))))))) (fun _ => zpc_if (fun _ => zpc_bu (fu_fX5_changeWithOther h) (fun σ8 hσ8 => zpc_bu (fu_fX5_changeWithOther hσ8) (fun σ9 hσ9 => fu_fX5_near_20 hσ9))) (fun _ => fu_fX5_near_20 h))
theorem fu_fX5_firstQuarter_193 {σ0 : zSt} {σ : zSt} {s0 : Int32} (h : (zQ [3, 5, 7, 9, 11, 12, 15, 17, 19, 21, 23, 25, 27, 28, 29, 30, 32, 34, 36, 40, 42, 44, 45] [] [5, 38, 46, 48] []) σ0 σ) : zpc (fX5_firstQuarter_193 σ s0) (fun r => (zQ [3, 5, 7, 9, 11, 12, 15, 17, 19, 21, 23, 25, 27, 28, 29, 30, 32, 34, 36, 40, 42, 44, 45] [] [5, 38, 46, 48] []) σ0 (r.1)) := by
  unfold fX5_firstQuarter_193
  exact zpc_some h
theorem fu_fX5_firstQuarter_170 {σ0 : zSt} {σ : zSt} {s0 : Int32} (h : (zQ [3, 5, 7, 9, 11, 12, 15, 17, 19, 21, 23, 25, 27, 28, 29, 30, 32, 34, 36, 40, 42, 44, 45] [] [5, 38, 46, 48] []) σ0 σ) : zpc (fX5_firstQuarter_170 σ s0) (fun r => (zQ [3, 5, 7, 9, 11, 12, 15, 17, 19, 21, 23, 25, 27, 28, 29, 30, 32, 34, 36, 40, 42, 44, 45] [] [5, 38, 46, 48] []) σ0 (r.1)) := by
  unfold fX5_firstQuarter_170
  exact zpc_some h
theorem fu_fX5_firstQuarter_143 {σ0 : zSt} {σ : zSt} {s0 : Int32} (h : (zQ [3, 5, 7, 9, 11, 12, 15, 17, 19, 21, 23, 25, 27, 28, 29, 30, 32, 34, 36, 40, 42, 44, 45] [] [5, 38, 46, 48] []) σ0 σ) : zpc (fX5_firstQuarter_143 σ s0) (fun r => (zQ [3, 5, 7, 9, 11, 12, 15, 17, 19, 21, 23, 25, 27, 28, 29, 30, 32, 34, 36, 40, 42, 44, 45] [] [5, 38, 46, 48] []) σ0 (r.1)) := by
  unfold fX5_firstQuarter_143
  exact zpc_some h
theorem fu_fX5_firstQuarter_110 {σ0 : zSt} {σ : zSt} {s0 : Int32} {s1 : Int32} {s2 : Int32} (h : (zQ [3, 5, 7, 9, 11, 12, 15, 17, 19, 21, 23, 25, 27, 28, 29, 30, 32, 34, 36, 40, 42, 44, 45] [] [5, 38, 46, 48] []) σ0 σ) : zpc (fX5_firstQuarter_110 σ s0 s1 s2) (fun r => (zQ [3, 5, 7, 9, 11, 12, 15, 17, 19, 21, 23, 25, 27, 28, 29, 30, 32, 34, 36, 40, 42, 44, 45] [] [5, 38, 46, 48] []) σ0 (r.1)) := by
  unfold fX5_firstQuarter_110
  exact zpc_bu (fu_fX5_putPair h) (fun σ1 hσ1 => zpc_some hσ1)
theorem fu_fX5_firstQuarter_81 {σ0 : zSt} {σ : zSt} {s0 : Int32} (h : (zQ [3, 5, 7, 9, 11, 12, 15, 17, 19, 21, 23, 25, 27, 28, 29, 30, 32, 34, 36, 40, 42, 44, 45] [] [5, 38, 46, 48] []) σ0 σ) : zpc (fX5_firstQuarter_81 σ s0) (fun r => (zQ [3, 5, 7, 9, 11, 12, 15, 17, 19, 21, 23, 25, 27, 28, 29, 30, 32, 34, 36, 40, 42, 44, 45] [] [5, 38, 46, 48] []) σ0 (r.1)) := by
  unfold fX5_firstQuarter_81
  exact zpc_some h
theorem fu_fX5_firstQuarter {σ0 : zSt} {σ : zSt} {x1 : Int32} (h : (zQ [3, 5, 7, 9, 11, 12, 15, 17, 19, 21, 23, 25, 27, 28, 29, 30, 32, 34, 36, 40, 42, 44, 45] [] [5, 38, 46, 48] []) σ0 σ) : zpc (fX5_firstQuarter σ x1) (fun r => (zQ [3, 5, 7, 9, 11, 12, 15, 17, 19, 21, 23, 25, 27, 28, 29, 30, 32, 34, 36, 40, 42, 44, 45] [] [5, 38, 46, 48] []) σ0 (r.1)) := by
  unfold fX5_firstQuarter
  exact zpc_bv (fun v2 _ => zpc_if (fun _ => zpc_bi (fu_fX5_near h) (fun σ3 v4 hσ3 => zpc_some hσ3)) (fun _ => zpc_if (fun _ => zpc_if (fun _ => zpc_bi (fu_fX5_loadPair h) (fun σ7 v8 hσ7 => fu_fX5_firstQuarter_81 hσ7)) (fun _ => zpc_bi (fu_fX5_addPair h) (fun σ5 v6 hσ5 => fu_fX5_firstQuarter_81 hσ5))) (fun _ => zpc_if (fun _ => zpc_bi (fu_fX5_far h) (fun σ9 v10 hσ9 => zpc_some hσ9)) (fun _ => zpc_if (fun _ => zpc_bi (fu_fX5_pair h) (fun σ11 v12 hσ11 => zpc_if (fun _ => fu_fX5_firstQuarter_110 hσ11) (fun _ => fu_fX5_firstQuarter_110 hσ11))) (fun _ => zpc_if (fun _ => zpc_bi (fu_fX5_one h) (fun σ13 v14 hσ13 => zpc_bi (fu_fX5_oneMore hσ13) (fun σ15 v16 hσ15 => zpc_bu (fu_fX5_putOne hσ15) (fun σ17 hσ17 => zpc_if (fun _ => fu_fX5_firstQuarter_143 hσ17) (fun _ => fu_fX5_firstQuarter_143 hσ17))))) (fun _ => zpc_if (fun _ => zpc_bi (fu_fX5_one h) (fun σ18 v19 hσ18 => zpc_bi (fu_fX5_oneLess hσ18) (fun σ20 v21 hσ20 => zpc_bu (fu_fX5_putOne hσ20) (fun σ22 hσ22 => zpc_if (fun _ => fu_fX5_firstQuarter_170 hσ22) (fun _ => fu_fX5_firstQuarter_170 hσ22))))) (fun _ => zpc_if (fun _ => zpc_bi (fu_fX5_fetch h) (fun σ23 v24 hσ23 => zpc_bu (fu_fX5_putOne hσ23) (fun σ25 hσ25 => zpc_if (fun _ => fu_fX5_firstQuarter_193 hσ25) (fun _ => fu_fX5_firstQuarter_193 hσ25)))) (fun _ => zpc_bu (fu_fX5_changeA h) (fun σ26 hσ26 => zpc_some hσ26)))))))))
theorem fu_fX5_carryOn_90 {σ0 : zSt} {σ : zSt} (h : (zQ [3, 5, 7, 9, 11, 12, 15, 17, 19, 21, 23, 25, 27, 28, 29, 30, 32, 34, 36, 40, 42, 44, 45] [] [5, 38, 46, 48] []) σ0 σ) : zpc (fX5_carryOn_90 σ) (fun r => (zQ [3, 5, 7, 9, 11, 12, 15, 17, 19, 21, 23, 25, 27, 28, 29, 30, 32, 34, 36, 40, 42, 44, 45] [] [5, 38, 46, 48] []) σ0 (r.1)) := by
  unfold fX5_carryOn_90
  exact zpc_ck (zpc_bs (zQ.wi h rfl) (fun σ1 hσ1 => zpc_some hσ1))
theorem fu_fX5_carryOn_193 {σ0 : zSt} {σ : zSt} {s0 : Int32} (h : (zQ [3, 5, 7, 9, 11, 12, 15, 17, 19, 21, 23, 25, 27, 28, 29, 30, 32, 34, 36, 40, 42, 44, 45] [] [5, 38, 46, 48] []) σ0 σ) : zpc (fX5_carryOn_193 σ s0) (fun r => (zQ [3, 5, 7, 9, 11, 12, 15, 17, 19, 21, 23, 25, 27, 28, 29, 30, 32, 34, 36, 40, 42, 44, 45] [] [5, 38, 46, 48] []) σ0 (r.1)) := by
  unfold fX5_carryOn_193
  exact zpc_some h
theorem fu_fX5_carryOn_275 {σ0 : zSt} {σ : zSt} {s0 : Int32} {s1 : Int32} (h : (zQ [3, 5, 7, 9, 11, 12, 15, 17, 19, 21, 23, 25, 27, 28, 29, 30, 32, 34, 36, 40, 42, 44, 45] [] [5, 38, 46, 48] []) σ0 σ) : zpc (fX5_carryOn_275 σ s0 s1) (fun r => (zQ [3, 5, 7, 9, 11, 12, 15, 17, 19, 21, 23, 25, 27, 28, 29, 30, 32, 34, 36, 40, 42, 44, 45] [] [5, 38, 46, 48] []) σ0 (r.1)) := by
  unfold fX5_carryOn_275
  exact zpc_some h
theorem fu_fX5_carryOn_141 {σ0 : zSt} {σ : zSt} {x1 : Int32} {x2 : Int32} (h : (zQ [3, 5, 7, 9, 11, 12, 15, 17, 19, 21, 23, 25, 27, 28, 29, 30, 32, 34, 36, 40, 42, 44, 45] [] [5, 38, 46, 48] []) σ0 σ) : zpc (fX5_carryOn_141 σ x1 x2) (fun r => (zQ [3, 5, 7, 9, 11, 12, 15, 17, 19, 21, 23, 25, 27, 28, 29, 30, 32, 34, 36, 40, 42, 44, 45] [] [5, 38, 46, 48] []) σ0 (r.1)) := by
  unfold fX5_carryOn_141
  exact zpc_if (fun _ => zpc_bi (fu_fX5_fetchOp h) (fun σ18 v19 hσ18 => zpc_bi (fu_fX5_turns hσ18) (fun σ20 v21 hσ20 => zpc_some hσ20))) (fun _ => zpc_if (fun _ => zpc_bi (fu_fX5_fetchOp h) (fun σ12 v13 hσ12 => zpc_if (fun _ => zpc_bi (fu_fX5_block hσ12) (fun σ16 v17 hσ16 => fu_fX5_carryOn_193 hσ16)) (fun _ => zpc_bi (fu_fX5_behindEd hσ12) (fun σ14 v15 hσ14 => fu_fX5_carryOn_193 hσ14)))) (fun _ => zpc_if (fun _ => zpc_bi (fu_fX5_firstQuarter h) (fun σ2 v3 hσ2 => zpc_some hσ2)) (fun _ => zpc_if (fun _ => zpc_bi (fu_fX5_move h) (fun σ4 v5 hσ4 => zpc_some hσ4)) (fun _ => zpc_if (fun _ => zpc_bi (fu_fX5_doWithRegister h) (fun σ6 v7 hσ6 => zpc_some hσ6)) (fun _ => zpc_if (fun _ => zpc_bi (fu_fX5_exchange h) (fun σ10 v11 hσ10 => fu_fX5_carryOn_275 hσ10)) (fun _ => zpc_bi (fu_fX5_lastQuarter h) (fun σ8 v9 hσ8 => fu_fX5_carryOn_275 hσ8)))))))
theorem fu_fX5_carryOn_115 {σ0 : zSt} {σ : zSt} {s0 : Int32} (h : (zQ [3, 5, 7, 9, 11, 12, 15, 17, 19, 21, 23, 25, 27, 28, 29, 30, 32, 34, 36, 40, 42, 44, 45] [] [5, 38, 46, 48] []) σ0 σ) : zpc (fX5_carryOn_115 σ s0) (fun r => (zQ [3, 5, 7, 9, 11, 12, 15, 17, 19, 21, 23, 25, 27, 28, 29, 30, 32, 34, 36, 40, 42, 44, 45] [] [5, 38, 46, 48] []) σ0 (r.1)) := by
  unfold fX5_carryOn_115
  exact zpc_bs (zQ.wi h rfl) (fun σ22 hσ22 => zpc_bi (fu_fX5_fetchOp hσ22) (fun σ23 v24 hσ23 => zpc_if (fun _ => zpc_bi (fu_fX5_turnBeside hσ23) (fun σ27 v28 hσ27 => zpc_some hσ27)) (fun _ => zpc_bi (fu_fX5_takePlace hσ23) (fun σ25 v26 hσ25 => fu_fX5_carryOn_141 hσ25))))
theorem fu_fX5_carryOn_54 {σ0 : zSt} {σ : zSt} {x1 : Int32} (h : (zQ [3, 5, 7, 9, 11, 12, 15, 17, 19, 21, 23, 25, 27, 28, 29, 30, 32, 34, 36, 40, 42, 44, 45] [] [5, 38, 46, 48] []) σ0 σ) : zpc (fX5_carryOn_54 σ x1) (fun r => (zQ [3, 5, 7, 9, 11, 12, 15, 17, 19, 21, 23, 25, 27, 28, 29, 30, 32, 34, 36, 40, 42, 44, 45] [] [5, 38, 46, 48] []) σ0 (r.1)) := by
  unfold fX5_carryOn_54
  exact zpc_ck (zpc_bi (fu_fX2_read h) (fun σ29 v30 hσ29 => zpc_if (fun _ => fu_fX5_carryOn_90 hσ29) (fun _ => zpc_if (fun _ => fu_fX5_carryOn_90 hσ29) (fun _ => zpc_if (fun _ => fu_fX5_carryOn_90 hσ29) (fun _ => zpc_if (fun _ => fu_fX5_carryOn_115 hσ29) (fun _ => fu_fX5_carryOn_115 hσ29))))))
theorem fu_fX5_carryOn {σ0 : zSt} {σ : zSt} (h : (zQ [3, 5, 7, 9, 11, 12, 15, 17, 19, 21, 23, 25, 27, 28, 29, 30, 32, 34, 36, 40, 42, 44, 45] [] [5, 38, 46, 48] []) σ0 σ) : zpc (fX5_carryOn σ) (fun r => (zQ [3, 5, 7, 9, 11, 12, 15, 17, 19, 21, 23, 25, 27, 28, 29, 30, 32, 34, 36, 40, 42, 44, 45] [] [5, 38, 46, 48] []) σ0 (r.1)) := by
  unfold fX5_carryOn
  exact zpc_ck (zpc_if (fun _ => zpc_bu (fu_fX5_growR h) (fun σ37 hσ37 => zpc_some hσ37)) (fun _ => zpc_bs (zQ.wi h rfl) (fun σ31 hσ31 => zpc_bi (fu_fX5_pairAt hσ31) (fun σ32 v33 hσ32 => zpc_bs (zQ.wi hσ32 rfl) (fun σ34 hσ34 => zpc_bi (fu_fX5_fetchOp hσ34) (fun σ35 v36 hσ35 => zpc_if (fun _ => fu_fX5_carryOn_54 hσ35) (fun _ => zpc_if (fun _ => fu_fX5_carryOn_54 hσ35) (fun _ => fu_fX5_carryOn_141 hσ35))))))))
theorem fu_fX6_size_k11 {σ0 : zSt} {σ : zSt} (h : (zQ [3, 5, 7, 9, 11, 12, 15, 17, 19, 21, 23, 25, 27, 28, 29, 30, 32, 34, 36, 40, 42, 44, 45] [] [5, 38, 46, 48] []) σ0 σ) : zpc (fX6_size_k11 σ) (fun r => (zQ [3, 5, 7, 9, 11, 12, 15, 17, 19, 21, 23, 25, 27, 28, 29, 30, 32, 34, 36, 40, 42, 44, 45] [] [5, 38, 46, 48] []) σ0 (r.1)) := by
  unfold fX6_size_k11
  exact zpc_some h
theorem fu_fX6_size_k12 {σ0 : zSt} {σ : zSt} (h : (zQ [3, 5, 7, 9, 11, 12, 15, 17, 19, 21, 23, 25, 27, 28, 29, 30, 32, 34, 36, 40, 42, 44, 45] [] [5, 38, 46, 48] []) σ0 σ) : zpc (fX6_size_k12 σ) (fun r => (zQ [3, 5, 7, 9, 11, 12, 15, 17, 19, 21, 23, 25, 27, 28, 29, 30, 32, 34, 36, 40, 42, 44, 45] [] [5, 38, 46, 48] []) σ0 (r.1)) := by
  unfold fX6_size_k12
  exact zpc_some h
theorem fu_fX6_takeFirst_k11 {σ0 : zSt} {σ : zSt} (h : (zQ [3, 5, 7, 9, 11, 12, 15, 17, 19, 21, 23, 25, 27, 28, 29, 30, 32, 34, 36, 40, 42, 44, 45] [] [5, 38, 46, 48] []) σ0 σ) : zpc (fX6_takeFirst_k11 σ) (fun r => (zQ [3, 5, 7, 9, 11, 12, 15, 17, 19, 21, 23, 25, 27, 28, 29, 30, 32, 34, 36, 40, 42, 44, 45] [] [5, 38, 46, 48] []) σ0 (r.1)) := by
  unfold fX6_takeFirst_k11
  exact zpc_if (fun _ => zpc_some h) (fun _ => zpc_ck (zpc_bv (fun v1 _ => zpc_bs (zQ.wi h rfl) (fun σ2 hσ2 => zpc_bs (zQ.wi hσ2 rfl) (fun σ3 hσ3 => zpc_some hσ3)))))
theorem fu_fX6_takeFirst_k12 {σ0 : zSt} {σ : zSt} (h : (zQ [3, 5, 7, 9, 11, 12, 15, 17, 19, 21, 23, 25, 27, 28, 29, 30, 32, 34, 36, 40, 42, 44, 45] [] [5, 38, 46, 48] []) σ0 σ) : zpc (fX6_takeFirst_k12 σ) (fun r => (zQ [3, 5, 7, 9, 11, 12, 15, 17, 19, 21, 23, 25, 27, 28, 29, 30, 32, 34, 36, 40, 42, 44, 45] [] [5, 38, 46, 48] []) σ0 (r.1)) := by
  unfold fX6_takeFirst_k12
  exact zpc_if (fun _ => zpc_some h) (fun _ => zpc_ck (zpc_bv (fun v1 _ => zpc_bs (zQ.wi h rfl) (fun σ2 hσ2 => zpc_bs (zQ.wi hσ2 rfl) (fun σ3 hσ3 => zpc_some hσ3)))))
theorem fu_fJ7_fill_53178_k30_5_body {σ0 : zSt} {k5 : zSt → Int32 → Int32 → Int32 → Option (zSt)} (hk5 : ∀ (y0 : zSt) (y1 : Int32) (y2 : Int32) (y3 : Int32), (zQ [3, 5, 7, 9, 11, 12, 15, 17, 19, 21, 23, 25, 27, 28, 29, 30, 32, 34, 36, 40, 42, 44, 45] [] [5, 38, 46, 48] []) σ0 y0 → zpc (k5 y0 y1 y2 y3) (fun r => (zQ [3, 5, 7, 9, 11, 12, 15, 17, 19, 21, 23, 25, 27, 28, 29, 30, 32, 34, 36, 40, 42, 44, 45] [] [5, 38, 46, 48] []) σ0 (r))) {σ : zSt} {x1 : Int32} {x2 : Int32} {x3 : Int32} (h : (zQ [3, 5, 7, 9, 11, 12, 15, 17, 19, 21, 23, 25, 27, 28, 29, 30, 32, 34, 36, 40, 42, 44, 45] [] [5, 38, 46, 48] []) σ0 σ) : zpc (fJ7_fill_53178_k30_5_body k5 σ x1 x2 x3) (fun r => (zQ [3, 5, 7, 9, 11, 12, 15, 17, 19, 21, 23, 25, 27, 28, 29, 30, 32, 34, 36, 40, 42, 44, 45] [] [5, 38, 46, 48] []) σ0 (r)) := by
  unfold fJ7_fill_53178_k30_5_body
  exact zpc_if (fun _ => zpc_some h) (fun _ => zpc_ck (zpc_bs (zQ.wi h rfl) (fun σ1 hσ1 => zpc_bv (fun v2 _ => hk5 _ _ _ _ hσ1))))
theorem fu_fJ7_fill_53178_k30_5 {σ0 : zSt} : ∀ (n : Nat) (y0 : zSt) (y1 : Int32) (y2 : Int32) (y3 : Int32), (zQ [3, 5, 7, 9, 11, 12, 15, 17, 19, 21, 23, 25, 27, 28, 29, 30, 32, 34, 36, 40, 42, 44, 45] [] [5, 38, 46, 48] []) σ0 y0 → zpc (fJ7_fill_53178_k30_5 n y0 y1 y2 y3) (fun r => (zQ [3, 5, 7, 9, 11, 12, 15, 17, 19, 21, 23, 25, 27, 28, 29, 30, 32, 34, 36, 40, 42, 44, 45] [] [5, 38, 46, 48] []) σ0 (r)) := by
  intro n
  induction n with
  | zero => intro y0 y1 y2 y3 h; exact zpc_none
  | succ n ih => intro y0 y1 y2 y3 h; exact fu_fJ7_fill_53178_k30_5_body ih h
theorem fu_fJ7_fill_53178_k30 {σ0 : zSt} {σ : zSt} {x1 : Int32} (h : (zQ [3, 5, 7, 9, 11, 12, 15, 17, 19, 21, 23, 25, 27, 28, 29, 30, 32, 34, 36, 40, 42, 44, 45] [] [5, 38, 46, 48] []) σ0 σ) : zpc (fJ7_fill_53178_k30 σ x1) (fun r => (zQ [3, 5, 7, 9, 11, 12, 15, 17, 19, 21, 23, 25, 27, 28, 29, 30, 32, 34, 36, 40, 42, 44, 45] [] [5, 38, 46, 48] []) σ0 (r)) := by
  unfold fJ7_fill_53178_k30
  exact fu_fJ7_fill_53178_k30_5 _ _ _ _ _ h
theorem fu_fJ7_fill_fda19_k30_10_body {σ0 : zSt} {k10 : zSt → Int32 → Int32 → Int32 → Option (zSt)} (hk10 : ∀ (y0 : zSt) (y1 : Int32) (y2 : Int32) (y3 : Int32), (zQ [3, 5, 7, 9, 11, 12, 15, 17, 19, 21, 23, 25, 27, 28, 29, 30, 32, 34, 36, 40, 42, 44, 45] [] [5, 38, 46, 48] []) σ0 y0 → zpc (k10 y0 y1 y2 y3) (fun r => (zQ [3, 5, 7, 9, 11, 12, 15, 17, 19, 21, 23, 25, 27, 28, 29, 30, 32, 34, 36, 40, 42, 44, 45] [] [5, 38, 46, 48] []) σ0 (r))) {σ : zSt} {x2 : Int32} {x3 : Int32} {x4 : Int32} (h : (zQ [3, 5, 7, 9, 11, 12, 15, 17, 19, 21, 23, 25, 27, 28, 29, 30, 32, 34, 36, 40, 42, 44, 45] [] [5, 38, 46, 48] []) σ0 σ) : zpc (fJ7_fill_fda19_k30_10_body k10 σ x2 x3 x4) (fun r => (zQ [3, 5, 7, 9, 11, 12, 15, 17, 19, 21, 23, 25, 27, 28, 29, 30, 32, 34, 36, 40, 42, 44, 45] [] [5, 38, 46, 48] []) σ0 (r)) := by
  unfold fJ7_fill_fda19_k30_10_body
  exact zpc_if (fun _ => zpc_some h) (fun _ => zpc_ck (zpc_bs (zQ.wi h rfl) (fun σ1 hσ1 => zpc_bv (fun v2 _ => hk10 _ _ _ _ hσ1))))
theorem fu_fJ7_fill_fda19_k30_10 {σ0 : zSt} : ∀ (n : Nat) (y0 : zSt) (y1 : Int32) (y2 : Int32) (y3 : Int32), (zQ [3, 5, 7, 9, 11, 12, 15, 17, 19, 21, 23, 25, 27, 28, 29, 30, 32, 34, 36, 40, 42, 44, 45] [] [5, 38, 46, 48] []) σ0 y0 → zpc (fJ7_fill_fda19_k30_10 n y0 y1 y2 y3) (fun r => (zQ [3, 5, 7, 9, 11, 12, 15, 17, 19, 21, 23, 25, 27, 28, 29, 30, 32, 34, 36, 40, 42, 44, 45] [] [5, 38, 46, 48] []) σ0 (r)) := by
  intro n
  induction n with
  | zero => intro y0 y1 y2 y3 h; exact zpc_none
  | succ n ih => intro y0 y1 y2 y3 h; exact fu_fJ7_fill_fda19_k30_10_body ih h
theorem fu_fJ7_fill_fda19_k30 {σ0 : zSt} {σ : zSt} {x1 : Int32} {x2 : Int32} {x3 : Int32} (h : (zQ [3, 5, 7, 9, 11, 12, 15, 17, 19, 21, 23, 25, 27, 28, 29, 30, 32, 34, 36, 40, 42, 44, 45] [] [5, 38, 46, 48] []) σ0 σ) : zpc (fJ7_fill_fda19_k30 σ x1 x2 x3) (fun r => (zQ [3, 5, 7, 9, 11, 12, 15, 17, 19, 21, 23, 25, 27, 28, 29, 30, 32, 34, 36, 40, 42, 44, 45] [] [5, 38, 46, 48] []) σ0 (r)) := by
  unfold fJ7_fill_fda19_k30
  exact zpc_bu (fu_fJ7_rangeCheck_23922 h) (fun σ3 hσ3 => fu_fJ7_fill_fda19_k30_10 _ _ _ _ _ hσ3)
theorem fu_fX7_clear {σ0 : zSt} {σ : zSt} (h : (zQ [3, 5, 7, 9, 11, 12, 15, 17, 19, 21, 23, 25, 27, 28, 29, 30, 32, 34, 36, 40, 42, 44, 45] [] [5, 38, 46, 48] []) σ0 σ) : zpc (fX7_clear σ) (fun r => (zQ [3, 5, 7, 9, 11, 12, 15, 17, 19, 21, 23, 25, 27, 28, 29, 30, 32, 34, 36, 40, 42, 44, 45] [] [5, 38, 46, 48] []) σ0 (r)) := by
  unfold fX7_clear
  exact zpc_bu (fu_fJ7_fill_53178_k30 h) (fun σ1 hσ1 => zpc_bu (fu_fJ7_fill_fda19_k30 hσ1) (fun σ2 hσ2 => zpc_ck (zpc_bs (zQ.wi hσ2 rfl) (fun σ3 hσ3 => zpc_ck (zpc_bs (zQ.wi hσ3 rfl) (fun σ4 hσ4 => zpc_some hσ4))))))
theorem fu_fX7_value_20 {σ0 : zSt} {σ : zSt} {s0 : Int32} (h : (zQ [3, 5, 7, 9, 11, 12, 15, 17, 19, 21, 23, 25, 27, 28, 29, 30, 32, 34, 36, 40, 42, 44, 45] [] [5, 38, 46, 48] []) σ0 σ) : zpc (fX7_value_20 σ s0) (fun r => (zQ [3, 5, 7, 9, 11, 12, 15, 17, 19, 21, 23, 25, 27, 28, 29, 30, 32, 34, 36, 40, 42, 44, 45] [] [5, 38, 46, 48] []) σ0 (r.1)) := by
  unfold fX7_value_20
  exact zpc_some h
theorem fu_fX7_value_19 {σ0 : zSt} {σ : zSt} (h : (zQ [3, 5, 7, 9, 11, 12, 15, 17, 19, 21, 23, 25, 27, 28, 29, 30, 32, 34, 36, 40, 42, 44, 45] [] [5, 38, 46, 48] []) σ0 σ) : zpc (fX7_value_19 σ) (fun r => (zQ [3, 5, 7, 9, 11, 12, 15, 17, 19, 21, 23, 25, 27, 28, 29, 30, 32, 34, 36, 40, 42, 44, 45] [] [5, 38, 46, 48] []) σ0 (r.1)) := by
  unfold fX7_value_19
  exact fu_fX7_value_20 h
theorem fu_fX7_value {σ0 : zSt} {σ : zSt} {x1 : Int32} (h : (zQ [3, 5, 7, 9, 11, 12, 15, 17, 19, 21, 23, 25, 27, 28, 29, 30, 32, 34, 36, 40, 42, 44, 45] [] [5, 38, 46, 48] []) σ0 σ) : zpc (fX7_value σ x1) (fun r => (zQ [3, 5, 7, 9, 11, 12, 15, 17, 19, 21, 23, 25, 27, 28, 29, 30, 32, 34, 36, 40, 42, 44, 45] [] [5, 38, 46, 48] []) σ0 (r.1)) := by
  unfold fX7_value
  exact zpc_if (fun _ => fu_fX7_value_19 h) (fun _ => zpc_if (fun _ => fu_fX7_value_19 h) (fun _ => zpc_ck (fu_fX7_value_20 h)))
theorem fu_fX8_eightFrom_39 {σ0 : zSt} {k6 : zSt → Int32 → Int64 → Int32 → Option (zSt × Int64)} (hk6 : ∀ (y0 : zSt) (y1 : Int32) (y2 : Int64) (y3 : Int32), (zQ [3, 5, 7, 9, 11, 12, 15, 17, 19, 21, 23, 25, 27, 28, 29, 30, 32, 34, 36, 40, 42, 44, 45] [] [5, 38, 46, 48] []) σ0 y0 → zpc (k6 y0 y1 y2 y3) (fun r => (zQ [3, 5, 7, 9, 11, 12, 15, 17, 19, 21, 23, 25, 27, 28, 29, 30, 32, 34, 36, 40, 42, 44, 45] [] [5, 38, 46, 48] []) σ0 (r.1))) {σ : zSt} {x1 : Int32} {x2 : Int64} {x4 : Int32} {s0 : Int32} (h : (zQ [3, 5, 7, 9, 11, 12, 15, 17, 19, 21, 23, 25, 27, 28, 29, 30, 32, 34, 36, 40, 42, 44, 45] [] [5, 38, 46, 48] []) σ0 σ) : zpc (fX8_eightFrom_39 k6 σ x1 x2 x4 s0) (fun r => (zQ [3, 5, 7, 9, 11, 12, 15, 17, 19, 21, 23, 25, 27, 28, 29, 30, 32, 34, 36, 40, 42, 44, 45] [] [5, 38, 46, 48] []) σ0 (r.1)) := by
  unfold fX8_eightFrom_39
  exact zpc_bv (fun v1 _ => zpc_bv (fun v2 _ => hk6 _ _ _ _ h))
theorem fu_fX8_eightFrom_38 {σ0 : zSt} {k6 : zSt → Int32 → Int64 → Int32 → Option (zSt × Int64)} (hk6 : ∀ (y0 : zSt) (y1 : Int32) (y2 : Int64) (y3 : Int32), (zQ [3, 5, 7, 9, 11, 12, 15, 17, 19, 21, 23, 25, 27, 28, 29, 30, 32, 34, 36, 40, 42, 44, 45] [] [5, 38, 46, 48] []) σ0 y0 → zpc (k6 y0 y1 y2 y3) (fun r => (zQ [3, 5, 7, 9, 11, 12, 15, 17, 19, 21, 23, 25, 27, 28, 29, 30, 32, 34, 36, 40, 42, 44, 45] [] [5, 38, 46, 48] []) σ0 (r.1))) {σ : zSt} {x1 : Int32} {x2 : Int64} {x4 : Int32} (h : (zQ [3, 5, 7, 9, 11, 12, 15, 17, 19, 21, 23, 25, 27, 28, 29, 30, 32, 34, 36, 40, 42, 44, 45] [] [5, 38, 46, 48] []) σ0 σ) : zpc (fX8_eightFrom_38 k6 σ x1 x2 x4) (fun r => (zQ [3, 5, 7, 9, 11, 12, 15, 17, 19, 21, 23, 25, 27, 28, 29, 30, 32, 34, 36, 40, 42, 44, 45] [] [5, 38, 46, 48] []) σ0 (r.1)) := by
  unfold fX8_eightFrom_38
  exact fu_fX8_eightFrom_39 hk6 h
theorem fu_fX8_eightFrom_6_body {σ0 : zSt} {k6 : zSt → Int32 → Int64 → Int32 → Option (zSt × Int64)} (hk6 : ∀ (y0 : zSt) (y1 : Int32) (y2 : Int64) (y3 : Int32), (zQ [3, 5, 7, 9, 11, 12, 15, 17, 19, 21, 23, 25, 27, 28, 29, 30, 32, 34, 36, 40, 42, 44, 45] [] [5, 38, 46, 48] []) σ0 y0 → zpc (k6 y0 y1 y2 y3) (fun r => (zQ [3, 5, 7, 9, 11, 12, 15, 17, 19, 21, 23, 25, 27, 28, 29, 30, 32, 34, 36, 40, 42, 44, 45] [] [5, 38, 46, 48] []) σ0 (r.1))) {σ : zSt} {x1 : Int32} {x2 : Int64} {x4 : Int32} (h : (zQ [3, 5, 7, 9, 11, 12, 15, 17, 19, 21, 23, 25, 27, 28, 29, 30, 32, 34, 36, 40, 42, 44, 45] [] [5, 38, 46, 48] []) σ0 σ) : zpc (fX8_eightFrom_6_body k6 σ x1 x2 x4) (fun r => (zQ [3, 5, 7, 9, 11, 12, 15, 17, 19, 21, 23, 25, 27, 28, 29, 30, 32, 34, 36, 40, 42, 44, 45] [] [5, 38, 46, 48] []) σ0 (r.1)) := by
  unfold fX8_eightFrom_6_body
  exact zpc_if (fun _ => zpc_some h) (fun _ => zpc_if (fun _ => fu_fX8_eightFrom_38 hk6 h) (fun _ => zpc_if (fun _ => fu_fX8_eightFrom_38 hk6 h) (fun _ => zpc_ck (fu_fX8_eightFrom_39 hk6 h))))
theorem fu_fX8_eightFrom_6 {σ0 : zSt} : ∀ (n : Nat) (y0 : zSt) (y1 : Int32) (y2 : Int64) (y3 : Int32), (zQ [3, 5, 7, 9, 11, 12, 15, 17, 19, 21, 23, 25, 27, 28, 29, 30, 32, 34, 36, 40, 42, 44, 45] [] [5, 38, 46, 48] []) σ0 y0 → zpc (fX8_eightFrom_6 n y0 y1 y2 y3) (fun r => (zQ [3, 5, 7, 9, 11, 12, 15, 17, 19, 21, 23, 25, 27, 28, 29, 30, 32, 34, 36, 40, 42, 44, 45] [] [5, 38, 46, 48] []) σ0 (r.1)) := by
  intro n
  induction n with
  | zero => intro y0 y1 y2 y3 h; exact zpc_none
  | succ n ih => intro y0 y1 y2 y3 h; exact fu_fX8_eightFrom_6_body ih h
theorem fu_fX8_eightFrom {σ0 : zSt} {σ : zSt} {x1 : Int32} (h : (zQ [3, 5, 7, 9, 11, 12, 15, 17, 19, 21, 23, 25, 27, 28, 29, 30, 32, 34, 36, 40, 42, 44, 45] [] [5, 38, 46, 48] []) σ0 σ) : zpc (fX8_eightFrom σ x1) (fun r => (zQ [3, 5, 7, 9, 11, 12, 15, 17, 19, 21, 23, 25, 27, 28, 29, 30, 32, 34, 36, 40, 42, 44, 45] [] [5, 38, 46, 48] []) σ0 (r.1)) := by
  unfold fX8_eightFrom
  exact fu_fX8_eightFrom_6 _ _ _ _ _ h
theorem fu_fJ7_fill_53178_k21_5_body {σ0 : zSt} {k5 : zSt → Int32 → Int32 → Int32 → Option (zSt)} (hk5 : ∀ (y0 : zSt) (y1 : Int32) (y2 : Int32) (y3 : Int32), (zQ [3, 5, 7, 9, 11, 12, 15, 17, 19, 21, 23, 25, 27, 28, 29, 30, 32, 34, 36, 40, 42, 44, 45] [] [5, 38, 46, 48] []) σ0 y0 → zpc (k5 y0 y1 y2 y3) (fun r => (zQ [3, 5, 7, 9, 11, 12, 15, 17, 19, 21, 23, 25, 27, 28, 29, 30, 32, 34, 36, 40, 42, 44, 45] [] [5, 38, 46, 48] []) σ0 (r))) {σ : zSt} {x1 : Int32} {x2 : Int32} {x3 : Int32} (h : (zQ [3, 5, 7, 9, 11, 12, 15, 17, 19, 21, 23, 25, 27, 28, 29, 30, 32, 34, 36, 40, 42, 44, 45] [] [5, 38, 46, 48] []) σ0 σ) : zpc (fJ7_fill_53178_k21_5_body k5 σ x1 x2 x3) (fun r => (zQ [3, 5, 7, 9, 11, 12, 15, 17, 19, 21, 23, 25, 27, 28, 29, 30, 32, 34, 36, 40, 42, 44, 45] [] [5, 38, 46, 48] []) σ0 (r)) := by
  unfold fJ7_fill_53178_k21_5_body
  exact zpc_if (fun _ => zpc_some h) (fun _ => zpc_ck (zpc_bs (zQ.wi h rfl) (fun σ1 hσ1 => zpc_bv (fun v2 _ => hk5 _ _ _ _ hσ1))))
theorem fu_fJ7_fill_53178_k21_5 {σ0 : zSt} : ∀ (n : Nat) (y0 : zSt) (y1 : Int32) (y2 : Int32) (y3 : Int32), (zQ [3, 5, 7, 9, 11, 12, 15, 17, 19, 21, 23, 25, 27, 28, 29, 30, 32, 34, 36, 40, 42, 44, 45] [] [5, 38, 46, 48] []) σ0 y0 → zpc (fJ7_fill_53178_k21_5 n y0 y1 y2 y3) (fun r => (zQ [3, 5, 7, 9, 11, 12, 15, 17, 19, 21, 23, 25, 27, 28, 29, 30, 32, 34, 36, 40, 42, 44, 45] [] [5, 38, 46, 48] []) σ0 (r)) := by
  intro n
  induction n with
  | zero => intro y0 y1 y2 y3 h; exact zpc_none
  | succ n ih => intro y0 y1 y2 y3 h; exact fu_fJ7_fill_53178_k21_5_body ih h
theorem fu_fJ7_fill_53178_k21 {σ0 : zSt} {σ : zSt} {x1 : Int32} (h : (zQ [3, 5, 7, 9, 11, 12, 15, 17, 19, 21, 23, 25, 27, 28, 29, 30, 32, 34, 36, 40, 42, 44, 45] [] [5, 38, 46, 48] []) σ0 σ) : zpc (fJ7_fill_53178_k21 σ x1) (fun r => (zQ [3, 5, 7, 9, 11, 12, 15, 17, 19, 21, 23, 25, 27, 28, 29, 30, 32, 34, 36, 40, 42, 44, 45] [] [5, 38, 46, 48] []) σ0 (r)) := by
  unfold fJ7_fill_53178_k21
  exact fu_fJ7_fill_53178_k21_5 _ _ _ _ _ h
theorem fu_fJ7_fill_53178_k23_5_body {σ0 : zSt} {k5 : zSt → Int32 → Int32 → Int32 → Option (zSt)} (hk5 : ∀ (y0 : zSt) (y1 : Int32) (y2 : Int32) (y3 : Int32), (zQ [3, 5, 7, 9, 11, 12, 15, 17, 19, 21, 23, 25, 27, 28, 29, 30, 32, 34, 36, 40, 42, 44, 45] [] [5, 38, 46, 48] []) σ0 y0 → zpc (k5 y0 y1 y2 y3) (fun r => (zQ [3, 5, 7, 9, 11, 12, 15, 17, 19, 21, 23, 25, 27, 28, 29, 30, 32, 34, 36, 40, 42, 44, 45] [] [5, 38, 46, 48] []) σ0 (r))) {σ : zSt} {x1 : Int32} {x2 : Int32} {x3 : Int32} (h : (zQ [3, 5, 7, 9, 11, 12, 15, 17, 19, 21, 23, 25, 27, 28, 29, 30, 32, 34, 36, 40, 42, 44, 45] [] [5, 38, 46, 48] []) σ0 σ) : zpc (fJ7_fill_53178_k23_5_body k5 σ x1 x2 x3) (fun r => (zQ [3, 5, 7, 9, 11, 12, 15, 17, 19, 21, 23, 25, 27, 28, 29, 30, 32, 34, 36, 40, 42, 44, 45] [] [5, 38, 46, 48] []) σ0 (r)) := by
  unfold fJ7_fill_53178_k23_5_body
  exact zpc_if (fun _ => zpc_some h) (fun _ => zpc_ck (zpc_bs (zQ.wi h rfl) (fun σ1 hσ1 => zpc_bv (fun v2 _ => hk5 _ _ _ _ hσ1))))
theorem fu_fJ7_fill_53178_k23_5 {σ0 : zSt} : ∀ (n : Nat) (y0 : zSt) (y1 : Int32) (y2 : Int32) (y3 : Int32), (zQ [3, 5, 7, 9, 11, 12, 15, 17, 19, 21, 23, 25, 27, 28, 29, 30, 32, 34, 36, 40, 42, 44, 45] [] [5, 38, 46, 48] []) σ0 y0 → zpc (fJ7_fill_53178_k23_5 n y0 y1 y2 y3) (fun r => (zQ [3, 5, 7, 9, 11, 12, 15, 17, 19, 21, 23, 25, 27, 28, 29, 30, 32, 34, 36, 40, 42, 44, 45] [] [5, 38, 46, 48] []) σ0 (r)) := by
  intro n
  induction n with
  | zero => intro y0 y1 y2 y3 h; exact zpc_none
  | succ n ih => intro y0 y1 y2 y3 h; exact fu_fJ7_fill_53178_k23_5_body ih h
theorem fu_fJ7_fill_53178_k23 {σ0 : zSt} {σ : zSt} {x1 : Int32} (h : (zQ [3, 5, 7, 9, 11, 12, 15, 17, 19, 21, 23, 25, 27, 28, 29, 30, 32, 34, 36, 40, 42, 44, 45] [] [5, 38, 46, 48] []) σ0 σ) : zpc (fJ7_fill_53178_k23 σ x1) (fun r => (zQ [3, 5, 7, 9, 11, 12, 15, 17, 19, 21, 23, 25, 27, 28, 29, 30, 32, 34, 36, 40, 42, 44, 45] [] [5, 38, 46, 48] []) σ0 (r)) := by
  unfold fJ7_fill_53178_k23
  exact fu_fJ7_fill_53178_k23_5 _ _ _ _ _ h
theorem fu_fX9_clear {σ0 : zSt} {σ : zSt} (h : (zQ [3, 5, 7, 9, 11, 12, 15, 17, 19, 21, 23, 25, 27, 28, 29, 30, 32, 34, 36, 40, 42, 44, 45] [] [5, 38, 46, 48] []) σ0 σ) : zpc (fX9_clear σ) (fun r => (zQ [3, 5, 7, 9, 11, 12, 15, 17, 19, 21, 23, 25, 27, 28, 29, 30, 32, 34, 36, 40, 42, 44, 45] [] [5, 38, 46, 48] []) σ0 (r)) := by
  unfold fX9_clear
  exact zpc_bu (fu_fJ7_fill_53178_k21 h) (fun σ1 hσ1 => zpc_bu (fu_fJ7_fill_53178_k23 hσ1) (fun σ2 hσ2 => zpc_some hσ2))
theorem fu_fX9_has_27 {σ0 : zSt} {σ : zSt} {s0 : Int32} (h : (zQ [3, 5, 7, 9, 11, 12, 15, 17, 19, 21, 23, 25, 27, 28, 29, 30, 32, 34, 36, 40, 42, 44, 45] [] [5, 38, 46, 48] []) σ0 σ) : zpc (fX9_has_27 σ s0) (fun r => (zQ [3, 5, 7, 9, 11, 12, 15, 17, 19, 21, 23, 25, 27, 28, 29, 30, 32, 34, 36, 40, 42, 44, 45] [] [5, 38, 46, 48] []) σ0 (r.1)) := by
  unfold fX9_has_27
  exact zpc_ck (zpc_some h)
theorem fu_fX9_has_26 {σ0 : zSt} {σ : zSt} (h : (zQ [3, 5, 7, 9, 11, 12, 15, 17, 19, 21, 23, 25, 27, 28, 29, 30, 32, 34, 36, 40, 42, 44, 45] [] [5, 38, 46, 48] []) σ0 σ) : zpc (fX9_has_26 σ) (fun r => (zQ [3, 5, 7, 9, 11, 12, 15, 17, 19, 21, 23, 25, 27, 28, 29, 30, 32, 34, 36, 40, 42, 44, 45] [] [5, 38, 46, 48] []) σ0 (r.1)) := by
  unfold fX9_has_26
  exact fu_fX9_has_27 h
theorem fu_fX9_has_22 {σ0 : zSt} {σ : zSt} (h : (zQ [3, 5, 7, 9, 11, 12, 15, 17, 19, 21, 23, 25, 27, 28, 29, 30, 32, 34, 36, 40, 42, 44, 45] [] [5, 38, 46, 48] []) σ0 σ) : zpc (fX9_has_22 σ) (fun r => (zQ [3, 5, 7, 9, 11, 12, 15, 17, 19, 21, 23, 25, 27, 28, 29, 30, 32, 34, 36, 40, 42, 44, 45] [] [5, 38, 46, 48] []) σ0 (r.1)) := by
  unfold fX9_has_22
  exact fu_fX9_has_27 h
theorem fu_fX9_has_10 {σ0 : zSt} {σ : zSt} {x0 : Int32} (h : (zQ [3, 5, 7, 9, 11, 12, 15, 17, 19, 21, 23, 25, 27, 28, 29, 30, 32, 34, 36, 40, 42, 44, 45] [] [5, 38, 46, 48] []) σ0 σ) : zpc (fX9_has_10 σ x0) (fun r => (zQ [3, 5, 7, 9, 11, 12, 15, 17, 19, 21, 23, 25, 27, 28, 29, 30, 32, 34, 36, 40, 42, 44, 45] [] [5, 38, 46, 48] []) σ0 (r.1)) := by
  unfold fX9_has_10
  exact zpc_if (fun _ => fu_fX9_has_26 h) (fun _ => zpc_if (fun _ => fu_fX9_has_26 h) (fun _ => fu_fX9_has_22 h))
theorem fu_fX9_has {σ0 : zSt} {σ : zSt} {x0 : Int32} (h : (zQ [3, 5, 7, 9, 11, 12, 15, 17, 19, 21, 23, 25, 27, 28, 29, 30, 32, 34, 36, 40, 42, 44, 45] [] [5, 38, 46, 48] []) σ0 σ) : zpc (fX9_has σ x0) (fun r => (zQ [3, 5, 7, 9, 11, 12, 15, 17, 19, 21, 23, 25, 27, 28, 29, 30, 32, 34, 36, 40, 42, 44, 45] [] [5, 38, 46, 48] []) σ0 (r.1)) := by
  unfold fX9_has
  exact zpc_if (fun _ => fu_fX9_has_10 h) (fun _ => zpc_if (fun _ => fu_fX9_has_22 h) (fun _ => fu_fX9_has_10 h))
theorem fu_fX9_asks_54 {σ0 : zSt} {σ : zSt} {s0 : Int32} (h : (zQ [3, 5, 7, 9, 11, 12, 15, 17, 19, 21, 23, 25, 27, 28, 29, 30, 32, 34, 36, 40, 42, 44, 45] [] [5, 38, 46, 48] []) σ0 σ) : zpc (fX9_asks_54 σ s0) (fun r => (zQ [3, 5, 7, 9, 11, 12, 15, 17, 19, 21, 23, 25, 27, 28, 29, 30, 32, 34, 36, 40, 42, 44, 45] [] [5, 38, 46, 48] []) σ0 (r.1)) := by
  unfold fX9_asks_54
  exact zpc_ck (zpc_some h)
theorem fu_fX9_asks_53 {σ0 : zSt} {σ : zSt} (h : (zQ [3, 5, 7, 9, 11, 12, 15, 17, 19, 21, 23, 25, 27, 28, 29, 30, 32, 34, 36, 40, 42, 44, 45] [] [5, 38, 46, 48] []) σ0 σ) : zpc (fX9_asks_53 σ) (fun r => (zQ [3, 5, 7, 9, 11, 12, 15, 17, 19, 21, 23, 25, 27, 28, 29, 30, 32, 34, 36, 40, 42, 44, 45] [] [5, 38, 46, 48] []) σ0 (r.1)) := by
  unfold fX9_asks_53
  exact fu_fX9_asks_54 h
theorem fu_fX9_asks_49 {σ0 : zSt} {σ : zSt} (h : (zQ [3, 5, 7, 9, 11, 12, 15, 17, 19, 21, 23, 25, 27, 28, 29, 30, 32, 34, 36, 40, 42, 44, 45] [] [5, 38, 46, 48] []) σ0 σ) : zpc (fX9_asks_49 σ) (fun r => (zQ [3, 5, 7, 9, 11, 12, 15, 17, 19, 21, 23, 25, 27, 28, 29, 30, 32, 34, 36, 40, 42, 44, 45] [] [5, 38, 46, 48] []) σ0 (r.1)) := by
  unfold fX9_asks_49
  exact fu_fX9_asks_54 h
theorem fu_fX9_asks_26 {σ0 : zSt} {σ : zSt} (h : (zQ [3, 5, 7, 9, 11, 12, 15, 17, 19, 21, 23, 25, 27, 28, 29, 30, 32, 34, 36, 40, 42, 44, 45] [] [5, 38, 46, 48] []) σ0 σ) : zpc (fX9_asks_26 σ) (fun r => (zQ [3, 5, 7, 9, 11, 12, 15, 17, 19, 21, 23, 25, 27, 28, 29, 30, 32, 34, 36, 40, 42, 44, 45] [] [5, 38, 46, 48] []) σ0 (r.1)) := by
  unfold fX9_asks_26
  exact zpc_ck (zpc_if (fun _ => fu_fX9_asks_53 h) (fun _ => zpc_ck (zpc_if (fun _ => fu_fX9_asks_49 h) (fun _ => fu_fX9_asks_53 h))))
theorem fu_fX9_asks {σ0 : zSt} {σ : zSt} (h : (zQ [3, 5, 7, 9, 11, 12, 15, 17, 19, 21, 23, 25, 27, 28, 29, 30, 32, 34, 36, 40, 42, 44, 45] [] [5, 38, 46, 48] []) σ0 σ) : zpc (fX9_asks σ) (fun r => (zQ [3, 5, 7, 9, 11, 12, 15, 17, 19, 21, 23, 25, 27, 28, 29, 30, 32, 34, 36, 40, 42, 44, 45] [] [5, 38, 46, 48] []) σ0 (r.1)) := by
  unfold fX9_asks
  exact zpc_ck (zpc_if (fun _ => fu_fX9_asks_26 h) (fun _ => zpc_ck (zpc_if (fun _ => fu_fX9_asks_26 h) (fun _ => fu_fX9_asks_49 h))))
theorem fu_fX9_value_85 {σ0 : zSt} {σ : zSt} {x1 : Int32} (h : (zQ [3, 5, 7, 9, 11, 12, 15, 17, 19, 21, 23, 25, 27, 28, 29, 30, 32, 34, 36, 40, 42, 44, 45] [] [5, 38, 46, 48] []) σ0 σ) : zpc (fX9_value_85 σ x1) (fun r => (zQ [3, 5, 7, 9, 11, 12, 15, 17, 19, 21, 23, 25, 27, 28, 29, 30, 32, 34, 36, 40, 42, 44, 45] [] [5, 38, 46, 48] []) σ0 (r.1)) := by
  unfold fX9_value_85
  exact zpc_bi (fu_fX9_held h) (fun σ1 v2 hσ1 => zpc_some hσ1)
theorem fu_fX9_value_64 {σ0 : zSt} {σ : zSt} {s0 : Int32} (h : (zQ [3, 5, 7, 9, 11, 12, 15, 17, 19, 21, 23, 25, 27, 28, 29, 30, 32, 34, 36, 40, 42, 44, 45] [] [5, 38, 46, 48] []) σ0 σ) : zpc (fX9_value_64 σ s0) (fun r => (zQ [3, 5, 7, 9, 11, 12, 15, 17, 19, 21, 23, 25, 27, 28, 29, 30, 32, 34, 36, 40, 42, 44, 45] [] [5, 38, 46, 48] []) σ0 (r.1)) := by
  unfold fX9_value_64
  exact zpc_some h
theorem fu_fX9_value {σ0 : zSt} {σ : zSt} {x1 : Int32} (h : (zQ [3, 5, 7, 9, 11, 12, 15, 17, 19, 21, 23, 25, 27, 28, 29, 30, 32, 34, 36, 40, 42, 44, 45] [] [5, 38, 46, 48] []) σ0 σ) : zpc (fX9_value σ x1) (fun r => (zQ [3, 5, 7, 9, 11, 12, 15, 17, 19, 21, 23, 25, 27, 28, 29, 30, 32, 34, 36, 40, 42, 44, 45] [] [5, 38, 46, 48] []) σ0 (r.1)) := by
  unfold fX9_value
  exact zpc_if (fun _ => zpc_bi (fu_fX9_asks h) (fun σ3 v4 hσ3 => zpc_if (fun _ => fu_fX9_value_64 hσ3) (fun _ => fu_fX9_value_64 hσ3))) (fun _ => zpc_if (fun _ => fu_fX9_value_85 h) (fun _ => zpc_if (fun _ => fu_fX9_value_85 h) (fun _ => zpc_if (fun _ => fu_fX9_value_85 h) (fun _ => zpc_if (fun _ => fu_fX9_value_85 h) (fun _ => zpc_if (fun _ => zpc_bi (fu_fX9_mode h) (fun σ5 v6 hσ5 => zpc_some hσ5)) (fun _ => zpc_if (fun _ => zpc_bi (fu_fX9_height h) (fun σ7 v8 hσ7 => zpc_some hσ7)) (fun _ => zpc_if (fun _ => zpc_bi (fu_fX9_hCount h) (fun σ9 v10 hσ9 => zpc_some hσ9)) (fun _ => zpc_if (fun _ => zpc_bi (fu_fX9_vCount h) (fun σ11 v12 hσ11 => zpc_some hσ11)) (fun _ => fu_fX9_value_85 h)))))))))
theorem fu_fX9_eightFrom_6_body {σ0 : zSt} {k6 : zSt → Int32 → Int64 → Int32 → Option (zSt × Int64)} (hk6 : ∀ (y0 : zSt) (y1 : Int32) (y2 : Int64) (y3 : Int32), (zQ [3, 5, 7, 9, 11, 12, 15, 17, 19, 21, 23, 25, 27, 28, 29, 30, 32, 34, 36, 40, 42, 44, 45] [] [5, 38, 46, 48] []) σ0 y0 → zpc (k6 y0 y1 y2 y3) (fun r => (zQ [3, 5, 7, 9, 11, 12, 15, 17, 19, 21, 23, 25, 27, 28, 29, 30, 32, 34, 36, 40, 42, 44, 45] [] [5, 38, 46, 48] []) σ0 (r.1))) {σ : zSt} {x1 : Int32} {x2 : Int64} {x4 : Int32} (h : (zQ [3, 5, 7, 9, 11, 12, 15, 17, 19, 21, 23, 25, 27, 28, 29, 30, 32, 34, 36, 40, 42, 44, 45] [] [5, 38, 46, 48] []) σ0 σ) : zpc (fX9_eightFrom_6_body k6 σ x1 x2 x4) (fun r => (zQ [3, 5, 7, 9, 11, 12, 15, 17, 19, 21, 23, 25, 27, 28, 29, 30, 32, 34, 36, 40, 42, 44, 45] [] [5, 38, 46, 48] []) σ0 (r.1)) := by
  unfold fX9_eightFrom_6_body
  exact zpc_if (fun _ => zpc_some h) (fun _ => zpc_ck (zpc_bv (fun v1 _ => zpc_bv (fun v2 _ => hk6 _ _ _ _ h))))
theorem fu_fX9_eightFrom_6 {σ0 : zSt} : ∀ (n : Nat) (y0 : zSt) (y1 : Int32) (y2 : Int64) (y3 : Int32), (zQ [3, 5, 7, 9, 11, 12, 15, 17, 19, 21, 23, 25, 27, 28, 29, 30, 32, 34, 36, 40, 42, 44, 45] [] [5, 38, 46, 48] []) σ0 y0 → zpc (fX9_eightFrom_6 n y0 y1 y2 y3) (fun r => (zQ [3, 5, 7, 9, 11, 12, 15, 17, 19, 21, 23, 25, 27, 28, 29, 30, 32, 34, 36, 40, 42, 44, 45] [] [5, 38, 46, 48] []) σ0 (r.1)) := by
  intro n
  induction n with
  | zero => intro y0 y1 y2 y3 h; exact zpc_none
  | succ n ih => intro y0 y1 y2 y3 h; exact fu_fX9_eightFrom_6_body ih h
theorem fu_fX9_eightFrom {σ0 : zSt} {σ : zSt} {x1 : Int32} (h : (zQ [3, 5, 7, 9, 11, 12, 15, 17, 19, 21, 23, 25, 27, 28, 29, 30, 32, 34, 36, 40, 42, 44, 45] [] [5, 38, 46, 48] []) σ0 σ) : zpc (fX9_eightFrom σ x1) (fun r => (zQ [3, 5, 7, 9, 11, 12, 15, 17, 19, 21, 23, 25, 27, 28, 29, 30, 32, 34, 36, 40, 42, 44, 45] [] [5, 38, 46, 48] []) σ0 (r.1)) := by
  unfold fX9_eightFrom
  exact fu_fX9_eightFrom_6 _ _ _ _ _ h
theorem fu_fX9_passes {σ0 : zSt} {σ : zSt} {x1 : Int32} (h : (zQ [3, 5, 7, 9, 11, 12, 15, 17, 19, 21, 23, 25, 27, 28, 29, 30, 32, 34, 36, 40, 42, 44, 45] [] [5, 38, 46, 48] []) σ0 σ) : zpc (fX9_passes σ x1) (fun r => (zQ [3, 5, 7, 9, 11, 12, 15, 17, 19, 21, 23, 25, 27, 28, 29, 30, 32, 34, 36, 40, 42, 44, 45] [] [5, 38, 46, 48] []) σ0 (r.1)) := by
  unfold fX9_passes
  exact zpc_ck (zpc_ck (zpc_bs (zQ.wi h rfl) (fun σ1 hσ1 => zpc_ck (zpc_if (fun _ => zpc_ck (zpc_ck (zpc_bs (zQ.wi hσ1 rfl) (fun σ2 hσ2 => zpc_ck (zpc_some hσ2))))) (fun _ => zpc_ck (zpc_some hσ1))))))
theorem fu_fX9_goesToNextLine_159 {σ0 : zSt} {σ : zSt} {x2 : Int32} (h : (zQ [3, 5, 7, 9, 11, 12, 15, 17, 19, 21, 23, 25, 27, 28, 29, 30, 32, 34, 36, 40, 42, 44, 45] [] [5, 38, 46, 48] []) σ0 σ) : zpc (fX9_goesToNextLine_159 σ x2) (fun r => (zQ [3, 5, 7, 9, 11, 12, 15, 17, 19, 21, 23, 25, 27, 28, 29, 30, 32, 34, 36, 40, 42, 44, 45] [] [5, 38, 46, 48] []) σ0 (r.1)) := by
  unfold fX9_goesToNextLine_159
  exact zpc_ck (zpc_some h)
theorem fu_fX9_goesToNextLine_133 {σ0 : zSt} {σ : zSt} {x1 : Int32} {x2 : Int32} (h : (zQ [3, 5, 7, 9, 11, 12, 15, 17, 19, 21, 23, 25, 27, 28, 29, 30, 32, 34, 36, 40, 42, 44, 45] [] [5, 38, 46, 48] []) σ0 σ) : zpc (fX9_goesToNextLine_133 σ x1 x2) (fun r => (zQ [3, 5, 7, 9, 11, 12, 15, 17, 19, 21, 23, 25, 27, 28, 29, 30, 32, 34, 36, 40, 42, 44, 45] [] [5, 38, 46, 48] []) σ0 (r.1)) := by
  unfold fX9_goesToNextLine_133
  exact zpc_ck (zpc_if (fun _ => zpc_ck (zpc_ck (zpc_bs (zQ.wi h rfl) (fun σ1 hσ1 => fu_fX9_goesToNextLine_159 hσ1)))) (fun _ => fu_fX9_goesToNextLine_159 h))
theorem fu_fX9_goesToNextLine_106 {σ0 : zSt} {σ : zSt} {x1 : Int32} {s0 : Int32} (h : (zQ [3, 5, 7, 9, 11, 12, 15, 17, 19, 21, 23, 25, 27, 28, 29, 30, 32, 34, 36, 40, 42, 44, 45] [] [5, 38, 46, 48] []) σ0 σ) : zpc (fX9_goesToNextLine_106 σ x1 s0) (fun r => (zQ [3, 5, 7, 9, 11, 12, 15, 17, 19, 21, 23, 25, 27, 28, 29, 30, 32, 34, 36, 40, 42, 44, 45] [] [5, 38, 46, 48] []) σ0 (r.1)) := by
  unfold fX9_goesToNextLine_106
  exact zpc_if (fun _ => fu_fX9_goesToNextLine_133 h) (fun _ => zpc_ck (zpc_bs (zQ.wi h rfl) (fun σ2 hσ2 => zpc_ck (zpc_ck (zpc_bs (zQ.wi hσ2 rfl) (fun σ3 hσ3 => fu_fX9_goesToNextLine_133 hσ3))))))
theorem fu_fX9_goesToNextLine_76 {σ0 : zSt} {σ : zSt} {x1 : Int32} (h : (zQ [3, 5, 7, 9, 11, 12, 15, 17, 19, 21, 23, 25, 27, 28, 29, 30, 32, 34, 36, 40, 42, 44, 45] [] [5, 38, 46, 48] []) σ0 σ) : zpc (fX9_goesToNextLine_76 σ x1) (fun r => (zQ [3, 5, 7, 9, 11, 12, 15, 17, 19, 21, 23, 25, 27, 28, 29, 30, 32, 34, 36, 40, 42, 44, 45] [] [5, 38, 46, 48] []) σ0 (r.1)) := by
  unfold fX9_goesToNextLine_76
  exact zpc_ck (zpc_ck (zpc_bs (zQ.wi h rfl) (fun σ4 hσ4 => zpc_ck (zpc_if (fun _ => fu_fX9_goesToNextLine_106 hσ4) (fun _ => fu_fX9_goesToNextLine_106 hσ4)))))
theorem fu_fX9_goesToNextLine {σ0 : zSt} {σ : zSt} (h : (zQ [3, 5, 7, 9, 11, 12, 15, 17, 19, 21, 23, 25, 27, 28, 29, 30, 32, 34, 36, 40, 42, 44, 45] [] [5, 38, 46, 48] []) σ0 σ) : zpc (fX9_goesToNextLine σ) (fun r => (zQ [3, 5, 7, 9, 11, 12, 15, 17, 19, 21, 23, 25, 27, 28, 29, 30, 32, 34, 36, 40, 42, 44, 45] [] [5, 38, 46, 48] []) σ0 (r.1)) := by
  unfold fX9_goesToNextLine
  exact zpc_bi (fu_fX9_height h) (fun σ5 v6 hσ5 => zpc_ck (zpc_if (fun _ => zpc_ck (zpc_ck (zpc_bs (zQ.wi hσ5 rfl) (fun σ7 hσ7 => zpc_ck (zpc_if (fun _ => fu_fX9_goesToNextLine_76 hσ7) (fun _ => zpc_ck (zpc_ck (zpc_bs (zQ.wi hσ7 rfl) (fun σ8 hσ8 => zpc_ck (zpc_bs (zQ.wi hσ8 rfl) (fun σ9 hσ9 => fu_fX9_goesToNextLine_76 hσ9))))))))))) (fun _ => zpc_ck (zpc_ck (zpc_bs (zQ.wi hσ5 rfl) (fun σ10 hσ10 => fu_fX9_goesToNextLine_76 hσ10))))))
theorem fu_fJ7_fill_53178_k32_5_body {σ0 : zSt} {k5 : zSt → Int32 → Int32 → Int32 → Option (zSt)} (hk5 : ∀ (y0 : zSt) (y1 : Int32) (y2 : Int32) (y3 : Int32), (zQ [3, 5, 7, 9, 11, 12, 15, 17, 19, 21, 23, 25, 27, 28, 29, 30, 32, 34, 36, 40, 42, 44, 45] [] [5, 38, 46, 48] []) σ0 y0 → zpc (k5 y0 y1 y2 y3) (fun r => (zQ [3, 5, 7, 9, 11, 12, 15, 17, 19, 21, 23, 25, 27, 28, 29, 30, 32, 34, 36, 40, 42, 44, 45] [] [5, 38, 46, 48] []) σ0 (r))) {σ : zSt} {x1 : Int32} {x2 : Int32} {x3 : Int32} (h : (zQ [3, 5, 7, 9, 11, 12, 15, 17, 19, 21, 23, 25, 27, 28, 29, 30, 32, 34, 36, 40, 42, 44, 45] [] [5, 38, 46, 48] []) σ0 σ) : zpc (fJ7_fill_53178_k32_5_body k5 σ x1 x2 x3) (fun r => (zQ [3, 5, 7, 9, 11, 12, 15, 17, 19, 21, 23, 25, 27, 28, 29, 30, 32, 34, 36, 40, 42, 44, 45] [] [5, 38, 46, 48] []) σ0 (r)) := by
  unfold fJ7_fill_53178_k32_5_body
  exact zpc_if (fun _ => zpc_some h) (fun _ => zpc_ck (zpc_bs (zQ.wi h rfl) (fun σ1 hσ1 => zpc_bv (fun v2 _ => hk5 _ _ _ _ hσ1))))
theorem fu_fJ7_fill_53178_k32_5 {σ0 : zSt} : ∀ (n : Nat) (y0 : zSt) (y1 : Int32) (y2 : Int32) (y3 : Int32), (zQ [3, 5, 7, 9, 11, 12, 15, 17, 19, 21, 23, 25, 27, 28, 29, 30, 32, 34, 36, 40, 42, 44, 45] [] [5, 38, 46, 48] []) σ0 y0 → zpc (fJ7_fill_53178_k32_5 n y0 y1 y2 y3) (fun r => (zQ [3, 5, 7, 9, 11, 12, 15, 17, 19, 21, 23, 25, 27, 28, 29, 30, 32, 34, 36, 40, 42, 44, 45] [] [5, 38, 46, 48] []) σ0 (r)) := by
  intro n
  induction n with
  | zero => intro y0 y1 y2 y3 h; exact zpc_none
  | succ n ih => intro y0 y1 y2 y3 h; exact fu_fJ7_fill_53178_k32_5_body ih h
theorem fu_fJ7_fill_53178_k32 {σ0 : zSt} {σ : zSt} {x1 : Int32} (h : (zQ [3, 5, 7, 9, 11, 12, 15, 17, 19, 21, 23, 25, 27, 28, 29, 30, 32, 34, 36, 40, 42, 44, 45] [] [5, 38, 46, 48] []) σ0 σ) : zpc (fJ7_fill_53178_k32 σ x1) (fun r => (zQ [3, 5, 7, 9, 11, 12, 15, 17, 19, 21, 23, 25, 27, 28, 29, 30, 32, 34, 36, 40, 42, 44, 45] [] [5, 38, 46, 48] []) σ0 (r)) := by
  unfold fJ7_fill_53178_k32
  exact fu_fJ7_fill_53178_k32_5 _ _ _ _ _ h
theorem fu_fX10_clear_36_body {σ0 : zSt} {k36 : zSt → Int32 → Option (zSt)} (hk36 : ∀ (y0 : zSt) (y1 : Int32), (zQ [3, 5, 7, 9, 11, 12, 15, 17, 19, 21, 23, 25, 27, 28, 29, 30, 32, 34, 36, 40, 42, 44, 45] [] [5, 38, 46, 48] []) σ0 y0 → zpc (k36 y0 y1) (fun r => (zQ [3, 5, 7, 9, 11, 12, 15, 17, 19, 21, 23, 25, 27, 28, 29, 30, 32, 34, 36, 40, 42, 44, 45] [] [5, 38, 46, 48] []) σ0 (r))) {σ : zSt} {x2 : Int32} (h : (zQ [3, 5, 7, 9, 11, 12, 15, 17, 19, 21, 23, 25, 27, 28, 29, 30, 32, 34, 36, 40, 42, 44, 45] [] [5, 38, 46, 48] []) σ0 σ) : zpc (fX10_clear_36_body k36 σ x2) (fun r => (zQ [3, 5, 7, 9, 11, 12, 15, 17, 19, 21, 23, 25, 27, 28, 29, 30, 32, 34, 36, 40, 42, 44, 45] [] [5, 38, 46, 48] []) σ0 (r)) := by
  unfold fX10_clear_36_body
  exact zpc_if (fun _ => zpc_some h) (fun _ => zpc_ck (zpc_bs (zQ.wi h rfl) (fun σ1 hσ1 => zpc_ck (zpc_bs (zQ.wi hσ1 rfl) (fun σ2 hσ2 => zpc_bv (fun v3 _ => hk36 _ _ hσ2))))))
theorem fu_fX10_clear_36 {σ0 : zSt} : ∀ (n : Nat) (y0 : zSt) (y1 : Int32), (zQ [3, 5, 7, 9, 11, 12, 15, 17, 19, 21, 23, 25, 27, 28, 29, 30, 32, 34, 36, 40, 42, 44, 45] [] [5, 38, 46, 48] []) σ0 y0 → zpc (fX10_clear_36 n y0 y1) (fun r => (zQ [3, 5, 7, 9, 11, 12, 15, 17, 19, 21, 23, 25, 27, 28, 29, 30, 32, 34, 36, 40, 42, 44, 45] [] [5, 38, 46, 48] []) σ0 (r)) := by
  intro n
  induction n with
  | zero => intro y0 y1 h; exact zpc_none
  | succ n ih => intro y0 y1 h; exact fu_fX10_clear_36_body ih h
theorem fu_fX10_clear {σ0 : zSt} {σ : zSt} (h : (zQ [3, 5, 7, 9, 11, 12, 15, 17, 19, 21, 23, 25, 27, 28, 29, 30, 32, 34, 36, 40, 42, 44, 45] [] [5, 38, 46, 48] []) σ0 σ) : zpc (fX10_clear σ) (fun r => (zQ [3, 5, 7, 9, 11, 12, 15, 17, 19, 21, 23, 25, 27, 28, 29, 30, 32, 34, 36, 40, 42, 44, 45] [] [5, 38, 46, 48] []) σ0 (r)) := by
  unfold fX10_clear
  exact zpc_ck (zpc_bv (fun v4 _ => zpc_bu (fu_fJ7_fill_53178_k32 h) (fun σ5 hσ5 => zpc_ck (zpc_bs (zQ.wi hσ5 rfl) (fun σ6 hσ6 => zpc_ck (zpc_bs (zQ.wi hσ6 rfl) (fun σ7 hσ7 => fu_fX10_clear_36 _ _ _ hσ7)))))))
theorem fu_fX10_has_37 {σ0 : zSt} {σ : zSt} {s0 : Int32} (h : (zQ [3, 5, 7, 9, 11, 12, 15, 17, 19, 21, 23, 25, 27, 28, 29, 30, 32, 34, 36, 40, 42, 44, 45] [] [5, 38, 46, 48] []) σ0 σ) : zpc (fX10_has_37 σ s0) (fun r => (zQ [3, 5, 7, 9, 11, 12, 15, 17, 19, 21, 23, 25, 27, 28, 29, 30, 32, 34, 36, 40, 42, 44, 45] [] [5, 38, 46, 48] []) σ0 (r.1)) := by
  unfold fX10_has_37
  exact zpc_ck (zpc_some h)
theorem fu_fX10_has_36 {σ0 : zSt} {σ : zSt} (h : (zQ [3, 5, 7, 9, 11, 12, 15, 17, 19, 21, 23, 25, 27, 28, 29, 30, 32, 34, 36, 40, 42, 44, 45] [] [5, 38, 46, 48] []) σ0 σ) : zpc (fX10_has_36 σ) (fun r => (zQ [3, 5, 7, 9, 11, 12, 15, 17, 19, 21, 23, 25, 27, 28, 29, 30, 32, 34, 36, 40, 42, 44, 45] [] [5, 38, 46, 48] []) σ0 (r.1)) := by
  unfold fX10_has_36
  exact fu_fX10_has_37 h
theorem fu_fX10_has_32 {σ0 : zSt} {σ : zSt} (h : (zQ [3, 5, 7, 9, 11, 12, 15, 17, 19, 21, 23, 25, 27, 28, 29, 30, 32, 34, 36, 40, 42, 44, 45] [] [5, 38, 46, 48] []) σ0 σ) : zpc (fX10_has_32 σ) (fun r => (zQ [3, 5, 7, 9, 11, 12, 15, 17, 19, 21, 23, 25, 27, 28, 29, 30, 32, 34, 36, 40, 42, 44, 45] [] [5, 38, 46, 48] []) σ0 (r.1)) := by
  unfold fX10_has_32
  exact fu_fX10_has_37 h
theorem fu_fX10_has_10 {σ0 : zSt} {σ : zSt} {x0 : Int32} (h : (zQ [3, 5, 7, 9, 11, 12, 15, 17, 19, 21, 23, 25, 27, 28, 29, 30, 32, 34, 36, 40, 42, 44, 45] [] [5, 38, 46, 48] []) σ0 σ) : zpc (fX10_has_10 σ x0) (fun r => (zQ [3, 5, 7, 9, 11, 12, 15, 17, 19, 21, 23, 25, 27, 28, 29, 30, 32, 34, 36, 40, 42, 44, 45] [] [5, 38, 46, 48] []) σ0 (r.1)) := by
  unfold fX10_has_10
  exact zpc_if (fun _ => fu_fX10_has_36 h) (fun _ => zpc_if (fun _ => fu_fX10_has_36 h) (fun _ => zpc_if (fun _ => fu_fX10_has_36 h) (fun _ => fu_fX10_has_32 h)))
theorem fu_fX10_has {σ0 : zSt} {σ : zSt} {x0 : Int32} (h : (zQ [3, 5, 7, 9, 11, 12, 15, 17, 19, 21, 23, 25, 27, 28, 29, 30, 32, 34, 36, 40, 42, 44, 45] [] [5, 38, 46, 48] []) σ0 σ) : zpc (fX10_has σ x0) (fun r => (zQ [3, 5, 7, 9, 11, 12, 15, 17, 19, 21, 23, 25, 27, 28, 29, 30, 32, 34, 36, 40, 42, 44, 45] [] [5, 38, 46, 48] []) σ0 (r.1)) := by
  unfold fX10_has
  exact zpc_if (fun _ => fu_fX10_has_10 h) (fun _ => zpc_if (fun _ => fu_fX10_has_32 h) (fun _ => fu_fX10_has_10 h))
theorem fu_fX11_clearAll {σ0 : zSt} {σ : zSt} (h : (zQ [3, 5, 7, 9, 11, 12, 15, 17, 19, 21, 23, 25, 27, 28, 29, 30, 32, 34, 36, 40, 42, 44, 45] [] [5, 38, 46, 48] []) σ0 σ) : zpc (fX11_clearAll σ) (fun r => (zQ [3, 5, 7, 9, 11, 12, 15, 17, 19, 21, 23, 25, 27, 28, 29, 30, 32, 34, 36, 40, 42, 44, 45] [] [5, 38, 46, 48] []) σ0 (r)) := by
  unfold fX11_clearAll
  exact zpc_bu (fu_fX2_clearPages h) (fun σ1 hσ1 => zpc_bu (fu_fX9_clear hσ1) (fun σ2 hσ2 => zpc_bu (fu_fX7_clear hσ2) (fun σ3 hσ3 => zpc_bu (fu_fX10_clear hσ3) (fun σ4 hσ4 => zpc_bu (fu_fX4_clear hσ4) (fun σ5 hσ5 => zpc_bu (fu_fX5_clear hσ5) (fun σ6 hσ6 => zpc_some hσ6))))))
theorem fu_fX11_endLine_62 {σ0 : zSt} {σ : zSt} (h : (zQ [3, 5, 7, 9, 11, 12, 15, 17, 19, 21, 23, 25, 27, 28, 29, 30, 32, 34, 36, 40, 42, 44, 45] [] [5, 38, 46, 48] []) σ0 σ) : zpc (fX11_endLine_62 σ) (fun r => (zQ [3, 5, 7, 9, 11, 12, 15, 17, 19, 21, 23, 25, 27, 28, 29, 30, 32, 34, 36, 40, 42, 44, 45] [] [5, 38, 46, 48] []) σ0 (r)) := by
  unfold fX11_endLine_62
  exact zpc_some h
theorem fu_fX11_endLine_26 {σ0 : zSt} {σ : zSt} (h : (zQ [3, 5, 7, 9, 11, 12, 15, 17, 19, 21, 23, 25, 27, 28, 29, 30, 32, 34, 36, 40, 42, 44, 45] [] [5, 38, 46, 48] []) σ0 σ) : zpc (fX11_endLine_26 σ) (fun r => (zQ [3, 5, 7, 9, 11, 12, 15, 17, 19, 21, 23, 25, 27, 28, 29, 30, 32, 34, 36, 40, 42, 44, 45] [] [5, 38, 46, 48] []) σ0 (r)) := by
  unfold fX11_endLine_26
  exact zpc_bi (fu_fX9_goesToNextLine h) (fun σ1 v2 hσ1 => zpc_if (fun _ => fu_fX11_endLine_62 hσ1) (fun _ => zpc_bu (fu_fX0_countPicture hσ1) (fun σ3 hσ3 => zpc_bll (fu_fX0_count hσ3) (fun σ4 v5 hσ4 => zpc_bu (fu_fX1_carryOutPlans hσ4) (fun σ6 hσ6 => fu_fX11_endLine_62 hσ6)))))
theorem fu_fX11_endLine {σ0 : zSt} {σ : zSt} (h : (zQ [3, 5, 7, 9, 11, 12, 15, 17, 19, 21, 23, 25, 27, 28, 29, 30, 32, 34, 36, 40, 42, 44, 45] [] [5, 38, 46, 48] []) σ0 σ) : zpc (fX11_endLine σ) (fun r => (zQ [3, 5, 7, 9, 11, 12, 15, 17, 19, 21, 23, 25, 27, 28, 29, 30, 32, 34, 36, 40, 42, 44, 45] [] [5, 38, 46, 48] []) σ0 (r)) := by
  unfold fX11_endLine
  exact zpc_bi (fu_fX9_held h) (fun σ7 v8 hσ7 => zpc_bi (fu_fX9_height hσ7) (fun σ9 v10 hσ9 => zpc_if (fun _ => fu_fX11_endLine_26 hσ9) (fun _ => zpc_bu (fu_fX3_draw hσ9) (fun σ11 hσ11 => fu_fX11_endLine_26 hσ11))))
theorem fu_fX11_run_135 {σ0 : zSt} {σ : zSt} {x5 : Int32} (h : (zQ [3, 5, 7, 9, 11, 12, 15, 17, 19, 21, 23, 25, 27, 28, 29, 30, 32, 34, 36, 40, 42, 44, 45] [] [5, 38, 46, 48] []) σ0 σ) : zpc (fX11_run_135 σ x5) (fun r => (zQ [3, 5, 7, 9, 11, 12, 15, 17, 19, 21, 23, 25, 27, 28, 29, 30, 32, 34, 36, 40, 42, 44, 45] [] [5, 38, 46, 48] []) σ0 (r.1)) := by
  unfold fX11_run_135
  exact zpc_some h
theorem fu_fX11_run_120 {σ0 : zSt} {k15 : zSt → Int32 → Int64 → Int32 → Option (zSt × Int32)} (hk15 : ∀ (y0 : zSt) (y1 : Int32) (y2 : Int64) (y3 : Int32), (zQ [3, 5, 7, 9, 11, 12, 15, 17, 19, 21, 23, 25, 27, 28, 29, 30, 32, 34, 36, 40, 42, 44, 45] [] [5, 38, 46, 48] []) σ0 y0 → zpc (k15 y0 y1 y2 y3) (fun r => (zQ [3, 5, 7, 9, 11, 12, 15, 17, 19, 21, 23, 25, 27, 28, 29, 30, 32, 34, 36, 40, 42, 44, 45] [] [5, 38, 46, 48] []) σ0 (r.1))) {σ : zSt} {x1 : Int32} {x3 : Int64} {x5 : Int32} {x7 : Int32} (h : (zQ [3, 5, 7, 9, 11, 12, 15, 17, 19, 21, 23, 25, 27, 28, 29, 30, 32, 34, 36, 40, 42, 44, 45] [] [5, 38, 46, 48] []) σ0 σ) : zpc (fX11_run_120 k15 σ x1 x3 x5 x7) (fun r => (zQ [3, 5, 7, 9, 11, 12, 15, 17, 19, 21, 23, 25, 27, 28, 29, 30, 32, 34, 36, 40, 42, 44, 45] [] [5, 38, 46, 48] []) σ0 (r.1)) := by
  unfold fX11_run_120
  exact zpc_bu (fu_fX0_pass h) (fun σ1 hσ1 => zpc_bv (fun v2 _ => hk15 _ _ _ _ hσ1))
theorem fu_fX11_run_104 {σ0 : zSt} {k15 : zSt → Int32 → Int64 → Int32 → Option (zSt × Int32)} (hk15 : ∀ (y0 : zSt) (y1 : Int32) (y2 : Int64) (y3 : Int32), (zQ [3, 5, 7, 9, 11, 12, 15, 17, 19, 21, 23, 25, 27, 28, 29, 30, 32, 34, 36, 40, 42, 44, 45] [] [5, 38, 46, 48] []) σ0 y0 → zpc (k15 y0 y1 y2 y3) (fun r => (zQ [3, 5, 7, 9, 11, 12, 15, 17, 19, 21, 23, 25, 27, 28, 29, 30, 32, 34, 36, 40, 42, 44, 45] [] [5, 38, 46, 48] []) σ0 (r.1))) {σ : zSt} {x1 : Int32} {x3 : Int64} {x5 : Int32} {x7 : Int32} (h : (zQ [3, 5, 7, 9, 11, 12, 15, 17, 19, 21, 23, 25, 27, 28, 29, 30, 32, 34, 36, 40, 42, 44, 45] [] [5, 38, 46, 48] []) σ0 σ) : zpc (fX11_run_104 k15 σ x1 x3 x5 x7) (fun r => (zQ [3, 5, 7, 9, 11, 12, 15, 17, 19, 21, 23, 25, 27, 28, 29, 30, 32, 34, 36, 40, 42, 44, 45] [] [5, 38, 46, 48] []) σ0 (r.1)) := by
  unfold fX11_run_104
  exact zpc_bi (fu_fX9_passes h) (fun σ3 v4 hσ3 => zpc_if (fun _ => fu_fX11_run_120 hk15 hσ3) (fun _ => zpc_bu (fu_fX11_endLine hσ3) (fun σ5 hσ5 => fu_fX11_run_120 hk15 hσ5)))
theorem fu_fX11_run_65 {σ0 : zSt} {k15 : zSt → Int32 → Int64 → Int32 → Option (zSt × Int32)} (hk15 : ∀ (y0 : zSt) (y1 : Int32) (y2 : Int64) (y3 : Int32), (zQ [3, 5, 7, 9, 11, 12, 15, 17, 19, 21, 23, 25, 27, 28, 29, 30, 32, 34, 36, 40, 42, 44, 45] [] [5, 38, 46, 48] []) σ0 y0 → zpc (k15 y0 y1 y2 y3) (fun r => (zQ [3, 5, 7, 9, 11, 12, 15, 17, 19, 21, 23, 25, 27, 28, 29, 30, 32, 34, 36, 40, 42, 44, 45] [] [5, 38, 46, 48] []) σ0 (r.1))) {σ : zSt} {x1 : Int32} {x3 : Int64} {x5 : Int32} {x6 : Int32} (h : (zQ [3, 5, 7, 9, 11, 12, 15, 17, 19, 21, 23, 25, 27, 28, 29, 30, 32, 34, 36, 40, 42, 44, 45] [] [5, 38, 46, 48] []) σ0 σ) : zpc (fX11_run_65 k15 σ x1 x3 x5 x6) (fun r => (zQ [3, 5, 7, 9, 11, 12, 15, 17, 19, 21, 23, 25, 27, 28, 29, 30, 32, 34, 36, 40, 42, 44, 45] [] [5, 38, 46, 48] []) σ0 (r.1)) := by
  unfold fX11_run_65
  exact zpc_bu (fu_fX1_noteStep h) (fun σ6 hσ6 => zpc_bi (fu_fX9_asks hσ6) (fun σ7 v8 hσ7 => zpc_bi (fu_fX5_answerCalls hσ7) (fun σ9 v10 hσ9 => zpc_if (fun _ => zpc_bi (fu_fX5_carryOn hσ9) (fun σ11 v12 hσ11 => fu_fX11_run_104 hk15 hσ11)) (fun _ => fu_fX11_run_104 hk15 hσ9))))
theorem fu_fX11_run_15_body {σ0 : zSt} {k15 : zSt → Int32 → Int64 → Int32 → Option (zSt × Int32)} (hk15 : ∀ (y0 : zSt) (y1 : Int32) (y2 : Int64) (y3 : Int32), (zQ [3, 5, 7, 9, 11, 12, 15, 17, 19, 21, 23, 25, 27, 28, 29, 30, 32, 34, 36, 40, 42, 44, 45] [] [5, 38, 46, 48] []) σ0 y0 → zpc (k15 y0 y1 y2 y3) (fun r => (zQ [3, 5, 7, 9, 11, 12, 15, 17, 19, 21, 23, 25, 27, 28, 29, 30, 32, 34, 36, 40, 42, 44, 45] [] [5, 38, 46, 48] []) σ0 (r.1))) {σ : zSt} {x1 : Int32} {x3 : Int64} {x5 : Int32} (h : (zQ [3, 5, 7, 9, 11, 12, 15, 17, 19, 21, 23, 25, 27, 28, 29, 30, 32, 34, 36, 40, 42, 44, 45] [] [5, 38, 46, 48] []) σ0 σ) : zpc (fX11_run_15_body k15 σ x1 x3 x5) (fun r => (zQ [3, 5, 7, 9, 11, 12, 15, 17, 19, 21, 23, 25, 27, 28, 29, 30, 32, 34, 36, 40, 42, 44, 45] [] [5, 38, 46, 48] []) σ0 (r.1)) := by
  unfold fX11_run_15_body
  exact zpc_if (fun _ => fu_fX11_run_135 h) (fun _ => zpc_bll (fu_fX0_count h) (fun σ13 v14 hσ13 => zpc_if (fun _ => fu_fX11_run_135 hσ13) (fun _ => zpc_bi (fu_fX5_value hσ13) (fun σ15 v16 hσ15 => zpc_if (fun _ => fu_fX11_run_65 hk15 hσ15) (fun _ => zpc_bi (fu_fX1_isStop hσ15) (fun σ17 v18 hσ17 => zpc_if (fun _ => fu_fX11_run_65 hk15 hσ17) (fun _ => fu_fX11_run_135 hσ17)))))))
theorem fu_fX11_run_15 {σ0 : zSt} : ∀ (n : Nat) (y0 : zSt) (y1 : Int32) (y2 : Int64) (y3 : Int32), (zQ [3, 5, 7, 9, 11, 12, 15, 17, 19, 21, 23, 25, 27, 28, 29, 30, 32, 34, 36, 40, 42, 44, 45] [] [5, 38, 46, 48] []) σ0 y0 → zpc (fX11_run_15 n y0 y1 y2 y3) (fun r => (zQ [3, 5, 7, 9, 11, 12, 15, 17, 19, 21, 23, 25, 27, 28, 29, 30, 32, 34, 36, 40, 42, 44, 45] [] [5, 38, 46, 48] []) σ0 (r.1)) := by
  intro n
  induction n with
  | zero => intro y0 y1 y2 y3 h; exact zpc_none
  | succ n ih => intro y0 y1 y2 y3 h; exact fu_fX11_run_15_body ih h
theorem fu_fX11_run {σ0 : zSt} {σ : zSt} {x1 : Int32} {x2 : Int32} (h : (zQ [3, 5, 7, 9, 11, 12, 15, 17, 19, 21, 23, 25, 27, 28, 29, 30, 32, 34, 36, 40, 42, 44, 45] [] [5, 38, 46, 48] []) σ0 σ) : zpc (fX11_run σ x1 x2) (fun r => (zQ [3, 5, 7, 9, 11, 12, 15, 17, 19, 21, 23, 25, 27, 28, 29, 30, 32, 34, 36, 40, 42, 44, 45] [] [5, 38, 46, 48] []) σ0 (r.1)) := by
  unfold fX11_run
  exact zpc_bll (fu_fX0_count h) (fun σ19 v20 hσ19 => zpc_bv (fun v21 _ => fu_fX11_run_15 _ _ _ _ _ hσ19))
theorem fu_fX11_reset {σ0 : zSt} {σ : zSt} (h : (zQ [3, 5, 7, 9, 11, 12, 15, 17, 19, 21, 23, 25, 27, 28, 29, 30, 32, 34, 36, 40, 42, 44, 45] [] [5, 38, 46, 48] []) σ0 σ) : zpc (fX11_reset σ) (fun r => (zQ [3, 5, 7, 9, 11, 12, 15, 17, 19, 21, 23, 25, 27, 28, 29, 30, 32, 34, 36, 40, 42, 44, 45] [] [5, 38, 46, 48] []) σ0 (r)) := by
  unfold fX11_reset
  exact zpc_bu (fu_fX11_clearAll h) (fun σ1 hσ1 => zpc_some hσ1)
theorem fu_fX11_pause_26 {σ0 : zSt} {σ : zSt} {s0 : Int32} (h : (zQ [3, 5, 7, 9, 11, 12, 15, 17, 19, 21, 23, 25, 27, 28, 29, 30, 32, 34, 36, 40, 42, 44, 45] [] [5, 38, 46, 48] []) σ0 σ) : zpc (fX11_pause_26 σ s0) (fun r => (zQ [3, 5, 7, 9, 11, 12, 15, 17, 19, 21, 23, 25, 27, 28, 29, 30, 32, 34, 36, 40, 42, 44, 45] [] [5, 38, 46, 48] []) σ0 (r.1)) := by
  unfold fX11_pause_26
  exact zpc_ck (zpc_some h)
theorem fu_fX11_pause_14 {σ0 : zSt} {σ : zSt} (h : (zQ [3, 5, 7, 9, 11, 12, 15, 17, 19, 21, 23, 25, 27, 28, 29, 30, 32, 34, 36, 40, 42, 44, 45] [] [5, 38, 46, 48] []) σ0 σ) : zpc (fX11_pause_14 σ) (fun r => (zQ [3, 5, 7, 9, 11, 12, 15, 17, 19, 21, 23, 25, 27, 28, 29, 30, 32, 34, 36, 40, 42, 44, 45] [] [5, 38, 46, 48] []) σ0 (r.1)) := by
  unfold fX11_pause_14
  exact zpc_if (fun _ => fu_fX11_pause_26 h) (fun _ => fu_fX11_pause_26 h)
theorem fu_fX11_pause {σ0 : zSt} {σ : zSt} (h : (zQ [3, 5, 7, 9, 11, 12, 15, 17, 19, 21, 23, 25, 27, 28, 29, 30, 32, 34, 36, 40, 42, 44, 45] [] [5, 38, 46, 48] []) σ0 σ) : zpc (fX11_pause σ) (fun r => (zQ [3, 5, 7, 9, 11, 12, 15, 17, 19, 21, 23, 25, 27, 28, 29, 30, 32, 34, 36, 40, 42, 44, 45] [] [5, 38, 46, 48] []) σ0 (r.1)) := by
  unfold fX11_pause
  exact zpc_if (fun _ => zpc_bu (fu_fX5_askForPause h) (fun σ1 hσ1 => fu_fX11_pause_14 hσ1)) (fun _ => fu_fX11_pause_14 h)
theorem fu_fX11_start {σ0 : zSt} {σ : zSt} {x1 : Int32} (h : (zQ [3, 5, 7, 9, 11, 12, 15, 17, 19, 21, 23, 25, 27, 28, 29, 30, 32, 34, 36, 40, 42, 44, 45] [] [5, 38, 46, 48] []) σ0 σ) : zpc (fX11_start σ x1) (fun r => (zQ [3, 5, 7, 9, 11, 12, 15, 17, 19, 21, 23, 25, 27, 28, 29, 30, 32, 34, 36, 40, 42, 44, 45] [] [5, 38, 46, 48] []) σ0 (r)) := by
  unfold fX11_start
  exact zpc_bu (fu_fX4_holdStart h) (fun σ1 hσ1 => zpc_some hσ1)
theorem fu_fX11_peek {σ0 : zSt} {σ : zSt} {x1 : Int32} (h : (zQ [3, 5, 7, 9, 11, 12, 15, 17, 19, 21, 23, 25, 27, 28, 29, 30, 32, 34, 36, 40, 42, 44, 45] [] [5, 38, 46, 48] []) σ0 σ) : zpc (fX11_peek σ x1) (fun r => (zQ [3, 5, 7, 9, 11, 12, 15, 17, 19, 21, 23, 25, 27, 28, 29, 30, 32, 34, 36, 40, 42, 44, 45] [] [5, 38, 46, 48] []) σ0 (r.1)) := by
  unfold fX11_peek
  exact zpc_bi (fu_fX2_read h) (fun σ1 v2 hσ1 => zpc_some hσ1)
theorem fu_fX11_poke {σ0 : zSt} {σ : zSt} {x1 : Int32} {x2 : Int32} (h : (zQ [3, 5, 7, 9, 11, 12, 15, 17, 19, 21, 23, 25, 27, 28, 29, 30, 32, 34, 36, 40, 42, 44, 45] [] [5, 38, 46, 48] []) σ0 σ) : zpc (fX11_poke σ x1 x2) (fun r => (zQ [3, 5, 7, 9, 11, 12, 15, 17, 19, 21, 23, 25, 27, 28, 29, 30, 32, 34, 36, 40, 42, 44, 45] [] [5, 38, 46, 48] []) σ0 (r)) := by
  unfold fX11_poke
  exact zpc_bu (fu_fX2_write h) (fun σ1 hσ1 => zpc_some hσ1)
theorem fu_fX11_in {σ0 : zSt} {σ : zSt} {x1 : Int32} (h : (zQ [3, 5, 7, 9, 11, 12, 15, 17, 19, 21, 23, 25, 27, 28, 29, 30, 32, 34, 36, 40, 42, 44, 45] [] [5, 38, 46, 48] []) σ0 σ) : zpc (fX11_in σ x1) (fun r => (zQ [3, 5, 7, 9, 11, 12, 15, 17, 19, 21, 23, 25, 27, 28, 29, 30, 32, 34, 36, 40, 42, 44, 45] [] [5, 38, 46, 48] []) σ0 (r.1)) := by
  unfold fX11_in
  exact zpc_bi (fu_fX4_read h) (fun σ1 v2 hσ1 => zpc_some hσ1)
theorem fu_fX11_out {σ0 : zSt} {σ : zSt} {x1 : Int32} {x2 : Int32} (h : (zQ [3, 5, 7, 9, 11, 12, 15, 17, 19, 21, 23, 25, 27, 28, 29, 30, 32, 34, 36, 40, 42, 44, 45] [] [5, 38, 46, 48] []) σ0 σ) : zpc (fX11_out σ x1 x2) (fun r => (zQ [3, 5, 7, 9, 11, 12, 15, 17, 19, 21, 23, 25, 27, 28, 29, 30, 32, 34, 36, 40, 42, 44, 45] [] [5, 38, 46, 48] []) σ0 (r)) := by
  unfold fX11_out
  exact zpc_bu (fu_fX4_write h) (fun σ1 hσ1 => zpc_some hσ1)
theorem fu_fX11_wipe {σ0 : zSt} {σ : zSt} (h : (zQ [3, 5, 7, 9, 11, 12, 15, 17, 19, 21, 23, 25, 27, 28, 29, 30, 32, 34, 36, 40, 42, 44, 45] [] [5, 38, 46, 48] []) σ0 σ) : zpc (fX11_wipe σ) (fun r => (zQ [3, 5, 7, 9, 11, 12, 15, 17, 19, 21, 23, 25, 27, 28, 29, 30, 32, 34, 36, 40, 42, 44, 45] [] [5, 38, 46, 48] []) σ0 (r)) := by
  unfold fX11_wipe
  exact zpc_bu (fu_fX2_clearBattery h) (fun σ1 hσ1 => zpc_some hσ1)
theorem fu_fX11_video {σ0 : zSt} {σ : zSt} {x1 : Int32} (h : (zQ [3, 5, 7, 9, 11, 12, 15, 17, 19, 21, 23, 25, 27, 28, 29, 30, 32, 34, 36, 40, 42, 44, 45] [] [5, 38, 46, 48] []) σ0 σ) : zpc (fX11_video σ x1) (fun r => (zQ [3, 5, 7, 9, 11, 12, 15, 17, 19, 21, 23, 25, 27, 28, 29, 30, 32, 34, 36, 40, 42, 44, 45] [] [5, 38, 46, 48] []) σ0 (r.1)) := by
  unfold fX11_video
  exact zpc_bll (fu_fX9_eightFrom h) (fun σ1 v2 hσ1 => zpc_some hσ1)
theorem fu_fX11_trace {σ0 : zSt} {σ : zSt} {x1 : Int32} (h : (zQ [3, 5, 7, 9, 11, 12, 15, 17, 19, 21, 23, 25, 27, 28, 29, 30, 32, 34, 36, 40, 42, 44, 45] [] [5, 38, 46, 48] []) σ0 σ) : zpc (fX11_trace σ x1) (fun r => (zQ [3, 5, 7, 9, 11, 12, 15, 17, 19, 21, 23, 25, 27, 28, 29, 30, 32, 34, 36, 40, 42, 44, 45] [] [5, 38, 46, 48] []) σ0 (r.1)) := by
  unfold fX11_trace
  exact zpc_bi (fu_fX1_stepBack h) (fun σ1 v2 hσ1 => zpc_some hσ1)
theorem fu_fX11_card_10 {σ0 : zSt} {σ : zSt} (h : (zQ [3, 5, 7, 9, 11, 12, 15, 17, 19, 21, 23, 25, 27, 28, 29, 30, 32, 34, 36, 40, 42, 44, 45] [] [5, 38, 46, 48] []) σ0 σ) : zpc (fX11_card_10 σ) (fun r => (zQ [3, 5, 7, 9, 11, 12, 15, 17, 19, 21, 23, 25, 27, 28, 29, 30, 32, 34, 36, 40, 42, 44, 45] [] [5, 38, 46, 48] []) σ0 (zRis r)) := by
  unfold fX11_card_10
  exact zpc_some h
theorem fu_fX11_card {σ0 : zSt} {σ : zSt} {x1 : Int32} (h : (zQ [3, 5, 7, 9, 11, 12, 15, 17, 19, 21, 23, 25, 27, 28, 29, 30, 32, 34, 36, 40, 42, 44, 45] [] [5, 38, 46, 48] []) σ0 σ) : zpc (fX11_card σ x1) (fun r => (zQ [3, 5, 7, 9, 11, 12, 15, 17, 19, 21, 23, 25, 27, 28, 29, 30, 32, 34, 36, 40, 42, 44, 45] [] [5, 38, 46, 48] []) σ0 (zRis r)) := by
  unfold fX11_card
  exact zpc_if (fun _ => fu_fX11_card_10 h) (fun _ => zpc_if (fun _ => zpc_bi (fu_fX2_aboutCard h) (fun σ1 v2 hσ1 => zpc_some hσ1)) (fun _ => fu_fX11_card_10 h))
theorem fu_fX11_step_12 {σ0 : zSt} {σ : zSt} (h : (zQ [3, 5, 7, 9, 11, 12, 15, 17, 19, 21, 23, 25, 27, 28, 29, 30, 32, 34, 36, 40, 42, 44, 45] [] [5, 38, 46, 48] []) σ0 σ) : zpc (fX11_step_12 σ) (fun r => (zQ [3, 5, 7, 9, 11, 12, 15, 17, 19, 21, 23, 25, 27, 28, 29, 30, 32, 34, 36, 40, 42, 44, 45] [] [5, 38, 46, 48] []) σ0 (zRis r)) := by
  unfold fX11_step_12
  exact zpc_some h
theorem fu_fX11_step {σ0 : zSt} {σ : zSt} {x1 : Int32} (h : (zQ [3, 5, 7, 9, 11, 12, 15, 17, 19, 21, 23, 25, 27, 28, 29, 30, 32, 34, 36, 40, 42, 44, 45] [] [5, 38, 46, 48] []) σ0 σ) : zpc (fX11_step σ x1) (fun r => (zQ [3, 5, 7, 9, 11, 12, 15, 17, 19, 21, 23, 25, 27, 28, 29, 30, 32, 34, 36, 40, 42, 44, 45] [] [5, 38, 46, 48] []) σ0 (zRis r)) := by
  unfold fX11_step
  exact zpc_if (fun _ => fu_fX11_step_12 h) (fun _ => zpc_if (fun _ => zpc_bi (fu_fX11_run h) (fun σ1 v2 hσ1 => zpc_some hσ1)) (fun _ => fu_fX11_step_12 h))
theorem fu_fX11_picture_10 {σ0 : zSt} {σ : zSt} (h : (zQ [3, 5, 7, 9, 11, 12, 15, 17, 19, 21, 23, 25, 27, 28, 29, 30, 32, 34, 36, 40, 42, 44, 45] [] [5, 38, 46, 48] []) σ0 σ) : zpc (fX11_picture_10 σ) (fun r => (zQ [3, 5, 7, 9, 11, 12, 15, 17, 19, 21, 23, 25, 27, 28, 29, 30, 32, 34, 36, 40, 42, 44, 45] [] [5, 38, 46, 48] []) σ0 (zRis r)) := by
  unfold fX11_picture_10
  exact zpc_some h
theorem fu_fX11_picture {σ0 : zSt} {σ : zSt} {x1 : Int32} (h : (zQ [3, 5, 7, 9, 11, 12, 15, 17, 19, 21, 23, 25, 27, 28, 29, 30, 32, 34, 36, 40, 42, 44, 45] [] [5, 38, 46, 48] []) σ0 σ) : zpc (fX11_picture σ x1) (fun r => (zQ [3, 5, 7, 9, 11, 12, 15, 17, 19, 21, 23, 25, 27, 28, 29, 30, 32, 34, 36, 40, 42, 44, 45] [] [5, 38, 46, 48] []) σ0 (zRis r)) := by
  unfold fX11_picture
  exact zpc_if (fun _ => fu_fX11_picture_10 h) (fun _ => zpc_if (fun _ => zpc_bi (fu_fX11_run h) (fun σ1 v2 hσ1 => zpc_some hσ1)) (fun _ => fu_fX11_picture_10 h))
theorem fu_fX11_press {σ0 : zSt} {σ : zSt} {x1 : Int32} {x2 : Int32} (h : (zQ [3, 5, 7, 9, 11, 12, 15, 17, 19, 21, 23, 25, 27, 28, 29, 30, 32, 34, 36, 40, 42, 44, 45] [] [5, 38, 46, 48] []) σ0 σ) : zpc (fX11_press σ x1 x2) (fun r => (zQ [3, 5, 7, 9, 11, 12, 15, 17, 19, 21, 23, 25, 27, 28, 29, 30, 32, 34, 36, 40, 42, 44, 45] [] [5, 38, 46, 48] []) σ0 (zRus r)) := by
  unfold fX11_press
  exact zpc_bi (fu_fX4_canPress h) (fun σ1 v2 hσ1 => zpc_if (fun _ => zpc_some hσ1) (fun _ => zpc_bu (fu_fX4_holdButtons hσ1) (fun σ3 hσ3 => zpc_some hσ3)))
theorem fu_fX11_line_9 {σ0 : zSt} {σ : zSt} (h : (zQ [3, 5, 7, 9, 11, 12, 15, 17, 19, 21, 23, 25, 27, 28, 29, 30, 32, 34, 36, 40, 42, 44, 45] [] [5, 38, 46, 48] []) σ0 σ) : zpc (fX11_line_9 σ) (fun r => (zQ [3, 5, 7, 9, 11, 12, 15, 17, 19, 21, 23, 25, 27, 28, 29, 30, 32, 34, 36, 40, 42, 44, 45] [] [5, 38, 46, 48] []) σ0 (zRus r)) := by
  unfold fX11_line_9
  exact zpc_some h
theorem fu_fX11_line {σ0 : zSt} {σ : zSt} {x1 : Int32} {x2 : Int32} (h : (zQ [3, 5, 7, 9, 11, 12, 15, 17, 19, 21, 23, 25, 27, 28, 29, 30, 32, 34, 36, 40, 42, 44, 45] [] [5, 38, 46, 48] []) σ0 σ) : zpc (fX11_line σ x1 x2) (fun r => (zQ [3, 5, 7, 9, 11, 12, 15, 17, 19, 21, 23, 25, 27, 28, 29, 30, 32, 34, 36, 40, 42, 44, 45] [] [5, 38, 46, 48] []) σ0 (zRus r)) := by
  unfold fX11_line
  exact zpc_if (fun _ => fu_fX11_line_9 h) (fun _ => zpc_if (fun _ => zpc_bu (fu_fX4_moveLine h) (fun σ1 hσ1 => zpc_some hσ1)) (fun _ => fu_fX11_line_9 h))
theorem fu_fX11_plan_19 {σ0 : zSt} {σ : zSt} (h : (zQ [3, 5, 7, 9, 11, 12, 15, 17, 19, 21, 23, 25, 27, 28, 29, 30, 32, 34, 36, 40, 42, 44, 45] [] [5, 38, 46, 48] []) σ0 σ) : zpc (fX11_plan_19 σ) (fun r => (zQ [3, 5, 7, 9, 11, 12, 15, 17, 19, 21, 23, 25, 27, 28, 29, 30, 32, 34, 36, 40, 42, 44, 45] [] [5, 38, 46, 48] []) σ0 (zRis r)) := by
  unfold fX11_plan_19
  exact zpc_some h
theorem fu_fX11_plan {σ0 : zSt} {σ : zSt} {x1 : Int32} {x2 : Int32} {x3 : Int32} (h : (zQ [3, 5, 7, 9, 11, 12, 15, 17, 19, 21, 23, 25, 27, 28, 29, 30, 32, 34, 36, 40, 42, 44, 45] [] [5, 38, 46, 48] []) σ0 σ) : zpc (fX11_plan σ x1 x2 x3) (fun r => (zQ [3, 5, 7, 9, 11, 12, 15, 17, 19, 21, 23, 25, 27, 28, 29, 30, 32, 34, 36, 40, 42, 44, 45] [] [5, 38, 46, 48] []) σ0 (zRis r)) := by
  unfold fX11_plan
  exact zpc_bi (fu_fX1_leastPlan h) (fun σ1 v2 hσ1 => zpc_if (fun _ => fu_fX11_plan_19 hσ1) (fun _ => zpc_bi (fu_fX4_canPress hσ1) (fun σ3 v4 hσ3 => zpc_if (fun _ => fu_fX11_plan_19 hσ3) (fun _ => zpc_bi (fu_fX1_plansWaiting hσ3) (fun σ5 v6 hσ5 => zpc_if (fun _ => zpc_bi (fu_fX1_addPlan hσ5) (fun σ7 v8 hσ7 => zpc_some hσ7)) (fun _ => zpc_some hσ5))))))
theorem fu_fX11_text_15 {σ0 : zSt} {σ : zSt} (h : (zQ [3, 5, 7, 9, 11, 12, 15, 17, 19, 21, 23, 25, 27, 28, 29, 30, 32, 34, 36, 40, 42, 44, 45] [] [5, 38, 46, 48] []) σ0 σ) : zpc (fX11_text_15 σ) (fun r => (zQ [3, 5, 7, 9, 11, 12, 15, 17, 19, 21, 23, 25, 27, 28, 29, 30, 32, 34, 36, 40, 42, 44, 45] [] [5, 38, 46, 48] []) σ0 (zRls r)) := by
  unfold fX11_text_15
  exact zpc_some h
theorem fu_fX11_text {σ0 : zSt} {σ : zSt} {x1 : Int32} (h : (zQ [3, 5, 7, 9, 11, 12, 15, 17, 19, 21, 23, 25, 27, 28, 29, 30, 32, 34, 36, 40, 42, 44, 45] [] [5, 38, 46, 48] []) σ0 σ) : zpc (fX11_text σ x1) (fun r => (zQ [3, 5, 7, 9, 11, 12, 15, 17, 19, 21, 23, 25, 27, 28, 29, 30, 32, 34, 36, 40, 42, 44, 45] [] [5, 38, 46, 48] []) σ0 (zRls r)) := by
  unfold fX11_text
  exact zpc_if (fun _ => fu_fX11_text_15 h) (fun _ => zpc_if (fun _ => zpc_bll (fu_fX8_eightFrom h) (fun σ1 v2 hσ1 => zpc_some hσ1)) (fun _ => fu_fX11_text_15 h))
theorem fu_fX11_stop_10 {σ0 : zSt} {σ : zSt} (h : (zQ [3, 5, 7, 9, 11, 12, 15, 17, 19, 21, 23, 25, 27, 28, 29, 30, 32, 34, 36, 40, 42, 44, 45] [] [5, 38, 46, 48] []) σ0 σ) : zpc (fX11_stop_10 σ) (fun r => (zQ [3, 5, 7, 9, 11, 12, 15, 17, 19, 21, 23, 25, 27, 28, 29, 30, 32, 34, 36, 40, 42, 44, 45] [] [5, 38, 46, 48] []) σ0 (zRis r)) := by
  unfold fX11_stop_10
  exact zpc_some h
theorem fu_fX11_stop {σ0 : zSt} {σ : zSt} {x1 : Int32} {x2 : Int32} (h : (zQ [3, 5, 7, 9, 11, 12, 15, 17, 19, 21, 23, 25, 27, 28, 29, 30, 32, 34, 36, 40, 42, 44, 45] [] [5, 38, 46, 48] []) σ0 σ) : zpc (fX11_stop σ x1 x2) (fun r => (zQ [3, 5, 7, 9, 11, 12, 15, 17, 19, 21, 23, 25, 27, 28, 29, 30, 32, 34, 36, 40, 42, 44, 45] [] [5, 38, 46, 48] []) σ0 (zRis r)) := by
  unfold fX11_stop
  exact zpc_if (fun _ => fu_fX11_stop_10 h) (fun _ => zpc_if (fun _ => zpc_bi (fu_fX1_stopsBeside h) (fun σ1 v2 hσ1 => zpc_if (fun _ => zpc_bi (fu_fX1_changeStop hσ1) (fun σ3 v4 hσ3 => zpc_some hσ3)) (fun _ => zpc_some hσ1))) (fun _ => fu_fX11_stop_10 h))
theorem fu_fX11_register_10 {σ0 : zSt} {σ : zSt} (h : (zQ [3, 5, 7, 9, 11, 12, 15, 17, 19, 21, 23, 25, 27, 28, 29, 30, 32, 34, 36, 40, 42, 44, 45] [] [5, 38, 46, 48] []) σ0 σ) : zpc (fX11_register_10 σ) (fun r => (zQ [3, 5, 7, 9, 11, 12, 15, 17, 19, 21, 23, 25, 27, 28, 29, 30, 32, 34, 36, 40, 42, 44, 45] [] [5, 38, 46, 48] []) σ0 (zRis r)) := by
  unfold fX11_register_10
  exact zpc_some h
theorem fu_fX11_register {σ0 : zSt} {σ : zSt} {x1 : Int32} (h : (zQ [3, 5, 7, 9, 11, 12, 15, 17, 19, 21, 23, 25, 27, 28, 29, 30, 32, 34, 36, 40, 42, 44, 45] [] [5, 38, 46, 48] []) σ0 σ) : zpc (fX11_register σ x1) (fun r => (zQ [3, 5, 7, 9, 11, 12, 15, 17, 19, 21, 23, 25, 27, 28, 29, 30, 32, 34, 36, 40, 42, 44, 45] [] [5, 38, 46, 48] []) σ0 (zRis r)) := by
  unfold fX11_register
  exact zpc_if (fun _ => fu_fX11_register_10 h) (fun _ => zpc_if (fun _ => zpc_bi (fu_fX5_value h) (fun σ1 v2 hσ1 => zpc_some hσ1)) (fun _ => fu_fX11_register_10 h))
theorem fu_fX11_set_10 {σ0 : zSt} {σ : zSt} (h : (zQ [3, 5, 7, 9, 11, 12, 15, 17, 19, 21, 23, 25, 27, 28, 29, 30, 32, 34, 36, 40, 42, 44, 45] [] [5, 38, 46, 48] []) σ0 σ) : zpc (fX11_set_10 σ) (fun r => (zQ [3, 5, 7, 9, 11, 12, 15, 17, 19, 21, 23, 25, 27, 28, 29, 30, 32, 34, 36, 40, 42, 44, 45] [] [5, 38, 46, 48] []) σ0 (zRus r)) := by
  unfold fX11_set_10
  exact zpc_some h
theorem fu_fX11_set {σ0 : zSt} {σ : zSt} {x1 : Int32} {x2 : Int32} (h : (zQ [3, 5, 7, 9, 11, 12, 15, 17, 19, 21, 23, 25, 27, 28, 29, 30, 32, 34, 36, 40, 42, 44, 45] [] [5, 38, 46, 48] []) σ0 σ) : zpc (fX11_set σ x1 x2) (fun r => (zQ [3, 5, 7, 9, 11, 12, 15, 17, 19, 21, 23, 25, 27, 28, 29, 30, 32, 34, 36, 40, 42, 44, 45] [] [5, 38, 46, 48] []) σ0 (zRus r)) := by
  unfold fX11_set
  exact zpc_if (fun _ => fu_fX11_set_10 h) (fun _ => zpc_if (fun _ => zpc_bu (fu_fX5_change h) (fun σ1 hσ1 => zpc_some hσ1)) (fun _ => fu_fX11_set_10 h))
theorem fu_fX11_battery_11 {σ0 : zSt} {σ : zSt} (h : (zQ [3, 5, 7, 9, 11, 12, 15, 17, 19, 21, 23, 25, 27, 28, 29, 30, 32, 34, 36, 40, 42, 44, 45] [] [5, 38, 46, 48] []) σ0 σ) : zpc (fX11_battery_11 σ) (fun r => (zQ [3, 5, 7, 9, 11, 12, 15, 17, 19, 21, 23, 25, 27, 28, 29, 30, 32, 34, 36, 40, 42, 44, 45] [] [5, 38, 46, 48] []) σ0 (zRis r)) := by
  unfold fX11_battery_11
  exact zpc_some h
theorem fu_fX11_battery {σ0 : zSt} {σ : zSt} {x1 : Int32} (h : (zQ [3, 5, 7, 9, 11, 12, 15, 17, 19, 21, 23, 25, 27, 28, 29, 30, 32, 34, 36, 40, 42, 44, 45] [] [5, 38, 46, 48] []) σ0 σ) : zpc (fX11_battery σ x1) (fun r => (zQ [3, 5, 7, 9, 11, 12, 15, 17, 19, 21, 23, 25, 27, 28, 29, 30, 32, 34, 36, 40, 42, 44, 45] [] [5, 38, 46, 48] []) σ0 (zRis r)) := by
  unfold fX11_battery
  exact zpc_if (fun _ => fu_fX11_battery_11 h) (fun _ => zpc_if (fun _ => zpc_bi (fu_fX2_batteryByte h) (fun σ1 v2 hσ1 => zpc_some hσ1)) (fun _ => fu_fX11_battery_11 h))
theorem fu_fX11_chip {σ0 : zSt} {σ : zSt} {x1 : Int32} (h : (zQ [3, 5, 7, 9, 11, 12, 15, 17, 19, 21, 23, 25, 27, 28, 29, 30, 32, 34, 36, 40, 42, 44, 45] [] [5, 38, 46, 48] []) σ0 σ) : zpc (fX11_chip σ x1) (fun r => (zQ [3, 5, 7, 9, 11, 12, 15, 17, 19, 21, 23, 25, 27, 28, 29, 30, 32, 34, 36, 40, 42, 44, 45] [] [5, 38, 46, 48] []) σ0 (zRis r)) := by
  unfold fX11_chip
  exact zpc_bi (fu_fX9_has h) (fun σ1 v2 hσ1 => zpc_if (fun _ => zpc_some hσ1) (fun _ => zpc_bi (fu_fX9_value hσ1) (fun σ3 v4 hσ3 => zpc_some hσ3)))
theorem fu_fX11_dot_30 {σ0 : zSt} {σ : zSt} (h : (zQ [3, 5, 7, 9, 11, 12, 15, 17, 19, 21, 23, 25, 27, 28, 29, 30, 32, 34, 36, 40, 42, 44, 45] [] [5, 38, 46, 48] []) σ0 σ) : zpc (fX11_dot_30 σ) (fun r => (zQ [3, 5, 7, 9, 11, 12, 15, 17, 19, 21, 23, 25, 27, 28, 29, 30, 32, 34, 36, 40, 42, 44, 45] [] [5, 38, 46, 48] []) σ0 (zRis r)) := by
  unfold fX11_dot_30
  exact zpc_some h
theorem fu_fX11_dot {σ0 : zSt} {σ : zSt} {x1 : Int32} {x2 : Int32} (h : (zQ [3, 5, 7, 9, 11, 12, 15, 17, 19, 21, 23, 25, 27, 28, 29, 30, 32, 34, 36, 40, 42, 44, 45] [] [5, 38, 46, 48] []) σ0 σ) : zpc (fX11_dot σ x1 x2) (fun r => (zQ [3, 5, 7, 9, 11, 12, 15, 17, 19, 21, 23, 25, 27, 28, 29, 30, 32, 34, 36, 40, 42, 44, 45] [] [5, 38, 46, 48] []) σ0 (zRis r)) := by
  unfold fX11_dot
  exact zpc_if (fun _ => fu_fX11_dot_30 h) (fun _ => zpc_bi (fu_fX3_width h) (fun σ1 v2 hσ1 => zpc_if (fun _ => fu_fX11_dot_30 hσ1) (fun _ => zpc_if (fun _ => fu_fX11_dot_30 hσ1) (fun _ => zpc_bi (fu_fX3_height hσ1) (fun σ3 v4 hσ3 => zpc_if (fun _ => zpc_bi (fu_fX3_dotAt hσ3) (fun σ5 v6 hσ5 => zpc_some hσ5)) (fun _ => fu_fX11_dot_30 hσ3))))))
theorem fu_fX11_row_15 {σ0 : zSt} {σ : zSt} (h : (zQ [3, 5, 7, 9, 11, 12, 15, 17, 19, 21, 23, 25, 27, 28, 29, 30, 32, 34, 36, 40, 42, 44, 45] [] [5, 38, 46, 48] []) σ0 σ) : zpc (fX11_row_15 σ) (fun r => (zQ [3, 5, 7, 9, 11, 12, 15, 17, 19, 21, 23, 25, 27, 28, 29, 30, 32, 34, 36, 40, 42, 44, 45] [] [5, 38, 46, 48] []) σ0 (zRis r)) := by
  unfold fX11_row_15
  exact zpc_some h
theorem fu_fX11_row {σ0 : zSt} {σ : zSt} {x1 : Int32} (h : (zQ [3, 5, 7, 9, 11, 12, 15, 17, 19, 21, 23, 25, 27, 28, 29, 30, 32, 34, 36, 40, 42, 44, 45] [] [5, 38, 46, 48] []) σ0 σ) : zpc (fX11_row σ x1) (fun r => (zQ [3, 5, 7, 9, 11, 12, 15, 17, 19, 21, 23, 25, 27, 28, 29, 30, 32, 34, 36, 40, 42, 44, 45] [] [5, 38, 46, 48] []) σ0 (zRis r)) := by
  unfold fX11_row
  exact zpc_if (fun _ => fu_fX11_row_15 h) (fun _ => zpc_bi (fu_fX3_height h) (fun σ1 v2 hσ1 => zpc_if (fun _ => zpc_bi (fu_fX3_sumOfLine hσ1) (fun σ3 v4 hσ3 => zpc_some hσ3)) (fun _ => fu_fX11_row_15 hσ1)))
theorem fu_fX11_hear {σ0 : zSt} {σ : zSt} (h : (zQ [3, 5, 7, 9, 11, 12, 15, 17, 19, 21, 23, 25, 27, 28, 29, 30, 32, 34, 36, 40, 42, 44, 45] [] [5, 38, 46, 48] []) σ0 σ) : zpc (fX11_hear σ) (fun r => (zQ [3, 5, 7, 9, 11, 12, 15, 17, 19, 21, 23, 25, 27, 28, 29, 30, 32, 34, 36, 40, 42, 44, 45] [] [5, 38, 46, 48] []) σ0 (zRls r)) := by
  unfold fX11_hear
  exact zpc_bi (fu_fX6_size_k11 h) (fun σ1 v2 hσ1 => zpc_if (fun _ => zpc_some hσ1) (fun _ => zpc_bll (fu_fX6_takeFirst_k11 hσ1) (fun σ3 v4 hσ3 => zpc_some hσ3)))
theorem fu_fX11_mix {σ0 : zSt} {σ : zSt} (h : (zQ [3, 5, 7, 9, 11, 12, 15, 17, 19, 21, 23, 25, 27, 28, 29, 30, 32, 34, 36, 40, 42, 44, 45] [] [5, 38, 46, 48] []) σ0 σ) : zpc (fX11_mix σ) (fun r => (zQ [3, 5, 7, 9, 11, 12, 15, 17, 19, 21, 23, 25, 27, 28, 29, 30, 32, 34, 36, 40, 42, 44, 45] [] [5, 38, 46, 48] []) σ0 (zRls r)) := by
  unfold fX11_mix
  exact zpc_bi (fu_fX6_size_k12 h) (fun σ1 v2 hσ1 => zpc_if (fun _ => zpc_some hσ1) (fun _ => zpc_bll (fu_fX6_takeFirst_k12 hσ1) (fun σ3 v4 hσ3 => zpc_some hσ3)))
theorem fu_fX11_wave {σ0 : zSt} {σ : zSt} {x1 : Int32} (h : (zQ [3, 5, 7, 9, 11, 12, 15, 17, 19, 21, 23, 25, 27, 28, 29, 30, 32, 34, 36, 40, 42, 44, 45] [] [5, 38, 46, 48] []) σ0 σ) : zpc (fX11_wave σ x1) (fun r => (zQ [3, 5, 7, 9, 11, 12, 15, 17, 19, 21, 23, 25, 27, 28, 29, 30, 32, 34, 36, 40, 42, 44, 45] [] [5, 38, 46, 48] []) σ0 (zRis r)) := by
  unfold fX11_wave
  exact zpc_bi (fu_fX10_has h) (fun σ1 v2 hσ1 => zpc_if (fun _ => zpc_some hσ1) (fun _ => zpc_bi (fu_fX10_value hσ1) (fun σ3 v4 hσ3 => zpc_some hσ3)))
theorem fu_fX11_sound_10 {σ0 : zSt} {σ : zSt} (h : (zQ [3, 5, 7, 9, 11, 12, 15, 17, 19, 21, 23, 25, 27, 28, 29, 30, 32, 34, 36, 40, 42, 44, 45] [] [5, 38, 46, 48] []) σ0 σ) : zpc (fX11_sound_10 σ) (fun r => (zQ [3, 5, 7, 9, 11, 12, 15, 17, 19, 21, 23, 25, 27, 28, 29, 30, 32, 34, 36, 40, 42, 44, 45] [] [5, 38, 46, 48] []) σ0 (zRis r)) := by
  unfold fX11_sound_10
  exact zpc_some h
theorem fu_fX11_sound {σ0 : zSt} {σ : zSt} {x1 : Int32} (h : (zQ [3, 5, 7, 9, 11, 12, 15, 17, 19, 21, 23, 25, 27, 28, 29, 30, 32, 34, 36, 40, 42, 44, 45] [] [5, 38, 46, 48] []) σ0 σ) : zpc (fX11_sound σ x1) (fun r => (zQ [3, 5, 7, 9, 11, 12, 15, 17, 19, 21, 23, 25, 27, 28, 29, 30, 32, 34, 36, 40, 42, 44, 45] [] [5, 38, 46, 48] []) σ0 (zRis r)) := by
  unfold fX11_sound
  exact zpc_if (fun _ => fu_fX11_sound_10 h) (fun _ => zpc_if (fun _ => zpc_bi (fu_fX7_value h) (fun σ1 v2 hσ1 => zpc_some hσ1)) (fun _ => fu_fX11_sound_10 h))
theorem fu_fX11_look_10 {σ0 : zSt} {σ : zSt} (h : (zQ [3, 5, 7, 9, 11, 12, 15, 17, 19, 21, 23, 25, 27, 28, 29, 30, 32, 34, 36, 40, 42, 44, 45] [] [5, 38, 46, 48] []) σ0 σ) : zpc (fX11_look_10 σ) (fun r => (zQ [3, 5, 7, 9, 11, 12, 15, 17, 19, 21, 23, 25, 27, 28, 29, 30, 32, 34, 36, 40, 42, 44, 45] [] [5, 38, 46, 48] []) σ0 (zRls r)) := by
  unfold fX11_look_10
  exact zpc_some h
theorem fu_fX11_look_193 {σ0 : zSt} {σ : zSt} {x1 : Int32} (h : (zQ [3, 5, 7, 9, 11, 12, 15, 17, 19, 21, 23, 25, 27, 28, 29, 30, 32, 34, 36, 40, 42, 44, 45] [] [5, 38, 46, 48] []) σ0 σ) : zpc (fX11_look_193 σ x1) (fun r => (zQ [3, 5, 7, 9, 11, 12, 15, 17, 19, 21, 23, 25, 27, 28, 29, 30, 32, 34, 36, 40, 42, 44, 45] [] [5, 38, 46, 48] []) σ0 (zRls r)) := by
  unfold fX11_look_193
  exact zpc_bi (fu_fX2_page h) (fun σ1 v2 hσ1 => zpc_some hσ1)
theorem fu_fX11_look_250 {σ0 : zSt} {σ : zSt} {s0 : Int64} (h : (zQ [3, 5, 7, 9, 11, 12, 15, 17, 19, 21, 23, 25, 27, 28, 29, 30, 32, 34, 36, 40, 42, 44, 45] [] [5, 38, 46, 48] []) σ0 σ) : zpc (fX11_look_250 σ s0) (fun r => (zQ [3, 5, 7, 9, 11, 12, 15, 17, 19, 21, 23, 25, 27, 28, 29, 30, 32, 34, 36, 40, 42, 44, 45] [] [5, 38, 46, 48] []) σ0 (zRls r)) := by
  unfold fX11_look_250
  exact zpc_some h
theorem fu_fX11_look {σ0 : zSt} {σ : zSt} {x1 : Int32} (h : (zQ [3, 5, 7, 9, 11, 12, 15, 17, 19, 21, 23, 25, 27, 28, 29, 30, 32, 34, 36, 40, 42, 44, 45] [] [5, 38, 46, 48] []) σ0 σ) : zpc (fX11_look σ x1) (fun r => (zQ [3, 5, 7, 9, 11, 12, 15, 17, 19, 21, 23, 25, 27, 28, 29, 30, 32, 34, 36, 40, 42, 44, 45] [] [5, 38, 46, 48] []) σ0 (zRls r)) := by
  unfold fX11_look
  exact zpc_if (fun _ => fu_fX11_look_10 h) (fun _ => zpc_if (fun _ => zpc_if (fun _ => zpc_bll (fu_fX0_count h) (fun σ3 v4 hσ3 => zpc_some hσ3)) (fun _ => zpc_if (fun _ => zpc_bll (fu_fX0_count h) (fun σ5 v6 hσ5 => zpc_some hσ5)) (fun _ => zpc_if (fun _ => zpc_bll (fu_fX0_count h) (fun σ7 v8 hσ7 => zpc_some hσ7)) (fun _ => zpc_if (fun _ => zpc_bi (fu_fX6_size_k11 h) (fun σ9 v10 hσ9 => zpc_some hσ9)) (fun _ => zpc_if (fun _ => zpc_bll (fu_fX0_count h) (fun σ11 v12 hσ11 => zpc_some hσ11)) (fun _ => zpc_if (fun _ => zpc_some h) (fun _ => zpc_if (fun _ => zpc_bi (fu_fX1_stopCount h) (fun σ13 v14 hσ13 => zpc_some hσ13)) (fun _ => zpc_if (fun _ => zpc_bi (fu_fX2_cardSize h) (fun σ15 v16 hσ15 => zpc_some hσ15)) (fun _ => zpc_if (fun _ => zpc_bi (fu_fX2_page h) (fun σ17 v18 hσ17 => zpc_some hσ17)) (fun _ => zpc_if (fun _ => fu_fX11_look_193 h) (fun _ => zpc_if (fun _ => fu_fX11_look_193 h) (fun _ => zpc_if (fun _ => fu_fX11_look_193 h) (fun _ => zpc_if (fun _ => zpc_bi (fu_fX5_value h) (fun σ19 v20 hσ19 => zpc_some hσ19)) (fun _ => zpc_if (fun _ => zpc_bi (fu_fX4_value h) (fun σ21 v22 hσ21 => zpc_some hσ21)) (fun _ => zpc_if (fun _ => zpc_bi (fu_fX4_value h) (fun σ23 v24 hσ23 => zpc_some hσ23)) (fun _ => zpc_if (fun _ => zpc_if (fun _ => fu_fX11_look_250 h) (fun _ => fu_fX11_look_250 h)) (fun _ => zpc_if (fun _ => zpc_bi (fu_fX1_plansWaiting h) (fun σ25 v26 hσ25 => zpc_some hσ25)) (fun _ => zpc_if (fun _ => zpc_bi (fu_fX6_size_k12 h) (fun σ27 v28 hσ27 => zpc_some hσ27)) (fun _ => zpc_some h))))))))))))))))))) (fun _ => fu_fX11_look_10 h))
theorem fU_fX12_fails_10 {σ0 : zSt} {σ : zSt} {x1 : Int32} {s0 : Int32} (h : (zQ [3, 5, 6, 7, 8, 9, 21, 22, 23, 24, 25, 26] [(0, 0, 0), (0, 31, 33)] [4, 10, 11] [(0, 30, 30)]) σ0 σ) : zpc (fX12_fails_10 σ x1 s0) (fun r => (zQ [3, 5, 6, 7, 8, 9, 21, 22, 23, 24, 25, 26] [(0, 0, 0), (0, 31, 33)] [4, 10, 11] [(0, 30, 30)]) σ0 (r.1)) := by
  unfold fX12_fails_10
  exact zpc_bs (zQ.wi h rfl) (fun σ1 hσ1 => zpc_ck (zpc_some hσ1))
theorem fU_fX12_fails {σ0 : zSt} {σ : zSt} {x1 : Int32} {x2 : Int32} (h : (zQ [3, 5, 6, 7, 8, 9, 21, 22, 23, 24, 25, 26] [(0, 0, 0), (0, 31, 33)] [4, 10, 11] [(0, 30, 30)]) σ0 σ) : zpc (fX12_fails σ x1 x2) (fun r => (zQ [3, 5, 6, 7, 8, 9, 21, 22, 23, 24, 25, 26] [(0, 0, 0), (0, 31, 33)] [4, 10, 11] [(0, 30, 30)]) σ0 (r.1)) := by
  unfold fX12_fails
  exact zpc_if (fun _ => fU_fX12_fails_10 h) (fun _ => fU_fX12_fails_10 h)
theorem fU_fX12_within_18 {σ0 : zSt} {σ : zSt} {s0 : Int32} (h : (zQ [3, 5, 6, 7, 8, 9, 21, 22, 23, 24, 25, 26] [(0, 0, 0), (0, 31, 33)] [4, 10, 11] [(0, 30, 30)]) σ0 σ) : zpc (fX12_within_18 σ s0) (fun r => (zQ [3, 5, 6, 7, 8, 9, 21, 22, 23, 24, 25, 26] [(0, 0, 0), (0, 31, 33)] [4, 10, 11] [(0, 30, 30)]) σ0 (r.1)) := by
  unfold fX12_within_18
  exact zpc_ck (zpc_some h)
theorem fU_fX12_within_17 {σ0 : zSt} {σ : zSt} (h : (zQ [3, 5, 6, 7, 8, 9, 21, 22, 23, 24, 25, 26] [(0, 0, 0), (0, 31, 33)] [4, 10, 11] [(0, 30, 30)]) σ0 σ) : zpc (fX12_within_17 σ) (fun r => (zQ [3, 5, 6, 7, 8, 9, 21, 22, 23, 24, 25, 26] [(0, 0, 0), (0, 31, 33)] [4, 10, 11] [(0, 30, 30)]) σ0 (r.1)) := by
  unfold fX12_within_17
  exact fU_fX12_within_18 h
theorem fU_fX12_within {σ0 : zSt} {σ : zSt} {x0 : Int64} {x2 : Int64} {x4 : Int64} (h : (zQ [3, 5, 6, 7, 8, 9, 21, 22, 23, 24, 25, 26] [(0, 0, 0), (0, 31, 33)] [4, 10, 11] [(0, 30, 30)]) σ0 σ) : zpc (fX12_within σ x0 x2 x4) (fun r => (zQ [3, 5, 6, 7, 8, 9, 21, 22, 23, 24, 25, 26] [(0, 0, 0), (0, 31, 33)] [4, 10, 11] [(0, 30, 30)]) σ0 (r.1)) := by
  unfold fX12_within
  exact zpc_if (fun _ => fU_fX12_within_17 h) (fun _ => zpc_if (fun _ => fU_fX12_within_17 h) (fun _ => fU_fX12_within_18 h))
theorem fU_fX12_bytesAt_7_body {σ0 : zSt} {k7 : zSt → Int32 → Int32 → Int32 → Option (zSt × Int32)} (hk7 : ∀ (y0 : zSt) (y1 : Int32) (y2 : Int32) (y3 : Int32), (zQ [3, 5, 6, 7, 8, 9, 21, 22, 23, 24, 25, 26] [(0, 0, 0), (0, 31, 33)] [4, 10, 11] [(0, 30, 30)]) σ0 y0 → zpc (k7 y0 y1 y2 y3) (fun r => (zQ [3, 5, 6, 7, 8, 9, 21, 22, 23, 24, 25, 26] [(0, 0, 0), (0, 31, 33)] [4, 10, 11] [(0, 30, 30)]) σ0 (r.1))) {σ : zSt} {x1 : Int32} {x3 : Int32} {x4 : Int32} (h : (zQ [3, 5, 6, 7, 8, 9, 21, 22, 23, 24, 25, 26] [(0, 0, 0), (0, 31, 33)] [4, 10, 11] [(0, 30, 30)]) σ0 σ) : zpc (fX12_bytesAt_7_body k7 σ x1 x3 x4) (fun r => (zQ [3, 5, 6, 7, 8, 9, 21, 22, 23, 24, 25, 26] [(0, 0, 0), (0, 31, 33)] [4, 10, 11] [(0, 30, 30)]) σ0 (r.1)) := by
  unfold fX12_bytesAt_7_body
  exact zpc_if (fun _ => zpc_some h) (fun _ => zpc_ck (zpc_bv (fun v1 _ => zpc_bv (fun v2 _ => hk7 _ _ _ _ h))))
theorem fU_fX12_bytesAt_7 {σ0 : zSt} : ∀ (n : Nat) (y0 : zSt) (y1 : Int32) (y2 : Int32) (y3 : Int32), (zQ [3, 5, 6, 7, 8, 9, 21, 22, 23, 24, 25, 26] [(0, 0, 0), (0, 31, 33)] [4, 10, 11] [(0, 30, 30)]) σ0 y0 → zpc (fX12_bytesAt_7 n y0 y1 y2 y3) (fun r => (zQ [3, 5, 6, 7, 8, 9, 21, 22, 23, 24, 25, 26] [(0, 0, 0), (0, 31, 33)] [4, 10, 11] [(0, 30, 30)]) σ0 (r.1)) := by
  intro n
  induction n with
  | zero => intro y0 y1 y2 y3 h; exact zpc_none
  | succ n ih => intro y0 y1 y2 y3 h; exact fU_fX12_bytesAt_7_body ih h
theorem fU_fX12_bytesAt {σ0 : zSt} {σ : zSt} {x1 : Int32} {x2 : Int32} (h : (zQ [3, 5, 6, 7, 8, 9, 21, 22, 23, 24, 25, 26] [(0, 0, 0), (0, 31, 33)] [4, 10, 11] [(0, 30, 30)]) σ0 σ) : zpc (fX12_bytesAt σ x1 x2) (fun r => (zQ [3, 5, 6, 7, 8, 9, 21, 22, 23, 24, 25, 26] [(0, 0, 0), (0, 31, 33)] [4, 10, 11] [(0, 30, 30)]) σ0 (r.1)) := by
  unfold fX12_bytesAt
  exact zpc_bv (fun v3 _ => fU_fX12_bytesAt_7 _ _ _ _ _ h)
theorem fU_fX12_anew_236 {σ0 : zSt} {k196 : zSt → Int32 → Option (zSt)} (hk196 : ∀ (y0 : zSt) (y1 : Int32), (zQ [3, 5, 6, 7, 8, 9, 21, 22, 23, 24, 25, 26] [(0, 0, 0), (0, 31, 33)] [4, 10, 11] [(0, 30, 30)]) σ0 y0 → zpc (k196 y0 y1) (fun r => (zQ [3, 5, 6, 7, 8, 9, 21, 22, 23, 24, 25, 26] [(0, 0, 0), (0, 31, 33)] [4, 10, 11] [(0, 30, 30)]) σ0 (r))) {σ : zSt} {x1 : Int32} {s0 : Int32} {s1 : Int32} (h : (zQ [3, 5, 6, 7, 8, 9, 21, 22, 23, 24, 25, 26] [(0, 0, 0), (0, 31, 33)] [4, 10, 11] [(0, 30, 30)]) σ0 σ) : zpc (fX12_anew_236 k196 σ x1 s0 s1) (fun r => (zQ [3, 5, 6, 7, 8, 9, 21, 22, 23, 24, 25, 26] [(0, 0, 0), (0, 31, 33)] [4, 10, 11] [(0, 30, 30)]) σ0 (r)) := by
  unfold fX12_anew_236
  exact zpc_ck (zpc_bs (zQ.wi h rfl) (fun σ1 hσ1 => zpc_bv (fun v2 _ => hk196 _ _ hσ1)))
theorem fU_fX12_anew_267_body {σ0 : zSt} {k267 : zSt → Int32 → Option (zSt)} (hk267 : ∀ (y0 : zSt) (y1 : Int32), (zQ [3, 5, 6, 7, 8, 9, 21, 22, 23, 24, 25, 26] [(0, 0, 0), (0, 31, 33)] [4, 10, 11] [(0, 30, 30)]) σ0 y0 → zpc (k267 y0 y1) (fun r => (zQ [3, 5, 6, 7, 8, 9, 21, 22, 23, 24, 25, 26] [(0, 0, 0), (0, 31, 33)] [4, 10, 11] [(0, 30, 30)]) σ0 (r))) {σ : zSt} {x1 : Int32} (h : (zQ [3, 5, 6, 7, 8, 9, 21, 22, 23, 24, 25, 26] [(0, 0, 0), (0, 31, 33)] [4, 10, 11] [(0, 30, 30)]) σ0 σ) : zpc (fX12_anew_267_body k267 σ x1) (fun r => (zQ [3, 5, 6, 7, 8, 9, 21, 22, 23, 24, 25, 26] [(0, 0, 0), (0, 31, 33)] [4, 10, 11] [(0, 30, 30)]) σ0 (r)) := by
  unfold fX12_anew_267_body
  exact zpc_if (fun _ => zpc_some h) (fun _ => zpc_ck (zpc_bs (zQ.wi h rfl) (fun σ3 hσ3 => zpc_bv (fun v4 _ => hk267 _ _ hσ3))))
theorem fU_fX12_anew_267 {σ0 : zSt} : ∀ (n : Nat) (y0 : zSt) (y1 : Int32), (zQ [3, 5, 6, 7, 8, 9, 21, 22, 23, 24, 25, 26] [(0, 0, 0), (0, 31, 33)] [4, 10, 11] [(0, 30, 30)]) σ0 y0 → zpc (fX12_anew_267 n y0 y1) (fun r => (zQ [3, 5, 6, 7, 8, 9, 21, 22, 23, 24, 25, 26] [(0, 0, 0), (0, 31, 33)] [4, 10, 11] [(0, 30, 30)]) σ0 (r)) := by
  intro n
  induction n with
  | zero => intro y0 y1 h; exact zpc_none
  | succ n ih => intro y0 y1 h; exact fU_fX12_anew_267_body ih h
theorem fU_fX12_anew_245_body {σ0 : zSt} {k245 : zSt → Int32 → Option (zSt)} (hk245 : ∀ (y0 : zSt) (y1 : Int32), (zQ [3, 5, 6, 7, 8, 9, 21, 22, 23, 24, 25, 26] [(0, 0, 0), (0, 31, 33)] [4, 10, 11] [(0, 30, 30)]) σ0 y0 → zpc (k245 y0 y1) (fun r => (zQ [3, 5, 6, 7, 8, 9, 21, 22, 23, 24, 25, 26] [(0, 0, 0), (0, 31, 33)] [4, 10, 11] [(0, 30, 30)]) σ0 (r))) {σ : zSt} {x1 : Int32} (h : (zQ [3, 5, 6, 7, 8, 9, 21, 22, 23, 24, 25, 26] [(0, 0, 0), (0, 31, 33)] [4, 10, 11] [(0, 30, 30)]) σ0 σ) : zpc (fX12_anew_245_body k245 σ x1) (fun r => (zQ [3, 5, 6, 7, 8, 9, 21, 22, 23, 24, 25, 26] [(0, 0, 0), (0, 31, 33)] [4, 10, 11] [(0, 30, 30)]) σ0 (r)) := by
  unfold fX12_anew_245_body
  exact zpc_if (fun _ => fU_fX12_anew_267 _ _ _ h) (fun _ => zpc_ck (zpc_bs (zQ.wi h rfl) (fun σ5 hσ5 => zpc_bv (fun v6 _ => hk245 _ _ hσ5))))
theorem fU_fX12_anew_245 {σ0 : zSt} : ∀ (n : Nat) (y0 : zSt) (y1 : Int32), (zQ [3, 5, 6, 7, 8, 9, 21, 22, 23, 24, 25, 26] [(0, 0, 0), (0, 31, 33)] [4, 10, 11] [(0, 30, 30)]) σ0 y0 → zpc (fX12_anew_245 n y0 y1) (fun r => (zQ [3, 5, 6, 7, 8, 9, 21, 22, 23, 24, 25, 26] [(0, 0, 0), (0, 31, 33)] [4, 10, 11] [(0, 30, 30)]) σ0 (r)) := by
  intro n
  induction n with
  | zero => intro y0 y1 h; exact zpc_none
  | succ n ih => intro y0 y1 h; exact fU_fX12_anew_245_body ih h
theorem fU_fX12_anew_196_body {σ0 : zSt} {k196 : zSt → Int32 → Option (zSt)} (hk196 : ∀ (y0 : zSt) (y1 : Int32), (zQ [3, 5, 6, 7, 8, 9, 21, 22, 23, 24, 25, 26] [(0, 0, 0), (0, 31, 33)] [4, 10, 11] [(0, 30, 30)]) σ0 y0 → zpc (k196 y0 y1) (fun r => (zQ [3, 5, 6, 7, 8, 9, 21, 22, 23, 24, 25, 26] [(0, 0, 0), (0, 31, 33)] [4, 10, 11] [(0, 30, 30)]) σ0 (r))) {σ : zSt} {x1 : Int32} (h : (zQ [3, 5, 6, 7, 8, 9, 21, 22, 23, 24, 25, 26] [(0, 0, 0), (0, 31, 33)] [4, 10, 11] [(0, 30, 30)]) σ0 σ) : zpc (fX12_anew_196_body k196 σ x1) (fun r => (zQ [3, 5, 6, 7, 8, 9, 21, 22, 23, 24, 25, 26] [(0, 0, 0), (0, 31, 33)] [4, 10, 11] [(0, 30, 30)]) σ0 (r)) := by
  unfold fX12_anew_196_body
  exact zpc_if (fun _ => fU_fX12_anew_245 _ _ _ h) (fun _ => zpc_ck (zpc_if (fun _ => fU_fX12_anew_236 hk196 h) (fun _ => zpc_ck (zpc_if (fun _ => fU_fX12_anew_236 hk196 h) (fun _ => fU_fX12_anew_236 hk196 h)))))
theorem fU_fX12_anew_196 {σ0 : zSt} : ∀ (n : Nat) (y0 : zSt) (y1 : Int32), (zQ [3, 5, 6, 7, 8, 9, 21, 22, 23, 24, 25, 26] [(0, 0, 0), (0, 31, 33)] [4, 10, 11] [(0, 30, 30)]) σ0 y0 → zpc (fX12_anew_196 n y0 y1) (fun r => (zQ [3, 5, 6, 7, 8, 9, 21, 22, 23, 24, 25, 26] [(0, 0, 0), (0, 31, 33)] [4, 10, 11] [(0, 30, 30)]) σ0 (r)) := by
  intro n
  induction n with
  | zero => intro y0 y1 h; exact zpc_none
  | succ n ih => intro y0 y1 h; exact fU_fX12_anew_196_body ih h
theorem fU_fX12_anew_165_body {σ0 : zSt} {k165 : zSt → Int32 → Option (zSt)} (hk165 : ∀ (y0 : zSt) (y1 : Int32), (zQ [3, 5, 6, 7, 8, 9, 21, 22, 23, 24, 25, 26] [(0, 0, 0), (0, 31, 33)] [4, 10, 11] [(0, 30, 30)]) σ0 y0 → zpc (k165 y0 y1) (fun r => (zQ [3, 5, 6, 7, 8, 9, 21, 22, 23, 24, 25, 26] [(0, 0, 0), (0, 31, 33)] [4, 10, 11] [(0, 30, 30)]) σ0 (r))) {σ : zSt} {x1 : Int32} (h : (zQ [3, 5, 6, 7, 8, 9, 21, 22, 23, 24, 25, 26] [(0, 0, 0), (0, 31, 33)] [4, 10, 11] [(0, 30, 30)]) σ0 σ) : zpc (fX12_anew_165_body k165 σ x1) (fun r => (zQ [3, 5, 6, 7, 8, 9, 21, 22, 23, 24, 25, 26] [(0, 0, 0), (0, 31, 33)] [4, 10, 11] [(0, 30, 30)]) σ0 (r)) := by
  unfold fX12_anew_165_body
  exact zpc_if (fun _ => zpc_ck (zpc_bs (zQ.wi h rfl) (fun σ7 hσ7 => fU_fX12_anew_196 _ _ _ hσ7))) (fun _ => zpc_ck (zpc_bs (zQ.wi h rfl) (fun σ8 hσ8 => zpc_bv (fun v9 _ => hk165 _ _ hσ8))))
theorem fU_fX12_anew_165 {σ0 : zSt} : ∀ (n : Nat) (y0 : zSt) (y1 : Int32), (zQ [3, 5, 6, 7, 8, 9, 21, 22, 23, 24, 25, 26] [(0, 0, 0), (0, 31, 33)] [4, 10, 11] [(0, 30, 30)]) σ0 y0 → zpc (fX12_anew_165 n y0 y1) (fun r => (zQ [3, 5, 6, 7, 8, 9, 21, 22, 23, 24, 25, 26] [(0, 0, 0), (0, 31, 33)] [4, 10, 11] [(0, 30, 30)]) σ0 (r)) := by
  intro n
  induction n with
  | zero => intro y0 y1 h; exact zpc_none
  | succ n ih => intro y0 y1 h; exact fU_fX12_anew_165_body ih h
theorem fU_fX12_anew_131_body {σ0 : zSt} {k131 : zSt → Int32 → Option (zSt)} (hk131 : ∀ (y0 : zSt) (y1 : Int32), (zQ [3, 5, 6, 7, 8, 9, 21, 22, 23, 24, 25, 26] [(0, 0, 0), (0, 31, 33)] [4, 10, 11] [(0, 30, 30)]) σ0 y0 → zpc (k131 y0 y1) (fun r => (zQ [3, 5, 6, 7, 8, 9, 21, 22, 23, 24, 25, 26] [(0, 0, 0), (0, 31, 33)] [4, 10, 11] [(0, 30, 30)]) σ0 (r))) {σ : zSt} {x1 : Int32} (h : (zQ [3, 5, 6, 7, 8, 9, 21, 22, 23, 24, 25, 26] [(0, 0, 0), (0, 31, 33)] [4, 10, 11] [(0, 30, 30)]) σ0 σ) : zpc (fX12_anew_131_body k131 σ x1) (fun r => (zQ [3, 5, 6, 7, 8, 9, 21, 22, 23, 24, 25, 26] [(0, 0, 0), (0, 31, 33)] [4, 10, 11] [(0, 30, 30)]) σ0 (r)) := by
  unfold fX12_anew_131_body
  exact zpc_if (fun _ => zpc_ck (zpc_bs (zQ.wi h rfl) (fun σ10 hσ10 => fU_fX12_anew_165 _ _ _ hσ10))) (fun _ => zpc_ck (zpc_bs (zQ.wi h rfl) (fun σ11 hσ11 => zpc_bv (fun v12 _ => hk131 _ _ hσ11))))
theorem fU_fX12_anew_131 {σ0 : zSt} : ∀ (n : Nat) (y0 : zSt) (y1 : Int32), (zQ [3, 5, 6, 7, 8, 9, 21, 22, 23, 24, 25, 26] [(0, 0, 0), (0, 31, 33)] [4, 10, 11] [(0, 30, 30)]) σ0 y0 → zpc (fX12_anew_131 n y0 y1) (fun r => (zQ [3, 5, 6, 7, 8, 9, 21, 22, 23, 24, 25, 26] [(0, 0, 0), (0, 31, 33)] [4, 10, 11] [(0, 30, 30)]) σ0 (r)) := by
  intro n
  induction n with
  | zero => intro y0 y1 h; exact zpc_none
  | succ n ih => intro y0 y1 h; exact fU_fX12_anew_131_body ih h
theorem fU_fX12_anew_79 {σ0 : zSt} {σ : zSt} {s0 : Int32} {s1 : Int32} (h : (zQ [3, 5, 6, 7, 8, 9, 21, 22, 23, 24, 25, 26] [(0, 0, 0), (0, 31, 33)] [4, 10, 11] [(0, 30, 30)]) σ0 σ) : zpc (fX12_anew_79 σ s0 s1) (fun r => (zQ [3, 5, 6, 7, 8, 9, 21, 22, 23, 24, 25, 26] [(0, 0, 0), (0, 31, 33)] [4, 10, 11] [(0, 30, 30)]) σ0 (r)) := by
  unfold fX12_anew_79
  exact zpc_ck (zpc_bs (zQ.wi h rfl) (fun σ13 hσ13 => zpc_ck (zpc_bs (zQ.wi hσ13 rfl) (fun σ14 hσ14 => zpc_ck (zpc_bs (zQ.wi hσ14 rfl) (fun σ15 hσ15 => zpc_ck (zpc_bs (zQ.wi hσ15 rfl) (fun σ16 hσ16 => zpc_ck (zpc_bs (zQ.wi hσ16 rfl) (fun σ17 hσ17 => zpc_ck (zpc_bs (zQ.wi hσ17 rfl) (fun σ18 hσ18 => fU_fX12_anew_131 _ _ _ hσ18))))))))))))
theorem fU_fX12_anew_24_body {σ0 : zSt} {k24 : zSt → Int32 → Option (zSt)} (hk24 : ∀ (y0 : zSt) (y1 : Int32), (zQ [3, 5, 6, 7, 8, 9, 21, 22, 23, 24, 25, 26] [(0, 0, 0), (0, 31, 33)] [4, 10, 11] [(0, 30, 30)]) σ0 y0 → zpc (k24 y0 y1) (fun r => (zQ [3, 5, 6, 7, 8, 9, 21, 22, 23, 24, 25, 26] [(0, 0, 0), (0, 31, 33)] [4, 10, 11] [(0, 30, 30)]) σ0 (r))) {σ : zSt} {x1 : Int32} (h : (zQ [3, 5, 6, 7, 8, 9, 21, 22, 23, 24, 25, 26] [(0, 0, 0), (0, 31, 33)] [4, 10, 11] [(0, 30, 30)]) σ0 σ) : zpc (fX12_anew_24_body k24 σ x1) (fun r => (zQ [3, 5, 6, 7, 8, 9, 21, 22, 23, 24, 25, 26] [(0, 0, 0), (0, 31, 33)] [4, 10, 11] [(0, 30, 30)]) σ0 (r)) := by
  unfold fX12_anew_24_body
  exact zpc_if (fun _ => zpc_ck (zpc_bs (zQ.wi h rfl) (fun σ19 hσ19 => zpc_ck (zpc_bs (zQ.wi hσ19 rfl) (fun σ20 hσ20 => zpc_if (fun _ => fU_fX12_anew_79 hσ20) (fun _ => fU_fX12_anew_79 hσ20)))))) (fun _ => zpc_ck (zpc_bs (zQ.wi h rfl) (fun σ21 hσ21 => zpc_bv (fun v22 _ => hk24 _ _ hσ21))))
theorem fU_fX12_anew_24 {σ0 : zSt} : ∀ (n : Nat) (y0 : zSt) (y1 : Int32), (zQ [3, 5, 6, 7, 8, 9, 21, 22, 23, 24, 25, 26] [(0, 0, 0), (0, 31, 33)] [4, 10, 11] [(0, 30, 30)]) σ0 y0 → zpc (fX12_anew_24 n y0 y1) (fun r => (zQ [3, 5, 6, 7, 8, 9, 21, 22, 23, 24, 25, 26] [(0, 0, 0), (0, 31, 33)] [4, 10, 11] [(0, 30, 30)]) σ0 (r)) := by
  intro n
  induction n with
  | zero => intro y0 y1 h; exact zpc_none
  | succ n ih => intro y0 y1 h; exact fU_fX12_anew_24_body ih h
theorem fU_fX12_anew_2_body {σ0 : zSt} {k2 : zSt → Int32 → Option (zSt)} (hk2 : ∀ (y0 : zSt) (y1 : Int32), (zQ [3, 5, 6, 7, 8, 9, 21, 22, 23, 24, 25, 26] [(0, 0, 0), (0, 31, 33)] [4, 10, 11] [(0, 30, 30)]) σ0 y0 → zpc (k2 y0 y1) (fun r => (zQ [3, 5, 6, 7, 8, 9, 21, 22, 23, 24, 25, 26] [(0, 0, 0), (0, 31, 33)] [4, 10, 11] [(0, 30, 30)]) σ0 (r))) {σ : zSt} {x1 : Int32} (h : (zQ [3, 5, 6, 7, 8, 9, 21, 22, 23, 24, 25, 26] [(0, 0, 0), (0, 31, 33)] [4, 10, 11] [(0, 30, 30)]) σ0 σ) : zpc (fX12_anew_2_body k2 σ x1) (fun r => (zQ [3, 5, 6, 7, 8, 9, 21, 22, 23, 24, 25, 26] [(0, 0, 0), (0, 31, 33)] [4, 10, 11] [(0, 30, 30)]) σ0 (r)) := by
  unfold fX12_anew_2_body
  exact zpc_if (fun _ => fU_fX12_anew_24 _ _ _ h) (fun _ => zpc_ck (zpc_bs (zQ.wi h rfl) (fun σ23 hσ23 => zpc_bv (fun v24 _ => hk2 _ _ hσ23))))
theorem fU_fX12_anew_2 {σ0 : zSt} : ∀ (n : Nat) (y0 : zSt) (y1 : Int32), (zQ [3, 5, 6, 7, 8, 9, 21, 22, 23, 24, 25, 26] [(0, 0, 0), (0, 31, 33)] [4, 10, 11] [(0, 30, 30)]) σ0 y0 → zpc (fX12_anew_2 n y0 y1) (fun r => (zQ [3, 5, 6, 7, 8, 9, 21, 22, 23, 24, 25, 26] [(0, 0, 0), (0, 31, 33)] [4, 10, 11] [(0, 30, 30)]) σ0 (r)) := by
  intro n
  induction n with
  | zero => intro y0 y1 h; exact zpc_none
  | succ n ih => intro y0 y1 h; exact fU_fX12_anew_2_body ih h
theorem fU_fX12_anew {σ0 : zSt} {σ : zSt} (h : (zQ [3, 5, 6, 7, 8, 9, 21, 22, 23, 24, 25, 26] [(0, 0, 0), (0, 31, 33)] [4, 10, 11] [(0, 30, 30)]) σ0 σ) : zpc (fX12_anew σ) (fun r => (zQ [3, 5, 6, 7, 8, 9, 21, 22, 23, 24, 25, 26] [(0, 0, 0), (0, 31, 33)] [4, 10, 11] [(0, 30, 30)]) σ0 (r)) := by
  unfold fX12_anew
  exact fU_fX12_anew_2 _ _ _ h
theorem fU_fX12_tens {σ0 : zSt} {σ : zSt} {x1 : Int32} (h : (zQ [3, 5, 6, 7, 8, 9, 21, 22, 23, 24, 25, 26] [(0, 0, 0), (0, 31, 33)] [4, 10, 11] [(0, 30, 30)]) σ0 σ) : zpc (fX12_tens σ x1) (fun r => (zQ [3, 5, 6, 7, 8, 9, 21, 22, 23, 24, 25, 26] [(0, 0, 0), (0, 31, 33)] [4, 10, 11] [(0, 30, 30)]) σ0 (r.1)) := by
  unfold fX12_tens
  exact zpc_ck (zpc_ck (zpc_some h))
theorem fU_fX12_card_59 {σ0 : zSt} {σ : zSt} {s0 : Int32} (h : (zQ [3, 5, 6, 7, 8, 9, 21, 22, 23, 24, 25, 26] [(0, 0, 0), (0, 31, 33)] [4, 10, 11] [(0, 30, 30)]) σ0 σ) : zpc (fX12_card_59 σ s0) (fun r => (zQ [3, 5, 6, 7, 8, 9, 21, 22, 23, 24, 25, 26] [(0, 0, 0), (0, 31, 33)] [4, 10, 11] [(0, 30, 30)]) σ0 (r.1)) := by
  unfold fX12_card_59
  exact zpc_some h
theorem fU_fX12_card_18 {σ0 : zSt} {σ : zSt} {x1 : Int32} {s0 : Int32} (h : (zQ [3, 5, 6, 7, 8, 9, 21, 22, 23, 24, 25, 26] [(0, 0, 0), (0, 31, 33)] [4, 10, 11] [(0, 30, 30)]) σ0 σ) : zpc (fX12_card_18 σ x1 s0) (fun r => (zQ [3, 5, 6, 7, 8, 9, 21, 22, 23, 24, 25, 26] [(0, 0, 0), (0, 31, 33)] [4, 10, 11] [(0, 30, 30)]) σ0 (r.1)) := by
  unfold fX12_card_18
  exact zpc_bi (fU_fX12_fails h) (fun σ1 v2 hσ1 => zpc_if (fun _ => zpc_if (fun _ => zpc_if (fun _ => zpc_if (fun _ => zpc_bi (fU_fX12_tens hσ1) (fun σ3 v4 hσ3 => zpc_bi (fU_fX12_tens hσ3) (fun σ5 v6 hσ5 => zpc_ck (zpc_some hσ5)))) (fun _ => zpc_if (fun _ => zpc_ck (zpc_some hσ1)) (fun _ => zpc_if (fun _ => zpc_ck (zpc_some hσ1)) (fun _ => zpc_if (fun _ => zpc_bi (fU_fX12_bytesAt hσ1) (fun σ7 v8 hσ7 => zpc_some hσ7)) (fun _ => zpc_some hσ1))))) (fun _ => zpc_some hσ1)) (fun _ => zpc_if (fun _ => fU_fX12_card_59 hσ1) (fun _ => zpc_if (fun _ => fU_fX12_card_59 hσ1) (fun _ => fU_fX12_card_59 hσ1)))) (fun _ => zpc_some hσ1))
theorem fU_fX12_card {σ0 : zSt} {σ : zSt} {x1 : Int32} (h : (zQ [3, 5, 6, 7, 8, 9, 21, 22, 23, 24, 25, 26] [(0, 0, 0), (0, 31, 33)] [4, 10, 11] [(0, 30, 30)]) σ0 σ) : zpc (fX12_card σ x1) (fun r => (zQ [3, 5, 6, 7, 8, 9, 21, 22, 23, 24, 25, 26] [(0, 0, 0), (0, 31, 33)] [4, 10, 11] [(0, 30, 30)]) σ0 (r.1)) := by
  unfold fX12_card
  exact zpc_bi (fU_fX12_within h) (fun σ9 v10 hσ9 => zpc_if (fun _ => fU_fX12_card_18 hσ9) (fun _ => fU_fX12_card_18 hσ9))
theorem fU_fX12_ofBank {σ0 : zSt} {σ : zSt} {x1 : Int32} {x2 : Int32} (h : (zQ [3, 5, 6, 7, 8, 9, 21, 22, 23, 24, 25, 26] [(0, 0, 0), (0, 31, 33)] [4, 10, 11] [(0, 30, 30)]) σ0 σ) : zpc (fX12_ofBank σ x1 x2) (fun r => (zQ [3, 5, 6, 7, 8, 9, 21, 22, 23, 24, 25, 26] [(0, 0, 0), (0, 31, 33)] [4, 10, 11] [(0, 30, 30)]) σ0 (r.1)) := by
  unfold fX12_ofBank
  exact zpc_ck (zpc_ck (zpc_ck (zpc_some h)))
theorem fU_fX12_isBattery_38 {σ0 : zSt} {σ : zSt} {s0 : Int32} (h : (zQ [3, 5, 6, 7, 8, 9, 21, 22, 23, 24, 25, 26] [(0, 0, 0), (0, 31, 33)] [4, 10, 11] [(0, 30, 30)]) σ0 σ) : zpc (fX12_isBattery_38 σ s0) (fun r => (zQ [3, 5, 6, 7, 8, 9, 21, 22, 23, 24, 25, 26] [(0, 0, 0), (0, 31, 33)] [4, 10, 11] [(0, 30, 30)]) σ0 (r.1)) := by
  unfold fX12_isBattery_38
  exact zpc_ck (zpc_some h)
theorem fU_fX12_isBattery_37 {σ0 : zSt} {σ : zSt} (h : (zQ [3, 5, 6, 7, 8, 9, 21, 22, 23, 24, 25, 26] [(0, 0, 0), (0, 31, 33)] [4, 10, 11] [(0, 30, 30)]) σ0 σ) : zpc (fX12_isBattery_37 σ) (fun r => (zQ [3, 5, 6, 7, 8, 9, 21, 22, 23, 24, 25, 26] [(0, 0, 0), (0, 31, 33)] [4, 10, 11] [(0, 30, 30)]) σ0 (r.1)) := by
  unfold fX12_isBattery_37
  exact fU_fX12_isBattery_38 h
theorem fU_fX12_isBattery {σ0 : zSt} {σ : zSt} {x1 : Int32} (h : (zQ [3, 5, 6, 7, 8, 9, 21, 22, 23, 24, 25, 26] [(0, 0, 0), (0, 31, 33)] [4, 10, 11] [(0, 30, 30)]) σ0 σ) : zpc (fX12_isBattery σ x1) (fun r => (zQ [3, 5, 6, 7, 8, 9, 21, 22, 23, 24, 25, 26] [(0, 0, 0), (0, 31, 33)] [4, 10, 11] [(0, 30, 30)]) σ0 (r.1)) := by
  unfold fX12_isBattery
  exact zpc_if (fun _ => zpc_ck (zpc_if (fun _ => fU_fX12_isBattery_37 h) (fun _ => zpc_if (fun _ => fU_fX12_isBattery_37 h) (fun _ => zpc_if (fun _ => fU_fX12_isBattery_37 h) (fun _ => fU_fX12_isBattery_38 h))))) (fun _ => fU_fX12_isBattery_37 h)
theorem fU_fX12_batteryAt_23 {σ0 : zSt} {σ : zSt} {s0 : Int32} {s1 : Int32} (h : (zQ [3, 5, 6, 7, 8, 9, 21, 22, 23, 24, 25, 26] [(0, 0, 0), (0, 31, 33)] [4, 10, 11] [(0, 30, 30)]) σ0 σ) : zpc (fX12_batteryAt_23 σ s0 s1) (fun r => (zQ [3, 5, 6, 7, 8, 9, 21, 22, 23, 24, 25, 26] [(0, 0, 0), (0, 31, 33)] [4, 10, 11] [(0, 30, 30)]) σ0 (r.1)) := by
  unfold fX12_batteryAt_23
  exact zpc_some h
theorem fU_fX12_batteryAt {σ0 : zSt} {σ : zSt} {x1 : Int32} (h : (zQ [3, 5, 6, 7, 8, 9, 21, 22, 23, 24, 25, 26] [(0, 0, 0), (0, 31, 33)] [4, 10, 11] [(0, 30, 30)]) σ0 σ) : zpc (fX12_batteryAt σ x1) (fun r => (zQ [3, 5, 6, 7, 8, 9, 21, 22, 23, 24, 25, 26] [(0, 0, 0), (0, 31, 33)] [4, 10, 11] [(0, 30, 30)]) σ0 (r.1)) := by
  unfold fX12_batteryAt
  exact zpc_ck (zpc_if (fun _ => fU_fX12_batteryAt_23 h) (fun _ => fU_fX12_batteryAt_23 h))
theorem fU_fX12_read_80 {σ0 : zSt} {σ : zSt} {s0 : Int32} (h : (zQ [3, 5, 6, 7, 8, 9, 21, 22, 23, 24, 25, 26] [(0, 0, 0), (0, 31, 33)] [4, 10, 11] [(0, 30, 30)]) σ0 σ) : zpc (fX12_read_80 σ s0) (fun r => (zQ [3, 5, 6, 7, 8, 9, 21, 22, 23, 24, 25, 26] [(0, 0, 0), (0, 31, 33)] [4, 10, 11] [(0, 30, 30)]) σ0 (r.1)) := by
  unfold fX12_read_80
  exact zpc_some h
theorem fU_fX12_read_111 {σ0 : zSt} {σ : zSt} {x2 : Int32} {s0 : Int32} (h : (zQ [3, 5, 6, 7, 8, 9, 21, 22, 23, 24, 25, 26] [(0, 0, 0), (0, 31, 33)] [4, 10, 11] [(0, 30, 30)]) σ0 σ) : zpc (fX12_read_111 σ x2 s0) (fun r => (zQ [3, 5, 6, 7, 8, 9, 21, 22, 23, 24, 25, 26] [(0, 0, 0), (0, 31, 33)] [4, 10, 11] [(0, 30, 30)]) σ0 (r.1)) := by
  unfold fX12_read_111
  exact zpc_bi (fU_fX12_ofBank h) (fun σ1 v2 hσ1 => zpc_some hσ1)
theorem fU_fX12_read_138 {σ0 : zSt} {σ : zSt} {x2 : Int32} (h : (zQ [3, 5, 6, 7, 8, 9, 21, 22, 23, 24, 25, 26] [(0, 0, 0), (0, 31, 33)] [4, 10, 11] [(0, 30, 30)]) σ0 σ) : zpc (fX12_read_138 σ x2) (fun r => (zQ [3, 5, 6, 7, 8, 9, 21, 22, 23, 24, 25, 26] [(0, 0, 0), (0, 31, 33)] [4, 10, 11] [(0, 30, 30)]) σ0 (r.1)) := by
  unfold fX12_read_138
  exact zpc_ck (zpc_ck (zpc_bi (fU_fX12_ofBank h) (fun σ3 v4 hσ3 => zpc_some hσ3)))
theorem fU_fX12_read {σ0 : zSt} {σ : zSt} {x1 : Int32} (h : (zQ [3, 5, 6, 7, 8, 9, 21, 22, 23, 24, 25, 26] [(0, 0, 0), (0, 31, 33)] [4, 10, 11] [(0, 30, 30)]) σ0 σ) : zpc (fX12_read σ x1) (fun r => (zQ [3, 5, 6, 7, 8, 9, 21, 22, 23, 24, 25, 26] [(0, 0, 0), (0, 31, 33)] [4, 10, 11] [(0, 30, 30)]) σ0 (r.1)) := by
  unfold fX12_read
  exact zpc_bv (fun v5 _ => zpc_if (fun _ => zpc_bi (fU_fX12_isBattery h) (fun σ6 v7 hσ6 => zpc_if (fun _ => zpc_if (fun _ => zpc_if (fun _ => fU_fX12_read_80 hσ6) (fun _ => zpc_ck (fU_fX12_read_80 hσ6))) (fun _ => zpc_if (fun _ => zpc_if (fun _ => zpc_ck (fU_fX12_read_111 hσ6)) (fun _ => zpc_ck (fU_fX12_read_111 hσ6))) (fun _ => zpc_if (fun _ => zpc_if (fun _ => fU_fX12_read_138 hσ6) (fun _ => zpc_bi (fU_fX12_ofBank hσ6) (fun σ8 v9 hσ8 => zpc_some hσ8))) (fun _ => fU_fX12_read_138 hσ6)))) (fun _ => zpc_bi (fU_fX12_batteryAt hσ6) (fun σ10 v11 hσ10 => zpc_ck (zpc_some hσ10))))) (fun _ => zpc_ck (zpc_ck (zpc_some h))))
theorem fU_fX12_write_163 {σ0 : zSt} {σ : zSt} (h : (zQ [3, 5, 6, 7, 8, 9, 21, 22, 23, 24, 25, 26] [(0, 0, 0), (0, 31, 33)] [4, 10, 11] [(0, 30, 30)]) σ0 σ) : zpc (fX12_write_163 σ) (fun r => (zQ [3, 5, 6, 7, 8, 9, 21, 22, 23, 24, 25, 26] [(0, 0, 0), (0, 31, 33)] [4, 10, 11] [(0, 30, 30)]) σ0 (r)) := by
  unfold fX12_write_163
  exact zpc_some h
theorem fU_fX12_write_140 {σ0 : zSt} {σ : zSt} {x3 : Int32} {x4 : Int32} (h : (zQ [3, 5, 6, 7, 8, 9, 21, 22, 23, 24, 25, 26] [(0, 0, 0), (0, 31, 33)] [4, 10, 11] [(0, 30, 30)]) σ0 σ) : zpc (fX12_write_140 σ x3 x4) (fun r => (zQ [3, 5, 6, 7, 8, 9, 21, 22, 23, 24, 25, 26] [(0, 0, 0), (0, 31, 33)] [4, 10, 11] [(0, 30, 30)]) σ0 (r)) := by
  unfold fX12_write_140
  exact zpc_if (fun _ => zpc_if (fun _ => zpc_ck (zpc_bs (zQ.wi h rfl) (fun σ1 hσ1 => fU_fX12_write_163 hσ1))) (fun _ => fU_fX12_write_163 h)) (fun _ => fU_fX12_write_163 h)
theorem fU_fX12_write_103 {σ0 : zSt} {σ : zSt} {x3 : Int32} {x4 : Int32} (h : (zQ [3, 5, 6, 7, 8, 9, 21, 22, 23, 24, 25, 26] [(0, 0, 0), (0, 31, 33)] [4, 10, 11] [(0, 30, 30)]) σ0 σ) : zpc (fX12_write_103 σ x3 x4) (fun r => (zQ [3, 5, 6, 7, 8, 9, 21, 22, 23, 24, 25, 26] [(0, 0, 0), (0, 31, 33)] [4, 10, 11] [(0, 30, 30)]) σ0 (r)) := by
  unfold fX12_write_103
  exact zpc_if (fun _ => zpc_if (fun _ => fU_fX12_write_140 h) (fun _ => zpc_ck (zpc_if (fun _ => zpc_ck (zpc_ck (zpc_bs (zQ.wi h rfl) (fun σ2 hσ2 => fU_fX12_write_140 hσ2)))) (fun _ => fU_fX12_write_140 h)))) (fun _ => fU_fX12_write_140 h)
theorem fU_fX12_write_75 {σ0 : zSt} {σ : zSt} {x3 : Int32} {x4 : Int32} (h : (zQ [3, 5, 6, 7, 8, 9, 21, 22, 23, 24, 25, 26] [(0, 0, 0), (0, 31, 33)] [4, 10, 11] [(0, 30, 30)]) σ0 σ) : zpc (fX12_write_75 σ x3 x4) (fun r => (zQ [3, 5, 6, 7, 8, 9, 21, 22, 23, 24, 25, 26] [(0, 0, 0), (0, 31, 33)] [4, 10, 11] [(0, 30, 30)]) σ0 (r)) := by
  unfold fX12_write_75
  exact zpc_if (fun _ => zpc_if (fun _ => fU_fX12_write_103 h) (fun _ => zpc_ck (zpc_bs (zQ.wi h rfl) (fun σ3 hσ3 => fU_fX12_write_103 hσ3)))) (fun _ => fU_fX12_write_103 h)
theorem fU_fX12_write_52 {σ0 : zSt} {σ : zSt} {x3 : Int32} {x4 : Int32} (h : (zQ [3, 5, 6, 7, 8, 9, 21, 22, 23, 24, 25, 26] [(0, 0, 0), (0, 31, 33)] [4, 10, 11] [(0, 30, 30)]) σ0 σ) : zpc (fX12_write_52 σ x3 x4) (fun r => (zQ [3, 5, 6, 7, 8, 9, 21, 22, 23, 24, 25, 26] [(0, 0, 0), (0, 31, 33)] [4, 10, 11] [(0, 30, 30)]) σ0 (r)) := by
  unfold fX12_write_52
  exact zpc_if (fun _ => zpc_if (fun _ => zpc_ck (zpc_bs (zQ.wi h rfl) (fun σ4 hσ4 => fU_fX12_write_75 hσ4))) (fun _ => fU_fX12_write_75 h)) (fun _ => fU_fX12_write_75 h)
theorem fU_fX12_write_31 {σ0 : zSt} {σ : zSt} {x3 : Int32} {x4 : Int32} (h : (zQ [3, 5, 6, 7, 8, 9, 21, 22, 23, 24, 25, 26] [(0, 0, 0), (0, 31, 33)] [4, 10, 11] [(0, 30, 30)]) σ0 σ) : zpc (fX12_write_31 σ x3 x4) (fun r => (zQ [3, 5, 6, 7, 8, 9, 21, 22, 23, 24, 25, 26] [(0, 0, 0), (0, 31, 33)] [4, 10, 11] [(0, 30, 30)]) σ0 (r)) := by
  unfold fX12_write_31
  exact zpc_bi (fU_fX12_isBattery h) (fun σ5 v6 hσ5 => zpc_if (fun _ => fU_fX12_write_52 hσ5) (fun _ => zpc_bi (fU_fX12_batteryAt hσ5) (fun σ7 v8 hσ7 => zpc_ck (zpc_bs (zQ.wi hσ7 rfl) (fun σ9 hσ9 => fU_fX12_write_52 hσ9)))))
theorem fU_fX12_write {σ0 : zSt} {σ : zSt} {x1 : Int32} {x2 : Int32} (h : (zQ [3, 5, 6, 7, 8, 9, 21, 22, 23, 24, 25, 26] [(0, 0, 0), (0, 31, 33)] [4, 10, 11] [(0, 30, 30)]) σ0 σ) : zpc (fX12_write σ x1 x2) (fun r => (zQ [3, 5, 6, 7, 8, 9, 21, 22, 23, 24, 25, 26] [(0, 0, 0), (0, 31, 33)] [4, 10, 11] [(0, 30, 30)]) σ0 (r)) := by
  unfold fX12_write
  exact zpc_bv (fun v10 _ => zpc_bv (fun v11 _ => zpc_if (fun _ => fU_fX12_write_31 h) (fun _ => zpc_ck (zpc_ck (zpc_bs (zQ.wi h rfl) (fun σ12 hσ12 => fU_fX12_write_31 hσ12))))))
theorem fU_fX12_word {σ0 : zSt} {σ : zSt} {x1 : Int32} (h : (zQ [3, 5, 6, 7, 8, 9, 21, 22, 23, 24, 25, 26] [(0, 0, 0), (0, 31, 33)] [4, 10, 11] [(0, 30, 30)]) σ0 σ) : zpc (fX12_word σ x1) (fun r => (zQ [3, 5, 6, 7, 8, 9, 21, 22, 23, 24, 25, 26] [(0, 0, 0), (0, 31, 33)] [4, 10, 11] [(0, 30, 30)]) σ0 (r.1)) := by
  unfold fX12_word
  exact zpc_bi (fU_fX12_read h) (fun σ1 v2 hσ1 => zpc_bi (fU_fX12_read hσ1) (fun σ3 v4 hσ3 => zpc_some hσ3))
theorem fU_fX12_wordTo {σ0 : zSt} {σ : zSt} {x1 : Int32} {x2 : Int32} (h : (zQ [3, 5, 6, 7, 8, 9, 21, 22, 23, 24, 25, 26] [(0, 0, 0), (0, 31, 33)] [4, 10, 11] [(0, 30, 30)]) σ0 σ) : zpc (fX12_wordTo σ x1 x2) (fun r => (zQ [3, 5, 6, 7, 8, 9, 21, 22, 23, 24, 25, 26] [(0, 0, 0), (0, 31, 33)] [4, 10, 11] [(0, 30, 30)]) σ0 (r)) := by
  unfold fX12_wordTo
  exact zpc_bu (fU_fX12_write h) (fun σ1 hσ1 => zpc_bu (fU_fX12_write hσ1) (fun σ2 hσ2 => zpc_some hσ2))
theorem fU_fX12_pair {σ0 : zSt} {σ : zSt} {x1 : Int32} (h : (zQ [3, 5, 6, 7, 8, 9, 21, 22, 23, 24, 25, 26] [(0, 0, 0), (0, 31, 33)] [4, 10, 11] [(0, 30, 30)]) σ0 σ) : zpc (fX12_pair σ x1) (fun r => (zQ [3, 5, 6, 7, 8, 9, 21, 22, 23, 24, 25, 26] [(0, 0, 0), (0, 31, 33)] [4, 10, 11] [(0, 30, 30)]) σ0 (r.1)) := by
  unfold fX12_pair
  exact zpc_ck (zpc_ck (zpc_some h))
theorem fU_fX12_pairTo {σ0 : zSt} {σ : zSt} {x1 : Int32} {x2 : Int32} (h : (zQ [3, 5, 6, 7, 8, 9, 21, 22, 23, 24, 25, 26] [(0, 0, 0), (0, 31, 33)] [4, 10, 11] [(0, 30, 30)]) σ0 σ) : zpc (fX12_pairTo σ x1 x2) (fun r => (zQ [3, 5, 6, 7, 8, 9, 21, 22, 23, 24, 25, 26] [(0, 0, 0), (0, 31, 33)] [4, 10, 11] [(0, 30, 30)]) σ0 (r)) := by
  unfold fX12_pairTo
  exact zpc_ck (zpc_bs (zQ.wi h rfl) (fun σ1 hσ1 => zpc_ck (zpc_bs (zQ.wi hσ1 rfl) (fun σ2 hσ2 => zpc_some hσ2))))
theorem fU_fX12_hl_25 {σ0 : zSt} {σ : zSt} {s0 : Int32} (h : (zQ [3, 5, 6, 7, 8, 9, 21, 22, 23, 24, 25, 26] [(0, 0, 0), (0, 31, 33)] [4, 10, 11] [(0, 30, 30)]) σ0 σ) : zpc (fX12_hl_25 σ s0) (fun r => (zQ [3, 5, 6, 7, 8, 9, 21, 22, 23, 24, 25, 26] [(0, 0, 0), (0, 31, 33)] [4, 10, 11] [(0, 30, 30)]) σ0 (r.1)) := by
  unfold fX12_hl_25
  exact zpc_some h
theorem fU_fX12_hl {σ0 : zSt} {σ : zSt} (h : (zQ [3, 5, 6, 7, 8, 9, 21, 22, 23, 24, 25, 26] [(0, 0, 0), (0, 31, 33)] [4, 10, 11] [(0, 30, 30)]) σ0 σ) : zpc (fX12_hl σ) (fun r => (zQ [3, 5, 6, 7, 8, 9, 21, 22, 23, 24, 25, 26] [(0, 0, 0), (0, 31, 33)] [4, 10, 11] [(0, 30, 30)]) σ0 (r.1)) := by
  unfold fX12_hl
  exact zpc_if (fun _ => zpc_bi (fU_fX12_pair h) (fun σ1 v2 hσ1 => fU_fX12_hl_25 hσ1)) (fun _ => zpc_ck (fU_fX12_hl_25 h))
theorem fU_fX12_hlTo_30 {σ0 : zSt} {σ : zSt} (h : (zQ [3, 5, 6, 7, 8, 9, 21, 22, 23, 24, 25, 26] [(0, 0, 0), (0, 31, 33)] [4, 10, 11] [(0, 30, 30)]) σ0 σ) : zpc (fX12_hlTo_30 σ) (fun r => (zQ [3, 5, 6, 7, 8, 9, 21, 22, 23, 24, 25, 26] [(0, 0, 0), (0, 31, 33)] [4, 10, 11] [(0, 30, 30)]) σ0 (r)) := by
  unfold fX12_hlTo_30
  exact zpc_some h
theorem fU_fX12_hlTo {σ0 : zSt} {σ : zSt} {x1 : Int32} (h : (zQ [3, 5, 6, 7, 8, 9, 21, 22, 23, 24, 25, 26] [(0, 0, 0), (0, 31, 33)] [4, 10, 11] [(0, 30, 30)]) σ0 σ) : zpc (fX12_hlTo σ x1) (fun r => (zQ [3, 5, 6, 7, 8, 9, 21, 22, 23, 24, 25, 26] [(0, 0, 0), (0, 31, 33)] [4, 10, 11] [(0, 30, 30)]) σ0 (r)) := by
  unfold fX12_hlTo
  exact zpc_if (fun _ => zpc_bu (fU_fX12_pairTo h) (fun σ2 hσ2 => fU_fX12_hlTo_30 hσ2)) (fun _ => zpc_ck (zpc_bs (zQ.wi h rfl) (fun σ1 hσ1 => fU_fX12_hlTo_30 hσ1)))
theorem fU_fX12_rp_44 {σ0 : zSt} {σ : zSt} {s0 : Int32} (h : (zQ [3, 5, 6, 7, 8, 9, 21, 22, 23, 24, 25, 26] [(0, 0, 0), (0, 31, 33)] [4, 10, 11] [(0, 30, 30)]) σ0 σ) : zpc (fX12_rp_44 σ s0) (fun r => (zQ [3, 5, 6, 7, 8, 9, 21, 22, 23, 24, 25, 26] [(0, 0, 0), (0, 31, 33)] [4, 10, 11] [(0, 30, 30)]) σ0 (r.1)) := by
  unfold fX12_rp_44
  exact zpc_some h
theorem fU_fX12_rp {σ0 : zSt} {σ : zSt} {x1 : Int32} (h : (zQ [3, 5, 6, 7, 8, 9, 21, 22, 23, 24, 25, 26] [(0, 0, 0), (0, 31, 33)] [4, 10, 11] [(0, 30, 30)]) σ0 σ) : zpc (fX12_rp σ x1) (fun r => (zQ [3, 5, 6, 7, 8, 9, 21, 22, 23, 24, 25, 26] [(0, 0, 0), (0, 31, 33)] [4, 10, 11] [(0, 30, 30)]) σ0 (r.1)) := by
  unfold fX12_rp
  exact zpc_if (fun _ => zpc_bi (fU_fX12_pair h) (fun σ5 v6 hσ5 => fU_fX12_rp_44 hσ5)) (fun _ => zpc_if (fun _ => zpc_bi (fU_fX12_pair h) (fun σ3 v4 hσ3 => fU_fX12_rp_44 hσ3)) (fun _ => zpc_if (fun _ => zpc_bi (fU_fX12_hl h) (fun σ1 v2 hσ1 => fU_fX12_rp_44 hσ1)) (fun _ => zpc_ck (fU_fX12_rp_44 h))))
theorem fU_fX12_rpTo_51 {σ0 : zSt} {σ : zSt} (h : (zQ [3, 5, 6, 7, 8, 9, 21, 22, 23, 24, 25, 26] [(0, 0, 0), (0, 31, 33)] [4, 10, 11] [(0, 30, 30)]) σ0 σ) : zpc (fX12_rpTo_51 σ) (fun r => (zQ [3, 5, 6, 7, 8, 9, 21, 22, 23, 24, 25, 26] [(0, 0, 0), (0, 31, 33)] [4, 10, 11] [(0, 30, 30)]) σ0 (r)) := by
  unfold fX12_rpTo_51
  exact zpc_some h
theorem fU_fX12_rpTo {σ0 : zSt} {σ : zSt} {x1 : Int32} {x2 : Int32} (h : (zQ [3, 5, 6, 7, 8, 9, 21, 22, 23, 24, 25, 26] [(0, 0, 0), (0, 31, 33)] [4, 10, 11] [(0, 30, 30)]) σ0 σ) : zpc (fX12_rpTo σ x1 x2) (fun r => (zQ [3, 5, 6, 7, 8, 9, 21, 22, 23, 24, 25, 26] [(0, 0, 0), (0, 31, 33)] [4, 10, 11] [(0, 30, 30)]) σ0 (r)) := by
  unfold fX12_rpTo
  exact zpc_if (fun _ => zpc_bu (fU_fX12_pairTo h) (fun σ4 hσ4 => fU_fX12_rpTo_51 hσ4)) (fun _ => zpc_if (fun _ => zpc_bu (fU_fX12_pairTo h) (fun σ3 hσ3 => fU_fX12_rpTo_51 hσ3)) (fun _ => zpc_if (fun _ => zpc_bu (fU_fX12_hlTo h) (fun σ2 hσ2 => fU_fX12_rpTo_51 hσ2)) (fun _ => zpc_ck (zpc_bs (zQ.wi h rfl) (fun σ1 hσ1 => fU_fX12_rpTo_51 hσ1)))))
theorem fU_fX12_m_23 {σ0 : zSt} {σ : zSt} {s0 : Int32} (h : (zQ [3, 5, 6, 7, 8, 9, 21, 22, 23, 24, 25, 26] [(0, 0, 0), (0, 31, 33)] [4, 10, 11] [(0, 30, 30)]) σ0 σ) : zpc (fX12_m_23 σ s0) (fun r => (zQ [3, 5, 6, 7, 8, 9, 21, 22, 23, 24, 25, 26] [(0, 0, 0), (0, 31, 33)] [4, 10, 11] [(0, 30, 30)]) σ0 (r.1)) := by
  unfold fX12_m_23
  exact zpc_some h
theorem fU_fX12_m {σ0 : zSt} {σ : zSt} (h : (zQ [3, 5, 6, 7, 8, 9, 21, 22, 23, 24, 25, 26] [(0, 0, 0), (0, 31, 33)] [4, 10, 11] [(0, 30, 30)]) σ0 σ) : zpc (fX12_m σ) (fun r => (zQ [3, 5, 6, 7, 8, 9, 21, 22, 23, 24, 25, 26] [(0, 0, 0), (0, 31, 33)] [4, 10, 11] [(0, 30, 30)]) σ0 (r.1)) := by
  unfold fX12_m
  exact zpc_if (fun _ => zpc_bi (fU_fX12_pair h) (fun σ1 v2 hσ1 => fU_fX12_m_23 hσ1)) (fun _ => zpc_ck (fU_fX12_m_23 h))
theorem fU_fX12_r_74 {σ0 : zSt} {σ : zSt} {x1 : Int32} (h : (zQ [3, 5, 6, 7, 8, 9, 21, 22, 23, 24, 25, 26] [(0, 0, 0), (0, 31, 33)] [4, 10, 11] [(0, 30, 30)]) σ0 σ) : zpc (fX12_r_74 σ x1) (fun r => (zQ [3, 5, 6, 7, 8, 9, 21, 22, 23, 24, 25, 26] [(0, 0, 0), (0, 31, 33)] [4, 10, 11] [(0, 30, 30)]) σ0 (r.1)) := by
  unfold fX12_r_74
  exact zpc_ck (zpc_some h)
theorem fU_fX12_r_73 {σ0 : zSt} {σ : zSt} {s0 : Int32} (h : (zQ [3, 5, 6, 7, 8, 9, 21, 22, 23, 24, 25, 26] [(0, 0, 0), (0, 31, 33)] [4, 10, 11] [(0, 30, 30)]) σ0 σ) : zpc (fX12_r_73 σ s0) (fun r => (zQ [3, 5, 6, 7, 8, 9, 21, 22, 23, 24, 25, 26] [(0, 0, 0), (0, 31, 33)] [4, 10, 11] [(0, 30, 30)]) σ0 (r.1)) := by
  unfold fX12_r_73
  exact zpc_some h
theorem fU_fX12_r {σ0 : zSt} {σ : zSt} {x1 : Int32} (h : (zQ [3, 5, 6, 7, 8, 9, 21, 22, 23, 24, 25, 26] [(0, 0, 0), (0, 31, 33)] [4, 10, 11] [(0, 30, 30)]) σ0 σ) : zpc (fX12_r σ x1) (fun r => (zQ [3, 5, 6, 7, 8, 9, 21, 22, 23, 24, 25, 26] [(0, 0, 0), (0, 31, 33)] [4, 10, 11] [(0, 30, 30)]) σ0 (r.1)) := by
  unfold fX12_r
  exact zpc_if (fun _ => zpc_bi (fU_fX12_m h) (fun σ1 v2 hσ1 => zpc_bi (fU_fX12_read hσ1) (fun σ3 v4 hσ3 => zpc_some hσ3))) (fun _ => zpc_if (fun _ => zpc_ck (zpc_some h)) (fun _ => zpc_if (fun _ => fU_fX12_r_74 h) (fun _ => zpc_if (fun _ => fU_fX12_r_74 h) (fun _ => zpc_if (fun _ => zpc_ck (fU_fX12_r_73 h)) (fun _ => zpc_ck (fU_fX12_r_73 h))))))
theorem fU_fX12_rTo_113 {σ0 : zSt} {σ : zSt} (h : (zQ [3, 5, 6, 7, 8, 9, 21, 22, 23, 24, 25, 26] [(0, 0, 0), (0, 31, 33)] [4, 10, 11] [(0, 30, 30)]) σ0 σ) : zpc (fX12_rTo_113 σ) (fun r => (zQ [3, 5, 6, 7, 8, 9, 21, 22, 23, 24, 25, 26] [(0, 0, 0), (0, 31, 33)] [4, 10, 11] [(0, 30, 30)]) σ0 (r)) := by
  unfold fX12_rTo_113
  exact zpc_some h
theorem fU_fX12_rTo_104 {σ0 : zSt} {σ : zSt} {x1 : Int32} {x3 : Int32} (h : (zQ [3, 5, 6, 7, 8, 9, 21, 22, 23, 24, 25, 26] [(0, 0, 0), (0, 31, 33)] [4, 10, 11] [(0, 30, 30)]) σ0 σ) : zpc (fX12_rTo_104 σ x1 x3) (fun r => (zQ [3, 5, 6, 7, 8, 9, 21, 22, 23, 24, 25, 26] [(0, 0, 0), (0, 31, 33)] [4, 10, 11] [(0, 30, 30)]) σ0 (r)) := by
  unfold fX12_rTo_104
  exact zpc_ck (zpc_bs (zQ.wi h rfl) (fun σ1 hσ1 => fU_fX12_rTo_113 hσ1))
theorem fU_fX12_rTo_100 {σ0 : zSt} {σ : zSt} {s0 : Int32} {s1 : Int32} (h : (zQ [3, 5, 6, 7, 8, 9, 21, 22, 23, 24, 25, 26] [(0, 0, 0), (0, 31, 33)] [4, 10, 11] [(0, 30, 30)]) σ0 σ) : zpc (fX12_rTo_100 σ s0 s1) (fun r => (zQ [3, 5, 6, 7, 8, 9, 21, 22, 23, 24, 25, 26] [(0, 0, 0), (0, 31, 33)] [4, 10, 11] [(0, 30, 30)]) σ0 (r)) := by
  unfold fX12_rTo_100
  exact zpc_ck (zpc_bs (zQ.wi h rfl) (fun σ2 hσ2 => fU_fX12_rTo_113 hσ2))
theorem fU_fX12_rTo {σ0 : zSt} {σ : zSt} {x1 : Int32} {x2 : Int32} (h : (zQ [3, 5, 6, 7, 8, 9, 21, 22, 23, 24, 25, 26] [(0, 0, 0), (0, 31, 33)] [4, 10, 11] [(0, 30, 30)]) σ0 σ) : zpc (fX12_rTo σ x1 x2) (fun r => (zQ [3, 5, 6, 7, 8, 9, 21, 22, 23, 24, 25, 26] [(0, 0, 0), (0, 31, 33)] [4, 10, 11] [(0, 30, 30)]) σ0 (r)) := by
  unfold fX12_rTo
  exact zpc_bv (fun v3 _ => zpc_if (fun _ => zpc_bi (fU_fX12_m h) (fun σ5 v6 hσ5 => zpc_bu (fU_fX12_write hσ5) (fun σ7 hσ7 => fU_fX12_rTo_113 hσ7))) (fun _ => zpc_if (fun _ => zpc_ck (zpc_bs (zQ.wi h rfl) (fun σ4 hσ4 => fU_fX12_rTo_113 hσ4))) (fun _ => zpc_if (fun _ => fU_fX12_rTo_104 h) (fun _ => zpc_if (fun _ => fU_fX12_rTo_104 h) (fun _ => zpc_if (fun _ => zpc_ck (fU_fX12_rTo_100 h)) (fun _ => zpc_ck (fU_fX12_rTo_100 h)))))))
theorem fU_fX12_put_34 {σ0 : zSt} {σ : zSt} {s0 : Int32} {s1 : Int32} (h : (zQ [3, 5, 6, 7, 8, 9, 21, 22, 23, 24, 25, 26] [(0, 0, 0), (0, 31, 33)] [4, 10, 11] [(0, 30, 30)]) σ0 σ) : zpc (fX12_put_34 σ s0 s1) (fun r => (zQ [3, 5, 6, 7, 8, 9, 21, 22, 23, 24, 25, 26] [(0, 0, 0), (0, 31, 33)] [4, 10, 11] [(0, 30, 30)]) σ0 (r)) := by
  unfold fX12_put_34
  exact zpc_ck (zpc_bs (zQ.wi h rfl) (fun σ1 hσ1 => zpc_some hσ1))
theorem fU_fX12_put {σ0 : zSt} {σ : zSt} {x1 : Int32} {x2 : Int32} (h : (zQ [3, 5, 6, 7, 8, 9, 21, 22, 23, 24, 25, 26] [(0, 0, 0), (0, 31, 33)] [4, 10, 11] [(0, 30, 30)]) σ0 σ) : zpc (fX12_put σ x1 x2) (fun r => (zQ [3, 5, 6, 7, 8, 9, 21, 22, 23, 24, 25, 26] [(0, 0, 0), (0, 31, 33)] [4, 10, 11] [(0, 30, 30)]) σ0 (r)) := by
  unfold fX12_put
  exact zpc_if (fun _ => zpc_ck (fU_fX12_put_34 h)) (fun _ => zpc_ck (fU_fX12_put_34 h))
theorem fU_fX12_flag {σ0 : zSt} {σ : zSt} {x1 : Int32} (h : (zQ [3, 5, 6, 7, 8, 9, 21, 22, 23, 24, 25, 26] [(0, 0, 0), (0, 31, 33)] [4, 10, 11] [(0, 30, 30)]) σ0 σ) : zpc (fX12_flag σ x1) (fun r => (zQ [3, 5, 6, 7, 8, 9, 21, 22, 23, 24, 25, 26] [(0, 0, 0), (0, 31, 33)] [4, 10, 11] [(0, 30, 30)]) σ0 (r.1)) := by
  unfold fX12_flag
  exact zpc_ck (zpc_some h)
theorem fU_fX12_xy_31 {σ0 : zSt} {σ : zSt} {s0 : Int32} {s1 : Int32} (h : (zQ [3, 5, 6, 7, 8, 9, 21, 22, 23, 24, 25, 26] [(0, 0, 0), (0, 31, 33)] [4, 10, 11] [(0, 30, 30)]) σ0 σ) : zpc (fX12_xy_31 σ s0 s1) (fun r => (zQ [3, 5, 6, 7, 8, 9, 21, 22, 23, 24, 25, 26] [(0, 0, 0), (0, 31, 33)] [4, 10, 11] [(0, 30, 30)]) σ0 (r)) := by
  unfold fX12_xy_31
  exact zpc_bu (fU_fX12_put h) (fun σ1 hσ1 => zpc_some hσ1)
theorem fU_fX12_xy_14 {σ0 : zSt} {σ : zSt} {x1 : Int32} {s0 : Int32} {s1 : Int32} (h : (zQ [3, 5, 6, 7, 8, 9, 21, 22, 23, 24, 25, 26] [(0, 0, 0), (0, 31, 33)] [4, 10, 11] [(0, 30, 30)]) σ0 σ) : zpc (fX12_xy_14 σ x1 s0 s1) (fun r => (zQ [3, 5, 6, 7, 8, 9, 21, 22, 23, 24, 25, 26] [(0, 0, 0), (0, 31, 33)] [4, 10, 11] [(0, 30, 30)]) σ0 (r)) := by
  unfold fX12_xy_14
  exact zpc_bu (fU_fX12_put h) (fun σ2 hσ2 => zpc_if (fun _ => fU_fX12_xy_31 hσ2) (fun _ => fU_fX12_xy_31 hσ2))
theorem fU_fX12_xy {σ0 : zSt} {σ : zSt} {x1 : Int32} (h : (zQ [3, 5, 6, 7, 8, 9, 21, 22, 23, 24, 25, 26] [(0, 0, 0), (0, 31, 33)] [4, 10, 11] [(0, 30, 30)]) σ0 σ) : zpc (fX12_xy σ x1) (fun r => (zQ [3, 5, 6, 7, 8, 9, 21, 22, 23, 24, 25, 26] [(0, 0, 0), (0, 31, 33)] [4, 10, 11] [(0, 30, 30)]) σ0 (r)) := by
  unfold fX12_xy
  exact zpc_if (fun _ => fU_fX12_xy_14 h) (fun _ => fU_fX12_xy_14 h)
theorem fU_fX12_by_31 {σ0 : zSt} {σ : zSt} {x1 : Int32} {s0 : Int32} {s1 : Int32} (h : (zQ [3, 5, 6, 7, 8, 9, 21, 22, 23, 24, 25, 26] [(0, 0, 0), (0, 31, 33)] [4, 10, 11] [(0, 30, 30)]) σ0 σ) : zpc (fX12_by_31 σ x1 s0 s1) (fun r => (zQ [3, 5, 6, 7, 8, 9, 21, 22, 23, 24, 25, 26] [(0, 0, 0), (0, 31, 33)] [4, 10, 11] [(0, 30, 30)]) σ0 (r)) := by
  unfold fX12_by_31
  exact zpc_bu (fU_fX12_put h) (fun σ1 hσ1 => zpc_bu (fU_fX12_xy hσ1) (fun σ2 hσ2 => zpc_some hσ2))
theorem fU_fX12_by_16 {σ0 : zSt} {σ : zSt} {x1 : Int32} {s0 : Int32} {s1 : Int32} (h : (zQ [3, 5, 6, 7, 8, 9, 21, 22, 23, 24, 25, 26] [(0, 0, 0), (0, 31, 33)] [4, 10, 11] [(0, 30, 30)]) σ0 σ) : zpc (fX12_by_16 σ x1 s0 s1) (fun r => (zQ [3, 5, 6, 7, 8, 9, 21, 22, 23, 24, 25, 26] [(0, 0, 0), (0, 31, 33)] [4, 10, 11] [(0, 30, 30)]) σ0 (r)) := by
  unfold fX12_by_16
  exact zpc_bu (fU_fX12_put h) (fun σ3 hσ3 => zpc_if (fun _ => fU_fX12_by_31 hσ3) (fun _ => fU_fX12_by_31 hσ3))
theorem fU_fX12_by {σ0 : zSt} {σ : zSt} {x1 : Int32} (h : (zQ [3, 5, 6, 7, 8, 9, 21, 22, 23, 24, 25, 26] [(0, 0, 0), (0, 31, 33)] [4, 10, 11] [(0, 30, 30)]) σ0 σ) : zpc (fX12_by σ x1) (fun r => (zQ [3, 5, 6, 7, 8, 9, 21, 22, 23, 24, 25, 26] [(0, 0, 0), (0, 31, 33)] [4, 10, 11] [(0, 30, 30)]) σ0 (r)) := by
  unfold fX12_by
  exact zpc_if (fun _ => fU_fX12_by_16 h) (fun _ => fU_fX12_by_16 h)
theorem fU_fX12_isEven_35 {σ0 : zSt} {σ : zSt} {s0 : Int32} (h : (zQ [3, 5, 6, 7, 8, 9, 21, 22, 23, 24, 25, 26] [(0, 0, 0), (0, 31, 33)] [4, 10, 11] [(0, 30, 30)]) σ0 σ) : zpc (fX12_isEven_35 σ s0) (fun r => (zQ [3, 5, 6, 7, 8, 9, 21, 22, 23, 24, 25, 26] [(0, 0, 0), (0, 31, 33)] [4, 10, 11] [(0, 30, 30)]) σ0 (r.1)) := by
  unfold fX12_isEven_35
  exact zpc_ck (zpc_some h)
theorem fU_fX12_isEven_4_body {σ0 : zSt} {k4 : zSt → Int32 → Int32 → Int32 → Option (zSt × Int32)} (hk4 : ∀ (y0 : zSt) (y1 : Int32) (y2 : Int32) (y3 : Int32), (zQ [3, 5, 6, 7, 8, 9, 21, 22, 23, 24, 25, 26] [(0, 0, 0), (0, 31, 33)] [4, 10, 11] [(0, 30, 30)]) σ0 y0 → zpc (k4 y0 y1 y2 y3) (fun r => (zQ [3, 5, 6, 7, 8, 9, 21, 22, 23, 24, 25, 26] [(0, 0, 0), (0, 31, 33)] [4, 10, 11] [(0, 30, 30)]) σ0 (r.1))) {σ : zSt} {x0 : Int32} {x1 : Int32} {x2 : Int32} (h : (zQ [3, 5, 6, 7, 8, 9, 21, 22, 23, 24, 25, 26] [(0, 0, 0), (0, 31, 33)] [4, 10, 11] [(0, 30, 30)]) σ0 σ) : zpc (fX12_isEven_4_body k4 σ x0 x1 x2) (fun r => (zQ [3, 5, 6, 7, 8, 9, 21, 22, 23, 24, 25, 26] [(0, 0, 0), (0, 31, 33)] [4, 10, 11] [(0, 30, 30)]) σ0 (r.1)) := by
  unfold fX12_isEven_4_body
  exact zpc_if (fun _ => zpc_ck (zpc_if (fun _ => fU_fX12_isEven_35 h) (fun _ => fU_fX12_isEven_35 h))) (fun _ => zpc_bv (fun v1 _ => zpc_bv (fun v2 _ => hk4 _ _ _ _ h)))
theorem fU_fX12_isEven_4 {σ0 : zSt} : ∀ (n : Nat) (y0 : zSt) (y1 : Int32) (y2 : Int32) (y3 : Int32), (zQ [3, 5, 6, 7, 8, 9, 21, 22, 23, 24, 25, 26] [(0, 0, 0), (0, 31, 33)] [4, 10, 11] [(0, 30, 30)]) σ0 y0 → zpc (fX12_isEven_4 n y0 y1 y2 y3) (fun r => (zQ [3, 5, 6, 7, 8, 9, 21, 22, 23, 24, 25, 26] [(0, 0, 0), (0, 31, 33)] [4, 10, 11] [(0, 30, 30)]) σ0 (r.1)) := by
  intro n
  induction n with
  | zero => intro y0 y1 y2 y3 h; exact zpc_none
  | succ n ih => intro y0 y1 y2 y3 h; exact fU_fX12_isEven_4_body ih h
theorem fU_fX12_isEven {σ0 : zSt} {σ : zSt} {x0 : Int32} (h : (zQ [3, 5, 6, 7, 8, 9, 21, 22, 23, 24, 25, 26] [(0, 0, 0), (0, 31, 33)] [4, 10, 11] [(0, 30, 30)]) σ0 σ) : zpc (fX12_isEven σ x0) (fun r => (zQ [3, 5, 6, 7, 8, 9, 21, 22, 23, 24, 25, 26] [(0, 0, 0), (0, 31, 33)] [4, 10, 11] [(0, 30, 30)]) σ0 (r.1)) := by
  unfold fX12_isEven
  exact fU_fX12_isEven_4 _ _ _ _ _ h
theorem fU_fX12_cc_64 {σ0 : zSt} {σ : zSt} {s0 : Int32} (h : (zQ [3, 5, 6, 7, 8, 9, 21, 22, 23, 24, 25, 26] [(0, 0, 0), (0, 31, 33)] [4, 10, 11] [(0, 30, 30)]) σ0 σ) : zpc (fX12_cc_64 σ s0) (fun r => (zQ [3, 5, 6, 7, 8, 9, 21, 22, 23, 24, 25, 26] [(0, 0, 0), (0, 31, 33)] [4, 10, 11] [(0, 30, 30)]) σ0 (r.1)) := by
  unfold fX12_cc_64
  exact zpc_ck (zpc_some h)
theorem fU_fX12_cc_56 {σ0 : zSt} {σ : zSt} {s0 : Int32} {s1 : Int32} (h : (zQ [3, 5, 6, 7, 8, 9, 21, 22, 23, 24, 25, 26] [(0, 0, 0), (0, 31, 33)] [4, 10, 11] [(0, 30, 30)]) σ0 σ) : zpc (fX12_cc_56 σ s0 s1) (fun r => (zQ [3, 5, 6, 7, 8, 9, 21, 22, 23, 24, 25, 26] [(0, 0, 0), (0, 31, 33)] [4, 10, 11] [(0, 30, 30)]) σ0 (r.1)) := by
  unfold fX12_cc_56
  exact zpc_if (fun _ => fU_fX12_cc_64 h) (fun _ => fU_fX12_cc_64 h)
theorem fU_fX12_cc_44 {σ0 : zSt} {σ : zSt} {x1 : Int32} {s0 : Int32} (h : (zQ [3, 5, 6, 7, 8, 9, 21, 22, 23, 24, 25, 26] [(0, 0, 0), (0, 31, 33)] [4, 10, 11] [(0, 30, 30)]) σ0 σ) : zpc (fX12_cc_44 σ x1 s0) (fun r => (zQ [3, 5, 6, 7, 8, 9, 21, 22, 23, 24, 25, 26] [(0, 0, 0), (0, 31, 33)] [4, 10, 11] [(0, 30, 30)]) σ0 (r.1)) := by
  unfold fX12_cc_44
  exact zpc_ck (zpc_if (fun _ => fU_fX12_cc_56 h) (fun _ => fU_fX12_cc_56 h))
theorem fU_fX12_cc_32 {σ0 : zSt} {σ : zSt} {x1 : Int32} {s0 : Int32} (h : (zQ [3, 5, 6, 7, 8, 9, 21, 22, 23, 24, 25, 26] [(0, 0, 0), (0, 31, 33)] [4, 10, 11] [(0, 30, 30)]) σ0 σ) : zpc (fX12_cc_32 σ x1 s0) (fun r => (zQ [3, 5, 6, 7, 8, 9, 21, 22, 23, 24, 25, 26] [(0, 0, 0), (0, 31, 33)] [4, 10, 11] [(0, 30, 30)]) σ0 (r.1)) := by
  unfold fX12_cc_32
  exact zpc_bi (fU_fX12_flag h) (fun σ1 v2 hσ1 => zpc_if (fun _ => fU_fX12_cc_44 hσ1) (fun _ => fU_fX12_cc_44 hσ1))
theorem fU_fX12_cc {σ0 : zSt} {σ : zSt} {x1 : Int32} (h : (zQ [3, 5, 6, 7, 8, 9, 21, 22, 23, 24, 25, 26] [(0, 0, 0), (0, 31, 33)] [4, 10, 11] [(0, 30, 30)]) σ0 σ) : zpc (fX12_cc σ x1) (fun r => (zQ [3, 5, 6, 7, 8, 9, 21, 22, 23, 24, 25, 26] [(0, 0, 0), (0, 31, 33)] [4, 10, 11] [(0, 30, 30)]) σ0 (r.1)) := by
  unfold fX12_cc
  exact zpc_if (fun _ => zpc_if (fun _ => zpc_if (fun _ => fU_fX12_cc_32 h) (fun _ => fU_fX12_cc_32 h)) (fun _ => fU_fX12_cc_32 h)) (fun _ => fU_fX12_cc_32 h)
theorem fU_fX12_push {σ0 : zSt} {σ : zSt} {x1 : Int32} (h : (zQ [3, 5, 6, 7, 8, 9, 21, 22, 23, 24, 25, 26] [(0, 0, 0), (0, 31, 33)] [4, 10, 11] [(0, 30, 30)]) σ0 σ) : zpc (fX12_push σ x1) (fun r => (zQ [3, 5, 6, 7, 8, 9, 21, 22, 23, 24, 25, 26] [(0, 0, 0), (0, 31, 33)] [4, 10, 11] [(0, 30, 30)]) σ0 (r)) := by
  unfold fX12_push
  exact zpc_ck (zpc_ck (zpc_bs (zQ.wi h rfl) (fun σ1 hσ1 => zpc_ck (zpc_bu (fU_fX12_write hσ1) (fun σ2 hσ2 => zpc_ck (zpc_ck (zpc_bs (zQ.wi hσ2 rfl) (fun σ3 hσ3 => zpc_ck (zpc_bu (fU_fX12_write hσ3) (fun σ4 hσ4 => zpc_some hσ4))))))))))
theorem fU_fX12_pop {σ0 : zSt} {σ : zSt} (h : (zQ [3, 5, 6, 7, 8, 9, 21, 22, 23, 24, 25, 26] [(0, 0, 0), (0, 31, 33)] [4, 10, 11] [(0, 30, 30)]) σ0 σ) : zpc (fX12_pop σ) (fun r => (zQ [3, 5, 6, 7, 8, 9, 21, 22, 23, 24, 25, 26] [(0, 0, 0), (0, 31, 33)] [4, 10, 11] [(0, 30, 30)]) σ0 (r.1)) := by
  unfold fX12_pop
  exact zpc_ck (zpc_bi (fU_fX12_read h) (fun σ1 v2 hσ1 => zpc_ck (zpc_ck (zpc_bs (zQ.wi hσ1 rfl) (fun σ3 hσ3 => zpc_ck (zpc_bi (fU_fX12_read hσ3) (fun σ4 v5 hσ4 => zpc_bv (fun v6 _ => zpc_ck (zpc_ck (zpc_bs (zQ.wi hσ4 rfl) (fun σ7 hσ7 => zpc_some hσ7)))))))))))
theorem fU_fX12_grows {σ0 : zSt} {σ : zSt} (h : (zQ [3, 5, 6, 7, 8, 9, 21, 22, 23, 24, 25, 26] [(0, 0, 0), (0, 31, 33)] [4, 10, 11] [(0, 30, 30)]) σ0 σ) : zpc (fX12_grows σ) (fun r => (zQ [3, 5, 6, 7, 8, 9, 21, 22, 23, 24, 25, 26] [(0, 0, 0), (0, 31, 33)] [4, 10, 11] [(0, 30, 30)]) σ0 (r)) := by
  unfold fX12_grows
  exact zpc_ck (zpc_ck (zpc_ck (zpc_bs (zQ.wi h rfl) (fun σ1 hσ1 => zpc_some hσ1))))
theorem fU_fX12_next {σ0 : zSt} {σ : zSt} (h : (zQ [3, 5, 6, 7, 8, 9, 21, 22, 23, 24, 25, 26] [(0, 0, 0), (0, 31, 33)] [4, 10, 11] [(0, 30, 30)]) σ0 σ) : zpc (fX12_next σ) (fun r => (zQ [3, 5, 6, 7, 8, 9, 21, 22, 23, 24, 25, 26] [(0, 0, 0), (0, 31, 33)] [4, 10, 11] [(0, 30, 30)]) σ0 (r.1)) := by
  unfold fX12_next
  exact zpc_ck (zpc_bi (fU_fX12_read h) (fun σ1 v2 hσ1 => zpc_ck (zpc_ck (zpc_bs (zQ.wi hσ1 rfl) (fun σ3 hσ3 => zpc_some hσ3)))))
theorem fU_fX12_fetch {σ0 : zSt} {σ : zSt} (h : (zQ [3, 5, 6, 7, 8, 9, 21, 22, 23, 24, 25, 26] [(0, 0, 0), (0, 31, 33)] [4, 10, 11] [(0, 30, 30)]) σ0 σ) : zpc (fX12_fetch σ) (fun r => (zQ [3, 5, 6, 7, 8, 9, 21, 22, 23, 24, 25, 26] [(0, 0, 0), (0, 31, 33)] [4, 10, 11] [(0, 30, 30)]) σ0 (r.1)) := by
  unfold fX12_fetch
  exact zpc_bi (fU_fX12_next h) (fun σ1 v2 hσ1 => zpc_bu (fU_fX12_grows hσ1) (fun σ3 hσ3 => zpc_some hσ3))
theorem fU_fX12_nextWord {σ0 : zSt} {σ : zSt} (h : (zQ [3, 5, 6, 7, 8, 9, 21, 22, 23, 24, 25, 26] [(0, 0, 0), (0, 31, 33)] [4, 10, 11] [(0, 30, 30)]) σ0 σ) : zpc (fX12_nextWord σ) (fun r => (zQ [3, 5, 6, 7, 8, 9, 21, 22, 23, 24, 25, 26] [(0, 0, 0), (0, 31, 33)] [4, 10, 11] [(0, 30, 30)]) σ0 (r.1)) := by
  unfold fX12_nextWord
  exact zpc_bi (fU_fX12_next h) (fun σ1 v2 hσ1 => zpc_bi (fU_fX12_next hσ1) (fun σ3 v4 hσ3 => zpc_some hσ3))
theorem fU_fX12_signed_16 {σ0 : zSt} {σ : zSt} {s0 : Int32} (h : (zQ [3, 5, 6, 7, 8, 9, 21, 22, 23, 24, 25, 26] [(0, 0, 0), (0, 31, 33)] [4, 10, 11] [(0, 30, 30)]) σ0 σ) : zpc (fX12_signed_16 σ s0) (fun r => (zQ [3, 5, 6, 7, 8, 9, 21, 22, 23, 24, 25, 26] [(0, 0, 0), (0, 31, 33)] [4, 10, 11] [(0, 30, 30)]) σ0 (r.1)) := by
  unfold fX12_signed_16
  exact zpc_some h
theorem fU_fX12_signed {σ0 : zSt} {σ : zSt} {x0 : Int32} (h : (zQ [3, 5, 6, 7, 8, 9, 21, 22, 23, 24, 25, 26] [(0, 0, 0), (0, 31, 33)] [4, 10, 11] [(0, 30, 30)]) σ0 σ) : zpc (fX12_signed σ x0) (fun r => (zQ [3, 5, 6, 7, 8, 9, 21, 22, 23, 24, 25, 26] [(0, 0, 0), (0, 31, 33)] [4, 10, 11] [(0, 30, 30)]) σ0 (r.1)) := by
  unfold fX12_signed
  exact zpc_if (fun _ => fU_fX12_signed_16 h) (fun _ => fU_fX12_signed_16 h)
theorem fU_fX12_call {σ0 : zSt} {σ : zSt} {x1 : Int32} (h : (zQ [3, 5, 6, 7, 8, 9, 21, 22, 23, 24, 25, 26] [(0, 0, 0), (0, 31, 33)] [4, 10, 11] [(0, 30, 30)]) σ0 σ) : zpc (fX12_call σ x1) (fun r => (zQ [3, 5, 6, 7, 8, 9, 21, 22, 23, 24, 25, 26] [(0, 0, 0), (0, 31, 33)] [4, 10, 11] [(0, 30, 30)]) σ0 (r)) := by
  unfold fX12_call
  exact zpc_ck (zpc_bu (fU_fX12_push h) (fun σ1 hσ1 => zpc_ck (zpc_bs (zQ.wi hσ1 rfl) (fun σ2 hσ2 => zpc_ck (zpc_bs (zQ.wi hσ2 rfl) (fun σ3 hσ3 => zpc_some hσ3))))))
theorem fU_fX12_change {σ0 : zSt} {σ : zSt} {x1 : Int32} {x2 : Int32} (h : (zQ [3, 5, 6, 7, 8, 9, 21, 22, 23, 24, 25, 26] [(0, 0, 0), (0, 31, 33)] [4, 10, 11] [(0, 30, 30)]) σ0 σ) : zpc (fX12_change σ x1 x2) (fun r => (zQ [3, 5, 6, 7, 8, 9, 21, 22, 23, 24, 25, 26] [(0, 0, 0), (0, 31, 33)] [4, 10, 11] [(0, 30, 30)]) σ0 (r)) := by
  unfold fX12_change
  exact zpc_ck (zpc_bv (fun v1 _ => zpc_ck (zpc_ck (zpc_bs (zQ.wi h rfl) (fun σ2 hσ2 => zpc_ck (zpc_bs (zQ.wi hσ2 rfl) (fun σ3 hσ3 => zpc_some hσ3)))))))
theorem fU_fX12_bit {σ0 : zSt} {σ : zSt} {x1 : Int32} {x2 : Int32} (h : (zQ [3, 5, 6, 7, 8, 9, 21, 22, 23, 24, 25, 26] [(0, 0, 0), (0, 31, 33)] [4, 10, 11] [(0, 30, 30)]) σ0 σ) : zpc (fX12_bit σ x1 x2) (fun r => (zQ [3, 5, 6, 7, 8, 9, 21, 22, 23, 24, 25, 26] [(0, 0, 0), (0, 31, 33)] [4, 10, 11] [(0, 30, 30)]) σ0 (r.1)) := by
  unfold fX12_bit
  exact zpc_ck (zpc_some h)
theorem fU_fX12_mode_57 {σ0 : zSt} {σ : zSt} {s0 : Int32} (h : (zQ [3, 5, 6, 7, 8, 9, 21, 22, 23, 24, 25, 26] [(0, 0, 0), (0, 31, 33)] [4, 10, 11] [(0, 30, 30)]) σ0 σ) : zpc (fX12_mode_57 σ s0) (fun r => (zQ [3, 5, 6, 7, 8, 9, 21, 22, 23, 24, 25, 26] [(0, 0, 0), (0, 31, 33)] [4, 10, 11] [(0, 30, 30)]) σ0 (r.1)) := by
  unfold fX12_mode_57
  exact zpc_some h
theorem fU_fX12_mode {σ0 : zSt} {σ : zSt} (h : (zQ [3, 5, 6, 7, 8, 9, 21, 22, 23, 24, 25, 26] [(0, 0, 0), (0, 31, 33)] [4, 10, 11] [(0, 30, 30)]) σ0 σ) : zpc (fX12_mode σ) (fun r => (zQ [3, 5, 6, 7, 8, 9, 21, 22, 23, 24, 25, 26] [(0, 0, 0), (0, 31, 33)] [4, 10, 11] [(0, 30, 30)]) σ0 (r.1)) := by
  unfold fX12_mode
  exact zpc_bi (fU_fX12_bit h) (fun σ1 v2 hσ1 => zpc_if (fun _ => fU_fX12_mode_57 hσ1) (fun _ => zpc_bi (fU_fX12_bit hσ1) (fun σ3 v4 hσ3 => zpc_if (fun _ => fU_fX12_mode_57 hσ3) (fun _ => zpc_bi (fU_fX12_bit hσ3) (fun σ5 v6 hσ5 => zpc_if (fun _ => fU_fX12_mode_57 hσ5) (fun _ => zpc_bi (fU_fX12_bit hσ5) (fun σ7 v8 hσ7 => zpc_if (fun _ => fU_fX12_mode_57 hσ7) (fun _ => fU_fX12_mode_57 hσ7))))))))
theorem fU_fX12_height_32 {σ0 : zSt} {σ : zSt} (h : (zQ [3, 5, 6, 7, 8, 9, 21, 22, 23, 24, 25, 26] [(0, 0, 0), (0, 31, 33)] [4, 10, 11] [(0, 30, 30)]) σ0 σ) : zpc (fX12_height_32 σ) (fun r => (zQ [3, 5, 6, 7, 8, 9, 21, 22, 23, 24, 25, 26] [(0, 0, 0), (0, 31, 33)] [4, 10, 11] [(0, 30, 30)]) σ0 (r.1)) := by
  unfold fX12_height_32
  exact zpc_some h
theorem fU_fX12_height_55 {σ0 : zSt} {σ : zSt} {s0 : Int32} (h : (zQ [3, 5, 6, 7, 8, 9, 21, 22, 23, 24, 25, 26] [(0, 0, 0), (0, 31, 33)] [4, 10, 11] [(0, 30, 30)]) σ0 σ) : zpc (fX12_height_55 σ s0) (fun r => (zQ [3, 5, 6, 7, 8, 9, 21, 22, 23, 24, 25, 26] [(0, 0, 0), (0, 31, 33)] [4, 10, 11] [(0, 30, 30)]) σ0 (r.1)) := by
  unfold fX12_height_55
  exact zpc_some h
theorem fU_fX12_height {σ0 : zSt} {σ : zSt} (h : (zQ [3, 5, 6, 7, 8, 9, 21, 22, 23, 24, 25, 26] [(0, 0, 0), (0, 31, 33)] [4, 10, 11] [(0, 30, 30)]) σ0 σ) : zpc (fX12_height σ) (fun r => (zQ [3, 5, 6, 7, 8, 9, 21, 22, 23, 24, 25, 26] [(0, 0, 0), (0, 31, 33)] [4, 10, 11] [(0, 30, 30)]) σ0 (r.1)) := by
  unfold fX12_height
  exact zpc_bi (fU_fX12_mode h) (fun σ1 v2 hσ1 => zpc_if (fun _ => zpc_bi (fU_fX12_bit hσ1) (fun σ3 v4 hσ3 => zpc_if (fun _ => fU_fX12_height_32 hσ3) (fun _ => zpc_bi (fU_fX12_bit hσ3) (fun σ5 v6 hσ5 => zpc_bi (fU_fX12_bit hσ5) (fun σ7 v8 hσ7 => zpc_if (fun _ => fU_fX12_height_32 hσ7) (fun _ => zpc_bi (fU_fX12_bit hσ7) (fun σ9 v10 hσ9 => zpc_if (fun _ => fU_fX12_height_55 hσ9) (fun _ => fU_fX12_height_55 hσ9)))))))) (fun _ => fU_fX12_height_32 hσ1))
theorem fU_fX12_vCount_109 {σ0 : zSt} {σ : zSt} {s0 : Int32} (h : (zQ [3, 5, 6, 7, 8, 9, 21, 22, 23, 24, 25, 26] [(0, 0, 0), (0, 31, 33)] [4, 10, 11] [(0, 30, 30)]) σ0 σ) : zpc (fX12_vCount_109 σ s0) (fun r => (zQ [3, 5, 6, 7, 8, 9, 21, 22, 23, 24, 25, 26] [(0, 0, 0), (0, 31, 33)] [4, 10, 11] [(0, 30, 30)]) σ0 (r.1)) := by
  unfold fX12_vCount_109
  exact zpc_some h
theorem fU_fX12_vCount_108 {σ0 : zSt} {σ : zSt} {s0 : Int32} {s1 : Int32} (h : (zQ [3, 5, 6, 7, 8, 9, 21, 22, 23, 24, 25, 26] [(0, 0, 0), (0, 31, 33)] [4, 10, 11] [(0, 30, 30)]) σ0 σ) : zpc (fX12_vCount_108 σ s0 s1) (fun r => (zQ [3, 5, 6, 7, 8, 9, 21, 22, 23, 24, 25, 26] [(0, 0, 0), (0, 31, 33)] [4, 10, 11] [(0, 30, 30)]) σ0 (r.1)) := by
  unfold fX12_vCount_108
  exact fU_fX12_vCount_109 h
theorem fU_fX12_vCount_82 {σ0 : zSt} {σ : zSt} {x1 : Int32} {s0 : Int32} (h : (zQ [3, 5, 6, 7, 8, 9, 21, 22, 23, 24, 25, 26] [(0, 0, 0), (0, 31, 33)] [4, 10, 11] [(0, 30, 30)]) σ0 σ) : zpc (fX12_vCount_82 σ x1 s0) (fun r => (zQ [3, 5, 6, 7, 8, 9, 21, 22, 23, 24, 25, 26] [(0, 0, 0), (0, 31, 33)] [4, 10, 11] [(0, 30, 30)]) σ0 (r.1)) := by
  unfold fX12_vCount_82
  exact zpc_if (fun _ => zpc_if (fun _ => fU_fX12_vCount_108 h) (fun _ => fU_fX12_vCount_108 h)) (fun _ => fU_fX12_vCount_109 h)
theorem fU_fX12_vCount {σ0 : zSt} {σ : zSt} (h : (zQ [3, 5, 6, 7, 8, 9, 21, 22, 23, 24, 25, 26] [(0, 0, 0), (0, 31, 33)] [4, 10, 11] [(0, 30, 30)]) σ0 σ) : zpc (fX12_vCount σ) (fun r => (zQ [3, 5, 6, 7, 8, 9, 21, 22, 23, 24, 25, 26] [(0, 0, 0), (0, 31, 33)] [4, 10, 11] [(0, 30, 30)]) σ0 (r.1)) := by
  unfold fX12_vCount
  exact zpc_ck (zpc_bv (fun v1 _ => zpc_bi (fU_fX12_height h) (fun σ2 v3 hσ2 => zpc_if (fun _ => zpc_if (fun _ => fU_fX12_vCount_82 hσ2) (fun _ => zpc_if (fun _ => fU_fX12_vCount_82 hσ2) (fun _ => fU_fX12_vCount_82 hσ2))) (fun _ => zpc_if (fun _ => fU_fX12_vCount_82 hσ2) (fun _ => zpc_if (fun _ => fU_fX12_vCount_82 hσ2) (fun _ => fU_fX12_vCount_82 hσ2))))))
theorem fU_fX12_status {σ0 : zSt} {σ : zSt} (h : (zQ [3, 5, 6, 7, 8, 9, 21, 22, 23, 24, 25, 26] [(0, 0, 0), (0, 31, 33)] [4, 10, 11] [(0, 30, 30)]) σ0 σ) : zpc (fX12_status σ) (fun r => (zQ [3, 5, 6, 7, 8, 9, 21, 22, 23, 24, 25, 26] [(0, 0, 0), (0, 31, 33)] [4, 10, 11] [(0, 30, 30)]) σ0 (r.1)) := by
  unfold fX12_status
  exact zpc_ck (zpc_bv (fun v1 _ => zpc_ck (zpc_bs (zQ.wi h rfl) (fun σ2 hσ2 => zpc_ck (zpc_bs (zQ.wi hσ2 rfl) (fun σ3 hσ3 => zpc_ck (zpc_bs (zQ.wi hσ3 rfl) (fun σ4 hσ4 => zpc_some hσ4))))))))
theorem fU_fX12_video8 {σ0 : zSt} {σ : zSt} {x1 : Int32} (h : (zQ [3, 5, 6, 7, 8, 9, 21, 22, 23, 24, 25, 26] [(0, 0, 0), (0, 31, 33)] [4, 10, 11] [(0, 30, 30)]) σ0 σ) : zpc (fX12_video8 σ x1) (fun r => (zQ [3, 5, 6, 7, 8, 9, 21, 22, 23, 24, 25, 26] [(0, 0, 0), (0, 31, 33)] [4, 10, 11] [(0, 30, 30)]) σ0 (r.1)) := by
  unfold fX12_video8
  exact zpc_ck (zpc_some h)
theorem fU_fX12_further {σ0 : zSt} {σ : zSt} (h : (zQ [3, 5, 6, 7, 8, 9, 21, 22, 23, 24, 25, 26] [(0, 0, 0), (0, 31, 33)] [4, 10, 11] [(0, 30, 30)]) σ0 σ) : zpc (fX12_further σ) (fun r => (zQ [3, 5, 6, 7, 8, 9, 21, 22, 23, 24, 25, 26] [(0, 0, 0), (0, 31, 33)] [4, 10, 11] [(0, 30, 30)]) σ0 (r)) := by
  unfold fX12_further
  exact zpc_ck (zpc_ck (zpc_bs (zQ.wi h rfl) (fun σ1 hσ1 => zpc_some hσ1)))
theorem fU_fX12_data {σ0 : zSt} {σ : zSt} (h : (zQ [3, 5, 6, 7, 8, 9, 21, 22, 23, 24, 25, 26] [(0, 0, 0), (0, 31, 33)] [4, 10, 11] [(0, 30, 30)]) σ0 σ) : zpc (fX12_data σ) (fun r => (zQ [3, 5, 6, 7, 8, 9, 21, 22, 23, 24, 25, 26] [(0, 0, 0), (0, 31, 33)] [4, 10, 11] [(0, 30, 30)]) σ0 (r.1)) := by
  unfold fX12_data
  exact zpc_ck (zpc_bv (fun v1 _ => zpc_ck (zpc_bs (zQ.wi h rfl) (fun σ2 hσ2 => zpc_ck (zpc_bi (fU_fX12_video8 hσ2) (fun σ3 v4 hσ3 => zpc_ck (zpc_bs (zQ.wi hσ3 rfl) (fun σ5 hσ5 => zpc_bu (fU_fX12_further hσ5) (fun σ6 hσ6 => zpc_some hσ6)))))))))
theorem fU_fX12_lineAt_45 {σ0 : zSt} {σ : zSt} {s0 : Int32} (h : (zQ [3, 5, 6, 7, 8, 9, 21, 22, 23, 24, 25, 26] [(0, 0, 0), (0, 31, 33)] [4, 10, 11] [(0, 30, 30)]) σ0 σ) : zpc (fX12_lineAt_45 σ s0) (fun r => (zQ [3, 5, 6, 7, 8, 9, 21, 22, 23, 24, 25, 26] [(0, 0, 0), (0, 31, 33)] [4, 10, 11] [(0, 30, 30)]) σ0 (r.1)) := by
  unfold fX12_lineAt_45
  exact zpc_some h
theorem fU_fX12_lineAt {σ0 : zSt} {σ : zSt} {x1 : Int32} (h : (zQ [3, 5, 6, 7, 8, 9, 21, 22, 23, 24, 25, 26] [(0, 0, 0), (0, 31, 33)] [4, 10, 11] [(0, 30, 30)]) σ0 σ) : zpc (fX12_lineAt σ x1) (fun r => (zQ [3, 5, 6, 7, 8, 9, 21, 22, 23, 24, 25, 26] [(0, 0, 0), (0, 31, 33)] [4, 10, 11] [(0, 30, 30)]) σ0 (r.1)) := by
  unfold fX12_lineAt
  exact zpc_ck (zpc_if (fun _ => zpc_ck (fU_fX12_lineAt_45 h)) (fun _ => zpc_ck (fU_fX12_lineAt_45 h)))
theorem fU_fX12_without_20 {σ0 : zSt} {σ : zSt} {s0 : Int32} (h : (zQ [3, 5, 6, 7, 8, 9, 21, 22, 23, 24, 25, 26] [(0, 0, 0), (0, 31, 33)] [4, 10, 11] [(0, 30, 30)]) σ0 σ) : zpc (fX12_without_20 σ s0) (fun r => (zQ [3, 5, 6, 7, 8, 9, 21, 22, 23, 24, 25, 26] [(0, 0, 0), (0, 31, 33)] [4, 10, 11] [(0, 30, 30)]) σ0 (r.1)) := by
  unfold fX12_without_20
  exact zpc_some h
theorem fU_fX12_without {σ0 : zSt} {σ : zSt} {x1 : Int32} {x2 : Int32} {x3 : Int32} (h : (zQ [3, 5, 6, 7, 8, 9, 21, 22, 23, 24, 25, 26] [(0, 0, 0), (0, 31, 33)] [4, 10, 11] [(0, 30, 30)]) σ0 σ) : zpc (fX12_without σ x1 x2 x3) (fun r => (zQ [3, 5, 6, 7, 8, 9, 21, 22, 23, 24, 25, 26] [(0, 0, 0), (0, 31, 33)] [4, 10, 11] [(0, 30, 30)]) σ0 (r.1)) := by
  unfold fX12_without
  exact zpc_if (fun _ => fU_fX12_without_20 h) (fun _ => fU_fX12_without_20 h)
theorem fU_fX12_port_32 {σ0 : zSt} {σ : zSt} (h : (zQ [3, 5, 6, 7, 8, 9, 21, 22, 23, 24, 25, 26] [(0, 0, 0), (0, 31, 33)] [4, 10, 11] [(0, 30, 30)]) σ0 σ) : zpc (fX12_port_32 σ) (fun r => (zQ [3, 5, 6, 7, 8, 9, 21, 22, 23, 24, 25, 26] [(0, 0, 0), (0, 31, 33)] [4, 10, 11] [(0, 30, 30)]) σ0 (r.1)) := by
  unfold fX12_port_32
  exact zpc_some h
theorem fU_fX12_port_73 {σ0 : zSt} {σ : zSt} {s0 : Int32} (h : (zQ [3, 5, 6, 7, 8, 9, 21, 22, 23, 24, 25, 26] [(0, 0, 0), (0, 31, 33)] [4, 10, 11] [(0, 30, 30)]) σ0 σ) : zpc (fX12_port_73 σ s0) (fun r => (zQ [3, 5, 6, 7, 8, 9, 21, 22, 23, 24, 25, 26] [(0, 0, 0), (0, 31, 33)] [4, 10, 11] [(0, 30, 30)]) σ0 (r.1)) := by
  unfold fX12_port_73
  exact zpc_some h
theorem fU_fX12_port_60 {σ0 : zSt} {σ : zSt} {s0 : Int32} {s1 : Int32} (h : (zQ [3, 5, 6, 7, 8, 9, 21, 22, 23, 24, 25, 26] [(0, 0, 0), (0, 31, 33)] [4, 10, 11] [(0, 30, 30)]) σ0 σ) : zpc (fX12_port_60 σ s0 s1) (fun r => (zQ [3, 5, 6, 7, 8, 9, 21, 22, 23, 24, 25, 26] [(0, 0, 0), (0, 31, 33)] [4, 10, 11] [(0, 30, 30)]) σ0 (r.1)) := by
  unfold fX12_port_60
  exact fU_fX12_port_73 h
theorem fU_fX12_port_99 {σ0 : zSt} {σ : zSt} {s0 : Int32} (h : (zQ [3, 5, 6, 7, 8, 9, 21, 22, 23, 24, 25, 26] [(0, 0, 0), (0, 31, 33)] [4, 10, 11] [(0, 30, 30)]) σ0 σ) : zpc (fX12_port_99 σ s0) (fun r => (zQ [3, 5, 6, 7, 8, 9, 21, 22, 23, 24, 25, 26] [(0, 0, 0), (0, 31, 33)] [4, 10, 11] [(0, 30, 30)]) σ0 (r.1)) := by
  unfold fX12_port_99
  exact zpc_some h
theorem fU_fX12_port_122 {σ0 : zSt} {σ : zSt} {s0 : Int32} (h : (zQ [3, 5, 6, 7, 8, 9, 21, 22, 23, 24, 25, 26] [(0, 0, 0), (0, 31, 33)] [4, 10, 11] [(0, 30, 30)]) σ0 σ) : zpc (fX12_port_122 σ s0) (fun r => (zQ [3, 5, 6, 7, 8, 9, 21, 22, 23, 24, 25, 26] [(0, 0, 0), (0, 31, 33)] [4, 10, 11] [(0, 30, 30)]) σ0 (r.1)) := by
  unfold fX12_port_122
  exact zpc_some h
theorem fU_fX12_port_230 {σ0 : zSt} {σ : zSt} {s0 : Int32} (h : (zQ [3, 5, 6, 7, 8, 9, 21, 22, 23, 24, 25, 26] [(0, 0, 0), (0, 31, 33)] [4, 10, 11] [(0, 30, 30)]) σ0 σ) : zpc (fX12_port_230 σ s0) (fun r => (zQ [3, 5, 6, 7, 8, 9, 21, 22, 23, 24, 25, 26] [(0, 0, 0), (0, 31, 33)] [4, 10, 11] [(0, 30, 30)]) σ0 (r.1)) := by
  unfold fX12_port_230
  exact zpc_some h
theorem fU_fX12_port_289 {σ0 : zSt} {σ : zSt} {s0 : Int32} (h : (zQ [3, 5, 6, 7, 8, 9, 21, 22, 23, 24, 25, 26] [(0, 0, 0), (0, 31, 33)] [4, 10, 11] [(0, 30, 30)]) σ0 σ) : zpc (fX12_port_289 σ s0) (fun r => (zQ [3, 5, 6, 7, 8, 9, 21, 22, 23, 24, 25, 26] [(0, 0, 0), (0, 31, 33)] [4, 10, 11] [(0, 30, 30)]) σ0 (r.1)) := by
  unfold fX12_port_289
  exact zpc_some h
theorem fU_fX12_port_147 {σ0 : zSt} {σ : zSt} {x2 : Int32} (h : (zQ [3, 5, 6, 7, 8, 9, 21, 22, 23, 24, 25, 26] [(0, 0, 0), (0, 31, 33)] [4, 10, 11] [(0, 30, 30)]) σ0 σ) : zpc (fX12_port_147 σ x2) (fun r => (zQ [3, 5, 6, 7, 8, 9, 21, 22, 23, 24, 25, 26] [(0, 0, 0), (0, 31, 33)] [4, 10, 11] [(0, 30, 30)]) σ0 (r.1)) := by
  unfold fX12_port_147
  exact zpc_if (fun _ => zpc_ck (zpc_ck (zpc_bv (fun v1 _ => zpc_ck (zpc_if (fun _ => zpc_ck (zpc_bi (fU_fX12_without h) (fun σ2 v3 hσ2 => fU_fX12_port_289 hσ2))) (fun _ => fU_fX12_port_289 h)))))) (fun _ => zpc_ck (zpc_bv (fun v4 _ => zpc_bi (fU_fX12_lineAt h) (fun σ5 v6 hσ5 => zpc_bi (fU_fX12_without hσ5) (fun σ7 v8 hσ7 => zpc_bi (fU_fX12_lineAt hσ7) (fun σ9 v10 hσ9 => zpc_bi (fU_fX12_without hσ9) (fun σ11 v12 hσ11 => zpc_ck (zpc_if (fun _ => zpc_ck (zpc_bi (fU_fX12_without hσ11) (fun σ13 v14 hσ13 => fU_fX12_port_230 hσ13))) (fun _ => fU_fX12_port_230 hσ11)))))))))
theorem fU_fX12_port_12 {σ0 : zSt} {σ : zSt} {x1 : Int32} {s0 : Int32} (h : (zQ [3, 5, 6, 7, 8, 9, 21, 22, 23, 24, 25, 26] [(0, 0, 0), (0, 31, 33)] [4, 10, 11] [(0, 30, 30)]) σ0 σ) : zpc (fX12_port_12 σ x1 s0) (fun r => (zQ [3, 5, 6, 7, 8, 9, 21, 22, 23, 24, 25, 26] [(0, 0, 0), (0, 31, 33)] [4, 10, 11] [(0, 30, 30)]) σ0 (r.1)) := by
  unfold fX12_port_12
  exact zpc_if (fun _ => zpc_if (fun _ => zpc_if (fun _ => zpc_if (fun _ => zpc_if (fun _ => fU_fX12_port_147 h) (fun _ => zpc_ck (zpc_some h))) (fun _ => fU_fX12_port_147 h)) (fun _ => zpc_if (fun _ => zpc_bi (fU_fX12_data h) (fun σ15 v16 hσ15 => fU_fX12_port_122 hσ15)) (fun _ => zpc_bi (fU_fX12_status h) (fun σ17 v18 hσ17 => fU_fX12_port_122 hσ17)))) (fun _ => zpc_if (fun _ => zpc_bi (fU_fX12_vCount h) (fun σ19 v20 hσ19 => fU_fX12_port_99 hσ19)) (fun _ => zpc_ck (fU_fX12_port_99 h)))) (fun _ => zpc_if (fun _ => zpc_if (fun _ => zpc_if (fun _ => zpc_ck (zpc_if (fun _ => fU_fX12_port_60 h) (fun _ => fU_fX12_port_60 h))) (fun _ => zpc_ck (fU_fX12_port_73 h))) (fun _ => fU_fX12_port_32 h)) (fun _ => fU_fX12_port_32 h))
theorem fU_fX12_port {σ0 : zSt} {σ : zSt} {x1 : Int32} (h : (zQ [3, 5, 6, 7, 8, 9, 21, 22, 23, 24, 25, 26] [(0, 0, 0), (0, 31, 33)] [4, 10, 11] [(0, 30, 30)]) σ0 σ) : zpc (fX12_port σ x1) (fun r => (zQ [3, 5, 6, 7, 8, 9, 21, 22, 23, 24, 25, 26] [(0, 0, 0), (0, 31, 33)] [4, 10, 11] [(0, 30, 30)]) σ0 (r.1)) := by
  unfold fX12_port
  exact zpc_ck (zpc_if (fun _ => fU_fX12_port_12 h) (fun _ => fU_fX12_port_12 h))
theorem fU_fX12_hCount_27 {σ0 : zSt} {σ : zSt} {s0 : Int32} (h : (zQ [3, 5, 6, 7, 8, 9, 21, 22, 23, 24, 25, 26] [(0, 0, 0), (0, 31, 33)] [4, 10, 11] [(0, 30, 30)]) σ0 σ) : zpc (fX12_hCount_27 σ s0) (fun r => (zQ [3, 5, 6, 7, 8, 9, 21, 22, 23, 24, 25, 26] [(0, 0, 0), (0, 31, 33)] [4, 10, 11] [(0, 30, 30)]) σ0 (r.1)) := by
  unfold fX12_hCount_27
  exact zpc_some h
theorem fU_fX12_hCount {σ0 : zSt} {σ : zSt} (h : (zQ [3, 5, 6, 7, 8, 9, 21, 22, 23, 24, 25, 26] [(0, 0, 0), (0, 31, 33)] [4, 10, 11] [(0, 30, 30)]) σ0 σ) : zpc (fX12_hCount σ) (fun r => (zQ [3, 5, 6, 7, 8, 9, 21, 22, 23, 24, 25, 26] [(0, 0, 0), (0, 31, 33)] [4, 10, 11] [(0, 30, 30)]) σ0 (r.1)) := by
  unfold fX12_hCount
  exact zpc_ck (zpc_ck (zpc_bv (fun v1 _ => zpc_if (fun _ => fU_fX12_hCount_27 h) (fun _ => fU_fX12_hCount_27 h))))
theorem fU_fX12_noise_141 {σ0 : zSt} {σ : zSt} (h : (zQ [3, 5, 6, 7, 8, 9, 21, 22, 23, 24, 25, 26] [(0, 0, 0), (0, 31, 33)] [4, 10, 11] [(0, 30, 30)]) σ0 σ) : zpc (fX12_noise_141 σ) (fun r => (zQ [3, 5, 6, 7, 8, 9, 21, 22, 23, 24, 25, 26] [(0, 0, 0), (0, 31, 33)] [4, 10, 11] [(0, 30, 30)]) σ0 (r)) := by
  unfold fX12_noise_141
  exact zpc_some h
theorem fU_fX12_noise_140 {σ0 : zSt} {σ : zSt} {s0 : Int32} {s1 : Int32} (h : (zQ [3, 5, 6, 7, 8, 9, 21, 22, 23, 24, 25, 26] [(0, 0, 0), (0, 31, 33)] [4, 10, 11] [(0, 30, 30)]) σ0 σ) : zpc (fX12_noise_140 σ s0 s1) (fun r => (zQ [3, 5, 6, 7, 8, 9, 21, 22, 23, 24, 25, 26] [(0, 0, 0), (0, 31, 33)] [4, 10, 11] [(0, 30, 30)]) σ0 (r)) := by
  unfold fX12_noise_140
  exact zpc_ck (zpc_bs (zQ.wi h rfl) (fun σ1 hσ1 => fU_fX12_noise_141 hσ1))
theorem fU_fX12_noise_19 {σ0 : zSt} {σ : zSt} {x1 : Int32} (h : (zQ [3, 5, 6, 7, 8, 9, 21, 22, 23, 24, 25, 26] [(0, 0, 0), (0, 31, 33)] [4, 10, 11] [(0, 30, 30)]) σ0 σ) : zpc (fX12_noise_19 σ x1) (fun r => (zQ [3, 5, 6, 7, 8, 9, 21, 22, 23, 24, 25, 26] [(0, 0, 0), (0, 31, 33)] [4, 10, 11] [(0, 30, 30)]) σ0 (r)) := by
  unfold fX12_noise_19
  exact zpc_ck (zpc_ck (zpc_bv (fun v2 _ => zpc_ck (zpc_ck (zpc_if (fun _ => zpc_ck (zpc_bs (zQ.wi h rfl) (fun σ5 hσ5 => fU_fX12_noise_141 hσ5))) (fun _ => zpc_if (fun _ => zpc_ck (zpc_bs (zQ.wi h rfl) (fun σ3 hσ3 => zpc_ck (zpc_bs (zQ.wi hσ3 rfl) (fun σ4 hσ4 => fU_fX12_noise_141 hσ4))))) (fun _ => zpc_if (fun _ => zpc_ck (fU_fX12_noise_140 h)) (fun _ => zpc_ck (fU_fX12_noise_140 h)))))))))
theorem fU_fX12_noise {σ0 : zSt} {σ : zSt} {x1 : Int32} (h : (zQ [3, 5, 6, 7, 8, 9, 21, 22, 23, 24, 25, 26] [(0, 0, 0), (0, 31, 33)] [4, 10, 11] [(0, 30, 30)]) σ0 σ) : zpc (fX12_noise σ x1) (fun r => (zQ [3, 5, 6, 7, 8, 9, 21, 22, 23, 24, 25, 26] [(0, 0, 0), (0, 31, 33)] [4, 10, 11] [(0, 30, 30)]) σ0 (r)) := by
  unfold fX12_noise
  exact zpc_if (fun _ => fU_fX12_noise_19 h) (fun _ => zpc_ck (zpc_bs (zQ.wi h rfl) (fun σ6 hσ6 => fU_fX12_noise_19 hσ6)))
theorem fU_fX12_control_162 {σ0 : zSt} {σ : zSt} (h : (zQ [3, 5, 6, 7, 8, 9, 21, 22, 23, 24, 25, 26] [(0, 0, 0), (0, 31, 33)] [4, 10, 11] [(0, 30, 30)]) σ0 σ) : zpc (fX12_control_162 σ) (fun r => (zQ [3, 5, 6, 7, 8, 9, 21, 22, 23, 24, 25, 26] [(0, 0, 0), (0, 31, 33)] [4, 10, 11] [(0, 30, 30)]) σ0 (r)) := by
  unfold fX12_control_162
  exact zpc_some h
theorem fU_fX12_control {σ0 : zSt} {σ : zSt} {x1 : Int32} (h : (zQ [3, 5, 6, 7, 8, 9, 21, 22, 23, 24, 25, 26] [(0, 0, 0), (0, 31, 33)] [4, 10, 11] [(0, 30, 30)]) σ0 σ) : zpc (fX12_control σ x1) (fun r => (zQ [3, 5, 6, 7, 8, 9, 21, 22, 23, 24, 25, 26] [(0, 0, 0), (0, 31, 33)] [4, 10, 11] [(0, 30, 30)]) σ0 (r)) := by
  unfold fX12_control
  exact zpc_ck (zpc_if (fun _ => zpc_ck (zpc_ck (zpc_bs (zQ.wi h rfl) (fun σ9 hσ9 => zpc_ck (zpc_bs (zQ.wi hσ9 rfl) (fun σ10 hσ10 => zpc_some hσ10)))))) (fun _ => zpc_ck (zpc_bs (zQ.wi h rfl) (fun σ1 hσ1 => zpc_ck (zpc_ck (zpc_bs (zQ.wi hσ1 rfl) (fun σ2 hσ2 => zpc_ck (zpc_bs (zQ.wi hσ2 rfl) (fun σ3 hσ3 => zpc_ck (zpc_if (fun _ => zpc_ck (zpc_bi (fU_fX12_video8 hσ3) (fun σ5 v6 hσ5 => zpc_ck (zpc_bs (zQ.wi hσ5 rfl) (fun σ7 hσ7 => zpc_bu (fU_fX12_further hσ7) (fun σ8 hσ8 => fU_fX12_control_162 hσ8)))))) (fun _ => zpc_ck (zpc_if (fun _ => zpc_ck (zpc_if (fun _ => fU_fX12_control_162 hσ3) (fun _ => zpc_ck (zpc_ck (zpc_ck (zpc_bs (zQ.wi hσ3 rfl) (fun σ4 hσ4 => fU_fX12_control_162 hσ4))))))) (fun _ => fU_fX12_control_162 hσ3)))))))))))))
theorem fU_fX12_dataTo_115 {σ0 : zSt} {σ : zSt} (h : (zQ [3, 5, 6, 7, 8, 9, 21, 22, 23, 24, 25, 26] [(0, 0, 0), (0, 31, 33)] [4, 10, 11] [(0, 30, 30)]) σ0 σ) : zpc (fX12_dataTo_115 σ) (fun r => (zQ [3, 5, 6, 7, 8, 9, 21, 22, 23, 24, 25, 26] [(0, 0, 0), (0, 31, 33)] [4, 10, 11] [(0, 30, 30)]) σ0 (r)) := by
  unfold fX12_dataTo_115
  exact zpc_bu (fU_fX12_further h) (fun σ1 hσ1 => zpc_some hσ1)
theorem fU_fX12_dataTo {σ0 : zSt} {σ : zSt} {x1 : Int32} (h : (zQ [3, 5, 6, 7, 8, 9, 21, 22, 23, 24, 25, 26] [(0, 0, 0), (0, 31, 33)] [4, 10, 11] [(0, 30, 30)]) σ0 σ) : zpc (fX12_dataTo σ x1) (fun r => (zQ [3, 5, 6, 7, 8, 9, 21, 22, 23, 24, 25, 26] [(0, 0, 0), (0, 31, 33)] [4, 10, 11] [(0, 30, 30)]) σ0 (r)) := by
  unfold fX12_dataTo
  exact zpc_ck (zpc_bs (zQ.wi h rfl) (fun σ2 hσ2 => zpc_ck (zpc_bs (zQ.wi hσ2 rfl) (fun σ3 hσ3 => zpc_ck (zpc_bv (fun v4 _ => zpc_ck (zpc_if (fun _ => zpc_if (fun _ => zpc_ck (zpc_if (fun _ => zpc_ck (zpc_bs (zQ.wi hσ3 rfl) (fun σ7 hσ7 => fU_fX12_dataTo_115 hσ7))) (fun _ => zpc_ck (zpc_ck (zpc_ck (zpc_bs (zQ.wi hσ3 rfl) (fun σ5 hσ5 => zpc_ck (zpc_ck (zpc_bs (zQ.wi hσ5 rfl) (fun σ6 hσ6 => fU_fX12_dataTo_115 hσ6)))))))))) (fun _ => zpc_ck (zpc_ck (zpc_bs (zQ.wi hσ3 rfl) (fun σ8 hσ8 => fU_fX12_dataTo_115 hσ8))))) (fun _ => zpc_ck (zpc_bs (zQ.wi hσ3 rfl) (fun σ9 hσ9 => fU_fX12_dataTo_115 hσ9))))))))))
theorem fU_fX12_portTo_267 {σ0 : zSt} {σ : zSt} (h : (zQ [3, 5, 6, 7, 8, 9, 21, 22, 23, 24, 25, 26] [(0, 0, 0), (0, 31, 33)] [4, 10, 11] [(0, 30, 30)]) σ0 σ) : zpc (fX12_portTo_267 σ) (fun r => (zQ [3, 5, 6, 7, 8, 9, 21, 22, 23, 24, 25, 26] [(0, 0, 0), (0, 31, 33)] [4, 10, 11] [(0, 30, 30)]) σ0 (r)) := by
  unfold fX12_portTo_267
  exact zpc_some h
theorem fU_fX12_portTo_140 {σ0 : zSt} {σ : zSt} (h : (zQ [3, 5, 6, 7, 8, 9, 21, 22, 23, 24, 25, 26] [(0, 0, 0), (0, 31, 33)] [4, 10, 11] [(0, 30, 30)]) σ0 σ) : zpc (fX12_portTo_140 σ) (fun r => (zQ [3, 5, 6, 7, 8, 9, 21, 22, 23, 24, 25, 26] [(0, 0, 0), (0, 31, 33)] [4, 10, 11] [(0, 30, 30)]) σ0 (r)) := by
  unfold fX12_portTo_140
  exact fU_fX12_portTo_267 h
theorem fU_fX12_portTo_129 {σ0 : zSt} {σ : zSt} (h : (zQ [3, 5, 6, 7, 8, 9, 21, 22, 23, 24, 25, 26] [(0, 0, 0), (0, 31, 33)] [4, 10, 11] [(0, 30, 30)]) σ0 σ) : zpc (fX12_portTo_129 σ) (fun r => (zQ [3, 5, 6, 7, 8, 9, 21, 22, 23, 24, 25, 26] [(0, 0, 0), (0, 31, 33)] [4, 10, 11] [(0, 30, 30)]) σ0 (r)) := by
  unfold fX12_portTo_129
  exact zpc_bi (fU_fX12_hCount h) (fun σ1 v2 hσ1 => zpc_ck (zpc_bs (zQ.wi hσ1 rfl) (fun σ3 hσ3 => fU_fX12_portTo_140 hσ3)))
theorem fU_fX12_portTo_115 {σ0 : zSt} {σ : zSt} {x5 : Int32} (h : (zQ [3, 5, 6, 7, 8, 9, 21, 22, 23, 24, 25, 26] [(0, 0, 0), (0, 31, 33)] [4, 10, 11] [(0, 30, 30)]) σ0 σ) : zpc (fX12_portTo_115 σ x5) (fun r => (zQ [3, 5, 6, 7, 8, 9, 21, 22, 23, 24, 25, 26] [(0, 0, 0), (0, 31, 33)] [4, 10, 11] [(0, 30, 30)]) σ0 (r)) := by
  unfold fX12_portTo_115
  exact zpc_if (fun _ => zpc_bi (fU_fX12_lineAt h) (fun σ4 v5 hσ4 => zpc_if (fun _ => fU_fX12_portTo_129 hσ4) (fun _ => fU_fX12_portTo_140 hσ4))) (fun _ => fU_fX12_portTo_140 h)
theorem fU_fX12_portTo_75 {σ0 : zSt} {σ : zSt} {x2 : Int32} {x3 : Int32} (h : (zQ [3, 5, 6, 7, 8, 9, 21, 22, 23, 24, 25, 26] [(0, 0, 0), (0, 31, 33)] [4, 10, 11] [(0, 30, 30)]) σ0 σ) : zpc (fX12_portTo_75 σ x2 x3) (fun r => (zQ [3, 5, 6, 7, 8, 9, 21, 22, 23, 24, 25, 26] [(0, 0, 0), (0, 31, 33)] [4, 10, 11] [(0, 30, 30)]) σ0 (r)) := by
  unfold fX12_portTo_75
  exact zpc_if (fun _ => fU_fX12_portTo_267 h) (fun _ => zpc_bi (fU_fX12_lineAt h) (fun σ6 v7 hσ6 => zpc_bi (fU_fX12_lineAt hσ6) (fun σ8 v9 hσ8 => zpc_ck (zpc_bs (zQ.wi hσ8 rfl) (fun σ10 hσ10 => zpc_if (fun _ => zpc_bi (fU_fX12_lineAt hσ10) (fun σ11 v12 hσ11 => zpc_if (fun _ => fU_fX12_portTo_129 hσ11) (fun _ => fU_fX12_portTo_115 hσ11))) (fun _ => fU_fX12_portTo_115 hσ10))))))
theorem fU_fX12_portTo_50 {σ0 : zSt} {σ : zSt} {x1 : Int32} {x2 : Int32} {x3 : Int32} (h : (zQ [3, 5, 6, 7, 8, 9, 21, 22, 23, 24, 25, 26] [(0, 0, 0), (0, 31, 33)] [4, 10, 11] [(0, 30, 30)]) σ0 σ) : zpc (fX12_portTo_50 σ x1 x2 x3) (fun r => (zQ [3, 5, 6, 7, 8, 9, 21, 22, 23, 24, 25, 26] [(0, 0, 0), (0, 31, 33)] [4, 10, 11] [(0, 30, 30)]) σ0 (r)) := by
  unfold fX12_portTo_50
  exact zpc_if (fun _ => zpc_if (fun _ => zpc_ck (zpc_bs (zQ.wi h rfl) (fun σ13 hσ13 => fU_fX12_portTo_267 hσ13))) (fun _ => fU_fX12_portTo_75 h)) (fun _ => fU_fX12_portTo_75 h)
theorem fU_fX12_portTo_12 {σ0 : zSt} {σ : zSt} {x1 : Int32} {x2 : Int32} {s0 : Int32} (h : (zQ [3, 5, 6, 7, 8, 9, 21, 22, 23, 24, 25, 26] [(0, 0, 0), (0, 31, 33)] [4, 10, 11] [(0, 30, 30)]) σ0 σ) : zpc (fX12_portTo_12 σ x1 x2 s0) (fun r => (zQ [3, 5, 6, 7, 8, 9, 21, 22, 23, 24, 25, 26] [(0, 0, 0), (0, 31, 33)] [4, 10, 11] [(0, 30, 30)]) σ0 (r)) := by
  unfold fX12_portTo_12
  exact zpc_if (fun _ => zpc_if (fun _ => zpc_if (fun _ => zpc_if (fun _ => fU_fX12_portTo_267 h) (fun _ => zpc_if (fun _ => fU_fX12_portTo_267 h) (fun _ => zpc_if (fun _ => fU_fX12_portTo_267 h) (fun _ => zpc_if (fun _ => zpc_ck (zpc_ck (zpc_bs (zQ.wi h rfl) (fun σ16 hσ16 => fU_fX12_portTo_267 hσ16)))) (fun _ => zpc_if (fun _ => zpc_ck (zpc_ck (zpc_bs (zQ.wi h rfl) (fun σ15 hσ15 => fU_fX12_portTo_267 hσ15)))) (fun _ => zpc_ck (zpc_ck (zpc_bs (zQ.wi h rfl) (fun σ14 hσ14 => fU_fX12_portTo_267 hσ14))))))))) (fun _ => zpc_if (fun _ => zpc_bu (fU_fX12_dataTo h) (fun σ17 hσ17 => fU_fX12_portTo_267 hσ17)) (fun _ => zpc_bu (fU_fX12_control h) (fun σ18 hσ18 => fU_fX12_portTo_267 hσ18)))) (fun _ => zpc_bu (fU_fX12_noise h) (fun σ19 hσ19 => fU_fX12_portTo_267 hσ19))) (fun _ => zpc_if (fun _ => zpc_if (fun _ => fU_fX12_portTo_50 h) (fun _ => zpc_if (fun _ => fU_fX12_portTo_50 h) (fun _ => zpc_ck (zpc_bs (zQ.wi h rfl) (fun σ20 hσ20 => fU_fX12_portTo_267 hσ20))))) (fun _ => fU_fX12_portTo_50 h))
theorem fU_fX12_portTo {σ0 : zSt} {σ : zSt} {x1 : Int32} {x2 : Int32} (h : (zQ [3, 5, 6, 7, 8, 9, 21, 22, 23, 24, 25, 26] [(0, 0, 0), (0, 31, 33)] [4, 10, 11] [(0, 30, 30)]) σ0 σ) : zpc (fX12_portTo σ x1 x2) (fun r => (zQ [3, 5, 6, 7, 8, 9, 21, 22, 23, 24, 25, 26] [(0, 0, 0), (0, 31, 33)] [4, 10, 11] [(0, 30, 30)]) σ0 (r)) := by
  unfold fX12_portTo
  exact zpc_ck (zpc_if (fun _ => fU_fX12_portTo_12 h) (fun _ => fU_fX12_portTo_12 h))
theorem fU_fX12_turned_118 {σ0 : zSt} {σ : zSt} {s0 : Int32} (h : (zQ [3, 5, 6, 7, 8, 9, 21, 22, 23, 24, 25, 26] [(0, 0, 0), (0, 31, 33)] [4, 10, 11] [(0, 30, 30)]) σ0 σ) : zpc (fX12_turned_118 σ s0) (fun r => (zQ [3, 5, 6, 7, 8, 9, 21, 22, 23, 24, 25, 26] [(0, 0, 0), (0, 31, 33)] [4, 10, 11] [(0, 30, 30)]) σ0 (r.1)) := by
  unfold fX12_turned_118
  exact zpc_some h
theorem fU_fX12_turned_89 {σ0 : zSt} {σ : zSt} {x2 : Int32} {x3 : Int32} {x5 : Int32} {s0 : Int32} {s1 : Int32} (h : (zQ [3, 5, 6, 7, 8, 9, 21, 22, 23, 24, 25, 26] [(0, 0, 0), (0, 31, 33)] [4, 10, 11] [(0, 30, 30)]) σ0 σ) : zpc (fX12_turned_89 σ x2 x3 x5 s0 s1) (fun r => (zQ [3, 5, 6, 7, 8, 9, 21, 22, 23, 24, 25, 26] [(0, 0, 0), (0, 31, 33)] [4, 10, 11] [(0, 30, 30)]) σ0 (r.1)) := by
  unfold fX12_turned_89
  exact zpc_bu (fU_fX12_put h) (fun σ1 hσ1 => zpc_if (fun _ => fU_fX12_turned_118 hσ1) (fun _ => fU_fX12_turned_118 hσ1))
theorem fU_fX12_turned_74 {σ0 : zSt} {σ : zSt} {x2 : Int32} {x3 : Int32} {x4 : Int32} {s0 : Int32} (h : (zQ [3, 5, 6, 7, 8, 9, 21, 22, 23, 24, 25, 26] [(0, 0, 0), (0, 31, 33)] [4, 10, 11] [(0, 30, 30)]) σ0 σ) : zpc (fX12_turned_74 σ x2 x3 x4 s0) (fun r => (zQ [3, 5, 6, 7, 8, 9, 21, 22, 23, 24, 25, 26] [(0, 0, 0), (0, 31, 33)] [4, 10, 11] [(0, 30, 30)]) σ0 (r.1)) := by
  unfold fX12_turned_74
  exact zpc_if (fun _ => fU_fX12_turned_89 h) (fun _ => fU_fX12_turned_89 h)
theorem fU_fX12_turned_26 {σ0 : zSt} {σ : zSt} {x1 : Int32} {x2 : Int32} {x3 : Int32} {s0 : Int32} (h : (zQ [3, 5, 6, 7, 8, 9, 21, 22, 23, 24, 25, 26] [(0, 0, 0), (0, 31, 33)] [4, 10, 11] [(0, 30, 30)]) σ0 σ) : zpc (fX12_turned_26 σ x1 x2 x3 s0) (fun r => (zQ [3, 5, 6, 7, 8, 9, 21, 22, 23, 24, 25, 26] [(0, 0, 0), (0, 31, 33)] [4, 10, 11] [(0, 30, 30)]) σ0 (r.1)) := by
  unfold fX12_turned_26
  exact zpc_if (fun _ => zpc_if (fun _ => zpc_if (fun _ => fU_fX12_turned_74 h) (fun _ => zpc_if (fun _ => fU_fX12_turned_74 h) (fun _ => fU_fX12_turned_74 h))) (fun _ => zpc_bi (fU_fX12_flag h) (fun σ2 v3 hσ2 => fU_fX12_turned_74 hσ2))) (fun _ => fU_fX12_turned_74 h)
theorem fU_fX12_turned_11 {σ0 : zSt} {σ : zSt} {x1 : Int32} {x2 : Int32} {s0 : Int32} (h : (zQ [3, 5, 6, 7, 8, 9, 21, 22, 23, 24, 25, 26] [(0, 0, 0), (0, 31, 33)] [4, 10, 11] [(0, 30, 30)]) σ0 σ) : zpc (fX12_turned_11 σ x1 x2 s0) (fun r => (zQ [3, 5, 6, 7, 8, 9, 21, 22, 23, 24, 25, 26] [(0, 0, 0), (0, 31, 33)] [4, 10, 11] [(0, 30, 30)]) σ0 (r.1)) := by
  unfold fX12_turned_11
  exact zpc_if (fun _ => fU_fX12_turned_26 h) (fun _ => fU_fX12_turned_26 h)
theorem fU_fX12_turned {σ0 : zSt} {σ : zSt} {x1 : Int32} {x2 : Int32} (h : (zQ [3, 5, 6, 7, 8, 9, 21, 22, 23, 24, 25, 26] [(0, 0, 0), (0, 31, 33)] [4, 10, 11] [(0, 30, 30)]) σ0 σ) : zpc (fX12_turned σ x1 x2) (fun r => (zQ [3, 5, 6, 7, 8, 9, 21, 22, 23, 24, 25, 26] [(0, 0, 0), (0, 31, 33)] [4, 10, 11] [(0, 30, 30)]) σ0 (r.1)) := by
  unfold fX12_turned
  exact zpc_ck (zpc_if (fun _ => fU_fX12_turned_11 h) (fun _ => fU_fX12_turned_11 h))
theorem fU_fX12_turn_122 {σ0 : zSt} {σ : zSt} {s0 : Int32} (h : (zQ [3, 5, 6, 7, 8, 9, 21, 22, 23, 24, 25, 26] [(0, 0, 0), (0, 31, 33)] [4, 10, 11] [(0, 30, 30)]) σ0 σ) : zpc (fX12_turn_122 σ s0) (fun r => (zQ [3, 5, 6, 7, 8, 9, 21, 22, 23, 24, 25, 26] [(0, 0, 0), (0, 31, 33)] [4, 10, 11] [(0, 30, 30)]) σ0 (r.1)) := by
  unfold fX12_turn_122
  exact zpc_some h
theorem fU_fX12_turn_106 {σ0 : zSt} {σ : zSt} {x3 : Int32} {s0 : Int32} (h : (zQ [3, 5, 6, 7, 8, 9, 21, 22, 23, 24, 25, 26] [(0, 0, 0), (0, 31, 33)] [4, 10, 11] [(0, 30, 30)]) σ0 σ) : zpc (fX12_turn_106 σ x3 s0) (fun r => (zQ [3, 5, 6, 7, 8, 9, 21, 22, 23, 24, 25, 26] [(0, 0, 0), (0, 31, 33)] [4, 10, 11] [(0, 30, 30)]) σ0 (r.1)) := by
  unfold fX12_turn_106
  exact zpc_bu (fU_fX12_xy h) (fun σ1 hσ1 => zpc_if (fun _ => fU_fX12_turn_122 hσ1) (fun _ => fU_fX12_turn_122 hσ1))
theorem fU_fX12_turn_69 {σ0 : zSt} {σ : zSt} {x3 : Int32} {x4 : Int32} {s0 : Int32} {s1 : Int32} (h : (zQ [3, 5, 6, 7, 8, 9, 21, 22, 23, 24, 25, 26] [(0, 0, 0), (0, 31, 33)] [4, 10, 11] [(0, 30, 30)]) σ0 σ) : zpc (fX12_turn_69 σ x3 x4 s0 s1) (fun r => (zQ [3, 5, 6, 7, 8, 9, 21, 22, 23, 24, 25, 26] [(0, 0, 0), (0, 31, 33)] [4, 10, 11] [(0, 30, 30)]) σ0 (r.1)) := by
  unfold fX12_turn_69
  exact zpc_bu (fU_fX12_put h) (fun σ2 hσ2 => zpc_bu (fU_fX12_put hσ2) (fun σ3 hσ3 => zpc_bu (fU_fX12_put hσ3) (fun σ4 hσ4 => zpc_if (fun _ => zpc_ck (fU_fX12_turn_106 hσ4)) (fun _ => fU_fX12_turn_106 hσ4))))
theorem fU_fX12_turn_219 {σ0 : zSt} {σ : zSt} {s0 : Int32} (h : (zQ [3, 5, 6, 7, 8, 9, 21, 22, 23, 24, 25, 26] [(0, 0, 0), (0, 31, 33)] [4, 10, 11] [(0, 30, 30)]) σ0 σ) : zpc (fX12_turn_219 σ s0) (fun r => (zQ [3, 5, 6, 7, 8, 9, 21, 22, 23, 24, 25, 26] [(0, 0, 0), (0, 31, 33)] [4, 10, 11] [(0, 30, 30)]) σ0 (r.1)) := by
  unfold fX12_turn_219
  exact zpc_some h
theorem fU_fX12_turn_193 {σ0 : zSt} {σ : zSt} {x3 : Int32} {x4 : Int32} (h : (zQ [3, 5, 6, 7, 8, 9, 21, 22, 23, 24, 25, 26] [(0, 0, 0), (0, 31, 33)] [4, 10, 11] [(0, 30, 30)]) σ0 σ) : zpc (fX12_turn_193 σ x3 x4) (fun r => (zQ [3, 5, 6, 7, 8, 9, 21, 22, 23, 24, 25, 26] [(0, 0, 0), (0, 31, 33)] [4, 10, 11] [(0, 30, 30)]) σ0 (r.1)) := by
  unfold fX12_turn_193
  exact zpc_bu (fU_fX12_rTo h) (fun σ5 hσ5 => zpc_bs (zQ.wi hσ5 rfl) (fun σ6 hσ6 => zpc_if (fun _ => fU_fX12_turn_219 hσ6) (fun _ => fU_fX12_turn_219 hσ6)))
theorem fU_fX12_turn_191 {σ0 : zSt} {σ : zSt} {x3 : Int32} {s0 : Int32} (h : (zQ [3, 5, 6, 7, 8, 9, 21, 22, 23, 24, 25, 26] [(0, 0, 0), (0, 31, 33)] [4, 10, 11] [(0, 30, 30)]) σ0 σ) : zpc (fX12_turn_191 σ x3 s0) (fun r => (zQ [3, 5, 6, 7, 8, 9, 21, 22, 23, 24, 25, 26] [(0, 0, 0), (0, 31, 33)] [4, 10, 11] [(0, 30, 30)]) σ0 (r.1)) := by
  unfold fX12_turn_191
  exact fU_fX12_turn_193 h
theorem fU_fX12_turn_23 {σ0 : zSt} {σ : zSt} {x1 : Int32} {x2 : Int32} {s0 : Int32} (h : (zQ [3, 5, 6, 7, 8, 9, 21, 22, 23, 24, 25, 26] [(0, 0, 0), (0, 31, 33)] [4, 10, 11] [(0, 30, 30)]) σ0 σ) : zpc (fX12_turn_23 σ x1 x2 s0) (fun r => (zQ [3, 5, 6, 7, 8, 9, 21, 22, 23, 24, 25, 26] [(0, 0, 0), (0, 31, 33)] [4, 10, 11] [(0, 30, 30)]) σ0 (r.1)) := by
  unfold fX12_turn_23
  exact zpc_bi (fU_fX12_r h) (fun σ7 v8 hσ7 => zpc_bv (fun v9 _ => zpc_if (fun _ => zpc_bv (fun v18 _ => zpc_bu (fU_fX12_by hσ7) (fun σ19 hσ19 => zpc_if (fun _ => fU_fX12_turn_69 hσ19) (fun _ => fU_fX12_turn_69 hσ19)))) (fun _ => zpc_if (fun _ => zpc_bi (fU_fX12_turned hσ7) (fun σ10 v11 hσ10 => zpc_bu (fU_fX12_by hσ10) (fun σ12 hσ12 => zpc_bi (fU_fX12_isEven hσ12) (fun σ13 v14 hσ13 => zpc_bu (fU_fX12_put hσ13) (fun σ15 hσ15 => zpc_bu (fU_fX12_put hσ15) (fun σ16 hσ16 => zpc_bu (fU_fX12_put hσ16) (fun σ17 hσ17 => fU_fX12_turn_193 hσ17))))))) (fun _ => zpc_if (fun _ => fU_fX12_turn_191 hσ7) (fun _ => fU_fX12_turn_191 hσ7)))))
theorem fU_fX12_turn {σ0 : zSt} {σ : zSt} {x1 : Int32} (h : (zQ [3, 5, 6, 7, 8, 9, 21, 22, 23, 24, 25, 26] [(0, 0, 0), (0, 31, 33)] [4, 10, 11] [(0, 30, 30)]) σ0 σ) : zpc (fX12_turn σ x1) (fun r => (zQ [3, 5, 6, 7, 8, 9, 21, 22, 23, 24, 25, 26] [(0, 0, 0), (0, 31, 33)] [4, 10, 11] [(0, 30, 30)]) σ0 (r.1)) := by
  unfold fX12_turn
  exact zpc_bv (fun v20 _ => zpc_if (fun _ => fU_fX12_turn_23 h) (fun _ => fU_fX12_turn_23 h))
theorem fU_fX12_turns {σ0 : zSt} {σ : zSt} (h : (zQ [3, 5, 6, 7, 8, 9, 21, 22, 23, 24, 25, 26] [(0, 0, 0), (0, 31, 33)] [4, 10, 11] [(0, 30, 30)]) σ0 σ) : zpc (fX12_turns σ) (fun r => (zQ [3, 5, 6, 7, 8, 9, 21, 22, 23, 24, 25, 26] [(0, 0, 0), (0, 31, 33)] [4, 10, 11] [(0, 30, 30)]) σ0 (r.1)) := by
  unfold fX12_turns
  exact zpc_bi (fU_fX12_fetch h) (fun σ1 v2 hσ1 => zpc_bi (fU_fX12_turn hσ1) (fun σ3 v4 hσ3 => zpc_some hσ3))
theorem fU_fX12_three_200 {σ0 : zSt} {σ : zSt} {s0 : Int32} (h : (zQ [3, 5, 6, 7, 8, 9, 21, 22, 23, 24, 25, 26] [(0, 0, 0), (0, 31, 33)] [4, 10, 11] [(0, 30, 30)]) σ0 σ) : zpc (fX12_three_200 σ s0) (fun r => (zQ [3, 5, 6, 7, 8, 9, 21, 22, 23, 24, 25, 26] [(0, 0, 0), (0, 31, 33)] [4, 10, 11] [(0, 30, 30)]) σ0 (r.1)) := by
  unfold fX12_three_200
  exact zpc_some h
theorem fU_fX12_three_189 {σ0 : zSt} {σ : zSt} {x3 : Int32} (h : (zQ [3, 5, 6, 7, 8, 9, 21, 22, 23, 24, 25, 26] [(0, 0, 0), (0, 31, 33)] [4, 10, 11] [(0, 30, 30)]) σ0 σ) : zpc (fX12_three_189 σ x3) (fun r => (zQ [3, 5, 6, 7, 8, 9, 21, 22, 23, 24, 25, 26] [(0, 0, 0), (0, 31, 33)] [4, 10, 11] [(0, 30, 30)]) σ0 (r.1)) := by
  unfold fX12_three_189
  exact zpc_if (fun _ => fU_fX12_three_200 h) (fun _ => fU_fX12_three_200 h)
theorem fU_fX12_three_173 {σ0 : zSt} {σ : zSt} {x3 : Int32} (h : (zQ [3, 5, 6, 7, 8, 9, 21, 22, 23, 24, 25, 26] [(0, 0, 0), (0, 31, 33)] [4, 10, 11] [(0, 30, 30)]) σ0 σ) : zpc (fX12_three_173 σ x3) (fun r => (zQ [3, 5, 6, 7, 8, 9, 21, 22, 23, 24, 25, 26] [(0, 0, 0), (0, 31, 33)] [4, 10, 11] [(0, 30, 30)]) σ0 (r.1)) := by
  unfold fX12_three_173
  exact zpc_if (fun _ => zpc_bi (fU_fX12_hl h) (fun σ1 v2 hσ1 => zpc_ck (zpc_bs (zQ.wi hσ1 rfl) (fun σ3 hσ3 => fU_fX12_three_189 hσ3)))) (fun _ => fU_fX12_three_189 h)
theorem fU_fX12_three_157 {σ0 : zSt} {σ : zSt} {x3 : Int32} (h : (zQ [3, 5, 6, 7, 8, 9, 21, 22, 23, 24, 25, 26] [(0, 0, 0), (0, 31, 33)] [4, 10, 11] [(0, 30, 30)]) σ0 σ) : zpc (fX12_three_157 σ x3) (fun r => (zQ [3, 5, 6, 7, 8, 9, 21, 22, 23, 24, 25, 26] [(0, 0, 0), (0, 31, 33)] [4, 10, 11] [(0, 30, 30)]) σ0 (r.1)) := by
  unfold fX12_three_157
  exact zpc_if (fun _ => zpc_bi (fU_fX12_hl h) (fun σ4 v5 hσ4 => zpc_ck (zpc_bs (zQ.wi hσ4 rfl) (fun σ6 hσ6 => fU_fX12_three_173 hσ6)))) (fun _ => fU_fX12_three_173 h)
theorem fU_fX12_three_128_body {σ0 : zSt} {k128 : zSt → Int32 → Int32 → Option (zSt × Int32)} (hk128 : ∀ (y0 : zSt) (y1 : Int32) (y2 : Int32), (zQ [3, 5, 6, 7, 8, 9, 21, 22, 23, 24, 25, 26] [(0, 0, 0), (0, 31, 33)] [4, 10, 11] [(0, 30, 30)]) σ0 y0 → zpc (k128 y0 y1 y2) (fun r => (zQ [3, 5, 6, 7, 8, 9, 21, 22, 23, 24, 25, 26] [(0, 0, 0), (0, 31, 33)] [4, 10, 11] [(0, 30, 30)]) σ0 (r.1))) {σ : zSt} {x3 : Int32} {x4 : Int32} (h : (zQ [3, 5, 6, 7, 8, 9, 21, 22, 23, 24, 25, 26] [(0, 0, 0), (0, 31, 33)] [4, 10, 11] [(0, 30, 30)]) σ0 σ) : zpc (fX12_three_128_body k128 σ x3 x4) (fun r => (zQ [3, 5, 6, 7, 8, 9, 21, 22, 23, 24, 25, 26] [(0, 0, 0), (0, 31, 33)] [4, 10, 11] [(0, 30, 30)]) σ0 (r.1)) := by
  unfold fX12_three_128_body
  exact zpc_if (fun _ => zpc_if (fun _ => fU_fX12_three_157 h) (fun _ => zpc_bu (fU_fX12_change h) (fun σ7 hσ7 => zpc_bv (fun v8 _ => hk128 _ _ _ hσ7)))) (fun _ => fU_fX12_three_157 h)
theorem fU_fX12_three_128 {σ0 : zSt} : ∀ (n : Nat) (y0 : zSt) (y1 : Int32) (y2 : Int32), (zQ [3, 5, 6, 7, 8, 9, 21, 22, 23, 24, 25, 26] [(0, 0, 0), (0, 31, 33)] [4, 10, 11] [(0, 30, 30)]) σ0 y0 → zpc (fX12_three_128 n y0 y1 y2) (fun r => (zQ [3, 5, 6, 7, 8, 9, 21, 22, 23, 24, 25, 26] [(0, 0, 0), (0, 31, 33)] [4, 10, 11] [(0, 30, 30)]) σ0 (r.1)) := by
  intro n
  induction n with
  | zero => intro y0 y1 y2 h; exact zpc_none
  | succ n ih => intro y0 y1 y2 h; exact fU_fX12_three_128_body ih h
theorem fU_fX12_three_239 {σ0 : zSt} {σ : zSt} (h : (zQ [3, 5, 6, 7, 8, 9, 21, 22, 23, 24, 25, 26] [(0, 0, 0), (0, 31, 33)] [4, 10, 11] [(0, 30, 30)]) σ0 σ) : zpc (fX12_three_239 σ) (fun r => (zQ [3, 5, 6, 7, 8, 9, 21, 22, 23, 24, 25, 26] [(0, 0, 0), (0, 31, 33)] [4, 10, 11] [(0, 30, 30)]) σ0 (r.1)) := by
  unfold fX12_three_239
  exact zpc_some h
theorem fU_fX12_three_502 {σ0 : zSt} {σ : zSt} (h : (zQ [3, 5, 6, 7, 8, 9, 21, 22, 23, 24, 25, 26] [(0, 0, 0), (0, 31, 33)] [4, 10, 11] [(0, 30, 30)]) σ0 σ) : zpc (fX12_three_502 σ) (fun r => (zQ [3, 5, 6, 7, 8, 9, 21, 22, 23, 24, 25, 26] [(0, 0, 0), (0, 31, 33)] [4, 10, 11] [(0, 30, 30)]) σ0 (r.1)) := by
  unfold fX12_three_502
  exact zpc_some h
theorem fU_fX12_three_88 {σ0 : zSt} {σ : zSt} {x1 : Int32} {x2 : Int32} {x3 : Int32} (h : (zQ [3, 5, 6, 7, 8, 9, 21, 22, 23, 24, 25, 26] [(0, 0, 0), (0, 31, 33)] [4, 10, 11] [(0, 30, 30)]) σ0 σ) : zpc (fX12_three_88 σ x1 x2 x3) (fun r => (zQ [3, 5, 6, 7, 8, 9, 21, 22, 23, 24, 25, 26] [(0, 0, 0), (0, 31, 33)] [4, 10, 11] [(0, 30, 30)]) σ0 (r.1)) := by
  unfold fX12_three_88
  exact zpc_if (fun _ => zpc_if (fun _ => zpc_bi (fU_fX12_pop h) (fun σ43 v44 hσ43 => zpc_ck (zpc_bs (zQ.wi hσ43 rfl) (fun σ45 hσ45 => zpc_ck (zpc_ck (zpc_bs (zQ.wi hσ45 rfl) (fun σ46 hσ46 => zpc_some hσ46))))))) (fun _ => fU_fX12_three_128 _ _ _ _ h)) (fun _ => zpc_if (fun _ => zpc_bi (fU_fX12_nextWord h) (fun σ37 v38 hσ37 => zpc_ck (zpc_bs (zQ.wi hσ37 rfl) (fun σ39 hσ39 => zpc_bi (fU_fX12_cc hσ39) (fun σ40 v41 hσ40 => zpc_if (fun _ => fU_fX12_three_239 hσ40) (fun _ => zpc_ck (zpc_ck (zpc_bs (zQ.wi hσ40 rfl) (fun σ42 hσ42 => fU_fX12_three_239 hσ42))))))))) (fun _ => zpc_if (fun _ => zpc_bi (fU_fX12_nextWord h) (fun σ9 v10 hσ9 => zpc_ck (zpc_bs (zQ.wi hσ9 rfl) (fun σ11 hσ11 => zpc_ck (zpc_ck (zpc_bs (zQ.wi hσ11 rfl) (fun σ12 hσ12 => zpc_some hσ12))))))) (fun _ => zpc_if (fun _ => zpc_bi (fU_fX12_turns h) (fun σ13 v14 hσ13 => zpc_some hσ13)) (fun _ => zpc_if (fun _ => zpc_bi (fU_fX12_next h) (fun σ15 v16 hσ15 => zpc_ck (zpc_bu (fU_fX12_portTo hσ15) (fun σ17 hσ17 => zpc_ck (zpc_ck (zpc_bs (zQ.wi hσ17 rfl) (fun σ18 hσ18 => zpc_some hσ18))))))) (fun _ => zpc_if (fun _ => zpc_bi (fU_fX12_next h) (fun σ19 v20 hσ19 => zpc_ck (zpc_ck (zpc_bs (zQ.wi hσ19 rfl) (fun σ21 hσ21 => zpc_bi (fU_fX12_port hσ21) (fun σ22 v23 hσ22 => zpc_ck (zpc_bs (zQ.wi hσ22 rfl) (fun σ24 hσ24 => zpc_some hσ24)))))))) (fun _ => zpc_if (fun _ => zpc_ck (zpc_bi (fU_fX12_word h) (fun σ25 v26 hσ25 => zpc_ck (zpc_bi (fU_fX12_hl hσ25) (fun σ27 v28 hσ27 => zpc_bu (fU_fX12_wordTo hσ27) (fun σ29 hσ29 => zpc_bu (fU_fX12_hlTo hσ29) (fun σ30 hσ30 => zpc_ck (zpc_bs (zQ.wi hσ30 rfl) (fun σ31 hσ31 => zpc_some hσ31))))))))) (fun _ => zpc_if (fun _ => zpc_bu (fU_fX12_change h) (fun σ32 hσ32 => zpc_bu (fU_fX12_change hσ32) (fun σ33 hσ33 => zpc_some hσ33))) (fun _ => zpc_ck (zpc_bs (zQ.wi h rfl) (fun σ34 hσ34 => zpc_ck (zpc_bs (zQ.wi hσ34 rfl) (fun σ35 hσ35 => zpc_if (fun _ => zpc_ck (zpc_bs (zQ.wi hσ35 rfl) (fun σ36 hσ36 => fU_fX12_three_502 hσ36))) (fun _ => fU_fX12_three_502 hσ35)))))))))))))
theorem fU_fX12_three_85 {σ0 : zSt} {σ : zSt} (h : (zQ [3, 5, 6, 7, 8, 9, 21, 22, 23, 24, 25, 26] [(0, 0, 0), (0, 31, 33)] [4, 10, 11] [(0, 30, 30)]) σ0 σ) : zpc (fX12_three_85 σ) (fun r => (zQ [3, 5, 6, 7, 8, 9, 21, 22, 23, 24, 25, 26] [(0, 0, 0), (0, 31, 33)] [4, 10, 11] [(0, 30, 30)]) σ0 (r.1)) := by
  unfold fX12_three_85
  exact zpc_some h
theorem fU_fX12_three {σ0 : zSt} {σ : zSt} {x1 : Int32} {x2 : Int32} (h : (zQ [3, 5, 6, 7, 8, 9, 21, 22, 23, 24, 25, 26] [(0, 0, 0), (0, 31, 33)] [4, 10, 11] [(0, 30, 30)]) σ0 σ) : zpc (fX12_three σ x1 x2) (fun r => (zQ [3, 5, 6, 7, 8, 9, 21, 22, 23, 24, 25, 26] [(0, 0, 0), (0, 31, 33)] [4, 10, 11] [(0, 30, 30)]) σ0 (r.1)) := by
  unfold fX12_three
  exact zpc_bv (fun v47 _ => zpc_if (fun _ => zpc_bi (fU_fX12_cc h) (fun σ52 v53 hσ52 => zpc_if (fun _ => zpc_some hσ52) (fun _ => zpc_bi (fU_fX12_pop hσ52) (fun σ54 v55 hσ54 => zpc_ck (zpc_bs (zQ.wi hσ54 rfl) (fun σ56 hσ56 => zpc_ck (zpc_ck (zpc_bs (zQ.wi hσ56 rfl) (fun σ57 hσ57 => zpc_some hσ57))))))))) (fun _ => zpc_if (fun _ => zpc_ck (zpc_if (fun _ => zpc_bi (fU_fX12_pop h) (fun σ48 v49 hσ48 => zpc_if (fun _ => zpc_bu (fU_fX12_pairTo hσ48) (fun σ51 hσ51 => fU_fX12_three_85 hσ51)) (fun _ => zpc_bu (fU_fX12_rpTo hσ48) (fun σ50 hσ50 => fU_fX12_three_85 hσ50)))) (fun _ => fU_fX12_three_88 h))) (fun _ => fU_fX12_three_88 h)))
theorem fU_fX12_does_343 {σ0 : zSt} {σ : zSt} (h : (zQ [3, 5, 6, 7, 8, 9, 21, 22, 23, 24, 25, 26] [(0, 0, 0), (0, 31, 33)] [4, 10, 11] [(0, 30, 30)]) σ0 σ) : zpc (fX12_does_343 σ) (fun r => (zQ [3, 5, 6, 7, 8, 9, 21, 22, 23, 24, 25, 26] [(0, 0, 0), (0, 31, 33)] [4, 10, 11] [(0, 30, 30)]) σ0 (r)) := by
  unfold fX12_does_343
  exact zpc_some h
theorem fU_fX12_does_314 {σ0 : zSt} {σ : zSt} {x1 : Int32} {x2 : Int32} {x6 : Int32} {s0 : Int32} {s1 : Int32} (h : (zQ [3, 5, 6, 7, 8, 9, 21, 22, 23, 24, 25, 26] [(0, 0, 0), (0, 31, 33)] [4, 10, 11] [(0, 30, 30)]) σ0 σ) : zpc (fX12_does_314 σ x1 x2 x6 s0 s1) (fun r => (zQ [3, 5, 6, 7, 8, 9, 21, 22, 23, 24, 25, 26] [(0, 0, 0), (0, 31, 33)] [4, 10, 11] [(0, 30, 30)]) σ0 (r)) := by
  unfold fX12_does_314
  exact zpc_bu (fU_fX12_put h) (fun σ1 hσ1 => zpc_if (fun _ => zpc_bu (fU_fX12_xy hσ1) (fun σ3 hσ3 => fU_fX12_does_343 hσ3)) (fun _ => zpc_ck (zpc_bs (zQ.wi hσ1 rfl) (fun σ2 hσ2 => fU_fX12_does_343 hσ2))))
theorem fU_fX12_does_299 {σ0 : zSt} {σ : zSt} {x1 : Int32} {x2 : Int32} {x5 : Int32} {x6 : Int32} {s0 : Int32} {s1 : Int32} (h : (zQ [3, 5, 6, 7, 8, 9, 21, 22, 23, 24, 25, 26] [(0, 0, 0), (0, 31, 33)] [4, 10, 11] [(0, 30, 30)]) σ0 σ) : zpc (fX12_does_299 σ x1 x2 x5 x6 s0 s1) (fun r => (zQ [3, 5, 6, 7, 8, 9, 21, 22, 23, 24, 25, 26] [(0, 0, 0), (0, 31, 33)] [4, 10, 11] [(0, 30, 30)]) σ0 (r)) := by
  unfold fX12_does_299
  exact zpc_bu (fU_fX12_put h) (fun σ4 hσ4 => zpc_if (fun _ => fU_fX12_does_314 hσ4) (fun _ => fU_fX12_does_314 hσ4))
theorem fU_fX12_does_294 {σ0 : zSt} {σ : zSt} {x1 : Int32} {x2 : Int32} {x5 : Int32} {x6 : Int32} {s0 : Int32} (h : (zQ [3, 5, 6, 7, 8, 9, 21, 22, 23, 24, 25, 26] [(0, 0, 0), (0, 31, 33)] [4, 10, 11] [(0, 30, 30)]) σ0 σ) : zpc (fX12_does_294 σ x1 x2 x5 x6 s0) (fun r => (zQ [3, 5, 6, 7, 8, 9, 21, 22, 23, 24, 25, 26] [(0, 0, 0), (0, 31, 33)] [4, 10, 11] [(0, 30, 30)]) σ0 (r)) := by
  unfold fX12_does_294
  exact fU_fX12_does_299 h
theorem fU_fX12_does_266 {σ0 : zSt} {σ : zSt} {x1 : Int32} {x2 : Int32} {x5 : Int32} {x6 : Int32} {s0 : Int32} (h : (zQ [3, 5, 6, 7, 8, 9, 21, 22, 23, 24, 25, 26] [(0, 0, 0), (0, 31, 33)] [4, 10, 11] [(0, 30, 30)]) σ0 σ) : zpc (fX12_does_266 σ x1 x2 x5 x6 s0) (fun r => (zQ [3, 5, 6, 7, 8, 9, 21, 22, 23, 24, 25, 26] [(0, 0, 0), (0, 31, 33)] [4, 10, 11] [(0, 30, 30)]) σ0 (r)) := by
  unfold fX12_does_266
  exact zpc_bu (fU_fX12_by h) (fun σ5 hσ5 => zpc_if (fun _ => fU_fX12_does_294 hσ5) (fun _ => zpc_if (fun _ => fU_fX12_does_299 hσ5) (fun _ => fU_fX12_does_294 hσ5)))
theorem fU_fX12_does_231 {σ0 : zSt} {σ : zSt} {x1 : Int32} {x2 : Int32} {x3 : Int32} {x4 : Int32} {x5 : Int32} {x6 : Int32} {s0 : Int32} {s1 : Int32} (h : (zQ [3, 5, 6, 7, 8, 9, 21, 22, 23, 24, 25, 26] [(0, 0, 0), (0, 31, 33)] [4, 10, 11] [(0, 30, 30)]) σ0 σ) : zpc (fX12_does_231 σ x1 x2 x3 x4 x5 x6 s0 s1) (fun r => (zQ [3, 5, 6, 7, 8, 9, 21, 22, 23, 24, 25, 26] [(0, 0, 0), (0, 31, 33)] [4, 10, 11] [(0, 30, 30)]) σ0 (r)) := by
  unfold fX12_does_231
  exact zpc_bu (fU_fX12_put h) (fun σ6 hσ6 => zpc_if (fun _ => zpc_bi (fU_fX12_signed hσ6) (fun σ7 v8 hσ7 => zpc_bi (fU_fX12_signed hσ7) (fun σ9 v10 hσ9 => fU_fX12_does_266 hσ9))) (fun _ => zpc_bi (fU_fX12_signed hσ6) (fun σ11 v12 hσ11 => zpc_bi (fU_fX12_signed hσ11) (fun σ13 v14 hσ13 => fU_fX12_does_266 hσ13))))
theorem fU_fX12_does_226 {σ0 : zSt} {σ : zSt} {x1 : Int32} {x2 : Int32} {x3 : Int32} {x4 : Int32} {x5 : Int32} {x6 : Int32} {s0 : Int32} (h : (zQ [3, 5, 6, 7, 8, 9, 21, 22, 23, 24, 25, 26] [(0, 0, 0), (0, 31, 33)] [4, 10, 11] [(0, 30, 30)]) σ0 σ) : zpc (fX12_does_226 σ x1 x2 x3 x4 x5 x6 s0) (fun r => (zQ [3, 5, 6, 7, 8, 9, 21, 22, 23, 24, 25, 26] [(0, 0, 0), (0, 31, 33)] [4, 10, 11] [(0, 30, 30)]) σ0 (r)) := by
  unfold fX12_does_226
  exact fU_fX12_does_231 h
theorem fU_fX12_does_208 {σ0 : zSt} {σ : zSt} {x1 : Int32} {x2 : Int32} {x3 : Int32} {x4 : Int32} {x5 : Int32} {x6 : Int32} {s0 : Int32} {s1 : Int32} (h : (zQ [3, 5, 6, 7, 8, 9, 21, 22, 23, 24, 25, 26] [(0, 0, 0), (0, 31, 33)] [4, 10, 11] [(0, 30, 30)]) σ0 σ) : zpc (fX12_does_208 σ x1 x2 x3 x4 x5 x6 s0 s1) (fun r => (zQ [3, 5, 6, 7, 8, 9, 21, 22, 23, 24, 25, 26] [(0, 0, 0), (0, 31, 33)] [4, 10, 11] [(0, 30, 30)]) σ0 (r)) := by
  unfold fX12_does_208
  exact zpc_bu (fU_fX12_put h) (fun σ15 hσ15 => zpc_if (fun _ => fU_fX12_does_226 hσ15) (fun _ => zpc_if (fun _ => fU_fX12_does_231 hσ15) (fun _ => fU_fX12_does_226 hσ15)))
theorem fU_fX12_does_154 {σ0 : zSt} {σ : zSt} {x1 : Int32} {x2 : Int32} {x3 : Int32} {x4 : Int32} {x5 : Int32} {s0 : Int32} (h : (zQ [3, 5, 6, 7, 8, 9, 21, 22, 23, 24, 25, 26] [(0, 0, 0), (0, 31, 33)] [4, 10, 11] [(0, 30, 30)]) σ0 σ) : zpc (fX12_does_154 σ x1 x2 x3 x4 x5 s0) (fun r => (zQ [3, 5, 6, 7, 8, 9, 21, 22, 23, 24, 25, 26] [(0, 0, 0), (0, 31, 33)] [4, 10, 11] [(0, 30, 30)]) σ0 (r)) := by
  unfold fX12_does_154
  exact zpc_if (fun _ => zpc_if (fun _ => fU_fX12_does_208 h) (fun _ => fU_fX12_does_208 h)) (fun _ => zpc_if (fun _ => fU_fX12_does_208 h) (fun _ => fU_fX12_does_208 h))
theorem fU_fX12_does_132 {σ0 : zSt} {σ : zSt} {x1 : Int32} {x2 : Int32} {x3 : Int32} {x4 : Int32} {s0 : Int32} (h : (zQ [3, 5, 6, 7, 8, 9, 21, 22, 23, 24, 25, 26] [(0, 0, 0), (0, 31, 33)] [4, 10, 11] [(0, 30, 30)]) σ0 σ) : zpc (fX12_does_132 σ x1 x2 x3 x4 s0) (fun r => (zQ [3, 5, 6, 7, 8, 9, 21, 22, 23, 24, 25, 26] [(0, 0, 0), (0, 31, 33)] [4, 10, 11] [(0, 30, 30)]) σ0 (r)) := by
  unfold fX12_does_132
  exact zpc_if (fun _ => fU_fX12_does_154 h) (fun _ => fU_fX12_does_154 h)
theorem fU_fX12_does_120 {σ0 : zSt} {σ : zSt} {x1 : Int32} {x2 : Int32} {x3 : Int32} {s0 : Int32} (h : (zQ [3, 5, 6, 7, 8, 9, 21, 22, 23, 24, 25, 26] [(0, 0, 0), (0, 31, 33)] [4, 10, 11] [(0, 30, 30)]) σ0 σ) : zpc (fX12_does_120 σ x1 x2 x3 s0) (fun r => (zQ [3, 5, 6, 7, 8, 9, 21, 22, 23, 24, 25, 26] [(0, 0, 0), (0, 31, 33)] [4, 10, 11] [(0, 30, 30)]) σ0 (r)) := by
  unfold fX12_does_120
  exact zpc_if (fun _ => fU_fX12_does_132 h) (fun _ => fU_fX12_does_132 h)
theorem fU_fX12_does_111 {σ0 : zSt} {σ : zSt} {x1 : Int32} {x2 : Int32} {x3 : Int32} (h : (zQ [3, 5, 6, 7, 8, 9, 21, 22, 23, 24, 25, 26] [(0, 0, 0), (0, 31, 33)] [4, 10, 11] [(0, 30, 30)]) σ0 σ) : zpc (fX12_does_111 σ x1 x2 x3) (fun r => (zQ [3, 5, 6, 7, 8, 9, 21, 22, 23, 24, 25, 26] [(0, 0, 0), (0, 31, 33)] [4, 10, 11] [(0, 30, 30)]) σ0 (r)) := by
  unfold fX12_does_111
  exact zpc_bi (fU_fX12_flag h) (fun σ16 v17 hσ16 => fU_fX12_does_120 hσ16)
theorem fU_fX12_does_101 {σ0 : zSt} {σ : zSt} {x1 : Int32} {x2 : Int32} {x3 : Int32} (h : (zQ [3, 5, 6, 7, 8, 9, 21, 22, 23, 24, 25, 26] [(0, 0, 0), (0, 31, 33)] [4, 10, 11] [(0, 30, 30)]) σ0 σ) : zpc (fX12_does_101 σ x1 x2 x3) (fun r => (zQ [3, 5, 6, 7, 8, 9, 21, 22, 23, 24, 25, 26] [(0, 0, 0), (0, 31, 33)] [4, 10, 11] [(0, 30, 30)]) σ0 (r)) := by
  unfold fX12_does_101
  exact zpc_if (fun _ => fU_fX12_does_111 h) (fun _ => zpc_if (fun _ => fU_fX12_does_111 h) (fun _ => fU_fX12_does_120 h))
theorem fU_fX12_does_71 {σ0 : zSt} {σ : zSt} {s0 : Int32} {s1 : Int32} (h : (zQ [3, 5, 6, 7, 8, 9, 21, 22, 23, 24, 25, 26] [(0, 0, 0), (0, 31, 33)] [4, 10, 11] [(0, 30, 30)]) σ0 σ) : zpc (fX12_does_71 σ s0 s1) (fun r => (zQ [3, 5, 6, 7, 8, 9, 21, 22, 23, 24, 25, 26] [(0, 0, 0), (0, 31, 33)] [4, 10, 11] [(0, 30, 30)]) σ0 (r)) := by
  unfold fX12_does_71
  exact zpc_bu (fU_fX12_put h) (fun σ18 hσ18 => zpc_ck (zpc_bi (fU_fX12_isEven hσ18) (fun σ19 v20 hσ19 => zpc_bu (fU_fX12_put hσ19) (fun σ21 hσ21 => zpc_bu (fU_fX12_put hσ21) (fun σ22 hσ22 => zpc_bu (fU_fX12_put hσ22) (fun σ23 hσ23 => zpc_some hσ23))))))
theorem fU_fX12_does_48 {σ0 : zSt} {σ : zSt} {x1 : Int32} {s0 : Int32} {s1 : Int32} (h : (zQ [3, 5, 6, 7, 8, 9, 21, 22, 23, 24, 25, 26] [(0, 0, 0), (0, 31, 33)] [4, 10, 11] [(0, 30, 30)]) σ0 σ) : zpc (fX12_does_48 σ x1 s0 s1) (fun r => (zQ [3, 5, 6, 7, 8, 9, 21, 22, 23, 24, 25, 26] [(0, 0, 0), (0, 31, 33)] [4, 10, 11] [(0, 30, 30)]) σ0 (r)) := by
  unfold fX12_does_48
  exact zpc_ck (zpc_bs (zQ.wi h rfl) (fun σ24 hσ24 => zpc_ck (zpc_bu (fU_fX12_by hσ24) (fun σ25 hσ25 => zpc_if (fun _ => fU_fX12_does_71 hσ25) (fun _ => fU_fX12_does_71 hσ25)))))
theorem fU_fX12_does {σ0 : zSt} {σ : zSt} {x1 : Int32} {x2 : Int32} (h : (zQ [3, 5, 6, 7, 8, 9, 21, 22, 23, 24, 25, 26] [(0, 0, 0), (0, 31, 33)] [4, 10, 11] [(0, 30, 30)]) σ0 σ) : zpc (fX12_does σ x1 x2) (fun r => (zQ [3, 5, 6, 7, 8, 9, 21, 22, 23, 24, 25, 26] [(0, 0, 0), (0, 31, 33)] [4, 10, 11] [(0, 30, 30)]) σ0 (r)) := by
  unfold fX12_does
  exact zpc_ck (zpc_bv (fun v26 _ => zpc_if (fun _ => fU_fX12_does_101 h) (fun _ => zpc_if (fun _ => fU_fX12_does_101 h) (fun _ => zpc_if (fun _ => fU_fX12_does_48 h) (fun _ => zpc_if (fun _ => fU_fX12_does_48 h) (fun _ => fU_fX12_does_48 h))))))
theorem fU_fX12_blocks_595 {σ0 : zSt} {σ : zSt} (h : (zQ [3, 5, 6, 7, 8, 9, 21, 22, 23, 24, 25, 26] [(0, 0, 0), (0, 31, 33)] [4, 10, 11] [(0, 30, 30)]) σ0 σ) : zpc (fX12_blocks_595 σ) (fun r => (zQ [3, 5, 6, 7, 8, 9, 21, 22, 23, 24, 25, 26] [(0, 0, 0), (0, 31, 33)] [4, 10, 11] [(0, 30, 30)]) σ0 (r.1)) := by
  unfold fX12_blocks_595
  exact zpc_some h
theorem fU_fX12_blocks_641 {σ0 : zSt} {σ : zSt} (h : (zQ [3, 5, 6, 7, 8, 9, 21, 22, 23, 24, 25, 26] [(0, 0, 0), (0, 31, 33)] [4, 10, 11] [(0, 30, 30)]) σ0 σ) : zpc (fX12_blocks_641 σ) (fun r => (zQ [3, 5, 6, 7, 8, 9, 21, 22, 23, 24, 25, 26] [(0, 0, 0), (0, 31, 33)] [4, 10, 11] [(0, 30, 30)]) σ0 (r.1)) := by
  unfold fX12_blocks_641
  exact zpc_some h
theorem fU_fX12_blocks_584 {σ0 : zSt} {σ : zSt} {x1 : Int32} {x2 : Int32} {x5 : Int32} (h : (zQ [3, 5, 6, 7, 8, 9, 21, 22, 23, 24, 25, 26] [(0, 0, 0), (0, 31, 33)] [4, 10, 11] [(0, 30, 30)]) σ0 σ) : zpc (fX12_blocks_584 σ x1 x2 x5) (fun r => (zQ [3, 5, 6, 7, 8, 9, 21, 22, 23, 24, 25, 26] [(0, 0, 0), (0, 31, 33)] [4, 10, 11] [(0, 30, 30)]) σ0 (r.1)) := by
  unfold fX12_blocks_584
  exact zpc_if (fun _ => fU_fX12_blocks_595 h) (fun _ => zpc_if (fun _ => fU_fX12_blocks_595 h) (fun _ => zpc_ck (zpc_ck (zpc_bs (zQ.wi h rfl) (fun σ1 hσ1 => zpc_if (fun _ => fU_fX12_blocks_641 hσ1) (fun _ => zpc_ck (zpc_ck (zpc_bs (zQ.wi hσ1 rfl) (fun σ2 hσ2 => fU_fX12_blocks_641 hσ2)))))))))
theorem fU_fX12_blocks_297 {σ0 : zSt} {σ : zSt} {x1 : Int32} {x2 : Int32} {s0 : Int32} (h : (zQ [3, 5, 6, 7, 8, 9, 21, 22, 23, 24, 25, 26] [(0, 0, 0), (0, 31, 33)] [4, 10, 11] [(0, 30, 30)]) σ0 σ) : zpc (fX12_blocks_297 σ x1 x2 s0) (fun r => (zQ [3, 5, 6, 7, 8, 9, 21, 22, 23, 24, 25, 26] [(0, 0, 0), (0, 31, 33)] [4, 10, 11] [(0, 30, 30)]) σ0 (r.1)) := by
  unfold fX12_blocks_297
  exact fU_fX12_blocks_584 h
theorem fU_fX12_blocks_296 {σ0 : zSt} {σ : zSt} {x1 : Int32} {x2 : Int32} (h : (zQ [3, 5, 6, 7, 8, 9, 21, 22, 23, 24, 25, 26] [(0, 0, 0), (0, 31, 33)] [4, 10, 11] [(0, 30, 30)]) σ0 σ) : zpc (fX12_blocks_296 σ x1 x2) (fun r => (zQ [3, 5, 6, 7, 8, 9, 21, 22, 23, 24, 25, 26] [(0, 0, 0), (0, 31, 33)] [4, 10, 11] [(0, 30, 30)]) σ0 (r.1)) := by
  unfold fX12_blocks_296
  exact fU_fX12_blocks_297 h
theorem fU_fX12_blocks_292 {σ0 : zSt} {σ : zSt} {x1 : Int32} {x2 : Int32} (h : (zQ [3, 5, 6, 7, 8, 9, 21, 22, 23, 24, 25, 26] [(0, 0, 0), (0, 31, 33)] [4, 10, 11] [(0, 30, 30)]) σ0 σ) : zpc (fX12_blocks_292 σ x1 x2) (fun r => (zQ [3, 5, 6, 7, 8, 9, 21, 22, 23, 24, 25, 26] [(0, 0, 0), (0, 31, 33)] [4, 10, 11] [(0, 30, 30)]) σ0 (r.1)) := by
  unfold fX12_blocks_292
  exact fU_fX12_blocks_297 h
theorem fU_fX12_blocks_267 {σ0 : zSt} {σ : zSt} {x1 : Int32} {x2 : Int32} {s0 : Int32} {s1 : Int32} (h : (zQ [3, 5, 6, 7, 8, 9, 21, 22, 23, 24, 25, 26] [(0, 0, 0), (0, 31, 33)] [4, 10, 11] [(0, 30, 30)]) σ0 σ) : zpc (fX12_blocks_267 σ x1 x2 s0 s1) (fun r => (zQ [3, 5, 6, 7, 8, 9, 21, 22, 23, 24, 25, 26] [(0, 0, 0), (0, 31, 33)] [4, 10, 11] [(0, 30, 30)]) σ0 (r.1)) := by
  unfold fX12_blocks_267
  exact zpc_bu (fU_fX12_put h) (fun σ3 hσ3 => zpc_bi (fU_fX12_flag hσ3) (fun σ4 v5 hσ4 => zpc_if (fun _ => zpc_if (fun _ => fU_fX12_blocks_292 hσ4) (fun _ => zpc_bi (fU_fX12_flag hσ4) (fun σ6 v7 hσ6 => zpc_if (fun _ => fU_fX12_blocks_292 hσ6) (fun _ => fU_fX12_blocks_296 hσ6)))) (fun _ => fU_fX12_blocks_296 hσ4)))
theorem fU_fX12_blocks_249 {σ0 : zSt} {σ : zSt} {x1 : Int32} {x2 : Int32} {s0 : Int32} {s1 : Int32} (h : (zQ [3, 5, 6, 7, 8, 9, 21, 22, 23, 24, 25, 26] [(0, 0, 0), (0, 31, 33)] [4, 10, 11] [(0, 30, 30)]) σ0 σ) : zpc (fX12_blocks_249 σ x1 x2 s0 s1) (fun r => (zQ [3, 5, 6, 7, 8, 9, 21, 22, 23, 24, 25, 26] [(0, 0, 0), (0, 31, 33)] [4, 10, 11] [(0, 30, 30)]) σ0 (r.1)) := by
  unfold fX12_blocks_249
  exact zpc_bu (fU_fX12_put h) (fun σ8 hσ8 => zpc_bi (fU_fX12_pair hσ8) (fun σ9 v10 hσ9 => zpc_if (fun _ => fU_fX12_blocks_267 hσ9) (fun _ => fU_fX12_blocks_267 hσ9)))
theorem fU_fX12_blocks_234 {σ0 : zSt} {σ : zSt} {x1 : Int32} {x2 : Int32} {s0 : Int32} {s1 : Int32} (h : (zQ [3, 5, 6, 7, 8, 9, 21, 22, 23, 24, 25, 26] [(0, 0, 0), (0, 31, 33)] [4, 10, 11] [(0, 30, 30)]) σ0 σ) : zpc (fX12_blocks_234 σ x1 x2 s0 s1) (fun r => (zQ [3, 5, 6, 7, 8, 9, 21, 22, 23, 24, 25, 26] [(0, 0, 0), (0, 31, 33)] [4, 10, 11] [(0, 30, 30)]) σ0 (r.1)) := by
  unfold fX12_blocks_234
  exact zpc_bu (fU_fX12_put h) (fun σ11 hσ11 => zpc_if (fun _ => fU_fX12_blocks_249 hσ11) (fun _ => fU_fX12_blocks_249 hσ11))
theorem fU_fX12_blocks_216 {σ0 : zSt} {σ : zSt} {x1 : Int32} {x2 : Int32} {x6 : Int32} {s0 : Int32} {s1 : Int32} (h : (zQ [3, 5, 6, 7, 8, 9, 21, 22, 23, 24, 25, 26] [(0, 0, 0), (0, 31, 33)] [4, 10, 11] [(0, 30, 30)]) σ0 σ) : zpc (fX12_blocks_216 σ x1 x2 x6 s0 s1) (fun r => (zQ [3, 5, 6, 7, 8, 9, 21, 22, 23, 24, 25, 26] [(0, 0, 0), (0, 31, 33)] [4, 10, 11] [(0, 30, 30)]) σ0 (r.1)) := by
  unfold fX12_blocks_216
  exact zpc_bu (fU_fX12_put h) (fun σ12 hσ12 => zpc_if (fun _ => fU_fX12_blocks_234 hσ12) (fun _ => fU_fX12_blocks_234 hσ12))
theorem fU_fX12_blocks_202 {σ0 : zSt} {σ : zSt} {x1 : Int32} {x2 : Int32} {x6 : Int32} (h : (zQ [3, 5, 6, 7, 8, 9, 21, 22, 23, 24, 25, 26] [(0, 0, 0), (0, 31, 33)] [4, 10, 11] [(0, 30, 30)]) σ0 σ) : zpc (fX12_blocks_202 σ x1 x2 x6) (fun r => (zQ [3, 5, 6, 7, 8, 9, 21, 22, 23, 24, 25, 26] [(0, 0, 0), (0, 31, 33)] [4, 10, 11] [(0, 30, 30)]) σ0 (r.1)) := by
  unfold fX12_blocks_202
  exact zpc_if (fun _ => fU_fX12_blocks_216 h) (fun _ => fU_fX12_blocks_216 h)
theorem fU_fX12_blocks_190 {σ0 : zSt} {σ : zSt} {x1 : Int32} {x2 : Int32} {s0 : Int32} {s1 : Int32} (h : (zQ [3, 5, 6, 7, 8, 9, 21, 22, 23, 24, 25, 26] [(0, 0, 0), (0, 31, 33)] [4, 10, 11] [(0, 30, 30)]) σ0 σ) : zpc (fX12_blocks_190 σ x1 x2 s0 s1) (fun r => (zQ [3, 5, 6, 7, 8, 9, 21, 22, 23, 24, 25, 26] [(0, 0, 0), (0, 31, 33)] [4, 10, 11] [(0, 30, 30)]) σ0 (r.1)) := by
  unfold fX12_blocks_190
  exact zpc_bv (fun v13 _ => fU_fX12_blocks_202 h)
theorem fU_fX12_blocks_159 {σ0 : zSt} {σ : zSt} {x1 : Int32} {x2 : Int32} {x6 : Int32} {s0 : Int32} (h : (zQ [3, 5, 6, 7, 8, 9, 21, 22, 23, 24, 25, 26] [(0, 0, 0), (0, 31, 33)] [4, 10, 11] [(0, 30, 30)]) σ0 σ) : zpc (fX12_blocks_159 σ x1 x2 x6 s0) (fun r => (zQ [3, 5, 6, 7, 8, 9, 21, 22, 23, 24, 25, 26] [(0, 0, 0), (0, 31, 33)] [4, 10, 11] [(0, 30, 30)]) σ0 (r.1)) := by
  unfold fX12_blocks_159
  exact zpc_bu (fU_fX12_by h) (fun σ14 hσ14 => zpc_bu (fU_fX12_put hσ14) (fun σ15 hσ15 => zpc_if (fun _ => fU_fX12_blocks_190 hσ15) (fun _ => fU_fX12_blocks_190 hσ15)))
theorem fU_fX12_blocks_111 {σ0 : zSt} {σ : zSt} {x1 : Int32} {x2 : Int32} {x3 : Int32} {x4 : Int32} {s0 : Int32} (h : (zQ [3, 5, 6, 7, 8, 9, 21, 22, 23, 24, 25, 26] [(0, 0, 0), (0, 31, 33)] [4, 10, 11] [(0, 30, 30)]) σ0 σ) : zpc (fX12_blocks_111 σ x1 x2 x3 x4 s0) (fun r => (zQ [3, 5, 6, 7, 8, 9, 21, 22, 23, 24, 25, 26] [(0, 0, 0), (0, 31, 33)] [4, 10, 11] [(0, 30, 30)]) σ0 (r.1)) := by
  unfold fX12_blocks_111
  exact zpc_if (fun _ => zpc_ck (zpc_ck (zpc_bs (zQ.wi h rfl) (fun σ17 hσ17 => zpc_ck (zpc_if (fun _ => fU_fX12_blocks_159 hσ17) (fun _ => fU_fX12_blocks_159 hσ17)))))) (fun _ => zpc_bu (fU_fX12_put h) (fun σ16 hσ16 => fU_fX12_blocks_202 hσ16))
theorem fU_fX12_blocks_74 {σ0 : zSt} {σ : zSt} {x1 : Int32} {x2 : Int32} {x3 : Int32} {x4 : Int32} (h : (zQ [3, 5, 6, 7, 8, 9, 21, 22, 23, 24, 25, 26] [(0, 0, 0), (0, 31, 33)] [4, 10, 11] [(0, 30, 30)]) σ0 σ) : zpc (fX12_blocks_74 σ x1 x2 x3 x4) (fun r => (zQ [3, 5, 6, 7, 8, 9, 21, 22, 23, 24, 25, 26] [(0, 0, 0), (0, 31, 33)] [4, 10, 11] [(0, 30, 30)]) σ0 (r.1)) := by
  unfold fX12_blocks_74
  exact zpc_bi (fU_fX12_pair h) (fun σ18 v19 hσ18 => zpc_bu (fU_fX12_pairTo hσ18) (fun σ20 hσ20 => zpc_if (fun _ => zpc_ck (fU_fX12_blocks_111 hσ20)) (fun _ => zpc_ck (fU_fX12_blocks_111 hσ20))))
theorem fU_fX12_blocks_44 {σ0 : zSt} {σ : zSt} {x1 : Int32} {x2 : Int32} {x3 : Int32} {x4 : Int32} (h : (zQ [3, 5, 6, 7, 8, 9, 21, 22, 23, 24, 25, 26] [(0, 0, 0), (0, 31, 33)] [4, 10, 11] [(0, 30, 30)]) σ0 σ) : zpc (fX12_blocks_44 σ x1 x2 x3 x4) (fun r => (zQ [3, 5, 6, 7, 8, 9, 21, 22, 23, 24, 25, 26] [(0, 0, 0), (0, 31, 33)] [4, 10, 11] [(0, 30, 30)]) σ0 (r.1)) := by
  unfold fX12_blocks_44
  exact zpc_bi (fU_fX12_pair h) (fun σ21 v22 hσ21 => zpc_bu (fU_fX12_pairTo hσ21) (fun σ23 hσ23 => zpc_if (fun _ => zpc_bi (fU_fX12_pair hσ23) (fun σ24 v25 hσ24 => zpc_bu (fU_fX12_pairTo hσ24) (fun σ26 hσ26 => fU_fX12_blocks_74 hσ26))) (fun _ => fU_fX12_blocks_74 hσ23)))
theorem fU_fX12_blocks_582 {σ0 : zSt} {σ : zSt} {x1 : Int32} {x2 : Int32} {s0 : Int32} (h : (zQ [3, 5, 6, 7, 8, 9, 21, 22, 23, 24, 25, 26] [(0, 0, 0), (0, 31, 33)] [4, 10, 11] [(0, 30, 30)]) σ0 σ) : zpc (fX12_blocks_582 σ x1 x2 s0) (fun r => (zQ [3, 5, 6, 7, 8, 9, 21, 22, 23, 24, 25, 26] [(0, 0, 0), (0, 31, 33)] [4, 10, 11] [(0, 30, 30)]) σ0 (r.1)) := by
  unfold fX12_blocks_582
  exact fU_fX12_blocks_584 h
theorem fU_fX12_blocks_545 {σ0 : zSt} {σ : zSt} {x1 : Int32} {x2 : Int32} {x6 : Int32} {s0 : Int32} {s1 : Int32} (h : (zQ [3, 5, 6, 7, 8, 9, 21, 22, 23, 24, 25, 26] [(0, 0, 0), (0, 31, 33)] [4, 10, 11] [(0, 30, 30)]) σ0 σ) : zpc (fX12_blocks_545 σ x1 x2 x6 s0 s1) (fun r => (zQ [3, 5, 6, 7, 8, 9, 21, 22, 23, 24, 25, 26] [(0, 0, 0), (0, 31, 33)] [4, 10, 11] [(0, 30, 30)]) σ0 (r.1)) := by
  unfold fX12_blocks_545
  exact zpc_bu (fU_fX12_put h) (fun σ27 hσ27 => zpc_ck (zpc_bi (fU_fX12_isEven hσ27) (fun σ28 v29 hσ28 => zpc_bu (fU_fX12_put hσ28) (fun σ30 hσ30 => zpc_ck (zpc_if (fun _ => fU_fX12_blocks_582 hσ30) (fun _ => fU_fX12_blocks_582 hσ30))))))
theorem fU_fX12_blocks_527 {σ0 : zSt} {σ : zSt} {x1 : Int32} {x2 : Int32} {x6 : Int32} {s0 : Int32} {s1 : Int32} (h : (zQ [3, 5, 6, 7, 8, 9, 21, 22, 23, 24, 25, 26] [(0, 0, 0), (0, 31, 33)] [4, 10, 11] [(0, 30, 30)]) σ0 σ) : zpc (fX12_blocks_527 σ x1 x2 x6 s0 s1) (fun r => (zQ [3, 5, 6, 7, 8, 9, 21, 22, 23, 24, 25, 26] [(0, 0, 0), (0, 31, 33)] [4, 10, 11] [(0, 30, 30)]) σ0 (r.1)) := by
  unfold fX12_blocks_527
  exact zpc_bu (fU_fX12_put h) (fun σ31 hσ31 => zpc_if (fun _ => fU_fX12_blocks_545 hσ31) (fun _ => fU_fX12_blocks_545 hσ31))
theorem fU_fX12_blocks_509 {σ0 : zSt} {σ : zSt} {x1 : Int32} {x2 : Int32} {x6 : Int32} {s0 : Int32} {s1 : Int32} (h : (zQ [3, 5, 6, 7, 8, 9, 21, 22, 23, 24, 25, 26] [(0, 0, 0), (0, 31, 33)] [4, 10, 11] [(0, 30, 30)]) σ0 σ) : zpc (fX12_blocks_509 σ x1 x2 x6 s0 s1) (fun r => (zQ [3, 5, 6, 7, 8, 9, 21, 22, 23, 24, 25, 26] [(0, 0, 0), (0, 31, 33)] [4, 10, 11] [(0, 30, 30)]) σ0 (r.1)) := by
  unfold fX12_blocks_509
  exact zpc_bu (fU_fX12_put h) (fun σ32 hσ32 => zpc_if (fun _ => fU_fX12_blocks_527 hσ32) (fun _ => fU_fX12_blocks_527 hσ32))
theorem fU_fX12_blocks_485 {σ0 : zSt} {σ : zSt} {x1 : Int32} {x2 : Int32} {x4 : Int32} {x6 : Int32} (h : (zQ [3, 5, 6, 7, 8, 9, 21, 22, 23, 24, 25, 26] [(0, 0, 0), (0, 31, 33)] [4, 10, 11] [(0, 30, 30)]) σ0 σ) : zpc (fX12_blocks_485 σ x1 x2 x4 x6) (fun r => (zQ [3, 5, 6, 7, 8, 9, 21, 22, 23, 24, 25, 26] [(0, 0, 0), (0, 31, 33)] [4, 10, 11] [(0, 30, 30)]) σ0 (r.1)) := by
  unfold fX12_blocks_485
  exact zpc_ck (zpc_bu (fU_fX12_by h) (fun σ33 hσ33 => zpc_if (fun _ => fU_fX12_blocks_509 hσ33) (fun _ => fU_fX12_blocks_509 hσ33)))
theorem fU_fX12_blocks_11 {σ0 : zSt} {σ : zSt} {x1 : Int32} {x2 : Int32} {s0 : Int32} (h : (zQ [3, 5, 6, 7, 8, 9, 21, 22, 23, 24, 25, 26] [(0, 0, 0), (0, 31, 33)] [4, 10, 11] [(0, 30, 30)]) σ0 σ) : zpc (fX12_blocks_11 σ x1 x2 s0) (fun r => (zQ [3, 5, 6, 7, 8, 9, 21, 22, 23, 24, 25, 26] [(0, 0, 0), (0, 31, 33)] [4, 10, 11] [(0, 30, 30)]) σ0 (r.1)) := by
  unfold fX12_blocks_11
  exact zpc_if (fun _ => zpc_if (fun _ => zpc_bi (fU_fX12_pair h) (fun σ47 v48 hσ47 => zpc_ck (zpc_bs (zQ.wi hσ47 rfl) (fun σ49 hσ49 => zpc_ck (zpc_bi (fU_fX12_port hσ49) (fun σ50 v51 hσ50 => zpc_ck (zpc_ck (zpc_bs (zQ.wi hσ50 rfl) (fun σ52 hσ52 => zpc_bi (fU_fX12_pair hσ52) (fun σ53 v54 hσ53 => zpc_bu (fU_fX12_write hσ53) (fun σ55 hσ55 => zpc_bi (fU_fX12_pair hσ55) (fun σ56 v57 hσ56 => zpc_bu (fU_fX12_pairTo hσ56) (fun σ58 hσ58 => zpc_ck (zpc_bv (fun v59 _ => fU_fX12_blocks_485 hσ58))))))))))))))) (fun _ => zpc_bi (fU_fX12_pair h) (fun σ34 v35 hσ34 => zpc_bi (fU_fX12_read hσ34) (fun σ36 v37 hσ36 => zpc_ck (zpc_ck (zpc_bs (zQ.wi hσ36 rfl) (fun σ38 hσ38 => zpc_ck (zpc_bu (fU_fX12_portTo hσ38) (fun σ39 hσ39 => zpc_bi (fU_fX12_pair hσ39) (fun σ40 v41 hσ40 => zpc_bu (fU_fX12_pairTo hσ40) (fun σ42 hσ42 => zpc_bi (fU_fX12_pair hσ42) (fun σ43 v44 hσ43 => zpc_ck (zpc_bs (zQ.wi hσ43 rfl) (fun σ45 hσ45 => zpc_ck (zpc_bv (fun v46 _ => fU_fX12_blocks_485 hσ45)))))))))))))))) (fun _ => zpc_bi (fU_fX12_pair h) (fun σ60 v61 hσ60 => zpc_bi (fU_fX12_read hσ60) (fun σ62 v63 hσ62 => zpc_if (fun _ => zpc_bi (fU_fX12_pair hσ62) (fun σ64 v65 hσ64 => zpc_bu (fU_fX12_write hσ64) (fun σ66 hσ66 => fU_fX12_blocks_44 hσ66))) (fun _ => fU_fX12_blocks_44 hσ62))))
theorem fU_fX12_blocks {σ0 : zSt} {σ : zSt} {x1 : Int32} {x2 : Int32} (h : (zQ [3, 5, 6, 7, 8, 9, 21, 22, 23, 24, 25, 26] [(0, 0, 0), (0, 31, 33)] [4, 10, 11] [(0, 30, 30)]) σ0 σ) : zpc (fX12_blocks σ x1 x2) (fun r => (zQ [3, 5, 6, 7, 8, 9, 21, 22, 23, 24, 25, 26] [(0, 0, 0), (0, 31, 33)] [4, 10, 11] [(0, 30, 30)]) σ0 (r.1)) := by
  unfold fX12_blocks
  exact zpc_ck (zpc_if (fun _ => fU_fX12_blocks_11 h) (fun _ => fU_fX12_blocks_11 h))
theorem fU_fX12_specials_28 {σ0 : zSt} {σ : zSt} {s0 : Int32} (h : (zQ [3, 5, 6, 7, 8, 9, 21, 22, 23, 24, 25, 26] [(0, 0, 0), (0, 31, 33)] [4, 10, 11] [(0, 30, 30)]) σ0 σ) : zpc (fX12_specials_28 σ s0) (fun r => (zQ [3, 5, 6, 7, 8, 9, 21, 22, 23, 24, 25, 26] [(0, 0, 0), (0, 31, 33)] [4, 10, 11] [(0, 30, 30)]) σ0 (r.1)) := by
  unfold fX12_specials_28
  exact zpc_ck (zpc_ck (zpc_bs (zQ.wi h rfl) (fun σ1 hσ1 => zpc_some hσ1)))
theorem fU_fX12_specials_244 {σ0 : zSt} {σ : zSt} {s0 : Int32} (h : (zQ [3, 5, 6, 7, 8, 9, 21, 22, 23, 24, 25, 26] [(0, 0, 0), (0, 31, 33)] [4, 10, 11] [(0, 30, 30)]) σ0 σ) : zpc (fX12_specials_244 σ s0) (fun r => (zQ [3, 5, 6, 7, 8, 9, 21, 22, 23, 24, 25, 26] [(0, 0, 0), (0, 31, 33)] [4, 10, 11] [(0, 30, 30)]) σ0 (r.1)) := by
  unfold fX12_specials_244
  exact zpc_some h
theorem fU_fX12_specials_220 {σ0 : zSt} {σ : zSt} {x1 : Int32} (h : (zQ [3, 5, 6, 7, 8, 9, 21, 22, 23, 24, 25, 26] [(0, 0, 0), (0, 31, 33)] [4, 10, 11] [(0, 30, 30)]) σ0 σ) : zpc (fX12_specials_220 σ x1) (fun r => (zQ [3, 5, 6, 7, 8, 9, 21, 22, 23, 24, 25, 26] [(0, 0, 0), (0, 31, 33)] [4, 10, 11] [(0, 30, 30)]) σ0 (r.1)) := by
  unfold fX12_specials_220
  exact zpc_bu (fU_fX12_put h) (fun σ2 hσ2 => zpc_bu (fU_fX12_put hσ2) (fun σ3 hσ3 => zpc_if (fun _ => fU_fX12_specials_244 hσ3) (fun _ => fU_fX12_specials_244 hσ3)))
theorem fU_fX12_specials_94 {σ0 : zSt} {σ : zSt} {x1 : Int32} {s0 : Int32} {s1 : Int32} (h : (zQ [3, 5, 6, 7, 8, 9, 21, 22, 23, 24, 25, 26] [(0, 0, 0), (0, 31, 33)] [4, 10, 11] [(0, 30, 30)]) σ0 σ) : zpc (fX12_specials_94 σ x1 s0 s1) (fun r => (zQ [3, 5, 6, 7, 8, 9, 21, 22, 23, 24, 25, 26] [(0, 0, 0), (0, 31, 33)] [4, 10, 11] [(0, 30, 30)]) σ0 (r.1)) := by
  unfold fX12_specials_94
  exact zpc_bu (fU_fX12_put h) (fun σ4 hσ4 => fU_fX12_specials_220 hσ4)
theorem fU_fX12_specials_64 {σ0 : zSt} {σ : zSt} {x1 : Int32} {s0 : Int32} {s2 : Int32} (h : (zQ [3, 5, 6, 7, 8, 9, 21, 22, 23, 24, 25, 26] [(0, 0, 0), (0, 31, 33)] [4, 10, 11] [(0, 30, 30)]) σ0 σ) : zpc (fX12_specials_64 σ x1 s0 s2) (fun r => (zQ [3, 5, 6, 7, 8, 9, 21, 22, 23, 24, 25, 26] [(0, 0, 0), (0, 31, 33)] [4, 10, 11] [(0, 30, 30)]) σ0 (r.1)) := by
  unfold fX12_specials_64
  exact zpc_ck (zpc_ck (zpc_bs (zQ.wi h rfl) (fun σ5 hσ5 => zpc_ck (zpc_bu (fU_fX12_by hσ5) (fun σ6 hσ6 => zpc_ck (zpc_if (fun _ => fU_fX12_specials_94 hσ6) (fun _ => fU_fX12_specials_94 hσ6)))))))
theorem fU_fX12_specials_194 {σ0 : zSt} {σ : zSt} {x1 : Int32} {s0 : Int32} {s1 : Int32} {s2 : Int32} (h : (zQ [3, 5, 6, 7, 8, 9, 21, 22, 23, 24, 25, 26] [(0, 0, 0), (0, 31, 33)] [4, 10, 11] [(0, 30, 30)]) σ0 σ) : zpc (fX12_specials_194 σ x1 s0 s1 s2) (fun r => (zQ [3, 5, 6, 7, 8, 9, 21, 22, 23, 24, 25, 26] [(0, 0, 0), (0, 31, 33)] [4, 10, 11] [(0, 30, 30)]) σ0 (r.1)) := by
  unfold fX12_specials_194
  exact zpc_ck (zpc_bs (zQ.wi h rfl) (fun σ7 hσ7 => zpc_ck (zpc_bu (fU_fX12_by hσ7) (fun σ8 hσ8 => zpc_ck (zpc_bi (fU_fX12_isEven hσ8) (fun σ9 v10 hσ9 => zpc_bu (fU_fX12_put hσ9) (fun σ11 hσ11 => fU_fX12_specials_220 hσ11)))))))
theorem fU_fX12_specials_161 {σ0 : zSt} {σ : zSt} {x1 : Int32} {x3 : Int32} {s0 : Int32} {s1 : Int32} (h : (zQ [3, 5, 6, 7, 8, 9, 21, 22, 23, 24, 25, 26] [(0, 0, 0), (0, 31, 33)] [4, 10, 11] [(0, 30, 30)]) σ0 σ) : zpc (fX12_specials_161 σ x1 x3 s0 s1) (fun r => (zQ [3, 5, 6, 7, 8, 9, 21, 22, 23, 24, 25, 26] [(0, 0, 0), (0, 31, 33)] [4, 10, 11] [(0, 30, 30)]) σ0 (r.1)) := by
  unfold fX12_specials_161
  exact zpc_bu (fU_fX12_write h) (fun σ12 hσ12 => zpc_ck (zpc_if (fun _ => fU_fX12_specials_194 hσ12) (fun _ => fU_fX12_specials_194 hσ12)))
theorem fU_fX12_specials {σ0 : zSt} {σ : zSt} {x1 : Int32} (h : (zQ [3, 5, 6, 7, 8, 9, 21, 22, 23, 24, 25, 26] [(0, 0, 0), (0, 31, 33)] [4, 10, 11] [(0, 30, 30)]) σ0 σ) : zpc (fX12_specials σ x1) (fun r => (zQ [3, 5, 6, 7, 8, 9, 21, 22, 23, 24, 25, 26] [(0, 0, 0), (0, 31, 33)] [4, 10, 11] [(0, 30, 30)]) σ0 (r.1)) := by
  unfold fX12_specials
  exact zpc_if (fun _ => zpc_if (fun _ => zpc_if (fun _ => zpc_bi (fU_fX12_pair h) (fun σ13 v14 hσ13 => zpc_ck (zpc_bs (zQ.wi hσ13 rfl) (fun σ15 hσ15 => zpc_bi (fU_fX12_read hσ15) (fun σ16 v17 hσ16 => zpc_ck (zpc_bv (fun v18 _ => zpc_if (fun _ => fU_fX12_specials_161 hσ16) (fun _ => fU_fX12_specials_161 hσ16)))))))) (fun _ => zpc_if (fun _ => fU_fX12_specials_64 h) (fun _ => fU_fX12_specials_64 h))) (fun _ => zpc_if (fun _ => fU_fX12_specials_28 h) (fun _ => fU_fX12_specials_28 h))) (fun _ => zpc_some h)
theorem fU_fX12_words_255 {σ0 : zSt} {σ : zSt} {s0 : Int32} {s1 : Int32} (h : (zQ [3, 5, 6, 7, 8, 9, 21, 22, 23, 24, 25, 26] [(0, 0, 0), (0, 31, 33)] [4, 10, 11] [(0, 30, 30)]) σ0 σ) : zpc (fX12_words_255 σ s0 s1) (fun r => (zQ [3, 5, 6, 7, 8, 9, 21, 22, 23, 24, 25, 26] [(0, 0, 0), (0, 31, 33)] [4, 10, 11] [(0, 30, 30)]) σ0 (r)) := by
  unfold fX12_words_255
  exact zpc_bu (fU_fX12_put h) (fun σ1 hσ1 => zpc_some hσ1)
theorem fU_fX12_words_241 {σ0 : zSt} {σ : zSt} {x2 : Int32} {s0 : Int32} {s1 : Int32} (h : (zQ [3, 5, 6, 7, 8, 9, 21, 22, 23, 24, 25, 26] [(0, 0, 0), (0, 31, 33)] [4, 10, 11] [(0, 30, 30)]) σ0 σ) : zpc (fX12_words_241 σ x2 s0 s1) (fun r => (zQ [3, 5, 6, 7, 8, 9, 21, 22, 23, 24, 25, 26] [(0, 0, 0), (0, 31, 33)] [4, 10, 11] [(0, 30, 30)]) σ0 (r)) := by
  unfold fX12_words_241
  exact zpc_bu (fU_fX12_put h) (fun σ2 hσ2 => zpc_if (fun _ => fU_fX12_words_255 hσ2) (fun _ => fU_fX12_words_255 hσ2))
theorem fU_fX12_words_236 {σ0 : zSt} {σ : zSt} {x2 : Int32} {s0 : Int32} (h : (zQ [3, 5, 6, 7, 8, 9, 21, 22, 23, 24, 25, 26] [(0, 0, 0), (0, 31, 33)] [4, 10, 11] [(0, 30, 30)]) σ0 σ) : zpc (fX12_words_236 σ x2 s0) (fun r => (zQ [3, 5, 6, 7, 8, 9, 21, 22, 23, 24, 25, 26] [(0, 0, 0), (0, 31, 33)] [4, 10, 11] [(0, 30, 30)]) σ0 (r)) := by
  unfold fX12_words_236
  exact fU_fX12_words_241 h
theorem fU_fX12_words_215 {σ0 : zSt} {σ : zSt} {x2 : Int32} {x7 : Int32} {s0 : Int32} {s1 : Int32} (h : (zQ [3, 5, 6, 7, 8, 9, 21, 22, 23, 24, 25, 26] [(0, 0, 0), (0, 31, 33)] [4, 10, 11] [(0, 30, 30)]) σ0 σ) : zpc (fX12_words_215 σ x2 x7 s0 s1) (fun r => (zQ [3, 5, 6, 7, 8, 9, 21, 22, 23, 24, 25, 26] [(0, 0, 0), (0, 31, 33)] [4, 10, 11] [(0, 30, 30)]) σ0 (r)) := by
  unfold fX12_words_215
  exact zpc_bu (fU_fX12_put h) (fun σ3 hσ3 => zpc_if (fun _ => fU_fX12_words_236 hσ3) (fun _ => zpc_if (fun _ => fU_fX12_words_241 hσ3) (fun _ => fU_fX12_words_236 hσ3)))
theorem fU_fX12_words_210 {σ0 : zSt} {σ : zSt} {x2 : Int32} {x7 : Int32} {s0 : Int32} (h : (zQ [3, 5, 6, 7, 8, 9, 21, 22, 23, 24, 25, 26] [(0, 0, 0), (0, 31, 33)] [4, 10, 11] [(0, 30, 30)]) σ0 σ) : zpc (fX12_words_210 σ x2 x7 s0) (fun r => (zQ [3, 5, 6, 7, 8, 9, 21, 22, 23, 24, 25, 26] [(0, 0, 0), (0, 31, 33)] [4, 10, 11] [(0, 30, 30)]) σ0 (r)) := by
  unfold fX12_words_210
  exact fU_fX12_words_215 h
theorem fU_fX12_words_193 {σ0 : zSt} {σ : zSt} {x2 : Int32} {x6 : Int32} {x7 : Int32} {s0 : Int32} {s1 : Int32} (h : (zQ [3, 5, 6, 7, 8, 9, 21, 22, 23, 24, 25, 26] [(0, 0, 0), (0, 31, 33)] [4, 10, 11] [(0, 30, 30)]) σ0 σ) : zpc (fX12_words_193 σ x2 x6 x7 s0 s1) (fun r => (zQ [3, 5, 6, 7, 8, 9, 21, 22, 23, 24, 25, 26] [(0, 0, 0), (0, 31, 33)] [4, 10, 11] [(0, 30, 30)]) σ0 (r)) := by
  unfold fX12_words_193
  exact zpc_bu (fU_fX12_put h) (fun σ4 hσ4 => zpc_if (fun _ => fU_fX12_words_210 hσ4) (fun _ => zpc_if (fun _ => fU_fX12_words_215 hσ4) (fun _ => fU_fX12_words_210 hσ4)))
theorem fU_fX12_words_123 {σ0 : zSt} {σ : zSt} {x2 : Int32} {x3 : Int32} {x4 : Int32} {x5 : Int32} {x6 : Int32} {x7 : Int32} {s0 : Int32} {s1 : Int32} (h : (zQ [3, 5, 6, 7, 8, 9, 21, 22, 23, 24, 25, 26] [(0, 0, 0), (0, 31, 33)] [4, 10, 11] [(0, 30, 30)]) σ0 σ) : zpc (fX12_words_123 σ x2 x3 x4 x5 x6 x7 s0 s1) (fun r => (zQ [3, 5, 6, 7, 8, 9, 21, 22, 23, 24, 25, 26] [(0, 0, 0), (0, 31, 33)] [4, 10, 11] [(0, 30, 30)]) σ0 (r)) := by
  unfold fX12_words_123
  exact zpc_bu (fU_fX12_put h) (fun σ5 hσ5 => zpc_bu (fU_fX12_xy hσ5) (fun σ6 hσ6 => zpc_if (fun _ => zpc_if (fun _ => fU_fX12_words_193 hσ6) (fun _ => fU_fX12_words_193 hσ6)) (fun _ => zpc_if (fun _ => fU_fX12_words_193 hσ6) (fun _ => fU_fX12_words_193 hσ6))))
theorem fU_fX12_words_104 {σ0 : zSt} {σ : zSt} {x2 : Int32} {x3 : Int32} {x4 : Int32} {x5 : Int32} {x6 : Int32} {x7 : Int32} {s0 : Int32} {s1 : Int32} (h : (zQ [3, 5, 6, 7, 8, 9, 21, 22, 23, 24, 25, 26] [(0, 0, 0), (0, 31, 33)] [4, 10, 11] [(0, 30, 30)]) σ0 σ) : zpc (fX12_words_104 σ x2 x3 x4 x5 x6 x7 s0 s1) (fun r => (zQ [3, 5, 6, 7, 8, 9, 21, 22, 23, 24, 25, 26] [(0, 0, 0), (0, 31, 33)] [4, 10, 11] [(0, 30, 30)]) σ0 (r)) := by
  unfold fX12_words_104
  exact zpc_bu (fU_fX12_put h) (fun σ7 hσ7 => zpc_if (fun _ => fU_fX12_words_123 hσ7) (fun _ => fU_fX12_words_123 hσ7))
theorem fU_fX12_words_80 {σ0 : zSt} {σ : zSt} {x2 : Int32} {x3 : Int32} {x4 : Int32} {x5 : Int32} {x6 : Int32} {s0 : Int32} (h : (zQ [3, 5, 6, 7, 8, 9, 21, 22, 23, 24, 25, 26] [(0, 0, 0), (0, 31, 33)] [4, 10, 11] [(0, 30, 30)]) σ0 σ) : zpc (fX12_words_80 σ x2 x3 x4 x5 x6 s0) (fun r => (zQ [3, 5, 6, 7, 8, 9, 21, 22, 23, 24, 25, 26] [(0, 0, 0), (0, 31, 33)] [4, 10, 11] [(0, 30, 30)]) σ0 (r)) := by
  unfold fX12_words_80
  exact zpc_bu (fU_fX12_hlTo h) (fun σ8 hσ8 => zpc_if (fun _ => fU_fX12_words_104 hσ8) (fun _ => fU_fX12_words_104 hσ8))
theorem fU_fX12_words_53 {σ0 : zSt} {σ : zSt} {x2 : Int32} {x3 : Int32} {x4 : Int32} {x5 : Int32} {s0 : Int32} (h : (zQ [3, 5, 6, 7, 8, 9, 21, 22, 23, 24, 25, 26] [(0, 0, 0), (0, 31, 33)] [4, 10, 11] [(0, 30, 30)]) σ0 σ) : zpc (fX12_words_53 σ x2 x3 x4 x5 s0) (fun r => (zQ [3, 5, 6, 7, 8, 9, 21, 22, 23, 24, 25, 26] [(0, 0, 0), (0, 31, 33)] [4, 10, 11] [(0, 30, 30)]) σ0 (r)) := by
  unfold fX12_words_53
  exact zpc_if (fun _ => fU_fX12_words_80 h) (fun _ => fU_fX12_words_80 h)
theorem fU_fX12_words {σ0 : zSt} {σ : zSt} {x1 : Int32} {x2 : Int32} (h : (zQ [3, 5, 6, 7, 8, 9, 21, 22, 23, 24, 25, 26] [(0, 0, 0), (0, 31, 33)] [4, 10, 11] [(0, 30, 30)]) σ0 σ) : zpc (fX12_words σ x1 x2) (fun r => (zQ [3, 5, 6, 7, 8, 9, 21, 22, 23, 24, 25, 26] [(0, 0, 0), (0, 31, 33)] [4, 10, 11] [(0, 30, 30)]) σ0 (r)) := by
  unfold fX12_words
  exact zpc_bi (fU_fX12_hl h) (fun σ9 v10 hσ9 => zpc_bi (fU_fX12_rp hσ9) (fun σ11 v12 hσ11 => zpc_bi (fU_fX12_flag hσ11) (fun σ13 v14 hσ13 => zpc_ck (zpc_bs (zQ.wi hσ13 rfl) (fun σ15 hσ15 => zpc_if (fun _ => fU_fX12_words_53 hσ15) (fun _ => fU_fX12_words_53 hσ15))))))
theorem fU_fX12_more_387 {σ0 : zSt} {σ : zSt} {s0 : Int32} {s1 : Int32} (h : (zQ [3, 5, 6, 7, 8, 9, 21, 22, 23, 24, 25, 26] [(0, 0, 0), (0, 31, 33)] [4, 10, 11] [(0, 30, 30)]) σ0 σ) : zpc (fX12_more_387 σ s0 s1) (fun r => (zQ [3, 5, 6, 7, 8, 9, 21, 22, 23, 24, 25, 26] [(0, 0, 0), (0, 31, 33)] [4, 10, 11] [(0, 30, 30)]) σ0 (r.1)) := by
  unfold fX12_more_387
  exact zpc_ck (zpc_bs (zQ.wi h rfl) (fun σ1 hσ1 => zpc_some hσ1))
theorem fU_fX12_more_281 {σ0 : zSt} {σ : zSt} {x7 : Int32} (h : (zQ [3, 5, 6, 7, 8, 9, 21, 22, 23, 24, 25, 26] [(0, 0, 0), (0, 31, 33)] [4, 10, 11] [(0, 30, 30)]) σ0 σ) : zpc (fX12_more_281 σ x7) (fun r => (zQ [3, 5, 6, 7, 8, 9, 21, 22, 23, 24, 25, 26] [(0, 0, 0), (0, 31, 33)] [4, 10, 11] [(0, 30, 30)]) σ0 (r.1)) := by
  unfold fX12_more_281
  exact zpc_ck (zpc_bs (zQ.wi h rfl) (fun σ2 hσ2 => zpc_some hσ2))
theorem fU_fX12_more_234 {σ0 : zSt} {σ : zSt} {s0 : Int32} {s1 : Int32} (h : (zQ [3, 5, 6, 7, 8, 9, 21, 22, 23, 24, 25, 26] [(0, 0, 0), (0, 31, 33)] [4, 10, 11] [(0, 30, 30)]) σ0 σ) : zpc (fX12_more_234 σ s0 s1) (fun r => (zQ [3, 5, 6, 7, 8, 9, 21, 22, 23, 24, 25, 26] [(0, 0, 0), (0, 31, 33)] [4, 10, 11] [(0, 30, 30)]) σ0 (r.1)) := by
  unfold fX12_more_234
  exact zpc_bu (fU_fX12_words h) (fun σ3 hσ3 => zpc_some hσ3)
theorem fU_fX12_more_195 {σ0 : zSt} {σ : zSt} {s0 : Int32} {s1 : Int32} (h : (zQ [3, 5, 6, 7, 8, 9, 21, 22, 23, 24, 25, 26] [(0, 0, 0), (0, 31, 33)] [4, 10, 11] [(0, 30, 30)]) σ0 σ) : zpc (fX12_more_195 σ s0 s1) (fun r => (zQ [3, 5, 6, 7, 8, 9, 21, 22, 23, 24, 25, 26] [(0, 0, 0), (0, 31, 33)] [4, 10, 11] [(0, 30, 30)]) σ0 (r.1)) := by
  unfold fX12_more_195
  exact zpc_bu (fU_fX12_portTo h) (fun σ4 hσ4 => zpc_bi (fU_fX12_pair hσ4) (fun σ5 v6 hσ5 => zpc_ck (zpc_bs (zQ.wi hσ5 rfl) (fun σ7 hσ7 => zpc_some hσ7))))
theorem fU_fX12_more_133 {σ0 : zSt} {σ : zSt} {x5 : Int32} {x6 : Int32} (h : (zQ [3, 5, 6, 7, 8, 9, 21, 22, 23, 24, 25, 26] [(0, 0, 0), (0, 31, 33)] [4, 10, 11] [(0, 30, 30)]) σ0 σ) : zpc (fX12_more_133 σ x5 x6) (fun r => (zQ [3, 5, 6, 7, 8, 9, 21, 22, 23, 24, 25, 26] [(0, 0, 0), (0, 31, 33)] [4, 10, 11] [(0, 30, 30)]) σ0 (r.1)) := by
  unfold fX12_more_133
  exact zpc_bu (fU_fX12_by h) (fun σ8 hσ8 => zpc_bi (fU_fX12_isEven hσ8) (fun σ9 v10 hσ9 => zpc_bu (fU_fX12_put hσ9) (fun σ11 hσ11 => zpc_bu (fU_fX12_put hσ11) (fun σ12 hσ12 => zpc_bu (fU_fX12_put hσ12) (fun σ13 hσ13 => zpc_ck (zpc_bs (zQ.wi hσ13 rfl) (fun σ14 hσ14 => zpc_some hσ14)))))))
theorem fU_fX12_more_42 {σ0 : zSt} {σ : zSt} {x2 : Int32} {x3 : Int32} {x4 : Int32} (h : (zQ [3, 5, 6, 7, 8, 9, 21, 22, 23, 24, 25, 26] [(0, 0, 0), (0, 31, 33)] [4, 10, 11] [(0, 30, 30)]) σ0 σ) : zpc (fX12_more_42 σ x2 x3 x4) (fun r => (zQ [3, 5, 6, 7, 8, 9, 21, 22, 23, 24, 25, 26] [(0, 0, 0), (0, 31, 33)] [4, 10, 11] [(0, 30, 30)]) σ0 (r.1)) := by
  unfold fX12_more_42
  exact zpc_if (fun _ => zpc_if (fun _ => zpc_bi (fU_fX12_pair h) (fun σ15 v16 hσ15 => zpc_bv (fun v17 _ => zpc_ck (zpc_bi (fU_fX12_port hσ15) (fun σ18 v19 hσ18 => zpc_if (fun _ => fU_fX12_more_133 hσ18) (fun _ => zpc_bu (fU_fX12_rTo hσ18) (fun σ20 hσ20 => fU_fX12_more_133 hσ20))))))) (fun _ => zpc_if (fun _ => zpc_ck (zpc_if (fun _ => fU_fX12_more_195 h) (fun _ => zpc_bi (fU_fX12_r h) (fun σ21 v22 hσ21 => fU_fX12_more_195 hσ21)))) (fun _ => zpc_if (fun _ => zpc_ck (zpc_if (fun _ => fU_fX12_more_234 h) (fun _ => fU_fX12_more_234 h))) (fun _ => zpc_if (fun _ => zpc_bi (fU_fX12_nextWord h) (fun σ23 v24 hσ23 => zpc_ck (zpc_if (fun _ => zpc_bi (fU_fX12_rp hσ23) (fun σ28 v29 hσ28 => zpc_bu (fU_fX12_wordTo hσ28) (fun σ30 hσ30 => fU_fX12_more_281 hσ30))) (fun _ => zpc_bi (fU_fX12_word hσ23) (fun σ25 v26 hσ25 => zpc_bu (fU_fX12_rpTo hσ25) (fun σ27 hσ27 => fU_fX12_more_281 hσ27)))))) (fun _ => zpc_if (fun _ => zpc_ck (zpc_bv (fun v31 _ => zpc_ck (zpc_bs (zQ.wi h rfl) (fun σ32 hσ32 => zpc_bu (fU_fX12_does hσ32) (fun σ33 hσ33 => zpc_some hσ33)))))) (fun _ => zpc_if (fun _ => zpc_bi (fU_fX12_pop h) (fun σ34 v35 hσ34 => zpc_ck (zpc_bs (zQ.wi hσ34 rfl) (fun σ36 hσ36 => zpc_ck (zpc_ck (zpc_bs (zQ.wi hσ36 rfl) (fun σ37 hσ37 => zpc_ck (zpc_ck (zpc_bs (zQ.wi hσ37 rfl) (fun σ38 hσ38 => zpc_some hσ38)))))))))) (fun _ => zpc_if (fun _ => zpc_ck (zpc_if (fun _ => zpc_ck (fU_fX12_more_387 h)) (fun _ => fU_fX12_more_387 h))) (fun _ => zpc_bi (fU_fX12_specials h) (fun σ39 v40 hσ39 => zpc_some hσ39))))))))) (fun _ => zpc_some h)
theorem fU_fX12_more {σ0 : zSt} {σ : zSt} {x1 : Int32} (h : (zQ [3, 5, 6, 7, 8, 9, 21, 22, 23, 24, 25, 26] [(0, 0, 0), (0, 31, 33)] [4, 10, 11] [(0, 30, 30)]) σ0 σ) : zpc (fX12_more σ x1) (fun r => (zQ [3, 5, 6, 7, 8, 9, 21, 22, 23, 24, 25, 26] [(0, 0, 0), (0, 31, 33)] [4, 10, 11] [(0, 30, 30)]) σ0 (r.1)) := by
  unfold fX12_more
  exact zpc_bv (fun v41 _ => zpc_bv (fun v42 _ => zpc_bv (fun v43 _ => zpc_if (fun _ => zpc_if (fun _ => fU_fX12_more_42 h) (fun _ => zpc_if (fun _ => fU_fX12_more_42 h) (fun _ => zpc_bi (fU_fX12_blocks h) (fun σ44 v45 hσ44 => zpc_some hσ44)))) (fun _ => fU_fX12_more_42 h))))
theorem fU_fX12_prefixed_r1_33 {σ0 : zSt} {σ : zSt} (h : (zQ [3, 5, 6, 7, 8, 9, 21, 22, 23, 24, 25, 26] [(0, 0, 0), (0, 31, 33)] [4, 10, 11] [(0, 30, 30)]) σ0 σ) : zpc (fX12_prefixed_r1_33 σ) (fun r => (zQ [3, 5, 6, 7, 8, 9, 21, 22, 23, 24, 25, 26] [(0, 0, 0), (0, 31, 33)] [4, 10, 11] [(0, 30, 30)]) σ0 (r.1)) := by
  unfold fX12_prefixed_r1_33
  exact zpc_ck (zpc_bs (zQ.wi h rfl) (fun σ1 hσ1 => zpc_some hσ1))
theorem fU_fX12_prefixed_r1_154 {σ0 : zSt} {σ : zSt} {s0 : Int32} (h : (zQ [3, 5, 6, 7, 8, 9, 21, 22, 23, 24, 25, 26] [(0, 0, 0), (0, 31, 33)] [4, 10, 11] [(0, 30, 30)]) σ0 σ) : zpc (fX12_prefixed_r1_154 σ s0) (fun r => (zQ [3, 5, 6, 7, 8, 9, 21, 22, 23, 24, 25, 26] [(0, 0, 0), (0, 31, 33)] [4, 10, 11] [(0, 30, 30)]) σ0 (r.1)) := by
  unfold fX12_prefixed_r1_154
  exact zpc_some h
theorem fU_fX12_prefixed_r1_135 {σ0 : zSt} {σ : zSt} {x4 : Int32} {x5 : Int32} (h : (zQ [3, 5, 6, 7, 8, 9, 21, 22, 23, 24, 25, 26] [(0, 0, 0), (0, 31, 33)] [4, 10, 11] [(0, 30, 30)]) σ0 σ) : zpc (fX12_prefixed_r1_135 σ x4 x5) (fun r => (zQ [3, 5, 6, 7, 8, 9, 21, 22, 23, 24, 25, 26] [(0, 0, 0), (0, 31, 33)] [4, 10, 11] [(0, 30, 30)]) σ0 (r.1)) := by
  unfold fX12_prefixed_r1_135
  exact zpc_if (fun _ => fU_fX12_prefixed_r1_154 h) (fun _ => fU_fX12_prefixed_r1_154 h)
theorem fU_fX12_prefixed_r1_244 {σ0 : zSt} {σ : zSt} {x1 : Int32} {x3 : Int32} {s0 : Int32} (h : (zQ [3, 5, 6, 7, 8, 9, 21, 22, 23, 24, 25, 26] [(0, 0, 0), (0, 31, 33)] [4, 10, 11] [(0, 30, 30)]) σ0 σ) : zpc (fX12_prefixed_r1_244 σ x1 x3 s0) (fun r => (zQ [3, 5, 6, 7, 8, 9, 21, 22, 23, 24, 25, 26] [(0, 0, 0), (0, 31, 33)] [4, 10, 11] [(0, 30, 30)]) σ0 (r.1)) := by
  unfold fX12_prefixed_r1_244
  exact zpc_if (fun _ => zpc_bs (zQ.wi h rfl) (fun σ8 hσ8 => zpc_none)) (fun _ => zpc_ck (zpc_bi (fU_fX12_next h) (fun σ2 v3 hσ2 => zpc_bi (fU_fX12_signed hσ2) (fun σ4 v5 hσ4 => zpc_ck (zpc_bs (zQ.wi hσ4 rfl) (fun σ6 hσ6 => zpc_ck (zpc_bs (zQ.wi hσ6 rfl) (fun σ7 hσ7 => zpc_none))))))))
theorem fU_fX12_prefixed_r1_243 {σ0 : zSt} {σ : zSt} {x1 : Int32} {x3 : Int32} (h : (zQ [3, 5, 6, 7, 8, 9, 21, 22, 23, 24, 25, 26] [(0, 0, 0), (0, 31, 33)] [4, 10, 11] [(0, 30, 30)]) σ0 σ) : zpc (fX12_prefixed_r1_243 σ x1 x3) (fun r => (zQ [3, 5, 6, 7, 8, 9, 21, 22, 23, 24, 25, 26] [(0, 0, 0), (0, 31, 33)] [4, 10, 11] [(0, 30, 30)]) σ0 (r.1)) := by
  unfold fX12_prefixed_r1_243
  exact fU_fX12_prefixed_r1_244 h
theorem fU_fX12_prefixed_r1_239 {σ0 : zSt} {σ : zSt} {x1 : Int32} {x3 : Int32} (h : (zQ [3, 5, 6, 7, 8, 9, 21, 22, 23, 24, 25, 26] [(0, 0, 0), (0, 31, 33)] [4, 10, 11] [(0, 30, 30)]) σ0 σ) : zpc (fX12_prefixed_r1_239 σ x1 x3) (fun r => (zQ [3, 5, 6, 7, 8, 9, 21, 22, 23, 24, 25, 26] [(0, 0, 0), (0, 31, 33)] [4, 10, 11] [(0, 30, 30)]) σ0 (r.1)) := by
  unfold fX12_prefixed_r1_239
  exact fU_fX12_prefixed_r1_244 h
theorem fU_fX12_prefixed_r1_226 {σ0 : zSt} {σ : zSt} {x1 : Int32} {x3 : Int32} {x5 : Int32} {x6 : Int32} (h : (zQ [3, 5, 6, 7, 8, 9, 21, 22, 23, 24, 25, 26] [(0, 0, 0), (0, 31, 33)] [4, 10, 11] [(0, 30, 30)]) σ0 σ) : zpc (fX12_prefixed_r1_226 σ x1 x3 x5 x6) (fun r => (zQ [3, 5, 6, 7, 8, 9, 21, 22, 23, 24, 25, 26] [(0, 0, 0), (0, 31, 33)] [4, 10, 11] [(0, 30, 30)]) σ0 (r.1)) := by
  unfold fX12_prefixed_r1_226
  exact zpc_if (fun _ => zpc_if (fun _ => fU_fX12_prefixed_r1_239 h) (fun _ => fU_fX12_prefixed_r1_243 h)) (fun _ => fU_fX12_prefixed_r1_243 h)
theorem fU_fX12_prefixed_r1_220 {σ0 : zSt} {σ : zSt} {x1 : Int32} {x3 : Int32} {x5 : Int32} {x6 : Int32} (h : (zQ [3, 5, 6, 7, 8, 9, 21, 22, 23, 24, 25, 26] [(0, 0, 0), (0, 31, 33)] [4, 10, 11] [(0, 30, 30)]) σ0 σ) : zpc (fX12_prefixed_r1_220 σ x1 x3 x5 x6) (fun r => (zQ [3, 5, 6, 7, 8, 9, 21, 22, 23, 24, 25, 26] [(0, 0, 0), (0, 31, 33)] [4, 10, 11] [(0, 30, 30)]) σ0 (r.1)) := by
  unfold fX12_prefixed_r1_220
  exact zpc_if (fun _ => fU_fX12_prefixed_r1_226 h) (fun _ => fU_fX12_prefixed_r1_239 h)
theorem fU_fX12_prefixed_r1_200 {σ0 : zSt} {σ : zSt} {x1 : Int32} {x3 : Int32} {x4 : Int32} {x5 : Int32} {x6 : Int32} (h : (zQ [3, 5, 6, 7, 8, 9, 21, 22, 23, 24, 25, 26] [(0, 0, 0), (0, 31, 33)] [4, 10, 11] [(0, 30, 30)]) σ0 σ) : zpc (fX12_prefixed_r1_200 σ x1 x3 x4 x5 x6) (fun r => (zQ [3, 5, 6, 7, 8, 9, 21, 22, 23, 24, 25, 26] [(0, 0, 0), (0, 31, 33)] [4, 10, 11] [(0, 30, 30)]) σ0 (r.1)) := by
  unfold fX12_prefixed_r1_200
  exact zpc_if (fun _ => zpc_if (fun _ => fU_fX12_prefixed_r1_220 h) (fun _ => zpc_if (fun _ => fU_fX12_prefixed_r1_220 h) (fun _ => fU_fX12_prefixed_r1_226 h))) (fun _ => fU_fX12_prefixed_r1_226 h)
theorem fU_fX12_prefixed_r1 {σ0 : zSt} {σ : zSt} {x1 : Int32} (h : (zQ [3, 5, 6, 7, 8, 9, 21, 22, 23, 24, 25, 26] [(0, 0, 0), (0, 31, 33)] [4, 10, 11] [(0, 30, 30)]) σ0 σ) : zpc (fX12_prefixed_r1 σ x1) (fun r => (zQ [3, 5, 6, 7, 8, 9, 21, 22, 23, 24, 25, 26] [(0, 0, 0), (0, 31, 33)] [4, 10, 11] [(0, 30, 30)]) σ0 (r.1)) := by
  unfold fX12_prefixed_r1
  exact zpc_ck (zpc_bi (fU_fX12_read h) (fun σ9 v10 hσ9 => zpc_if (fun _ => fU_fX12_prefixed_r1_33 hσ9) (fun _ => zpc_if (fun _ => fU_fX12_prefixed_r1_33 hσ9) (fun _ => zpc_if (fun _ => fU_fX12_prefixed_r1_33 hσ9) (fun _ => zpc_bi (fU_fX12_fetch hσ9) (fun σ11 v12 hσ11 => zpc_if (fun _ => zpc_ck (zpc_bi (fU_fX12_next hσ11) (fun σ16 v17 hσ16 => zpc_bi (fU_fX12_signed hσ16) (fun σ18 v19 hσ18 => zpc_ck (zpc_bs (zQ.wi hσ18 rfl) (fun σ20 hσ20 => zpc_ck (zpc_bs (zQ.wi hσ20 rfl) (fun σ21 hσ21 => zpc_bi (fU_fX12_next hσ21) (fun σ22 v23 hσ22 => zpc_bi (fU_fX12_turn hσ22) (fun σ24 v25 hσ24 => zpc_if (fun _ => fU_fX12_prefixed_r1_135 hσ24) (fun _ => zpc_if (fun _ => fU_fX12_prefixed_r1_135 hσ24) (fun _ => zpc_ck (zpc_bs (zQ.wi hσ24 rfl) (fun σ26 hσ26 => zpc_bu (fU_fX12_rTo hσ26) (fun σ27 hσ27 => fU_fX12_prefixed_r1_135 hσ27))))))))))))))) (fun _ => zpc_bv (fun v13 _ => zpc_bv (fun v14 _ => zpc_bv (fun v15 _ => zpc_if (fun _ => zpc_if (fun _ => fU_fX12_prefixed_r1_200 hσ11) (fun _ => zpc_if (fun _ => fU_fX12_prefixed_r1_200 hσ11) (fun _ => zpc_if (fun _ => fU_fX12_prefixed_r1_239 hσ11) (fun _ => fU_fX12_prefixed_r1_200 hσ11)))) (fun _ => fU_fX12_prefixed_r1_200 hσ11)))))))))))
theorem fU_fX12_more3_r1_119 {σ0 : zSt} {σ : zSt} {s0 : Int32} (h : (zQ [3, 5, 6, 7, 8, 9, 21, 22, 23, 24, 25, 26] [(0, 0, 0), (0, 31, 33)] [4, 10, 11] [(0, 30, 30)]) σ0 σ) : zpc (fX12_more3_r1_119 σ s0) (fun r => (zQ [3, 5, 6, 7, 8, 9, 21, 22, 23, 24, 25, 26] [(0, 0, 0), (0, 31, 33)] [4, 10, 11] [(0, 30, 30)]) σ0 (r.1)) := by
  unfold fX12_more3_r1_119
  exact zpc_bu (fU_fX12_push h) (fun σ1 hσ1 => zpc_some hσ1)
theorem fU_fX12_more3_r1_200 {σ0 : zSt} {σ : zSt} {s0 : Int32} (h : (zQ [3, 5, 6, 7, 8, 9, 21, 22, 23, 24, 25, 26] [(0, 0, 0), (0, 31, 33)] [4, 10, 11] [(0, 30, 30)]) σ0 σ) : zpc (fX12_more3_r1_200 σ s0) (fun r => (zQ [3, 5, 6, 7, 8, 9, 21, 22, 23, 24, 25, 26] [(0, 0, 0), (0, 31, 33)] [4, 10, 11] [(0, 30, 30)]) σ0 (r.1)) := by
  unfold fX12_more3_r1_200
  exact zpc_some h
theorem fU_fX12_more3_r1_197 {σ0 : zSt} {σ : zSt} {s0 : Int32} (h : (zQ [3, 5, 6, 7, 8, 9, 21, 22, 23, 24, 25, 26] [(0, 0, 0), (0, 31, 33)] [4, 10, 11] [(0, 30, 30)]) σ0 σ) : zpc (fX12_more3_r1_197 σ s0) (fun r => (zQ [3, 5, 6, 7, 8, 9, 21, 22, 23, 24, 25, 26] [(0, 0, 0), (0, 31, 33)] [4, 10, 11] [(0, 30, 30)]) σ0 (r.1)) := by
  unfold fX12_more3_r1_197
  exact zpc_bi (fU_fX12_prefixed_r1 h) (fun σ2 v3 hσ2 => fU_fX12_more3_r1_200 hσ2)
theorem fU_fX12_more3_r1 {σ0 : zSt} {σ : zSt} {x1 : Int32} {x2 : Int32} (h : (zQ [3, 5, 6, 7, 8, 9, 21, 22, 23, 24, 25, 26] [(0, 0, 0), (0, 31, 33)] [4, 10, 11] [(0, 30, 30)]) σ0 σ) : zpc (fX12_more3_r1 σ x1 x2) (fun r => (zQ [3, 5, 6, 7, 8, 9, 21, 22, 23, 24, 25, 26] [(0, 0, 0), (0, 31, 33)] [4, 10, 11] [(0, 30, 30)]) σ0 (r.1)) := by
  unfold fX12_more3_r1
  exact zpc_bv (fun v4 _ => zpc_if (fun _ => zpc_bi (fU_fX12_nextWord h) (fun σ22 v23 hσ22 => zpc_ck (zpc_bs (zQ.wi hσ22 rfl) (fun σ24 hσ24 => zpc_bi (fU_fX12_cc hσ24) (fun σ25 v26 hσ25 => zpc_if (fun _ => zpc_some hσ25) (fun _ => zpc_ck (zpc_bu (fU_fX12_push hσ25) (fun σ27 hσ27 => zpc_ck (zpc_ck (zpc_bs (zQ.wi hσ27 rfl) (fun σ28 hσ28 => zpc_some hσ28))))))))))) (fun _ => zpc_if (fun _ => zpc_bi (fU_fX12_next h) (fun σ19 v20 hσ19 => zpc_bu (fU_fX12_does hσ19) (fun σ21 hσ21 => zpc_some hσ21))) (fun _ => zpc_if (fun _ => zpc_bu (fU_fX12_call h) (fun σ18 hσ18 => zpc_some hσ18)) (fun _ => zpc_ck (zpc_if (fun _ => zpc_if (fun _ => zpc_bi (fU_fX12_pair h) (fun σ16 v17 hσ16 => fU_fX12_more3_r1_119 hσ16)) (fun _ => zpc_bi (fU_fX12_rp h) (fun σ14 v15 hσ14 => fU_fX12_more3_r1_119 hσ14))) (fun _ => zpc_if (fun _ => zpc_bi (fU_fX12_nextWord h) (fun σ9 v10 hσ9 => zpc_ck (zpc_bs (zQ.wi hσ9 rfl) (fun σ11 hσ11 => zpc_ck (zpc_bu (fU_fX12_push hσ11) (fun σ12 hσ12 => zpc_ck (zpc_ck (zpc_bs (zQ.wi hσ12 rfl) (fun σ13 hσ13 => zpc_some hσ13))))))))) (fun _ => zpc_if (fun _ => zpc_bi (fU_fX12_fetch h) (fun σ5 v6 hσ5 => zpc_bi (fU_fX12_more hσ5) (fun σ7 v8 hσ7 => fU_fX12_more3_r1_200 hσ7))) (fun _ => zpc_if (fun _ => fU_fX12_more3_r1_197 h) (fun _ => fU_fX12_more3_r1_197 h)))))))))
theorem fU_fX12_jump {σ0 : zSt} {σ : zSt} {x1 : Int32} (h : (zQ [3, 5, 6, 7, 8, 9, 21, 22, 23, 24, 25, 26] [(0, 0, 0), (0, 31, 33)] [4, 10, 11] [(0, 30, 30)]) σ0 σ) : zpc (fX12_jump σ x1) (fun r => (zQ [3, 5, 6, 7, 8, 9, 21, 22, 23, 24, 25, 26] [(0, 0, 0), (0, 31, 33)] [4, 10, 11] [(0, 30, 30)]) σ0 (r)) := by
  unfold fX12_jump
  exact zpc_ck (zpc_ck (zpc_bs (zQ.wi h rfl) (fun σ1 hσ1 => zpc_ck (zpc_ck (zpc_bs (zQ.wi hσ1 rfl) (fun σ2 hσ2 => zpc_some hσ2))))))
theorem fU_fX12_moves_85 {σ0 : zSt} {σ : zSt} (h : (zQ [3, 5, 6, 7, 8, 9, 21, 22, 23, 24, 25, 26] [(0, 0, 0), (0, 31, 33)] [4, 10, 11] [(0, 30, 30)]) σ0 σ) : zpc (fX12_moves_85 σ) (fun r => (zQ [3, 5, 6, 7, 8, 9, 21, 22, 23, 24, 25, 26] [(0, 0, 0), (0, 31, 33)] [4, 10, 11] [(0, 30, 30)]) σ0 (r.1)) := by
  unfold fX12_moves_85
  exact zpc_some h
theorem fU_fX12_moves_15 {σ0 : zSt} {σ : zSt} {x2 : Int32} {s0 : Int32} (h : (zQ [3, 5, 6, 7, 8, 9, 21, 22, 23, 24, 25, 26] [(0, 0, 0), (0, 31, 33)] [4, 10, 11] [(0, 30, 30)]) σ0 σ) : zpc (fX12_moves_15 σ x2 s0) (fun r => (zQ [3, 5, 6, 7, 8, 9, 21, 22, 23, 24, 25, 26] [(0, 0, 0), (0, 31, 33)] [4, 10, 11] [(0, 30, 30)]) σ0 (r.1)) := by
  unfold fX12_moves_15
  exact zpc_bi (fU_fX12_pair h) (fun σ1 v2 hσ1 => zpc_if (fun _ => zpc_ck (zpc_bu (fU_fX12_write hσ1) (fun σ3 hσ3 => zpc_ck (zpc_ck (zpc_bs (zQ.wi hσ3 rfl) (fun σ4 hσ4 => fU_fX12_moves_85 hσ4)))))) (fun _ => zpc_bi (fU_fX12_read hσ1) (fun σ5 v6 hσ5 => zpc_ck (zpc_bs (zQ.wi hσ5 rfl) (fun σ7 hσ7 => zpc_ck (zpc_bs (zQ.wi hσ7 rfl) (fun σ8 hσ8 => fU_fX12_moves_85 hσ8)))))))
theorem fU_fX12_moves_214 {σ0 : zSt} {σ : zSt} {s0 : Int32} (h : (zQ [3, 5, 6, 7, 8, 9, 21, 22, 23, 24, 25, 26] [(0, 0, 0), (0, 31, 33)] [4, 10, 11] [(0, 30, 30)]) σ0 σ) : zpc (fX12_moves_214 σ s0) (fun r => (zQ [3, 5, 6, 7, 8, 9, 21, 22, 23, 24, 25, 26] [(0, 0, 0), (0, 31, 33)] [4, 10, 11] [(0, 30, 30)]) σ0 (r.1)) := by
  unfold fX12_moves_214
  exact zpc_some h
theorem fU_fX12_moves_201 {σ0 : zSt} {σ : zSt} {x1 : Int32} {s0 : Int32} {s1 : Int32} (h : (zQ [3, 5, 6, 7, 8, 9, 21, 22, 23, 24, 25, 26] [(0, 0, 0), (0, 31, 33)] [4, 10, 11] [(0, 30, 30)]) σ0 σ) : zpc (fX12_moves_201 σ x1 s0 s1) (fun r => (zQ [3, 5, 6, 7, 8, 9, 21, 22, 23, 24, 25, 26] [(0, 0, 0), (0, 31, 33)] [4, 10, 11] [(0, 30, 30)]) σ0 (r.1)) := by
  unfold fX12_moves_201
  exact zpc_ck (zpc_bs (zQ.wi h rfl) (fun σ9 hσ9 => zpc_if (fun _ => fU_fX12_moves_214 hσ9) (fun _ => fU_fX12_moves_214 hσ9)))
theorem fU_fX12_moves_195 {σ0 : zSt} {σ : zSt} {x1 : Int32} {x3 : Int32} {s0 : Int32} (h : (zQ [3, 5, 6, 7, 8, 9, 21, 22, 23, 24, 25, 26] [(0, 0, 0), (0, 31, 33)] [4, 10, 11] [(0, 30, 30)]) σ0 σ) : zpc (fX12_moves_195 σ x1 x3 s0) (fun r => (zQ [3, 5, 6, 7, 8, 9, 21, 22, 23, 24, 25, 26] [(0, 0, 0), (0, 31, 33)] [4, 10, 11] [(0, 30, 30)]) σ0 (r.1)) := by
  unfold fX12_moves_195
  exact fU_fX12_moves_201 h
theorem fU_fX12_moves_160 {σ0 : zSt} {σ : zSt} {x1 : Int32} {x2 : Int32} {x3 : Int32} (h : (zQ [3, 5, 6, 7, 8, 9, 21, 22, 23, 24, 25, 26] [(0, 0, 0), (0, 31, 33)] [4, 10, 11] [(0, 30, 30)]) σ0 σ) : zpc (fX12_moves_160 σ x1 x2 x3) (fun r => (zQ [3, 5, 6, 7, 8, 9, 21, 22, 23, 24, 25, 26] [(0, 0, 0), (0, 31, 33)] [4, 10, 11] [(0, 30, 30)]) σ0 (r.1)) := by
  unfold fX12_moves_160
  exact zpc_if (fun _ => zpc_if (fun _ => zpc_ck (fU_fX12_moves_201 h)) (fun _ => fU_fX12_moves_195 h)) (fun _ => fU_fX12_moves_195 h)
theorem fU_fX12_moves_114 {σ0 : zSt} {σ : zSt} {x1 : Int32} {x2 : Int32} {x3 : Int32} (h : (zQ [3, 5, 6, 7, 8, 9, 21, 22, 23, 24, 25, 26] [(0, 0, 0), (0, 31, 33)] [4, 10, 11] [(0, 30, 30)]) σ0 σ) : zpc (fX12_moves_114 σ x1 x2 x3) (fun r => (zQ [3, 5, 6, 7, 8, 9, 21, 22, 23, 24, 25, 26] [(0, 0, 0), (0, 31, 33)] [4, 10, 11] [(0, 30, 30)]) σ0 (r.1)) := by
  unfold fX12_moves_114
  exact zpc_if (fun _ => zpc_bi (fU_fX12_hl h) (fun σ14 v15 hσ14 => zpc_bu (fU_fX12_wordTo hσ14) (fun σ16 hσ16 => fU_fX12_moves_160 hσ16))) (fun _ => zpc_if (fun _ => zpc_ck (zpc_bu (fU_fX12_write h) (fun σ10 hσ10 => fU_fX12_moves_160 hσ10))) (fun _ => zpc_bi (fU_fX12_read h) (fun σ11 v12 hσ11 => zpc_ck (zpc_bs (zQ.wi hσ11 rfl) (fun σ13 hσ13 => fU_fX12_moves_160 hσ13)))))
theorem fU_fX12_moves {σ0 : zSt} {σ : zSt} {x1 : Int32} {x2 : Int32} (h : (zQ [3, 5, 6, 7, 8, 9, 21, 22, 23, 24, 25, 26] [(0, 0, 0), (0, 31, 33)] [4, 10, 11] [(0, 30, 30)]) σ0 σ) : zpc (fX12_moves σ x1 x2) (fun r => (zQ [3, 5, 6, 7, 8, 9, 21, 22, 23, 24, 25, 26] [(0, 0, 0), (0, 31, 33)] [4, 10, 11] [(0, 30, 30)]) σ0 (r.1)) := by
  unfold fX12_moves
  exact zpc_if (fun _ => zpc_bi (fU_fX12_nextWord h) (fun σ17 v18 hσ17 => zpc_if (fun _ => zpc_if (fun _ => fU_fX12_moves_114 hσ17) (fun _ => zpc_bi (fU_fX12_word hσ17) (fun σ19 v20 hσ19 => zpc_bu (fU_fX12_hlTo hσ19) (fun σ21 hσ21 => fU_fX12_moves_160 hσ21)))) (fun _ => fU_fX12_moves_114 hσ17))) (fun _ => zpc_if (fun _ => fU_fX12_moves_15 h) (fun _ => fU_fX12_moves_15 h))
theorem fU_fX12_zero_154 {σ0 : zSt} {σ : zSt} {s0 : Int32} (h : (zQ [3, 5, 6, 7, 8, 9, 21, 22, 23, 24, 25, 26] [(0, 0, 0), (0, 31, 33)] [4, 10, 11] [(0, 30, 30)]) σ0 σ) : zpc (fX12_zero_154 σ s0) (fun r => (zQ [3, 5, 6, 7, 8, 9, 21, 22, 23, 24, 25, 26] [(0, 0, 0), (0, 31, 33)] [4, 10, 11] [(0, 30, 30)]) σ0 (r.1)) := by
  unfold fX12_zero_154
  exact zpc_some h
theorem fU_fX12_zero_122 {σ0 : zSt} {σ : zSt} {x1 : Int32} {x5 : Int32} (h : (zQ [3, 5, 6, 7, 8, 9, 21, 22, 23, 24, 25, 26] [(0, 0, 0), (0, 31, 33)] [4, 10, 11] [(0, 30, 30)]) σ0 σ) : zpc (fX12_zero_122 σ x1 x5) (fun r => (zQ [3, 5, 6, 7, 8, 9, 21, 22, 23, 24, 25, 26] [(0, 0, 0), (0, 31, 33)] [4, 10, 11] [(0, 30, 30)]) σ0 (r.1)) := by
  unfold fX12_zero_122
  exact zpc_if (fun _ => zpc_if (fun _ => fU_fX12_zero_154 h) (fun _ => fU_fX12_zero_154 h)) (fun _ => zpc_if (fun _ => fU_fX12_zero_154 h) (fun _ => fU_fX12_zero_154 h))
theorem fU_fX12_zero_109 {σ0 : zSt} {σ : zSt} {x1 : Int32} {x4 : Int32} {s0 : Int32} (h : (zQ [3, 5, 6, 7, 8, 9, 21, 22, 23, 24, 25, 26] [(0, 0, 0), (0, 31, 33)] [4, 10, 11] [(0, 30, 30)]) σ0 σ) : zpc (fX12_zero_109 σ x1 x4 s0) (fun r => (zQ [3, 5, 6, 7, 8, 9, 21, 22, 23, 24, 25, 26] [(0, 0, 0), (0, 31, 33)] [4, 10, 11] [(0, 30, 30)]) σ0 (r.1)) := by
  unfold fX12_zero_109
  exact zpc_if (fun _ => fU_fX12_zero_122 h) (fun _ => zpc_bu (fU_fX12_jump h) (fun σ1 hσ1 => fU_fX12_zero_122 hσ1))
theorem fU_fX12_zero_104 {σ0 : zSt} {σ : zSt} {x1 : Int32} {x4 : Int32} (h : (zQ [3, 5, 6, 7, 8, 9, 21, 22, 23, 24, 25, 26] [(0, 0, 0), (0, 31, 33)] [4, 10, 11] [(0, 30, 30)]) σ0 σ) : zpc (fX12_zero_104 σ x1 x4) (fun r => (zQ [3, 5, 6, 7, 8, 9, 21, 22, 23, 24, 25, 26] [(0, 0, 0), (0, 31, 33)] [4, 10, 11] [(0, 30, 30)]) σ0 (r.1)) := by
  unfold fX12_zero_104
  exact fU_fX12_zero_109 h
theorem fU_fX12_zero_67 {σ0 : zSt} {σ : zSt} {x1 : Int32} {x4 : Int32} (h : (zQ [3, 5, 6, 7, 8, 9, 21, 22, 23, 24, 25, 26] [(0, 0, 0), (0, 31, 33)] [4, 10, 11] [(0, 30, 30)]) σ0 σ) : zpc (fX12_zero_67 σ x1 x4) (fun r => (zQ [3, 5, 6, 7, 8, 9, 21, 22, 23, 24, 25, 26] [(0, 0, 0), (0, 31, 33)] [4, 10, 11] [(0, 30, 30)]) σ0 (r.1)) := by
  unfold fX12_zero_67
  exact zpc_if (fun _ => zpc_ck (zpc_if (fun _ => fU_fX12_zero_109 h) (fun _ => fU_fX12_zero_109 h))) (fun _ => zpc_if (fun _ => fU_fX12_zero_104 h) (fun _ => zpc_bi (fU_fX12_cc h) (fun σ2 v3 hσ2 => zpc_if (fun _ => fU_fX12_zero_109 hσ2) (fun _ => fU_fX12_zero_104 hσ2))))
theorem fU_fX12_zero_266 {σ0 : zSt} {σ : zSt} {x6 : Int32} {s0 : Int32} {s1 : Int32} (h : (zQ [3, 5, 6, 7, 8, 9, 21, 22, 23, 24, 25, 26] [(0, 0, 0), (0, 31, 33)] [4, 10, 11] [(0, 30, 30)]) σ0 σ) : zpc (fX12_zero_266 σ x6 s0 s1) (fun r => (zQ [3, 5, 6, 7, 8, 9, 21, 22, 23, 24, 25, 26] [(0, 0, 0), (0, 31, 33)] [4, 10, 11] [(0, 30, 30)]) σ0 (r.1)) := by
  unfold fX12_zero_266
  exact zpc_bu (fU_fX12_put h) (fun σ4 hσ4 => zpc_bu (fU_fX12_put hσ4) (fun σ5 hσ5 => zpc_bu (fU_fX12_xy hσ5) (fun σ6 hσ6 => zpc_some hσ6)))
theorem fU_fX12_zero_249 {σ0 : zSt} {σ : zSt} {x6 : Int32} {s0 : Int32} {s1 : Int32} (h : (zQ [3, 5, 6, 7, 8, 9, 21, 22, 23, 24, 25, 26] [(0, 0, 0), (0, 31, 33)] [4, 10, 11] [(0, 30, 30)]) σ0 σ) : zpc (fX12_zero_249 σ x6 s0 s1) (fun r => (zQ [3, 5, 6, 7, 8, 9, 21, 22, 23, 24, 25, 26] [(0, 0, 0), (0, 31, 33)] [4, 10, 11] [(0, 30, 30)]) σ0 (r.1)) := by
  unfold fX12_zero_249
  exact zpc_bu (fU_fX12_put h) (fun σ7 hσ7 => zpc_if (fun _ => fU_fX12_zero_266 hσ7) (fun _ => fU_fX12_zero_266 hσ7))
theorem fU_fX12_zero_306 {σ0 : zSt} {σ : zSt} {s0 : Int32} {s1 : Int32} (h : (zQ [3, 5, 6, 7, 8, 9, 21, 22, 23, 24, 25, 26] [(0, 0, 0), (0, 31, 33)] [4, 10, 11] [(0, 30, 30)]) σ0 σ) : zpc (fX12_zero_306 σ s0 s1) (fun r => (zQ [3, 5, 6, 7, 8, 9, 21, 22, 23, 24, 25, 26] [(0, 0, 0), (0, 31, 33)] [4, 10, 11] [(0, 30, 30)]) σ0 (r.1)) := by
  unfold fX12_zero_306
  exact zpc_bi (fU_fX12_moves h) (fun σ8 v9 hσ8 => zpc_some hσ8)
theorem fU_fX12_zero_328 {σ0 : zSt} {σ : zSt} {s0 : Int32} {s1 : Int32} {s2 : Int32} (h : (zQ [3, 5, 6, 7, 8, 9, 21, 22, 23, 24, 25, 26] [(0, 0, 0), (0, 31, 33)] [4, 10, 11] [(0, 30, 30)]) σ0 σ) : zpc (fX12_zero_328 σ s0 s1 s2) (fun r => (zQ [3, 5, 6, 7, 8, 9, 21, 22, 23, 24, 25, 26] [(0, 0, 0), (0, 31, 33)] [4, 10, 11] [(0, 30, 30)]) σ0 (r.1)) := by
  unfold fX12_zero_328
  exact zpc_bu (fU_fX12_rpTo h) (fun σ10 hσ10 => zpc_some hσ10)
theorem fU_fX12_zero_178 {σ0 : zSt} {σ : zSt} {x1 : Int32} {x2 : Int32} {x3 : Int32} (h : (zQ [3, 5, 6, 7, 8, 9, 21, 22, 23, 24, 25, 26] [(0, 0, 0), (0, 31, 33)] [4, 10, 11] [(0, 30, 30)]) σ0 σ) : zpc (fX12_zero_178 σ x1 x2 x3) (fun r => (zQ [3, 5, 6, 7, 8, 9, 21, 22, 23, 24, 25, 26] [(0, 0, 0), (0, 31, 33)] [4, 10, 11] [(0, 30, 30)]) σ0 (r.1)) := by
  unfold fX12_zero_178
  exact zpc_if (fun _ => zpc_bi (fU_fX12_hl h) (fun σ13 v14 hσ13 => zpc_bi (fU_fX12_rp hσ13) (fun σ15 v16 hσ15 => zpc_ck (zpc_bs (zQ.wi hσ15 rfl) (fun σ17 hσ17 => zpc_bv (fun v18 _ => zpc_bu (fU_fX12_hlTo hσ17) (fun σ19 hσ19 => zpc_if (fun _ => fU_fX12_zero_249 hσ19) (fun _ => fU_fX12_zero_249 hσ19)))))))) (fun _ => zpc_if (fun _ => zpc_ck (zpc_if (fun _ => fU_fX12_zero_306 h) (fun _ => fU_fX12_zero_306 h))) (fun _ => zpc_bi (fU_fX12_rp h) (fun σ11 v12 hσ11 => zpc_ck (zpc_if (fun _ => fU_fX12_zero_328 hσ11) (fun _ => fU_fX12_zero_328 hσ11)))))
theorem fU_fX12_zero {σ0 : zSt} {σ : zSt} {x1 : Int32} {x2 : Int32} (h : (zQ [3, 5, 6, 7, 8, 9, 21, 22, 23, 24, 25, 26] [(0, 0, 0), (0, 31, 33)] [4, 10, 11] [(0, 30, 30)]) σ0 σ) : zpc (fX12_zero σ x1 x2) (fun r => (zQ [3, 5, 6, 7, 8, 9, 21, 22, 23, 24, 25, 26] [(0, 0, 0), (0, 31, 33)] [4, 10, 11] [(0, 30, 30)]) σ0 (r.1)) := by
  unfold fX12_zero
  exact zpc_bv (fun v20 _ => zpc_if (fun _ => zpc_if (fun _ => zpc_some h) (fun _ => zpc_if (fun _ => zpc_bu (fU_fX12_change h) (fun σ29 hσ29 => zpc_bu (fU_fX12_change hσ29) (fun σ30 hσ30 => zpc_some hσ30))) (fun _ => zpc_bi (fU_fX12_next h) (fun σ24 v25 hσ24 => zpc_bi (fU_fX12_signed hσ24) (fun σ26 v27 hσ26 => zpc_if (fun _ => zpc_ck (zpc_ck (zpc_bs (zQ.wi hσ26 rfl) (fun σ28 hσ28 => fU_fX12_zero_67 hσ28)))) (fun _ => fU_fX12_zero_67 hσ26)))))) (fun _ => zpc_if (fun _ => zpc_ck (zpc_if (fun _ => zpc_bi (fU_fX12_nextWord h) (fun σ21 v22 hσ21 => zpc_bu (fU_fX12_rpTo hσ21) (fun σ23 hσ23 => zpc_some hσ23))) (fun _ => fU_fX12_zero_178 h))) (fun _ => fU_fX12_zero_178 h)))
theorem fU_fX12_adjusts_130 {σ0 : zSt} {σ : zSt} {s0 : Int32} {s1 : Int32} (h : (zQ [3, 5, 6, 7, 8, 9, 21, 22, 23, 24, 25, 26] [(0, 0, 0), (0, 31, 33)] [4, 10, 11] [(0, 30, 30)]) σ0 σ) : zpc (fX12_adjusts_130 σ s0 s1) (fun r => (zQ [3, 5, 6, 7, 8, 9, 21, 22, 23, 24, 25, 26] [(0, 0, 0), (0, 31, 33)] [4, 10, 11] [(0, 30, 30)]) σ0 (r)) := by
  unfold fX12_adjusts_130
  exact zpc_ck (zpc_bs (zQ.wi h rfl) (fun σ1 hσ1 => zpc_ck (zpc_bu (fU_fX12_by hσ1) (fun σ2 hσ2 => zpc_ck (zpc_bi (fU_fX12_isEven hσ2) (fun σ3 v4 hσ3 => zpc_bu (fU_fX12_put hσ3) (fun σ5 hσ5 => zpc_some hσ5)))))))
theorem fU_fX12_adjusts_105 {σ0 : zSt} {σ : zSt} {x1 : Int32} {x2 : Int32} {s0 : Int32} {s1 : Int32} (h : (zQ [3, 5, 6, 7, 8, 9, 21, 22, 23, 24, 25, 26] [(0, 0, 0), (0, 31, 33)] [4, 10, 11] [(0, 30, 30)]) σ0 σ) : zpc (fX12_adjusts_105 σ x1 x2 s0 s1) (fun r => (zQ [3, 5, 6, 7, 8, 9, 21, 22, 23, 24, 25, 26] [(0, 0, 0), (0, 31, 33)] [4, 10, 11] [(0, 30, 30)]) σ0 (r)) := by
  unfold fX12_adjusts_105
  exact zpc_bu (fU_fX12_put h) (fun σ6 hσ6 => zpc_bi (fU_fX12_flag hσ6) (fun σ7 v8 hσ7 => zpc_if (fun _ => fU_fX12_adjusts_130 hσ7) (fun _ => fU_fX12_adjusts_130 hσ7)))
theorem fU_fX12_adjusts_104 {σ0 : zSt} {σ : zSt} {x1 : Int32} {x2 : Int32} {s0 : Int32} (h : (zQ [3, 5, 6, 7, 8, 9, 21, 22, 23, 24, 25, 26] [(0, 0, 0), (0, 31, 33)] [4, 10, 11] [(0, 30, 30)]) σ0 σ) : zpc (fX12_adjusts_104 σ x1 x2 s0) (fun r => (zQ [3, 5, 6, 7, 8, 9, 21, 22, 23, 24, 25, 26] [(0, 0, 0), (0, 31, 33)] [4, 10, 11] [(0, 30, 30)]) σ0 (r)) := by
  unfold fX12_adjusts_104
  exact fU_fX12_adjusts_105 h
theorem fU_fX12_adjusts_55 {σ0 : zSt} {σ : zSt} {x1 : Int32} {x2 : Int32} (h : (zQ [3, 5, 6, 7, 8, 9, 21, 22, 23, 24, 25, 26] [(0, 0, 0), (0, 31, 33)] [4, 10, 11] [(0, 30, 30)]) σ0 σ) : zpc (fX12_adjusts_55 σ x1 x2) (fun r => (zQ [3, 5, 6, 7, 8, 9, 21, 22, 23, 24, 25, 26] [(0, 0, 0), (0, 31, 33)] [4, 10, 11] [(0, 30, 30)]) σ0 (r)) := by
  unfold fX12_adjusts_55
  exact zpc_bi (fU_fX12_flag h) (fun σ9 v10 hσ9 => zpc_if (fun _ => zpc_if (fun _ => fU_fX12_adjusts_105 hσ9) (fun _ => fU_fX12_adjusts_105 hσ9)) (fun _ => zpc_bi (fU_fX12_flag hσ9) (fun σ11 v12 hσ11 => zpc_if (fun _ => zpc_if (fun _ => fU_fX12_adjusts_104 hσ11) (fun _ => fU_fX12_adjusts_105 hσ11)) (fun _ => fU_fX12_adjusts_104 hσ11))))
theorem fU_fX12_adjusts_46 {σ0 : zSt} {σ : zSt} {x1 : Int32} {x2 : Int32} (h : (zQ [3, 5, 6, 7, 8, 9, 21, 22, 23, 24, 25, 26] [(0, 0, 0), (0, 31, 33)] [4, 10, 11] [(0, 30, 30)]) σ0 σ) : zpc (fX12_adjusts_46 σ x1 x2) (fun r => (zQ [3, 5, 6, 7, 8, 9, 21, 22, 23, 24, 25, 26] [(0, 0, 0), (0, 31, 33)] [4, 10, 11] [(0, 30, 30)]) σ0 (r)) := by
  unfold fX12_adjusts_46
  exact zpc_bv (fun v13 _ => zpc_bu (fU_fX12_put h) (fun σ14 hσ14 => fU_fX12_adjusts_55 hσ14))
theorem fU_fX12_adjusts_30 {σ0 : zSt} {σ : zSt} {x1 : Int32} {x2 : Int32} (h : (zQ [3, 5, 6, 7, 8, 9, 21, 22, 23, 24, 25, 26] [(0, 0, 0), (0, 31, 33)] [4, 10, 11] [(0, 30, 30)]) σ0 σ) : zpc (fX12_adjusts_30 σ x1 x2) (fun r => (zQ [3, 5, 6, 7, 8, 9, 21, 22, 23, 24, 25, 26] [(0, 0, 0), (0, 31, 33)] [4, 10, 11] [(0, 30, 30)]) σ0 (r)) := by
  unfold fX12_adjusts_30
  exact zpc_if (fun _ => fU_fX12_adjusts_46 h) (fun _ => zpc_bi (fU_fX12_flag h) (fun σ15 v16 hσ15 => zpc_if (fun _ => fU_fX12_adjusts_46 hσ15) (fun _ => fU_fX12_adjusts_55 hσ15)))
theorem fU_fX12_adjusts_27 {σ0 : zSt} {σ : zSt} {x1 : Int32} {x2 : Int32} (h : (zQ [3, 5, 6, 7, 8, 9, 21, 22, 23, 24, 25, 26] [(0, 0, 0), (0, 31, 33)] [4, 10, 11] [(0, 30, 30)]) σ0 σ) : zpc (fX12_adjusts_27 σ x1 x2) (fun r => (zQ [3, 5, 6, 7, 8, 9, 21, 22, 23, 24, 25, 26] [(0, 0, 0), (0, 31, 33)] [4, 10, 11] [(0, 30, 30)]) σ0 (r)) := by
  unfold fX12_adjusts_27
  exact zpc_bv (fun v17 _ => fU_fX12_adjusts_30 h)
theorem fU_fX12_adjusts {σ0 : zSt} {σ : zSt} (h : (zQ [3, 5, 6, 7, 8, 9, 21, 22, 23, 24, 25, 26] [(0, 0, 0), (0, 31, 33)] [4, 10, 11] [(0, 30, 30)]) σ0 σ) : zpc (fX12_adjusts σ) (fun r => (zQ [3, 5, 6, 7, 8, 9, 21, 22, 23, 24, 25, 26] [(0, 0, 0), (0, 31, 33)] [4, 10, 11] [(0, 30, 30)]) σ0 (r)) := by
  unfold fX12_adjusts
  exact zpc_ck (zpc_bv (fun v18 _ => zpc_if (fun _ => fU_fX12_adjusts_27 h) (fun _ => zpc_bi (fU_fX12_flag h) (fun σ19 v20 hσ19 => zpc_if (fun _ => fU_fX12_adjusts_27 hσ19) (fun _ => fU_fX12_adjusts_30 hσ19)))))
theorem fU_fX12_singles_28 {σ0 : zSt} {σ : zSt} {s0 : Int32} (h : (zQ [3, 5, 6, 7, 8, 9, 21, 22, 23, 24, 25, 26] [(0, 0, 0), (0, 31, 33)] [4, 10, 11] [(0, 30, 30)]) σ0 σ) : zpc (fX12_singles_28 σ s0) (fun r => (zQ [3, 5, 6, 7, 8, 9, 21, 22, 23, 24, 25, 26] [(0, 0, 0), (0, 31, 33)] [4, 10, 11] [(0, 30, 30)]) σ0 (r.1)) := by
  unfold fX12_singles_28
  exact zpc_some h
theorem fU_fX12_singles_149 {σ0 : zSt} {σ : zSt} {s0 : Int32} (h : (zQ [3, 5, 6, 7, 8, 9, 21, 22, 23, 24, 25, 26] [(0, 0, 0), (0, 31, 33)] [4, 10, 11] [(0, 30, 30)]) σ0 σ) : zpc (fX12_singles_149 σ s0) (fun r => (zQ [3, 5, 6, 7, 8, 9, 21, 22, 23, 24, 25, 26] [(0, 0, 0), (0, 31, 33)] [4, 10, 11] [(0, 30, 30)]) σ0 (r.1)) := by
  unfold fX12_singles_149
  exact zpc_some h
theorem fU_fX12_singles_134 {σ0 : zSt} {σ : zSt} {x1 : Int32} {s0 : Int32} {s1 : Int32} (h : (zQ [3, 5, 6, 7, 8, 9, 21, 22, 23, 24, 25, 26] [(0, 0, 0), (0, 31, 33)] [4, 10, 11] [(0, 30, 30)]) σ0 σ) : zpc (fX12_singles_134 σ x1 s0 s1) (fun r => (zQ [3, 5, 6, 7, 8, 9, 21, 22, 23, 24, 25, 26] [(0, 0, 0), (0, 31, 33)] [4, 10, 11] [(0, 30, 30)]) σ0 (r.1)) := by
  unfold fX12_singles_134
  exact zpc_bu (fU_fX12_put h) (fun σ1 hσ1 => zpc_if (fun _ => fU_fX12_singles_149 hσ1) (fun _ => fU_fX12_singles_149 hσ1))
theorem fU_fX12_singles_119 {σ0 : zSt} {σ : zSt} {x1 : Int32} {x2 : Int32} {s0 : Int32} {s1 : Int32} (h : (zQ [3, 5, 6, 7, 8, 9, 21, 22, 23, 24, 25, 26] [(0, 0, 0), (0, 31, 33)] [4, 10, 11] [(0, 30, 30)]) σ0 σ) : zpc (fX12_singles_119 σ x1 x2 s0 s1) (fun r => (zQ [3, 5, 6, 7, 8, 9, 21, 22, 23, 24, 25, 26] [(0, 0, 0), (0, 31, 33)] [4, 10, 11] [(0, 30, 30)]) σ0 (r.1)) := by
  unfold fX12_singles_119
  exact zpc_bu (fU_fX12_put h) (fun σ2 hσ2 => zpc_if (fun _ => fU_fX12_singles_134 hσ2) (fun _ => fU_fX12_singles_134 hσ2))
theorem fU_fX12_singles_111 {σ0 : zSt} {σ : zSt} {x1 : Int32} {x2 : Int32} {s0 : Int32} {s1 : Int32} {s2 : Int32} (h : (zQ [3, 5, 6, 7, 8, 9, 21, 22, 23, 24, 25, 26] [(0, 0, 0), (0, 31, 33)] [4, 10, 11] [(0, 30, 30)]) σ0 σ) : zpc (fX12_singles_111 σ x1 x2 s0 s1 s2) (fun r => (zQ [3, 5, 6, 7, 8, 9, 21, 22, 23, 24, 25, 26] [(0, 0, 0), (0, 31, 33)] [4, 10, 11] [(0, 30, 30)]) σ0 (r.1)) := by
  unfold fX12_singles_111
  exact zpc_if (fun _ => fU_fX12_singles_119 h) (fun _ => fU_fX12_singles_119 h)
theorem fU_fX12_singles_92 {σ0 : zSt} {σ : zSt} {x1 : Int32} {x2 : Int32} {x3 : Int32} {s0 : Int32} {s1 : Int32} (h : (zQ [3, 5, 6, 7, 8, 9, 21, 22, 23, 24, 25, 26] [(0, 0, 0), (0, 31, 33)] [4, 10, 11] [(0, 30, 30)]) σ0 σ) : zpc (fX12_singles_92 σ x1 x2 x3 s0 s1) (fun r => (zQ [3, 5, 6, 7, 8, 9, 21, 22, 23, 24, 25, 26] [(0, 0, 0), (0, 31, 33)] [4, 10, 11] [(0, 30, 30)]) σ0 (r.1)) := by
  unfold fX12_singles_92
  exact zpc_bu (fU_fX12_put h) (fun σ3 hσ3 => zpc_if (fun _ => fU_fX12_singles_111 hσ3) (fun _ => fU_fX12_singles_111 hσ3))
theorem fU_fX12_singles_84 {σ0 : zSt} {σ : zSt} {x1 : Int32} {x2 : Int32} {x3 : Int32} {s0 : Int32} {s1 : Int32} {s2 : Int32} (h : (zQ [3, 5, 6, 7, 8, 9, 21, 22, 23, 24, 25, 26] [(0, 0, 0), (0, 31, 33)] [4, 10, 11] [(0, 30, 30)]) σ0 σ) : zpc (fX12_singles_84 σ x1 x2 x3 s0 s1 s2) (fun r => (zQ [3, 5, 6, 7, 8, 9, 21, 22, 23, 24, 25, 26] [(0, 0, 0), (0, 31, 33)] [4, 10, 11] [(0, 30, 30)]) σ0 (r.1)) := by
  unfold fX12_singles_84
  exact zpc_if (fun _ => fU_fX12_singles_92 h) (fun _ => fU_fX12_singles_92 h)
theorem fU_fX12_singles_50 {σ0 : zSt} {σ : zSt} {x1 : Int32} {x2 : Int32} {s0 : Int32} {s1 : Int32} (h : (zQ [3, 5, 6, 7, 8, 9, 21, 22, 23, 24, 25, 26] [(0, 0, 0), (0, 31, 33)] [4, 10, 11] [(0, 30, 30)]) σ0 σ) : zpc (fX12_singles_50 σ x1 x2 s0 s1) (fun r => (zQ [3, 5, 6, 7, 8, 9, 21, 22, 23, 24, 25, 26] [(0, 0, 0), (0, 31, 33)] [4, 10, 11] [(0, 30, 30)]) σ0 (r.1)) := by
  unfold fX12_singles_50
  exact zpc_bv (fun v4 _ => zpc_bu (fU_fX12_rTo h) (fun σ5 hσ5 => zpc_bu (fU_fX12_by hσ5) (fun σ6 hσ6 => zpc_if (fun _ => fU_fX12_singles_84 hσ6) (fun _ => fU_fX12_singles_84 hσ6))))
theorem fU_fX12_singles_316 {σ0 : zSt} {σ : zSt} (h : (zQ [3, 5, 6, 7, 8, 9, 21, 22, 23, 24, 25, 26] [(0, 0, 0), (0, 31, 33)] [4, 10, 11] [(0, 30, 30)]) σ0 σ) : zpc (fX12_singles_316 σ) (fun r => (zQ [3, 5, 6, 7, 8, 9, 21, 22, 23, 24, 25, 26] [(0, 0, 0), (0, 31, 33)] [4, 10, 11] [(0, 30, 30)]) σ0 (r.1)) := by
  unfold fX12_singles_316
  exact zpc_some h
theorem fU_fX12_singles_297 {σ0 : zSt} {σ : zSt} {s0 : Int32} {s1 : Int32} (h : (zQ [3, 5, 6, 7, 8, 9, 21, 22, 23, 24, 25, 26] [(0, 0, 0), (0, 31, 33)] [4, 10, 11] [(0, 30, 30)]) σ0 σ) : zpc (fX12_singles_297 σ s0 s1) (fun r => (zQ [3, 5, 6, 7, 8, 9, 21, 22, 23, 24, 25, 26] [(0, 0, 0), (0, 31, 33)] [4, 10, 11] [(0, 30, 30)]) σ0 (r.1)) := by
  unfold fX12_singles_297
  exact zpc_bu (fU_fX12_put h) (fun σ7 hσ7 => zpc_bu (fU_fX12_put hσ7) (fun σ8 hσ8 => zpc_ck (zpc_bu (fU_fX12_xy hσ8) (fun σ9 hσ9 => fU_fX12_singles_316 hσ9))))
theorem fU_fX12_singles_292 {σ0 : zSt} {σ : zSt} {s0 : Int32} (h : (zQ [3, 5, 6, 7, 8, 9, 21, 22, 23, 24, 25, 26] [(0, 0, 0), (0, 31, 33)] [4, 10, 11] [(0, 30, 30)]) σ0 σ) : zpc (fX12_singles_292 σ s0) (fun r => (zQ [3, 5, 6, 7, 8, 9, 21, 22, 23, 24, 25, 26] [(0, 0, 0), (0, 31, 33)] [4, 10, 11] [(0, 30, 30)]) σ0 (r.1)) := by
  unfold fX12_singles_292
  exact fU_fX12_singles_297 h
theorem fU_fX12_singles_273 {σ0 : zSt} {σ : zSt} {x1 : Int32} {s0 : Int32} {s1 : Int32} (h : (zQ [3, 5, 6, 7, 8, 9, 21, 22, 23, 24, 25, 26] [(0, 0, 0), (0, 31, 33)] [4, 10, 11] [(0, 30, 30)]) σ0 σ) : zpc (fX12_singles_273 σ x1 s0 s1) (fun r => (zQ [3, 5, 6, 7, 8, 9, 21, 22, 23, 24, 25, 26] [(0, 0, 0), (0, 31, 33)] [4, 10, 11] [(0, 30, 30)]) σ0 (r.1)) := by
  unfold fX12_singles_273
  exact zpc_bu (fU_fX12_put h) (fun σ10 hσ10 => zpc_if (fun _ => fU_fX12_singles_292 hσ10) (fun _ => zpc_bi (fU_fX12_flag hσ10) (fun σ11 v12 hσ11 => zpc_if (fun _ => fU_fX12_singles_292 hσ11) (fun _ => fU_fX12_singles_297 hσ11))))
theorem fU_fX12_singles_272 {σ0 : zSt} {σ : zSt} {x1 : Int32} {s0 : Int32} (h : (zQ [3, 5, 6, 7, 8, 9, 21, 22, 23, 24, 25, 26] [(0, 0, 0), (0, 31, 33)] [4, 10, 11] [(0, 30, 30)]) σ0 σ) : zpc (fX12_singles_272 σ x1 s0) (fun r => (zQ [3, 5, 6, 7, 8, 9, 21, 22, 23, 24, 25, 26] [(0, 0, 0), (0, 31, 33)] [4, 10, 11] [(0, 30, 30)]) σ0 (r.1)) := by
  unfold fX12_singles_272
  exact fU_fX12_singles_273 h
theorem fU_fX12_singles {σ0 : zSt} {σ : zSt} {x1 : Int32} {x2 : Int32} (h : (zQ [3, 5, 6, 7, 8, 9, 21, 22, 23, 24, 25, 26] [(0, 0, 0), (0, 31, 33)] [4, 10, 11] [(0, 30, 30)]) σ0 σ) : zpc (fX12_singles σ x1 x2) (fun r => (zQ [3, 5, 6, 7, 8, 9, 21, 22, 23, 24, 25, 26] [(0, 0, 0), (0, 31, 33)] [4, 10, 11] [(0, 30, 30)]) σ0 (r.1)) := by
  unfold fX12_singles
  exact zpc_if (fun _ => zpc_bi (fU_fX12_next h) (fun σ28 v29 hσ28 => zpc_bu (fU_fX12_rTo hσ28) (fun σ30 hσ30 => zpc_if (fun _ => fU_fX12_singles_28 hσ30) (fun _ => fU_fX12_singles_28 hσ30)))) (fun _ => zpc_if (fun _ => zpc_if (fun _ => zpc_if (fun _ => zpc_bu (fU_fX12_adjusts h) (fun σ19 hσ19 => fU_fX12_singles_316 hσ19)) (fun _ => zpc_if (fun _ => zpc_ck (zpc_ck (zpc_bs (zQ.wi h rfl) (fun σ15 hσ15 => zpc_bu (fU_fX12_put hσ15) (fun σ16 hσ16 => zpc_bu (fU_fX12_put hσ16) (fun σ17 hσ17 => zpc_ck (zpc_bu (fU_fX12_xy hσ17) (fun σ18 hσ18 => fU_fX12_singles_316 hσ18)))))))) (fun _ => zpc_if (fun _ => zpc_bi (fU_fX12_flag h) (fun σ13 v14 hσ13 => zpc_if (fun _ => fU_fX12_singles_273 hσ13) (fun _ => fU_fX12_singles_272 hσ13))) (fun _ => fU_fX12_singles_272 h)))) (fun _ => zpc_ck (zpc_bi (fU_fX12_turned h) (fun σ20 v21 hσ20 => zpc_ck (zpc_bs (zQ.wi hσ20 rfl) (fun σ22 hσ22 => zpc_ck (zpc_bu (fU_fX12_xy hσ22) (fun σ23 hσ23 => zpc_bu (fU_fX12_put hσ23) (fun σ24 hσ24 => zpc_bu (fU_fX12_put hσ24) (fun σ25 hσ25 => fU_fX12_singles_316 hσ25)))))))))) (fun _ => zpc_bi (fU_fX12_r h) (fun σ26 v27 hσ26 => zpc_if (fun _ => fU_fX12_singles_50 hσ26) (fun _ => fU_fX12_singles_50 hσ26))))
theorem fU_fX12_plain_r1_160 {σ0 : zSt} {σ : zSt} {s0 : Int32} (h : (zQ [3, 5, 6, 7, 8, 9, 21, 22, 23, 24, 25, 26] [(0, 0, 0), (0, 31, 33)] [4, 10, 11] [(0, 30, 30)]) σ0 σ) : zpc (fX12_plain_r1_160 σ s0) (fun r => (zQ [3, 5, 6, 7, 8, 9, 21, 22, 23, 24, 25, 26] [(0, 0, 0), (0, 31, 33)] [4, 10, 11] [(0, 30, 30)]) σ0 (r.1)) := by
  unfold fX12_plain_r1_160
  exact zpc_some h
theorem fU_fX12_plain_r1_139 {σ0 : zSt} {σ : zSt} {s0 : Int32} (h : (zQ [3, 5, 6, 7, 8, 9, 21, 22, 23, 24, 25, 26] [(0, 0, 0), (0, 31, 33)] [4, 10, 11] [(0, 30, 30)]) σ0 σ) : zpc (fX12_plain_r1_139 σ s0) (fun r => (zQ [3, 5, 6, 7, 8, 9, 21, 22, 23, 24, 25, 26] [(0, 0, 0), (0, 31, 33)] [4, 10, 11] [(0, 30, 30)]) σ0 (r.1)) := by
  unfold fX12_plain_r1_139
  exact zpc_some h
theorem fU_fX12_plain_r1_116 {σ0 : zSt} {σ : zSt} {s0 : Int32} (h : (zQ [3, 5, 6, 7, 8, 9, 21, 22, 23, 24, 25, 26] [(0, 0, 0), (0, 31, 33)] [4, 10, 11] [(0, 30, 30)]) σ0 σ) : zpc (fX12_plain_r1_116 σ s0) (fun r => (zQ [3, 5, 6, 7, 8, 9, 21, 22, 23, 24, 25, 26] [(0, 0, 0), (0, 31, 33)] [4, 10, 11] [(0, 30, 30)]) σ0 (r.1)) := by
  unfold fX12_plain_r1_116
  exact zpc_some h
theorem fU_fX12_plain_r1_115 {σ0 : zSt} {σ : zSt} (h : (zQ [3, 5, 6, 7, 8, 9, 21, 22, 23, 24, 25, 26] [(0, 0, 0), (0, 31, 33)] [4, 10, 11] [(0, 30, 30)]) σ0 σ) : zpc (fX12_plain_r1_115 σ) (fun r => (zQ [3, 5, 6, 7, 8, 9, 21, 22, 23, 24, 25, 26] [(0, 0, 0), (0, 31, 33)] [4, 10, 11] [(0, 30, 30)]) σ0 (r.1)) := by
  unfold fX12_plain_r1_115
  exact fU_fX12_plain_r1_116 h
theorem fU_fX12_plain_r1_110 {σ0 : zSt} {σ : zSt} (h : (zQ [3, 5, 6, 7, 8, 9, 21, 22, 23, 24, 25, 26] [(0, 0, 0), (0, 31, 33)] [4, 10, 11] [(0, 30, 30)]) σ0 σ) : zpc (fX12_plain_r1_110 σ) (fun r => (zQ [3, 5, 6, 7, 8, 9, 21, 22, 23, 24, 25, 26] [(0, 0, 0), (0, 31, 33)] [4, 10, 11] [(0, 30, 30)]) σ0 (r.1)) := by
  unfold fX12_plain_r1_110
  exact fU_fX12_plain_r1_116 h
theorem fU_fX12_plain_r1_92 {σ0 : zSt} {σ : zSt} {x1 : Int32} {x2 : Int32} {x3 : Int32} (h : (zQ [3, 5, 6, 7, 8, 9, 21, 22, 23, 24, 25, 26] [(0, 0, 0), (0, 31, 33)] [4, 10, 11] [(0, 30, 30)]) σ0 σ) : zpc (fX12_plain_r1_92 σ x1 x2 x3) (fun r => (zQ [3, 5, 6, 7, 8, 9, 21, 22, 23, 24, 25, 26] [(0, 0, 0), (0, 31, 33)] [4, 10, 11] [(0, 30, 30)]) σ0 (r.1)) := by
  unfold fX12_plain_r1_92
  exact zpc_if (fun _ => fU_fX12_plain_r1_115 h) (fun _ => zpc_if (fun _ => fU_fX12_plain_r1_110 h) (fun _ => zpc_if (fun _ => fU_fX12_plain_r1_110 h) (fun _ => fU_fX12_plain_r1_115 h)))
theorem fU_fX12_plain_r1_64 {σ0 : zSt} {σ : zSt} {s0 : Int32} (h : (zQ [3, 5, 6, 7, 8, 9, 21, 22, 23, 24, 25, 26] [(0, 0, 0), (0, 31, 33)] [4, 10, 11] [(0, 30, 30)]) σ0 σ) : zpc (fX12_plain_r1_64 σ s0) (fun r => (zQ [3, 5, 6, 7, 8, 9, 21, 22, 23, 24, 25, 26] [(0, 0, 0), (0, 31, 33)] [4, 10, 11] [(0, 30, 30)]) σ0 (r.1)) := by
  unfold fX12_plain_r1_64
  exact zpc_some h
theorem fU_fX12_plain_r1 {σ0 : zSt} {σ : zSt} {x1 : Int32} (h : (zQ [3, 5, 6, 7, 8, 9, 21, 22, 23, 24, 25, 26] [(0, 0, 0), (0, 31, 33)] [4, 10, 11] [(0, 30, 30)]) σ0 σ) : zpc (fX12_plain_r1 σ x1) (fun r => (zQ [3, 5, 6, 7, 8, 9, 21, 22, 23, 24, 25, 26] [(0, 0, 0), (0, 31, 33)] [4, 10, 11] [(0, 30, 30)]) σ0 (r.1)) := by
  unfold fX12_plain_r1
  exact zpc_bv (fun v1 _ => zpc_bv (fun v2 _ => zpc_if (fun _ => zpc_if (fun _ => zpc_bi (fU_fX12_singles h) (fun σ3 v4 hσ3 => fU_fX12_plain_r1_64 hσ3)) (fun _ => zpc_bi (fU_fX12_zero h) (fun σ5 v6 hσ5 => fU_fX12_plain_r1_64 hσ5))) (fun _ => zpc_if (fun _ => zpc_if (fun _ => zpc_ck (zpc_bs (zQ.wi h rfl) (fun σ10 hσ10 => fU_fX12_plain_r1_92 hσ10))) (fun _ => zpc_bi (fU_fX12_r h) (fun σ7 v8 hσ7 => zpc_bu (fU_fX12_rTo hσ7) (fun σ9 hσ9 => fU_fX12_plain_r1_92 hσ9)))) (fun _ => zpc_if (fun _ => zpc_bi (fU_fX12_r h) (fun σ11 v12 hσ11 => zpc_bu (fU_fX12_does hσ11) (fun σ13 hσ13 => zpc_if (fun _ => fU_fX12_plain_r1_139 hσ13) (fun _ => fU_fX12_plain_r1_139 hσ13)))) (fun _ => zpc_if (fun _ => zpc_bi (fU_fX12_more3_r1 h) (fun σ14 v15 hσ14 => fU_fX12_plain_r1_160 hσ14)) (fun _ => zpc_bi (fU_fX12_three h) (fun σ16 v17 hσ16 => fU_fX12_plain_r1_160 hσ16)))))))
theorem fU_fX12_prefixed_33 {σ0 : zSt} {σ : zSt} (h : (zQ [3, 5, 6, 7, 8, 9, 21, 22, 23, 24, 25, 26] [(0, 0, 0), (0, 31, 33)] [4, 10, 11] [(0, 30, 30)]) σ0 σ) : zpc (fX12_prefixed_33 σ) (fun r => (zQ [3, 5, 6, 7, 8, 9, 21, 22, 23, 24, 25, 26] [(0, 0, 0), (0, 31, 33)] [4, 10, 11] [(0, 30, 30)]) σ0 (r.1)) := by
  unfold fX12_prefixed_33
  exact zpc_ck (zpc_bs (zQ.wi h rfl) (fun σ1 hσ1 => zpc_some hσ1))
theorem fU_fX12_prefixed_154 {σ0 : zSt} {σ : zSt} {s0 : Int32} (h : (zQ [3, 5, 6, 7, 8, 9, 21, 22, 23, 24, 25, 26] [(0, 0, 0), (0, 31, 33)] [4, 10, 11] [(0, 30, 30)]) σ0 σ) : zpc (fX12_prefixed_154 σ s0) (fun r => (zQ [3, 5, 6, 7, 8, 9, 21, 22, 23, 24, 25, 26] [(0, 0, 0), (0, 31, 33)] [4, 10, 11] [(0, 30, 30)]) σ0 (r.1)) := by
  unfold fX12_prefixed_154
  exact zpc_some h
theorem fU_fX12_prefixed_135 {σ0 : zSt} {σ : zSt} {x4 : Int32} {x5 : Int32} (h : (zQ [3, 5, 6, 7, 8, 9, 21, 22, 23, 24, 25, 26] [(0, 0, 0), (0, 31, 33)] [4, 10, 11] [(0, 30, 30)]) σ0 σ) : zpc (fX12_prefixed_135 σ x4 x5) (fun r => (zQ [3, 5, 6, 7, 8, 9, 21, 22, 23, 24, 25, 26] [(0, 0, 0), (0, 31, 33)] [4, 10, 11] [(0, 30, 30)]) σ0 (r.1)) := by
  unfold fX12_prefixed_135
  exact zpc_if (fun _ => fU_fX12_prefixed_154 h) (fun _ => fU_fX12_prefixed_154 h)
theorem fU_fX12_prefixed_311 {σ0 : zSt} {σ : zSt} {s0 : Int32} {s1 : Int32} (h : (zQ [3, 5, 6, 7, 8, 9, 21, 22, 23, 24, 25, 26] [(0, 0, 0), (0, 31, 33)] [4, 10, 11] [(0, 30, 30)]) σ0 σ) : zpc (fX12_prefixed_311 σ s0 s1) (fun r => (zQ [3, 5, 6, 7, 8, 9, 21, 22, 23, 24, 25, 26] [(0, 0, 0), (0, 31, 33)] [4, 10, 11] [(0, 30, 30)]) σ0 (r.1)) := by
  unfold fX12_prefixed_311
  exact zpc_some h
theorem fU_fX12_prefixed_244 {σ0 : zSt} {σ : zSt} {x1 : Int32} {x3 : Int32} {s0 : Int32} (h : (zQ [3, 5, 6, 7, 8, 9, 21, 22, 23, 24, 25, 26] [(0, 0, 0), (0, 31, 33)] [4, 10, 11] [(0, 30, 30)]) σ0 σ) : zpc (fX12_prefixed_244 σ x1 x3 s0) (fun r => (zQ [3, 5, 6, 7, 8, 9, 21, 22, 23, 24, 25, 26] [(0, 0, 0), (0, 31, 33)] [4, 10, 11] [(0, 30, 30)]) σ0 (r.1)) := by
  unfold fX12_prefixed_244
  exact zpc_if (fun _ => zpc_bs (zQ.wi h rfl) (fun σ10 hσ10 => zpc_bi (fU_fX12_plain_r1 hσ10) (fun σ11 v12 hσ11 => zpc_some hσ11))) (fun _ => zpc_ck (zpc_bi (fU_fX12_next h) (fun σ2 v3 hσ2 => zpc_bi (fU_fX12_signed hσ2) (fun σ4 v5 hσ4 => zpc_ck (zpc_bs (zQ.wi hσ4 rfl) (fun σ6 hσ6 => zpc_ck (zpc_bs (zQ.wi hσ6 rfl) (fun σ7 hσ7 => zpc_bi (fU_fX12_plain_r1 hσ7) (fun σ8 v9 hσ8 => zpc_if (fun _ => fU_fX12_prefixed_311 hσ8) (fun _ => fU_fX12_prefixed_311 hσ8))))))))))
theorem fU_fX12_prefixed_243 {σ0 : zSt} {σ : zSt} {x1 : Int32} {x3 : Int32} (h : (zQ [3, 5, 6, 7, 8, 9, 21, 22, 23, 24, 25, 26] [(0, 0, 0), (0, 31, 33)] [4, 10, 11] [(0, 30, 30)]) σ0 σ) : zpc (fX12_prefixed_243 σ x1 x3) (fun r => (zQ [3, 5, 6, 7, 8, 9, 21, 22, 23, 24, 25, 26] [(0, 0, 0), (0, 31, 33)] [4, 10, 11] [(0, 30, 30)]) σ0 (r.1)) := by
  unfold fX12_prefixed_243
  exact fU_fX12_prefixed_244 h
theorem fU_fX12_prefixed_239 {σ0 : zSt} {σ : zSt} {x1 : Int32} {x3 : Int32} (h : (zQ [3, 5, 6, 7, 8, 9, 21, 22, 23, 24, 25, 26] [(0, 0, 0), (0, 31, 33)] [4, 10, 11] [(0, 30, 30)]) σ0 σ) : zpc (fX12_prefixed_239 σ x1 x3) (fun r => (zQ [3, 5, 6, 7, 8, 9, 21, 22, 23, 24, 25, 26] [(0, 0, 0), (0, 31, 33)] [4, 10, 11] [(0, 30, 30)]) σ0 (r.1)) := by
  unfold fX12_prefixed_239
  exact fU_fX12_prefixed_244 h
theorem fU_fX12_prefixed_226 {σ0 : zSt} {σ : zSt} {x1 : Int32} {x3 : Int32} {x5 : Int32} {x6 : Int32} (h : (zQ [3, 5, 6, 7, 8, 9, 21, 22, 23, 24, 25, 26] [(0, 0, 0), (0, 31, 33)] [4, 10, 11] [(0, 30, 30)]) σ0 σ) : zpc (fX12_prefixed_226 σ x1 x3 x5 x6) (fun r => (zQ [3, 5, 6, 7, 8, 9, 21, 22, 23, 24, 25, 26] [(0, 0, 0), (0, 31, 33)] [4, 10, 11] [(0, 30, 30)]) σ0 (r.1)) := by
  unfold fX12_prefixed_226
  exact zpc_if (fun _ => zpc_if (fun _ => fU_fX12_prefixed_239 h) (fun _ => fU_fX12_prefixed_243 h)) (fun _ => fU_fX12_prefixed_243 h)
theorem fU_fX12_prefixed_220 {σ0 : zSt} {σ : zSt} {x1 : Int32} {x3 : Int32} {x5 : Int32} {x6 : Int32} (h : (zQ [3, 5, 6, 7, 8, 9, 21, 22, 23, 24, 25, 26] [(0, 0, 0), (0, 31, 33)] [4, 10, 11] [(0, 30, 30)]) σ0 σ) : zpc (fX12_prefixed_220 σ x1 x3 x5 x6) (fun r => (zQ [3, 5, 6, 7, 8, 9, 21, 22, 23, 24, 25, 26] [(0, 0, 0), (0, 31, 33)] [4, 10, 11] [(0, 30, 30)]) σ0 (r.1)) := by
  unfold fX12_prefixed_220
  exact zpc_if (fun _ => fU_fX12_prefixed_226 h) (fun _ => fU_fX12_prefixed_239 h)
theorem fU_fX12_prefixed_200 {σ0 : zSt} {σ : zSt} {x1 : Int32} {x3 : Int32} {x4 : Int32} {x5 : Int32} {x6 : Int32} (h : (zQ [3, 5, 6, 7, 8, 9, 21, 22, 23, 24, 25, 26] [(0, 0, 0), (0, 31, 33)] [4, 10, 11] [(0, 30, 30)]) σ0 σ) : zpc (fX12_prefixed_200 σ x1 x3 x4 x5 x6) (fun r => (zQ [3, 5, 6, 7, 8, 9, 21, 22, 23, 24, 25, 26] [(0, 0, 0), (0, 31, 33)] [4, 10, 11] [(0, 30, 30)]) σ0 (r.1)) := by
  unfold fX12_prefixed_200
  exact zpc_if (fun _ => zpc_if (fun _ => fU_fX12_prefixed_220 h) (fun _ => zpc_if (fun _ => fU_fX12_prefixed_220 h) (fun _ => fU_fX12_prefixed_226 h))) (fun _ => fU_fX12_prefixed_226 h)
theorem fU_fX12_prefixed {σ0 : zSt} {σ : zSt} {x1 : Int32} (h : (zQ [3, 5, 6, 7, 8, 9, 21, 22, 23, 24, 25, 26] [(0, 0, 0), (0, 31, 33)] [4, 10, 11] [(0, 30, 30)]) σ0 σ) : zpc (fX12_prefixed σ x1) (fun r => (zQ [3, 5, 6, 7, 8, 9, 21, 22, 23, 24, 25, 26] [(0, 0, 0), (0, 31, 33)] [4, 10, 11] [(0, 30, 30)]) σ0 (r.1)) := by
  unfold fX12_prefixed
  exact zpc_ck (zpc_bi (fU_fX12_read h) (fun σ13 v14 hσ13 => zpc_if (fun _ => fU_fX12_prefixed_33 hσ13) (fun _ => zpc_if (fun _ => fU_fX12_prefixed_33 hσ13) (fun _ => zpc_if (fun _ => fU_fX12_prefixed_33 hσ13) (fun _ => zpc_bi (fU_fX12_fetch hσ13) (fun σ15 v16 hσ15 => zpc_if (fun _ => zpc_ck (zpc_bi (fU_fX12_next hσ15) (fun σ20 v21 hσ20 => zpc_bi (fU_fX12_signed hσ20) (fun σ22 v23 hσ22 => zpc_ck (zpc_bs (zQ.wi hσ22 rfl) (fun σ24 hσ24 => zpc_ck (zpc_bs (zQ.wi hσ24 rfl) (fun σ25 hσ25 => zpc_bi (fU_fX12_next hσ25) (fun σ26 v27 hσ26 => zpc_bi (fU_fX12_turn hσ26) (fun σ28 v29 hσ28 => zpc_if (fun _ => fU_fX12_prefixed_135 hσ28) (fun _ => zpc_if (fun _ => fU_fX12_prefixed_135 hσ28) (fun _ => zpc_ck (zpc_bs (zQ.wi hσ28 rfl) (fun σ30 hσ30 => zpc_bu (fU_fX12_rTo hσ30) (fun σ31 hσ31 => fU_fX12_prefixed_135 hσ31))))))))))))))) (fun _ => zpc_bv (fun v17 _ => zpc_bv (fun v18 _ => zpc_bv (fun v19 _ => zpc_if (fun _ => zpc_if (fun _ => fU_fX12_prefixed_200 hσ15) (fun _ => zpc_if (fun _ => fU_fX12_prefixed_200 hσ15) (fun _ => zpc_if (fun _ => fU_fX12_prefixed_239 hσ15) (fun _ => fU_fX12_prefixed_200 hσ15)))) (fun _ => fU_fX12_prefixed_200 hσ15)))))))))))
theorem fU_fX12_more3_119 {σ0 : zSt} {σ : zSt} {s0 : Int32} (h : (zQ [3, 5, 6, 7, 8, 9, 21, 22, 23, 24, 25, 26] [(0, 0, 0), (0, 31, 33)] [4, 10, 11] [(0, 30, 30)]) σ0 σ) : zpc (fX12_more3_119 σ s0) (fun r => (zQ [3, 5, 6, 7, 8, 9, 21, 22, 23, 24, 25, 26] [(0, 0, 0), (0, 31, 33)] [4, 10, 11] [(0, 30, 30)]) σ0 (r.1)) := by
  unfold fX12_more3_119
  exact zpc_bu (fU_fX12_push h) (fun σ1 hσ1 => zpc_some hσ1)
theorem fU_fX12_more3_200 {σ0 : zSt} {σ : zSt} {s0 : Int32} (h : (zQ [3, 5, 6, 7, 8, 9, 21, 22, 23, 24, 25, 26] [(0, 0, 0), (0, 31, 33)] [4, 10, 11] [(0, 30, 30)]) σ0 σ) : zpc (fX12_more3_200 σ s0) (fun r => (zQ [3, 5, 6, 7, 8, 9, 21, 22, 23, 24, 25, 26] [(0, 0, 0), (0, 31, 33)] [4, 10, 11] [(0, 30, 30)]) σ0 (r.1)) := by
  unfold fX12_more3_200
  exact zpc_some h
theorem fU_fX12_more3_197 {σ0 : zSt} {σ : zSt} {s0 : Int32} (h : (zQ [3, 5, 6, 7, 8, 9, 21, 22, 23, 24, 25, 26] [(0, 0, 0), (0, 31, 33)] [4, 10, 11] [(0, 30, 30)]) σ0 σ) : zpc (fX12_more3_197 σ s0) (fun r => (zQ [3, 5, 6, 7, 8, 9, 21, 22, 23, 24, 25, 26] [(0, 0, 0), (0, 31, 33)] [4, 10, 11] [(0, 30, 30)]) σ0 (r.1)) := by
  unfold fX12_more3_197
  exact zpc_bi (fU_fX12_prefixed h) (fun σ2 v3 hσ2 => fU_fX12_more3_200 hσ2)
theorem fU_fX12_more3 {σ0 : zSt} {σ : zSt} {x1 : Int32} {x2 : Int32} (h : (zQ [3, 5, 6, 7, 8, 9, 21, 22, 23, 24, 25, 26] [(0, 0, 0), (0, 31, 33)] [4, 10, 11] [(0, 30, 30)]) σ0 σ) : zpc (fX12_more3 σ x1 x2) (fun r => (zQ [3, 5, 6, 7, 8, 9, 21, 22, 23, 24, 25, 26] [(0, 0, 0), (0, 31, 33)] [4, 10, 11] [(0, 30, 30)]) σ0 (r.1)) := by
  unfold fX12_more3
  exact zpc_bv (fun v4 _ => zpc_if (fun _ => zpc_bi (fU_fX12_nextWord h) (fun σ22 v23 hσ22 => zpc_ck (zpc_bs (zQ.wi hσ22 rfl) (fun σ24 hσ24 => zpc_bi (fU_fX12_cc hσ24) (fun σ25 v26 hσ25 => zpc_if (fun _ => zpc_some hσ25) (fun _ => zpc_ck (zpc_bu (fU_fX12_push hσ25) (fun σ27 hσ27 => zpc_ck (zpc_ck (zpc_bs (zQ.wi hσ27 rfl) (fun σ28 hσ28 => zpc_some hσ28))))))))))) (fun _ => zpc_if (fun _ => zpc_bi (fU_fX12_next h) (fun σ19 v20 hσ19 => zpc_bu (fU_fX12_does hσ19) (fun σ21 hσ21 => zpc_some hσ21))) (fun _ => zpc_if (fun _ => zpc_bu (fU_fX12_call h) (fun σ18 hσ18 => zpc_some hσ18)) (fun _ => zpc_ck (zpc_if (fun _ => zpc_if (fun _ => zpc_bi (fU_fX12_pair h) (fun σ16 v17 hσ16 => fU_fX12_more3_119 hσ16)) (fun _ => zpc_bi (fU_fX12_rp h) (fun σ14 v15 hσ14 => fU_fX12_more3_119 hσ14))) (fun _ => zpc_if (fun _ => zpc_bi (fU_fX12_nextWord h) (fun σ9 v10 hσ9 => zpc_ck (zpc_bs (zQ.wi hσ9 rfl) (fun σ11 hσ11 => zpc_ck (zpc_bu (fU_fX12_push hσ11) (fun σ12 hσ12 => zpc_ck (zpc_ck (zpc_bs (zQ.wi hσ12 rfl) (fun σ13 hσ13 => zpc_some hσ13))))))))) (fun _ => zpc_if (fun _ => zpc_bi (fU_fX12_fetch h) (fun σ5 v6 hσ5 => zpc_bi (fU_fX12_more hσ5) (fun σ7 v8 hσ7 => fU_fX12_more3_200 hσ7))) (fun _ => zpc_if (fun _ => fU_fX12_more3_197 h) (fun _ => fU_fX12_more3_197 h)))))))))
theorem fU_fX12_plain_160 {σ0 : zSt} {σ : zSt} {s0 : Int32} (h : (zQ [3, 5, 6, 7, 8, 9, 21, 22, 23, 24, 25, 26] [(0, 0, 0), (0, 31, 33)] [4, 10, 11] [(0, 30, 30)]) σ0 σ) : zpc (fX12_plain_160 σ s0) (fun r => (zQ [3, 5, 6, 7, 8, 9, 21, 22, 23, 24, 25, 26] [(0, 0, 0), (0, 31, 33)] [4, 10, 11] [(0, 30, 30)]) σ0 (r.1)) := by
  unfold fX12_plain_160
  exact zpc_some h
theorem fU_fX12_plain_139 {σ0 : zSt} {σ : zSt} {s0 : Int32} (h : (zQ [3, 5, 6, 7, 8, 9, 21, 22, 23, 24, 25, 26] [(0, 0, 0), (0, 31, 33)] [4, 10, 11] [(0, 30, 30)]) σ0 σ) : zpc (fX12_plain_139 σ s0) (fun r => (zQ [3, 5, 6, 7, 8, 9, 21, 22, 23, 24, 25, 26] [(0, 0, 0), (0, 31, 33)] [4, 10, 11] [(0, 30, 30)]) σ0 (r.1)) := by
  unfold fX12_plain_139
  exact zpc_some h
theorem fU_fX12_plain_116 {σ0 : zSt} {σ : zSt} {s0 : Int32} (h : (zQ [3, 5, 6, 7, 8, 9, 21, 22, 23, 24, 25, 26] [(0, 0, 0), (0, 31, 33)] [4, 10, 11] [(0, 30, 30)]) σ0 σ) : zpc (fX12_plain_116 σ s0) (fun r => (zQ [3, 5, 6, 7, 8, 9, 21, 22, 23, 24, 25, 26] [(0, 0, 0), (0, 31, 33)] [4, 10, 11] [(0, 30, 30)]) σ0 (r.1)) := by
  unfold fX12_plain_116
  exact zpc_some h
theorem fU_fX12_plain_115 {σ0 : zSt} {σ : zSt} (h : (zQ [3, 5, 6, 7, 8, 9, 21, 22, 23, 24, 25, 26] [(0, 0, 0), (0, 31, 33)] [4, 10, 11] [(0, 30, 30)]) σ0 σ) : zpc (fX12_plain_115 σ) (fun r => (zQ [3, 5, 6, 7, 8, 9, 21, 22, 23, 24, 25, 26] [(0, 0, 0), (0, 31, 33)] [4, 10, 11] [(0, 30, 30)]) σ0 (r.1)) := by
  unfold fX12_plain_115
  exact fU_fX12_plain_116 h
theorem fU_fX12_plain_110 {σ0 : zSt} {σ : zSt} (h : (zQ [3, 5, 6, 7, 8, 9, 21, 22, 23, 24, 25, 26] [(0, 0, 0), (0, 31, 33)] [4, 10, 11] [(0, 30, 30)]) σ0 σ) : zpc (fX12_plain_110 σ) (fun r => (zQ [3, 5, 6, 7, 8, 9, 21, 22, 23, 24, 25, 26] [(0, 0, 0), (0, 31, 33)] [4, 10, 11] [(0, 30, 30)]) σ0 (r.1)) := by
  unfold fX12_plain_110
  exact fU_fX12_plain_116 h
theorem fU_fX12_plain_92 {σ0 : zSt} {σ : zSt} {x1 : Int32} {x2 : Int32} {x3 : Int32} (h : (zQ [3, 5, 6, 7, 8, 9, 21, 22, 23, 24, 25, 26] [(0, 0, 0), (0, 31, 33)] [4, 10, 11] [(0, 30, 30)]) σ0 σ) : zpc (fX12_plain_92 σ x1 x2 x3) (fun r => (zQ [3, 5, 6, 7, 8, 9, 21, 22, 23, 24, 25, 26] [(0, 0, 0), (0, 31, 33)] [4, 10, 11] [(0, 30, 30)]) σ0 (r.1)) := by
  unfold fX12_plain_92
  exact zpc_if (fun _ => fU_fX12_plain_115 h) (fun _ => zpc_if (fun _ => fU_fX12_plain_110 h) (fun _ => zpc_if (fun _ => fU_fX12_plain_110 h) (fun _ => fU_fX12_plain_115 h)))
theorem fU_fX12_plain_64 {σ0 : zSt} {σ : zSt} {s0 : Int32} (h : (zQ [3, 5, 6, 7, 8, 9, 21, 22, 23, 24, 25, 26] [(0, 0, 0), (0, 31, 33)] [4, 10, 11] [(0, 30, 30)]) σ0 σ) : zpc (fX12_plain_64 σ s0) (fun r => (zQ [3, 5, 6, 7, 8, 9, 21, 22, 23, 24, 25, 26] [(0, 0, 0), (0, 31, 33)] [4, 10, 11] [(0, 30, 30)]) σ0 (r.1)) := by
  unfold fX12_plain_64
  exact zpc_some h
theorem fU_fX12_plain {σ0 : zSt} {σ : zSt} {x1 : Int32} (h : (zQ [3, 5, 6, 7, 8, 9, 21, 22, 23, 24, 25, 26] [(0, 0, 0), (0, 31, 33)] [4, 10, 11] [(0, 30, 30)]) σ0 σ) : zpc (fX12_plain σ x1) (fun r => (zQ [3, 5, 6, 7, 8, 9, 21, 22, 23, 24, 25, 26] [(0, 0, 0), (0, 31, 33)] [4, 10, 11] [(0, 30, 30)]) σ0 (r.1)) := by
  unfold fX12_plain
  exact zpc_bv (fun v1 _ => zpc_bv (fun v2 _ => zpc_if (fun _ => zpc_if (fun _ => zpc_bi (fU_fX12_singles h) (fun σ3 v4 hσ3 => fU_fX12_plain_64 hσ3)) (fun _ => zpc_bi (fU_fX12_zero h) (fun σ5 v6 hσ5 => fU_fX12_plain_64 hσ5))) (fun _ => zpc_if (fun _ => zpc_if (fun _ => zpc_ck (zpc_bs (zQ.wi h rfl) (fun σ10 hσ10 => fU_fX12_plain_92 hσ10))) (fun _ => zpc_bi (fU_fX12_r h) (fun σ7 v8 hσ7 => zpc_bu (fU_fX12_rTo hσ7) (fun σ9 hσ9 => fU_fX12_plain_92 hσ9)))) (fun _ => zpc_if (fun _ => zpc_bi (fU_fX12_r h) (fun σ11 v12 hσ11 => zpc_bu (fU_fX12_does hσ11) (fun σ13 hσ13 => zpc_if (fun _ => fU_fX12_plain_139 hσ13) (fun _ => fU_fX12_plain_139 hσ13)))) (fun _ => zpc_if (fun _ => zpc_bi (fU_fX12_more3 h) (fun σ14 v15 hσ14 => fU_fX12_plain_160 hσ14)) (fun _ => zpc_bi (fU_fX12_three h) (fun σ16 v17 hσ16 => fU_fX12_plain_160 hσ16)))))))
theorem fU_fX12_instruction {σ0 : zSt} {σ : zSt} (h : (zQ [3, 5, 6, 7, 8, 9, 21, 22, 23, 24, 25, 26] [(0, 0, 0), (0, 31, 33)] [4, 10, 11] [(0, 30, 30)]) σ0 σ) : zpc (fX12_instruction σ) (fun r => (zQ [3, 5, 6, 7, 8, 9, 21, 22, 23, 24, 25, 26] [(0, 0, 0), (0, 31, 33)] [4, 10, 11] [(0, 30, 30)]) σ0 (r.1)) := by
  unfold fX12_instruction
  exact zpc_bs (zQ.wi h rfl) (fun σ1 hσ1 => zpc_ck (zpc_bs (zQ.wi hσ1 rfl) (fun σ2 hσ2 => zpc_bi (fU_fX12_fetch hσ2) (fun σ3 v4 hσ3 => zpc_bi (fU_fX12_plain hσ3) (fun σ5 v6 hσ5 => zpc_some hσ5)))))
theorem fU_fX12_answers {σ0 : zSt} {σ : zSt} (h : (zQ [3, 5, 6, 7, 8, 9, 21, 22, 23, 24, 25, 26] [(0, 0, 0), (0, 31, 33)] [4, 10, 11] [(0, 30, 30)]) σ0 σ) : zpc (fX12_answers σ) (fun r => (zQ [3, 5, 6, 7, 8, 9, 21, 22, 23, 24, 25, 26] [(0, 0, 0), (0, 31, 33)] [4, 10, 11] [(0, 30, 30)]) σ0 (r)) := by
  unfold fX12_answers
  exact zpc_bu (fU_fX12_grows h) (fun σ1 hσ1 => zpc_ck (zpc_bs (zQ.wi hσ1 rfl) (fun σ2 hσ2 => zpc_some hσ2)))
theorem fU_fX12_reg {σ0 : zSt} {σ : zSt} {x1 : Int32} (h : (zQ [3, 5, 6, 7, 8, 9, 21, 22, 23, 24, 25, 26] [(0, 0, 0), (0, 31, 33)] [4, 10, 11] [(0, 30, 30)]) σ0 σ) : zpc (fX12_reg σ x1) (fun r => (zQ [3, 5, 6, 7, 8, 9, 21, 22, 23, 24, 25, 26] [(0, 0, 0), (0, 31, 33)] [4, 10, 11] [(0, 30, 30)]) σ0 (r.1)) := by
  unfold fX12_reg
  exact zpc_ck (zpc_some h)
theorem fU_fX12_tileDot_6_body {σ0 : zSt} {k6 : zSt → Int32 → Int32 → Int32 → Int32 → Int32 → Option (zSt × Int32)} (hk6 : ∀ (y0 : zSt) (y1 : Int32) (y2 : Int32) (y3 : Int32) (y4 : Int32) (y5 : Int32), (zQ [3, 5, 6, 7, 8, 9, 21, 22, 23, 24, 25, 26] [(0, 0, 0), (0, 31, 33)] [4, 10, 11] [(0, 30, 30)]) σ0 y0 → zpc (k6 y0 y1 y2 y3 y4 y5) (fun r => (zQ [3, 5, 6, 7, 8, 9, 21, 22, 23, 24, 25, 26] [(0, 0, 0), (0, 31, 33)] [4, 10, 11] [(0, 30, 30)]) σ0 (r.1))) {σ : zSt} {x1 : Int32} {x2 : Int32} {x3 : Int32} {x4 : Int32} {x5 : Int32} (h : (zQ [3, 5, 6, 7, 8, 9, 21, 22, 23, 24, 25, 26] [(0, 0, 0), (0, 31, 33)] [4, 10, 11] [(0, 30, 30)]) σ0 σ) : zpc (fX12_tileDot_6_body k6 σ x1 x2 x3 x4 x5) (fun r => (zQ [3, 5, 6, 7, 8, 9, 21, 22, 23, 24, 25, 26] [(0, 0, 0), (0, 31, 33)] [4, 10, 11] [(0, 30, 30)]) σ0 (r.1)) := by
  unfold fX12_tileDot_6_body
  exact zpc_if (fun _ => zpc_some h) (fun _ => zpc_bi (fU_fX12_video8 h) (fun σ1 v2 hσ1 => zpc_bv (fun v3 _ => zpc_bv (fun v4 _ => hk6 _ _ _ _ _ _ hσ1))))
theorem fU_fX12_tileDot_6 {σ0 : zSt} : ∀ (n : Nat) (y0 : zSt) (y1 : Int32) (y2 : Int32) (y3 : Int32) (y4 : Int32) (y5 : Int32), (zQ [3, 5, 6, 7, 8, 9, 21, 22, 23, 24, 25, 26] [(0, 0, 0), (0, 31, 33)] [4, 10, 11] [(0, 30, 30)]) σ0 y0 → zpc (fX12_tileDot_6 n y0 y1 y2 y3 y4 y5) (fun r => (zQ [3, 5, 6, 7, 8, 9, 21, 22, 23, 24, 25, 26] [(0, 0, 0), (0, 31, 33)] [4, 10, 11] [(0, 30, 30)]) σ0 (r.1)) := by
  intro n
  induction n with
  | zero => intro y0 y1 y2 y3 y4 y5 h; exact zpc_none
  | succ n ih => intro y0 y1 y2 y3 y4 y5 h; exact fU_fX12_tileDot_6_body ih h
theorem fU_fX12_tileDot {σ0 : zSt} {σ : zSt} {x1 : Int32} {x2 : Int32} {x3 : Int32} (h : (zQ [3, 5, 6, 7, 8, 9, 21, 22, 23, 24, 25, 26] [(0, 0, 0), (0, 31, 33)] [4, 10, 11] [(0, 30, 30)]) σ0 σ) : zpc (fX12_tileDot σ x1 x2 x3) (fun r => (zQ [3, 5, 6, 7, 8, 9, 21, 22, 23, 24, 25, 26] [(0, 0, 0), (0, 31, 33)] [4, 10, 11] [(0, 30, 30)]) σ0 (r.1)) := by
  unfold fX12_tileDot
  exact fU_fX12_tileDot_6 _ _ _ _ _ _ _ h
theorem fU_fX12_tile_302 {σ0 : zSt} {σ : zSt} {s0 : Int32} {s1 : Int32} (h : (zQ [3, 5, 6, 7, 8, 9, 21, 22, 23, 24, 25, 26] [(0, 0, 0), (0, 31, 33)] [4, 10, 11] [(0, 30, 30)]) σ0 σ) : zpc (fX12_tile_302 σ s0 s1) (fun r => (zQ [3, 5, 6, 7, 8, 9, 21, 22, 23, 24, 25, 26] [(0, 0, 0), (0, 31, 33)] [4, 10, 11] [(0, 30, 30)]) σ0 (r)) := by
  unfold fX12_tile_302
  exact zpc_ck (zpc_bs (zQ.wi h rfl) (fun σ1 hσ1 => zpc_some hσ1))
theorem fU_fX12_tile_301 {σ0 : zSt} {σ : zSt} {s0 : Int32} (h : (zQ [3, 5, 6, 7, 8, 9, 21, 22, 23, 24, 25, 26] [(0, 0, 0), (0, 31, 33)] [4, 10, 11] [(0, 30, 30)]) σ0 σ) : zpc (fX12_tile_301 σ s0) (fun r => (zQ [3, 5, 6, 7, 8, 9, 21, 22, 23, 24, 25, 26] [(0, 0, 0), (0, 31, 33)] [4, 10, 11] [(0, 30, 30)]) σ0 (r)) := by
  unfold fX12_tile_301
  exact fU_fX12_tile_302 h
theorem fU_fX12_tile_276 {σ0 : zSt} {σ : zSt} {x2 : Int32} {x9 : Int32} {x12 : Int32} {s0 : Int32} {s1 : Int32} {s2 : Int32} (h : (zQ [3, 5, 6, 7, 8, 9, 21, 22, 23, 24, 25, 26] [(0, 0, 0), (0, 31, 33)] [4, 10, 11] [(0, 30, 30)]) σ0 σ) : zpc (fX12_tile_276 σ x2 x9 x12 s0 s1 s2) (fun r => (zQ [3, 5, 6, 7, 8, 9, 21, 22, 23, 24, 25, 26] [(0, 0, 0), (0, 31, 33)] [4, 10, 11] [(0, 30, 30)]) σ0 (r)) := by
  unfold fX12_tile_276
  exact zpc_ck (zpc_bs (zQ.wi h rfl) (fun σ2 hσ2 => zpc_if (fun _ => fU_fX12_tile_301 hσ2) (fun _ => zpc_if (fun _ => fU_fX12_tile_301 hσ2) (fun _ => fU_fX12_tile_302 hσ2))))
theorem fU_fX12_tile_236 {σ0 : zSt} {σ : zSt} {x2 : Int32} {x9 : Int32} {x10 : Int32} {s0 : Int32} (h : (zQ [3, 5, 6, 7, 8, 9, 21, 22, 23, 24, 25, 26] [(0, 0, 0), (0, 31, 33)] [4, 10, 11] [(0, 30, 30)]) σ0 σ) : zpc (fX12_tile_236 σ x2 x9 x10 s0) (fun r => (zQ [3, 5, 6, 7, 8, 9, 21, 22, 23, 24, 25, 26] [(0, 0, 0), (0, 31, 33)] [4, 10, 11] [(0, 30, 30)]) σ0 (r)) := by
  unfold fX12_tile_236
  exact zpc_bi (fU_fX12_tileDot h) (fun σ3 v4 hσ3 => zpc_if (fun _ => fU_fX12_tile_276 hσ3) (fun _ => fU_fX12_tile_276 hσ3))
theorem fU_fX12_tile_209 {σ0 : zSt} {σ : zSt} {x2 : Int32} {x7 : Int32} {x9 : Int32} {s0 : Int32} (h : (zQ [3, 5, 6, 7, 8, 9, 21, 22, 23, 24, 25, 26] [(0, 0, 0), (0, 31, 33)] [4, 10, 11] [(0, 30, 30)]) σ0 σ) : zpc (fX12_tile_209 σ x2 x7 x9 s0) (fun r => (zQ [3, 5, 6, 7, 8, 9, 21, 22, 23, 24, 25, 26] [(0, 0, 0), (0, 31, 33)] [4, 10, 11] [(0, 30, 30)]) σ0 (r)) := by
  unfold fX12_tile_209
  exact zpc_if (fun _ => zpc_ck (fU_fX12_tile_236 h)) (fun _ => zpc_ck (fU_fX12_tile_236 h))
theorem fU_fX12_tile_141 {σ0 : zSt} {σ : zSt} {x2 : Int32} {x4 : Int32} {x6 : Int32} {s0 : Int32} (h : (zQ [3, 5, 6, 7, 8, 9, 21, 22, 23, 24, 25, 26] [(0, 0, 0), (0, 31, 33)] [4, 10, 11] [(0, 30, 30)]) σ0 σ) : zpc (fX12_tile_141 σ x2 x4 x6 s0) (fun r => (zQ [3, 5, 6, 7, 8, 9, 21, 22, 23, 24, 25, 26] [(0, 0, 0), (0, 31, 33)] [4, 10, 11] [(0, 30, 30)]) σ0 (r)) := by
  unfold fX12_tile_141
  exact zpc_ck (zpc_ck (zpc_bv (fun v5 _ => zpc_bi (fU_fX12_video8 h) (fun σ6 v7 hσ6 => zpc_bi (fU_fX12_video8 hσ6) (fun σ8 v9 hσ8 => zpc_bv (fun v10 _ => zpc_if (fun _ => zpc_ck (fU_fX12_tile_209 hσ8)) (fun _ => zpc_ck (fU_fX12_tile_209 hσ8))))))))
theorem fU_fX12_tile_140 {σ0 : zSt} {σ : zSt} {x2 : Int32} {x4 : Int32} {x6 : Int32} {s0 : Int32} {s1 : Int32} (h : (zQ [3, 5, 6, 7, 8, 9, 21, 22, 23, 24, 25, 26] [(0, 0, 0), (0, 31, 33)] [4, 10, 11] [(0, 30, 30)]) σ0 σ) : zpc (fX12_tile_140 σ x2 x4 x6 s0 s1) (fun r => (zQ [3, 5, 6, 7, 8, 9, 21, 22, 23, 24, 25, 26] [(0, 0, 0), (0, 31, 33)] [4, 10, 11] [(0, 30, 30)]) σ0 (r)) := by
  unfold fX12_tile_140
  exact zpc_ck (fU_fX12_tile_141 h)
theorem fU_fX12_tile_118 {σ0 : zSt} {σ : zSt} {x1 : Int32} {x2 : Int32} {x3 : Int32} {x4 : Int32} {x6 : Int32} (h : (zQ [3, 5, 6, 7, 8, 9, 21, 22, 23, 24, 25, 26] [(0, 0, 0), (0, 31, 33)] [4, 10, 11] [(0, 30, 30)]) σ0 σ) : zpc (fX12_tile_118 σ x1 x2 x3 x4 x6) (fun r => (zQ [3, 5, 6, 7, 8, 9, 21, 22, 23, 24, 25, 26] [(0, 0, 0), (0, 31, 33)] [4, 10, 11] [(0, 30, 30)]) σ0 (r)) := by
  unfold fX12_tile_118
  exact zpc_ck (zpc_if (fun _ => fU_fX12_tile_140 h) (fun _ => fU_fX12_tile_140 h))
theorem fU_fX12_tile_84 {σ0 : zSt} {σ : zSt} {x1 : Int32} {x2 : Int32} {x3 : Int32} {x4 : Int32} {s0 : Int32} (h : (zQ [3, 5, 6, 7, 8, 9, 21, 22, 23, 24, 25, 26] [(0, 0, 0), (0, 31, 33)] [4, 10, 11] [(0, 30, 30)]) σ0 σ) : zpc (fX12_tile_84 σ x1 x2 x3 x4 s0) (fun r => (zQ [3, 5, 6, 7, 8, 9, 21, 22, 23, 24, 25, 26] [(0, 0, 0), (0, 31, 33)] [4, 10, 11] [(0, 30, 30)]) σ0 (r)) := by
  unfold fX12_tile_84
  exact zpc_bv (fun v11 _ => zpc_if (fun _ => fU_fX12_tile_118 h) (fun _ => zpc_bi (fU_fX12_bit h) (fun σ12 v13 hσ12 => zpc_if (fun _ => fU_fX12_tile_141 hσ12) (fun _ => fU_fX12_tile_118 hσ12))))
theorem fU_fX12_tile_78 {σ0 : zSt} {σ : zSt} {x1 : Int32} {x2 : Int32} {x3 : Int32} {x4 : Int32} (h : (zQ [3, 5, 6, 7, 8, 9, 21, 22, 23, 24, 25, 26] [(0, 0, 0), (0, 31, 33)] [4, 10, 11] [(0, 30, 30)]) σ0 σ) : zpc (fX12_tile_78 σ x1 x2 x3 x4) (fun r => (zQ [3, 5, 6, 7, 8, 9, 21, 22, 23, 24, 25, 26] [(0, 0, 0), (0, 31, 33)] [4, 10, 11] [(0, 30, 30)]) σ0 (r)) := by
  unfold fX12_tile_78
  exact zpc_bi (fU_fX12_reg h) (fun σ14 v15 hσ14 => fU_fX12_tile_84 hσ14)
theorem fU_fX12_tile_55 {σ0 : zSt} {σ : zSt} {x1 : Int32} {x2 : Int32} {x3 : Int32} {s0 : Int32} (h : (zQ [3, 5, 6, 7, 8, 9, 21, 22, 23, 24, 25, 26] [(0, 0, 0), (0, 31, 33)] [4, 10, 11] [(0, 30, 30)]) σ0 σ) : zpc (fX12_tile_55 σ x1 x2 x3 s0) (fun r => (zQ [3, 5, 6, 7, 8, 9, 21, 22, 23, 24, 25, 26] [(0, 0, 0), (0, 31, 33)] [4, 10, 11] [(0, 30, 30)]) σ0 (r)) := by
  unfold fX12_tile_55
  exact zpc_if (fun _ => fU_fX12_tile_78 h) (fun _ => zpc_bi (fU_fX12_bit h) (fun σ16 v17 hσ16 => zpc_if (fun _ => fU_fX12_tile_84 hσ16) (fun _ => fU_fX12_tile_78 hσ16)))
theorem fU_fX12_tile_15 {σ0 : zSt} {σ : zSt} {x1 : Int32} {x2 : Int32} {s0 : Int32} (h : (zQ [3, 5, 6, 7, 8, 9, 21, 22, 23, 24, 25, 26] [(0, 0, 0), (0, 31, 33)] [4, 10, 11] [(0, 30, 30)]) σ0 σ) : zpc (fX12_tile_15 σ x1 x2 s0) (fun r => (zQ [3, 5, 6, 7, 8, 9, 21, 22, 23, 24, 25, 26] [(0, 0, 0), (0, 31, 33)] [4, 10, 11] [(0, 30, 30)]) σ0 (r)) := by
  unfold fX12_tile_15
  exact zpc_if (fun _ => zpc_bi (fU_fX12_reg h) (fun σ18 v19 hσ18 => zpc_ck (zpc_ck (fU_fX12_tile_55 hσ18)))) (fun _ => zpc_bi (fU_fX12_reg h) (fun σ20 v21 hσ20 => zpc_ck (fU_fX12_tile_55 hσ20)))
theorem fU_fX12_tile {σ0 : zSt} {σ : zSt} {x1 : Int32} {x2 : Int32} (h : (zQ [3, 5, 6, 7, 8, 9, 21, 22, 23, 24, 25, 26] [(0, 0, 0), (0, 31, 33)] [4, 10, 11] [(0, 30, 30)]) σ0 σ) : zpc (fX12_tile σ x1 x2) (fun r => (zQ [3, 5, 6, 7, 8, 9, 21, 22, 23, 24, 25, 26] [(0, 0, 0), (0, 31, 33)] [4, 10, 11] [(0, 30, 30)]) σ0 (r)) := by
  unfold fX12_tile
  exact zpc_bi (fU_fX12_height h) (fun σ22 v23 hσ22 => zpc_if (fun _ => fU_fX12_tile_15 hσ22) (fun _ => fU_fX12_tile_15 hσ22))
theorem fU_fX12_sprites_349 {σ0 : zSt} {k73 : zSt → Int32 → Int32 → Int32 → Int32 → Int32 → Int32 → Int32 → Option (zSt)} (hk73 : ∀ (y0 : zSt) (y1 : Int32) (y2 : Int32) (y3 : Int32) (y4 : Int32) (y5 : Int32) (y6 : Int32) (y7 : Int32), (zQ [3, 5, 6, 7, 8, 9, 21, 22, 23, 24, 25, 26] [(0, 0, 0), (0, 31, 33)] [4, 10, 11] [(0, 30, 30)]) σ0 y0 → zpc (k73 y0 y1 y2 y3 y4 y5 y6 y7) (fun r => (zQ [3, 5, 6, 7, 8, 9, 21, 22, 23, 24, 25, 26] [(0, 0, 0), (0, 31, 33)] [4, 10, 11] [(0, 30, 30)]) σ0 (r))) {σ : zSt} {x1 : Int32} {x2 : Int32} {x3 : Int32} {x4 : Int32} {x5 : Int32} {x6 : Int32} {x7 : Int32} (h : (zQ [3, 5, 6, 7, 8, 9, 21, 22, 23, 24, 25, 26] [(0, 0, 0), (0, 31, 33)] [4, 10, 11] [(0, 30, 30)]) σ0 σ) : zpc (fX12_sprites_349 k73 σ x1 x2 x3 x4 x5 x6 x7) (fun r => (zQ [3, 5, 6, 7, 8, 9, 21, 22, 23, 24, 25, 26] [(0, 0, 0), (0, 31, 33)] [4, 10, 11] [(0, 30, 30)]) σ0 (r)) := by
  unfold fX12_sprites_349
  exact zpc_bv (fun v1 _ => hk73 _ _ _ _ _ _ _ _ h)
theorem fU_fX12_sprites_343 {σ0 : zSt} {k73 : zSt → Int32 → Int32 → Int32 → Int32 → Int32 → Int32 → Int32 → Option (zSt)} (hk73 : ∀ (y0 : zSt) (y1 : Int32) (y2 : Int32) (y3 : Int32) (y4 : Int32) (y5 : Int32) (y6 : Int32) (y7 : Int32), (zQ [3, 5, 6, 7, 8, 9, 21, 22, 23, 24, 25, 26] [(0, 0, 0), (0, 31, 33)] [4, 10, 11] [(0, 30, 30)]) σ0 y0 → zpc (k73 y0 y1 y2 y3 y4 y5 y6 y7) (fun r => (zQ [3, 5, 6, 7, 8, 9, 21, 22, 23, 24, 25, 26] [(0, 0, 0), (0, 31, 33)] [4, 10, 11] [(0, 30, 30)]) σ0 (r))) {k250 : zSt → Int32 → Int32 → Int32 → Int32 → Int32 → Int32 → Int32 → Int32 → Int32 → Int32 → Int32 → Option (zSt)} (hk250 : ∀ (y0 : zSt) (y1 : Int32) (y2 : Int32) (y3 : Int32) (y4 : Int32) (y5 : Int32) (y6 : Int32) (y7 : Int32) (y8 : Int32) (y9 : Int32) (y10 : Int32) (y11 : Int32), (zQ [3, 5, 6, 7, 8, 9, 21, 22, 23, 24, 25, 26] [(0, 0, 0), (0, 31, 33)] [4, 10, 11] [(0, 30, 30)]) σ0 y0 → zpc (k250 y0 y1 y2 y3 y4 y5 y6 y7 y8 y9 y10 y11) (fun r => (zQ [3, 5, 6, 7, 8, 9, 21, 22, 23, 24, 25, 26] [(0, 0, 0), (0, 31, 33)] [4, 10, 11] [(0, 30, 30)]) σ0 (r))) {σ : zSt} {x1 : Int32} {x2 : Int32} {x3 : Int32} {x4 : Int32} {x5 : Int32} {x6 : Int32} {x7 : Int32} {x9 : Int32} {x10 : Int32} {x11 : Int32} {x12 : Int32} (h : (zQ [3, 5, 6, 7, 8, 9, 21, 22, 23, 24, 25, 26] [(0, 0, 0), (0, 31, 33)] [4, 10, 11] [(0, 30, 30)]) σ0 σ) : zpc (fX12_sprites_343 k73 k250 σ x1 x2 x3 x4 x5 x6 x7 x9 x10 x11 x12) (fun r => (zQ [3, 5, 6, 7, 8, 9, 21, 22, 23, 24, 25, 26] [(0, 0, 0), (0, 31, 33)] [4, 10, 11] [(0, 30, 30)]) σ0 (r)) := by
  unfold fX12_sprites_343
  exact zpc_bv (fun v2 _ => hk250 _ _ _ _ _ _ _ _ _ _ _ _ h)
theorem fU_fX12_sprites_250_body {σ0 : zSt} {k73 : zSt → Int32 → Int32 → Int32 → Int32 → Int32 → Int32 → Int32 → Option (zSt)} (hk73 : ∀ (y0 : zSt) (y1 : Int32) (y2 : Int32) (y3 : Int32) (y4 : Int32) (y5 : Int32) (y6 : Int32) (y7 : Int32), (zQ [3, 5, 6, 7, 8, 9, 21, 22, 23, 24, 25, 26] [(0, 0, 0), (0, 31, 33)] [4, 10, 11] [(0, 30, 30)]) σ0 y0 → zpc (k73 y0 y1 y2 y3 y4 y5 y6 y7) (fun r => (zQ [3, 5, 6, 7, 8, 9, 21, 22, 23, 24, 25, 26] [(0, 0, 0), (0, 31, 33)] [4, 10, 11] [(0, 30, 30)]) σ0 (r))) {k250 : zSt → Int32 → Int32 → Int32 → Int32 → Int32 → Int32 → Int32 → Int32 → Int32 → Int32 → Int32 → Option (zSt)} (hk250 : ∀ (y0 : zSt) (y1 : Int32) (y2 : Int32) (y3 : Int32) (y4 : Int32) (y5 : Int32) (y6 : Int32) (y7 : Int32) (y8 : Int32) (y9 : Int32) (y10 : Int32) (y11 : Int32), (zQ [3, 5, 6, 7, 8, 9, 21, 22, 23, 24, 25, 26] [(0, 0, 0), (0, 31, 33)] [4, 10, 11] [(0, 30, 30)]) σ0 y0 → zpc (k250 y0 y1 y2 y3 y4 y5 y6 y7 y8 y9 y10 y11) (fun r => (zQ [3, 5, 6, 7, 8, 9, 21, 22, 23, 24, 25, 26] [(0, 0, 0), (0, 31, 33)] [4, 10, 11] [(0, 30, 30)]) σ0 (r))) {σ : zSt} {x1 : Int32} {x2 : Int32} {x3 : Int32} {x4 : Int32} {x5 : Int32} {x6 : Int32} {x7 : Int32} {x9 : Int32} {x10 : Int32} {x11 : Int32} {x12 : Int32} (h : (zQ [3, 5, 6, 7, 8, 9, 21, 22, 23, 24, 25, 26] [(0, 0, 0), (0, 31, 33)] [4, 10, 11] [(0, 30, 30)]) σ0 σ) : zpc (fX12_sprites_250_body k73 k250 σ x1 x2 x3 x4 x5 x6 x7 x9 x10 x11 x12) (fun r => (zQ [3, 5, 6, 7, 8, 9, 21, 22, 23, 24, 25, 26] [(0, 0, 0), (0, 31, 33)] [4, 10, 11] [(0, 30, 30)]) σ0 (r)) := by
  unfold fX12_sprites_250_body
  exact zpc_if (fun _ => fU_fX12_sprites_349 hk73 h) (fun _ => zpc_ck (zpc_ck (zpc_ck (zpc_bi (fU_fX12_tileDot h) (fun σ3 v4 hσ3 => zpc_bv (fun v5 _ => zpc_if (fun _ => fU_fX12_sprites_343 hk73 hk250 hσ3) (fun _ => zpc_if (fun _ => fU_fX12_sprites_343 hk73 hk250 hσ3) (fun _ => zpc_if (fun _ => zpc_ck (zpc_if (fun _ => zpc_ck (zpc_bs (zQ.wi hσ3 rfl) (fun σ6 hσ6 => fU_fX12_sprites_343 hk73 hk250 hσ6))) (fun _ => zpc_ck (zpc_ck (zpc_bs (zQ.wi hσ3 rfl) (fun σ7 hσ7 => fU_fX12_sprites_343 hk73 hk250 hσ7)))))) (fun _ => fU_fX12_sprites_343 hk73 hk250 hσ3)))))))))
theorem fU_fX12_sprites_250 {σ0 : zSt} {k73 : zSt → Int32 → Int32 → Int32 → Int32 → Int32 → Int32 → Int32 → Option (zSt)} (hk73 : ∀ (y0 : zSt) (y1 : Int32) (y2 : Int32) (y3 : Int32) (y4 : Int32) (y5 : Int32) (y6 : Int32) (y7 : Int32), (zQ [3, 5, 6, 7, 8, 9, 21, 22, 23, 24, 25, 26] [(0, 0, 0), (0, 31, 33)] [4, 10, 11] [(0, 30, 30)]) σ0 y0 → zpc (k73 y0 y1 y2 y3 y4 y5 y6 y7) (fun r => (zQ [3, 5, 6, 7, 8, 9, 21, 22, 23, 24, 25, 26] [(0, 0, 0), (0, 31, 33)] [4, 10, 11] [(0, 30, 30)]) σ0 (r))) : ∀ (n : Nat) (y0 : zSt) (y1 : Int32) (y2 : Int32) (y3 : Int32) (y4 : Int32) (y5 : Int32) (y6 : Int32) (y7 : Int32) (y8 : Int32) (y9 : Int32) (y10 : Int32) (y11 : Int32), (zQ [3, 5, 6, 7, 8, 9, 21, 22, 23, 24, 25, 26] [(0, 0, 0), (0, 31, 33)] [4, 10, 11] [(0, 30, 30)]) σ0 y0 → zpc (fX12_sprites_250 k73 n y0 y1 y2 y3 y4 y5 y6 y7 y8 y9 y10 y11) (fun r => (zQ [3, 5, 6, 7, 8, 9, 21, 22, 23, 24, 25, 26] [(0, 0, 0), (0, 31, 33)] [4, 10, 11] [(0, 30, 30)]) σ0 (r)) := by
  intro n
  induction n with
  | zero => intro y0 y1 y2 y3 y4 y5 y6 y7 y8 y9 y10 y11 h; exact zpc_none
  | succ n ih => intro y0 y1 y2 y3 y4 y5 y6 y7 y8 y9 y10 y11 h; exact fU_fX12_sprites_250_body hk73 ih h
theorem fU_fX12_sprites_244 {σ0 : zSt} {k73 : zSt → Int32 → Int32 → Int32 → Int32 → Int32 → Int32 → Int32 → Option (zSt)} (hk73 : ∀ (y0 : zSt) (y1 : Int32) (y2 : Int32) (y3 : Int32) (y4 : Int32) (y5 : Int32) (y6 : Int32) (y7 : Int32), (zQ [3, 5, 6, 7, 8, 9, 21, 22, 23, 24, 25, 26] [(0, 0, 0), (0, 31, 33)] [4, 10, 11] [(0, 30, 30)]) σ0 y0 → zpc (k73 y0 y1 y2 y3 y4 y5 y6 y7) (fun r => (zQ [3, 5, 6, 7, 8, 9, 21, 22, 23, 24, 25, 26] [(0, 0, 0), (0, 31, 33)] [4, 10, 11] [(0, 30, 30)]) σ0 (r))) {σ : zSt} {x1 : Int32} {x2 : Int32} {x3 : Int32} {x4 : Int32} {x5 : Int32} {x6 : Int32} {x7 : Int32} {x9 : Int32} {x10 : Int32} {s0 : Int32} {s1 : Int32} (h : (zQ [3, 5, 6, 7, 8, 9, 21, 22, 23, 24, 25, 26] [(0, 0, 0), (0, 31, 33)] [4, 10, 11] [(0, 30, 30)]) σ0 σ) : zpc (fX12_sprites_244 k73 σ x1 x2 x3 x4 x5 x6 x7 x9 x10 s0 s1) (fun r => (zQ [3, 5, 6, 7, 8, 9, 21, 22, 23, 24, 25, 26] [(0, 0, 0), (0, 31, 33)] [4, 10, 11] [(0, 30, 30)]) σ0 (r)) := by
  unfold fX12_sprites_244
  exact zpc_bv (fun v8 _ => fU_fX12_sprites_250 hk73 _ _ _ _ _ _ _ _ _ _ _ _ _ h)
theorem fU_fX12_sprites_212 {σ0 : zSt} {k73 : zSt → Int32 → Int32 → Int32 → Int32 → Int32 → Int32 → Int32 → Option (zSt)} (hk73 : ∀ (y0 : zSt) (y1 : Int32) (y2 : Int32) (y3 : Int32) (y4 : Int32) (y5 : Int32) (y6 : Int32) (y7 : Int32), (zQ [3, 5, 6, 7, 8, 9, 21, 22, 23, 24, 25, 26] [(0, 0, 0), (0, 31, 33)] [4, 10, 11] [(0, 30, 30)]) σ0 y0 → zpc (k73 y0 y1 y2 y3 y4 y5 y6 y7) (fun r => (zQ [3, 5, 6, 7, 8, 9, 21, 22, 23, 24, 25, 26] [(0, 0, 0), (0, 31, 33)] [4, 10, 11] [(0, 30, 30)]) σ0 (r))) {σ : zSt} {x1 : Int32} {x2 : Int32} {x3 : Int32} {x4 : Int32} {x5 : Int32} {x6 : Int32} {x7 : Int32} {x9 : Int32} {s0 : Int32} (h : (zQ [3, 5, 6, 7, 8, 9, 21, 22, 23, 24, 25, 26] [(0, 0, 0), (0, 31, 33)] [4, 10, 11] [(0, 30, 30)]) σ0 σ) : zpc (fX12_sprites_212 k73 σ x1 x2 x3 x4 x5 x6 x7 x9 s0) (fun r => (zQ [3, 5, 6, 7, 8, 9, 21, 22, 23, 24, 25, 26] [(0, 0, 0), (0, 31, 33)] [4, 10, 11] [(0, 30, 30)]) σ0 (r)) := by
  unfold fX12_sprites_212
  exact zpc_bi (fU_fX12_video8 h) (fun σ9 v10 hσ9 => zpc_bi (fU_fX12_bit hσ9) (fun σ11 v12 hσ11 => zpc_if (fun _ => fU_fX12_sprites_244 hk73 hσ11) (fun _ => fU_fX12_sprites_244 hk73 hσ11)))
theorem fU_fX12_sprites_183 {σ0 : zSt} {k73 : zSt → Int32 → Int32 → Int32 → Int32 → Int32 → Int32 → Int32 → Option (zSt)} (hk73 : ∀ (y0 : zSt) (y1 : Int32) (y2 : Int32) (y3 : Int32) (y4 : Int32) (y5 : Int32) (y6 : Int32) (y7 : Int32), (zQ [3, 5, 6, 7, 8, 9, 21, 22, 23, 24, 25, 26] [(0, 0, 0), (0, 31, 33)] [4, 10, 11] [(0, 30, 30)]) σ0 y0 → zpc (k73 y0 y1 y2 y3 y4 y5 y6 y7) (fun r => (zQ [3, 5, 6, 7, 8, 9, 21, 22, 23, 24, 25, 26] [(0, 0, 0), (0, 31, 33)] [4, 10, 11] [(0, 30, 30)]) σ0 (r))) {σ : zSt} {x1 : Int32} {x2 : Int32} {x3 : Int32} {x4 : Int32} {x5 : Int32} {x6 : Int32} {x7 : Int32} {x9 : Int32} {s0 : Int32} {s1 : Int32} (h : (zQ [3, 5, 6, 7, 8, 9, 21, 22, 23, 24, 25, 26] [(0, 0, 0), (0, 31, 33)] [4, 10, 11] [(0, 30, 30)]) σ0 σ) : zpc (fX12_sprites_183 k73 σ x1 x2 x3 x4 x5 x6 x7 x9 s0 s1) (fun r => (zQ [3, 5, 6, 7, 8, 9, 21, 22, 23, 24, 25, 26] [(0, 0, 0), (0, 31, 33)] [4, 10, 11] [(0, 30, 30)]) σ0 (r)) := by
  unfold fX12_sprites_183
  exact zpc_bv (fun v13 _ => zpc_if (fun _ => zpc_ck (zpc_ck (fU_fX12_sprites_212 hk73 h))) (fun _ => fU_fX12_sprites_212 hk73 h))
theorem fU_fX12_sprites_104 {σ0 : zSt} {k73 : zSt → Int32 → Int32 → Int32 → Int32 → Int32 → Int32 → Int32 → Option (zSt)} (hk73 : ∀ (y0 : zSt) (y1 : Int32) (y2 : Int32) (y3 : Int32) (y4 : Int32) (y5 : Int32) (y6 : Int32) (y7 : Int32), (zQ [3, 5, 6, 7, 8, 9, 21, 22, 23, 24, 25, 26] [(0, 0, 0), (0, 31, 33)] [4, 10, 11] [(0, 30, 30)]) σ0 y0 → zpc (k73 y0 y1 y2 y3 y4 y5 y6 y7) (fun r => (zQ [3, 5, 6, 7, 8, 9, 21, 22, 23, 24, 25, 26] [(0, 0, 0), (0, 31, 33)] [4, 10, 11] [(0, 30, 30)]) σ0 (r))) {σ : zSt} {x1 : Int32} {x2 : Int32} {x3 : Int32} {x4 : Int32} {x5 : Int32} {x6 : Int32} {x7 : Int32} {x8 : Int32} (h : (zQ [3, 5, 6, 7, 8, 9, 21, 22, 23, 24, 25, 26] [(0, 0, 0), (0, 31, 33)] [4, 10, 11] [(0, 30, 30)]) σ0 σ) : zpc (fX12_sprites_104 k73 σ x1 x2 x3 x4 x5 x6 x7 x8) (fun r => (zQ [3, 5, 6, 7, 8, 9, 21, 22, 23, 24, 25, 26] [(0, 0, 0), (0, 31, 33)] [4, 10, 11] [(0, 30, 30)]) σ0 (r)) := by
  unfold fX12_sprites_104
  exact zpc_bv (fun v14 _ => zpc_if (fun _ => zpc_if (fun _ => zpc_ck (zpc_ck (zpc_bs (zQ.wi h rfl) (fun σ20 hσ20 => zpc_some hσ20)))) (fun _ => zpc_bv (fun v15 _ => zpc_bi (fU_fX12_video8 h) (fun σ16 v17 hσ16 => zpc_bi (fU_fX12_bit hσ16) (fun σ18 v19 hσ18 => zpc_if (fun _ => fU_fX12_sprites_183 hk73 hσ18) (fun _ => fU_fX12_sprites_183 hk73 hσ18)))))) (fun _ => fU_fX12_sprites_349 hk73 h))
theorem fU_fX12_sprites_73_body {σ0 : zSt} {k73 : zSt → Int32 → Int32 → Int32 → Int32 → Int32 → Int32 → Int32 → Option (zSt)} (hk73 : ∀ (y0 : zSt) (y1 : Int32) (y2 : Int32) (y3 : Int32) (y4 : Int32) (y5 : Int32) (y6 : Int32) (y7 : Int32), (zQ [3, 5, 6, 7, 8, 9, 21, 22, 23, 24, 25, 26] [(0, 0, 0), (0, 31, 33)] [4, 10, 11] [(0, 30, 30)]) σ0 y0 → zpc (k73 y0 y1 y2 y3 y4 y5 y6 y7) (fun r => (zQ [3, 5, 6, 7, 8, 9, 21, 22, 23, 24, 25, 26] [(0, 0, 0), (0, 31, 33)] [4, 10, 11] [(0, 30, 30)]) σ0 (r))) {σ : zSt} {x1 : Int32} {x2 : Int32} {x3 : Int32} {x4 : Int32} {x5 : Int32} {x6 : Int32} {x7 : Int32} (h : (zQ [3, 5, 6, 7, 8, 9, 21, 22, 23, 24, 25, 26] [(0, 0, 0), (0, 31, 33)] [4, 10, 11] [(0, 30, 30)]) σ0 σ) : zpc (fX12_sprites_73_body k73 σ x1 x2 x3 x4 x5 x6 x7) (fun r => (zQ [3, 5, 6, 7, 8, 9, 21, 22, 23, 24, 25, 26] [(0, 0, 0), (0, 31, 33)] [4, 10, 11] [(0, 30, 30)]) σ0 (r)) := by
  unfold fX12_sprites_73_body
  exact zpc_if (fun _ => zpc_some h) (fun _ => zpc_bi (fU_fX12_video8 h) (fun σ21 v22 hσ21 => zpc_if (fun _ => fU_fX12_sprites_104 hk73 hσ21) (fun _ => zpc_if (fun _ => zpc_some hσ21) (fun _ => fU_fX12_sprites_104 hk73 hσ21))))
theorem fU_fX12_sprites_73 {σ0 : zSt} : ∀ (n : Nat) (y0 : zSt) (y1 : Int32) (y2 : Int32) (y3 : Int32) (y4 : Int32) (y5 : Int32) (y6 : Int32) (y7 : Int32), (zQ [3, 5, 6, 7, 8, 9, 21, 22, 23, 24, 25, 26] [(0, 0, 0), (0, 31, 33)] [4, 10, 11] [(0, 30, 30)]) σ0 y0 → zpc (fX12_sprites_73 n y0 y1 y2 y3 y4 y5 y6 y7) (fun r => (zQ [3, 5, 6, 7, 8, 9, 21, 22, 23, 24, 25, 26] [(0, 0, 0), (0, 31, 33)] [4, 10, 11] [(0, 30, 30)]) σ0 (r)) := by
  intro n
  induction n with
  | zero => intro y0 y1 y2 y3 y4 y5 y6 y7 h; exact zpc_none
  | succ n ih => intro y0 y1 y2 y3 y4 y5 y6 y7 h; exact fU_fX12_sprites_73_body ih h
theorem fU_fX12_sprites_68 {σ0 : zSt} {σ : zSt} {x1 : Int32} {x2 : Int32} {x3 : Int32} {x4 : Int32} {x5 : Int32} {s0 : Int32} (h : (zQ [3, 5, 6, 7, 8, 9, 21, 22, 23, 24, 25, 26] [(0, 0, 0), (0, 31, 33)] [4, 10, 11] [(0, 30, 30)]) σ0 σ) : zpc (fX12_sprites_68 σ x1 x2 x3 x4 x5 s0) (fun r => (zQ [3, 5, 6, 7, 8, 9, 21, 22, 23, 24, 25, 26] [(0, 0, 0), (0, 31, 33)] [4, 10, 11] [(0, 30, 30)]) σ0 (r)) := by
  unfold fX12_sprites_68
  exact fU_fX12_sprites_73 _ _ _ _ _ _ _ _ _ h
theorem fU_fX12_sprites_48 {σ0 : zSt} {σ : zSt} {x1 : Int32} {x2 : Int32} {x3 : Int32} {s0 : Int32} (h : (zQ [3, 5, 6, 7, 8, 9, 21, 22, 23, 24, 25, 26] [(0, 0, 0), (0, 31, 33)] [4, 10, 11] [(0, 30, 30)]) σ0 σ) : zpc (fX12_sprites_48 σ x1 x2 x3 s0) (fun r => (zQ [3, 5, 6, 7, 8, 9, 21, 22, 23, 24, 25, 26] [(0, 0, 0), (0, 31, 33)] [4, 10, 11] [(0, 30, 30)]) σ0 (r)) := by
  unfold fX12_sprites_48
  exact zpc_bi (fU_fX12_height h) (fun σ23 v24 hσ23 => zpc_if (fun _ => fU_fX12_sprites_68 hσ23) (fun _ => fU_fX12_sprites_68 hσ23))
theorem fU_fX12_sprites_30 {σ0 : zSt} {σ : zSt} {x1 : Int32} {x2 : Int32} {s0 : Int32} (h : (zQ [3, 5, 6, 7, 8, 9, 21, 22, 23, 24, 25, 26] [(0, 0, 0), (0, 31, 33)] [4, 10, 11] [(0, 30, 30)]) σ0 σ) : zpc (fX12_sprites_30 σ x1 x2 s0) (fun r => (zQ [3, 5, 6, 7, 8, 9, 21, 22, 23, 24, 25, 26] [(0, 0, 0), (0, 31, 33)] [4, 10, 11] [(0, 30, 30)]) σ0 (r)) := by
  unfold fX12_sprites_30
  exact zpc_bi (fU_fX12_bit h) (fun σ25 v26 hσ25 => zpc_if (fun _ => fU_fX12_sprites_48 hσ25) (fun _ => fU_fX12_sprites_48 hσ25))
theorem fU_fX12_sprites {σ0 : zSt} {σ : zSt} {x1 : Int32} (h : (zQ [3, 5, 6, 7, 8, 9, 21, 22, 23, 24, 25, 26] [(0, 0, 0), (0, 31, 33)] [4, 10, 11] [(0, 30, 30)]) σ0 σ) : zpc (fX12_sprites σ x1) (fun r => (zQ [3, 5, 6, 7, 8, 9, 21, 22, 23, 24, 25, 26] [(0, 0, 0), (0, 31, 33)] [4, 10, 11] [(0, 30, 30)]) σ0 (r)) := by
  unfold fX12_sprites
  exact zpc_bi (fU_fX12_reg h) (fun σ27 v28 hσ27 => zpc_ck (zpc_ck (zpc_bv (fun v29 _ => zpc_bi (fU_fX12_bit hσ27) (fun σ30 v31 hσ30 => zpc_if (fun _ => fU_fX12_sprites_30 hσ30) (fun _ => fU_fX12_sprites_30 hσ30))))))
theorem fU_fX12_colour_62 {σ0 : zSt} {σ : zSt} {s0 : Int32} (h : (zQ [3, 5, 6, 7, 8, 9, 21, 22, 23, 24, 25, 26] [(0, 0, 0), (0, 31, 33)] [4, 10, 11] [(0, 30, 30)]) σ0 σ) : zpc (fX12_colour_62 σ s0) (fun r => (zQ [3, 5, 6, 7, 8, 9, 21, 22, 23, 24, 25, 26] [(0, 0, 0), (0, 31, 33)] [4, 10, 11] [(0, 30, 30)]) σ0 (r.1)) := by
  unfold fX12_colour_62
  exact zpc_some h
theorem fU_fX12_colour_252 {σ0 : zSt} {σ : zSt} {s0 : Int32} (h : (zQ [3, 5, 6, 7, 8, 9, 21, 22, 23, 24, 25, 26] [(0, 0, 0), (0, 31, 33)] [4, 10, 11] [(0, 30, 30)]) σ0 σ) : zpc (fX12_colour_252 σ s0) (fun r => (zQ [3, 5, 6, 7, 8, 9, 21, 22, 23, 24, 25, 26] [(0, 0, 0), (0, 31, 33)] [4, 10, 11] [(0, 30, 30)]) σ0 (r.1)) := by
  unfold fX12_colour_252
  exact zpc_some h
theorem fU_fX12_colour_217 {σ0 : zSt} {σ : zSt} {x2 : Int32} (h : (zQ [3, 5, 6, 7, 8, 9, 21, 22, 23, 24, 25, 26] [(0, 0, 0), (0, 31, 33)] [4, 10, 11] [(0, 30, 30)]) σ0 σ) : zpc (fX12_colour_217 σ x2) (fun r => (zQ [3, 5, 6, 7, 8, 9, 21, 22, 23, 24, 25, 26] [(0, 0, 0), (0, 31, 33)] [4, 10, 11] [(0, 30, 30)]) σ0 (r.1)) := by
  unfold fX12_colour_217
  exact zpc_if (fun _ => zpc_ck (zpc_ck (zpc_ck (zpc_ck (fU_fX12_colour_252 h))))) (fun _ => fU_fX12_colour_252 h)
theorem fU_fX12_colour {σ0 : zSt} {σ : zSt} {x1 : Int32} (h : (zQ [3, 5, 6, 7, 8, 9, 21, 22, 23, 24, 25, 26] [(0, 0, 0), (0, 31, 33)] [4, 10, 11] [(0, 30, 30)]) σ0 σ) : zpc (fX12_colour σ x1) (fun r => (zQ [3, 5, 6, 7, 8, 9, 21, 22, 23, 24, 25, 26] [(0, 0, 0), (0, 31, 33)] [4, 10, 11] [(0, 30, 30)]) σ0 (r.1)) := by
  unfold fX12_colour
  exact zpc_bi (fU_fX12_mode h) (fun σ1 v2 hσ1 => zpc_if (fun _ => zpc_if (fun _ => zpc_ck (zpc_ck (zpc_ck (fU_fX12_colour_62 hσ1)))) (fun _ => zpc_ck (fU_fX12_colour_62 hσ1))) (fun _ => zpc_if (fun _ => fU_fX12_colour_217 hσ1) (fun _ => zpc_if (fun _ => fU_fX12_colour_217 hσ1) (fun _ => zpc_if (fun _ => fU_fX12_colour_217 hσ1) (fun _ => zpc_if (fun _ => fU_fX12_colour_217 hσ1) (fun _ => zpc_if (fun _ => fU_fX12_colour_217 hσ1) (fun _ => zpc_if (fun _ => fU_fX12_colour_217 hσ1) (fun _ => zpc_if (fun _ => fU_fX12_colour_217 hσ1) (fun _ => zpc_if (fun _ => fU_fX12_colour_217 hσ1) (fun _ => zpc_if (fun _ => fU_fX12_colour_217 hσ1) (fun _ => zpc_if (fun _ => fU_fX12_colour_217 hσ1) (fun _ => zpc_if (fun _ => fU_fX12_colour_217 hσ1) (fun _ => zpc_if (fun _ => fU_fX12_colour_217 hσ1) (fun _ => zpc_if (fun _ => fU_fX12_colour_217 hσ1) (fun _ => zpc_if (fun _ => fU_fX12_colour_217 hσ1) (fun _ => fU_fX12_colour_217 hσ1))))))))))))))))
theorem fU_fX12_old_48 {σ0 : zSt} {σ : zSt} (h : (zQ [3, 5, 6, 7, 8, 9, 21, 22, 23, 24, 25, 26] [(0, 0, 0), (0, 31, 33)] [4, 10, 11] [(0, 30, 30)]) σ0 σ) : zpc (fX12_old_48 σ) (fun r => (zQ [3, 5, 6, 7, 8, 9, 21, 22, 23, 24, 25, 26] [(0, 0, 0), (0, 31, 33)] [4, 10, 11] [(0, 30, 30)]) σ0 (r.1)) := by
  unfold fX12_old_48
  exact zpc_some h
theorem fU_fX12_old_131 {σ0 : zSt} {σ : zSt} {s0 : Int32} (h : (zQ [3, 5, 6, 7, 8, 9, 21, 22, 23, 24, 25, 26] [(0, 0, 0), (0, 31, 33)] [4, 10, 11] [(0, 30, 30)]) σ0 σ) : zpc (fX12_old_131 σ s0) (fun r => (zQ [3, 5, 6, 7, 8, 9, 21, 22, 23, 24, 25, 26] [(0, 0, 0), (0, 31, 33)] [4, 10, 11] [(0, 30, 30)]) σ0 (r.1)) := by
  unfold fX12_old_131
  exact zpc_some h
theorem fU_fX12_old_209 {σ0 : zSt} {σ : zSt} {s0 : Int32} (h : (zQ [3, 5, 6, 7, 8, 9, 21, 22, 23, 24, 25, 26] [(0, 0, 0), (0, 31, 33)] [4, 10, 11] [(0, 30, 30)]) σ0 σ) : zpc (fX12_old_209 σ s0) (fun r => (zQ [3, 5, 6, 7, 8, 9, 21, 22, 23, 24, 25, 26] [(0, 0, 0), (0, 31, 33)] [4, 10, 11] [(0, 30, 30)]) σ0 (r.1)) := by
  unfold fX12_old_209
  exact zpc_some h
theorem fU_fX12_old_395 {σ0 : zSt} {σ : zSt} {s0 : Int32} (h : (zQ [3, 5, 6, 7, 8, 9, 21, 22, 23, 24, 25, 26] [(0, 0, 0), (0, 31, 33)] [4, 10, 11] [(0, 30, 30)]) σ0 σ) : zpc (fX12_old_395 σ s0) (fun r => (zQ [3, 5, 6, 7, 8, 9, 21, 22, 23, 24, 25, 26] [(0, 0, 0), (0, 31, 33)] [4, 10, 11] [(0, 30, 30)]) σ0 (r.1)) := by
  unfold fX12_old_395
  exact zpc_some h
theorem fU_fX12_old_367 {σ0 : zSt} {σ : zSt} {x2 : Int32} {x6 : Int32} {x7 : Int32} (h : (zQ [3, 5, 6, 7, 8, 9, 21, 22, 23, 24, 25, 26] [(0, 0, 0), (0, 31, 33)] [4, 10, 11] [(0, 30, 30)]) σ0 σ) : zpc (fX12_old_367 σ x2 x6 x7) (fun r => (zQ [3, 5, 6, 7, 8, 9, 21, 22, 23, 24, 25, 26] [(0, 0, 0), (0, 31, 33)] [4, 10, 11] [(0, 30, 30)]) σ0 (r.1)) := by
  unfold fX12_old_367
  exact zpc_ck (zpc_if (fun _ => fU_fX12_old_395 h) (fun _ => fU_fX12_old_395 h))
theorem fU_fX12_old {σ0 : zSt} {σ : zSt} {x1 : Int32} {x2 : Int32} (h : (zQ [3, 5, 6, 7, 8, 9, 21, 22, 23, 24, 25, 26] [(0, 0, 0), (0, 31, 33)] [4, 10, 11] [(0, 30, 30)]) σ0 σ) : zpc (fX12_old σ x1 x2) (fun r => (zQ [3, 5, 6, 7, 8, 9, 21, 22, 23, 24, 25, 26] [(0, 0, 0), (0, 31, 33)] [4, 10, 11] [(0, 30, 30)]) σ0 (r.1)) := by
  unfold fX12_old
  exact zpc_bi (fU_fX12_reg h) (fun σ1 v2 hσ1 => zpc_ck (zpc_bv (fun v3 _ => zpc_bi (fU_fX12_reg hσ1) (fun σ4 v5 hσ4 => zpc_ck (zpc_bv (fun v6 _ => zpc_bi (fU_fX12_mode hσ4) (fun σ7 v8 hσ7 => zpc_if (fun _ => zpc_if (fun _ => fU_fX12_old_48 hσ7) (fun _ => zpc_if (fun _ => zpc_ck (zpc_ck (zpc_bi (fU_fX12_video8 hσ7) (fun σ38 v39 hσ38 => zpc_ck (zpc_bi (fU_fX12_video8 hσ38) (fun σ40 v41 hσ40 => zpc_ck (zpc_bv (fun v42 _ => zpc_if (fun _ => zpc_bi (fU_fX12_reg hσ40) (fun σ45 v46 hσ45 => fU_fX12_old_131 hσ45)) (fun _ => zpc_bi (fU_fX12_reg hσ40) (fun σ43 v44 hσ43 => fU_fX12_old_131 hσ43)))))))))) (fun _ => fU_fX12_old_48 hσ7))) (fun _ => zpc_ck (zpc_ck (zpc_bi (fU_fX12_video8 hσ7) (fun σ9 v10 hσ9 => zpc_bi (fU_fX12_mode hσ9) (fun σ11 v12 hσ11 => zpc_if (fun _ => zpc_ck (zpc_ck (zpc_ck (zpc_ck (zpc_bi (fU_fX12_video8 hσ11) (fun σ36 v37 hσ36 => zpc_ck (zpc_if (fun _ => fU_fX12_old_209 hσ36) (fun _ => fU_fX12_old_209 hσ36)))))))) (fun _ => zpc_bi (fU_fX12_mode hσ11) (fun σ13 v14 hσ13 => zpc_if (fun _ => zpc_ck (zpc_bi (fU_fX12_video8 hσ13) (fun σ30 v31 hσ30 => zpc_bi (fU_fX12_reg hσ30) (fun σ32 v33 hσ32 => zpc_ck (zpc_bi (fU_fX12_video8 hσ32) (fun σ34 v35 hσ34 => fU_fX12_old_367 hσ34)))))) (fun _ => zpc_ck (zpc_bv (fun v15 _ => zpc_bi (fU_fX12_reg hσ13) (fun σ16 v17 hσ16 => zpc_ck (zpc_bv (fun v18 _ => zpc_bi (fU_fX12_reg hσ16) (fun σ19 v20 hσ19 => zpc_ck (zpc_bv (fun v21 _ => zpc_bi (fU_fX12_bit hσ19) (fun σ22 v23 hσ22 => zpc_ck (zpc_bi (fU_fX12_video8 hσ22) (fun σ24 v25 hσ24 => zpc_bi (fU_fX12_bit hσ24) (fun σ26 v27 hσ26 => zpc_ck (zpc_bi (fU_fX12_video8 hσ26) (fun σ28 v29 hσ28 => fU_fX12_old_367 hσ28)))))))))))))))))))))))))))))
theorem fU_fX12_oldSprites_388 {σ0 : zSt} {k40 : zSt → Int32 → Int32 → Int32 → Int32 → Int32 → Option (zSt)} (hk40 : ∀ (y0 : zSt) (y1 : Int32) (y2 : Int32) (y3 : Int32) (y4 : Int32) (y5 : Int32), (zQ [3, 5, 6, 7, 8, 9, 21, 22, 23, 24, 25, 26] [(0, 0, 0), (0, 31, 33)] [4, 10, 11] [(0, 30, 30)]) σ0 y0 → zpc (k40 y0 y1 y2 y3 y4 y5) (fun r => (zQ [3, 5, 6, 7, 8, 9, 21, 22, 23, 24, 25, 26] [(0, 0, 0), (0, 31, 33)] [4, 10, 11] [(0, 30, 30)]) σ0 (r))) {σ : zSt} {x1 : Int32} {x2 : Int32} {x3 : Int32} {x4 : Int32} {x5 : Int32} (h : (zQ [3, 5, 6, 7, 8, 9, 21, 22, 23, 24, 25, 26] [(0, 0, 0), (0, 31, 33)] [4, 10, 11] [(0, 30, 30)]) σ0 σ) : zpc (fX12_oldSprites_388 k40 σ x1 x2 x3 x4 x5) (fun r => (zQ [3, 5, 6, 7, 8, 9, 21, 22, 23, 24, 25, 26] [(0, 0, 0), (0, 31, 33)] [4, 10, 11] [(0, 30, 30)]) σ0 (r)) := by
  unfold fX12_oldSprites_388
  exact zpc_bv (fun v1 _ => hk40 _ _ _ _ _ _ h)
theorem fU_fX12_oldSprites_150 {σ0 : zSt} {σ : zSt} (h : (zQ [3, 5, 6, 7, 8, 9, 21, 22, 23, 24, 25, 26] [(0, 0, 0), (0, 31, 33)] [4, 10, 11] [(0, 30, 30)]) σ0 σ) : zpc (fX12_oldSprites_150 σ) (fun r => (zQ [3, 5, 6, 7, 8, 9, 21, 22, 23, 24, 25, 26] [(0, 0, 0), (0, 31, 33)] [4, 10, 11] [(0, 30, 30)]) σ0 (r)) := by
  unfold fX12_oldSprites_150
  exact zpc_some h
theorem fU_fX12_oldSprites_382 {σ0 : zSt} {k40 : zSt → Int32 → Int32 → Int32 → Int32 → Int32 → Option (zSt)} (hk40 : ∀ (y0 : zSt) (y1 : Int32) (y2 : Int32) (y3 : Int32) (y4 : Int32) (y5 : Int32), (zQ [3, 5, 6, 7, 8, 9, 21, 22, 23, 24, 25, 26] [(0, 0, 0), (0, 31, 33)] [4, 10, 11] [(0, 30, 30)]) σ0 y0 → zpc (k40 y0 y1 y2 y3 y4 y5) (fun r => (zQ [3, 5, 6, 7, 8, 9, 21, 22, 23, 24, 25, 26] [(0, 0, 0), (0, 31, 33)] [4, 10, 11] [(0, 30, 30)]) σ0 (r))) {k231 : zSt → Int32 → Int32 → Int32 → Int32 → Int32 → Int32 → Int32 → Int32 → Int32 → Int32 → Option (zSt)} (hk231 : ∀ (y0 : zSt) (y1 : Int32) (y2 : Int32) (y3 : Int32) (y4 : Int32) (y5 : Int32) (y6 : Int32) (y7 : Int32) (y8 : Int32) (y9 : Int32) (y10 : Int32), (zQ [3, 5, 6, 7, 8, 9, 21, 22, 23, 24, 25, 26] [(0, 0, 0), (0, 31, 33)] [4, 10, 11] [(0, 30, 30)]) σ0 y0 → zpc (k231 y0 y1 y2 y3 y4 y5 y6 y7 y8 y9 y10) (fun r => (zQ [3, 5, 6, 7, 8, 9, 21, 22, 23, 24, 25, 26] [(0, 0, 0), (0, 31, 33)] [4, 10, 11] [(0, 30, 30)]) σ0 (r))) {σ : zSt} {x1 : Int32} {x2 : Int32} {x3 : Int32} {x4 : Int32} {x5 : Int32} {x8 : Int32} {x9 : Int32} {x10 : Int32} {x11 : Int32} {x12 : Int32} (h : (zQ [3, 5, 6, 7, 8, 9, 21, 22, 23, 24, 25, 26] [(0, 0, 0), (0, 31, 33)] [4, 10, 11] [(0, 30, 30)]) σ0 σ) : zpc (fX12_oldSprites_382 k40 k231 σ x1 x2 x3 x4 x5 x8 x9 x10 x11 x12) (fun r => (zQ [3, 5, 6, 7, 8, 9, 21, 22, 23, 24, 25, 26] [(0, 0, 0), (0, 31, 33)] [4, 10, 11] [(0, 30, 30)]) σ0 (r)) := by
  unfold fX12_oldSprites_382
  exact zpc_bv (fun v2 _ => hk231 _ _ _ _ _ _ _ _ _ _ _ h)
theorem fU_fX12_oldSprites_350 {σ0 : zSt} {k40 : zSt → Int32 → Int32 → Int32 → Int32 → Int32 → Option (zSt)} (hk40 : ∀ (y0 : zSt) (y1 : Int32) (y2 : Int32) (y3 : Int32) (y4 : Int32) (y5 : Int32), (zQ [3, 5, 6, 7, 8, 9, 21, 22, 23, 24, 25, 26] [(0, 0, 0), (0, 31, 33)] [4, 10, 11] [(0, 30, 30)]) σ0 y0 → zpc (k40 y0 y1 y2 y3 y4 y5) (fun r => (zQ [3, 5, 6, 7, 8, 9, 21, 22, 23, 24, 25, 26] [(0, 0, 0), (0, 31, 33)] [4, 10, 11] [(0, 30, 30)]) σ0 (r))) {k231 : zSt → Int32 → Int32 → Int32 → Int32 → Int32 → Int32 → Int32 → Int32 → Int32 → Int32 → Option (zSt)} (hk231 : ∀ (y0 : zSt) (y1 : Int32) (y2 : Int32) (y3 : Int32) (y4 : Int32) (y5 : Int32) (y6 : Int32) (y7 : Int32) (y8 : Int32) (y9 : Int32) (y10 : Int32), (zQ [3, 5, 6, 7, 8, 9, 21, 22, 23, 24, 25, 26] [(0, 0, 0), (0, 31, 33)] [4, 10, 11] [(0, 30, 30)]) σ0 y0 → zpc (k231 y0 y1 y2 y3 y4 y5 y6 y7 y8 y9 y10) (fun r => (zQ [3, 5, 6, 7, 8, 9, 21, 22, 23, 24, 25, 26] [(0, 0, 0), (0, 31, 33)] [4, 10, 11] [(0, 30, 30)]) σ0 (r))) {σ : zSt} {x1 : Int32} {x2 : Int32} {x3 : Int32} {x4 : Int32} {x5 : Int32} {x8 : Int32} {x9 : Int32} {x10 : Int32} {x11 : Int32} {x12 : Int32} {x15 : Int32} (h : (zQ [3, 5, 6, 7, 8, 9, 21, 22, 23, 24, 25, 26] [(0, 0, 0), (0, 31, 33)] [4, 10, 11] [(0, 30, 30)]) σ0 σ) : zpc (fX12_oldSprites_350 k40 k231 σ x1 x2 x3 x4 x5 x8 x9 x10 x11 x12 x15) (fun r => (zQ [3, 5, 6, 7, 8, 9, 21, 22, 23, 24, 25, 26] [(0, 0, 0), (0, 31, 33)] [4, 10, 11] [(0, 30, 30)]) σ0 (r)) := by
  unfold fX12_oldSprites_350
  exact zpc_ck (zpc_bs (zQ.wi h rfl) (fun σ3 hσ3 => zpc_if (fun _ => fU_fX12_oldSprites_382 hk40 hk231 hσ3) (fun _ => zpc_ck (zpc_if (fun _ => zpc_ck (zpc_bs (zQ.wi hσ3 rfl) (fun σ4 hσ4 => fU_fX12_oldSprites_382 hk40 hk231 hσ4))) (fun _ => fU_fX12_oldSprites_382 hk40 hk231 hσ3)))))
theorem fU_fX12_oldSprites_283 {σ0 : zSt} {k40 : zSt → Int32 → Int32 → Int32 → Int32 → Int32 → Option (zSt)} (hk40 : ∀ (y0 : zSt) (y1 : Int32) (y2 : Int32) (y3 : Int32) (y4 : Int32) (y5 : Int32), (zQ [3, 5, 6, 7, 8, 9, 21, 22, 23, 24, 25, 26] [(0, 0, 0), (0, 31, 33)] [4, 10, 11] [(0, 30, 30)]) σ0 y0 → zpc (k40 y0 y1 y2 y3 y4 y5) (fun r => (zQ [3, 5, 6, 7, 8, 9, 21, 22, 23, 24, 25, 26] [(0, 0, 0), (0, 31, 33)] [4, 10, 11] [(0, 30, 30)]) σ0 (r))) {k231 : zSt → Int32 → Int32 → Int32 → Int32 → Int32 → Int32 → Int32 → Int32 → Int32 → Int32 → Option (zSt)} (hk231 : ∀ (y0 : zSt) (y1 : Int32) (y2 : Int32) (y3 : Int32) (y4 : Int32) (y5 : Int32) (y6 : Int32) (y7 : Int32) (y8 : Int32) (y9 : Int32) (y10 : Int32), (zQ [3, 5, 6, 7, 8, 9, 21, 22, 23, 24, 25, 26] [(0, 0, 0), (0, 31, 33)] [4, 10, 11] [(0, 30, 30)]) σ0 y0 → zpc (k231 y0 y1 y2 y3 y4 y5 y6 y7 y8 y9 y10) (fun r => (zQ [3, 5, 6, 7, 8, 9, 21, 22, 23, 24, 25, 26] [(0, 0, 0), (0, 31, 33)] [4, 10, 11] [(0, 30, 30)]) σ0 (r))) {σ : zSt} {x1 : Int32} {x2 : Int32} {x3 : Int32} {x4 : Int32} {x5 : Int32} {x8 : Int32} {x9 : Int32} {x10 : Int32} {x11 : Int32} {x12 : Int32} {x13 : Int32} {s0 : Int32} {s1 : Int32} (h : (zQ [3, 5, 6, 7, 8, 9, 21, 22, 23, 24, 25, 26] [(0, 0, 0), (0, 31, 33)] [4, 10, 11] [(0, 30, 30)]) σ0 σ) : zpc (fX12_oldSprites_283 k40 k231 σ x1 x2 x3 x4 x5 x8 x9 x10 x11 x12 x13 s0 s1) (fun r => (zQ [3, 5, 6, 7, 8, 9, 21, 22, 23, 24, 25, 26] [(0, 0, 0), (0, 31, 33)] [4, 10, 11] [(0, 30, 30)]) σ0 (r)) := by
  unfold fX12_oldSprites_283
  exact zpc_bi (fU_fX12_video8 h) (fun σ5 v6 hσ5 => zpc_ck (zpc_bv (fun v7 _ => zpc_bv (fun v8 _ => zpc_if (fun _ => fU_fX12_oldSprites_382 hk40 hk231 hσ5) (fun _ => zpc_if (fun _ => fU_fX12_oldSprites_382 hk40 hk231 hσ5) (fun _ => zpc_if (fun _ => zpc_ck (zpc_if (fun _ => fU_fX12_oldSprites_350 hk40 hk231 hσ5) (fun _ => zpc_ck (zpc_ck (zpc_bs (zQ.wi hσ5 rfl) (fun σ9 hσ9 => fU_fX12_oldSprites_350 hk40 hk231 hσ9)))))) (fun _ => fU_fX12_oldSprites_382 hk40 hk231 hσ5)))))))
theorem fU_fX12_oldSprites_231_body {σ0 : zSt} {k40 : zSt → Int32 → Int32 → Int32 → Int32 → Int32 → Option (zSt)} (hk40 : ∀ (y0 : zSt) (y1 : Int32) (y2 : Int32) (y3 : Int32) (y4 : Int32) (y5 : Int32), (zQ [3, 5, 6, 7, 8, 9, 21, 22, 23, 24, 25, 26] [(0, 0, 0), (0, 31, 33)] [4, 10, 11] [(0, 30, 30)]) σ0 y0 → zpc (k40 y0 y1 y2 y3 y4 y5) (fun r => (zQ [3, 5, 6, 7, 8, 9, 21, 22, 23, 24, 25, 26] [(0, 0, 0), (0, 31, 33)] [4, 10, 11] [(0, 30, 30)]) σ0 (r))) {k231 : zSt → Int32 → Int32 → Int32 → Int32 → Int32 → Int32 → Int32 → Int32 → Int32 → Int32 → Option (zSt)} (hk231 : ∀ (y0 : zSt) (y1 : Int32) (y2 : Int32) (y3 : Int32) (y4 : Int32) (y5 : Int32) (y6 : Int32) (y7 : Int32) (y8 : Int32) (y9 : Int32) (y10 : Int32), (zQ [3, 5, 6, 7, 8, 9, 21, 22, 23, 24, 25, 26] [(0, 0, 0), (0, 31, 33)] [4, 10, 11] [(0, 30, 30)]) σ0 y0 → zpc (k231 y0 y1 y2 y3 y4 y5 y6 y7 y8 y9 y10) (fun r => (zQ [3, 5, 6, 7, 8, 9, 21, 22, 23, 24, 25, 26] [(0, 0, 0), (0, 31, 33)] [4, 10, 11] [(0, 30, 30)]) σ0 (r))) {σ : zSt} {x1 : Int32} {x2 : Int32} {x3 : Int32} {x4 : Int32} {x5 : Int32} {x8 : Int32} {x9 : Int32} {x10 : Int32} {x11 : Int32} {x12 : Int32} (h : (zQ [3, 5, 6, 7, 8, 9, 21, 22, 23, 24, 25, 26] [(0, 0, 0), (0, 31, 33)] [4, 10, 11] [(0, 30, 30)]) σ0 σ) : zpc (fX12_oldSprites_231_body k40 k231 σ x1 x2 x3 x4 x5 x8 x9 x10 x11 x12) (fun r => (zQ [3, 5, 6, 7, 8, 9, 21, 22, 23, 24, 25, 26] [(0, 0, 0), (0, 31, 33)] [4, 10, 11] [(0, 30, 30)]) σ0 (r)) := by
  unfold fX12_oldSprites_231_body
  exact zpc_if (fun _ => fU_fX12_oldSprites_388 hk40 h) (fun _ => zpc_ck (zpc_bv (fun v10 _ => zpc_bi (fU_fX12_reg h) (fun σ11 v12 hσ11 => zpc_ck (zpc_ck (zpc_if (fun _ => fU_fX12_oldSprites_283 hk40 hk231 hσ11) (fun _ => fU_fX12_oldSprites_283 hk40 hk231 hσ11)))))))
theorem fU_fX12_oldSprites_231 {σ0 : zSt} {k40 : zSt → Int32 → Int32 → Int32 → Int32 → Int32 → Option (zSt)} (hk40 : ∀ (y0 : zSt) (y1 : Int32) (y2 : Int32) (y3 : Int32) (y4 : Int32) (y5 : Int32), (zQ [3, 5, 6, 7, 8, 9, 21, 22, 23, 24, 25, 26] [(0, 0, 0), (0, 31, 33)] [4, 10, 11] [(0, 30, 30)]) σ0 y0 → zpc (k40 y0 y1 y2 y3 y4 y5) (fun r => (zQ [3, 5, 6, 7, 8, 9, 21, 22, 23, 24, 25, 26] [(0, 0, 0), (0, 31, 33)] [4, 10, 11] [(0, 30, 30)]) σ0 (r))) : ∀ (n : Nat) (y0 : zSt) (y1 : Int32) (y2 : Int32) (y3 : Int32) (y4 : Int32) (y5 : Int32) (y6 : Int32) (y7 : Int32) (y8 : Int32) (y9 : Int32) (y10 : Int32), (zQ [3, 5, 6, 7, 8, 9, 21, 22, 23, 24, 25, 26] [(0, 0, 0), (0, 31, 33)] [4, 10, 11] [(0, 30, 30)]) σ0 y0 → zpc (fX12_oldSprites_231 k40 n y0 y1 y2 y3 y4 y5 y6 y7 y8 y9 y10) (fun r => (zQ [3, 5, 6, 7, 8, 9, 21, 22, 23, 24, 25, 26] [(0, 0, 0), (0, 31, 33)] [4, 10, 11] [(0, 30, 30)]) σ0 (r)) := by
  intro n
  induction n with
  | zero => intro y0 y1 y2 y3 y4 y5 y6 y7 y8 y9 y10 h; exact zpc_none
  | succ n ih => intro y0 y1 y2 y3 y4 y5 y6 y7 y8 y9 y10 h; exact fU_fX12_oldSprites_231_body hk40 ih h
theorem fU_fX12_oldSprites_225 {σ0 : zSt} {k40 : zSt → Int32 → Int32 → Int32 → Int32 → Int32 → Option (zSt)} (hk40 : ∀ (y0 : zSt) (y1 : Int32) (y2 : Int32) (y3 : Int32) (y4 : Int32) (y5 : Int32), (zQ [3, 5, 6, 7, 8, 9, 21, 22, 23, 24, 25, 26] [(0, 0, 0), (0, 31, 33)] [4, 10, 11] [(0, 30, 30)]) σ0 y0 → zpc (k40 y0 y1 y2 y3 y4 y5) (fun r => (zQ [3, 5, 6, 7, 8, 9, 21, 22, 23, 24, 25, 26] [(0, 0, 0), (0, 31, 33)] [4, 10, 11] [(0, 30, 30)]) σ0 (r))) {σ : zSt} {x1 : Int32} {x2 : Int32} {x3 : Int32} {x4 : Int32} {x5 : Int32} {x8 : Int32} {x9 : Int32} {x10 : Int32} {s0 : Int32} {s1 : Int32} (h : (zQ [3, 5, 6, 7, 8, 9, 21, 22, 23, 24, 25, 26] [(0, 0, 0), (0, 31, 33)] [4, 10, 11] [(0, 30, 30)]) σ0 σ) : zpc (fX12_oldSprites_225 k40 σ x1 x2 x3 x4 x5 x8 x9 x10 s0 s1) (fun r => (zQ [3, 5, 6, 7, 8, 9, 21, 22, 23, 24, 25, 26] [(0, 0, 0), (0, 31, 33)] [4, 10, 11] [(0, 30, 30)]) σ0 (r)) := by
  unfold fX12_oldSprites_225
  exact zpc_bv (fun v13 _ => fU_fX12_oldSprites_231 hk40 _ _ _ _ _ _ _ _ _ _ _ _ h)
theorem fU_fX12_oldSprites_183 {σ0 : zSt} {k40 : zSt → Int32 → Int32 → Int32 → Int32 → Int32 → Option (zSt)} (hk40 : ∀ (y0 : zSt) (y1 : Int32) (y2 : Int32) (y3 : Int32) (y4 : Int32) (y5 : Int32), (zQ [3, 5, 6, 7, 8, 9, 21, 22, 23, 24, 25, 26] [(0, 0, 0), (0, 31, 33)] [4, 10, 11] [(0, 30, 30)]) σ0 y0 → zpc (k40 y0 y1 y2 y3 y4 y5) (fun r => (zQ [3, 5, 6, 7, 8, 9, 21, 22, 23, 24, 25, 26] [(0, 0, 0), (0, 31, 33)] [4, 10, 11] [(0, 30, 30)]) σ0 (r))) {σ : zSt} {x1 : Int32} {x2 : Int32} {x3 : Int32} {x4 : Int32} {x5 : Int32} {x6 : Int32} {x8 : Int32} {s0 : Int32} (h : (zQ [3, 5, 6, 7, 8, 9, 21, 22, 23, 24, 25, 26] [(0, 0, 0), (0, 31, 33)] [4, 10, 11] [(0, 30, 30)]) σ0 σ) : zpc (fX12_oldSprites_183 k40 σ x1 x2 x3 x4 x5 x6 x8 s0) (fun r => (zQ [3, 5, 6, 7, 8, 9, 21, 22, 23, 24, 25, 26] [(0, 0, 0), (0, 31, 33)] [4, 10, 11] [(0, 30, 30)]) σ0 (r)) := by
  unfold fX12_oldSprites_183
  exact zpc_bi (fU_fX12_video8 h) (fun σ14 v15 hσ14 => zpc_bv (fun v16 _ => zpc_bi (fU_fX12_video8 hσ14) (fun σ17 v18 hσ17 => zpc_bi (fU_fX12_video8 hσ17) (fun σ19 v20 hσ19 => zpc_if (fun _ => fU_fX12_oldSprites_225 hk40 hσ19) (fun _ => fU_fX12_oldSprites_225 hk40 hσ19)))))
theorem fU_fX12_oldSprites_40_body {σ0 : zSt} {k40 : zSt → Int32 → Int32 → Int32 → Int32 → Int32 → Option (zSt)} (hk40 : ∀ (y0 : zSt) (y1 : Int32) (y2 : Int32) (y3 : Int32) (y4 : Int32) (y5 : Int32), (zQ [3, 5, 6, 7, 8, 9, 21, 22, 23, 24, 25, 26] [(0, 0, 0), (0, 31, 33)] [4, 10, 11] [(0, 30, 30)]) σ0 y0 → zpc (k40 y0 y1 y2 y3 y4 y5) (fun r => (zQ [3, 5, 6, 7, 8, 9, 21, 22, 23, 24, 25, 26] [(0, 0, 0), (0, 31, 33)] [4, 10, 11] [(0, 30, 30)]) σ0 (r))) {σ : zSt} {x1 : Int32} {x2 : Int32} {x3 : Int32} {x4 : Int32} {x5 : Int32} (h : (zQ [3, 5, 6, 7, 8, 9, 21, 22, 23, 24, 25, 26] [(0, 0, 0), (0, 31, 33)] [4, 10, 11] [(0, 30, 30)]) σ0 σ) : zpc (fX12_oldSprites_40_body k40 σ x1 x2 x3 x4 x5) (fun r => (zQ [3, 5, 6, 7, 8, 9, 21, 22, 23, 24, 25, 26] [(0, 0, 0), (0, 31, 33)] [4, 10, 11] [(0, 30, 30)]) σ0 (r)) := by
  unfold fX12_oldSprites_40_body
  exact zpc_if (fun _ => zpc_some h) (fun _ => zpc_bi (fU_fX12_reg h) (fun σ21 v22 hσ21 => zpc_ck (zpc_bv (fun v23 _ => zpc_bi (fU_fX12_video8 hσ21) (fun σ24 v25 hσ24 => zpc_if (fun _ => zpc_some hσ24) (fun _ => zpc_bv (fun v26 _ => zpc_if (fun _ => zpc_if (fun _ => zpc_ck (zpc_if (fun _ => zpc_ck (zpc_ck (zpc_bs (zQ.wi hσ24 rfl) (fun σ32 hσ32 => fU_fX12_oldSprites_150 hσ32)))) (fun _ => fU_fX12_oldSprites_150 hσ24))) (fun _ => zpc_bv (fun v27 _ => zpc_if (fun _ => zpc_bi (fU_fX12_video8 hσ24) (fun σ30 v31 hσ30 => fU_fX12_oldSprites_183 hk40 hσ30)) (fun _ => zpc_bi (fU_fX12_video8 hσ24) (fun σ28 v29 hσ28 => fU_fX12_oldSprites_183 hk40 hσ28))))) (fun _ => fU_fX12_oldSprites_388 hk40 hσ24))))))))
theorem fU_fX12_oldSprites_40 {σ0 : zSt} : ∀ (n : Nat) (y0 : zSt) (y1 : Int32) (y2 : Int32) (y3 : Int32) (y4 : Int32) (y5 : Int32), (zQ [3, 5, 6, 7, 8, 9, 21, 22, 23, 24, 25, 26] [(0, 0, 0), (0, 31, 33)] [4, 10, 11] [(0, 30, 30)]) σ0 y0 → zpc (fX12_oldSprites_40 n y0 y1 y2 y3 y4 y5) (fun r => (zQ [3, 5, 6, 7, 8, 9, 21, 22, 23, 24, 25, 26] [(0, 0, 0), (0, 31, 33)] [4, 10, 11] [(0, 30, 30)]) σ0 (r)) := by
  intro n
  induction n with
  | zero => intro y0 y1 y2 y3 y4 y5 h; exact zpc_none
  | succ n ih => intro y0 y1 y2 y3 y4 y5 h; exact fU_fX12_oldSprites_40_body ih h
theorem fU_fX12_oldSprites_33 {σ0 : zSt} {σ : zSt} {x1 : Int32} {x2 : Int32} {s0 : Int32} (h : (zQ [3, 5, 6, 7, 8, 9, 21, 22, 23, 24, 25, 26] [(0, 0, 0), (0, 31, 33)] [4, 10, 11] [(0, 30, 30)]) σ0 σ) : zpc (fX12_oldSprites_33 σ x1 x2 s0) (fun r => (zQ [3, 5, 6, 7, 8, 9, 21, 22, 23, 24, 25, 26] [(0, 0, 0), (0, 31, 33)] [4, 10, 11] [(0, 30, 30)]) σ0 (r)) := by
  unfold fX12_oldSprites_33
  exact fU_fX12_oldSprites_40 _ _ _ _ _ _ _ h
theorem fU_fX12_oldSprites_15 {σ0 : zSt} {σ : zSt} {x1 : Int32} {s0 : Int32} (h : (zQ [3, 5, 6, 7, 8, 9, 21, 22, 23, 24, 25, 26] [(0, 0, 0), (0, 31, 33)] [4, 10, 11] [(0, 30, 30)]) σ0 σ) : zpc (fX12_oldSprites_15 σ x1 s0) (fun r => (zQ [3, 5, 6, 7, 8, 9, 21, 22, 23, 24, 25, 26] [(0, 0, 0), (0, 31, 33)] [4, 10, 11] [(0, 30, 30)]) σ0 (r)) := by
  unfold fX12_oldSprites_15
  exact zpc_bi (fU_fX12_bit h) (fun σ33 v34 hσ33 => zpc_if (fun _ => fU_fX12_oldSprites_33 hσ33) (fun _ => fU_fX12_oldSprites_33 hσ33))
theorem fU_fX12_oldSprites {σ0 : zSt} {σ : zSt} {x1 : Int32} (h : (zQ [3, 5, 6, 7, 8, 9, 21, 22, 23, 24, 25, 26] [(0, 0, 0), (0, 31, 33)] [4, 10, 11] [(0, 30, 30)]) σ0 σ) : zpc (fX12_oldSprites σ x1) (fun r => (zQ [3, 5, 6, 7, 8, 9, 21, 22, 23, 24, 25, 26] [(0, 0, 0), (0, 31, 33)] [4, 10, 11] [(0, 30, 30)]) σ0 (r)) := by
  unfold fX12_oldSprites
  exact zpc_bi (fU_fX12_bit h) (fun σ35 v36 hσ35 => zpc_if (fun _ => fU_fX12_oldSprites_15 hσ35) (fun _ => fU_fX12_oldSprites_15 hσ35))
theorem fU_fX12_draws_302_body {σ0 : zSt} {k302 : zSt → Int32 → Int32 → Option (zSt)} (hk302 : ∀ (y0 : zSt) (y1 : Int32) (y2 : Int32), (zQ [3, 5, 6, 7, 8, 9, 21, 22, 23, 24, 25, 26] [(0, 0, 0), (0, 31, 33)] [4, 10, 11] [(0, 30, 30)]) σ0 y0 → zpc (k302 y0 y1 y2) (fun r => (zQ [3, 5, 6, 7, 8, 9, 21, 22, 23, 24, 25, 26] [(0, 0, 0), (0, 31, 33)] [4, 10, 11] [(0, 30, 30)]) σ0 (r))) {σ : zSt} {x1 : Int32} {x3 : Int32} (h : (zQ [3, 5, 6, 7, 8, 9, 21, 22, 23, 24, 25, 26] [(0, 0, 0), (0, 31, 33)] [4, 10, 11] [(0, 30, 30)]) σ0 σ) : zpc (fX12_draws_302_body k302 σ x1 x3) (fun r => (zQ [3, 5, 6, 7, 8, 9, 21, 22, 23, 24, 25, 26] [(0, 0, 0), (0, 31, 33)] [4, 10, 11] [(0, 30, 30)]) σ0 (r)) := by
  unfold fX12_draws_302_body
  exact zpc_if (fun _ => zpc_some h) (fun _ => zpc_ck (zpc_bi (fU_fX12_colour h) (fun σ1 v2 hσ1 => zpc_ck (zpc_bs (zQ.wi hσ1 rfl) (fun σ3 hσ3 => zpc_bv (fun v4 _ => hk302 _ _ _ hσ3))))))
theorem fU_fX12_draws_302 {σ0 : zSt} : ∀ (n : Nat) (y0 : zSt) (y1 : Int32) (y2 : Int32), (zQ [3, 5, 6, 7, 8, 9, 21, 22, 23, 24, 25, 26] [(0, 0, 0), (0, 31, 33)] [4, 10, 11] [(0, 30, 30)]) σ0 y0 → zpc (fX12_draws_302 n y0 y1 y2) (fun r => (zQ [3, 5, 6, 7, 8, 9, 21, 22, 23, 24, 25, 26] [(0, 0, 0), (0, 31, 33)] [4, 10, 11] [(0, 30, 30)]) σ0 (r)) := by
  intro n
  induction n with
  | zero => intro y0 y1 y2 h; exact zpc_none
  | succ n ih => intro y0 y1 y2 h; exact fU_fX12_draws_302_body ih h
theorem fU_fX12_draws_300 {σ0 : zSt} {σ : zSt} {x1 : Int32} (h : (zQ [3, 5, 6, 7, 8, 9, 21, 22, 23, 24, 25, 26] [(0, 0, 0), (0, 31, 33)] [4, 10, 11] [(0, 30, 30)]) σ0 σ) : zpc (fX12_draws_300 σ x1) (fun r => (zQ [3, 5, 6, 7, 8, 9, 21, 22, 23, 24, 25, 26] [(0, 0, 0), (0, 31, 33)] [4, 10, 11] [(0, 30, 30)]) σ0 (r)) := by
  unfold fX12_draws_300
  exact fU_fX12_draws_302 _ _ _ _ h
theorem fU_fX12_draws_244 {σ0 : zSt} {k213 : zSt → Int32 → Int32 → Int32 → Option (zSt)} (hk213 : ∀ (y0 : zSt) (y1 : Int32) (y2 : Int32) (y3 : Int32), (zQ [3, 5, 6, 7, 8, 9, 21, 22, 23, 24, 25, 26] [(0, 0, 0), (0, 31, 33)] [4, 10, 11] [(0, 30, 30)]) σ0 y0 → zpc (k213 y0 y1 y2 y3) (fun r => (zQ [3, 5, 6, 7, 8, 9, 21, 22, 23, 24, 25, 26] [(0, 0, 0), (0, 31, 33)] [4, 10, 11] [(0, 30, 30)]) σ0 (r))) {σ : zSt} {x1 : Int32} {x2 : Int32} {x3 : Int32} {s0 : Int32} {s1 : Int32} (h : (zQ [3, 5, 6, 7, 8, 9, 21, 22, 23, 24, 25, 26] [(0, 0, 0), (0, 31, 33)] [4, 10, 11] [(0, 30, 30)]) σ0 σ) : zpc (fX12_draws_244 k213 σ x1 x2 x3 s0 s1) (fun r => (zQ [3, 5, 6, 7, 8, 9, 21, 22, 23, 24, 25, 26] [(0, 0, 0), (0, 31, 33)] [4, 10, 11] [(0, 30, 30)]) σ0 (r)) := by
  unfold fX12_draws_244
  exact zpc_ck (zpc_bs (zQ.wi h rfl) (fun σ5 hσ5 => zpc_bv (fun v6 _ => hk213 _ _ _ _ hσ5)))
theorem fU_fX12_draws_294 {σ0 : zSt} {k266 : zSt → Int32 → Int32 → Option (zSt)} (hk266 : ∀ (y0 : zSt) (y1 : Int32) (y2 : Int32), (zQ [3, 5, 6, 7, 8, 9, 21, 22, 23, 24, 25, 26] [(0, 0, 0), (0, 31, 33)] [4, 10, 11] [(0, 30, 30)]) σ0 y0 → zpc (k266 y0 y1 y2) (fun r => (zQ [3, 5, 6, 7, 8, 9, 21, 22, 23, 24, 25, 26] [(0, 0, 0), (0, 31, 33)] [4, 10, 11] [(0, 30, 30)]) σ0 (r))) {σ : zSt} {x1 : Int32} {x3 : Int32} (h : (zQ [3, 5, 6, 7, 8, 9, 21, 22, 23, 24, 25, 26] [(0, 0, 0), (0, 31, 33)] [4, 10, 11] [(0, 30, 30)]) σ0 σ) : zpc (fX12_draws_294 k266 σ x1 x3) (fun r => (zQ [3, 5, 6, 7, 8, 9, 21, 22, 23, 24, 25, 26] [(0, 0, 0), (0, 31, 33)] [4, 10, 11] [(0, 30, 30)]) σ0 (r)) := by
  unfold fX12_draws_294
  exact zpc_bv (fun v7 _ => hk266 _ _ _ h)
theorem fU_fX12_draws_266_body {σ0 : zSt} {k266 : zSt → Int32 → Int32 → Option (zSt)} (hk266 : ∀ (y0 : zSt) (y1 : Int32) (y2 : Int32), (zQ [3, 5, 6, 7, 8, 9, 21, 22, 23, 24, 25, 26] [(0, 0, 0), (0, 31, 33)] [4, 10, 11] [(0, 30, 30)]) σ0 y0 → zpc (k266 y0 y1 y2) (fun r => (zQ [3, 5, 6, 7, 8, 9, 21, 22, 23, 24, 25, 26] [(0, 0, 0), (0, 31, 33)] [4, 10, 11] [(0, 30, 30)]) σ0 (r))) {σ : zSt} {x1 : Int32} {x3 : Int32} (h : (zQ [3, 5, 6, 7, 8, 9, 21, 22, 23, 24, 25, 26] [(0, 0, 0), (0, 31, 33)] [4, 10, 11] [(0, 30, 30)]) σ0 σ) : zpc (fX12_draws_266_body k266 σ x1 x3) (fun r => (zQ [3, 5, 6, 7, 8, 9, 21, 22, 23, 24, 25, 26] [(0, 0, 0), (0, 31, 33)] [4, 10, 11] [(0, 30, 30)]) σ0 (r)) := by
  unfold fX12_draws_266_body
  exact zpc_if (fun _ => fU_fX12_draws_300 h) (fun _ => zpc_ck (zpc_if (fun _ => fU_fX12_draws_294 hk266 h) (fun _ => zpc_ck (zpc_ck (zpc_bs (zQ.wi h rfl) (fun σ8 hσ8 => fU_fX12_draws_294 hk266 hσ8))))))
theorem fU_fX12_draws_266 {σ0 : zSt} : ∀ (n : Nat) (y0 : zSt) (y1 : Int32) (y2 : Int32), (zQ [3, 5, 6, 7, 8, 9, 21, 22, 23, 24, 25, 26] [(0, 0, 0), (0, 31, 33)] [4, 10, 11] [(0, 30, 30)]) σ0 y0 → zpc (fX12_draws_266 n y0 y1 y2) (fun r => (zQ [3, 5, 6, 7, 8, 9, 21, 22, 23, 24, 25, 26] [(0, 0, 0), (0, 31, 33)] [4, 10, 11] [(0, 30, 30)]) σ0 (r)) := by
  intro n
  induction n with
  | zero => intro y0 y1 y2 h; exact zpc_none
  | succ n ih => intro y0 y1 y2 h; exact fU_fX12_draws_266_body ih h
theorem fU_fX12_draws_264 {σ0 : zSt} {σ : zSt} {x1 : Int32} (h : (zQ [3, 5, 6, 7, 8, 9, 21, 22, 23, 24, 25, 26] [(0, 0, 0), (0, 31, 33)] [4, 10, 11] [(0, 30, 30)]) σ0 σ) : zpc (fX12_draws_264 σ x1) (fun r => (zQ [3, 5, 6, 7, 8, 9, 21, 22, 23, 24, 25, 26] [(0, 0, 0), (0, 31, 33)] [4, 10, 11] [(0, 30, 30)]) σ0 (r)) := by
  unfold fX12_draws_264
  exact fU_fX12_draws_266 _ _ _ _ h
theorem fU_fX12_draws_213_body {σ0 : zSt} {k213 : zSt → Int32 → Int32 → Int32 → Option (zSt)} (hk213 : ∀ (y0 : zSt) (y1 : Int32) (y2 : Int32) (y3 : Int32), (zQ [3, 5, 6, 7, 8, 9, 21, 22, 23, 24, 25, 26] [(0, 0, 0), (0, 31, 33)] [4, 10, 11] [(0, 30, 30)]) σ0 y0 → zpc (k213 y0 y1 y2 y3) (fun r => (zQ [3, 5, 6, 7, 8, 9, 21, 22, 23, 24, 25, 26] [(0, 0, 0), (0, 31, 33)] [4, 10, 11] [(0, 30, 30)]) σ0 (r))) {σ : zSt} {x1 : Int32} {x2 : Int32} {x3 : Int32} (h : (zQ [3, 5, 6, 7, 8, 9, 21, 22, 23, 24, 25, 26] [(0, 0, 0), (0, 31, 33)] [4, 10, 11] [(0, 30, 30)]) σ0 σ) : zpc (fX12_draws_213_body k213 σ x1 x2 x3) (fun r => (zQ [3, 5, 6, 7, 8, 9, 21, 22, 23, 24, 25, 26] [(0, 0, 0), (0, 31, 33)] [4, 10, 11] [(0, 30, 30)]) σ0 (r)) := by
  unfold fX12_draws_213_body
  exact zpc_if (fun _ => zpc_bi (fU_fX12_mode h) (fun σ9 v10 hσ9 => zpc_if (fun _ => fU_fX12_draws_264 hσ9) (fun _ => zpc_bu (fU_fX12_oldSprites hσ9) (fun σ11 hσ11 => fU_fX12_draws_264 hσ11)))) (fun _ => zpc_bi (fU_fX12_old h) (fun σ12 v13 hσ12 => zpc_if (fun _ => fU_fX12_draws_244 hk213 hσ12) (fun _ => fU_fX12_draws_244 hk213 hσ12)))
theorem fU_fX12_draws_213 {σ0 : zSt} : ∀ (n : Nat) (y0 : zSt) (y1 : Int32) (y2 : Int32) (y3 : Int32), (zQ [3, 5, 6, 7, 8, 9, 21, 22, 23, 24, 25, 26] [(0, 0, 0), (0, 31, 33)] [4, 10, 11] [(0, 30, 30)]) σ0 y0 → zpc (fX12_draws_213 n y0 y1 y2 y3) (fun r => (zQ [3, 5, 6, 7, 8, 9, 21, 22, 23, 24, 25, 26] [(0, 0, 0), (0, 31, 33)] [4, 10, 11] [(0, 30, 30)]) σ0 (r)) := by
  intro n
  induction n with
  | zero => intro y0 y1 y2 y3 h; exact zpc_none
  | succ n ih => intro y0 y1 y2 y3 h; exact fU_fX12_draws_213_body ih h
theorem fU_fX12_draws_200 {σ0 : zSt} {σ : zSt} {x1 : Int32} {x2 : Int32} (h : (zQ [3, 5, 6, 7, 8, 9, 21, 22, 23, 24, 25, 26] [(0, 0, 0), (0, 31, 33)] [4, 10, 11] [(0, 30, 30)]) σ0 σ) : zpc (fX12_draws_200 σ x1 x2) (fun r => (zQ [3, 5, 6, 7, 8, 9, 21, 22, 23, 24, 25, 26] [(0, 0, 0), (0, 31, 33)] [4, 10, 11] [(0, 30, 30)]) σ0 (r)) := by
  unfold fX12_draws_200
  exact zpc_bi (fU_fX12_bit h) (fun σ14 v15 hσ14 => zpc_if (fun _ => fU_fX12_draws_213 _ _ _ _ _ hσ14) (fun _ => fU_fX12_draws_300 hσ14))
theorem fU_fX12_draws_160 {σ0 : zSt} {k123 : zSt → Int32 → Int32 → Int32 → Option (zSt)} (hk123 : ∀ (y0 : zSt) (y1 : Int32) (y2 : Int32) (y3 : Int32), (zQ [3, 5, 6, 7, 8, 9, 21, 22, 23, 24, 25, 26] [(0, 0, 0), (0, 31, 33)] [4, 10, 11] [(0, 30, 30)]) σ0 y0 → zpc (k123 y0 y1 y2 y3) (fun r => (zQ [3, 5, 6, 7, 8, 9, 21, 22, 23, 24, 25, 26] [(0, 0, 0), (0, 31, 33)] [4, 10, 11] [(0, 30, 30)]) σ0 (r))) {σ : zSt} {x1 : Int32} {x2 : Int32} {x3 : Int32} (h : (zQ [3, 5, 6, 7, 8, 9, 21, 22, 23, 24, 25, 26] [(0, 0, 0), (0, 31, 33)] [4, 10, 11] [(0, 30, 30)]) σ0 σ) : zpc (fX12_draws_160 k123 σ x1 x2 x3) (fun r => (zQ [3, 5, 6, 7, 8, 9, 21, 22, 23, 24, 25, 26] [(0, 0, 0), (0, 31, 33)] [4, 10, 11] [(0, 30, 30)]) σ0 (r)) := by
  unfold fX12_draws_160
  exact zpc_bv (fun v16 _ => hk123 _ _ _ _ h)
theorem fU_fX12_draws_197 {σ0 : zSt} {σ : zSt} {x1 : Int32} (h : (zQ [3, 5, 6, 7, 8, 9, 21, 22, 23, 24, 25, 26] [(0, 0, 0), (0, 31, 33)] [4, 10, 11] [(0, 30, 30)]) σ0 σ) : zpc (fX12_draws_197 σ x1) (fun r => (zQ [3, 5, 6, 7, 8, 9, 21, 22, 23, 24, 25, 26] [(0, 0, 0), (0, 31, 33)] [4, 10, 11] [(0, 30, 30)]) σ0 (r)) := by
  unfold fX12_draws_197
  exact fU_fX12_draws_300 h
theorem fU_fX12_draws_168_body {σ0 : zSt} {k168 : zSt → Int32 → Int32 → Int32 → Option (zSt)} (hk168 : ∀ (y0 : zSt) (y1 : Int32) (y2 : Int32) (y3 : Int32), (zQ [3, 5, 6, 7, 8, 9, 21, 22, 23, 24, 25, 26] [(0, 0, 0), (0, 31, 33)] [4, 10, 11] [(0, 30, 30)]) σ0 y0 → zpc (k168 y0 y1 y2 y3) (fun r => (zQ [3, 5, 6, 7, 8, 9, 21, 22, 23, 24, 25, 26] [(0, 0, 0), (0, 31, 33)] [4, 10, 11] [(0, 30, 30)]) σ0 (r))) {σ : zSt} {x1 : Int32} {x2 : Int32} {x3 : Int32} (h : (zQ [3, 5, 6, 7, 8, 9, 21, 22, 23, 24, 25, 26] [(0, 0, 0), (0, 31, 33)] [4, 10, 11] [(0, 30, 30)]) σ0 σ) : zpc (fX12_draws_168_body k168 σ x1 x2 x3) (fun r => (zQ [3, 5, 6, 7, 8, 9, 21, 22, 23, 24, 25, 26] [(0, 0, 0), (0, 31, 33)] [4, 10, 11] [(0, 30, 30)]) σ0 (r)) := by
  unfold fX12_draws_168_body
  exact zpc_if (fun _ => fU_fX12_draws_197 h) (fun _ => zpc_bi (fU_fX12_bit h) (fun σ17 v18 hσ17 => zpc_if (fun _ => zpc_ck (zpc_bs (zQ.wi hσ17 rfl) (fun σ19 hσ19 => zpc_bv (fun v20 _ => hk168 _ _ _ _ hσ19)))) (fun _ => fU_fX12_draws_197 hσ17)))
theorem fU_fX12_draws_168 {σ0 : zSt} : ∀ (n : Nat) (y0 : zSt) (y1 : Int32) (y2 : Int32) (y3 : Int32), (zQ [3, 5, 6, 7, 8, 9, 21, 22, 23, 24, 25, 26] [(0, 0, 0), (0, 31, 33)] [4, 10, 11] [(0, 30, 30)]) σ0 y0 → zpc (fX12_draws_168 n y0 y1 y2 y3) (fun r => (zQ [3, 5, 6, 7, 8, 9, 21, 22, 23, 24, 25, 26] [(0, 0, 0), (0, 31, 33)] [4, 10, 11] [(0, 30, 30)]) σ0 (r)) := by
  intro n
  induction n with
  | zero => intro y0 y1 y2 y3 h; exact zpc_none
  | succ n ih => intro y0 y1 y2 y3 h; exact fU_fX12_draws_168_body ih h
theorem fU_fX12_draws_123_body {σ0 : zSt} {k123 : zSt → Int32 → Int32 → Int32 → Option (zSt)} (hk123 : ∀ (y0 : zSt) (y1 : Int32) (y2 : Int32) (y3 : Int32), (zQ [3, 5, 6, 7, 8, 9, 21, 22, 23, 24, 25, 26] [(0, 0, 0), (0, 31, 33)] [4, 10, 11] [(0, 30, 30)]) σ0 y0 → zpc (k123 y0 y1 y2 y3) (fun r => (zQ [3, 5, 6, 7, 8, 9, 21, 22, 23, 24, 25, 26] [(0, 0, 0), (0, 31, 33)] [4, 10, 11] [(0, 30, 30)]) σ0 (r))) {σ : zSt} {x1 : Int32} {x2 : Int32} {x3 : Int32} (h : (zQ [3, 5, 6, 7, 8, 9, 21, 22, 23, 24, 25, 26] [(0, 0, 0), (0, 31, 33)] [4, 10, 11] [(0, 30, 30)]) σ0 σ) : zpc (fX12_draws_123_body k123 σ x1 x2 x3) (fun r => (zQ [3, 5, 6, 7, 8, 9, 21, 22, 23, 24, 25, 26] [(0, 0, 0), (0, 31, 33)] [4, 10, 11] [(0, 30, 30)]) σ0 (r)) := by
  unfold fX12_draws_123_body
  exact zpc_if (fun _ => fU_fX12_draws_168 _ _ _ _ _ h) (fun _ => zpc_ck (zpc_if (fun _ => fU_fX12_draws_160 hk123 h) (fun _ => zpc_ck (zpc_if (fun _ => zpc_ck (zpc_ck (zpc_bs (zQ.wi h rfl) (fun σ21 hσ21 => fU_fX12_draws_160 hk123 hσ21)))) (fun _ => fU_fX12_draws_160 hk123 h)))))
theorem fU_fX12_draws_123 {σ0 : zSt} : ∀ (n : Nat) (y0 : zSt) (y1 : Int32) (y2 : Int32) (y3 : Int32), (zQ [3, 5, 6, 7, 8, 9, 21, 22, 23, 24, 25, 26] [(0, 0, 0), (0, 31, 33)] [4, 10, 11] [(0, 30, 30)]) σ0 y0 → zpc (fX12_draws_123 n y0 y1 y2 y3) (fun r => (zQ [3, 5, 6, 7, 8, 9, 21, 22, 23, 24, 25, 26] [(0, 0, 0), (0, 31, 33)] [4, 10, 11] [(0, 30, 30)]) σ0 (r)) := by
  intro n
  induction n with
  | zero => intro y0 y1 y2 y3 h; exact zpc_none
  | succ n ih => intro y0 y1 y2 y3 h; exact fU_fX12_draws_123_body ih h
theorem fU_fX12_draws_97_body {σ0 : zSt} {k97 : zSt → Int32 → Int32 → Int32 → Option (zSt)} (hk97 : ∀ (y0 : zSt) (y1 : Int32) (y2 : Int32) (y3 : Int32), (zQ [3, 5, 6, 7, 8, 9, 21, 22, 23, 24, 25, 26] [(0, 0, 0), (0, 31, 33)] [4, 10, 11] [(0, 30, 30)]) σ0 y0 → zpc (k97 y0 y1 y2 y3) (fun r => (zQ [3, 5, 6, 7, 8, 9, 21, 22, 23, 24, 25, 26] [(0, 0, 0), (0, 31, 33)] [4, 10, 11] [(0, 30, 30)]) σ0 (r))) {σ : zSt} {x1 : Int32} {x2 : Int32} {x3 : Int32} (h : (zQ [3, 5, 6, 7, 8, 9, 21, 22, 23, 24, 25, 26] [(0, 0, 0), (0, 31, 33)] [4, 10, 11] [(0, 30, 30)]) σ0 σ) : zpc (fX12_draws_97_body k97 σ x1 x2 x3) (fun r => (zQ [3, 5, 6, 7, 8, 9, 21, 22, 23, 24, 25, 26] [(0, 0, 0), (0, 31, 33)] [4, 10, 11] [(0, 30, 30)]) σ0 (r)) := by
  unfold fX12_draws_97_body
  exact zpc_if (fun _ => zpc_bu (fU_fX12_sprites h) (fun σ22 hσ22 => fU_fX12_draws_123 _ _ _ _ _ hσ22)) (fun _ => zpc_bu (fU_fX12_tile h) (fun σ23 hσ23 => zpc_bv (fun v24 _ => hk97 _ _ _ _ hσ23)))
theorem fU_fX12_draws_97 {σ0 : zSt} : ∀ (n : Nat) (y0 : zSt) (y1 : Int32) (y2 : Int32) (y3 : Int32), (zQ [3, 5, 6, 7, 8, 9, 21, 22, 23, 24, 25, 26] [(0, 0, 0), (0, 31, 33)] [4, 10, 11] [(0, 30, 30)]) σ0 y0 → zpc (fX12_draws_97 n y0 y1 y2 y3) (fun r => (zQ [3, 5, 6, 7, 8, 9, 21, 22, 23, 24, 25, 26] [(0, 0, 0), (0, 31, 33)] [4, 10, 11] [(0, 30, 30)]) σ0 (r)) := by
  intro n
  induction n with
  | zero => intro y0 y1 y2 y3 h; exact zpc_none
  | succ n ih => intro y0 y1 y2 y3 h; exact fU_fX12_draws_97_body ih h
theorem fU_fX12_draws_35_body {σ0 : zSt} {k35 : zSt → Int32 → Int32 → Int32 → Option (zSt)} (hk35 : ∀ (y0 : zSt) (y1 : Int32) (y2 : Int32) (y3 : Int32), (zQ [3, 5, 6, 7, 8, 9, 21, 22, 23, 24, 25, 26] [(0, 0, 0), (0, 31, 33)] [4, 10, 11] [(0, 30, 30)]) σ0 y0 → zpc (k35 y0 y1 y2 y3) (fun r => (zQ [3, 5, 6, 7, 8, 9, 21, 22, 23, 24, 25, 26] [(0, 0, 0), (0, 31, 33)] [4, 10, 11] [(0, 30, 30)]) σ0 (r))) {σ : zSt} {x1 : Int32} {x2 : Int32} {x3 : Int32} (h : (zQ [3, 5, 6, 7, 8, 9, 21, 22, 23, 24, 25, 26] [(0, 0, 0), (0, 31, 33)] [4, 10, 11] [(0, 30, 30)]) σ0 σ) : zpc (fX12_draws_35_body k35 σ x1 x2 x3) (fun r => (zQ [3, 5, 6, 7, 8, 9, 21, 22, 23, 24, 25, 26] [(0, 0, 0), (0, 31, 33)] [4, 10, 11] [(0, 30, 30)]) σ0 (r)) := by
  unfold fX12_draws_35_body
  exact zpc_if (fun _ => zpc_bi (fU_fX12_bit h) (fun σ25 v26 hσ25 => zpc_if (fun _ => zpc_bi (fU_fX12_mode hσ25) (fun σ27 v28 hσ27 => zpc_if (fun _ => fU_fX12_draws_97 _ _ _ _ _ hσ27) (fun _ => fU_fX12_draws_200 hσ27))) (fun _ => fU_fX12_draws_200 hσ25))) (fun _ => zpc_ck (zpc_bs (zQ.wi h rfl) (fun σ29 hσ29 => zpc_ck (zpc_bs (zQ.wi hσ29 rfl) (fun σ30 hσ30 => zpc_ck (zpc_bs (zQ.wi hσ30 rfl) (fun σ31 hσ31 => zpc_ck (zpc_bs (zQ.wi hσ31 rfl) (fun σ32 hσ32 => zpc_bv (fun v33 _ => hk35 _ _ _ _ hσ32))))))))))
theorem fU_fX12_draws_35 {σ0 : zSt} : ∀ (n : Nat) (y0 : zSt) (y1 : Int32) (y2 : Int32) (y3 : Int32), (zQ [3, 5, 6, 7, 8, 9, 21, 22, 23, 24, 25, 26] [(0, 0, 0), (0, 31, 33)] [4, 10, 11] [(0, 30, 30)]) σ0 y0 → zpc (fX12_draws_35 n y0 y1 y2 y3) (fun r => (zQ [3, 5, 6, 7, 8, 9, 21, 22, 23, 24, 25, 26] [(0, 0, 0), (0, 31, 33)] [4, 10, 11] [(0, 30, 30)]) σ0 (r)) := by
  intro n
  induction n with
  | zero => intro y0 y1 y2 y3 h; exact zpc_none
  | succ n ih => intro y0 y1 y2 y3 h; exact fU_fX12_draws_35_body ih h
theorem fU_fX12_draws_32 {σ0 : zSt} {σ : zSt} {x1 : Int32} {s0 : Int32} (h : (zQ [3, 5, 6, 7, 8, 9, 21, 22, 23, 24, 25, 26] [(0, 0, 0), (0, 31, 33)] [4, 10, 11] [(0, 30, 30)]) σ0 σ) : zpc (fX12_draws_32 σ x1 s0) (fun r => (zQ [3, 5, 6, 7, 8, 9, 21, 22, 23, 24, 25, 26] [(0, 0, 0), (0, 31, 33)] [4, 10, 11] [(0, 30, 30)]) σ0 (r)) := by
  unfold fX12_draws_32
  exact fU_fX12_draws_35 _ _ _ _ _ h
theorem fU_fX12_draws {σ0 : zSt} {σ : zSt} {x1 : Int32} (h : (zQ [3, 5, 6, 7, 8, 9, 21, 22, 23, 24, 25, 26] [(0, 0, 0), (0, 31, 33)] [4, 10, 11] [(0, 30, 30)]) σ0 σ) : zpc (fX12_draws σ x1) (fun r => (zQ [3, 5, 6, 7, 8, 9, 21, 22, 23, 24, 25, 26] [(0, 0, 0), (0, 31, 33)] [4, 10, 11] [(0, 30, 30)]) σ0 (r)) := by
  unfold fX12_draws
  exact zpc_bi (fU_fX12_mode h) (fun σ34 v35 hσ34 => zpc_if (fun _ => zpc_bi (fU_fX12_reg hσ34) (fun σ38 v39 hσ38 => zpc_ck (fU_fX12_draws_32 hσ38))) (fun _ => zpc_bi (fU_fX12_reg hσ34) (fun σ36 v37 hσ36 => zpc_ck (fU_fX12_draws_32 hσ36))))
theorem fU_fX12_planned_113 {σ0 : zSt} {σ : zSt} (h : (zQ [3, 5, 6, 7, 8, 9, 21, 22, 23, 24, 25, 26] [(0, 0, 0), (0, 31, 33)] [4, 10, 11] [(0, 30, 30)]) σ0 σ) : zpc (fX12_planned_113 σ) (fun r => (zQ [3, 5, 6, 7, 8, 9, 21, 22, 23, 24, 25, 26] [(0, 0, 0), (0, 31, 33)] [4, 10, 11] [(0, 30, 30)]) σ0 (r)) := by
  unfold fX12_planned_113
  exact zpc_some h
theorem fU_fX12_planned_68_body {σ0 : zSt} {k0 : zSt → Option (zSt)} (hk0 : ∀ (y0 : zSt), (zQ [3, 5, 6, 7, 8, 9, 21, 22, 23, 24, 25, 26] [(0, 0, 0), (0, 31, 33)] [4, 10, 11] [(0, 30, 30)]) σ0 y0 → zpc (k0 y0) (fun r => (zQ [3, 5, 6, 7, 8, 9, 21, 22, 23, 24, 25, 26] [(0, 0, 0), (0, 31, 33)] [4, 10, 11] [(0, 30, 30)]) σ0 (r))) {k68 : zSt → Int32 → Option (zSt)} (hk68 : ∀ (y0 : zSt) (y1 : Int32), (zQ [3, 5, 6, 7, 8, 9, 21, 22, 23, 24, 25, 26] [(0, 0, 0), (0, 31, 33)] [4, 10, 11] [(0, 30, 30)]) σ0 y0 → zpc (k68 y0 y1) (fun r => (zQ [3, 5, 6, 7, 8, 9, 21, 22, 23, 24, 25, 26] [(0, 0, 0), (0, 31, 33)] [4, 10, 11] [(0, 30, 30)]) σ0 (r))) {σ : zSt} {x1 : Int32} (h : (zQ [3, 5, 6, 7, 8, 9, 21, 22, 23, 24, 25, 26] [(0, 0, 0), (0, 31, 33)] [4, 10, 11] [(0, 30, 30)]) σ0 σ) : zpc (fX12_planned_68_body k0 k68 σ x1) (fun r => (zQ [3, 5, 6, 7, 8, 9, 21, 22, 23, 24, 25, 26] [(0, 0, 0), (0, 31, 33)] [4, 10, 11] [(0, 30, 30)]) σ0 (r)) := by
  unfold fX12_planned_68_body
  exact zpc_ck (zpc_if (fun _ => hk0 _ h) (fun _ => zpc_ck (zpc_ck (zpc_bs (zQ.wi h rfl) (fun σ1 hσ1 => zpc_bv (fun v2 _ => hk68 _ _ hσ1))))))
theorem fU_fX12_planned_68 {σ0 : zSt} {k0 : zSt → Option (zSt)} (hk0 : ∀ (y0 : zSt), (zQ [3, 5, 6, 7, 8, 9, 21, 22, 23, 24, 25, 26] [(0, 0, 0), (0, 31, 33)] [4, 10, 11] [(0, 30, 30)]) σ0 y0 → zpc (k0 y0) (fun r => (zQ [3, 5, 6, 7, 8, 9, 21, 22, 23, 24, 25, 26] [(0, 0, 0), (0, 31, 33)] [4, 10, 11] [(0, 30, 30)]) σ0 (r))) : ∀ (n : Nat) (y0 : zSt) (y1 : Int32), (zQ [3, 5, 6, 7, 8, 9, 21, 22, 23, 24, 25, 26] [(0, 0, 0), (0, 31, 33)] [4, 10, 11] [(0, 30, 30)]) σ0 y0 → zpc (fX12_planned_68 k0 n y0 y1) (fun r => (zQ [3, 5, 6, 7, 8, 9, 21, 22, 23, 24, 25, 26] [(0, 0, 0), (0, 31, 33)] [4, 10, 11] [(0, 30, 30)]) σ0 (r)) := by
  intro n
  induction n with
  | zero => intro y0 y1 h; exact zpc_none
  | succ n ih => intro y0 y1 h; exact fU_fX12_planned_68_body hk0 ih h
theorem fU_fX12_planned_0_body {σ0 : zSt} {k0 : zSt → Option (zSt)} (hk0 : ∀ (y0 : zSt), (zQ [3, 5, 6, 7, 8, 9, 21, 22, 23, 24, 25, 26] [(0, 0, 0), (0, 31, 33)] [4, 10, 11] [(0, 30, 30)]) σ0 y0 → zpc (k0 y0) (fun r => (zQ [3, 5, 6, 7, 8, 9, 21, 22, 23, 24, 25, 26] [(0, 0, 0), (0, 31, 33)] [4, 10, 11] [(0, 30, 30)]) σ0 (r))) {σ : zSt} (h : (zQ [3, 5, 6, 7, 8, 9, 21, 22, 23, 24, 25, 26] [(0, 0, 0), (0, 31, 33)] [4, 10, 11] [(0, 30, 30)]) σ0 σ) : zpc (fX12_planned_0_body k0 σ) (fun r => (zQ [3, 5, 6, 7, 8, 9, 21, 22, 23, 24, 25, 26] [(0, 0, 0), (0, 31, 33)] [4, 10, 11] [(0, 30, 30)]) σ0 (r)) := by
  unfold fX12_planned_0_body
  exact zpc_ck (zpc_if (fun _ => fU_fX12_planned_113 h) (fun _ => zpc_ck (zpc_ck (zpc_if (fun _ => fU_fX12_planned_113 h) (fun _ => zpc_ck (zpc_ck (zpc_ck (zpc_bs (zQ.wi h rfl) (fun σ3 hσ3 => zpc_ck (zpc_ck (zpc_bs (zQ.wi hσ3 rfl) (fun σ4 hσ4 => fU_fX12_planned_68 hk0 _ _ _ hσ4))))))))))))
theorem fU_fX12_planned_0 {σ0 : zSt} : ∀ (n : Nat) (y0 : zSt), (zQ [3, 5, 6, 7, 8, 9, 21, 22, 23, 24, 25, 26] [(0, 0, 0), (0, 31, 33)] [4, 10, 11] [(0, 30, 30)]) σ0 y0 → zpc (fX12_planned_0 n y0) (fun r => (zQ [3, 5, 6, 7, 8, 9, 21, 22, 23, 24, 25, 26] [(0, 0, 0), (0, 31, 33)] [4, 10, 11] [(0, 30, 30)]) σ0 (r)) := by
  intro n
  induction n with
  | zero => intro y0 h; exact zpc_none
  | succ n ih => intro y0 h; exact fU_fX12_planned_0_body ih h
theorem fU_fX12_planned {σ0 : zSt} {σ : zSt} (h : (zQ [3, 5, 6, 7, 8, 9, 21, 22, 23, 24, 25, 26] [(0, 0, 0), (0, 31, 33)] [4, 10, 11] [(0, 30, 30)]) σ0 σ) : zpc (fX12_planned σ) (fun r => (zQ [3, 5, 6, 7, 8, 9, 21, 22, 23, 24, 25, 26] [(0, 0, 0), (0, 31, 33)] [4, 10, 11] [(0, 30, 30)]) σ0 (r)) := by
  unfold fX12_planned
  exact fU_fX12_planned_0 _ _ h
theorem fU_fX12_ends_195 {σ0 : zSt} {σ : zSt} (h : (zQ [3, 5, 6, 7, 8, 9, 21, 22, 23, 24, 25, 26] [(0, 0, 0), (0, 31, 33)] [4, 10, 11] [(0, 30, 30)]) σ0 σ) : zpc (fX12_ends_195 σ) (fun r => (zQ [3, 5, 6, 7, 8, 9, 21, 22, 23, 24, 25, 26] [(0, 0, 0), (0, 31, 33)] [4, 10, 11] [(0, 30, 30)]) σ0 (r)) := by
  unfold fX12_ends_195
  exact zpc_some h
theorem fU_fX12_ends_169 {σ0 : zSt} {σ : zSt} {x1 : Int32} (h : (zQ [3, 5, 6, 7, 8, 9, 21, 22, 23, 24, 25, 26] [(0, 0, 0), (0, 31, 33)] [4, 10, 11] [(0, 30, 30)]) σ0 σ) : zpc (fX12_ends_169 σ x1) (fun r => (zQ [3, 5, 6, 7, 8, 9, 21, 22, 23, 24, 25, 26] [(0, 0, 0), (0, 31, 33)] [4, 10, 11] [(0, 30, 30)]) σ0 (r)) := by
  unfold fX12_ends_169
  exact zpc_ck (zpc_if (fun _ => zpc_ck (zpc_ck (zpc_bs (zQ.wi h rfl) (fun σ1 hσ1 => fU_fX12_ends_195 hσ1)))) (fun _ => fU_fX12_ends_195 h))
theorem fU_fX12_ends_131 {σ0 : zSt} {σ : zSt} {x1 : Int32} {s0 : Int32} {s1 : Int32} (h : (zQ [3, 5, 6, 7, 8, 9, 21, 22, 23, 24, 25, 26] [(0, 0, 0), (0, 31, 33)] [4, 10, 11] [(0, 30, 30)]) σ0 σ) : zpc (fX12_ends_131 σ x1 s0 s1) (fun r => (zQ [3, 5, 6, 7, 8, 9, 21, 22, 23, 24, 25, 26] [(0, 0, 0), (0, 31, 33)] [4, 10, 11] [(0, 30, 30)]) σ0 (r)) := by
  unfold fX12_ends_131
  exact zpc_if (fun _ => zpc_ck (zpc_bs (zQ.wi h rfl) (fun σ2 hσ2 => zpc_bi (fU_fX12_reg hσ2) (fun σ3 v4 hσ3 => zpc_ck (zpc_bs (zQ.wi hσ3 rfl) (fun σ5 hσ5 => zpc_ck (zpc_ck (zpc_bs (zQ.wl hσ5 rfl) (fun σ6 hσ6 => zpc_bu (fU_fX12_planned hσ6) (fun σ7 hσ7 => fU_fX12_ends_169 hσ7)))))))))) (fun _ => fU_fX12_ends_169 h)
theorem fU_fX12_ends_96 {σ0 : zSt} {σ : zSt} {x1 : Int32} (h : (zQ [3, 5, 6, 7, 8, 9, 21, 22, 23, 24, 25, 26] [(0, 0, 0), (0, 31, 33)] [4, 10, 11] [(0, 30, 30)]) σ0 σ) : zpc (fX12_ends_96 σ x1) (fun r => (zQ [3, 5, 6, 7, 8, 9, 21, 22, 23, 24, 25, 26] [(0, 0, 0), (0, 31, 33)] [4, 10, 11] [(0, 30, 30)]) σ0 (r)) := by
  unfold fX12_ends_96
  exact zpc_ck (zpc_ck (zpc_bs (zQ.wi h rfl) (fun σ8 hσ8 => zpc_ck (zpc_if (fun _ => fU_fX12_ends_131 hσ8) (fun _ => fU_fX12_ends_131 hσ8)))))
theorem fU_fX12_ends_27 {σ0 : zSt} {σ : zSt} {x1 : Int32} (h : (zQ [3, 5, 6, 7, 8, 9, 21, 22, 23, 24, 25, 26] [(0, 0, 0), (0, 31, 33)] [4, 10, 11] [(0, 30, 30)]) σ0 σ) : zpc (fX12_ends_27 σ x1) (fun r => (zQ [3, 5, 6, 7, 8, 9, 21, 22, 23, 24, 25, 26] [(0, 0, 0), (0, 31, 33)] [4, 10, 11] [(0, 30, 30)]) σ0 (r)) := by
  unfold fX12_ends_27
  exact zpc_ck (zpc_if (fun _ => zpc_bi (fU_fX12_reg h) (fun σ9 v10 hσ9 => zpc_ck (zpc_bs (zQ.wi hσ9 rfl) (fun σ11 hσ11 => fU_fX12_ends_96 hσ11)))) (fun _ => zpc_ck (zpc_ck (zpc_bs (zQ.wi h rfl) (fun σ12 hσ12 => zpc_ck (zpc_if (fun _ => fU_fX12_ends_96 hσ12) (fun _ => zpc_bi (fU_fX12_reg hσ12) (fun σ13 v14 hσ13 => zpc_ck (zpc_bs (zQ.wi hσ13 rfl) (fun σ15 hσ15 => zpc_ck (zpc_bs (zQ.wi hσ15 rfl) (fun σ16 hσ16 => fU_fX12_ends_96 hσ16))))))))))))
theorem fU_fX12_ends {σ0 : zSt} {σ : zSt} (h : (zQ [3, 5, 6, 7, 8, 9, 21, 22, 23, 24, 25, 26] [(0, 0, 0), (0, 31, 33)] [4, 10, 11] [(0, 30, 30)]) σ0 σ) : zpc (fX12_ends σ) (fun r => (zQ [3, 5, 6, 7, 8, 9, 21, 22, 23, 24, 25, 26] [(0, 0, 0), (0, 31, 33)] [4, 10, 11] [(0, 30, 30)]) σ0 (r)) := by
  unfold fX12_ends
  exact zpc_bi (fU_fX12_height h) (fun σ17 v18 hσ17 => zpc_ck (zpc_if (fun _ => fU_fX12_ends_27 hσ17) (fun _ => zpc_ck (zpc_bu (fU_fX12_draws hσ17) (fun σ19 hσ19 => fU_fX12_ends_27 hσ19)))))
theorem fU_fX12_loudness {σ0 : zSt} {σ : zSt} {x0 : Int32} (h : (zQ [3, 5, 6, 7, 8, 9, 21, 22, 23, 24, 25, 26] [(0, 0, 0), (0, 31, 33)] [4, 10, 11] [(0, 30, 30)]) σ0 σ) : zpc (fX12_loudness σ x0) (fun r => (zQ [3, 5, 6, 7, 8, 9, 21, 22, 23, 24, 25, 26] [(0, 0, 0), (0, 31, 33)] [4, 10, 11] [(0, 30, 30)]) σ0 (r.1)) := by
  unfold fX12_loudness
  exact zpc_if (fun _ => zpc_some h) (fun _ => zpc_if (fun _ => zpc_some h) (fun _ => zpc_if (fun _ => zpc_some h) (fun _ => zpc_if (fun _ => zpc_some h) (fun _ => zpc_if (fun _ => zpc_some h) (fun _ => zpc_if (fun _ => zpc_some h) (fun _ => zpc_if (fun _ => zpc_some h) (fun _ => zpc_if (fun _ => zpc_some h) (fun _ => zpc_if (fun _ => zpc_some h) (fun _ => zpc_if (fun _ => zpc_some h) (fun _ => zpc_if (fun _ => zpc_some h) (fun _ => zpc_if (fun _ => zpc_some h) (fun _ => zpc_if (fun _ => zpc_some h) (fun _ => zpc_if (fun _ => zpc_some h) (fun _ => zpc_if (fun _ => zpc_some h) (fun _ => zpc_some h)))))))))))))))
theorem fU_fX12_sample_102 {σ0 : zSt} {k2 : zSt → Int32 → Option (zSt)} (hk2 : ∀ (y0 : zSt) (y1 : Int32), (zQ [3, 5, 6, 7, 8, 9, 21, 22, 23, 24, 25, 26] [(0, 0, 0), (0, 31, 33)] [4, 10, 11] [(0, 30, 30)]) σ0 y0 → zr 0 3 y1 → zpc (k2 y0 y1) (fun r => (zQ [3, 5, 6, 7, 8, 9, 21, 22, 23, 24, 25, 26] [(0, 0, 0), (0, 31, 33)] [4, 10, 11] [(0, 30, 30)]) σ0 (r))) {σ : zSt} {x1 : Int32} (h : (zQ [3, 5, 6, 7, 8, 9, 21, 22, 23, 24, 25, 26] [(0, 0, 0), (0, 31, 33)] [4, 10, 11] [(0, 30, 30)]) σ0 σ) (qx1 : zr 0 2 x1) : zpc (fX12_sample_102 k2 σ x1) (fun r => (zQ [3, 5, 6, 7, 8, 9, 21, 22, 23, 24, 25, 26] [(0, 0, 0), (0, 31, 33)] [4, 10, 11] [(0, 30, 30)]) σ0 (r)) := by
  unfold fX12_sample_102
  exact zpc_bv (fun v1 ev1 => hk2 _ _ h (zr_w (show zr 1 3 v1 by rw [ev1]; exact (zr_add (lo := 1) (hi := 3) qx1 (zr_c (x := 1) (lo := 1) (hi := 1) (by decide)) (by decide))) (by decide)))
theorem fU_fX12_sample_101 {σ0 : zSt} {k2 : zSt → Int32 → Option (zSt)} (hk2 : ∀ (y0 : zSt) (y1 : Int32), (zQ [3, 5, 6, 7, 8, 9, 21, 22, 23, 24, 25, 26] [(0, 0, 0), (0, 31, 33)] [4, 10, 11] [(0, 30, 30)]) σ0 y0 → zr 0 3 y1 → zpc (k2 y0 y1) (fun r => (zQ [3, 5, 6, 7, 8, 9, 21, 22, 23, 24, 25, 26] [(0, 0, 0), (0, 31, 33)] [4, 10, 11] [(0, 30, 30)]) σ0 (r))) {σ : zSt} {x1 : Int32} {s0 : Int32} {s1 : Int32} (h : (zQ [3, 5, 6, 7, 8, 9, 21, 22, 23, 24, 25, 26] [(0, 0, 0), (0, 31, 33)] [4, 10, 11] [(0, 30, 30)]) σ0 σ) (qx1 : zr 0 2 x1) (qs1 : zr 69 86 s1) : zpc (fX12_sample_101 k2 σ x1 s0 s1) (fun r => (zQ [3, 5, 6, 7, 8, 9, 21, 22, 23, 24, 25, 26] [(0, 0, 0), (0, 31, 33)] [4, 10, 11] [(0, 30, 30)]) σ0 (r)) := by
  unfold fX12_sample_101
  exact zpc_ck (zpc_bs (zQ.wi h rfl) (fun σ2 hσ2 => fU_fX12_sample_102 hk2 hσ2 qx1))
theorem fU_fX12_sample_32 {σ0 : zSt} {k2 : zSt → Int32 → Option (zSt)} (hk2 : ∀ (y0 : zSt) (y1 : Int32), (zQ [3, 5, 6, 7, 8, 9, 21, 22, 23, 24, 25, 26] [(0, 0, 0), (0, 31, 33)] [4, 10, 11] [(0, 30, 30)]) σ0 y0 → zr 0 3 y1 → zpc (k2 y0 y1) (fun r => (zQ [3, 5, 6, 7, 8, 9, 21, 22, 23, 24, 25, 26] [(0, 0, 0), (0, 31, 33)] [4, 10, 11] [(0, 30, 30)]) σ0 (r))) {σ : zSt} {x1 : Int32} (h : (zQ [3, 5, 6, 7, 8, 9, 21, 22, 23, 24, 25, 26] [(0, 0, 0), (0, 31, 33)] [4, 10, 11] [(0, 30, 30)]) σ0 σ) (qx1 : zr 0 2 x1) : zpc (fX12_sample_32 k2 σ x1) (fun r => (zQ [3, 5, 6, 7, 8, 9, 21, 22, 23, 24, 25, 26] [(0, 0, 0), (0, 31, 33)] [4, 10, 11] [(0, 30, 30)]) σ0 (r)) := by
  unfold fX12_sample_32
  exact zpc_ck (zpc_if (fun _ => zpc_ck (zpc_ck (zpc_bs (zQ.wi h rfl) (fun σ3 hσ3 => zpc_ck (zpc_if (fun _ => zpc_ck (fU_fX12_sample_101 hk2 hσ3 qx1 (zr_w (zr_add (lo := 75) (hi := 77) (zr_c (x := 75) (lo := 75) (hi := 75) (by decide)) qx1 (by decide)) (by decide)))) (fun _ => fU_fX12_sample_101 hk2 hσ3 qx1 (zr_w (zr_add (lo := 75) (hi := 77) (zr_c (x := 75) (lo := 75) (hi := 75) (by decide)) qx1 (by decide)) (by decide)))))))) (fun _ => fU_fX12_sample_102 hk2 h qx1))
theorem fU_fX12_sample_407 {σ0 : zSt} {k275 : zSt → Int64 → Int64 → Int32 → Option (zSt)} (hk275 : ∀ (y0 : zSt) (y1 : Int64) (y2 : Int64) (y3 : Int32), (zQ [3, 5, 6, 7, 8, 9, 21, 22, 23, 24, 25, 26] [(0, 0, 0), (0, 31, 33)] [4, 10, 11] [(0, 30, 30)]) σ0 y0 → zpc (k275 y0 y1 y2 y3) (fun r => (zQ [3, 5, 6, 7, 8, 9, 21, 22, 23, 24, 25, 26] [(0, 0, 0), (0, 31, 33)] [4, 10, 11] [(0, 30, 30)]) σ0 (r))) {σ : zSt} {x1 : Int64} {x3 : Int64} {x5 : Int32} (h : (zQ [3, 5, 6, 7, 8, 9, 21, 22, 23, 24, 25, 26] [(0, 0, 0), (0, 31, 33)] [4, 10, 11] [(0, 30, 30)]) σ0 σ) : zpc (fX12_sample_407 k275 σ x1 x3 x5) (fun r => (zQ [3, 5, 6, 7, 8, 9, 21, 22, 23, 24, 25, 26] [(0, 0, 0), (0, 31, 33)] [4, 10, 11] [(0, 30, 30)]) σ0 (r)) := by
  unfold fX12_sample_407
  exact zpc_bv (fun v4 _ => hk275 _ _ _ _ h)
theorem fU_fX12_sample_369 {σ0 : zSt} {k275 : zSt → Int64 → Int64 → Int32 → Option (zSt)} (hk275 : ∀ (y0 : zSt) (y1 : Int64) (y2 : Int64) (y3 : Int32), (zQ [3, 5, 6, 7, 8, 9, 21, 22, 23, 24, 25, 26] [(0, 0, 0), (0, 31, 33)] [4, 10, 11] [(0, 30, 30)]) σ0 y0 → zpc (k275 y0 y1 y2 y3) (fun r => (zQ [3, 5, 6, 7, 8, 9, 21, 22, 23, 24, 25, 26] [(0, 0, 0), (0, 31, 33)] [4, 10, 11] [(0, 30, 30)]) σ0 (r))) {σ : zSt} {x1 : Int64} {x3 : Int64} {x5 : Int32} {x6 : Int32} (h : (zQ [3, 5, 6, 7, 8, 9, 21, 22, 23, 24, 25, 26] [(0, 0, 0), (0, 31, 33)] [4, 10, 11] [(0, 30, 30)]) σ0 σ) : zpc (fX12_sample_369 k275 σ x1 x3 x5 x6) (fun r => (zQ [3, 5, 6, 7, 8, 9, 21, 22, 23, 24, 25, 26] [(0, 0, 0), (0, 31, 33)] [4, 10, 11] [(0, 30, 30)]) σ0 (r)) := by
  unfold fX12_sample_369
  exact zpc_if (fun _ => fU_fX12_sample_407 hk275 h) (fun _ => zpc_ck (zpc_if (fun _ => zpc_ck (zpc_bi (fU_fX12_loudness h) (fun σ5 v6 hσ5 => zpc_bv (fun v7 _ => fU_fX12_sample_407 hk275 hσ5)))) (fun _ => fU_fX12_sample_407 hk275 h)))
theorem fU_fX12_sample_327 {σ0 : zSt} {k275 : zSt → Int64 → Int64 → Int32 → Option (zSt)} (hk275 : ∀ (y0 : zSt) (y1 : Int64) (y2 : Int64) (y3 : Int32), (zQ [3, 5, 6, 7, 8, 9, 21, 22, 23, 24, 25, 26] [(0, 0, 0), (0, 31, 33)] [4, 10, 11] [(0, 30, 30)]) σ0 y0 → zpc (k275 y0 y1 y2 y3) (fun r => (zQ [3, 5, 6, 7, 8, 9, 21, 22, 23, 24, 25, 26] [(0, 0, 0), (0, 31, 33)] [4, 10, 11] [(0, 30, 30)]) σ0 (r))) {σ : zSt} {x1 : Int64} {x3 : Int64} {x5 : Int32} {s0 : Int32} (h : (zQ [3, 5, 6, 7, 8, 9, 21, 22, 23, 24, 25, 26] [(0, 0, 0), (0, 31, 33)] [4, 10, 11] [(0, 30, 30)]) σ0 σ) : zpc (fX12_sample_327 k275 σ x1 x3 x5 s0) (fun r => (zQ [3, 5, 6, 7, 8, 9, 21, 22, 23, 24, 25, 26] [(0, 0, 0), (0, 31, 33)] [4, 10, 11] [(0, 30, 30)]) σ0 (r)) := by
  unfold fX12_sample_327
  exact zpc_if (fun _ => fU_fX12_sample_369 hk275 h) (fun _ => zpc_ck (zpc_if (fun _ => zpc_ck (zpc_bi (fU_fX12_loudness h) (fun σ8 v9 hσ8 => zpc_bv (fun v10 _ => fU_fX12_sample_369 hk275 hσ8)))) (fun _ => fU_fX12_sample_369 hk275 h)))
theorem fU_fX12_sample_508 {σ0 : zSt} {σ : zSt} {x1 : Int64} {x3 : Int64} (h : (zQ [3, 5, 6, 7, 8, 9, 21, 22, 23, 24, 25, 26] [(0, 0, 0), (0, 31, 33)] [4, 10, 11] [(0, 30, 30)]) σ0 σ) : zpc (fX12_sample_508 σ x1 x3) (fun r => (zQ [3, 5, 6, 7, 8, 9, 21, 22, 23, 24, 25, 26] [(0, 0, 0), (0, 31, 33)] [4, 10, 11] [(0, 30, 30)]) σ0 (r)) := by
  unfold fX12_sample_508
  exact zpc_ck (zpc_ck (zpc_ck (zpc_ck (zpc_bs (zQ.wl h rfl) (fun σ11 hσ11 => zpc_some hσ11)))))
theorem fU_fX12_sample_275_body {σ0 : zSt} {k275 : zSt → Int64 → Int64 → Int32 → Option (zSt)} (hk275 : ∀ (y0 : zSt) (y1 : Int64) (y2 : Int64) (y3 : Int32), (zQ [3, 5, 6, 7, 8, 9, 21, 22, 23, 24, 25, 26] [(0, 0, 0), (0, 31, 33)] [4, 10, 11] [(0, 30, 30)]) σ0 y0 → zpc (k275 y0 y1 y2 y3) (fun r => (zQ [3, 5, 6, 7, 8, 9, 21, 22, 23, 24, 25, 26] [(0, 0, 0), (0, 31, 33)] [4, 10, 11] [(0, 30, 30)]) σ0 (r))) {σ : zSt} {x1 : Int64} {x3 : Int64} {x5 : Int32} (h : (zQ [3, 5, 6, 7, 8, 9, 21, 22, 23, 24, 25, 26] [(0, 0, 0), (0, 31, 33)] [4, 10, 11] [(0, 30, 30)]) σ0 σ) : zpc (fX12_sample_275_body k275 σ x1 x3 x5) (fun r => (zQ [3, 5, 6, 7, 8, 9, 21, 22, 23, 24, 25, 26] [(0, 0, 0), (0, 31, 33)] [4, 10, 11] [(0, 30, 30)]) σ0 (r)) := by
  unfold fX12_sample_275_body
  exact zpc_if (fun _ => zpc_ck (zpc_ck (zpc_bs (zQ.wl h rfl) (fun σ12 hσ12 => zpc_ck (zpc_ck (zpc_bs (zQ.wi hσ12 rfl) (fun σ13 hσ13 => zpc_ck (zpc_ck (zpc_bs (zQ.wi hσ13 rfl) (fun σ14 hσ14 => zpc_ck (zpc_ck (zpc_bs (zQ.wi hσ14 rfl) (fun σ15 hσ15 => zpc_ck (zpc_if (fun _ => zpc_ck (zpc_ck (zpc_ck (zpc_bs (zQ.wi hσ15 rfl) (fun σ17 hσ17 => fU_fX12_sample_508 hσ17))))) (fun _ => zpc_ck (zpc_ck (zpc_bs (zQ.wi hσ15 rfl) (fun σ16 hσ16 => fU_fX12_sample_508 hσ16)))))))))))))))))) (fun _ => zpc_if (fun _ => zpc_ck (zpc_if (fun _ => fU_fX12_sample_327 hk275 h) (fun _ => fU_fX12_sample_327 hk275 h))) (fun _ => zpc_ck (zpc_if (fun _ => fU_fX12_sample_327 hk275 h) (fun _ => fU_fX12_sample_327 hk275 h))))
theorem fU_fX12_sample_275 {σ0 : zSt} : ∀ (n : Nat) (y0 : zSt) (y1 : Int64) (y2 : Int64) (y3 : Int32), (zQ [3, 5, 6, 7, 8, 9, 21, 22, 23, 24, 25, 26] [(0, 0, 0), (0, 31, 33)] [4, 10, 11] [(0, 30, 30)]) σ0 y0 → zpc (fX12_sample_275 n y0 y1 y2 y3) (fun r => (zQ [3, 5, 6, 7, 8, 9, 21, 22, 23, 24, 25, 26] [(0, 0, 0), (0, 31, 33)] [4, 10, 11] [(0, 30, 30)]) σ0 (r)) := by
  intro n
  induction n with
  | zero => intro y0 y1 y2 y3 h; exact zpc_none
  | succ n ih => intro y0 y1 y2 y3 h; exact fU_fX12_sample_275_body ih h
theorem fU_fX12_sample_268 {σ0 : zSt} {σ : zSt} (h : (zQ [3, 5, 6, 7, 8, 9, 21, 22, 23, 24, 25, 26] [(0, 0, 0), (0, 31, 33)] [4, 10, 11] [(0, 30, 30)]) σ0 σ) : zpc (fX12_sample_268 σ) (fun r => (zQ [3, 5, 6, 7, 8, 9, 21, 22, 23, 24, 25, 26] [(0, 0, 0), (0, 31, 33)] [4, 10, 11] [(0, 30, 30)]) σ0 (r)) := by
  unfold fX12_sample_268
  exact fU_fX12_sample_275 _ _ _ _ _ h
theorem fU_fX12_sample_246 {σ0 : zSt} {σ : zSt} {s0 : Int32} (h : (zQ [3, 5, 6, 7, 8, 9, 21, 22, 23, 24, 25, 26] [(0, 0, 0), (0, 31, 33)] [4, 10, 11] [(0, 30, 30)]) σ0 σ) : zpc (fX12_sample_246 σ s0) (fun r => (zQ [3, 5, 6, 7, 8, 9, 21, 22, 23, 24, 25, 26] [(0, 0, 0), (0, 31, 33)] [4, 10, 11] [(0, 30, 30)]) σ0 (r)) := by
  unfold fX12_sample_246
  exact zpc_ck (zpc_ck (zpc_bs (zQ.wi h rfl) (fun σ18 hσ18 => fU_fX12_sample_268 hσ18)))
theorem fU_fX12_sample_174 {σ0 : zSt} {σ : zSt} {s0 : Int32} {s1 : Int32} (h : (zQ [3, 5, 6, 7, 8, 9, 21, 22, 23, 24, 25, 26] [(0, 0, 0), (0, 31, 33)] [4, 10, 11] [(0, 30, 30)]) σ0 σ) (qs1 : zr 69 86 s1) : zpc (fX12_sample_174 σ s0 s1) (fun r => (zQ [3, 5, 6, 7, 8, 9, 21, 22, 23, 24, 25, 26] [(0, 0, 0), (0, 31, 33)] [4, 10, 11] [(0, 30, 30)]) σ0 (r)) := by
  unfold fX12_sample_174
  exact zpc_ck (zpc_bs (zQ.wi h rfl) (fun σ19 hσ19 => zpc_ck (zpc_ck (zpc_bs (zQ.wi hσ19 rfl) (fun σ20 hσ20 => zpc_ck (zpc_if (fun _ => zpc_ck (zpc_if (fun _ => zpc_ck (zpc_ck (fU_fX12_sample_246 hσ20))) (fun _ => zpc_ck (fU_fX12_sample_246 hσ20)))) (fun _ => fU_fX12_sample_268 hσ20)))))))
theorem fU_fX12_sample_129 {σ0 : zSt} {σ : zSt} (h : (zQ [3, 5, 6, 7, 8, 9, 21, 22, 23, 24, 25, 26] [(0, 0, 0), (0, 31, 33)] [4, 10, 11] [(0, 30, 30)]) σ0 σ) : zpc (fX12_sample_129 σ) (fun r => (zQ [3, 5, 6, 7, 8, 9, 21, 22, 23, 24, 25, 26] [(0, 0, 0), (0, 31, 33)] [4, 10, 11] [(0, 30, 30)]) σ0 (r)) := by
  unfold fX12_sample_129
  exact zpc_ck (zpc_if (fun _ => zpc_ck (zpc_ck (zpc_bv (fun v21 _ => zpc_if (fun _ => zpc_ck (fU_fX12_sample_174 h (zr_w (zr_c (x := 83) (lo := 83) (hi := 83) (by decide)) (by decide)))) (fun _ => fU_fX12_sample_174 h (zr_w (zr_c (x := 83) (lo := 83) (hi := 83) (by decide)) (by decide))))))) (fun _ => fU_fX12_sample_268 h))
theorem fU_fX12_sample_2_body {σ0 : zSt} {k2 : zSt → Int32 → Option (zSt)} (hk2 : ∀ (y0 : zSt) (y1 : Int32), (zQ [3, 5, 6, 7, 8, 9, 21, 22, 23, 24, 25, 26] [(0, 0, 0), (0, 31, 33)] [4, 10, 11] [(0, 30, 30)]) σ0 y0 → zr 0 3 y1 → zpc (k2 y0 y1) (fun r => (zQ [3, 5, 6, 7, 8, 9, 21, 22, 23, 24, 25, 26] [(0, 0, 0), (0, 31, 33)] [4, 10, 11] [(0, 30, 30)]) σ0 (r))) {σ : zSt} {x1 : Int32} (h : (zQ [3, 5, 6, 7, 8, 9, 21, 22, 23, 24, 25, 26] [(0, 0, 0), (0, 31, 33)] [4, 10, 11] [(0, 30, 30)]) σ0 σ) (qx1 : zr 0 3 x1) : zpc (fX12_sample_2_body k2 σ x1) (fun r => (zQ [3, 5, 6, 7, 8, 9, 21, 22, 23, 24, 25, 26] [(0, 0, 0), (0, 31, 33)] [4, 10, 11] [(0, 30, 30)]) σ0 (r)) := by
  unfold fX12_sample_2_body
  exact zpc_if (fun g1 => zpc_ck (zpc_if (fun _ => fU_fX12_sample_129 h) (fun _ => zpc_ck (zpc_ck (zpc_bs (zQ.wi h rfl) (fun σ22 hσ22 => fU_fX12_sample_129 hσ22)))))) (fun g1 => zpc_ck (zpc_if (fun _ => fU_fX12_sample_32 hk2 h (zr_nge (k := 3) (m := 2) qx1 rfl g1 (by decide))) (fun _ => zpc_bv (fun v23 ev23 => zpc_ck (zpc_ck (zpc_bs (zQ.wi h rfl) (fun σ24 hσ24 => fU_fX12_sample_32 hk2 hσ24 (zr_nge (k := 3) (m := 2) qx1 rfl g1 (by decide)))))))))
theorem fU_fX12_sample_2 {σ0 : zSt} : ∀ (n : Nat) (y0 : zSt) (y1 : Int32), (zQ [3, 5, 6, 7, 8, 9, 21, 22, 23, 24, 25, 26] [(0, 0, 0), (0, 31, 33)] [4, 10, 11] [(0, 30, 30)]) σ0 y0 → zr 0 3 y1 → zpc (fX12_sample_2 n y0 y1) (fun r => (zQ [3, 5, 6, 7, 8, 9, 21, 22, 23, 24, 25, 26] [(0, 0, 0), (0, 31, 33)] [4, 10, 11] [(0, 30, 30)]) σ0 (r)) := by
  intro n
  induction n with
  | zero => intro y0 y1 h q1; exact zpc_none
  | succ n ih => intro y0 y1 h q1; exact fU_fX12_sample_2_body ih h q1
theorem fU_fX12_sample {σ0 : zSt} {σ : zSt} (h : (zQ [3, 5, 6, 7, 8, 9, 21, 22, 23, 24, 25, 26] [(0, 0, 0), (0, 31, 33)] [4, 10, 11] [(0, 30, 30)]) σ0 σ) : zpc (fX12_sample σ) (fun r => (zQ [3, 5, 6, 7, 8, 9, 21, 22, 23, 24, 25, 26] [(0, 0, 0), (0, 31, 33)] [4, 10, 11] [(0, 30, 30)]) σ0 (r)) := by
  unfold fX12_sample
  exact fU_fX12_sample_2 _ _ _ h (zr_w (zr_c (x := 0) (lo := 0) (hi := 0) (by decide)) (by decide))
theorem fU_fX12_wreg {σ0 : zSt} {σ : zSt} {x1 : Int32} (h : (zQ [3, 5, 6, 7, 8, 9, 21, 22, 23, 24, 25, 26] [(0, 0, 0), (0, 31, 33)] [4, 10, 11] [(0, 30, 30)]) σ0 σ) : zpc (fX12_wreg σ x1) (fun r => (zQ [3, 5, 6, 7, 8, 9, 21, 22, 23, 24, 25, 26] [(0, 0, 0), (0, 31, 33)] [4, 10, 11] [(0, 30, 30)]) σ0 (r.1)) := by
  unfold fX12_wreg
  exact zpc_ck (zpc_some h)
theorem fU_fX12_isRhythm_22 {σ0 : zSt} {σ : zSt} {s0 : Int32} (h : (zQ [3, 5, 6, 7, 8, 9, 21, 22, 23, 24, 25, 26] [(0, 0, 0), (0, 31, 33)] [4, 10, 11] [(0, 30, 30)]) σ0 σ) : zpc (fX12_isRhythm_22 σ s0) (fun r => (zQ [3, 5, 6, 7, 8, 9, 21, 22, 23, 24, 25, 26] [(0, 0, 0), (0, 31, 33)] [4, 10, 11] [(0, 30, 30)]) σ0 (r.1)) := by
  unfold fX12_isRhythm_22
  exact zpc_ck (zpc_some h)
theorem fU_fX12_isRhythm_21 {σ0 : zSt} {σ : zSt} (h : (zQ [3, 5, 6, 7, 8, 9, 21, 22, 23, 24, 25, 26] [(0, 0, 0), (0, 31, 33)] [4, 10, 11] [(0, 30, 30)]) σ0 σ) : zpc (fX12_isRhythm_21 σ) (fun r => (zQ [3, 5, 6, 7, 8, 9, 21, 22, 23, 24, 25, 26] [(0, 0, 0), (0, 31, 33)] [4, 10, 11] [(0, 30, 30)]) σ0 (r.1)) := by
  unfold fX12_isRhythm_21
  exact fU_fX12_isRhythm_22 h
theorem fU_fX12_isRhythm {σ0 : zSt} {σ : zSt} {x1 : Int32} (h : (zQ [3, 5, 6, 7, 8, 9, 21, 22, 23, 24, 25, 26] [(0, 0, 0), (0, 31, 33)] [4, 10, 11] [(0, 30, 30)]) σ0 σ) : zpc (fX12_isRhythm σ x1) (fun r => (zQ [3, 5, 6, 7, 8, 9, 21, 22, 23, 24, 25, 26] [(0, 0, 0), (0, 31, 33)] [4, 10, 11] [(0, 30, 30)]) σ0 (r.1)) := by
  unfold fX12_isRhythm
  exact zpc_if (fun _ => fU_fX12_isRhythm_21 h) (fun _ => zpc_bi (fU_fX12_wreg h) (fun σ1 v2 hσ1 => zpc_if (fun _ => fU_fX12_isRhythm_21 hσ1) (fun _ => fU_fX12_isRhythm_22 hσ1)))
theorem fU_fX12_isOn_60 {σ0 : zSt} {σ : zSt} {x3 : Int32} {s0 : Int32} (h : (zQ [3, 5, 6, 7, 8, 9, 21, 22, 23, 24, 25, 26] [(0, 0, 0), (0, 31, 33)] [4, 10, 11] [(0, 30, 30)]) σ0 σ) : zpc (fX12_isOn_60 σ x3 s0) (fun r => (zQ [3, 5, 6, 7, 8, 9, 21, 22, 23, 24, 25, 26] [(0, 0, 0), (0, 31, 33)] [4, 10, 11] [(0, 30, 30)]) σ0 (r.1)) := by
  unfold fX12_isOn_60
  exact zpc_bi (fU_fX12_wreg h) (fun σ1 v2 hσ1 => zpc_some hσ1)
theorem fU_fX12_isOn {σ0 : zSt} {σ : zSt} {x1 : Int32} {x2 : Int32} (h : (zQ [3, 5, 6, 7, 8, 9, 21, 22, 23, 24, 25, 26] [(0, 0, 0), (0, 31, 33)] [4, 10, 11] [(0, 30, 30)]) σ0 σ) : zpc (fX12_isOn σ x1 x2) (fun r => (zQ [3, 5, 6, 7, 8, 9, 21, 22, 23, 24, 25, 26] [(0, 0, 0), (0, 31, 33)] [4, 10, 11] [(0, 30, 30)]) σ0 (r.1)) := by
  unfold fX12_isOn
  exact zpc_bi (fU_fX12_wreg h) (fun σ3 v4 hσ3 => zpc_bv (fun v5 _ => zpc_bi (fU_fX12_isRhythm hσ3) (fun σ6 v7 hσ6 => zpc_if (fun _ => zpc_some hσ6) (fun _ => zpc_if (fun _ => fU_fX12_isOn_60 hσ6) (fun _ => zpc_if (fun _ => zpc_if (fun _ => fU_fX12_isOn_60 hσ6) (fun _ => fU_fX12_isOn_60 hσ6)) (fun _ => zpc_if (fun _ => fU_fX12_isOn_60 hσ6) (fun _ => fU_fX12_isOn_60 hσ6)))))))
theorem fU_fX12_digit_20 {σ0 : zSt} {σ : zSt} {s0 : Int32} (h : (zQ [3, 5, 6, 7, 8, 9, 21, 22, 23, 24, 25, 26] [(0, 0, 0), (0, 31, 33)] [4, 10, 11] [(0, 30, 30)]) σ0 σ) : zpc (fX12_digit_20 σ s0) (fun r => (zQ [3, 5, 6, 7, 8, 9, 21, 22, 23, 24, 25, 26] [(0, 0, 0), (0, 31, 33)] [4, 10, 11] [(0, 30, 30)]) σ0 (r.1)) := by
  unfold fX12_digit_20
  exact zpc_some h
theorem fU_fX12_digit {σ0 : zSt} {σ : zSt} {x0 : Int32} (h : (zQ [3, 5, 6, 7, 8, 9, 21, 22, 23, 24, 25, 26] [(0, 0, 0), (0, 31, 33)] [4, 10, 11] [(0, 30, 30)]) σ0 σ) : zpc (fX12_digit σ x0) (fun r => (zQ [3, 5, 6, 7, 8, 9, 21, 22, 23, 24, 25, 26] [(0, 0, 0), (0, 31, 33)] [4, 10, 11] [(0, 30, 30)]) σ0 (r.1)) := by
  unfold fX12_digit
  exact zpc_if (fun _ => fU_fX12_digit_20 h) (fun _ => fU_fX12_digit_20 h)
theorem fU_fX12_patchByte_25 {σ0 : zSt} {σ : zSt} {x2 : Int32} {s0 : Int32} (h : (zQ [3, 5, 6, 7, 8, 9, 21, 22, 23, 24, 25, 26] [(0, 0, 0), (0, 31, 33)] [4, 10, 11] [(0, 30, 30)]) σ0 σ) : zpc (fX12_patchByte_25 σ x2 s0) (fun r => (zQ [3, 5, 6, 7, 8, 9, 21, 22, 23, 24, 25, 26] [(0, 0, 0), (0, 31, 33)] [4, 10, 11] [(0, 30, 30)]) σ0 (r.1)) := by
  unfold fX12_patchByte_25
  exact zpc_if (fun _ => zpc_bi (fU_fX12_wreg h) (fun σ6 v7 hσ6 => zpc_some hσ6)) (fun _ => zpc_bv (fun v1 _ => zpc_ck (zpc_ck (zpc_bi (fU_fX12_digit h) (fun σ2 v3 hσ2 => zpc_ck (zpc_ck (zpc_bi (fU_fX12_digit hσ2) (fun σ4 v5 hσ4 => zpc_some hσ4))))))))
theorem fU_fX12_patchByte {σ0 : zSt} {σ : zSt} {x1 : Int32} {x2 : Int32} (h : (zQ [3, 5, 6, 7, 8, 9, 21, 22, 23, 24, 25, 26] [(0, 0, 0), (0, 31, 33)] [4, 10, 11] [(0, 30, 30)]) σ0 σ) : zpc (fX12_patchByte σ x1 x2) (fun r => (zQ [3, 5, 6, 7, 8, 9, 21, 22, 23, 24, 25, 26] [(0, 0, 0), (0, 31, 33)] [4, 10, 11] [(0, 30, 30)]) σ0 (r.1)) := by
  unfold fX12_patchByte
  exact zpc_bi (fU_fX12_isRhythm h) (fun σ8 v9 hσ8 => zpc_if (fun _ => zpc_bi (fU_fX12_wreg hσ8) (fun σ10 v11 hσ10 => fU_fX12_patchByte_25 hσ10)) (fun _ => fU_fX12_patchByte_25 hσ8))
theorem fU_fX12_rate_140 {σ0 : zSt} {σ : zSt} {s0 : Int32} (h : (zQ [3, 5, 6, 7, 8, 9, 21, 22, 23, 24, 25, 26] [(0, 0, 0), (0, 31, 33)] [4, 10, 11] [(0, 30, 30)]) σ0 σ) : zpc (fX12_rate_140 σ s0) (fun r => (zQ [3, 5, 6, 7, 8, 9, 21, 22, 23, 24, 25, 26] [(0, 0, 0), (0, 31, 33)] [4, 10, 11] [(0, 30, 30)]) σ0 (r.1)) := by
  unfold fX12_rate_140
  exact zpc_some h
theorem fU_fX12_rate_99 {σ0 : zSt} {σ : zSt} {s0 : Int32} (h : (zQ [3, 5, 6, 7, 8, 9, 21, 22, 23, 24, 25, 26] [(0, 0, 0), (0, 31, 33)] [4, 10, 11] [(0, 30, 30)]) σ0 σ) : zpc (fX12_rate_99 σ s0) (fun r => (zQ [3, 5, 6, 7, 8, 9, 21, 22, 23, 24, 25, 26] [(0, 0, 0), (0, 31, 33)] [4, 10, 11] [(0, 30, 30)]) σ0 (r.1)) := by
  unfold fX12_rate_99
  exact zpc_some h
theorem fU_fX12_rate_17 {σ0 : zSt} {σ : zSt} {x1 : Int32} {x2 : Int32} {x3 : Int32} {s0 : Int32} (h : (zQ [3, 5, 6, 7, 8, 9, 21, 22, 23, 24, 25, 26] [(0, 0, 0), (0, 31, 33)] [4, 10, 11] [(0, 30, 30)]) σ0 σ) : zpc (fX12_rate_17 σ x1 x2 x3 s0) (fun r => (zQ [3, 5, 6, 7, 8, 9, 21, 22, 23, 24, 25, 26] [(0, 0, 0), (0, 31, 33)] [4, 10, 11] [(0, 30, 30)]) σ0 (r.1)) := by
  unfold fX12_rate_17
  exact zpc_if (fun _ => zpc_some h) (fun _ => zpc_if (fun _ => zpc_bi (fU_fX12_patchByte h) (fun σ1 v2 hσ1 => zpc_some hσ1)) (fun _ => zpc_if (fun _ => zpc_bi (fU_fX12_patchByte h) (fun σ3 v4 hσ3 => zpc_some hσ3)) (fun _ => zpc_if (fun _ => zpc_if (fun _ => zpc_bi (fU_fX12_patchByte h) (fun σ5 v6 hσ5 => fU_fX12_rate_99 hσ5)) (fun _ => fU_fX12_rate_99 h)) (fun _ => zpc_bi (fU_fX12_wreg h) (fun σ7 v8 hσ7 => zpc_if (fun _ => zpc_if (fun _ => fU_fX12_rate_140 hσ7) (fun _ => zpc_bi (fU_fX12_patchByte hσ7) (fun σ9 v10 hσ9 => fU_fX12_rate_140 hσ9))) (fun _ => fU_fX12_rate_140 hσ7))))))
theorem fU_fX12_rate {σ0 : zSt} {σ : zSt} {x1 : Int32} {x2 : Int32} {x3 : Int32} (h : (zQ [3, 5, 6, 7, 8, 9, 21, 22, 23, 24, 25, 26] [(0, 0, 0), (0, 31, 33)] [4, 10, 11] [(0, 30, 30)]) σ0 σ) : zpc (fX12_rate σ x1 x2 x3) (fun r => (zQ [3, 5, 6, 7, 8, 9, 21, 22, 23, 24, 25, 26] [(0, 0, 0), (0, 31, 33)] [4, 10, 11] [(0, 30, 30)]) σ0 (r.1)) := by
  unfold fX12_rate
  exact zpc_bi (fU_fX12_patchByte h) (fun σ11 v12 hσ11 => zpc_if (fun _ => fU_fX12_rate_17 hσ11) (fun _ => fU_fX12_rate_17 hσ11))
theorem fU_fX12_block {σ0 : zSt} {σ : zSt} {x1 : Int32} (h : (zQ [3, 5, 6, 7, 8, 9, 21, 22, 23, 24, 25, 26] [(0, 0, 0), (0, 31, 33)] [4, 10, 11] [(0, 30, 30)]) σ0 σ) : zpc (fX12_block σ x1) (fun r => (zQ [3, 5, 6, 7, 8, 9, 21, 22, 23, 24, 25, 26] [(0, 0, 0), (0, 31, 33)] [4, 10, 11] [(0, 30, 30)]) σ0 (r.1)) := by
  unfold fX12_block
  exact zpc_bi (fU_fX12_wreg h) (fun σ1 v2 hσ1 => zpc_some hσ1)
theorem fU_fX12_f {σ0 : zSt} {σ : zSt} {x1 : Int32} (h : (zQ [3, 5, 6, 7, 8, 9, 21, 22, 23, 24, 25, 26] [(0, 0, 0), (0, 31, 33)] [4, 10, 11] [(0, 30, 30)]) σ0 σ) : zpc (fX12_f σ x1) (fun r => (zQ [3, 5, 6, 7, 8, 9, 21, 22, 23, 24, 25, 26] [(0, 0, 0), (0, 31, 33)] [4, 10, 11] [(0, 30, 30)]) σ0 (r.1)) := by
  unfold fX12_f
  exact zpc_bi (fU_fX12_wreg h) (fun σ1 v2 hσ1 => zpc_bi (fU_fX12_wreg hσ1) (fun σ3 v4 hσ3 => zpc_some hσ3))
theorem fU_fX12_t_40 {σ0 : zSt} {σ : zSt} {s0 : Int32} (h : (zQ [3, 5, 6, 7, 8, 9, 21, 22, 23, 24, 25, 26] [(0, 0, 0), (0, 31, 33)] [4, 10, 11] [(0, 30, 30)]) σ0 σ) : zpc (fX12_t_40 σ s0) (fun r => (zQ [3, 5, 6, 7, 8, 9, 21, 22, 23, 24, 25, 26] [(0, 0, 0), (0, 31, 33)] [4, 10, 11] [(0, 30, 30)]) σ0 (r.1)) := by
  unfold fX12_t_40
  exact zpc_some h
theorem fU_fX12_t_35 {σ0 : zSt} {σ : zSt} (h : (zQ [3, 5, 6, 7, 8, 9, 21, 22, 23, 24, 25, 26] [(0, 0, 0), (0, 31, 33)] [4, 10, 11] [(0, 30, 30)]) σ0 σ) : zpc (fX12_t_35 σ) (fun r => (zQ [3, 5, 6, 7, 8, 9, 21, 22, 23, 24, 25, 26] [(0, 0, 0), (0, 31, 33)] [4, 10, 11] [(0, 30, 30)]) σ0 (r.1)) := by
  unfold fX12_t_35
  exact fU_fX12_t_40 h
theorem fU_fX12_t_39 {σ0 : zSt} {σ : zSt} (h : (zQ [3, 5, 6, 7, 8, 9, 21, 22, 23, 24, 25, 26] [(0, 0, 0), (0, 31, 33)] [4, 10, 11] [(0, 30, 30)]) σ0 σ) : zpc (fX12_t_39 σ) (fun r => (zQ [3, 5, 6, 7, 8, 9, 21, 22, 23, 24, 25, 26] [(0, 0, 0), (0, 31, 33)] [4, 10, 11] [(0, 30, 30)]) σ0 (r.1)) := by
  unfold fX12_t_39
  exact fU_fX12_t_40 h
theorem fU_fX12_t_19 {σ0 : zSt} {σ : zSt} {x0 : Int32} {x1 : Int32} (h : (zQ [3, 5, 6, 7, 8, 9, 21, 22, 23, 24, 25, 26] [(0, 0, 0), (0, 31, 33)] [4, 10, 11] [(0, 30, 30)]) σ0 σ) : zpc (fX12_t_19 σ x0 x1) (fun r => (zQ [3, 5, 6, 7, 8, 9, 21, 22, 23, 24, 25, 26] [(0, 0, 0), (0, 31, 33)] [4, 10, 11] [(0, 30, 30)]) σ0 (r.1)) := by
  unfold fX12_t_19
  exact zpc_if (fun _ => fU_fX12_t_39 h) (fun _ => zpc_if (fun _ => fU_fX12_t_35 h) (fun _ => zpc_if (fun _ => fU_fX12_t_35 h) (fun _ => fU_fX12_t_39 h)))
theorem fU_fX12_t {σ0 : zSt} {σ : zSt} {x0 : Int32} {x1 : Int32} (h : (zQ [3, 5, 6, 7, 8, 9, 21, 22, 23, 24, 25, 26] [(0, 0, 0), (0, 31, 33)] [4, 10, 11] [(0, 30, 30)]) σ0 σ) : zpc (fX12_t σ x0 x1) (fun r => (zQ [3, 5, 6, 7, 8, 9, 21, 22, 23, 24, 25, 26] [(0, 0, 0), (0, 31, 33)] [4, 10, 11] [(0, 30, 30)]) σ0 (r.1)) := by
  unfold fX12_t
  exact zpc_ck (zpc_if (fun _ => fU_fX12_t_35 h) (fun _ => zpc_ck (zpc_if (fun _ => zpc_if (fun _ => fU_fX12_t_35 h) (fun _ => fU_fX12_t_19 h)) (fun _ => fU_fX12_t_19 h))))
theorem fU_fX12_envelope_275 {σ0 : zSt} {σ : zSt} {s0 : Int32} {s1 : Int32} (h : (zQ [3, 5, 6, 7, 8, 9, 21, 22, 23, 24, 25, 26] [(0, 0, 0), (0, 31, 33)] [4, 10, 11] [(0, 30, 30)]) σ0 σ) (qs1 : zr 172 274 s1) : zpc (fX12_envelope_275 σ s0 s1) (fun r => (zQ [3, 5, 6, 7, 8, 9, 21, 22, 23, 24, 25, 26] [(0, 0, 0), (0, 31, 33)] [4, 10, 11] [(0, 30, 30)]) σ0 (r)) := by
  unfold fX12_envelope_275
  exact zpc_ck (zpc_bs (zQ.wi h rfl) (fun σ1 hσ1 => zpc_some hσ1))
theorem fU_fX12_envelope_259 {σ0 : zSt} {σ : zSt} {x1 : Int32} {x15 : Int32} (h : (zQ [3, 5, 6, 7, 8, 9, 21, 22, 23, 24, 25, 26] [(0, 0, 0), (0, 31, 33)] [4, 10, 11] [(0, 30, 30)]) σ0 σ) (qx1 : zr 172 274 x1) : zpc (fX12_envelope_259 σ x1 x15) (fun r => (zQ [3, 5, 6, 7, 8, 9, 21, 22, 23, 24, 25, 26] [(0, 0, 0), (0, 31, 33)] [4, 10, 11] [(0, 30, 30)]) σ0 (r)) := by
  unfold fX12_envelope_259
  exact zpc_if (fun _ => fU_fX12_envelope_275 h qx1) (fun _ => fU_fX12_envelope_275 h qx1)
theorem fU_fX12_envelope_220 {σ0 : zSt} {σ : zSt} {x1 : Int32} {s0 : Int32} (h : (zQ [3, 5, 6, 7, 8, 9, 21, 22, 23, 24, 25, 26] [(0, 0, 0), (0, 31, 33)] [4, 10, 11] [(0, 30, 30)]) σ0 σ) (qx1 : zr 172 274 x1) : zpc (fX12_envelope_220 σ x1 s0) (fun r => (zQ [3, 5, 6, 7, 8, 9, 21, 22, 23, 24, 25, 26] [(0, 0, 0), (0, 31, 33)] [4, 10, 11] [(0, 30, 30)]) σ0 (r)) := by
  unfold fX12_envelope_220
  exact fU_fX12_envelope_259 h qx1
theorem fU_fX12_envelope_257 {σ0 : zSt} {σ : zSt} {x1 : Int32} {s0 : Int32} (h : (zQ [3, 5, 6, 7, 8, 9, 21, 22, 23, 24, 25, 26] [(0, 0, 0), (0, 31, 33)] [4, 10, 11] [(0, 30, 30)]) σ0 σ) (qx1 : zr 172 274 x1) : zpc (fX12_envelope_257 σ x1 s0) (fun r => (zQ [3, 5, 6, 7, 8, 9, 21, 22, 23, 24, 25, 26] [(0, 0, 0), (0, 31, 33)] [4, 10, 11] [(0, 30, 30)]) σ0 (r)) := by
  unfold fX12_envelope_257
  exact fU_fX12_envelope_259 h qx1
theorem fU_fX12_envelope_358 {σ0 : zSt} {σ : zSt} {s0 : Int32} {s1 : Int32} (h : (zQ [3, 5, 6, 7, 8, 9, 21, 22, 23, 24, 25, 26] [(0, 0, 0), (0, 31, 33)] [4, 10, 11] [(0, 30, 30)]) σ0 σ) (qs1 : zr 172 274 s1) : zpc (fX12_envelope_358 σ s0 s1) (fun r => (zQ [3, 5, 6, 7, 8, 9, 21, 22, 23, 24, 25, 26] [(0, 0, 0), (0, 31, 33)] [4, 10, 11] [(0, 30, 30)]) σ0 (r)) := by
  unfold fX12_envelope_358
  exact zpc_ck (zpc_bs (zQ.wi h rfl) (fun σ2 hσ2 => zpc_some hσ2))
theorem fU_fX12_envelope_336 {σ0 : zSt} {σ : zSt} {x1 : Int32} {s0 : Int32} {s1 : Int32} (h : (zQ [3, 5, 6, 7, 8, 9, 21, 22, 23, 24, 25, 26] [(0, 0, 0), (0, 31, 33)] [4, 10, 11] [(0, 30, 30)]) σ0 σ) (qx1 : zr 172 274 x1) : zpc (fX12_envelope_336 σ x1 s0 s1) (fun r => (zQ [3, 5, 6, 7, 8, 9, 21, 22, 23, 24, 25, 26] [(0, 0, 0), (0, 31, 33)] [4, 10, 11] [(0, 30, 30)]) σ0 (r)) := by
  unfold fX12_envelope_336
  exact zpc_bv (fun v3 _ => zpc_if (fun _ => fU_fX12_envelope_358 h qx1) (fun _ => fU_fX12_envelope_358 h qx1))
theorem fU_fX12_envelope_159 {σ0 : zSt} {σ : zSt} {x1 : Int32} {x4 : Int32} {x7 : Int32} {x8 : Int32} {x9 : Int64} {s0 : Int32} (h : (zQ [3, 5, 6, 7, 8, 9, 21, 22, 23, 24, 25, 26] [(0, 0, 0), (0, 31, 33)] [4, 10, 11] [(0, 30, 30)]) σ0 σ) (qx1 : zr 172 274 x1) : zpc (fX12_envelope_159 σ x1 x4 x7 x8 x9 s0) (fun r => (zQ [3, 5, 6, 7, 8, 9, 21, 22, 23, 24, 25, 26] [(0, 0, 0), (0, 31, 33)] [4, 10, 11] [(0, 30, 30)]) σ0 (r)) := by
  unfold fX12_envelope_159
  exact zpc_ck (zpc_ck (zpc_bv (fun v4 _ => zpc_ck (zpc_bv (fun v5 _ => zpc_if (fun _ => zpc_if (fun _ => zpc_if (fun _ => fU_fX12_envelope_257 h qx1) (fun _ => zpc_bi (fU_fX12_t h) (fun σ10 v11 hσ10 => fU_fX12_envelope_257 hσ10 qx1))) (fun _ => zpc_if (fun _ => zpc_ck (fU_fX12_envelope_220 h qx1)) (fun _ => fU_fX12_envelope_220 h qx1))) (fun _ => zpc_if (fun _ => zpc_if (fun _ => zpc_ck (zpc_bi (fU_fX12_t h) (fun σ8 v9 hσ8 => fU_fX12_envelope_336 hσ8 qx1))) (fun _ => zpc_if (fun _ => zpc_bi (fU_fX12_t h) (fun σ6 v7 hσ6 => fU_fX12_envelope_336 hσ6 qx1)) (fun _ => fU_fX12_envelope_336 h qx1))) (fun _ => fU_fX12_envelope_336 h qx1)))))))
theorem fU_fX12_envelope_158 {σ0 : zSt} {σ : zSt} {x1 : Int32} {x4 : Int32} {x7 : Int32} {x8 : Int32} {x9 : Int64} (h : (zQ [3, 5, 6, 7, 8, 9, 21, 22, 23, 24, 25, 26] [(0, 0, 0), (0, 31, 33)] [4, 10, 11] [(0, 30, 30)]) σ0 σ) (qx1 : zr 172 274 x1) : zpc (fX12_envelope_158 σ x1 x4 x7 x8 x9) (fun r => (zQ [3, 5, 6, 7, 8, 9, 21, 22, 23, 24, 25, 26] [(0, 0, 0), (0, 31, 33)] [4, 10, 11] [(0, 30, 30)]) σ0 (r)) := by
  unfold fX12_envelope_158
  exact fU_fX12_envelope_159 h qx1
theorem fU_fX12_envelope_121 {σ0 : zSt} {σ : zSt} {x1 : Int32} {x4 : Int32} {x7 : Int32} {x8 : Int32} {x9 : Int64} {s0 : Int64} (h : (zQ [3, 5, 6, 7, 8, 9, 21, 22, 23, 24, 25, 26] [(0, 0, 0), (0, 31, 33)] [4, 10, 11] [(0, 30, 30)]) σ0 σ) (qx1 : zr 172 274 x1) : zpc (fX12_envelope_121 σ x1 x4 x7 x8 x9 s0) (fun r => (zQ [3, 5, 6, 7, 8, 9, 21, 22, 23, 24, 25, 26] [(0, 0, 0), (0, 31, 33)] [4, 10, 11] [(0, 30, 30)]) σ0 (r)) := by
  unfold fX12_envelope_121
  exact zpc_if (fun _ => fU_fX12_envelope_158 h qx1) (fun _ => zpc_ck (zpc_if (fun _ => zpc_ck (zpc_ck (zpc_bi (fU_fX12_t h) (fun σ12 v13 hσ12 => fU_fX12_envelope_159 hσ12 qx1)))) (fun _ => fU_fX12_envelope_158 h qx1)))
theorem fU_fX12_envelope_87 {σ0 : zSt} {σ : zSt} {x1 : Int32} {x4 : Int32} {x6 : Int32} {s0 : Int32} (h : (zQ [3, 5, 6, 7, 8, 9, 21, 22, 23, 24, 25, 26] [(0, 0, 0), (0, 31, 33)] [4, 10, 11] [(0, 30, 30)]) σ0 σ) (qx1 : zr 172 274 x1) : zpc (fX12_envelope_87 σ x1 x4 x6 s0) (fun r => (zQ [3, 5, 6, 7, 8, 9, 21, 22, 23, 24, 25, 26] [(0, 0, 0), (0, 31, 33)] [4, 10, 11] [(0, 30, 30)]) σ0 (r)) := by
  unfold fX12_envelope_87
  exact zpc_ck (zpc_bv (fun v14 _ => zpc_ck (zpc_bv (fun v15 _ => zpc_if (fun _ => fU_fX12_envelope_121 h qx1) (fun _ => fU_fX12_envelope_121 h qx1)))))
theorem fU_fX12_envelope_63 {σ0 : zSt} {σ : zSt} {x1 : Int32} {x4 : Int32} {x5 : Int32} {x6 : Int32} (h : (zQ [3, 5, 6, 7, 8, 9, 21, 22, 23, 24, 25, 26] [(0, 0, 0), (0, 31, 33)] [4, 10, 11] [(0, 30, 30)]) σ0 σ) (qx1 : zr 172 274 x1) : zpc (fX12_envelope_63 σ x1 x4 x5 x6) (fun r => (zQ [3, 5, 6, 7, 8, 9, 21, 22, 23, 24, 25, 26] [(0, 0, 0), (0, 31, 33)] [4, 10, 11] [(0, 30, 30)]) σ0 (r)) := by
  unfold fX12_envelope_63
  exact zpc_ck (zpc_if (fun _ => zpc_ck (fU_fX12_envelope_87 h qx1)) (fun _ => fU_fX12_envelope_87 h qx1))
theorem fU_fX12_envelope {σ0 : zSt} {σ : zSt} {x1 : Int32} {x2 : Int32} {x3 : Int32} (h : (zQ [3, 5, 6, 7, 8, 9, 21, 22, 23, 24, 25, 26] [(0, 0, 0), (0, 31, 33)] [4, 10, 11] [(0, 30, 30)]) σ0 σ) (qx1 : zr 172 274 x1) : zpc (fX12_envelope σ x1 x2 x3) (fun r => (zQ [3, 5, 6, 7, 8, 9, 21, 22, 23, 24, 25, 26] [(0, 0, 0), (0, 31, 33)] [4, 10, 11] [(0, 30, 30)]) σ0 (r)) := by
  unfold fX12_envelope
  exact zpc_ck (zpc_bv (fun v16 _ => zpc_bi (fU_fX12_rate h) (fun σ17 v18 hσ17 => zpc_if (fun _ => zpc_some hσ17) (fun _ => zpc_bi (fU_fX12_block hσ17) (fun σ19 v20 hσ19 => zpc_bi (fU_fX12_f hσ19) (fun σ21 v22 hσ21 => zpc_ck (zpc_bv (fun v23 _ => zpc_bi (fU_fX12_patchByte hσ21) (fun σ24 v25 hσ24 => zpc_if (fun _ => zpc_ck (zpc_bv (fun v26 _ => fU_fX12_envelope_63 hσ24 qx1))) (fun _ => fU_fX12_envelope_63 hσ24 qx1))))))))))
theorem fU_fX12_phase_150 {σ0 : zSt} {σ : zSt} {x1 : Int32} {x2 : Int32} {x5 : Int32} {x6 : Int32} (h : (zQ [3, 5, 6, 7, 8, 9, 21, 22, 23, 24, 25, 26] [(0, 0, 0), (0, 31, 33)] [4, 10, 11] [(0, 30, 30)]) σ0 σ) (qx1 : zr 172 274 x1) : zpc (fX12_phase_150 σ x1 x2 x5 x6) (fun r => (zQ [3, 5, 6, 7, 8, 9, 21, 22, 23, 24, 25, 26] [(0, 0, 0), (0, 31, 33)] [4, 10, 11] [(0, 30, 30)]) σ0 (r)) := by
  unfold fX12_phase_150
  exact zpc_ck (zpc_bi (fU_fX12_f h) (fun σ1 v2 hσ1 => zpc_bi (fU_fX12_block hσ1) (fun σ3 v4 hσ3 => zpc_ck (zpc_ck (zpc_bs (zQ.wi hσ3 rfl) (fun σ5 hσ5 => zpc_some hσ5))))))
theorem fU_fX12_phase_148 {σ0 : zSt} {σ : zSt} {x1 : Int32} {x2 : Int32} {x5 : Int32} {s0 : Int32} (h : (zQ [3, 5, 6, 7, 8, 9, 21, 22, 23, 24, 25, 26] [(0, 0, 0), (0, 31, 33)] [4, 10, 11] [(0, 30, 30)]) σ0 σ) (qx1 : zr 172 274 x1) : zpc (fX12_phase_148 σ x1 x2 x5 s0) (fun r => (zQ [3, 5, 6, 7, 8, 9, 21, 22, 23, 24, 25, 26] [(0, 0, 0), (0, 31, 33)] [4, 10, 11] [(0, 30, 30)]) σ0 (r)) := by
  unfold fX12_phase_148
  exact fU_fX12_phase_150 h qx1
theorem fU_fX12_phase_132 {σ0 : zSt} {σ : zSt} {x1 : Int32} {x2 : Int32} {x5 : Int32} {x7 : Int32} {s0 : Int32} (h : (zQ [3, 5, 6, 7, 8, 9, 21, 22, 23, 24, 25, 26] [(0, 0, 0), (0, 31, 33)] [4, 10, 11] [(0, 30, 30)]) σ0 σ) (qx1 : zr 172 274 x1) : zpc (fX12_phase_132 σ x1 x2 x5 x7 s0) (fun r => (zQ [3, 5, 6, 7, 8, 9, 21, 22, 23, 24, 25, 26] [(0, 0, 0), (0, 31, 33)] [4, 10, 11] [(0, 30, 30)]) σ0 (r)) := by
  unfold fX12_phase_132
  exact zpc_if (fun _ => fU_fX12_phase_148 h qx1) (fun _ => fU_fX12_phase_148 h qx1)
theorem fU_fX12_phase_60 {σ0 : zSt} {σ : zSt} {x1 : Int32} {x2 : Int32} {x3 : Int32} {s0 : Int32} (h : (zQ [3, 5, 6, 7, 8, 9, 21, 22, 23, 24, 25, 26] [(0, 0, 0), (0, 31, 33)] [4, 10, 11] [(0, 30, 30)]) σ0 σ) (qx1 : zr 172 274 x1) : zpc (fX12_phase_60 σ x1 x2 x3 s0) (fun r => (zQ [3, 5, 6, 7, 8, 9, 21, 22, 23, 24, 25, 26] [(0, 0, 0), (0, 31, 33)] [4, 10, 11] [(0, 30, 30)]) σ0 (r)) := by
  unfold fX12_phase_60
  exact zpc_bi (fU_fX12_patchByte h) (fun σ6 v7 hσ6 => zpc_if (fun _ => fU_fX12_phase_150 hσ6 qx1) (fun _ => zpc_ck (zpc_ck (zpc_ck (zpc_bv (fun v8 _ => zpc_bi (fU_fX12_f hσ6) (fun σ9 v10 hσ9 => zpc_ck (zpc_bv (fun v11 _ => zpc_ck (zpc_if (fun _ => fU_fX12_phase_132 hσ9 qx1) (fun _ => zpc_ck (zpc_if (fun _ => fU_fX12_phase_132 hσ9 qx1) (fun _ => zpc_ck (fU_fX12_phase_132 hσ9 qx1))))))))))))))
theorem fU_fX12_phase {σ0 : zSt} {σ : zSt} {x1 : Int32} {x2 : Int32} {x3 : Int32} (h : (zQ [3, 5, 6, 7, 8, 9, 21, 22, 23, 24, 25, 26] [(0, 0, 0), (0, 31, 33)] [4, 10, 11] [(0, 30, 30)]) σ0 σ) (qx1 : zr 172 274 x1) : zpc (fX12_phase σ x1 x2 x3) (fun r => (zQ [3, 5, 6, 7, 8, 9, 21, 22, 23, 24, 25, 26] [(0, 0, 0), (0, 31, 33)] [4, 10, 11] [(0, 30, 30)]) σ0 (r)) := by
  unfold fX12_phase
  exact zpc_bi (fU_fX12_patchByte h) (fun σ12 v13 hσ12 => zpc_bv (fun v14 _ => zpc_if (fun _ => fU_fX12_phase_60 hσ12 qx1) (fun _ => zpc_if (fun _ => zpc_if (fun _ => fU_fX12_phase_60 hσ12 qx1) (fun _ => zpc_if (fun _ => fU_fX12_phase_60 hσ12 qx1) (fun _ => fU_fX12_phase_60 hσ12 qx1))) (fun _ => fU_fX12_phase_60 hσ12 qx1))))
theorem fU_fX12_drum_191 {σ0 : zSt} {σ : zSt} {s0 : Int32} (h : (zQ [3, 5, 6, 7, 8, 9, 21, 22, 23, 24, 25, 26] [(0, 0, 0), (0, 31, 33)] [4, 10, 11] [(0, 30, 30)]) σ0 σ) : zpc (fX12_drum_191 σ s0) (fun r => (zQ [3, 5, 6, 7, 8, 9, 21, 22, 23, 24, 25, 26] [(0, 0, 0), (0, 31, 33)] [4, 10, 11] [(0, 30, 30)]) σ0 (r.1)) := by
  unfold fX12_drum_191
  exact zpc_some h
theorem fU_fX12_drum_214 {σ0 : zSt} {σ : zSt} {s0 : Int32} (h : (zQ [3, 5, 6, 7, 8, 9, 21, 22, 23, 24, 25, 26] [(0, 0, 0), (0, 31, 33)] [4, 10, 11] [(0, 30, 30)]) σ0 σ) : zpc (fX12_drum_214 σ s0) (fun r => (zQ [3, 5, 6, 7, 8, 9, 21, 22, 23, 24, 25, 26] [(0, 0, 0), (0, 31, 33)] [4, 10, 11] [(0, 30, 30)]) σ0 (r.1)) := by
  unfold fX12_drum_214
  exact zpc_some h
theorem fU_fX12_drum_148 {σ0 : zSt} {σ : zSt} {x1 : Int32} {x2 : Int32} {x3 : Int32} {x6 : Int32} {x7 : Int32} (h : (zQ [3, 5, 6, 7, 8, 9, 21, 22, 23, 24, 25, 26] [(0, 0, 0), (0, 31, 33)] [4, 10, 11] [(0, 30, 30)]) σ0 σ) : zpc (fX12_drum_148 σ x1 x2 x3 x6 x7) (fun r => (zQ [3, 5, 6, 7, 8, 9, 21, 22, 23, 24, 25, 26] [(0, 0, 0), (0, 31, 33)] [4, 10, 11] [(0, 30, 30)]) σ0 (r.1)) := by
  unfold fX12_drum_148
  exact zpc_if (fun _ => zpc_if (fun _ => zpc_if (fun _ => fU_fX12_drum_191 h) (fun _ => fU_fX12_drum_191 h)) (fun _ => zpc_if (fun _ => fU_fX12_drum_191 h) (fun _ => fU_fX12_drum_191 h))) (fun _ => zpc_if (fun _ => fU_fX12_drum_214 h) (fun _ => zpc_if (fun _ => fU_fX12_drum_214 h) (fun _ => fU_fX12_drum_214 h)))
theorem fU_fX12_drum_147 {σ0 : zSt} {σ : zSt} {s0 : Int32} (h : (zQ [3, 5, 6, 7, 8, 9, 21, 22, 23, 24, 25, 26] [(0, 0, 0), (0, 31, 33)] [4, 10, 11] [(0, 30, 30)]) σ0 σ) : zpc (fX12_drum_147 σ s0) (fun r => (zQ [3, 5, 6, 7, 8, 9, 21, 22, 23, 24, 25, 26] [(0, 0, 0), (0, 31, 33)] [4, 10, 11] [(0, 30, 30)]) σ0 (r.1)) := by
  unfold fX12_drum_147
  exact zpc_some h
theorem fU_fX12_drum_100 {σ0 : zSt} {σ : zSt} {x1 : Int32} {x2 : Int32} {x3 : Int32} {x6 : Int32} {s0 : Int32} (h : (zQ [3, 5, 6, 7, 8, 9, 21, 22, 23, 24, 25, 26] [(0, 0, 0), (0, 31, 33)] [4, 10, 11] [(0, 30, 30)]) σ0 σ) : zpc (fX12_drum_100 σ x1 x2 x3 x6 s0) (fun r => (zQ [3, 5, 6, 7, 8, 9, 21, 22, 23, 24, 25, 26] [(0, 0, 0), (0, 31, 33)] [4, 10, 11] [(0, 30, 30)]) σ0 (r.1)) := by
  unfold fX12_drum_100
  exact zpc_if (fun _ => zpc_if (fun _ => zpc_if (fun _ => zpc_if (fun _ => fU_fX12_drum_147 h) (fun _ => fU_fX12_drum_147 h)) (fun _ => zpc_if (fun _ => fU_fX12_drum_147 h) (fun _ => fU_fX12_drum_147 h))) (fun _ => fU_fX12_drum_148 h)) (fun _ => fU_fX12_drum_148 h)
theorem fU_fX12_drum_79 {σ0 : zSt} {σ : zSt} {x1 : Int32} {x2 : Int32} {x3 : Int32} {s0 : Int32} (h : (zQ [3, 5, 6, 7, 8, 9, 21, 22, 23, 24, 25, 26] [(0, 0, 0), (0, 31, 33)] [4, 10, 11] [(0, 30, 30)]) σ0 σ) : zpc (fX12_drum_79 σ x1 x2 x3 s0) (fun r => (zQ [3, 5, 6, 7, 8, 9, 21, 22, 23, 24, 25, 26] [(0, 0, 0), (0, 31, 33)] [4, 10, 11] [(0, 30, 30)]) σ0 (r.1)) := by
  unfold fX12_drum_79
  exact zpc_ck (zpc_if (fun _ => fU_fX12_drum_100 h) (fun _ => fU_fX12_drum_100 h))
theorem fU_fX12_drum_74 {σ0 : zSt} {σ : zSt} {x1 : Int32} {x2 : Int32} {x3 : Int32} (h : (zQ [3, 5, 6, 7, 8, 9, 21, 22, 23, 24, 25, 26] [(0, 0, 0), (0, 31, 33)] [4, 10, 11] [(0, 30, 30)]) σ0 σ) : zpc (fX12_drum_74 σ x1 x2 x3) (fun r => (zQ [3, 5, 6, 7, 8, 9, 21, 22, 23, 24, 25, 26] [(0, 0, 0), (0, 31, 33)] [4, 10, 11] [(0, 30, 30)]) σ0 (r.1)) := by
  unfold fX12_drum_74
  exact fU_fX12_drum_79 h
theorem fU_fX12_drum {σ0 : zSt} {σ : zSt} {x1 : Int32} {x2 : Int32} {x3 : Int32} (h : (zQ [3, 5, 6, 7, 8, 9, 21, 22, 23, 24, 25, 26] [(0, 0, 0), (0, 31, 33)] [4, 10, 11] [(0, 30, 30)]) σ0 σ) : zpc (fX12_drum σ x1 x2 x3) (fun r => (zQ [3, 5, 6, 7, 8, 9, 21, 22, 23, 24, 25, 26] [(0, 0, 0), (0, 31, 33)] [4, 10, 11] [(0, 30, 30)]) σ0 (r.1)) := by
  unfold fX12_drum
  exact zpc_ck (zpc_ck (zpc_bv (fun v1 _ => zpc_ck (zpc_ck (zpc_bv (fun v2 _ => zpc_if (fun _ => zpc_if (fun _ => zpc_if (fun _ => fU_fX12_drum_79 h) (fun _ => fU_fX12_drum_74 h)) (fun _ => fU_fX12_drum_74 h)) (fun _ => fU_fX12_drum_74 h)))))))
theorem fU_fX12_kept_97 {σ0 : zSt} {σ : zSt} {s0 : Int32} (h : (zQ [3, 5, 6, 7, 8, 9, 21, 22, 23, 24, 25, 26] [(0, 0, 0), (0, 31, 33)] [4, 10, 11] [(0, 30, 30)]) σ0 σ) : zpc (fX12_kept_97 σ s0) (fun r => (zQ [3, 5, 6, 7, 8, 9, 21, 22, 23, 24, 25, 26] [(0, 0, 0), (0, 31, 33)] [4, 10, 11] [(0, 30, 30)]) σ0 (r.1)) := by
  unfold fX12_kept_97
  exact zpc_some h
theorem fU_fX12_kept {σ0 : zSt} {σ : zSt} {x0 : Int32} (h : (zQ [3, 5, 6, 7, 8, 9, 21, 22, 23, 24, 25, 26] [(0, 0, 0), (0, 31, 33)] [4, 10, 11] [(0, 30, 30)]) σ0 σ) : zpc (fX12_kept σ x0) (fun r => (zQ [3, 5, 6, 7, 8, 9, 21, 22, 23, 24, 25, 26] [(0, 0, 0), (0, 31, 33)] [4, 10, 11] [(0, 30, 30)]) σ0 (r.1)) := by
  unfold fX12_kept
  exact zpc_if (fun _ => fU_fX12_kept_97 h) (fun _ => zpc_if (fun _ => fU_fX12_kept_97 h) (fun _ => zpc_if (fun _ => fU_fX12_kept_97 h) (fun _ => zpc_if (fun _ => fU_fX12_kept_97 h) (fun _ => zpc_if (fun _ => fU_fX12_kept_97 h) (fun _ => zpc_if (fun _ => fU_fX12_kept_97 h) (fun _ => zpc_if (fun _ => fU_fX12_kept_97 h) (fun _ => zpc_if (fun _ => fU_fX12_kept_97 h) (fun _ => zpc_if (fun _ => fU_fX12_kept_97 h) (fun _ => fU_fX12_kept_97 h)))))))))
theorem fU_fX12_waveAt_376 {σ0 : zSt} {σ : zSt} {s0 : Int32} (h : (zQ [3, 5, 6, 7, 8, 9, 21, 22, 23, 24, 25, 26] [(0, 0, 0), (0, 31, 33)] [4, 10, 11] [(0, 30, 30)]) σ0 σ) : zpc (fX12_waveAt_376 σ s0) (fun r => (zQ [3, 5, 6, 7, 8, 9, 21, 22, 23, 24, 25, 26] [(0, 0, 0), (0, 31, 33)] [4, 10, 11] [(0, 30, 30)]) σ0 (r.1)) := by
  unfold fX12_waveAt_376
  exact zpc_some h
theorem fU_fX12_waveAt_296 {σ0 : zSt} {σ : zSt} {x2 : Int32} {x3 : Int32} {x4 : Int32} {x5 : Int32} {s0 : Int32} (h : (zQ [3, 5, 6, 7, 8, 9, 21, 22, 23, 24, 25, 26] [(0, 0, 0), (0, 31, 33)] [4, 10, 11] [(0, 30, 30)]) σ0 σ) : zpc (fX12_waveAt_296 σ x2 x3 x4 x5 s0) (fun r => (zQ [3, 5, 6, 7, 8, 9, 21, 22, 23, 24, 25, 26] [(0, 0, 0), (0, 31, 33)] [4, 10, 11] [(0, 30, 30)]) σ0 (r.1)) := by
  unfold fX12_waveAt_296
  exact zpc_ck (zpc_bv (fun v1 _ => zpc_ck (zpc_ck (zpc_ck (zpc_bv (fun v2 _ => zpc_if (fun _ => zpc_some h) (fun _ => zpc_bi (fU_fX12_patchByte h) (fun σ3 v4 hσ3 => zpc_if (fun _ => fU_fX12_waveAt_376 hσ3) (fun _ => fU_fX12_waveAt_376 hσ3)))))))))
theorem fU_fX12_waveAt_263 {σ0 : zSt} {σ : zSt} {x1 : Int32} {x2 : Int32} {x3 : Int32} {x4 : Int32} {x5 : Int32} {x8 : Int32} {x11 : Int32} {s0 : Int32} (h : (zQ [3, 5, 6, 7, 8, 9, 21, 22, 23, 24, 25, 26] [(0, 0, 0), (0, 31, 33)] [4, 10, 11] [(0, 30, 30)]) σ0 σ) : zpc (fX12_waveAt_263 σ x1 x2 x3 x4 x5 x8 x11 s0) (fun r => (zQ [3, 5, 6, 7, 8, 9, 21, 22, 23, 24, 25, 26] [(0, 0, 0), (0, 31, 33)] [4, 10, 11] [(0, 30, 30)]) σ0 (r.1)) := by
  unfold fX12_waveAt_263
  exact zpc_ck (zpc_bv (fun v5 _ => zpc_if (fun _ => fU_fX12_waveAt_296 h) (fun _ => fU_fX12_waveAt_296 h)))
theorem fU_fX12_waveAt_260 {σ0 : zSt} {σ : zSt} {x1 : Int32} {x2 : Int32} {x3 : Int32} {x4 : Int32} {x5 : Int32} {x8 : Int32} {x11 : Int32} {s0 : Int32} (h : (zQ [3, 5, 6, 7, 8, 9, 21, 22, 23, 24, 25, 26] [(0, 0, 0), (0, 31, 33)] [4, 10, 11] [(0, 30, 30)]) σ0 σ) : zpc (fX12_waveAt_260 σ x1 x2 x3 x4 x5 x8 x11 s0) (fun r => (zQ [3, 5, 6, 7, 8, 9, 21, 22, 23, 24, 25, 26] [(0, 0, 0), (0, 31, 33)] [4, 10, 11] [(0, 30, 30)]) σ0 (r.1)) := by
  unfold fX12_waveAt_260
  exact zpc_ck (fU_fX12_waveAt_263 h)
theorem fU_fX12_waveAt_206 {σ0 : zSt} {σ : zSt} {x1 : Int32} {x2 : Int32} {x3 : Int32} {x4 : Int32} {x5 : Int32} {x8 : Int32} {s0 : Int32} (h : (zQ [3, 5, 6, 7, 8, 9, 21, 22, 23, 24, 25, 26] [(0, 0, 0), (0, 31, 33)] [4, 10, 11] [(0, 30, 30)]) σ0 σ) : zpc (fX12_waveAt_206 σ x1 x2 x3 x4 x5 x8 s0) (fun r => (zQ [3, 5, 6, 7, 8, 9, 21, 22, 23, 24, 25, 26] [(0, 0, 0), (0, 31, 33)] [4, 10, 11] [(0, 30, 30)]) σ0 (r.1)) := by
  unfold fX12_waveAt_206
  exact zpc_ck (zpc_ck (zpc_ck (zpc_bv (fun v6 _ => zpc_bi (fU_fX12_patchByte h) (fun σ7 v8 hσ7 => zpc_if (fun _ => fU_fX12_waveAt_263 hσ7) (fun _ => zpc_if (fun _ => fU_fX12_waveAt_260 hσ7) (fun _ => fU_fX12_waveAt_260 hσ7)))))))
theorem fU_fX12_waveAt_192 {σ0 : zSt} {σ : zSt} {x1 : Int32} {x2 : Int32} {x3 : Int32} {x4 : Int32} {x5 : Int32} {x8 : Int32} {x9 : Int32} (h : (zQ [3, 5, 6, 7, 8, 9, 21, 22, 23, 24, 25, 26] [(0, 0, 0), (0, 31, 33)] [4, 10, 11] [(0, 30, 30)]) σ0 σ) : zpc (fX12_waveAt_192 σ x1 x2 x3 x4 x5 x8 x9) (fun r => (zQ [3, 5, 6, 7, 8, 9, 21, 22, 23, 24, 25, 26] [(0, 0, 0), (0, 31, 33)] [4, 10, 11] [(0, 30, 30)]) σ0 (r.1)) := by
  unfold fX12_waveAt_192
  exact zpc_ck (zpc_ck (fU_fX12_waveAt_206 h))
theorem fU_fX12_waveAt_123 {σ0 : zSt} {σ : zSt} {x1 : Int32} {x2 : Int32} {x3 : Int32} {x4 : Int32} {x5 : Int32} {s0 : Int32} (h : (zQ [3, 5, 6, 7, 8, 9, 21, 22, 23, 24, 25, 26] [(0, 0, 0), (0, 31, 33)] [4, 10, 11] [(0, 30, 30)]) σ0 σ) : zpc (fX12_waveAt_123 σ x1 x2 x3 x4 x5 s0) (fun r => (zQ [3, 5, 6, 7, 8, 9, 21, 22, 23, 24, 25, 26] [(0, 0, 0), (0, 31, 33)] [4, 10, 11] [(0, 30, 30)]) σ0 (r.1)) := by
  unfold fX12_waveAt_123
  exact zpc_bi (fU_fX12_patchByte h) (fun σ9 v10 hσ9 => zpc_bv (fun v11 _ => zpc_bi (fU_fX12_wreg hσ9) (fun σ12 v13 hσ12 => zpc_bv (fun v14 _ => zpc_if (fun _ => fU_fX12_waveAt_206 hσ12) (fun _ => zpc_bi (fU_fX12_isRhythm hσ12) (fun σ15 v16 hσ15 => zpc_if (fun _ => fU_fX12_waveAt_192 hσ15) (fun _ => zpc_if (fun _ => fU_fX12_waveAt_192 hσ15) (fun _ => zpc_bi (fU_fX12_wreg hσ15) (fun σ17 v18 hσ17 => fU_fX12_waveAt_206 hσ17)))))))))
theorem fU_fX12_waveAt_91 {σ0 : zSt} {σ : zSt} {x1 : Int32} {x2 : Int32} {x3 : Int32} {x4 : Int32} {x5 : Int32} (h : (zQ [3, 5, 6, 7, 8, 9, 21, 22, 23, 24, 25, 26] [(0, 0, 0), (0, 31, 33)] [4, 10, 11] [(0, 30, 30)]) σ0 σ) : zpc (fX12_waveAt_91 σ x1 x2 x3 x4 x5) (fun r => (zQ [3, 5, 6, 7, 8, 9, 21, 22, 23, 24, 25, 26] [(0, 0, 0), (0, 31, 33)] [4, 10, 11] [(0, 30, 30)]) σ0 (r.1)) := by
  unfold fX12_waveAt_91
  exact fU_fX12_waveAt_123 h
theorem fU_fX12_waveAt_41 {σ0 : zSt} {σ : zSt} {x1 : Int32} {x2 : Int32} {x3 : Int32} {x4 : Int32} {s0 : Int32} (h : (zQ [3, 5, 6, 7, 8, 9, 21, 22, 23, 24, 25, 26] [(0, 0, 0), (0, 31, 33)] [4, 10, 11] [(0, 30, 30)]) σ0 σ) : zpc (fX12_waveAt_41 σ x1 x2 x3 x4 s0) (fun r => (zQ [3, 5, 6, 7, 8, 9, 21, 22, 23, 24, 25, 26] [(0, 0, 0), (0, 31, 33)] [4, 10, 11] [(0, 30, 30)]) σ0 (r.1)) := by
  unfold fX12_waveAt_41
  exact zpc_bi (fU_fX12_patchByte h) (fun σ19 v20 hσ19 => zpc_bv (fun v21 _ => zpc_bi (fU_fX12_f hσ19) (fun σ22 v23 hσ22 => zpc_ck (zpc_bi (fU_fX12_kept hσ22) (fun σ24 v25 hσ24 => zpc_bi (fU_fX12_block hσ24) (fun σ26 v27 hσ26 => zpc_bv (fun v28 _ => zpc_if (fun _ => fU_fX12_waveAt_91 hσ26) (fun _ => zpc_if (fun _ => fU_fX12_waveAt_91 hσ26) (fun _ => zpc_if (fun _ => zpc_ck (fU_fX12_waveAt_123 hσ26)) (fun _ => zpc_if (fun _ => zpc_ck (fU_fX12_waveAt_123 hσ26)) (fun _ => fU_fX12_waveAt_123 hσ26)))))))))))
theorem fU_fX12_waveAt {σ0 : zSt} {σ : zSt} {x1 : Int32} {x2 : Int32} {x3 : Int32} {x4 : Int32} (h : (zQ [3, 5, 6, 7, 8, 9, 21, 22, 23, 24, 25, 26] [(0, 0, 0), (0, 31, 33)] [4, 10, 11] [(0, 30, 30)]) σ0 σ) : zpc (fX12_waveAt σ x1 x2 x3 x4) (fun r => (zQ [3, 5, 6, 7, 8, 9, 21, 22, 23, 24, 25, 26] [(0, 0, 0), (0, 31, 33)] [4, 10, 11] [(0, 30, 30)]) σ0 (r.1)) := by
  unfold fX12_waveAt
  exact zpc_ck (zpc_if (fun _ => zpc_if (fun _ => zpc_ck (fU_fX12_waveAt_41 h)) (fun _ => zpc_ck (fU_fX12_waveAt_41 h))) (fun _ => zpc_some h))
theorem fU_fX12_operator_319 {σ0 : zSt} {σ : zSt} {x1 : Int32} {x2 : Int32} {x3 : Int32} {x5 : Int32} {x8 : Int32} (h : (zQ [3, 5, 6, 7, 8, 9, 21, 22, 23, 24, 25, 26] [(0, 0, 0), (0, 31, 33)] [4, 10, 11] [(0, 30, 30)]) σ0 σ) (qx3 : zr 172 274 x3) : zpc (fX12_operator_319 σ x1 x2 x3 x5 x8) (fun r => (zQ [3, 5, 6, 7, 8, 9, 21, 22, 23, 24, 25, 26] [(0, 0, 0), (0, 31, 33)] [4, 10, 11] [(0, 30, 30)]) σ0 (r)) := by
  unfold fX12_operator_319
  exact zpc_ck (zpc_bs (zQ.wi h rfl) (fun σ1 hσ1 => zpc_bi (fU_fX12_waveAt hσ1) (fun σ2 v3 hσ2 => zpc_ck (zpc_bs (zQ.wi hσ2 rfl) (fun σ4 hσ4 => zpc_some hσ4)))))
theorem fU_fX12_operator_266 {σ0 : zSt} {σ : zSt} {x1 : Int32} {x2 : Int32} {x3 : Int32} {x5 : Int32} {s0 : Int32} (h : (zQ [3, 5, 6, 7, 8, 9, 21, 22, 23, 24, 25, 26] [(0, 0, 0), (0, 31, 33)] [4, 10, 11] [(0, 30, 30)]) σ0 σ) (qx3 : zr 172 274 x3) : zpc (fX12_operator_266 σ x1 x2 x3 x5 s0) (fun r => (zQ [3, 5, 6, 7, 8, 9, 21, 22, 23, 24, 25, 26] [(0, 0, 0), (0, 31, 33)] [4, 10, 11] [(0, 30, 30)]) σ0 (r)) := by
  unfold fX12_operator_266
  exact zpc_ck (zpc_ck (zpc_bv (fun v5 _ => zpc_bi (fU_fX12_isRhythm h) (fun σ6 v7 hσ6 => zpc_if (fun _ => fU_fX12_operator_319 hσ6 qx3) (fun _ => zpc_if (fun _ => fU_fX12_operator_319 hσ6 qx3) (fun _ => zpc_ck (zpc_ck (zpc_bi (fU_fX12_drum hσ6) (fun σ8 v9 hσ8 => fU_fX12_operator_319 hσ8 qx3)))))))))
theorem fU_fX12_operator_190 {σ0 : zSt} {σ : zSt} {x1 : Int32} {x2 : Int32} {x3 : Int32} (h : (zQ [3, 5, 6, 7, 8, 9, 21, 22, 23, 24, 25, 26] [(0, 0, 0), (0, 31, 33)] [4, 10, 11] [(0, 30, 30)]) σ0 σ) (qx3 : zr 172 274 x3) : zpc (fX12_operator_190 σ x1 x2 x3) (fun r => (zQ [3, 5, 6, 7, 8, 9, 21, 22, 23, 24, 25, 26] [(0, 0, 0), (0, 31, 33)] [4, 10, 11] [(0, 30, 30)]) σ0 (r)) := by
  unfold fX12_operator_190
  exact zpc_bu (fU_fX12_phase h qx3) (fun σ10 hσ10 => zpc_ck (zpc_bv (fun v11 _ => zpc_bi (fU_fX12_patchByte hσ10) (fun σ12 v13 hσ12 => zpc_bv (fun v14 _ => zpc_if (fun _ => zpc_ck (fU_fX12_operator_266 hσ12 qx3)) (fun _ => zpc_if (fun _ => fU_fX12_operator_266 hσ12 qx3) (fun _ => zpc_ck (zpc_ck (fU_fX12_operator_266 hσ12 qx3)))))))))
theorem fU_fX12_operator_146 {σ0 : zSt} {σ : zSt} {x1 : Int32} {x2 : Int32} {x3 : Int32} (h : (zQ [3, 5, 6, 7, 8, 9, 21, 22, 23, 24, 25, 26] [(0, 0, 0), (0, 31, 33)] [4, 10, 11] [(0, 30, 30)]) σ0 σ) (qx3 : zr 172 274 x3) : zpc (fX12_operator_146 σ x1 x2 x3) (fun r => (zQ [3, 5, 6, 7, 8, 9, 21, 22, 23, 24, 25, 26] [(0, 0, 0), (0, 31, 33)] [4, 10, 11] [(0, 30, 30)]) σ0 (r)) := by
  unfold fX12_operator_146
  exact zpc_ck (zpc_if (fun _ => zpc_ck (zpc_ck (zpc_bi (fU_fX12_patchByte h) (fun σ15 v16 hσ15 => zpc_if (fun _ => fU_fX12_operator_190 hσ15 qx3) (fun _ => zpc_ck (zpc_bs (zQ.wi hσ15 rfl) (fun σ17 hσ17 => fU_fX12_operator_190 hσ17 qx3))))))) (fun _ => fU_fX12_operator_190 h qx3))
theorem fU_fX12_operator_113 {σ0 : zSt} {σ : zSt} {x1 : Int32} {x2 : Int32} {x3 : Int32} (h : (zQ [3, 5, 6, 7, 8, 9, 21, 22, 23, 24, 25, 26] [(0, 0, 0), (0, 31, 33)] [4, 10, 11] [(0, 30, 30)]) σ0 σ) (qx3 : zr 172 274 x3) : zpc (fX12_operator_113 σ x1 x2 x3) (fun r => (zQ [3, 5, 6, 7, 8, 9, 21, 22, 23, 24, 25, 26] [(0, 0, 0), (0, 31, 33)] [4, 10, 11] [(0, 30, 30)]) σ0 (r)) := by
  unfold fX12_operator_113
  exact zpc_ck (zpc_if (fun _ => zpc_ck (zpc_if (fun _ => zpc_ck (zpc_bs (zQ.wi h rfl) (fun σ18 hσ18 => fU_fX12_operator_190 hσ18 qx3))) (fun _ => fU_fX12_operator_146 h qx3))) (fun _ => fU_fX12_operator_146 h qx3))
theorem fU_fX12_operator_53 {σ0 : zSt} {σ : zSt} {x1 : Int32} {x2 : Int32} {x3 : Int32} {x4 : Int32} (h : (zQ [3, 5, 6, 7, 8, 9, 21, 22, 23, 24, 25, 26] [(0, 0, 0), (0, 31, 33)] [4, 10, 11] [(0, 30, 30)]) σ0 σ) (qx3 : zr 172 274 x3) : zpc (fX12_operator_53 σ x1 x2 x3 x4) (fun r => (zQ [3, 5, 6, 7, 8, 9, 21, 22, 23, 24, 25, 26] [(0, 0, 0), (0, 31, 33)] [4, 10, 11] [(0, 30, 30)]) σ0 (r)) := by
  unfold fX12_operator_53
  exact zpc_ck (zpc_bs (zQ.wi h rfl) (fun σ19 hσ19 => zpc_bu (fU_fX12_envelope hσ19 qx3) (fun σ20 hσ20 => zpc_ck (zpc_if (fun _ => zpc_ck (zpc_if (fun _ => fU_fX12_operator_113 hσ20 qx3) (fun _ => zpc_ck (zpc_bs (zQ.wi hσ20 rfl) (fun σ21 hσ21 => zpc_ck (zpc_bs (zQ.wi hσ21 rfl) (fun σ22 hσ22 => fU_fX12_operator_190 hσ22 qx3))))))) (fun _ => fU_fX12_operator_113 hσ20 qx3)))))
theorem fU_fX12_operator_52 {σ0 : zSt} {σ : zSt} {x1 : Int32} {x2 : Int32} {x3 : Int32} {x4 : Int32} {s0 : Int32} {s1 : Int32} (h : (zQ [3, 5, 6, 7, 8, 9, 21, 22, 23, 24, 25, 26] [(0, 0, 0), (0, 31, 33)] [4, 10, 11] [(0, 30, 30)]) σ0 σ) (qx3 : zr 172 274 x3) (qs1 : zr 172 279 s1) : zpc (fX12_operator_52 σ x1 x2 x3 x4 s0 s1) (fun r => (zQ [3, 5, 6, 7, 8, 9, 21, 22, 23, 24, 25, 26] [(0, 0, 0), (0, 31, 33)] [4, 10, 11] [(0, 30, 30)]) σ0 (r)) := by
  unfold fX12_operator_52
  exact zpc_ck (zpc_bs (zQ.wi h rfl) (fun σ23 hσ23 => fU_fX12_operator_53 hσ23 qx3))
theorem fU_fX12_operator {σ0 : zSt} {σ : zSt} {x1 : Int32} {x2 : Int32} (h : (zQ [3, 5, 6, 7, 8, 9, 21, 22, 23, 24, 25, 26] [(0, 0, 0), (0, 31, 33)] [4, 10, 11] [(0, 30, 30)]) σ0 σ) (qx1 : zr 0 8 x1) (qx2 : zr 0 1 x2) : zpc (fX12_operator σ x1 x2) (fun r => (zQ [3, 5, 6, 7, 8, 9, 21, 22, 23, 24, 25, 26] [(0, 0, 0), (0, 31, 33)] [4, 10, 11] [(0, 30, 30)]) σ0 (r)) := by
  unfold fX12_operator
  exact zpc_bv (fun v24 ev24 => zpc_bi (fU_fX12_isOn h) (fun σ25 v26 hσ25 => zpc_ck (zpc_if (fun _ => fU_fX12_operator_53 hσ25 (show zr 172 274 v24 by rw [ev24]; exact (zr_add (lo := 172) (hi := 274) (zr_c (x := 172) (lo := 172) (hi := 172) (by decide)) (zr_mul (lo := 0) (hi := 102) (zr_c (x := 6) (lo := 6) (hi := 6) (by decide)) (zr_add (lo := 0) (hi := 17) (zr_mul (lo := 0) (hi := 16) (zr_c (x := 2) (lo := 2) (hi := 2) (by decide)) qx1 (by decide)) qx2 (by decide)) (by decide)) (by decide)))) (fun _ => zpc_if (fun _ => fU_fX12_operator_52 hσ25 (show zr 172 274 v24 by rw [ev24]; exact (zr_add (lo := 172) (hi := 274) (zr_c (x := 172) (lo := 172) (hi := 172) (by decide)) (zr_mul (lo := 0) (hi := 102) (zr_c (x := 6) (lo := 6) (hi := 6) (by decide)) (zr_add (lo := 0) (hi := 17) (zr_mul (lo := 0) (hi := 16) (zr_c (x := 2) (lo := 2) (hi := 2) (by decide)) qx1 (by decide)) qx2 (by decide)) (by decide)) (by decide))) (zr_w (zr_add (lo := 173) (hi := 275) (show zr 172 274 v24 by rw [ev24]; exact (zr_add (lo := 172) (hi := 274) (zr_c (x := 172) (lo := 172) (hi := 172) (by decide)) (zr_mul (lo := 0) (hi := 102) (zr_c (x := 6) (lo := 6) (hi := 6) (by decide)) (zr_add (lo := 0) (hi := 17) (zr_mul (lo := 0) (hi := 16) (zr_c (x := 2) (lo := 2) (hi := 2) (by decide)) qx1 (by decide)) qx2 (by decide)) (by decide)) (by decide))) (zr_c (x := 1) (lo := 1) (hi := 1) (by decide)) (by decide)) (by decide))) (fun _ => fU_fX12_operator_52 hσ25 (show zr 172 274 v24 by rw [ev24]; exact (zr_add (lo := 172) (hi := 274) (zr_c (x := 172) (lo := 172) (hi := 172) (by decide)) (zr_mul (lo := 0) (hi := 102) (zr_c (x := 6) (lo := 6) (hi := 6) (by decide)) (zr_add (lo := 0) (hi := 17) (zr_mul (lo := 0) (hi := 16) (zr_c (x := 2) (lo := 2) (hi := 2) (by decide)) qx1 (by decide)) qx2 (by decide)) (by decide)) (by decide))) (zr_w (zr_add (lo := 173) (hi := 275) (show zr 172 274 v24 by rw [ev24]; exact (zr_add (lo := 172) (hi := 274) (zr_c (x := 172) (lo := 172) (hi := 172) (by decide)) (zr_mul (lo := 0) (hi := 102) (zr_c (x := 6) (lo := 6) (hi := 6) (by decide)) (zr_add (lo := 0) (hi := 17) (zr_mul (lo := 0) (hi := 16) (zr_c (x := 2) (lo := 2) (hi := 2) (by decide)) qx1 (by decide)) qx2 (by decide)) (by decide)) (by decide))) (zr_c (x := 1) (lo := 1) (hi := 1) (by decide)) (by decide)) (by decide)))))))
theorem fU_fX12_waves_20_body {σ0 : zSt} {k12 : zSt → Int32 → Option (zSt)} (hk12 : ∀ (y0 : zSt) (y1 : Int32), (zQ [3, 5, 6, 7, 8, 9, 21, 22, 23, 24, 25, 26] [(0, 0, 0), (0, 31, 33)] [4, 10, 11] [(0, 30, 30)]) σ0 y0 → zr 0 9 y1 → zpc (k12 y0 y1) (fun r => (zQ [3, 5, 6, 7, 8, 9, 21, 22, 23, 24, 25, 26] [(0, 0, 0), (0, 31, 33)] [4, 10, 11] [(0, 30, 30)]) σ0 (r))) {k20 : zSt → Int32 → Int32 → Option (zSt)} (hk20 : ∀ (y0 : zSt) (y1 : Int32) (y2 : Int32), (zQ [3, 5, 6, 7, 8, 9, 21, 22, 23, 24, 25, 26] [(0, 0, 0), (0, 31, 33)] [4, 10, 11] [(0, 30, 30)]) σ0 y0 → zr 0 8 y1 → zr 0 2 y2 → zpc (k20 y0 y1 y2) (fun r => (zQ [3, 5, 6, 7, 8, 9, 21, 22, 23, 24, 25, 26] [(0, 0, 0), (0, 31, 33)] [4, 10, 11] [(0, 30, 30)]) σ0 (r))) {σ : zSt} {x1 : Int32} {x2 : Int32} (h : (zQ [3, 5, 6, 7, 8, 9, 21, 22, 23, 24, 25, 26] [(0, 0, 0), (0, 31, 33)] [4, 10, 11] [(0, 30, 30)]) σ0 σ) (qx1 : zr 0 8 x1) (qx2 : zr 0 2 x2) : zpc (fX12_waves_20_body k12 k20 σ x1 x2) (fun r => (zQ [3, 5, 6, 7, 8, 9, 21, 22, 23, 24, 25, 26] [(0, 0, 0), (0, 31, 33)] [4, 10, 11] [(0, 30, 30)]) σ0 (r)) := by
  unfold fX12_waves_20_body
  exact zpc_if (fun g2 => zpc_bv (fun v1 ev1 => hk12 _ _ h (zr_w (show zr 1 9 v1 by rw [ev1]; exact (zr_add (lo := 1) (hi := 9) qx1 (zr_c (x := 1) (lo := 1) (hi := 1) (by decide)) (by decide))) (by decide)))) (fun g2 => zpc_bu (fU_fX12_operator h qx1 (zr_nge (k := 2) (m := 1) qx2 rfl g2 (by decide))) (fun σ2 hσ2 => zpc_bv (fun v3 ev3 => hk20 _ _ _ hσ2 qx1 (zr_w (show zr 1 2 v3 by rw [ev3]; exact (zr_add (lo := 1) (hi := 2) (zr_nge (k := 2) (m := 1) qx2 rfl g2 (by decide)) (zr_c (x := 1) (lo := 1) (hi := 1) (by decide)) (by decide))) (by decide)))))
theorem fU_fX12_waves_20 {σ0 : zSt} {k12 : zSt → Int32 → Option (zSt)} (hk12 : ∀ (y0 : zSt) (y1 : Int32), (zQ [3, 5, 6, 7, 8, 9, 21, 22, 23, 24, 25, 26] [(0, 0, 0), (0, 31, 33)] [4, 10, 11] [(0, 30, 30)]) σ0 y0 → zr 0 9 y1 → zpc (k12 y0 y1) (fun r => (zQ [3, 5, 6, 7, 8, 9, 21, 22, 23, 24, 25, 26] [(0, 0, 0), (0, 31, 33)] [4, 10, 11] [(0, 30, 30)]) σ0 (r))) : ∀ (n : Nat) (y0 : zSt) (y1 : Int32) (y2 : Int32), (zQ [3, 5, 6, 7, 8, 9, 21, 22, 23, 24, 25, 26] [(0, 0, 0), (0, 31, 33)] [4, 10, 11] [(0, 30, 30)]) σ0 y0 → zr 0 8 y1 → zr 0 2 y2 → zpc (fX12_waves_20 k12 n y0 y1 y2) (fun r => (zQ [3, 5, 6, 7, 8, 9, 21, 22, 23, 24, 25, 26] [(0, 0, 0), (0, 31, 33)] [4, 10, 11] [(0, 30, 30)]) σ0 (r)) := by
  intro n
  induction n with
  | zero => intro y0 y1 y2 h q1 q2; exact zpc_none
  | succ n ih => intro y0 y1 y2 h q1 q2; exact fU_fX12_waves_20_body hk12 ih h q1 q2
theorem fU_fX12_waves_157 {σ0 : zSt} {k82 : zSt → Int32 → Int32 → Option (zSt)} (hk82 : ∀ (y0 : zSt) (y1 : Int32) (y2 : Int32), (zQ [3, 5, 6, 7, 8, 9, 21, 22, 23, 24, 25, 26] [(0, 0, 0), (0, 31, 33)] [4, 10, 11] [(0, 30, 30)]) σ0 y0 → zpc (k82 y0 y1 y2) (fun r => (zQ [3, 5, 6, 7, 8, 9, 21, 22, 23, 24, 25, 26] [(0, 0, 0), (0, 31, 33)] [4, 10, 11] [(0, 30, 30)]) σ0 (r))) {σ : zSt} {x2 : Int32} {x3 : Int32} (h : (zQ [3, 5, 6, 7, 8, 9, 21, 22, 23, 24, 25, 26] [(0, 0, 0), (0, 31, 33)] [4, 10, 11] [(0, 30, 30)]) σ0 σ) : zpc (fX12_waves_157 k82 σ x2 x3) (fun r => (zQ [3, 5, 6, 7, 8, 9, 21, 22, 23, 24, 25, 26] [(0, 0, 0), (0, 31, 33)] [4, 10, 11] [(0, 30, 30)]) σ0 (r)) := by
  unfold fX12_waves_157
  exact zpc_bv (fun v4 _ => hk82 _ _ _ h)
theorem fU_fX12_waves_153 {σ0 : zSt} {k82 : zSt → Int32 → Int32 → Option (zSt)} (hk82 : ∀ (y0 : zSt) (y1 : Int32) (y2 : Int32), (zQ [3, 5, 6, 7, 8, 9, 21, 22, 23, 24, 25, 26] [(0, 0, 0), (0, 31, 33)] [4, 10, 11] [(0, 30, 30)]) σ0 y0 → zpc (k82 y0 y1 y2) (fun r => (zQ [3, 5, 6, 7, 8, 9, 21, 22, 23, 24, 25, 26] [(0, 0, 0), (0, 31, 33)] [4, 10, 11] [(0, 30, 30)]) σ0 (r))) {σ : zSt} {x3 : Int32} {s0 : Int32} {s1 : Int32} {s2 : Int32} {s3 : Int32} (h : (zQ [3, 5, 6, 7, 8, 9, 21, 22, 23, 24, 25, 26] [(0, 0, 0), (0, 31, 33)] [4, 10, 11] [(0, 30, 30)]) σ0 σ) : zpc (fX12_waves_153 k82 σ x3 s0 s1 s2 s3) (fun r => (zQ [3, 5, 6, 7, 8, 9, 21, 22, 23, 24, 25, 26] [(0, 0, 0), (0, 31, 33)] [4, 10, 11] [(0, 30, 30)]) σ0 (r)) := by
  unfold fX12_waves_153
  exact zpc_bv (fun v5 _ => fU_fX12_waves_157 hk82 h)
theorem fU_fX12_waves_82_body {σ0 : zSt} {k82 : zSt → Int32 → Int32 → Option (zSt)} (hk82 : ∀ (y0 : zSt) (y1 : Int32) (y2 : Int32), (zQ [3, 5, 6, 7, 8, 9, 21, 22, 23, 24, 25, 26] [(0, 0, 0), (0, 31, 33)] [4, 10, 11] [(0, 30, 30)]) σ0 y0 → zpc (k82 y0 y1 y2) (fun r => (zQ [3, 5, 6, 7, 8, 9, 21, 22, 23, 24, 25, 26] [(0, 0, 0), (0, 31, 33)] [4, 10, 11] [(0, 30, 30)]) σ0 (r))) {σ : zSt} {x2 : Int32} {x3 : Int32} (h : (zQ [3, 5, 6, 7, 8, 9, 21, 22, 23, 24, 25, 26] [(0, 0, 0), (0, 31, 33)] [4, 10, 11] [(0, 30, 30)]) σ0 σ) : zpc (fX12_waves_82_body k82 σ x2 x3) (fun r => (zQ [3, 5, 6, 7, 8, 9, 21, 22, 23, 24, 25, 26] [(0, 0, 0), (0, 31, 33)] [4, 10, 11] [(0, 30, 30)]) σ0 (r)) := by
  unfold fX12_waves_82_body
  exact zpc_if (fun _ => zpc_ck (zpc_bs (zQ.wi h rfl) (fun σ6 hσ6 => zpc_some hσ6))) (fun _ => zpc_bv (fun v7 _ => zpc_bi (fU_fX12_isRhythm h) (fun σ8 v9 hσ8 => zpc_if (fun _ => zpc_ck (zpc_bv (fun v10 _ => fU_fX12_waves_157 hk82 hσ8))) (fun _ => zpc_ck (zpc_if (fun _ => fU_fX12_waves_153 hk82 hσ8) (fun _ => zpc_ck (fU_fX12_waves_153 hk82 hσ8)))))))
theorem fU_fX12_waves_82 {σ0 : zSt} : ∀ (n : Nat) (y0 : zSt) (y1 : Int32) (y2 : Int32), (zQ [3, 5, 6, 7, 8, 9, 21, 22, 23, 24, 25, 26] [(0, 0, 0), (0, 31, 33)] [4, 10, 11] [(0, 30, 30)]) σ0 y0 → zpc (fX12_waves_82 n y0 y1 y2) (fun r => (zQ [3, 5, 6, 7, 8, 9, 21, 22, 23, 24, 25, 26] [(0, 0, 0), (0, 31, 33)] [4, 10, 11] [(0, 30, 30)]) σ0 (r)) := by
  intro n
  induction n with
  | zero => intro y0 y1 y2 h; exact zpc_none
  | succ n ih => intro y0 y1 y2 h; exact fU_fX12_waves_82_body ih h
theorem fU_fX12_waves_75 {σ0 : zSt} {σ : zSt} {s0 : Int32} {s1 : Int32} (h : (zQ [3, 5, 6, 7, 8, 9, 21, 22, 23, 24, 25, 26] [(0, 0, 0), (0, 31, 33)] [4, 10, 11] [(0, 30, 30)]) σ0 σ) (qs1 : zr 164 164 s1) : zpc (fX12_waves_75 σ s0 s1) (fun r => (zQ [3, 5, 6, 7, 8, 9, 21, 22, 23, 24, 25, 26] [(0, 0, 0), (0, 31, 33)] [4, 10, 11] [(0, 30, 30)]) σ0 (r)) := by
  unfold fX12_waves_75
  exact zpc_ck (zpc_bs (zQ.wi h rfl) (fun σ11 hσ11 => fU_fX12_waves_82 _ _ _ _ hσ11))
theorem fU_fX12_waves_12_body {σ0 : zSt} {k12 : zSt → Int32 → Option (zSt)} (hk12 : ∀ (y0 : zSt) (y1 : Int32), (zQ [3, 5, 6, 7, 8, 9, 21, 22, 23, 24, 25, 26] [(0, 0, 0), (0, 31, 33)] [4, 10, 11] [(0, 30, 30)]) σ0 y0 → zr 0 9 y1 → zpc (k12 y0 y1) (fun r => (zQ [3, 5, 6, 7, 8, 9, 21, 22, 23, 24, 25, 26] [(0, 0, 0), (0, 31, 33)] [4, 10, 11] [(0, 30, 30)]) σ0 (r))) {σ : zSt} {x1 : Int32} (h : (zQ [3, 5, 6, 7, 8, 9, 21, 22, 23, 24, 25, 26] [(0, 0, 0), (0, 31, 33)] [4, 10, 11] [(0, 30, 30)]) σ0 σ) (qx1 : zr 0 9 x1) : zpc (fX12_waves_12_body k12 σ x1) (fun r => (zQ [3, 5, 6, 7, 8, 9, 21, 22, 23, 24, 25, 26] [(0, 0, 0), (0, 31, 33)] [4, 10, 11] [(0, 30, 30)]) σ0 (r)) := by
  unfold fX12_waves_12_body
  exact zpc_if (fun g3 => zpc_ck (zpc_bv (fun v12 _ => zpc_if (fun _ => fU_fX12_waves_75 h (zr_c (x := 164) (lo := 164) (hi := 164) (by decide))) (fun _ => fU_fX12_waves_75 h (zr_c (x := 164) (lo := 164) (hi := 164) (by decide)))))) (fun g3 => fU_fX12_waves_20 hk12 _ _ _ _ h (zr_nge (k := 9) (m := 8) qx1 rfl g3 (by decide)) (zr_w (zr_c (x := 0) (lo := 0) (hi := 0) (by decide)) (by decide)))
theorem fU_fX12_waves_12 {σ0 : zSt} : ∀ (n : Nat) (y0 : zSt) (y1 : Int32), (zQ [3, 5, 6, 7, 8, 9, 21, 22, 23, 24, 25, 26] [(0, 0, 0), (0, 31, 33)] [4, 10, 11] [(0, 30, 30)]) σ0 y0 → zr 0 9 y1 → zpc (fX12_waves_12 n y0 y1) (fun r => (zQ [3, 5, 6, 7, 8, 9, 21, 22, 23, 24, 25, 26] [(0, 0, 0), (0, 31, 33)] [4, 10, 11] [(0, 30, 30)]) σ0 (r)) := by
  intro n
  induction n with
  | zero => intro y0 y1 h q1; exact zpc_none
  | succ n ih => intro y0 y1 h q1; exact fU_fX12_waves_12_body ih h q1
theorem fU_fX12_waves {σ0 : zSt} {σ : zSt} (h : (zQ [3, 5, 6, 7, 8, 9, 21, 22, 23, 24, 25, 26] [(0, 0, 0), (0, 31, 33)] [4, 10, 11] [(0, 30, 30)]) σ0 σ) : zpc (fX12_waves σ) (fun r => (zQ [3, 5, 6, 7, 8, 9, 21, 22, 23, 24, 25, 26] [(0, 0, 0), (0, 31, 33)] [4, 10, 11] [(0, 30, 30)]) σ0 (r)) := by
  unfold fX12_waves
  exact zpc_ck (zpc_ck (zpc_bs (zQ.wl h rfl) (fun σ13 hσ13 => fU_fX12_waves_12 _ _ _ hσ13 (zr_w (zr_c (x := 0) (lo := 0) (hi := 0) (by decide)) (by decide)))))
theorem fU_fX12_mixed_151 {σ0 : zSt} {σ : zSt} {x2 : Int64} (h : (zQ [3, 5, 6, 7, 8, 9, 21, 22, 23, 24, 25, 26] [(0, 0, 0), (0, 31, 33)] [4, 10, 11] [(0, 30, 30)]) σ0 σ) : zpc (fX12_mixed_151 σ x2) (fun r => (zQ [3, 5, 6, 7, 8, 9, 21, 22, 23, 24, 25, 26] [(0, 0, 0), (0, 31, 33)] [4, 10, 11] [(0, 30, 30)]) σ0 (r)) := by
  unfold fX12_mixed_151
  exact zpc_ck (zpc_ck (zpc_ck (zpc_ck (zpc_bs (zQ.wl h rfl) (fun σ1 hσ1 => zpc_some hσ1)))))
theorem fU_fX12_mixed_76_body {σ0 : zSt} {k76 : zSt → Int64 → Int32 → Option (zSt)} (hk76 : ∀ (y0 : zSt) (y1 : Int64) (y2 : Int32), (zQ [3, 5, 6, 7, 8, 9, 21, 22, 23, 24, 25, 26] [(0, 0, 0), (0, 31, 33)] [4, 10, 11] [(0, 30, 30)]) σ0 y0 → zr 0 3 y2 → zpc (k76 y0 y1 y2) (fun r => (zQ [3, 5, 6, 7, 8, 9, 21, 22, 23, 24, 25, 26] [(0, 0, 0), (0, 31, 33)] [4, 10, 11] [(0, 30, 30)]) σ0 (r))) {σ : zSt} {x2 : Int64} {x4 : Int32} (h : (zQ [3, 5, 6, 7, 8, 9, 21, 22, 23, 24, 25, 26] [(0, 0, 0), (0, 31, 33)] [4, 10, 11] [(0, 30, 30)]) σ0 σ) (qx4 : zr 0 3 x4) : zpc (fX12_mixed_76_body k76 σ x2 x4) (fun r => (zQ [3, 5, 6, 7, 8, 9, 21, 22, 23, 24, 25, 26] [(0, 0, 0), (0, 31, 33)] [4, 10, 11] [(0, 30, 30)]) σ0 (r)) := by
  unfold fX12_mixed_76_body
  exact zpc_if (fun g4 => zpc_ck (zpc_if (fun _ => zpc_ck (zpc_ck (zpc_ck (zpc_bs (zQ.wi h rfl) (fun σ3 hσ3 => fU_fX12_mixed_151 hσ3))))) (fun _ => zpc_ck (zpc_ck (zpc_bs (zQ.wi h rfl) (fun σ2 hσ2 => fU_fX12_mixed_151 hσ2)))))) (fun g4 => zpc_ck (zpc_bs (zQ.wi h rfl) (fun σ4 hσ4 => zpc_bv (fun v5 ev5 => hk76 _ _ _ hσ4 (zr_w (show zr 1 3 v5 by rw [ev5]; exact (zr_add (lo := 1) (hi := 3) (zr_nge (k := 3) (m := 2) qx4 rfl g4 (by decide)) (zr_c (x := 1) (lo := 1) (hi := 1) (by decide)) (by decide))) (by decide))))))
theorem fU_fX12_mixed_76 {σ0 : zSt} : ∀ (n : Nat) (y0 : zSt) (y1 : Int64) (y2 : Int32), (zQ [3, 5, 6, 7, 8, 9, 21, 22, 23, 24, 25, 26] [(0, 0, 0), (0, 31, 33)] [4, 10, 11] [(0, 30, 30)]) σ0 y0 → zr 0 3 y2 → zpc (fX12_mixed_76 n y0 y1 y2) (fun r => (zQ [3, 5, 6, 7, 8, 9, 21, 22, 23, 24, 25, 26] [(0, 0, 0), (0, 31, 33)] [4, 10, 11] [(0, 30, 30)]) σ0 (r)) := by
  intro n
  induction n with
  | zero => intro y0 y1 y2 h q2; exact zpc_none
  | succ n ih => intro y0 y1 y2 h q2; exact fU_fX12_mixed_76_body ih h q2
theorem fU_fX12_mixed_26 {σ0 : zSt} {σ : zSt} {s0 : Int32} (h : (zQ [3, 5, 6, 7, 8, 9, 21, 22, 23, 24, 25, 26] [(0, 0, 0), (0, 31, 33)] [4, 10, 11] [(0, 30, 30)]) σ0 σ) : zpc (fX12_mixed_26 σ s0) (fun r => (zQ [3, 5, 6, 7, 8, 9, 21, 22, 23, 24, 25, 26] [(0, 0, 0), (0, 31, 33)] [4, 10, 11] [(0, 30, 30)]) σ0 (r)) := by
  unfold fX12_mixed_26
  exact zpc_ck (zpc_ck (zpc_ck (zpc_ck (zpc_ck (zpc_ck (zpc_bv (fun v6 _ => fU_fX12_mixed_76 _ _ _ _ h (zr_w (zr_c (x := 0) (lo := 0) (hi := 0) (by decide)) (by decide)))))))))
theorem fU_fX12_mixed {σ0 : zSt} {σ : zSt} (h : (zQ [3, 5, 6, 7, 8, 9, 21, 22, 23, 24, 25, 26] [(0, 0, 0), (0, 31, 33)] [4, 10, 11] [(0, 30, 30)]) σ0 σ) : zpc (fX12_mixed σ) (fun r => (zQ [3, 5, 6, 7, 8, 9, 21, 22, 23, 24, 25, 26] [(0, 0, 0), (0, 31, 33)] [4, 10, 11] [(0, 30, 30)]) σ0 (r)) := by
  unfold fX12_mixed
  exact zpc_ck (zpc_if (fun _ => zpc_ck (fU_fX12_mixed_26 h)) (fun _ => fU_fX12_mixed_26 h))
theorem fU_fX12_asks_48 {σ0 : zSt} {σ : zSt} {s0 : Int32} (h : (zQ [3, 5, 6, 7, 8, 9, 21, 22, 23, 24, 25, 26] [(0, 0, 0), (0, 31, 33)] [4, 10, 11] [(0, 30, 30)]) σ0 σ) : zpc (fX12_asks_48 σ s0) (fun r => (zQ [3, 5, 6, 7, 8, 9, 21, 22, 23, 24, 25, 26] [(0, 0, 0), (0, 31, 33)] [4, 10, 11] [(0, 30, 30)]) σ0 (r.1)) := by
  unfold fX12_asks_48
  exact zpc_ck (zpc_some h)
theorem fU_fX12_asks_47 {σ0 : zSt} {σ : zSt} (h : (zQ [3, 5, 6, 7, 8, 9, 21, 22, 23, 24, 25, 26] [(0, 0, 0), (0, 31, 33)] [4, 10, 11] [(0, 30, 30)]) σ0 σ) : zpc (fX12_asks_47 σ) (fun r => (zQ [3, 5, 6, 7, 8, 9, 21, 22, 23, 24, 25, 26] [(0, 0, 0), (0, 31, 33)] [4, 10, 11] [(0, 30, 30)]) σ0 (r.1)) := by
  unfold fX12_asks_47
  exact fU_fX12_asks_48 h
theorem fU_fX12_asks_43 {σ0 : zSt} {σ : zSt} (h : (zQ [3, 5, 6, 7, 8, 9, 21, 22, 23, 24, 25, 26] [(0, 0, 0), (0, 31, 33)] [4, 10, 11] [(0, 30, 30)]) σ0 σ) : zpc (fX12_asks_43 σ) (fun r => (zQ [3, 5, 6, 7, 8, 9, 21, 22, 23, 24, 25, 26] [(0, 0, 0), (0, 31, 33)] [4, 10, 11] [(0, 30, 30)]) σ0 (r.1)) := by
  unfold fX12_asks_43
  exact fU_fX12_asks_48 h
theorem fU_fX12_asks_22 {σ0 : zSt} {σ : zSt} (h : (zQ [3, 5, 6, 7, 8, 9, 21, 22, 23, 24, 25, 26] [(0, 0, 0), (0, 31, 33)] [4, 10, 11] [(0, 30, 30)]) σ0 σ) : zpc (fX12_asks_22 σ) (fun r => (zQ [3, 5, 6, 7, 8, 9, 21, 22, 23, 24, 25, 26] [(0, 0, 0), (0, 31, 33)] [4, 10, 11] [(0, 30, 30)]) σ0 (r.1)) := by
  unfold fX12_asks_22
  exact zpc_bi (fU_fX12_bit h) (fun σ1 v2 hσ1 => zpc_if (fun _ => zpc_ck (zpc_if (fun _ => fU_fX12_asks_43 hσ1) (fun _ => fU_fX12_asks_47 hσ1))) (fun _ => fU_fX12_asks_47 hσ1))
theorem fU_fX12_asks {σ0 : zSt} {σ : zSt} (h : (zQ [3, 5, 6, 7, 8, 9, 21, 22, 23, 24, 25, 26] [(0, 0, 0), (0, 31, 33)] [4, 10, 11] [(0, 30, 30)]) σ0 σ) : zpc (fX12_asks σ) (fun r => (zQ [3, 5, 6, 7, 8, 9, 21, 22, 23, 24, 25, 26] [(0, 0, 0), (0, 31, 33)] [4, 10, 11] [(0, 30, 30)]) σ0 (r.1)) := by
  unfold fX12_asks
  exact zpc_bi (fU_fX12_bit h) (fun σ3 v4 hσ3 => zpc_if (fun _ => zpc_ck (zpc_if (fun _ => fU_fX12_asks_43 hσ3) (fun _ => fU_fX12_asks_22 hσ3))) (fun _ => fU_fX12_asks_22 hσ3))
theorem fU_fX12_once_377_body {σ0 : zSt} {k377 : zSt → Int64 → Option (zSt)} (hk377 : ∀ (y0 : zSt) (y1 : Int64), (zQ [3, 5, 6, 7, 8, 9, 21, 22, 23, 24, 25, 26] [(0, 0, 0), (0, 31, 33)] [4, 10, 11] [(0, 30, 30)]) σ0 y0 → zpc (k377 y0 y1) (fun r => (zQ [3, 5, 6, 7, 8, 9, 21, 22, 23, 24, 25, 26] [(0, 0, 0), (0, 31, 33)] [4, 10, 11] [(0, 30, 30)]) σ0 (r))) {σ : zSt} {x5 : Int64} (h : (zQ [3, 5, 6, 7, 8, 9, 21, 22, 23, 24, 25, 26] [(0, 0, 0), (0, 31, 33)] [4, 10, 11] [(0, 30, 30)]) σ0 σ) : zpc (fX12_once_377_body k377 σ x5) (fun r => (zQ [3, 5, 6, 7, 8, 9, 21, 22, 23, 24, 25, 26] [(0, 0, 0), (0, 31, 33)] [4, 10, 11] [(0, 30, 30)]) σ0 (r)) := by
  unfold fX12_once_377_body
  exact zpc_ck (zpc_ck (zpc_if (fun _ => zpc_some h) (fun _ => zpc_bu (fU_fX12_mixed h) (fun σ1 hσ1 => zpc_bv (fun v2 _ => hk377 _ _ hσ1)))))
theorem fU_fX12_once_377 {σ0 : zSt} : ∀ (n : Nat) (y0 : zSt) (y1 : Int64), (zQ [3, 5, 6, 7, 8, 9, 21, 22, 23, 24, 25, 26] [(0, 0, 0), (0, 31, 33)] [4, 10, 11] [(0, 30, 30)]) σ0 y0 → zpc (fX12_once_377 n y0 y1) (fun r => (zQ [3, 5, 6, 7, 8, 9, 21, 22, 23, 24, 25, 26] [(0, 0, 0), (0, 31, 33)] [4, 10, 11] [(0, 30, 30)]) σ0 (r)) := by
  intro n
  induction n with
  | zero => intro y0 y1 h; exact zpc_none
  | succ n ih => intro y0 y1 h; exact fU_fX12_once_377_body ih h
theorem fU_fX12_once_341_body {σ0 : zSt} {k341 : zSt → Int64 → Int64 → Option (zSt)} (hk341 : ∀ (y0 : zSt) (y1 : Int64) (y2 : Int64), (zQ [3, 5, 6, 7, 8, 9, 21, 22, 23, 24, 25, 26] [(0, 0, 0), (0, 31, 33)] [4, 10, 11] [(0, 30, 30)]) σ0 y0 → zpc (k341 y0 y1 y2) (fun r => (zQ [3, 5, 6, 7, 8, 9, 21, 22, 23, 24, 25, 26] [(0, 0, 0), (0, 31, 33)] [4, 10, 11] [(0, 30, 30)]) σ0 (r))) {σ : zSt} {x3 : Int64} {x5 : Int64} (h : (zQ [3, 5, 6, 7, 8, 9, 21, 22, 23, 24, 25, 26] [(0, 0, 0), (0, 31, 33)] [4, 10, 11] [(0, 30, 30)]) σ0 σ) : zpc (fX12_once_341_body k341 σ x3 x5) (fun r => (zQ [3, 5, 6, 7, 8, 9, 21, 22, 23, 24, 25, 26] [(0, 0, 0), (0, 31, 33)] [4, 10, 11] [(0, 30, 30)]) σ0 (r)) := by
  unfold fX12_once_341_body
  exact zpc_ck (zpc_ck (zpc_if (fun _ => zpc_ck (zpc_bv (fun v3 _ => fU_fX12_once_377 _ _ _ h))) (fun _ => zpc_bu (fU_fX12_waves h) (fun σ4 hσ4 => zpc_bv (fun v5 _ => hk341 _ _ _ hσ4)))))
theorem fU_fX12_once_341 {σ0 : zSt} : ∀ (n : Nat) (y0 : zSt) (y1 : Int64) (y2 : Int64), (zQ [3, 5, 6, 7, 8, 9, 21, 22, 23, 24, 25, 26] [(0, 0, 0), (0, 31, 33)] [4, 10, 11] [(0, 30, 30)]) σ0 y0 → zpc (fX12_once_341 n y0 y1 y2) (fun r => (zQ [3, 5, 6, 7, 8, 9, 21, 22, 23, 24, 25, 26] [(0, 0, 0), (0, 31, 33)] [4, 10, 11] [(0, 30, 30)]) σ0 (r)) := by
  intro n
  induction n with
  | zero => intro y0 y1 y2 h; exact zpc_none
  | succ n ih => intro y0 y1 y2 h; exact fU_fX12_once_341_body ih h
theorem fU_fX12_once_305_body {σ0 : zSt} {k305 : zSt → Int64 → Int64 → Option (zSt)} (hk305 : ∀ (y0 : zSt) (y1 : Int64) (y2 : Int64), (zQ [3, 5, 6, 7, 8, 9, 21, 22, 23, 24, 25, 26] [(0, 0, 0), (0, 31, 33)] [4, 10, 11] [(0, 30, 30)]) σ0 y0 → zpc (k305 y0 y1 y2) (fun r => (zQ [3, 5, 6, 7, 8, 9, 21, 22, 23, 24, 25, 26] [(0, 0, 0), (0, 31, 33)] [4, 10, 11] [(0, 30, 30)]) σ0 (r))) {σ : zSt} {x3 : Int64} {x5 : Int64} (h : (zQ [3, 5, 6, 7, 8, 9, 21, 22, 23, 24, 25, 26] [(0, 0, 0), (0, 31, 33)] [4, 10, 11] [(0, 30, 30)]) σ0 σ) : zpc (fX12_once_305_body k305 σ x3 x5) (fun r => (zQ [3, 5, 6, 7, 8, 9, 21, 22, 23, 24, 25, 26] [(0, 0, 0), (0, 31, 33)] [4, 10, 11] [(0, 30, 30)]) σ0 (r)) := by
  unfold fX12_once_305_body
  exact zpc_ck (zpc_ck (zpc_if (fun _ => zpc_ck (zpc_bv (fun v6 _ => fU_fX12_once_341 _ _ _ _ h))) (fun _ => zpc_bu (fU_fX12_sample h) (fun σ7 hσ7 => zpc_bv (fun v8 _ => hk305 _ _ _ hσ7)))))
theorem fU_fX12_once_305 {σ0 : zSt} : ∀ (n : Nat) (y0 : zSt) (y1 : Int64) (y2 : Int64), (zQ [3, 5, 6, 7, 8, 9, 21, 22, 23, 24, 25, 26] [(0, 0, 0), (0, 31, 33)] [4, 10, 11] [(0, 30, 30)]) σ0 y0 → zpc (fX12_once_305 n y0 y1 y2) (fun r => (zQ [3, 5, 6, 7, 8, 9, 21, 22, 23, 24, 25, 26] [(0, 0, 0), (0, 31, 33)] [4, 10, 11] [(0, 30, 30)]) σ0 (r)) := by
  intro n
  induction n with
  | zero => intro y0 y1 y2 h; exact zpc_none
  | succ n ih => intro y0 y1 y2 h; exact fU_fX12_once_305_body ih h
theorem fU_fX12_once_298 {σ0 : zSt} {σ : zSt} {x3 : Int64} (h : (zQ [3, 5, 6, 7, 8, 9, 21, 22, 23, 24, 25, 26] [(0, 0, 0), (0, 31, 33)] [4, 10, 11] [(0, 30, 30)]) σ0 σ) : zpc (fX12_once_298 σ x3) (fun r => (zQ [3, 5, 6, 7, 8, 9, 21, 22, 23, 24, 25, 26] [(0, 0, 0), (0, 31, 33)] [4, 10, 11] [(0, 30, 30)]) σ0 (r)) := by
  unfold fX12_once_298
  exact zpc_ck (zpc_bv (fun v9 _ => fU_fX12_once_305 _ _ _ _ h))
theorem fU_fX12_once_229 {σ0 : zSt} {σ : zSt} {x2 : Int32} (h : (zQ [3, 5, 6, 7, 8, 9, 21, 22, 23, 24, 25, 26] [(0, 0, 0), (0, 31, 33)] [4, 10, 11] [(0, 30, 30)]) σ0 σ) : zpc (fX12_once_229 σ x2) (fun r => (zQ [3, 5, 6, 7, 8, 9, 21, 22, 23, 24, 25, 26] [(0, 0, 0), (0, 31, 33)] [4, 10, 11] [(0, 30, 30)]) σ0 (r)) := by
  unfold fX12_once_229
  exact zpc_ck (zpc_ck (zpc_bs (zQ.wl h rfl) (fun σ10 hσ10 => zpc_ck (zpc_bv (fun v11 _ => zpc_ck (zpc_ck (zpc_bs (zQ.wl hσ10 rfl) (fun σ12 hσ12 => zpc_ck (zpc_ck (zpc_bs (zQ.wi hσ12 rfl) (fun σ13 hσ13 => zpc_ck (zpc_if (fun _ => fU_fX12_once_298 hσ13) (fun _ => zpc_ck (zpc_ck (zpc_bs (zQ.wi hσ13 rfl) (fun σ14 hσ14 => zpc_bu (fU_fX12_ends hσ14) (fun σ15 hσ15 => fU_fX12_once_298 hσ15)))))))))))))))))
theorem fU_fX12_once_204 {σ0 : zSt} {σ : zSt} (h : (zQ [3, 5, 6, 7, 8, 9, 21, 22, 23, 24, 25, 26] [(0, 0, 0), (0, 31, 33)] [4, 10, 11] [(0, 30, 30)]) σ0 σ) : zpc (fX12_once_204 σ) (fun r => (zQ [3, 5, 6, 7, 8, 9, 21, 22, 23, 24, 25, 26] [(0, 0, 0), (0, 31, 33)] [4, 10, 11] [(0, 30, 30)]) σ0 (r)) := by
  unfold fX12_once_204
  exact zpc_ck (zpc_if (fun _ => zpc_bu (fU_fX12_grows h) (fun σ18 hσ18 => fU_fX12_once_229 hσ18)) (fun _ => zpc_bi (fU_fX12_instruction h) (fun σ16 v17 hσ16 => fU_fX12_once_229 hσ16)))
theorem fU_fX12_once_200 {σ0 : zSt} {σ : zSt} {s0 : Int32} (h : (zQ [3, 5, 6, 7, 8, 9, 21, 22, 23, 24, 25, 26] [(0, 0, 0), (0, 31, 33)] [4, 10, 11] [(0, 30, 30)]) σ0 σ) : zpc (fX12_once_200 σ s0) (fun r => (zQ [3, 5, 6, 7, 8, 9, 21, 22, 23, 24, 25, 26] [(0, 0, 0), (0, 31, 33)] [4, 10, 11] [(0, 30, 30)]) σ0 (r)) := by
  unfold fX12_once_200
  exact fU_fX12_once_229 h
theorem fU_fX12_once_179 {σ0 : zSt} {σ : zSt} {s0 : Int32} (h : (zQ [3, 5, 6, 7, 8, 9, 21, 22, 23, 24, 25, 26] [(0, 0, 0), (0, 31, 33)] [4, 10, 11] [(0, 30, 30)]) σ0 σ) : zpc (fX12_once_179 σ s0) (fun r => (zQ [3, 5, 6, 7, 8, 9, 21, 22, 23, 24, 25, 26] [(0, 0, 0), (0, 31, 33)] [4, 10, 11] [(0, 30, 30)]) σ0 (r)) := by
  unfold fX12_once_179
  exact zpc_bu (fU_fX12_call h) (fun σ19 hσ19 => zpc_ck (zpc_if (fun _ => fU_fX12_once_200 hσ19) (fun _ => fU_fX12_once_200 hσ19)))
theorem fU_fX12_once_102 {σ0 : zSt} {σ : zSt} {x1 : Int32} (h : (zQ [3, 5, 6, 7, 8, 9, 21, 22, 23, 24, 25, 26] [(0, 0, 0), (0, 31, 33)] [4, 10, 11] [(0, 30, 30)]) σ0 σ) : zpc (fX12_once_102 σ x1) (fun r => (zQ [3, 5, 6, 7, 8, 9, 21, 22, 23, 24, 25, 26] [(0, 0, 0), (0, 31, 33)] [4, 10, 11] [(0, 30, 30)]) σ0 (r)) := by
  unfold fX12_once_102
  exact zpc_ck (zpc_if (fun _ => zpc_if (fun _ => fU_fX12_once_204 h) (fun _ => zpc_bi (fU_fX12_asks h) (fun σ20 v21 hσ20 => zpc_if (fun _ => fU_fX12_once_204 hσ20) (fun _ => zpc_ck (zpc_bs (zQ.wi hσ20 rfl) (fun σ22 hσ22 => zpc_ck (zpc_bs (zQ.wi hσ22 rfl) (fun σ23 hσ23 => zpc_bu (fU_fX12_answers hσ23) (fun σ24 hσ24 => zpc_ck (zpc_if (fun _ => zpc_ck (zpc_bi (fU_fX12_word hσ24) (fun σ25 v26 hσ25 => fU_fX12_once_179 hσ25))) (fun _ => fU_fX12_once_179 hσ24))))))))))) (fun _ => fU_fX12_once_204 h))
theorem fU_fX12_once_46 {σ0 : zSt} {σ : zSt} {s0 : Int32} (h : (zQ [3, 5, 6, 7, 8, 9, 21, 22, 23, 24, 25, 26] [(0, 0, 0), (0, 31, 33)] [4, 10, 11] [(0, 30, 30)]) σ0 σ) : zpc (fX12_once_46 σ s0) (fun r => (zQ [3, 5, 6, 7, 8, 9, 21, 22, 23, 24, 25, 26] [(0, 0, 0), (0, 31, 33)] [4, 10, 11] [(0, 30, 30)]) σ0 (r)) := by
  unfold fX12_once_46
  exact zpc_ck (zpc_bs (zQ.wi h rfl) (fun σ27 hσ27 => zpc_ck (zpc_if (fun _ => zpc_if (fun _ => fU_fX12_once_102 hσ27) (fun _ => zpc_ck (zpc_bs (zQ.wi hσ27 rfl) (fun σ28 hσ28 => zpc_ck (zpc_bs (zQ.wi hσ28 rfl) (fun σ29 hσ29 => zpc_bu (fU_fX12_answers hσ29) (fun σ30 hσ30 => zpc_bu (fU_fX12_call hσ30) (fun σ31 hσ31 => fU_fX12_once_229 hσ31)))))))) (fun _ => fU_fX12_once_102 hσ27))))
theorem fU_fX12_once {σ0 : zSt} {σ : zSt} (h : (zQ [3, 5, 6, 7, 8, 9, 21, 22, 23, 24, 25, 26] [(0, 0, 0), (0, 31, 33)] [4, 10, 11] [(0, 30, 30)]) σ0 σ) : zpc (fX12_once σ) (fun r => (zQ [3, 5, 6, 7, 8, 9, 21, 22, 23, 24, 25, 26] [(0, 0, 0), (0, 31, 33)] [4, 10, 11] [(0, 30, 30)]) σ0 (r)) := by
  unfold fX12_once
  exact zpc_ck (zpc_ck (zpc_ck (zpc_bs (zQ.wi h rfl) (fun σ32 hσ32 => zpc_bs (zQ.wl hσ32 rfl) (fun σ33 hσ33 => zpc_ck (zpc_if (fun _ => fU_fX12_once_46 hσ33) (fun _ => fU_fX12_once_46 hσ33)))))))
theorem fU_fX12_isStop_2_body {σ0 : zSt} {k2 : zSt → Int32 → Int32 → Option (zSt × Int32)} (hk2 : ∀ (y0 : zSt) (y1 : Int32) (y2 : Int32), (zQ [3, 5, 6, 7, 8, 9, 21, 22, 23, 24, 25, 26] [(0, 0, 0), (0, 31, 33)] [4, 10, 11] [(0, 30, 30)]) σ0 y0 → zpc (k2 y0 y1 y2) (fun r => (zQ [3, 5, 6, 7, 8, 9, 21, 22, 23, 24, 25, 26] [(0, 0, 0), (0, 31, 33)] [4, 10, 11] [(0, 30, 30)]) σ0 (r.1))) {σ : zSt} {x1 : Int32} {x2 : Int32} (h : (zQ [3, 5, 6, 7, 8, 9, 21, 22, 23, 24, 25, 26] [(0, 0, 0), (0, 31, 33)] [4, 10, 11] [(0, 30, 30)]) σ0 σ) : zpc (fX12_isStop_2_body k2 σ x1 x2) (fun r => (zQ [3, 5, 6, 7, 8, 9, 21, 22, 23, 24, 25, 26] [(0, 0, 0), (0, 31, 33)] [4, 10, 11] [(0, 30, 30)]) σ0 (r.1)) := by
  unfold fX12_isStop_2_body
  exact zpc_ck (zpc_if (fun _ => zpc_ck (zpc_some h)) (fun _ => zpc_ck (zpc_if (fun _ => zpc_ck (zpc_some h)) (fun _ => zpc_bv (fun v1 _ => hk2 _ _ _ h)))))
theorem fU_fX12_isStop_2 {σ0 : zSt} : ∀ (n : Nat) (y0 : zSt) (y1 : Int32) (y2 : Int32), (zQ [3, 5, 6, 7, 8, 9, 21, 22, 23, 24, 25, 26] [(0, 0, 0), (0, 31, 33)] [4, 10, 11] [(0, 30, 30)]) σ0 y0 → zpc (fX12_isStop_2 n y0 y1 y2) (fun r => (zQ [3, 5, 6, 7, 8, 9, 21, 22, 23, 24, 25, 26] [(0, 0, 0), (0, 31, 33)] [4, 10, 11] [(0, 30, 30)]) σ0 (r.1)) := by
  intro n
  induction n with
  | zero => intro y0 y1 y2 h; exact zpc_none
  | succ n ih => intro y0 y1 y2 h; exact fU_fX12_isStop_2_body ih h
theorem fU_fX12_isStop {σ0 : zSt} {σ : zSt} {x1 : Int32} (h : (zQ [3, 5, 6, 7, 8, 9, 21, 22, 23, 24, 25, 26] [(0, 0, 0), (0, 31, 33)] [4, 10, 11] [(0, 30, 30)]) σ0 σ) : zpc (fX12_isStop σ x1) (fun r => (zQ [3, 5, 6, 7, 8, 9, 21, 22, 23, 24, 25, 26] [(0, 0, 0), (0, 31, 33)] [4, 10, 11] [(0, 30, 30)]) σ0 (r.1)) := by
  unfold fX12_isStop
  exact fU_fX12_isStop_2 _ _ _ _ h
theorem fU_fX12_step_62 {σ0 : zSt} {σ : zSt} {x2 : Int32} (h : (zQ [3, 5, 6, 7, 8, 9, 21, 22, 23, 24, 25, 26] [(0, 0, 0), (0, 31, 33)] [4, 10, 11] [(0, 30, 30)]) σ0 σ) : zpc (fX12_step_62 σ x2) (fun r => (zQ [3, 5, 6, 7, 8, 9, 21, 22, 23, 24, 25, 26] [(0, 0, 0), (0, 31, 33)] [4, 10, 11] [(0, 30, 30)]) σ0 (r.1)) := by
  unfold fX12_step_62
  exact zpc_some h
theorem fU_fX12_step_52 {σ0 : zSt} {k29 : zSt → Int32 → Int32 → Option (zSt × Int32)} (hk29 : ∀ (y0 : zSt) (y1 : Int32) (y2 : Int32), (zQ [3, 5, 6, 7, 8, 9, 21, 22, 23, 24, 25, 26] [(0, 0, 0), (0, 31, 33)] [4, 10, 11] [(0, 30, 30)]) σ0 y0 → zpc (k29 y0 y1 y2) (fun r => (zQ [3, 5, 6, 7, 8, 9, 21, 22, 23, 24, 25, 26] [(0, 0, 0), (0, 31, 33)] [4, 10, 11] [(0, 30, 30)]) σ0 (r.1))) {σ : zSt} {x1 : Int32} {x2 : Int32} (h : (zQ [3, 5, 6, 7, 8, 9, 21, 22, 23, 24, 25, 26] [(0, 0, 0), (0, 31, 33)] [4, 10, 11] [(0, 30, 30)]) σ0 σ) : zpc (fX12_step_52 k29 σ x1 x2) (fun r => (zQ [3, 5, 6, 7, 8, 9, 21, 22, 23, 24, 25, 26] [(0, 0, 0), (0, 31, 33)] [4, 10, 11] [(0, 30, 30)]) σ0 (r.1)) := by
  unfold fX12_step_52
  exact zpc_bu (fU_fX12_once h) (fun σ1 hσ1 => zpc_bv (fun v2 _ => hk29 _ _ _ hσ1))
theorem fU_fX12_step_29_body {σ0 : zSt} {k29 : zSt → Int32 → Int32 → Option (zSt × Int32)} (hk29 : ∀ (y0 : zSt) (y1 : Int32) (y2 : Int32), (zQ [3, 5, 6, 7, 8, 9, 21, 22, 23, 24, 25, 26] [(0, 0, 0), (0, 31, 33)] [4, 10, 11] [(0, 30, 30)]) σ0 y0 → zpc (k29 y0 y1 y2) (fun r => (zQ [3, 5, 6, 7, 8, 9, 21, 22, 23, 24, 25, 26] [(0, 0, 0), (0, 31, 33)] [4, 10, 11] [(0, 30, 30)]) σ0 (r.1))) {σ : zSt} {x1 : Int32} {x2 : Int32} (h : (zQ [3, 5, 6, 7, 8, 9, 21, 22, 23, 24, 25, 26] [(0, 0, 0), (0, 31, 33)] [4, 10, 11] [(0, 30, 30)]) σ0 σ) : zpc (fX12_step_29_body k29 σ x1 x2) (fun r => (zQ [3, 5, 6, 7, 8, 9, 21, 22, 23, 24, 25, 26] [(0, 0, 0), (0, 31, 33)] [4, 10, 11] [(0, 30, 30)]) σ0 (r.1)) := by
  unfold fX12_step_29_body
  exact zpc_if (fun _ => fU_fX12_step_62 h) (fun _ => zpc_if (fun _ => fU_fX12_step_52 hk29 h) (fun _ => zpc_ck (zpc_bi (fU_fX12_isStop h) (fun σ3 v4 hσ3 => zpc_if (fun _ => fU_fX12_step_52 hk29 hσ3) (fun _ => fU_fX12_step_62 hσ3)))))
theorem fU_fX12_step_29 {σ0 : zSt} : ∀ (n : Nat) (y0 : zSt) (y1 : Int32) (y2 : Int32), (zQ [3, 5, 6, 7, 8, 9, 21, 22, 23, 24, 25, 26] [(0, 0, 0), (0, 31, 33)] [4, 10, 11] [(0, 30, 30)]) σ0 y0 → zpc (fX12_step_29 n y0 y1 y2) (fun r => (zQ [3, 5, 6, 7, 8, 9, 21, 22, 23, 24, 25, 26] [(0, 0, 0), (0, 31, 33)] [4, 10, 11] [(0, 30, 30)]) σ0 (r.1)) := by
  intro n
  induction n with
  | zero => intro y0 y1 y2 h; exact zpc_none
  | succ n ih => intro y0 y1 y2 h; exact fU_fX12_step_29_body ih h
theorem fU_fX12_step_18 {σ0 : zSt} {σ : zSt} {x1 : Int32} {s0 : Int32} (h : (zQ [3, 5, 6, 7, 8, 9, 21, 22, 23, 24, 25, 26] [(0, 0, 0), (0, 31, 33)] [4, 10, 11] [(0, 30, 30)]) σ0 σ) : zpc (fX12_step_18 σ x1 s0) (fun r => (zQ [3, 5, 6, 7, 8, 9, 21, 22, 23, 24, 25, 26] [(0, 0, 0), (0, 31, 33)] [4, 10, 11] [(0, 30, 30)]) σ0 (r.1)) := by
  unfold fX12_step_18
  exact zpc_bi (fU_fX12_fails h) (fun σ5 v6 hσ5 => zpc_if (fun _ => fU_fX12_step_29 _ _ _ _ hσ5) (fun _ => zpc_some hσ5))
theorem fU_fX12_step {σ0 : zSt} {σ : zSt} {x1 : Int32} (h : (zQ [3, 5, 6, 7, 8, 9, 21, 22, 23, 24, 25, 26] [(0, 0, 0), (0, 31, 33)] [4, 10, 11] [(0, 30, 30)]) σ0 σ) : zpc (fX12_step σ x1) (fun r => (zQ [3, 5, 6, 7, 8, 9, 21, 22, 23, 24, 25, 26] [(0, 0, 0), (0, 31, 33)] [4, 10, 11] [(0, 30, 30)]) σ0 (r.1)) := by
  unfold fX12_step
  exact zpc_bi (fU_fX12_within h) (fun σ7 v8 hσ7 => zpc_if (fun _ => fU_fX12_step_18 hσ7) (fun _ => fU_fX12_step_18 hσ7))
theorem fU_fX12_picture_80 {σ0 : zSt} {σ : zSt} {x4 : Int32} (h : (zQ [3, 5, 6, 7, 8, 9, 21, 22, 23, 24, 25, 26] [(0, 0, 0), (0, 31, 33)] [4, 10, 11] [(0, 30, 30)]) σ0 σ) : zpc (fX12_picture_80 σ x4) (fun r => (zQ [3, 5, 6, 7, 8, 9, 21, 22, 23, 24, 25, 26] [(0, 0, 0), (0, 31, 33)] [4, 10, 11] [(0, 30, 30)]) σ0 (r.1)) := by
  unfold fX12_picture_80
  exact zpc_some h
theorem fU_fX12_picture_70 {σ0 : zSt} {k40 : zSt → Int64 → Int32 → Option (zSt × Int32)} (hk40 : ∀ (y0 : zSt) (y1 : Int64) (y2 : Int32), (zQ [3, 5, 6, 7, 8, 9, 21, 22, 23, 24, 25, 26] [(0, 0, 0), (0, 31, 33)] [4, 10, 11] [(0, 30, 30)]) σ0 y0 → zpc (k40 y0 y1 y2) (fun r => (zQ [3, 5, 6, 7, 8, 9, 21, 22, 23, 24, 25, 26] [(0, 0, 0), (0, 31, 33)] [4, 10, 11] [(0, 30, 30)]) σ0 (r.1))) {σ : zSt} {x2 : Int64} {x4 : Int32} (h : (zQ [3, 5, 6, 7, 8, 9, 21, 22, 23, 24, 25, 26] [(0, 0, 0), (0, 31, 33)] [4, 10, 11] [(0, 30, 30)]) σ0 σ) : zpc (fX12_picture_70 k40 σ x2 x4) (fun r => (zQ [3, 5, 6, 7, 8, 9, 21, 22, 23, 24, 25, 26] [(0, 0, 0), (0, 31, 33)] [4, 10, 11] [(0, 30, 30)]) σ0 (r.1)) := by
  unfold fX12_picture_70
  exact zpc_bu (fU_fX12_once h) (fun σ1 hσ1 => zpc_bv (fun v2 _ => hk40 _ _ _ hσ1))
theorem fU_fX12_picture_40_body {σ0 : zSt} {k40 : zSt → Int64 → Int32 → Option (zSt × Int32)} (hk40 : ∀ (y0 : zSt) (y1 : Int64) (y2 : Int32), (zQ [3, 5, 6, 7, 8, 9, 21, 22, 23, 24, 25, 26] [(0, 0, 0), (0, 31, 33)] [4, 10, 11] [(0, 30, 30)]) σ0 y0 → zpc (k40 y0 y1 y2) (fun r => (zQ [3, 5, 6, 7, 8, 9, 21, 22, 23, 24, 25, 26] [(0, 0, 0), (0, 31, 33)] [4, 10, 11] [(0, 30, 30)]) σ0 (r.1))) {σ : zSt} {x2 : Int64} {x4 : Int32} (h : (zQ [3, 5, 6, 7, 8, 9, 21, 22, 23, 24, 25, 26] [(0, 0, 0), (0, 31, 33)] [4, 10, 11] [(0, 30, 30)]) σ0 σ) : zpc (fX12_picture_40_body k40 σ x2 x4) (fun r => (zQ [3, 5, 6, 7, 8, 9, 21, 22, 23, 24, 25, 26] [(0, 0, 0), (0, 31, 33)] [4, 10, 11] [(0, 30, 30)]) σ0 (r.1)) := by
  unfold fX12_picture_40_body
  exact zpc_ck (zpc_if (fun _ => fU_fX12_picture_80 h) (fun _ => zpc_if (fun _ => fU_fX12_picture_70 hk40 h) (fun _ => zpc_ck (zpc_bi (fU_fX12_isStop h) (fun σ3 v4 hσ3 => zpc_if (fun _ => fU_fX12_picture_70 hk40 hσ3) (fun _ => fU_fX12_picture_80 hσ3))))))
theorem fU_fX12_picture_40 {σ0 : zSt} : ∀ (n : Nat) (y0 : zSt) (y1 : Int64) (y2 : Int32), (zQ [3, 5, 6, 7, 8, 9, 21, 22, 23, 24, 25, 26] [(0, 0, 0), (0, 31, 33)] [4, 10, 11] [(0, 30, 30)]) σ0 y0 → zpc (fX12_picture_40 n y0 y1 y2) (fun r => (zQ [3, 5, 6, 7, 8, 9, 21, 22, 23, 24, 25, 26] [(0, 0, 0), (0, 31, 33)] [4, 10, 11] [(0, 30, 30)]) σ0 (r.1)) := by
  intro n
  induction n with
  | zero => intro y0 y1 y2 h; exact zpc_none
  | succ n ih => intro y0 y1 y2 h; exact fU_fX12_picture_40_body ih h
theorem fU_fX12_picture_18 {σ0 : zSt} {σ : zSt} {x1 : Int32} {s0 : Int32} (h : (zQ [3, 5, 6, 7, 8, 9, 21, 22, 23, 24, 25, 26] [(0, 0, 0), (0, 31, 33)] [4, 10, 11] [(0, 30, 30)]) σ0 σ) : zpc (fX12_picture_18 σ x1 s0) (fun r => (zQ [3, 5, 6, 7, 8, 9, 21, 22, 23, 24, 25, 26] [(0, 0, 0), (0, 31, 33)] [4, 10, 11] [(0, 30, 30)]) σ0 (r.1)) := by
  unfold fX12_picture_18
  exact zpc_bi (fU_fX12_fails h) (fun σ5 v6 hσ5 => zpc_if (fun _ => zpc_ck (zpc_bv (fun v7 _ => fU_fX12_picture_40 _ _ _ _ hσ5))) (fun _ => zpc_some hσ5))
theorem fU_fX12_picture {σ0 : zSt} {σ : zSt} {x1 : Int32} (h : (zQ [3, 5, 6, 7, 8, 9, 21, 22, 23, 24, 25, 26] [(0, 0, 0), (0, 31, 33)] [4, 10, 11] [(0, 30, 30)]) σ0 σ) : zpc (fX12_picture σ x1) (fun r => (zQ [3, 5, 6, 7, 8, 9, 21, 22, 23, 24, 25, 26] [(0, 0, 0), (0, 31, 33)] [4, 10, 11] [(0, 30, 30)]) σ0 (r.1)) := by
  unfold fX12_picture
  exact zpc_bi (fU_fX12_within h) (fun σ8 v9 hσ8 => zpc_if (fun _ => fU_fX12_picture_18 hσ8) (fun _ => fU_fX12_picture_18 hσ8))
theorem fU_fX12_dot_103 {σ0 : zSt} {σ : zSt} {s0 : Int32} (h : (zQ [3, 5, 6, 7, 8, 9, 21, 22, 23, 24, 25, 26] [(0, 0, 0), (0, 31, 33)] [4, 10, 11] [(0, 30, 30)]) σ0 σ) : zpc (fX12_dot_103 σ s0) (fun r => (zQ [3, 5, 6, 7, 8, 9, 21, 22, 23, 24, 25, 26] [(0, 0, 0), (0, 31, 33)] [4, 10, 11] [(0, 30, 30)]) σ0 (r.1)) := by
  unfold fX12_dot_103
  exact zpc_ck (zpc_some h)
theorem fU_fX12_dot_63 {σ0 : zSt} {σ : zSt} {x1 : Int32} {x2 : Int32} {x3 : Int32} {s0 : Int32} (h : (zQ [3, 5, 6, 7, 8, 9, 21, 22, 23, 24, 25, 26] [(0, 0, 0), (0, 31, 33)] [4, 10, 11] [(0, 30, 30)]) σ0 σ) : zpc (fX12_dot_63 σ x1 x2 x3 s0) (fun r => (zQ [3, 5, 6, 7, 8, 9, 21, 22, 23, 24, 25, 26] [(0, 0, 0), (0, 31, 33)] [4, 10, 11] [(0, 30, 30)]) σ0 (r.1)) := by
  unfold fX12_dot_63
  exact zpc_bi (fU_fX12_fails h) (fun σ1 v2 hσ1 => zpc_if (fun _ => zpc_if (fun _ => fU_fX12_dot_103 hσ1) (fun _ => fU_fX12_dot_103 hσ1)) (fun _ => zpc_some hσ1))
theorem fU_fX12_dot_58 {σ0 : zSt} {σ : zSt} {x1 : Int32} {x2 : Int32} {x3 : Int32} (h : (zQ [3, 5, 6, 7, 8, 9, 21, 22, 23, 24, 25, 26] [(0, 0, 0), (0, 31, 33)] [4, 10, 11] [(0, 30, 30)]) σ0 σ) : zpc (fX12_dot_58 σ x1 x2 x3) (fun r => (zQ [3, 5, 6, 7, 8, 9, 21, 22, 23, 24, 25, 26] [(0, 0, 0), (0, 31, 33)] [4, 10, 11] [(0, 30, 30)]) σ0 (r.1)) := by
  unfold fX12_dot_58
  exact fU_fX12_dot_63 h
theorem fU_fX12_dot_55 {σ0 : zSt} {σ : zSt} {x1 : Int32} {x2 : Int32} {x3 : Int32} {s0 : Int32} {s1 : Int32} (h : (zQ [3, 5, 6, 7, 8, 9, 21, 22, 23, 24, 25, 26] [(0, 0, 0), (0, 31, 33)] [4, 10, 11] [(0, 30, 30)]) σ0 σ) : zpc (fX12_dot_55 σ x1 x2 x3 s0 s1) (fun r => (zQ [3, 5, 6, 7, 8, 9, 21, 22, 23, 24, 25, 26] [(0, 0, 0), (0, 31, 33)] [4, 10, 11] [(0, 30, 30)]) σ0 (r.1)) := by
  unfold fX12_dot_55
  exact zpc_if (fun _ => fU_fX12_dot_63 h) (fun _ => fU_fX12_dot_58 h)
theorem fU_fX12_dot_37 {σ0 : zSt} {σ : zSt} {x1 : Int32} {x2 : Int32} {x3 : Int32} {s0 : Int32} {s1 : Int32} (h : (zQ [3, 5, 6, 7, 8, 9, 21, 22, 23, 24, 25, 26] [(0, 0, 0), (0, 31, 33)] [4, 10, 11] [(0, 30, 30)]) σ0 σ) : zpc (fX12_dot_37 σ x1 x2 x3 s0 s1) (fun r => (zQ [3, 5, 6, 7, 8, 9, 21, 22, 23, 24, 25, 26] [(0, 0, 0), (0, 31, 33)] [4, 10, 11] [(0, 30, 30)]) σ0 (r.1)) := by
  unfold fX12_dot_37
  exact zpc_if (fun _ => fU_fX12_dot_58 h) (fun _ => zpc_if (fun _ => zpc_bi (fU_fX12_height h) (fun σ3 v4 hσ3 => fU_fX12_dot_55 hσ3)) (fun _ => fU_fX12_dot_55 h))
theorem fU_fX12_dot_13 {σ0 : zSt} {σ : zSt} {x1 : Int32} {x2 : Int32} {s0 : Int32} (h : (zQ [3, 5, 6, 7, 8, 9, 21, 22, 23, 24, 25, 26] [(0, 0, 0), (0, 31, 33)] [4, 10, 11] [(0, 30, 30)]) σ0 σ) : zpc (fX12_dot_13 σ x1 x2 s0) (fun r => (zQ [3, 5, 6, 7, 8, 9, 21, 22, 23, 24, 25, 26] [(0, 0, 0), (0, 31, 33)] [4, 10, 11] [(0, 30, 30)]) σ0 (r.1)) := by
  unfold fX12_dot_13
  exact zpc_if (fun _ => fU_fX12_dot_58 h) (fun _ => zpc_if (fun _ => fU_fX12_dot_58 h) (fun _ => zpc_if (fun _ => fU_fX12_dot_37 h) (fun _ => fU_fX12_dot_37 h)))
theorem fU_fX12_dot {σ0 : zSt} {σ : zSt} {x1 : Int32} {x2 : Int32} (h : (zQ [3, 5, 6, 7, 8, 9, 21, 22, 23, 24, 25, 26] [(0, 0, 0), (0, 31, 33)] [4, 10, 11] [(0, 30, 30)]) σ0 σ) : zpc (fX12_dot σ x1 x2) (fun r => (zQ [3, 5, 6, 7, 8, 9, 21, 22, 23, 24, 25, 26] [(0, 0, 0), (0, 31, 33)] [4, 10, 11] [(0, 30, 30)]) σ0 (r.1)) := by
  unfold fX12_dot
  exact zpc_if (fun _ => fU_fX12_dot_13 h) (fun _ => fU_fX12_dot_13 h)
theorem fU_fX12_row_111 {σ0 : zSt} {k56 : zSt → Int32 → Int32 → Int32 → Int32 → Option (zSt × Int32)} (hk56 : ∀ (y0 : zSt) (y1 : Int32) (y2 : Int32) (y3 : Int32) (y4 : Int32), (zQ [3, 5, 6, 7, 8, 9, 21, 22, 23, 24, 25, 26] [(0, 0, 0), (0, 31, 33)] [4, 10, 11] [(0, 30, 30)]) σ0 y0 → zpc (k56 y0 y1 y2 y3 y4) (fun r => (zQ [3, 5, 6, 7, 8, 9, 21, 22, 23, 24, 25, 26] [(0, 0, 0), (0, 31, 33)] [4, 10, 11] [(0, 30, 30)]) σ0 (r.1))) {σ : zSt} {x1 : Int32} {x2 : Int32} {x4 : Int32} {s0 : Int32} {s2 : Int32} (h : (zQ [3, 5, 6, 7, 8, 9, 21, 22, 23, 24, 25, 26] [(0, 0, 0), (0, 31, 33)] [4, 10, 11] [(0, 30, 30)]) σ0 σ) : zpc (fX12_row_111 k56 σ x1 x2 x4 s0 s2) (fun r => (zQ [3, 5, 6, 7, 8, 9, 21, 22, 23, 24, 25, 26] [(0, 0, 0), (0, 31, 33)] [4, 10, 11] [(0, 30, 30)]) σ0 (r.1)) := by
  unfold fX12_row_111
  exact zpc_ck (zpc_bv (fun v1 _ => zpc_bv (fun v2 _ => hk56 _ _ _ _ _ h)))
theorem fU_fX12_row_71 {σ0 : zSt} {k56 : zSt → Int32 → Int32 → Int32 → Int32 → Option (zSt × Int32)} (hk56 : ∀ (y0 : zSt) (y1 : Int32) (y2 : Int32) (y3 : Int32) (y4 : Int32), (zQ [3, 5, 6, 7, 8, 9, 21, 22, 23, 24, 25, 26] [(0, 0, 0), (0, 31, 33)] [4, 10, 11] [(0, 30, 30)]) σ0 y0 → zpc (k56 y0 y1 y2 y3 y4) (fun r => (zQ [3, 5, 6, 7, 8, 9, 21, 22, 23, 24, 25, 26] [(0, 0, 0), (0, 31, 33)] [4, 10, 11] [(0, 30, 30)]) σ0 (r.1))) {σ : zSt} {x1 : Int32} {x2 : Int32} {x3 : Int32} {x4 : Int32} {s0 : Int32} {s1 : Int32} (h : (zQ [3, 5, 6, 7, 8, 9, 21, 22, 23, 24, 25, 26] [(0, 0, 0), (0, 31, 33)] [4, 10, 11] [(0, 30, 30)]) σ0 σ) : zpc (fX12_row_71 k56 σ x1 x2 x3 x4 s0 s1) (fun r => (zQ [3, 5, 6, 7, 8, 9, 21, 22, 23, 24, 25, 26] [(0, 0, 0), (0, 31, 33)] [4, 10, 11] [(0, 30, 30)]) σ0 (r.1)) := by
  unfold fX12_row_71
  exact zpc_if (fun _ => zpc_some h) (fun _ => zpc_if (fun _ => fU_fX12_row_111 hk56 h) (fun _ => fU_fX12_row_111 hk56 h))
theorem fU_fX12_row_56_body {σ0 : zSt} {k56 : zSt → Int32 → Int32 → Int32 → Int32 → Option (zSt × Int32)} (hk56 : ∀ (y0 : zSt) (y1 : Int32) (y2 : Int32) (y3 : Int32) (y4 : Int32), (zQ [3, 5, 6, 7, 8, 9, 21, 22, 23, 24, 25, 26] [(0, 0, 0), (0, 31, 33)] [4, 10, 11] [(0, 30, 30)]) σ0 y0 → zpc (k56 y0 y1 y2 y3 y4) (fun r => (zQ [3, 5, 6, 7, 8, 9, 21, 22, 23, 24, 25, 26] [(0, 0, 0), (0, 31, 33)] [4, 10, 11] [(0, 30, 30)]) σ0 (r.1))) {σ : zSt} {x1 : Int32} {x2 : Int32} {x3 : Int32} {x4 : Int32} (h : (zQ [3, 5, 6, 7, 8, 9, 21, 22, 23, 24, 25, 26] [(0, 0, 0), (0, 31, 33)] [4, 10, 11] [(0, 30, 30)]) σ0 σ) : zpc (fX12_row_56_body k56 σ x1 x2 x3 x4) (fun r => (zQ [3, 5, 6, 7, 8, 9, 21, 22, 23, 24, 25, 26] [(0, 0, 0), (0, 31, 33)] [4, 10, 11] [(0, 30, 30)]) σ0 (r.1)) := by
  unfold fX12_row_56_body
  exact zpc_if (fun _ => fU_fX12_row_71 hk56 h) (fun _ => fU_fX12_row_71 hk56 h)
theorem fU_fX12_row_56 {σ0 : zSt} : ∀ (n : Nat) (y0 : zSt) (y1 : Int32) (y2 : Int32) (y3 : Int32) (y4 : Int32), (zQ [3, 5, 6, 7, 8, 9, 21, 22, 23, 24, 25, 26] [(0, 0, 0), (0, 31, 33)] [4, 10, 11] [(0, 30, 30)]) σ0 y0 → zpc (fX12_row_56 n y0 y1 y2 y3 y4) (fun r => (zQ [3, 5, 6, 7, 8, 9, 21, 22, 23, 24, 25, 26] [(0, 0, 0), (0, 31, 33)] [4, 10, 11] [(0, 30, 30)]) σ0 (r.1)) := by
  intro n
  induction n with
  | zero => intro y0 y1 y2 y3 y4 h; exact zpc_none
  | succ n ih => intro y0 y1 y2 y3 y4 h; exact fU_fX12_row_56_body ih h
theorem fU_fX12_row_42 {σ0 : zSt} {σ : zSt} {x1 : Int32} {x2 : Int32} {s0 : Int32} (h : (zQ [3, 5, 6, 7, 8, 9, 21, 22, 23, 24, 25, 26] [(0, 0, 0), (0, 31, 33)] [4, 10, 11] [(0, 30, 30)]) σ0 σ) : zpc (fX12_row_42 σ x1 x2 s0) (fun r => (zQ [3, 5, 6, 7, 8, 9, 21, 22, 23, 24, 25, 26] [(0, 0, 0), (0, 31, 33)] [4, 10, 11] [(0, 30, 30)]) σ0 (r.1)) := by
  unfold fX12_row_42
  exact zpc_bi (fU_fX12_fails h) (fun σ3 v4 hσ3 => zpc_if (fun _ => fU_fX12_row_56 _ _ _ _ _ _ hσ3) (fun _ => zpc_some hσ3))
theorem fU_fX12_row_37 {σ0 : zSt} {σ : zSt} {x1 : Int32} {x2 : Int32} (h : (zQ [3, 5, 6, 7, 8, 9, 21, 22, 23, 24, 25, 26] [(0, 0, 0), (0, 31, 33)] [4, 10, 11] [(0, 30, 30)]) σ0 σ) : zpc (fX12_row_37 σ x1 x2) (fun r => (zQ [3, 5, 6, 7, 8, 9, 21, 22, 23, 24, 25, 26] [(0, 0, 0), (0, 31, 33)] [4, 10, 11] [(0, 30, 30)]) σ0 (r.1)) := by
  unfold fX12_row_37
  exact fU_fX12_row_42 h
theorem fU_fX12_row_34 {σ0 : zSt} {σ : zSt} {x1 : Int32} {x2 : Int32} {s0 : Int32} {s1 : Int32} (h : (zQ [3, 5, 6, 7, 8, 9, 21, 22, 23, 24, 25, 26] [(0, 0, 0), (0, 31, 33)] [4, 10, 11] [(0, 30, 30)]) σ0 σ) : zpc (fX12_row_34 σ x1 x2 s0 s1) (fun r => (zQ [3, 5, 6, 7, 8, 9, 21, 22, 23, 24, 25, 26] [(0, 0, 0), (0, 31, 33)] [4, 10, 11] [(0, 30, 30)]) σ0 (r.1)) := by
  unfold fX12_row_34
  exact zpc_if (fun _ => fU_fX12_row_42 h) (fun _ => fU_fX12_row_37 h)
theorem fU_fX12_row_13 {σ0 : zSt} {σ : zSt} {x1 : Int32} {s0 : Int32} (h : (zQ [3, 5, 6, 7, 8, 9, 21, 22, 23, 24, 25, 26] [(0, 0, 0), (0, 31, 33)] [4, 10, 11] [(0, 30, 30)]) σ0 σ) : zpc (fX12_row_13 σ x1 s0) (fun r => (zQ [3, 5, 6, 7, 8, 9, 21, 22, 23, 24, 25, 26] [(0, 0, 0), (0, 31, 33)] [4, 10, 11] [(0, 30, 30)]) σ0 (r.1)) := by
  unfold fX12_row_13
  exact zpc_if (fun _ => fU_fX12_row_37 h) (fun _ => zpc_if (fun _ => zpc_bi (fU_fX12_height h) (fun σ5 v6 hσ5 => fU_fX12_row_34 hσ5)) (fun _ => fU_fX12_row_34 h))
theorem fU_fX12_row {σ0 : zSt} {σ : zSt} {x1 : Int32} (h : (zQ [3, 5, 6, 7, 8, 9, 21, 22, 23, 24, 25, 26] [(0, 0, 0), (0, 31, 33)] [4, 10, 11] [(0, 30, 30)]) σ0 σ) : zpc (fX12_row σ x1) (fun r => (zQ [3, 5, 6, 7, 8, 9, 21, 22, 23, 24, 25, 26] [(0, 0, 0), (0, 31, 33)] [4, 10, 11] [(0, 30, 30)]) σ0 (r.1)) := by
  unfold fX12_row
  exact zpc_if (fun _ => fU_fX12_row_13 h) (fun _ => fU_fX12_row_13 h)
theorem fU_fX12_hear_16 {σ0 : zSt} {σ : zSt} {s0 : Int32} (h : (zQ [3, 5, 6, 7, 8, 9, 21, 22, 23, 24, 25, 26] [(0, 0, 0), (0, 31, 33)] [4, 10, 11] [(0, 30, 30)]) σ0 σ) : zpc (fX12_hear_16 σ s0) (fun r => (zQ [3, 5, 6, 7, 8, 9, 21, 22, 23, 24, 25, 26] [(0, 0, 0), (0, 31, 33)] [4, 10, 11] [(0, 30, 30)]) σ0 (r.1)) := by
  unfold fX12_hear_16
  exact zpc_bi (fU_fX12_fails h) (fun σ1 v2 hσ1 => zpc_if (fun _ => zpc_ck (zpc_ck (zpc_bv (fun v3 _ => zpc_ck (zpc_ck (zpc_ck (zpc_bs (zQ.wi hσ1 rfl) (fun σ4 hσ4 => zpc_ck (zpc_ck (zpc_bs (zQ.wi hσ4 rfl) (fun σ5 hσ5 => zpc_some hσ5))))))))))) (fun _ => zpc_some hσ1))
theorem fU_fX12_hear {σ0 : zSt} {σ : zSt} (h : (zQ [3, 5, 6, 7, 8, 9, 21, 22, 23, 24, 25, 26] [(0, 0, 0), (0, 31, 33)] [4, 10, 11] [(0, 30, 30)]) σ0 σ) : zpc (fX12_hear σ) (fun r => (zQ [3, 5, 6, 7, 8, 9, 21, 22, 23, 24, 25, 26] [(0, 0, 0), (0, 31, 33)] [4, 10, 11] [(0, 30, 30)]) σ0 (r.1)) := by
  unfold fX12_hear
  exact zpc_ck (zpc_if (fun _ => fU_fX12_hear_16 h) (fun _ => fU_fX12_hear_16 h))
theorem fU_fX12_sound_52 {σ0 : zSt} {σ : zSt} {s0 : Int32} (h : (zQ [3, 5, 6, 7, 8, 9, 21, 22, 23, 24, 25, 26] [(0, 0, 0), (0, 31, 33)] [4, 10, 11] [(0, 30, 30)]) σ0 σ) : zpc (fX12_sound_52 σ s0) (fun r => (zQ [3, 5, 6, 7, 8, 9, 21, 22, 23, 24, 25, 26] [(0, 0, 0), (0, 31, 33)] [4, 10, 11] [(0, 30, 30)]) σ0 (r.1)) := by
  unfold fX12_sound_52
  exact zpc_some h
theorem fU_fX12_sound_18 {σ0 : zSt} {σ : zSt} {x1 : Int32} {s0 : Int32} (h : (zQ [3, 5, 6, 7, 8, 9, 21, 22, 23, 24, 25, 26] [(0, 0, 0), (0, 31, 33)] [4, 10, 11] [(0, 30, 30)]) σ0 σ) : zpc (fX12_sound_18 σ x1 s0) (fun r => (zQ [3, 5, 6, 7, 8, 9, 21, 22, 23, 24, 25, 26] [(0, 0, 0), (0, 31, 33)] [4, 10, 11] [(0, 30, 30)]) σ0 (r.1)) := by
  unfold fX12_sound_18
  exact zpc_bi (fU_fX12_fails h) (fun σ1 v2 hσ1 => zpc_if (fun _ => zpc_if (fun _ => zpc_ck (fU_fX12_sound_52 hσ1)) (fun _ => zpc_ck (fU_fX12_sound_52 hσ1))) (fun _ => zpc_some hσ1))
theorem fU_fX12_sound {σ0 : zSt} {σ : zSt} {x1 : Int32} (h : (zQ [3, 5, 6, 7, 8, 9, 21, 22, 23, 24, 25, 26] [(0, 0, 0), (0, 31, 33)] [4, 10, 11] [(0, 30, 30)]) σ0 σ) : zpc (fX12_sound σ x1) (fun r => (zQ [3, 5, 6, 7, 8, 9, 21, 22, 23, 24, 25, 26] [(0, 0, 0), (0, 31, 33)] [4, 10, 11] [(0, 30, 30)]) σ0 (r.1)) := by
  unfold fX12_sound
  exact zpc_bi (fU_fX12_within h) (fun σ3 v4 hσ3 => zpc_if (fun _ => fU_fX12_sound_18 hσ3) (fun _ => fU_fX12_sound_18 hσ3))
theorem fU_fX12_reset {σ0 : zSt} {σ : zSt} (h : (zQ [3, 5, 6, 7, 8, 9, 21, 22, 23, 24, 25, 26] [(0, 0, 0), (0, 31, 33)] [4, 10, 11] [(0, 30, 30)]) σ0 σ) : zpc (fX12_reset σ) (fun r => (zQ [3, 5, 6, 7, 8, 9, 21, 22, 23, 24, 25, 26] [(0, 0, 0), (0, 31, 33)] [4, 10, 11] [(0, 30, 30)]) σ0 (r)) := by
  unfold fX12_reset
  exact zpc_bs (zQ.wi h rfl) (fun σ1 hσ1 => zpc_bu (fU_fX12_anew hσ1) (fun σ2 hσ2 => zpc_some hσ2))
theorem fU_fX12_pause {σ0 : zSt} {σ : zSt} (h : (zQ [3, 5, 6, 7, 8, 9, 21, 22, 23, 24, 25, 26] [(0, 0, 0), (0, 31, 33)] [4, 10, 11] [(0, 30, 30)]) σ0 σ) : zpc (fX12_pause σ) (fun r => (zQ [3, 5, 6, 7, 8, 9, 21, 22, 23, 24, 25, 26] [(0, 0, 0), (0, 31, 33)] [4, 10, 11] [(0, 30, 30)]) σ0 (r.1)) := by
  unfold fX12_pause
  exact zpc_bs (zQ.wi h rfl) (fun σ1 hσ1 => zpc_if (fun _ => zpc_ck (zpc_some hσ1)) (fun _ => zpc_ck (zpc_bs (zQ.wi hσ1 rfl) (fun σ2 hσ2 => zpc_ck (zpc_some hσ2)))))
theorem fU_fX12_press_28 {σ0 : zSt} {σ : zSt} {x1 : Int32} {x2 : Int32} {s0 : Int32} (h : (zQ [3, 5, 6, 7, 8, 9, 21, 22, 23, 24, 25, 26] [(0, 0, 0), (0, 31, 33)] [4, 10, 11] [(0, 30, 30)]) σ0 σ) : zpc (fX12_press_28 σ x1 x2 s0) (fun r => (zQ [3, 5, 6, 7, 8, 9, 21, 22, 23, 24, 25, 26] [(0, 0, 0), (0, 31, 33)] [4, 10, 11] [(0, 30, 30)]) σ0 (r)) := by
  unfold fX12_press_28
  exact zpc_bi (fU_fX12_fails h) (fun σ1 v2 hσ1 => zpc_if (fun _ => zpc_ck (zpc_bs (zQ.wi hσ1 rfl) (fun σ3 hσ3 => zpc_some hσ3))) (fun _ => zpc_some hσ1))
theorem fU_fX12_press_23 {σ0 : zSt} {σ : zSt} {x1 : Int32} {x2 : Int32} (h : (zQ [3, 5, 6, 7, 8, 9, 21, 22, 23, 24, 25, 26] [(0, 0, 0), (0, 31, 33)] [4, 10, 11] [(0, 30, 30)]) σ0 σ) : zpc (fX12_press_23 σ x1 x2) (fun r => (zQ [3, 5, 6, 7, 8, 9, 21, 22, 23, 24, 25, 26] [(0, 0, 0), (0, 31, 33)] [4, 10, 11] [(0, 30, 30)]) σ0 (r)) := by
  unfold fX12_press_23
  exact fU_fX12_press_28 h
theorem fU_fX12_press {σ0 : zSt} {σ : zSt} {x1 : Int32} {x2 : Int32} (h : (zQ [3, 5, 6, 7, 8, 9, 21, 22, 23, 24, 25, 26] [(0, 0, 0), (0, 31, 33)] [4, 10, 11] [(0, 30, 30)]) σ0 σ) : zpc (fX12_press σ x1 x2) (fun r => (zQ [3, 5, 6, 7, 8, 9, 21, 22, 23, 24, 25, 26] [(0, 0, 0), (0, 31, 33)] [4, 10, 11] [(0, 30, 30)]) σ0 (r)) := by
  unfold fX12_press
  exact zpc_bi (fU_fX12_within h) (fun σ4 v5 hσ4 => zpc_if (fun _ => fU_fX12_press_23 hσ4) (fun _ => zpc_bi (fU_fX12_within hσ4) (fun σ6 v7 hσ6 => zpc_if (fun _ => fU_fX12_press_23 hσ6) (fun _ => fU_fX12_press_28 hσ6))))
theorem fU_fX12_start_20 {σ0 : zSt} {σ : zSt} {s0 : Int32} {s1 : Int32} (h : (zQ [3, 5, 6, 7, 8, 9, 21, 22, 23, 24, 25, 26] [(0, 0, 0), (0, 31, 33)] [4, 10, 11] [(0, 30, 30)]) σ0 σ) : zpc (fX12_start_20 σ s0 s1) (fun r => (zQ [3, 5, 6, 7, 8, 9, 21, 22, 23, 24, 25, 26] [(0, 0, 0), (0, 31, 33)] [4, 10, 11] [(0, 30, 30)]) σ0 (r)) := by
  unfold fX12_start_20
  exact zpc_ck (zpc_bs (zQ.wi h rfl) (fun σ1 hσ1 => zpc_some hσ1))
theorem fU_fX12_start {σ0 : zSt} {σ : zSt} {x1 : Int32} (h : (zQ [3, 5, 6, 7, 8, 9, 21, 22, 23, 24, 25, 26] [(0, 0, 0), (0, 31, 33)] [4, 10, 11] [(0, 30, 30)]) σ0 σ) : zpc (fX12_start σ x1) (fun r => (zQ [3, 5, 6, 7, 8, 9, 21, 22, 23, 24, 25, 26] [(0, 0, 0), (0, 31, 33)] [4, 10, 11] [(0, 30, 30)]) σ0 (r)) := by
  unfold fX12_start
  exact zpc_bs (zQ.wi h rfl) (fun σ2 hσ2 => zpc_if (fun _ => fU_fX12_start_20 hσ2) (fun _ => fU_fX12_start_20 hσ2))
theorem fU_fX12_line_72 {σ0 : zSt} {σ : zSt} (h : (zQ [3, 5, 6, 7, 8, 9, 21, 22, 23, 24, 25, 26] [(0, 0, 0), (0, 31, 33)] [4, 10, 11] [(0, 30, 30)]) σ0 σ) : zpc (fX12_line_72 σ) (fun r => (zQ [3, 5, 6, 7, 8, 9, 21, 22, 23, 24, 25, 26] [(0, 0, 0), (0, 31, 33)] [4, 10, 11] [(0, 30, 30)]) σ0 (r)) := by
  unfold fX12_line_72
  exact zpc_some h
theorem fU_fX12_line_47 {σ0 : zSt} {σ : zSt} {x1 : Int32} {x3 : Int32} {s0 : Int32} {s1 : Int32} (h : (zQ [3, 5, 6, 7, 8, 9, 21, 22, 23, 24, 25, 26] [(0, 0, 0), (0, 31, 33)] [4, 10, 11] [(0, 30, 30)]) σ0 σ) : zpc (fX12_line_47 σ x1 x3 s0 s1) (fun r => (zQ [3, 5, 6, 7, 8, 9, 21, 22, 23, 24, 25, 26] [(0, 0, 0), (0, 31, 33)] [4, 10, 11] [(0, 30, 30)]) σ0 (r)) := by
  unfold fX12_line_47
  exact zpc_ck (zpc_bs (zQ.wi h rfl) (fun σ1 hσ1 => zpc_if (fun _ => zpc_bi (fU_fX12_lineAt hσ1) (fun σ2 v3 hσ2 => zpc_if (fun _ => zpc_bi (fU_fX12_hCount hσ2) (fun σ4 v5 hσ4 => zpc_ck (zpc_bs (zQ.wi hσ4 rfl) (fun σ6 hσ6 => fU_fX12_line_72 hσ6)))) (fun _ => fU_fX12_line_72 hσ2))) (fun _ => fU_fX12_line_72 hσ1)))
theorem fU_fX12_line_16 {σ0 : zSt} {σ : zSt} {x1 : Int32} {x2 : Int32} {s0 : Int32} (h : (zQ [3, 5, 6, 7, 8, 9, 21, 22, 23, 24, 25, 26] [(0, 0, 0), (0, 31, 33)] [4, 10, 11] [(0, 30, 30)]) σ0 σ) : zpc (fX12_line_16 σ x1 x2 s0) (fun r => (zQ [3, 5, 6, 7, 8, 9, 21, 22, 23, 24, 25, 26] [(0, 0, 0), (0, 31, 33)] [4, 10, 11] [(0, 30, 30)]) σ0 (r)) := by
  unfold fX12_line_16
  exact zpc_bi (fU_fX12_fails h) (fun σ7 v8 hσ7 => zpc_if (fun _ => zpc_bi (fU_fX12_lineAt hσ7) (fun σ9 v10 hσ9 => zpc_if (fun _ => fU_fX12_line_47 hσ9) (fun _ => fU_fX12_line_47 hσ9))) (fun _ => zpc_some hσ7))
theorem fU_fX12_line {σ0 : zSt} {σ : zSt} {x1 : Int32} {x2 : Int32} (h : (zQ [3, 5, 6, 7, 8, 9, 21, 22, 23, 24, 25, 26] [(0, 0, 0), (0, 31, 33)] [4, 10, 11] [(0, 30, 30)]) σ0 σ) : zpc (fX12_line σ x1 x2) (fun r => (zQ [3, 5, 6, 7, 8, 9, 21, 22, 23, 24, 25, 26] [(0, 0, 0), (0, 31, 33)] [4, 10, 11] [(0, 30, 30)]) σ0 (r)) := by
  unfold fX12_line
  exact zpc_bi (fU_fX12_within h) (fun σ11 v12 hσ11 => zpc_if (fun _ => fU_fX12_line_16 hσ11) (fun _ => fU_fX12_line_16 hσ11))
theorem fU_fX12_stop_64 {σ0 : zSt} {σ : zSt} (h : (zQ [3, 5, 6, 7, 8, 9, 21, 22, 23, 24, 25, 26] [(0, 0, 0), (0, 31, 33)] [4, 10, 11] [(0, 30, 30)]) σ0 σ) : zpc (fX12_stop_64 σ) (fun r => (zQ [3, 5, 6, 7, 8, 9, 21, 22, 23, 24, 25, 26] [(0, 0, 0), (0, 31, 33)] [4, 10, 11] [(0, 30, 30)]) σ0 (r.1)) := by
  unfold fX12_stop_64
  exact zpc_some h
theorem fU_fX12_stop_168 {σ0 : zSt} {σ : zSt} (h : (zQ [3, 5, 6, 7, 8, 9, 21, 22, 23, 24, 25, 26] [(0, 0, 0), (0, 31, 33)] [4, 10, 11] [(0, 30, 30)]) σ0 σ) : zpc (fX12_stop_168 σ) (fun r => (zQ [3, 5, 6, 7, 8, 9, 21, 22, 23, 24, 25, 26] [(0, 0, 0), (0, 31, 33)] [4, 10, 11] [(0, 30, 30)]) σ0 (r.1)) := by
  unfold fX12_stop_168
  exact zpc_ck (zpc_some h)
theorem fU_fX12_stop_112_body {σ0 : zSt} {k112 : zSt → Int32 → Int32 → Option (zSt × Int32)} (hk112 : ∀ (y0 : zSt) (y1 : Int32) (y2 : Int32), (zQ [3, 5, 6, 7, 8, 9, 21, 22, 23, 24, 25, 26] [(0, 0, 0), (0, 31, 33)] [4, 10, 11] [(0, 30, 30)]) σ0 y0 → zpc (k112 y0 y1 y2) (fun r => (zQ [3, 5, 6, 7, 8, 9, 21, 22, 23, 24, 25, 26] [(0, 0, 0), (0, 31, 33)] [4, 10, 11] [(0, 30, 30)]) σ0 (r.1))) {σ : zSt} {x1 : Int32} {x4 : Int32} (h : (zQ [3, 5, 6, 7, 8, 9, 21, 22, 23, 24, 25, 26] [(0, 0, 0), (0, 31, 33)] [4, 10, 11] [(0, 30, 30)]) σ0 σ) : zpc (fX12_stop_112_body k112 σ x1 x4) (fun r => (zQ [3, 5, 6, 7, 8, 9, 21, 22, 23, 24, 25, 26] [(0, 0, 0), (0, 31, 33)] [4, 10, 11] [(0, 30, 30)]) σ0 (r.1)) := by
  unfold fX12_stop_112_body
  exact zpc_ck (zpc_if (fun _ => zpc_ck (zpc_ck (zpc_ck (zpc_bs (zQ.wi h rfl) (fun σ1 hσ1 => zpc_ck (zpc_ck (zpc_bs (zQ.wi hσ1 rfl) (fun σ2 hσ2 => fU_fX12_stop_168 hσ2)))))))) (fun _ => zpc_bv (fun v3 _ => hk112 _ _ _ h)))
theorem fU_fX12_stop_112 {σ0 : zSt} : ∀ (n : Nat) (y0 : zSt) (y1 : Int32) (y2 : Int32), (zQ [3, 5, 6, 7, 8, 9, 21, 22, 23, 24, 25, 26] [(0, 0, 0), (0, 31, 33)] [4, 10, 11] [(0, 30, 30)]) σ0 y0 → zpc (fX12_stop_112 n y0 y1 y2) (fun r => (zQ [3, 5, 6, 7, 8, 9, 21, 22, 23, 24, 25, 26] [(0, 0, 0), (0, 31, 33)] [4, 10, 11] [(0, 30, 30)]) σ0 (r.1)) := by
  intro n
  induction n with
  | zero => intro y0 y1 y2 h; exact zpc_none
  | succ n ih => intro y0 y1 y2 h; exact fU_fX12_stop_112_body ih h
theorem fU_fX12_stop_101 {σ0 : zSt} {σ : zSt} {x1 : Int32} {x2 : Int32} {x3 : Int32} (h : (zQ [3, 5, 6, 7, 8, 9, 21, 22, 23, 24, 25, 26] [(0, 0, 0), (0, 31, 33)] [4, 10, 11] [(0, 30, 30)]) σ0 σ) : zpc (fX12_stop_101 σ x1 x2 x3) (fun r => (zQ [3, 5, 6, 7, 8, 9, 21, 22, 23, 24, 25, 26] [(0, 0, 0), (0, 31, 33)] [4, 10, 11] [(0, 30, 30)]) σ0 (r.1)) := by
  unfold fX12_stop_101
  exact zpc_if (fun _ => zpc_if (fun _ => fU_fX12_stop_168 h) (fun _ => fU_fX12_stop_112 _ _ _ _ h)) (fun _ => fU_fX12_stop_168 h)
theorem fU_fX12_stop_57 {σ0 : zSt} {σ : zSt} {x1 : Int32} {x2 : Int32} {x3 : Int32} {s0 : Int32} (h : (zQ [3, 5, 6, 7, 8, 9, 21, 22, 23, 24, 25, 26] [(0, 0, 0), (0, 31, 33)] [4, 10, 11] [(0, 30, 30)]) σ0 σ) : zpc (fX12_stop_57 σ x1 x2 x3 s0) (fun r => (zQ [3, 5, 6, 7, 8, 9, 21, 22, 23, 24, 25, 26] [(0, 0, 0), (0, 31, 33)] [4, 10, 11] [(0, 30, 30)]) σ0 (r.1)) := by
  unfold fX12_stop_57
  exact zpc_bi (fU_fX12_fails h) (fun σ4 v5 hσ4 => zpc_if (fun _ => zpc_if (fun _ => fU_fX12_stop_101 hσ4) (fun _ => zpc_if (fun _ => zpc_ck (zpc_ck (zpc_bs (zQ.wi hσ4 rfl) (fun σ6 hσ6 => zpc_ck (zpc_ck (zpc_bs (zQ.wi hσ6 rfl) (fun σ7 hσ7 => fU_fX12_stop_101 hσ7))))))) (fun _ => fU_fX12_stop_101 hσ4))) (fun _ => fU_fX12_stop_64 hσ4))
theorem fU_fX12_stop_56 {σ0 : zSt} {σ : zSt} {x1 : Int32} {x2 : Int32} {x3 : Int32} (h : (zQ [3, 5, 6, 7, 8, 9, 21, 22, 23, 24, 25, 26] [(0, 0, 0), (0, 31, 33)] [4, 10, 11] [(0, 30, 30)]) σ0 σ) : zpc (fX12_stop_56 σ x1 x2 x3) (fun r => (zQ [3, 5, 6, 7, 8, 9, 21, 22, 23, 24, 25, 26] [(0, 0, 0), (0, 31, 33)] [4, 10, 11] [(0, 30, 30)]) σ0 (r.1)) := by
  unfold fX12_stop_56
  exact fU_fX12_stop_57 h
theorem fU_fX12_stop_24 {σ0 : zSt} {σ : zSt} {x1 : Int32} {x2 : Int32} {x3 : Int32} {s0 : Int32} (h : (zQ [3, 5, 6, 7, 8, 9, 21, 22, 23, 24, 25, 26] [(0, 0, 0), (0, 31, 33)] [4, 10, 11] [(0, 30, 30)]) σ0 σ) : zpc (fX12_stop_24 σ x1 x2 x3 s0) (fun r => (zQ [3, 5, 6, 7, 8, 9, 21, 22, 23, 24, 25, 26] [(0, 0, 0), (0, 31, 33)] [4, 10, 11] [(0, 30, 30)]) σ0 (r.1)) := by
  unfold fX12_stop_24
  exact zpc_bi (fU_fX12_fails h) (fun σ8 v9 hσ8 => zpc_if (fun _ => zpc_if (fun _ => fU_fX12_stop_56 hσ8) (fun _ => zpc_if (fun _ => zpc_ck (zpc_if (fun _ => fU_fX12_stop_57 hσ8) (fun _ => fU_fX12_stop_56 hσ8))) (fun _ => fU_fX12_stop_56 hσ8))) (fun _ => fU_fX12_stop_64 hσ8))
theorem fU_fX12_stop {σ0 : zSt} {σ : zSt} {x1 : Int32} {x2 : Int32} (h : (zQ [3, 5, 6, 7, 8, 9, 21, 22, 23, 24, 25, 26] [(0, 0, 0), (0, 31, 33)] [4, 10, 11] [(0, 30, 30)]) σ0 σ) : zpc (fX12_stop σ x1 x2) (fun r => (zQ [3, 5, 6, 7, 8, 9, 21, 22, 23, 24, 25, 26] [(0, 0, 0), (0, 31, 33)] [4, 10, 11] [(0, 30, 30)]) σ0 (r.1)) := by
  unfold fX12_stop
  exact zpc_bi (fU_fX12_isStop h) (fun σ10 v11 hσ10 => zpc_bi (fU_fX12_within hσ10) (fun σ12 v13 hσ12 => zpc_if (fun _ => fU_fX12_stop_24 hσ12) (fun _ => fU_fX12_stop_24 hσ12)))
theorem fU_fX12_register_35 {σ0 : zSt} {σ : zSt} {s0 : Int32} (h : (zQ [3, 5, 6, 7, 8, 9, 21, 22, 23, 24, 25, 26] [(0, 0, 0), (0, 31, 33)] [4, 10, 11] [(0, 30, 30)]) σ0 σ) : zpc (fX12_register_35 σ s0) (fun r => (zQ [3, 5, 6, 7, 8, 9, 21, 22, 23, 24, 25, 26] [(0, 0, 0), (0, 31, 33)] [4, 10, 11] [(0, 30, 30)]) σ0 (r.1)) := by
  unfold fX12_register_35
  exact zpc_some h
theorem fU_fX12_register_18 {σ0 : zSt} {σ : zSt} {x1 : Int32} {s0 : Int32} (h : (zQ [3, 5, 6, 7, 8, 9, 21, 22, 23, 24, 25, 26] [(0, 0, 0), (0, 31, 33)] [4, 10, 11] [(0, 30, 30)]) σ0 σ) : zpc (fX12_register_18 σ x1 s0) (fun r => (zQ [3, 5, 6, 7, 8, 9, 21, 22, 23, 24, 25, 26] [(0, 0, 0), (0, 31, 33)] [4, 10, 11] [(0, 30, 30)]) σ0 (r.1)) := by
  unfold fX12_register_18
  exact zpc_bi (fU_fX12_fails h) (fun σ1 v2 hσ1 => zpc_if (fun _ => zpc_ck (fU_fX12_register_35 hσ1)) (fun _ => fU_fX12_register_35 hσ1))
theorem fU_fX12_register {σ0 : zSt} {σ : zSt} {x1 : Int32} (h : (zQ [3, 5, 6, 7, 8, 9, 21, 22, 23, 24, 25, 26] [(0, 0, 0), (0, 31, 33)] [4, 10, 11] [(0, 30, 30)]) σ0 σ) : zpc (fX12_register σ x1) (fun r => (zQ [3, 5, 6, 7, 8, 9, 21, 22, 23, 24, 25, 26] [(0, 0, 0), (0, 31, 33)] [4, 10, 11] [(0, 30, 30)]) σ0 (r.1)) := by
  unfold fX12_register
  exact zpc_bi (fU_fX12_within h) (fun σ3 v4 hσ3 => zpc_if (fun _ => fU_fX12_register_18 hσ3) (fun _ => fU_fX12_register_18 hσ3))
theorem fU_fX12_set_105 {σ0 : zSt} {σ : zSt} (h : (zQ [3, 5, 6, 7, 8, 9, 21, 22, 23, 24, 25, 26] [(0, 0, 0), (0, 31, 33)] [4, 10, 11] [(0, 30, 30)]) σ0 σ) : zpc (fX12_set_105 σ) (fun r => (zQ [3, 5, 6, 7, 8, 9, 21, 22, 23, 24, 25, 26] [(0, 0, 0), (0, 31, 33)] [4, 10, 11] [(0, 30, 30)]) σ0 (r)) := by
  unfold fX12_set_105
  exact zpc_some h
theorem fU_fX12_set_51 {σ0 : zSt} {σ : zSt} {s0 : Int32} {s1 : Int32} (h : (zQ [3, 5, 6, 7, 8, 9, 21, 22, 23, 24, 25, 26] [(0, 0, 0), (0, 31, 33)] [4, 10, 11] [(0, 30, 30)]) σ0 σ) : zpc (fX12_set_51 σ s0 s1) (fun r => (zQ [3, 5, 6, 7, 8, 9, 21, 22, 23, 24, 25, 26] [(0, 0, 0), (0, 31, 33)] [4, 10, 11] [(0, 30, 30)]) σ0 (r)) := by
  unfold fX12_set_51
  exact zpc_ck (zpc_bs (zQ.wi h rfl) (fun σ1 hσ1 => fU_fX12_set_105 hσ1))
theorem fU_fX12_set_104 {σ0 : zSt} {σ : zSt} {s0 : Int32} {s1 : Int32} (h : (zQ [3, 5, 6, 7, 8, 9, 21, 22, 23, 24, 25, 26] [(0, 0, 0), (0, 31, 33)] [4, 10, 11] [(0, 30, 30)]) σ0 σ) : zpc (fX12_set_104 σ s0 s1) (fun r => (zQ [3, 5, 6, 7, 8, 9, 21, 22, 23, 24, 25, 26] [(0, 0, 0), (0, 31, 33)] [4, 10, 11] [(0, 30, 30)]) σ0 (r)) := by
  unfold fX12_set_104
  exact zpc_ck (zpc_bs (zQ.wi h rfl) (fun σ2 hσ2 => fU_fX12_set_105 hσ2))
theorem fU_fX12_set_18 {σ0 : zSt} {σ : zSt} {x1 : Int32} {x2 : Int32} {s0 : Int32} (h : (zQ [3, 5, 6, 7, 8, 9, 21, 22, 23, 24, 25, 26] [(0, 0, 0), (0, 31, 33)] [4, 10, 11] [(0, 30, 30)]) σ0 σ) : zpc (fX12_set_18 σ x1 x2 s0) (fun r => (zQ [3, 5, 6, 7, 8, 9, 21, 22, 23, 24, 25, 26] [(0, 0, 0), (0, 31, 33)] [4, 10, 11] [(0, 30, 30)]) σ0 (r)) := by
  unfold fX12_set_18
  exact zpc_bi (fU_fX12_fails h) (fun σ3 v4 hσ3 => zpc_if (fun _ => zpc_if (fun _ => zpc_if (fun _ => fU_fX12_set_51 hσ3) (fun _ => fU_fX12_set_51 hσ3)) (fun _ => zpc_if (fun _ => zpc_if (fun _ => zpc_if (fun _ => fU_fX12_set_104 hσ3) (fun _ => fU_fX12_set_104 hσ3)) (fun _ => fU_fX12_set_104 hσ3)) (fun _ => fU_fX12_set_104 hσ3))) (fun _ => zpc_some hσ3))
theorem fU_fX12_set {σ0 : zSt} {σ : zSt} {x1 : Int32} {x2 : Int32} (h : (zQ [3, 5, 6, 7, 8, 9, 21, 22, 23, 24, 25, 26] [(0, 0, 0), (0, 31, 33)] [4, 10, 11] [(0, 30, 30)]) σ0 σ) : zpc (fX12_set σ x1 x2) (fun r => (zQ [3, 5, 6, 7, 8, 9, 21, 22, 23, 24, 25, 26] [(0, 0, 0), (0, 31, 33)] [4, 10, 11] [(0, 30, 30)]) σ0 (r)) := by
  unfold fX12_set
  exact zpc_bi (fU_fX12_within h) (fun σ5 v6 hσ5 => zpc_if (fun _ => fU_fX12_set_18 hσ5) (fun _ => fU_fX12_set_18 hσ5))
theorem fU_fX12_peek {σ0 : zSt} {σ : zSt} {x1 : Int32} (h : (zQ [3, 5, 6, 7, 8, 9, 21, 22, 23, 24, 25, 26] [(0, 0, 0), (0, 31, 33)] [4, 10, 11] [(0, 30, 30)]) σ0 σ) : zpc (fX12_peek σ x1) (fun r => (zQ [3, 5, 6, 7, 8, 9, 21, 22, 23, 24, 25, 26] [(0, 0, 0), (0, 31, 33)] [4, 10, 11] [(0, 30, 30)]) σ0 (r.1)) := by
  unfold fX12_peek
  exact zpc_bs (zQ.wi h rfl) (fun σ1 hσ1 => zpc_bi (fU_fX12_read hσ1) (fun σ2 v3 hσ2 => zpc_some hσ2))
theorem fU_fX12_poke {σ0 : zSt} {σ : zSt} {x1 : Int32} {x2 : Int32} (h : (zQ [3, 5, 6, 7, 8, 9, 21, 22, 23, 24, 25, 26] [(0, 0, 0), (0, 31, 33)] [4, 10, 11] [(0, 30, 30)]) σ0 σ) : zpc (fX12_poke σ x1 x2) (fun r => (zQ [3, 5, 6, 7, 8, 9, 21, 22, 23, 24, 25, 26] [(0, 0, 0), (0, 31, 33)] [4, 10, 11] [(0, 30, 30)]) σ0 (r)) := by
  unfold fX12_poke
  exact zpc_bs (zQ.wi h rfl) (fun σ1 hσ1 => zpc_bu (fU_fX12_write hσ1) (fun σ2 hσ2 => zpc_some hσ2))
theorem fU_fX12_in {σ0 : zSt} {σ : zSt} {x1 : Int32} (h : (zQ [3, 5, 6, 7, 8, 9, 21, 22, 23, 24, 25, 26] [(0, 0, 0), (0, 31, 33)] [4, 10, 11] [(0, 30, 30)]) σ0 σ) : zpc (fX12_in σ x1) (fun r => (zQ [3, 5, 6, 7, 8, 9, 21, 22, 23, 24, 25, 26] [(0, 0, 0), (0, 31, 33)] [4, 10, 11] [(0, 30, 30)]) σ0 (r.1)) := by
  unfold fX12_in
  exact zpc_bs (zQ.wi h rfl) (fun σ1 hσ1 => zpc_bi (fU_fX12_port hσ1) (fun σ2 v3 hσ2 => zpc_some hσ2))
theorem fU_fX12_out {σ0 : zSt} {σ : zSt} {x1 : Int32} {x2 : Int32} (h : (zQ [3, 5, 6, 7, 8, 9, 21, 22, 23, 24, 25, 26] [(0, 0, 0), (0, 31, 33)] [4, 10, 11] [(0, 30, 30)]) σ0 σ) : zpc (fX12_out σ x1 x2) (fun r => (zQ [3, 5, 6, 7, 8, 9, 21, 22, 23, 24, 25, 26] [(0, 0, 0), (0, 31, 33)] [4, 10, 11] [(0, 30, 30)]) σ0 (r)) := by
  unfold fX12_out
  exact zpc_bs (zQ.wi h rfl) (fun σ1 hσ1 => zpc_bu (fU_fX12_portTo hσ1) (fun σ2 hσ2 => zpc_some hσ2))
theorem fU_fX12_battery_39 {σ0 : zSt} {σ : zSt} {s0 : Int32} (h : (zQ [3, 5, 6, 7, 8, 9, 21, 22, 23, 24, 25, 26] [(0, 0, 0), (0, 31, 33)] [4, 10, 11] [(0, 30, 30)]) σ0 σ) : zpc (fX12_battery_39 σ s0) (fun r => (zQ [3, 5, 6, 7, 8, 9, 21, 22, 23, 24, 25, 26] [(0, 0, 0), (0, 31, 33)] [4, 10, 11] [(0, 30, 30)]) σ0 (r.1)) := by
  unfold fX12_battery_39
  exact zpc_some h
theorem fU_fX12_battery_18 {σ0 : zSt} {σ : zSt} {x1 : Int32} {s0 : Int32} (h : (zQ [3, 5, 6, 7, 8, 9, 21, 22, 23, 24, 25, 26] [(0, 0, 0), (0, 31, 33)] [4, 10, 11] [(0, 30, 30)]) σ0 σ) : zpc (fX12_battery_18 σ x1 s0) (fun r => (zQ [3, 5, 6, 7, 8, 9, 21, 22, 23, 24, 25, 26] [(0, 0, 0), (0, 31, 33)] [4, 10, 11] [(0, 30, 30)]) σ0 (r.1)) := by
  unfold fX12_battery_18
  exact zpc_bi (fU_fX12_fails h) (fun σ1 v2 hσ1 => zpc_if (fun _ => zpc_ck (fU_fX12_battery_39 hσ1)) (fun _ => fU_fX12_battery_39 hσ1))
theorem fU_fX12_battery {σ0 : zSt} {σ : zSt} {x1 : Int32} (h : (zQ [3, 5, 6, 7, 8, 9, 21, 22, 23, 24, 25, 26] [(0, 0, 0), (0, 31, 33)] [4, 10, 11] [(0, 30, 30)]) σ0 σ) : zpc (fX12_battery σ x1) (fun r => (zQ [3, 5, 6, 7, 8, 9, 21, 22, 23, 24, 25, 26] [(0, 0, 0), (0, 31, 33)] [4, 10, 11] [(0, 30, 30)]) σ0 (r.1)) := by
  unfold fX12_battery
  exact zpc_bi (fU_fX12_within h) (fun σ3 v4 hσ3 => zpc_if (fun _ => fU_fX12_battery_18 hσ3) (fun _ => fU_fX12_battery_18 hσ3))
theorem fU_fX12_wipe_7_body {σ0 : zSt} {k7 : zSt → Int32 → Option (zSt)} (hk7 : ∀ (y0 : zSt) (y1 : Int32), (zQ [3, 5, 6, 7, 8, 9, 21, 22, 23, 24, 25, 26] [(0, 0, 0), (0, 31, 33)] [4, 10, 11] [(0, 30, 30)]) σ0 y0 → zpc (k7 y0 y1) (fun r => (zQ [3, 5, 6, 7, 8, 9, 21, 22, 23, 24, 25, 26] [(0, 0, 0), (0, 31, 33)] [4, 10, 11] [(0, 30, 30)]) σ0 (r))) {σ : zSt} {x1 : Int32} (h : (zQ [3, 5, 6, 7, 8, 9, 21, 22, 23, 24, 25, 26] [(0, 0, 0), (0, 31, 33)] [4, 10, 11] [(0, 30, 30)]) σ0 σ) : zpc (fX12_wipe_7_body k7 σ x1) (fun r => (zQ [3, 5, 6, 7, 8, 9, 21, 22, 23, 24, 25, 26] [(0, 0, 0), (0, 31, 33)] [4, 10, 11] [(0, 30, 30)]) σ0 (r)) := by
  unfold fX12_wipe_7_body
  exact zpc_if (fun _ => zpc_some h) (fun _ => zpc_ck (zpc_bs (zQ.wi h rfl) (fun σ1 hσ1 => zpc_bv (fun v2 _ => hk7 _ _ hσ1))))
theorem fU_fX12_wipe_7 {σ0 : zSt} : ∀ (n : Nat) (y0 : zSt) (y1 : Int32), (zQ [3, 5, 6, 7, 8, 9, 21, 22, 23, 24, 25, 26] [(0, 0, 0), (0, 31, 33)] [4, 10, 11] [(0, 30, 30)]) σ0 y0 → zpc (fX12_wipe_7 n y0 y1) (fun r => (zQ [3, 5, 6, 7, 8, 9, 21, 22, 23, 24, 25, 26] [(0, 0, 0), (0, 31, 33)] [4, 10, 11] [(0, 30, 30)]) σ0 (r)) := by
  intro n
  induction n with
  | zero => intro y0 y1 h; exact zpc_none
  | succ n ih => intro y0 y1 h; exact fU_fX12_wipe_7_body ih h
theorem fU_fX12_wipe {σ0 : zSt} {σ : zSt} (h : (zQ [3, 5, 6, 7, 8, 9, 21, 22, 23, 24, 25, 26] [(0, 0, 0), (0, 31, 33)] [4, 10, 11] [(0, 30, 30)]) σ0 σ) : zpc (fX12_wipe σ) (fun r => (zQ [3, 5, 6, 7, 8, 9, 21, 22, 23, 24, 25, 26] [(0, 0, 0), (0, 31, 33)] [4, 10, 11] [(0, 30, 30)]) σ0 (r)) := by
  unfold fX12_wipe
  exact zpc_bs (zQ.wi h rfl) (fun σ3 hσ3 => fU_fX12_wipe_7 _ _ _ hσ3)
theorem fU_fX12_video_11_body {σ0 : zSt} {k11 : zSt → Int32 → Int64 → Int32 → Option (zSt × Int64)} (hk11 : ∀ (y0 : zSt) (y1 : Int32) (y2 : Int64) (y3 : Int32), (zQ [3, 5, 6, 7, 8, 9, 21, 22, 23, 24, 25, 26] [(0, 0, 0), (0, 31, 33)] [4, 10, 11] [(0, 30, 30)]) σ0 y0 → zpc (k11 y0 y1 y2 y3) (fun r => (zQ [3, 5, 6, 7, 8, 9, 21, 22, 23, 24, 25, 26] [(0, 0, 0), (0, 31, 33)] [4, 10, 11] [(0, 30, 30)]) σ0 (r.1))) {σ : zSt} {x1 : Int32} {x2 : Int64} {x4 : Int32} (h : (zQ [3, 5, 6, 7, 8, 9, 21, 22, 23, 24, 25, 26] [(0, 0, 0), (0, 31, 33)] [4, 10, 11] [(0, 30, 30)]) σ0 σ) : zpc (fX12_video_11_body k11 σ x1 x2 x4) (fun r => (zQ [3, 5, 6, 7, 8, 9, 21, 22, 23, 24, 25, 26] [(0, 0, 0), (0, 31, 33)] [4, 10, 11] [(0, 30, 30)]) σ0 (r.1)) := by
  unfold fX12_video_11_body
  exact zpc_if (fun _ => zpc_some h) (fun _ => zpc_bi (fU_fX12_video8 h) (fun σ1 v2 hσ1 => zpc_bv (fun v3 _ => zpc_bv (fun v4 _ => hk11 _ _ _ _ hσ1))))
theorem fU_fX12_video_11 {σ0 : zSt} : ∀ (n : Nat) (y0 : zSt) (y1 : Int32) (y2 : Int64) (y3 : Int32), (zQ [3, 5, 6, 7, 8, 9, 21, 22, 23, 24, 25, 26] [(0, 0, 0), (0, 31, 33)] [4, 10, 11] [(0, 30, 30)]) σ0 y0 → zpc (fX12_video_11 n y0 y1 y2 y3) (fun r => (zQ [3, 5, 6, 7, 8, 9, 21, 22, 23, 24, 25, 26] [(0, 0, 0), (0, 31, 33)] [4, 10, 11] [(0, 30, 30)]) σ0 (r.1)) := by
  intro n
  induction n with
  | zero => intro y0 y1 y2 y3 h; exact zpc_none
  | succ n ih => intro y0 y1 y2 y3 h; exact fU_fX12_video_11_body ih h
theorem fU_fX12_video {σ0 : zSt} {σ : zSt} {x1 : Int32} (h : (zQ [3, 5, 6, 7, 8, 9, 21, 22, 23, 24, 25, 26] [(0, 0, 0), (0, 31, 33)] [4, 10, 11] [(0, 30, 30)]) σ0 σ) : zpc (fX12_video σ x1) (fun r => (zQ [3, 5, 6, 7, 8, 9, 21, 22, 23, 24, 25, 26] [(0, 0, 0), (0, 31, 33)] [4, 10, 11] [(0, 30, 30)]) σ0 (r.1)) := by
  unfold fX12_video
  exact zpc_bs (zQ.wi h rfl) (fun σ5 hσ5 => fU_fX12_video_11 _ _ _ _ _ hσ5)
theorem fU_fX12_chip_136 {σ0 : zSt} {σ : zSt} {s0 : Int32} (h : (zQ [3, 5, 6, 7, 8, 9, 21, 22, 23, 24, 25, 26] [(0, 0, 0), (0, 31, 33)] [4, 10, 11] [(0, 30, 30)]) σ0 σ) : zpc (fX12_chip_136 σ s0) (fun r => (zQ [3, 5, 6, 7, 8, 9, 21, 22, 23, 24, 25, 26] [(0, 0, 0), (0, 31, 33)] [4, 10, 11] [(0, 30, 30)]) σ0 (r.1)) := by
  unfold fX12_chip_136
  exact zpc_some h
theorem fU_fX12_chip_32 {σ0 : zSt} {σ : zSt} {x1 : Int32} {s0 : Int32} (h : (zQ [3, 5, 6, 7, 8, 9, 21, 22, 23, 24, 25, 26] [(0, 0, 0), (0, 31, 33)] [4, 10, 11] [(0, 30, 30)]) σ0 σ) : zpc (fX12_chip_32 σ x1 s0) (fun r => (zQ [3, 5, 6, 7, 8, 9, 21, 22, 23, 24, 25, 26] [(0, 0, 0), (0, 31, 33)] [4, 10, 11] [(0, 30, 30)]) σ0 (r.1)) := by
  unfold fX12_chip_32
  exact zpc_bi (fU_fX12_fails h) (fun σ1 v2 hσ1 => zpc_if (fun _ => zpc_if (fun _ => zpc_if (fun _ => zpc_if (fun _ => zpc_bi (fU_fX12_asks hσ1) (fun σ3 v4 hσ3 => zpc_if (fun _ => fU_fX12_chip_136 hσ3) (fun _ => fU_fX12_chip_136 hσ3))) (fun _ => zpc_if (fun _ => zpc_ck (zpc_some hσ1)) (fun _ => zpc_if (fun _ => zpc_ck (zpc_some hσ1)) (fun _ => zpc_if (fun _ => zpc_ck (zpc_some hσ1)) (fun _ => zpc_if (fun _ => zpc_ck (zpc_some hσ1)) (fun _ => zpc_if (fun _ => zpc_bi (fU_fX12_mode hσ1) (fun σ5 v6 hσ5 => zpc_some hσ5)) (fun _ => zpc_if (fun _ => zpc_bi (fU_fX12_height hσ1) (fun σ7 v8 hσ7 => zpc_some hσ7)) (fun _ => zpc_if (fun _ => zpc_bi (fU_fX12_hCount hσ1) (fun σ9 v10 hσ9 => zpc_some hσ9)) (fun _ => zpc_bi (fU_fX12_vCount hσ1) (fun σ11 v12 hσ11 => zpc_some hσ11)))))))))) (fun _ => zpc_ck (zpc_some hσ1))) (fun _ => zpc_ck (zpc_some hσ1))) (fun _ => zpc_some hσ1))
theorem fU_fX12_chip_31 {σ0 : zSt} {σ : zSt} {x1 : Int32} (h : (zQ [3, 5, 6, 7, 8, 9, 21, 22, 23, 24, 25, 26] [(0, 0, 0), (0, 31, 33)] [4, 10, 11] [(0, 30, 30)]) σ0 σ) : zpc (fX12_chip_31 σ x1) (fun r => (zQ [3, 5, 6, 7, 8, 9, 21, 22, 23, 24, 25, 26] [(0, 0, 0), (0, 31, 33)] [4, 10, 11] [(0, 30, 30)]) σ0 (r.1)) := by
  unfold fX12_chip_31
  exact fU_fX12_chip_32 h
theorem fU_fX12_chip {σ0 : zSt} {σ : zSt} {x1 : Int32} (h : (zQ [3, 5, 6, 7, 8, 9, 21, 22, 23, 24, 25, 26] [(0, 0, 0), (0, 31, 33)] [4, 10, 11] [(0, 30, 30)]) σ0 σ) : zpc (fX12_chip σ x1) (fun r => (zQ [3, 5, 6, 7, 8, 9, 21, 22, 23, 24, 25, 26] [(0, 0, 0), (0, 31, 33)] [4, 10, 11] [(0, 30, 30)]) σ0 (r.1)) := by
  unfold fX12_chip
  exact zpc_bi (fU_fX12_within h) (fun σ13 v14 hσ13 => zpc_if (fun _ => zpc_bi (fU_fX12_within hσ13) (fun σ15 v16 hσ15 => zpc_if (fun _ => fU_fX12_chip_32 hσ15) (fun _ => fU_fX12_chip_31 hσ15))) (fun _ => fU_fX12_chip_31 hσ13))
theorem fU_fX12_trace_50 {σ0 : zSt} {σ : zSt} {s0 : Int32} (h : (zQ [3, 5, 6, 7, 8, 9, 21, 22, 23, 24, 25, 26] [(0, 0, 0), (0, 31, 33)] [4, 10, 11] [(0, 30, 30)]) σ0 σ) : zpc (fX12_trace_50 σ s0) (fun r => (zQ [3, 5, 6, 7, 8, 9, 21, 22, 23, 24, 25, 26] [(0, 0, 0), (0, 31, 33)] [4, 10, 11] [(0, 30, 30)]) σ0 (r.1)) := by
  unfold fX12_trace_50
  exact zpc_some h
theorem fU_fX12_trace_27 {σ0 : zSt} {σ : zSt} (h : (zQ [3, 5, 6, 7, 8, 9, 21, 22, 23, 24, 25, 26] [(0, 0, 0), (0, 31, 33)] [4, 10, 11] [(0, 30, 30)]) σ0 σ) : zpc (fX12_trace_27 σ) (fun r => (zQ [3, 5, 6, 7, 8, 9, 21, 22, 23, 24, 25, 26] [(0, 0, 0), (0, 31, 33)] [4, 10, 11] [(0, 30, 30)]) σ0 (r.1)) := by
  unfold fX12_trace_27
  exact fU_fX12_trace_50 h
theorem fU_fX12_trace {σ0 : zSt} {σ : zSt} {x1 : Int32} (h : (zQ [3, 5, 6, 7, 8, 9, 21, 22, 23, 24, 25, 26] [(0, 0, 0), (0, 31, 33)] [4, 10, 11] [(0, 30, 30)]) σ0 σ) : zpc (fX12_trace σ x1) (fun r => (zQ [3, 5, 6, 7, 8, 9, 21, 22, 23, 24, 25, 26] [(0, 0, 0), (0, 31, 33)] [4, 10, 11] [(0, 30, 30)]) σ0 (r.1)) := by
  unfold fX12_trace
  exact zpc_bs (zQ.wi h rfl) (fun σ1 hσ1 => zpc_bi (fU_fX12_within hσ1) (fun σ2 v3 hσ2 => zpc_if (fun _ => fU_fX12_trace_27 hσ2) (fun _ => zpc_if (fun _ => zpc_ck (zpc_ck (fU_fX12_trace_50 hσ2))) (fun _ => fU_fX12_trace_27 hσ2))))
theorem fU_fX12_look_116 {σ0 : zSt} {σ : zSt} {x1 : Int32} (h : (zQ [3, 5, 6, 7, 8, 9, 21, 22, 23, 24, 25, 26] [(0, 0, 0), (0, 31, 33)] [4, 10, 11] [(0, 30, 30)]) σ0 σ) : zpc (fX12_look_116 σ x1) (fun r => (zQ [3, 5, 6, 7, 8, 9, 21, 22, 23, 24, 25, 26] [(0, 0, 0), (0, 31, 33)] [4, 10, 11] [(0, 30, 30)]) σ0 (r.1)) := by
  unfold fX12_look_116
  exact zpc_ck (zpc_some h)
theorem fU_fX12_look_169 {σ0 : zSt} {σ : zSt} {x1 : Int32} (h : (zQ [3, 5, 6, 7, 8, 9, 21, 22, 23, 24, 25, 26] [(0, 0, 0), (0, 31, 33)] [4, 10, 11] [(0, 30, 30)]) σ0 σ) : zpc (fX12_look_169 σ x1) (fun r => (zQ [3, 5, 6, 7, 8, 9, 21, 22, 23, 24, 25, 26] [(0, 0, 0), (0, 31, 33)] [4, 10, 11] [(0, 30, 30)]) σ0 (r.1)) := by
  unfold fX12_look_169
  exact zpc_ck (zpc_some h)
theorem fU_fX12_look_222 {σ0 : zSt} {σ : zSt} {s0 : Int64} (h : (zQ [3, 5, 6, 7, 8, 9, 21, 22, 23, 24, 25, 26] [(0, 0, 0), (0, 31, 33)] [4, 10, 11] [(0, 30, 30)]) σ0 σ) : zpc (fX12_look_222 σ s0) (fun r => (zQ [3, 5, 6, 7, 8, 9, 21, 22, 23, 24, 25, 26] [(0, 0, 0), (0, 31, 33)] [4, 10, 11] [(0, 30, 30)]) σ0 (r.1)) := by
  unfold fX12_look_222
  exact zpc_some h
theorem fU_fX12_look_18 {σ0 : zSt} {σ : zSt} {x1 : Int32} {s0 : Int32} (h : (zQ [3, 5, 6, 7, 8, 9, 21, 22, 23, 24, 25, 26] [(0, 0, 0), (0, 31, 33)] [4, 10, 11] [(0, 30, 30)]) σ0 σ) : zpc (fX12_look_18 σ x1 s0) (fun r => (zQ [3, 5, 6, 7, 8, 9, 21, 22, 23, 24, 25, 26] [(0, 0, 0), (0, 31, 33)] [4, 10, 11] [(0, 30, 30)]) σ0 (r.1)) := by
  unfold fX12_look_18
  exact zpc_bi (fU_fX12_fails h) (fun σ1 v2 hσ1 => zpc_if (fun _ => zpc_if (fun _ => fU_fX12_look_116 hσ1) (fun _ => zpc_if (fun _ => fU_fX12_look_116 hσ1) (fun _ => zpc_if (fun _ => fU_fX12_look_116 hσ1) (fun _ => zpc_if (fun _ => zpc_ck (zpc_some hσ1)) (fun _ => zpc_if (fun _ => zpc_ck (zpc_some hσ1)) (fun _ => zpc_if (fun _ => zpc_some hσ1) (fun _ => zpc_if (fun _ => zpc_ck (zpc_some hσ1)) (fun _ => zpc_if (fun _ => zpc_some hσ1) (fun _ => zpc_if (fun _ => zpc_ck (zpc_some hσ1)) (fun _ => zpc_if (fun _ => fU_fX12_look_169 hσ1) (fun _ => zpc_if (fun _ => fU_fX12_look_169 hσ1) (fun _ => zpc_if (fun _ => fU_fX12_look_169 hσ1) (fun _ => zpc_if (fun _ => zpc_ck (zpc_some hσ1)) (fun _ => zpc_if (fun _ => zpc_ck (zpc_some hσ1)) (fun _ => zpc_if (fun _ => zpc_ck (zpc_some hσ1)) (fun _ => zpc_if (fun _ => zpc_if (fun _ => fU_fX12_look_222 hσ1) (fun _ => fU_fX12_look_222 hσ1)) (fun _ => zpc_if (fun _ => zpc_ck (zpc_some hσ1)) (fun _ => zpc_if (fun _ => zpc_ck (zpc_some hσ1)) (fun _ => zpc_some hσ1))))))))))))))))))) (fun _ => zpc_some hσ1))
theorem fU_fX12_look {σ0 : zSt} {σ : zSt} {x1 : Int32} (h : (zQ [3, 5, 6, 7, 8, 9, 21, 22, 23, 24, 25, 26] [(0, 0, 0), (0, 31, 33)] [4, 10, 11] [(0, 30, 30)]) σ0 σ) : zpc (fX12_look σ x1) (fun r => (zQ [3, 5, 6, 7, 8, 9, 21, 22, 23, 24, 25, 26] [(0, 0, 0), (0, 31, 33)] [4, 10, 11] [(0, 30, 30)]) σ0 (r.1)) := by
  unfold fX12_look
  exact zpc_bi (fU_fX12_within h) (fun σ3 v4 hσ3 => zpc_if (fun _ => fU_fX12_look_18 hσ3) (fun _ => fU_fX12_look_18 hσ3))
theorem fU_fX12_mix_17 {σ0 : zSt} {σ : zSt} {s0 : Int32} (h : (zQ [3, 5, 6, 7, 8, 9, 21, 22, 23, 24, 25, 26] [(0, 0, 0), (0, 31, 33)] [4, 10, 11] [(0, 30, 30)]) σ0 σ) : zpc (fX12_mix_17 σ s0) (fun r => (zQ [3, 5, 6, 7, 8, 9, 21, 22, 23, 24, 25, 26] [(0, 0, 0), (0, 31, 33)] [4, 10, 11] [(0, 30, 30)]) σ0 (r.1)) := by
  unfold fX12_mix_17
  exact zpc_bi (fU_fX12_fails h) (fun σ1 v2 hσ1 => zpc_if (fun _ => zpc_ck (zpc_ck (zpc_bv (fun v3 _ => zpc_ck (zpc_ck (zpc_ck (zpc_bs (zQ.wi hσ1 rfl) (fun σ4 hσ4 => zpc_ck (zpc_ck (zpc_bs (zQ.wi hσ4 rfl) (fun σ5 hσ5 => zpc_some hσ5))))))))))) (fun _ => zpc_some hσ1))
theorem fU_fX12_mix {σ0 : zSt} {σ : zSt} (h : (zQ [3, 5, 6, 7, 8, 9, 21, 22, 23, 24, 25, 26] [(0, 0, 0), (0, 31, 33)] [4, 10, 11] [(0, 30, 30)]) σ0 σ) : zpc (fX12_mix σ) (fun r => (zQ [3, 5, 6, 7, 8, 9, 21, 22, 23, 24, 25, 26] [(0, 0, 0), (0, 31, 33)] [4, 10, 11] [(0, 30, 30)]) σ0 (r.1)) := by
  unfold fX12_mix
  exact zpc_ck (zpc_if (fun _ => fU_fX12_mix_17 h) (fun _ => fU_fX12_mix_17 h))
theorem fU_fX12_wave_41 {σ0 : zSt} {σ : zSt} {x1 : Int32} {s0 : Int32} (h : (zQ [3, 5, 6, 7, 8, 9, 21, 22, 23, 24, 25, 26] [(0, 0, 0), (0, 31, 33)] [4, 10, 11] [(0, 30, 30)]) σ0 σ) : zpc (fX12_wave_41 σ x1 s0) (fun r => (zQ [3, 5, 6, 7, 8, 9, 21, 22, 23, 24, 25, 26] [(0, 0, 0), (0, 31, 33)] [4, 10, 11] [(0, 30, 30)]) σ0 (r.1)) := by
  unfold fX12_wave_41
  exact zpc_bi (fU_fX12_fails h) (fun σ1 v2 hσ1 => zpc_if (fun _ => zpc_if (fun _ => zpc_if (fun _ => zpc_ck (zpc_some hσ1)) (fun _ => zpc_if (fun _ => zpc_ck (zpc_some hσ1)) (fun _ => zpc_if (fun _ => zpc_ck (zpc_ck (zpc_some hσ1))) (fun _ => zpc_if (fun _ => zpc_ck (zpc_some hσ1)) (fun _ => zpc_ck (zpc_ck (zpc_ck (zpc_some hσ1)))))))) (fun _ => zpc_bi (fU_fX12_wreg hσ1) (fun σ3 v4 hσ3 => zpc_some hσ3))) (fun _ => zpc_some hσ1))
theorem fU_fX12_wave_40 {σ0 : zSt} {σ : zSt} {x1 : Int32} (h : (zQ [3, 5, 6, 7, 8, 9, 21, 22, 23, 24, 25, 26] [(0, 0, 0), (0, 31, 33)] [4, 10, 11] [(0, 30, 30)]) σ0 σ) : zpc (fX12_wave_40 σ x1) (fun r => (zQ [3, 5, 6, 7, 8, 9, 21, 22, 23, 24, 25, 26] [(0, 0, 0), (0, 31, 33)] [4, 10, 11] [(0, 30, 30)]) σ0 (r.1)) := by
  unfold fX12_wave_40
  exact fU_fX12_wave_41 h
theorem fU_fX12_wave_36 {σ0 : zSt} {σ : zSt} {x1 : Int32} (h : (zQ [3, 5, 6, 7, 8, 9, 21, 22, 23, 24, 25, 26] [(0, 0, 0), (0, 31, 33)] [4, 10, 11] [(0, 30, 30)]) σ0 σ) : zpc (fX12_wave_36 σ x1) (fun r => (zQ [3, 5, 6, 7, 8, 9, 21, 22, 23, 24, 25, 26] [(0, 0, 0), (0, 31, 33)] [4, 10, 11] [(0, 30, 30)]) σ0 (r.1)) := by
  unfold fX12_wave_36
  exact fU_fX12_wave_41 h
theorem fU_fX12_wave {σ0 : zSt} {σ : zSt} {x1 : Int32} (h : (zQ [3, 5, 6, 7, 8, 9, 21, 22, 23, 24, 25, 26] [(0, 0, 0), (0, 31, 33)] [4, 10, 11] [(0, 30, 30)]) σ0 σ) : zpc (fX12_wave σ x1) (fun r => (zQ [3, 5, 6, 7, 8, 9, 21, 22, 23, 24, 25, 26] [(0, 0, 0), (0, 31, 33)] [4, 10, 11] [(0, 30, 30)]) σ0 (r.1)) := by
  unfold fX12_wave
  exact zpc_bi (fU_fX12_within h) (fun σ5 v6 hσ5 => zpc_if (fun _ => zpc_bi (fU_fX12_within hσ5) (fun σ7 v8 hσ7 => zpc_if (fun _ => fU_fX12_wave_36 hσ7) (fun _ => zpc_ck (zpc_if (fun _ => fU_fX12_wave_40 hσ7) (fun _ => fU_fX12_wave_36 hσ7))))) (fun _ => fU_fX12_wave_40 hσ5))
theorem fU_fX12_plan_110 {σ0 : zSt} {σ : zSt} (h : (zQ [3, 5, 6, 7, 8, 9, 21, 22, 23, 24, 25, 26] [(0, 0, 0), (0, 31, 33)] [4, 10, 11] [(0, 30, 30)]) σ0 σ) : zpc (fX12_plan_110 σ) (fun r => (zQ [3, 5, 6, 7, 8, 9, 21, 22, 23, 24, 25, 26] [(0, 0, 0), (0, 31, 33)] [4, 10, 11] [(0, 30, 30)]) σ0 (r.1)) := by
  unfold fX12_plan_110
  exact zpc_some h
theorem fU_fX12_plan_103 {σ0 : zSt} {σ : zSt} {x1 : Int32} {x2 : Int32} {x3 : Int32} {s0 : Int32} (h : (zQ [3, 5, 6, 7, 8, 9, 21, 22, 23, 24, 25, 26] [(0, 0, 0), (0, 31, 33)] [4, 10, 11] [(0, 30, 30)]) σ0 σ) : zpc (fX12_plan_103 σ x1 x2 x3 s0) (fun r => (zQ [3, 5, 6, 7, 8, 9, 21, 22, 23, 24, 25, 26] [(0, 0, 0), (0, 31, 33)] [4, 10, 11] [(0, 30, 30)]) σ0 (r.1)) := by
  unfold fX12_plan_103
  exact zpc_bi (fU_fX12_fails h) (fun σ1 v2 hσ1 => zpc_if (fun _ => zpc_ck (zpc_bv (fun v3 _ => zpc_ck (zpc_bs (zQ.wi hσ1 rfl) (fun σ4 hσ4 => zpc_ck (zpc_bs (zQ.wi hσ4 rfl) (fun σ5 hσ5 => zpc_ck (zpc_bs (zQ.wi hσ5 rfl) (fun σ6 hσ6 => zpc_ck (zpc_ck (zpc_bs (zQ.wi hσ6 rfl) (fun σ7 hσ7 => zpc_ck (zpc_some hσ7))))))))))))) (fun _ => fU_fX12_plan_110 hσ1))
theorem fU_fX12_plan_76 {σ0 : zSt} {σ : zSt} {x1 : Int32} {x2 : Int32} {x3 : Int32} {s0 : Int32} (h : (zQ [3, 5, 6, 7, 8, 9, 21, 22, 23, 24, 25, 26] [(0, 0, 0), (0, 31, 33)] [4, 10, 11] [(0, 30, 30)]) σ0 σ) : zpc (fX12_plan_76 σ x1 x2 x3 s0) (fun r => (zQ [3, 5, 6, 7, 8, 9, 21, 22, 23, 24, 25, 26] [(0, 0, 0), (0, 31, 33)] [4, 10, 11] [(0, 30, 30)]) σ0 (r.1)) := by
  unfold fX12_plan_76
  exact zpc_bi (fU_fX12_fails h) (fun σ8 v9 hσ8 => zpc_if (fun _ => zpc_ck (zpc_if (fun _ => fU_fX12_plan_103 hσ8) (fun _ => fU_fX12_plan_103 hσ8))) (fun _ => fU_fX12_plan_110 hσ8))
theorem fU_fX12_plan_71 {σ0 : zSt} {σ : zSt} {x1 : Int32} {x2 : Int32} {x3 : Int32} (h : (zQ [3, 5, 6, 7, 8, 9, 21, 22, 23, 24, 25, 26] [(0, 0, 0), (0, 31, 33)] [4, 10, 11] [(0, 30, 30)]) σ0 σ) : zpc (fX12_plan_71 σ x1 x2 x3) (fun r => (zQ [3, 5, 6, 7, 8, 9, 21, 22, 23, 24, 25, 26] [(0, 0, 0), (0, 31, 33)] [4, 10, 11] [(0, 30, 30)]) σ0 (r.1)) := by
  unfold fX12_plan_71
  exact fU_fX12_plan_76 h
theorem fU_fX12_plan_36 {σ0 : zSt} {σ : zSt} {x1 : Int32} {x2 : Int32} {x3 : Int32} {s0 : Int32} (h : (zQ [3, 5, 6, 7, 8, 9, 21, 22, 23, 24, 25, 26] [(0, 0, 0), (0, 31, 33)] [4, 10, 11] [(0, 30, 30)]) σ0 σ) : zpc (fX12_plan_36 σ x1 x2 x3 s0) (fun r => (zQ [3, 5, 6, 7, 8, 9, 21, 22, 23, 24, 25, 26] [(0, 0, 0), (0, 31, 33)] [4, 10, 11] [(0, 30, 30)]) σ0 (r.1)) := by
  unfold fX12_plan_36
  exact zpc_if (fun _ => fU_fX12_plan_71 h) (fun _ => zpc_if (fun _ => fU_fX12_plan_71 h) (fun _ => zpc_bi (fU_fX12_within h) (fun σ10 v11 hσ10 => zpc_if (fun _ => fU_fX12_plan_71 hσ10) (fun _ => zpc_bi (fU_fX12_within hσ10) (fun σ12 v13 hσ12 => zpc_if (fun _ => fU_fX12_plan_71 hσ12) (fun _ => fU_fX12_plan_76 hσ12))))))
theorem fU_fX12_plan {σ0 : zSt} {σ : zSt} {x1 : Int32} {x2 : Int32} {x3 : Int32} (h : (zQ [3, 5, 6, 7, 8, 9, 21, 22, 23, 24, 25, 26] [(0, 0, 0), (0, 31, 33)] [4, 10, 11] [(0, 30, 30)]) σ0 σ) : zpc (fX12_plan σ x1 x2 x3) (fun r => (zQ [3, 5, 6, 7, 8, 9, 21, 22, 23, 24, 25, 26] [(0, 0, 0), (0, 31, 33)] [4, 10, 11] [(0, 30, 30)]) σ0 (r.1)) := by
  unfold fX12_plan
  exact zpc_ck (zpc_if (fun _ => fU_fX12_plan_36 h) (fun _ => zpc_ck (zpc_ck (fU_fX12_plan_36 h))))
theorem fU_fX12_text_70 {σ0 : zSt} {k37 : zSt → Int32 → Int64 → Int32 → Option (zSt × Int64)} (hk37 : ∀ (y0 : zSt) (y1 : Int32) (y2 : Int64) (y3 : Int32), (zQ [3, 5, 6, 7, 8, 9, 21, 22, 23, 24, 25, 26] [(0, 0, 0), (0, 31, 33)] [4, 10, 11] [(0, 30, 30)]) σ0 y0 → zpc (k37 y0 y1 y2 y3) (fun r => (zQ [3, 5, 6, 7, 8, 9, 21, 22, 23, 24, 25, 26] [(0, 0, 0), (0, 31, 33)] [4, 10, 11] [(0, 30, 30)]) σ0 (r.1))) {σ : zSt} {x1 : Int32} {x4 : Int32} {s0 : Int32} {s1 : Int64} (h : (zQ [3, 5, 6, 7, 8, 9, 21, 22, 23, 24, 25, 26] [(0, 0, 0), (0, 31, 33)] [4, 10, 11] [(0, 30, 30)]) σ0 σ) : zpc (fX12_text_70 k37 σ x1 x4 s0 s1) (fun r => (zQ [3, 5, 6, 7, 8, 9, 21, 22, 23, 24, 25, 26] [(0, 0, 0), (0, 31, 33)] [4, 10, 11] [(0, 30, 30)]) σ0 (r.1)) := by
  unfold fX12_text_70
  exact zpc_bv (fun v1 _ => zpc_bv (fun v2 _ => hk37 _ _ _ _ h))
theorem fU_fX12_text_37_body {σ0 : zSt} {k37 : zSt → Int32 → Int64 → Int32 → Option (zSt × Int64)} (hk37 : ∀ (y0 : zSt) (y1 : Int32) (y2 : Int64) (y3 : Int32), (zQ [3, 5, 6, 7, 8, 9, 21, 22, 23, 24, 25, 26] [(0, 0, 0), (0, 31, 33)] [4, 10, 11] [(0, 30, 30)]) σ0 y0 → zpc (k37 y0 y1 y2 y3) (fun r => (zQ [3, 5, 6, 7, 8, 9, 21, 22, 23, 24, 25, 26] [(0, 0, 0), (0, 31, 33)] [4, 10, 11] [(0, 30, 30)]) σ0 (r.1))) {σ : zSt} {x1 : Int32} {x2 : Int64} {x4 : Int32} (h : (zQ [3, 5, 6, 7, 8, 9, 21, 22, 23, 24, 25, 26] [(0, 0, 0), (0, 31, 33)] [4, 10, 11] [(0, 30, 30)]) σ0 σ) : zpc (fX12_text_37_body k37 σ x1 x2 x4) (fun r => (zQ [3, 5, 6, 7, 8, 9, 21, 22, 23, 24, 25, 26] [(0, 0, 0), (0, 31, 33)] [4, 10, 11] [(0, 30, 30)]) σ0 (r.1)) := by
  unfold fX12_text_37_body
  exact zpc_if (fun _ => zpc_some h) (fun _ => zpc_if (fun _ => fU_fX12_text_70 hk37 h) (fun _ => zpc_ck (fU_fX12_text_70 hk37 h)))
theorem fU_fX12_text_37 {σ0 : zSt} : ∀ (n : Nat) (y0 : zSt) (y1 : Int32) (y2 : Int64) (y3 : Int32), (zQ [3, 5, 6, 7, 8, 9, 21, 22, 23, 24, 25, 26] [(0, 0, 0), (0, 31, 33)] [4, 10, 11] [(0, 30, 30)]) σ0 y0 → zpc (fX12_text_37 n y0 y1 y2 y3) (fun r => (zQ [3, 5, 6, 7, 8, 9, 21, 22, 23, 24, 25, 26] [(0, 0, 0), (0, 31, 33)] [4, 10, 11] [(0, 30, 30)]) σ0 (r.1)) := by
  intro n
  induction n with
  | zero => intro y0 y1 y2 y3 h; exact zpc_none
  | succ n ih => intro y0 y1 y2 y3 h; exact fU_fX12_text_37_body ih h
theorem fU_fX12_text_22 {σ0 : zSt} {σ : zSt} {x1 : Int32} {s0 : Int32} (h : (zQ [3, 5, 6, 7, 8, 9, 21, 22, 23, 24, 25, 26] [(0, 0, 0), (0, 31, 33)] [4, 10, 11] [(0, 30, 30)]) σ0 σ) : zpc (fX12_text_22 σ x1 s0) (fun r => (zQ [3, 5, 6, 7, 8, 9, 21, 22, 23, 24, 25, 26] [(0, 0, 0), (0, 31, 33)] [4, 10, 11] [(0, 30, 30)]) σ0 (r.1)) := by
  unfold fX12_text_22
  exact zpc_bi (fU_fX12_fails h) (fun σ3 v4 hσ3 => zpc_if (fun _ => fU_fX12_text_37 _ _ _ _ _ hσ3) (fun _ => zpc_some hσ3))
theorem fU_fX12_text {σ0 : zSt} {σ : zSt} {x1 : Int32} (h : (zQ [3, 5, 6, 7, 8, 9, 21, 22, 23, 24, 25, 26] [(0, 0, 0), (0, 31, 33)] [4, 10, 11] [(0, 30, 30)]) σ0 σ) : zpc (fX12_text σ x1) (fun r => (zQ [3, 5, 6, 7, 8, 9, 21, 22, 23, 24, 25, 26] [(0, 0, 0), (0, 31, 33)] [4, 10, 11] [(0, 30, 30)]) σ0 (r.1)) := by
  unfold fX12_text
  exact zpc_bi (fU_fX12_within h) (fun σ5 v6 hσ5 => zpc_if (fun _ => fU_fX12_text_22 hσ5) (fun _ => fU_fX12_text_22 hσ5))
end ZJN0
section ZJN1
/-! WHAT LOOK TELLS -/
section ZLK
variable {σ μ s t : zSt} {x : Int32} {K : Int} {J : { J : Int → zSt → zSt → Prop // zJw J }}
/-- TEXT's length beside all the rest -/
noncomputable def zAlk (J : { J : Int → zSt → zSt → Prop // zJw J }) (K : Int) (σ μ : zSt) : Prop := zAlj J K σ μ ∧ σ.1 10 2 = μ.1 0 39
theorem z_tx {R R' S S' : List Nat} {A A' D D' : List (Nat × Nat × Nat)} (h : σ.1 10 2 = μ.1 0 39) (a : zQ R A S D σ s) (b : zQ R' A' S' D' μ t) (c1 : zof R A 10 2 2 = true) (c2 : zof R' A' 0 39 39 = true) : s.1 10 2 = t.1 0 39 := (a.o c1 (by decide) (by decide)).trans (h.trans (b.o c2 (by decide) (by decide)).symm)
theorem zpc_eq {α : Type} {o : Option α} {a : α} (h : o = some a) : zpc o (fun r => r = a) := fun b e => by
  rw [h] at e
  exact (Option.some.inj e).symm
theorem z_yesl {o : Option zRl} {p : Option (zSt × Int64)} {v w : Int64} (h : zpc o (fun r => r = Sum.inl (σ, v))) (h' : zpc p (fun r => r = (zsi μ 0 0 0, w))) (e : v = w) : zp2 o p (zAnl 1) := zp2_of h h' (fun a b p q => by
  subst p
  subst q
  subst e
  exact Or.inr ⟨σ, rfl, zTh_own⟩)
theorem v_look (h : zAlk ⟨zJ2, zJ2_jw⟩ K σ μ) (hK : K ≤ 1000000000) (hf : σ.1 0 11 = 0 ↔ μ.1 0 19 = 0) : zp2 (fX11_look σ x) (fX12_look μ x) (zAnl 1) := by
  obtain ⟨⟨⟨⟨C, hC, n⟩, r6, _⟩, hj, _⟩, h18⟩ := h
  obtain ⟨⟨⟨_, r11, h3, _⟩, _⟩, h2⟩ := hj
  obtain ⟨_, r12⟩ := h2 (by omega)
  have hE : zE σ μ := n.ve.1
  have hM := n.1.1.1
  have hCp := n.1.2.1
  obtain ⟨_, m5, _, _, _, _, _, _, hP, _, c0, c1, c2, _⟩ := n.pr
  unfold fX12_look
  refine zp2_within (fun w1 w2 => ?_) (fun w => ?_)
  · have hx := z_wir w1 w2 (zrl_c (lo := 0) (hi := 0) (by decide)) (zrl_c (lo := 18) (hi := 18) (by decide))
    have hx0 := hx.1
    have hx1 := hx.2
    refine zp2_ifr (fun q => absurd q (by decide)) (fun _ => ?_)
    rcases (show x.toInt = 0 ∨ x.toInt = 1 ∨ x.toInt = 2 ∨ x.toInt = 3 ∨ x.toInt = 4 ∨ x.toInt = 5 ∨ x.toInt = 6 ∨ x.toInt = 7 ∨ x.toInt = 8 ∨ x.toInt = 9 ∨ x.toInt = 10 ∨ x.toInt = 11 ∨ x.toInt = 12 ∨ x.toInt = 13 ∨ x.toInt = 14 ∨ x.toInt = 15 ∨ x.toInt = 16 ∨ x.toInt = 17 ∨ x.toInt = 18 by omega) with e | e | e | e | e | e | e | e | e | e | e | e | e | e | e | e | e | e | e
    · obtain rfl : x = 0 := Int32.toInt_inj.mp e
      exact z_yesl (zpc_eq (show fX11_look σ 0 = some (Sum.inl (σ, σ.2 38 0)) from rfl)) (zpc_eq (show fX12_look_18 μ 0 0 = some (zsi μ 0 0 0, μ.2 4 0) from rfl)) c0
    · obtain rfl : x = 1 := Int32.toInt_inj.mp e
      exact z_yesl (zpc_eq (show fX11_look σ 1 = some (Sum.inl (σ, σ.2 38 1)) from rfl)) (zpc_eq (show fX12_look_18 μ 1 0 = some (zsi μ 0 0 0, μ.2 4 1) from rfl)) c1
    · obtain rfl : x = 2 := Int32.toInt_inj.mp e
      exact z_yesl (zpc_eq (show fX11_look σ 2 = some (Sum.inl (σ, σ.2 38 2)) from rfl)) (zpc_eq (show fX12_look_18 μ 2 0 = some (zsi μ 0 0 0, μ.2 4 2) from rfl)) c2
    · obtain rfl : x = 3 := Int32.toInt_inj.mp e
      exact z_yesl (zpc_eq (show fX11_look σ 3 = some (Sum.inl (σ, (σ.1 11 3).toInt64)) from rfl)) (zpc_eq (show fX12_look_18 μ 3 0 = some (zsi μ 0 0 0, (μ.1 3 87).toInt64) from rfl)) (congrArg Int32.toInt64 r11.2.1)
    · obtain rfl : x = 4 := Int32.toInt_inj.mp e
      exact z_yesl (zpc_eq (show fX11_look σ 4 = some (Sum.inl (σ, σ.2 38 3)) from rfl)) (zpc_eq (show fX12_look_18 μ 4 0 = some (zsi μ 0 0 0, μ.2 4 3) from rfl)) h3
    · obtain rfl : x = 5 := Int32.toInt_inj.mp e
      exact z_yesl (zpc_eq (show fX11_look σ 5 = some (Sum.inl (σ, (σ.1 1 2).toInt64)) from rfl)) (zpc_eq (show fX12_look_18 μ 5 0 = some (zsi μ 0 0 0, (μ.1 0 2).toInt64) from rfl)) (congrArg Int32.toInt64 r6.1)
    · obtain rfl : x = 6 := Int32.toInt_inj.mp e
      exact z_yesl (zpc_eq (show fX11_look σ 6 = some (Sum.inl (σ, (σ.1 40 8).toInt64)) from rfl)) (zpc_eq (show fX12_look_18 μ 6 0 = some (zsi μ 0 0 0, (μ.1 3 89).toInt64) from rfl)) (congrArg Int32.toInt64 (hE.e (z_pn40_8 (d := 0) (by decide))).symm)
    · obtain rfl : x = 7 := Int32.toInt_inj.mp e
      exact z_yesl (zpc_eq (show fX11_look σ 7 = some (Sum.inl (σ, (σ.1 1 4).toInt64)) from rfl)) (zpc_eq (show fX12_look_18 μ 7 0 = some (zsi μ 0 0 0, (μ.1 0 5).toInt64) from rfl)) (congrArg Int32.toInt64 m5.1)
    · obtain rfl : x = 8 := Int32.toInt_inj.mp e
      exact z_yesl (zpc_eq (show fX11_look σ 8 = some (Sum.inl (σ, (σ.1 19 3).toInt64)) from rfl)) (zpc_eq (show fX12_look_18 μ 8 0 = some (zsi μ 0 0 0, (μ.1 3 32).toInt64) from rfl)) (congrArg Int32.toInt64 hM.2.2.2.1)
    · obtain rfl : x = 9 := Int32.toInt_inj.mp e
      exact z_yesl (zpc_eq (show fX11_look σ 9 = some (Sum.inl (σ, (σ.1 19 0).toInt64)) from rfl)) (zpc_eq (show fX12_look_18 μ 9 0 = some (zsi μ 0 0 0, (μ.1 3 29).toInt64) from rfl)) (congrArg Int32.toInt64 (hM.2.2.1 0 (by decide)))
    · obtain rfl : x = 10 := Int32.toInt_inj.mp e
      exact z_yesl (zpc_eq (show fX11_look σ 10 = some (Sum.inl (σ, (σ.1 19 1).toInt64)) from rfl)) (zpc_eq (show fX12_look_18 μ 10 0 = some (zsi μ 0 0 0, (μ.1 3 30).toInt64) from rfl)) (congrArg Int32.toInt64 (hM.2.2.1 1 (by decide)))
    · obtain rfl : x = 11 := Int32.toInt_inj.mp e
      exact z_yesl (zpc_eq (show fX11_look σ 11 = some (Sum.inl (σ, (σ.1 19 2).toInt64)) from rfl)) (zpc_eq (show fX12_look_18 μ 11 0 = some (zsi μ 0 0 0, (μ.1 3 31).toInt64) from rfl)) (congrArg Int32.toInt64 (hM.2.2.1 2 (by decide)))
    · obtain rfl : x = 12 := Int32.toInt_inj.mp e
      exact z_yesl (zpc_eq (show fX11_look σ 12 = some (Sum.inl (σ, (σ.1 36 27).toInt64)) from rfl)) (zpc_eq (show fX12_look_18 μ 12 0 = some (zsi μ 0 0 0, (μ.1 3 28).toInt64) from rfl)) (congrArg Int32.toInt64 hCp.2.1.symm)
    · obtain rfl : x = 13 := Int32.toInt_inj.mp e
      exact z_yesl (zpc_eq (show fX11_look σ 13 = some (Sum.inl (σ, (σ.1 34 6).toInt64)) from rfl)) (zpc_eq (show fX12_look_18 μ 13 0 = some (zsi μ 0 0 0, (μ.1 3 35).toInt64) from rfl)) (congrArg Int32.toInt64 (hE.e (z_pn34_6 (d := 0) (by decide))).symm)
    · obtain rfl : x = 14 := Int32.toInt_inj.mp e
      exact z_yesl (zpc_eq (show fX11_look σ 14 = some (Sum.inl (σ, (σ.1 34 0).toInt64)) from rfl)) (zpc_eq (show fX12_look_18 μ 14 0 = some (zsi μ 0 0 0, (μ.1 3 33).toInt64) from rfl)) (congrArg Int32.toInt64 (hE.e (z_pn34_0 (d := 0) (by decide))).symm)
    · obtain rfl : x = 15 := Int32.toInt_inj.mp e
      by_cases q : σ.1 0 11 = 0
      · have q' := hf.mp q
        refine z_yesl (σ := σ) (μ := μ) (v := 0) (w := 0) (zpc_eq ?_) (zpc_eq ?_) rfl
        · show (if σ.1 0 11 = 0 then fX11_look_250 σ 0 else fX11_look_250 σ 1) = _
          rw [if_pos q]; rfl
        · show (if μ.1 0 19 = 0 then fX12_look_222 (zsi μ 0 0 0) 0 else fX12_look_222 (zsi μ 0 0 0) 1) = _
          rw [if_pos q']; rfl
      · have q' : ¬ μ.1 0 19 = 0 := fun z => q (hf.mpr z)
        refine z_yesl (σ := σ) (μ := μ) (v := 1) (w := 1) (zpc_eq ?_) (zpc_eq ?_) rfl
        · show (if σ.1 0 11 = 0 then fX11_look_250 σ 0 else fX11_look_250 σ 1) = _
          rw [if_neg q]; rfl
        · show (if μ.1 0 19 = 0 then fX12_look_222 (zsi μ 0 0 0) 0 else fX12_look_222 (zsi μ 0 0 0) 1) = _
          rw [if_neg q']; rfl
    · obtain rfl : x = 16 := Int32.toInt_inj.mp e
      exact z_yesl (zpc_eq (show fX11_look σ 16 = some (Sum.inl (σ, (σ.1 42 769).toInt64)) from rfl)) (zpc_eq (show fX12_look_18 μ 16 0 = some (zsi μ 0 0 0, (μ.1 3 171).toInt64) from rfl)) (congrArg Int32.toInt64 hP.1)
    · obtain rfl : x = 17 := Int32.toInt_inj.mp e
      exact z_yesl (zpc_eq (show fX11_look σ 17 = some (Sum.inl (σ, (σ.1 12 3).toInt64)) from rfl)) (zpc_eq (show fX12_look_18 μ 17 0 = some (zsi μ 0 0 0, (μ.1 3 169).toInt64) from rfl)) (congrArg Int32.toInt64 r12.2.1)
    · obtain rfl : x = 18 := Int32.toInt_inj.mp e
      exact z_yesl (zpc_eq (show fX11_look σ 18 = some (Sum.inl (σ, (σ.1 10 2).toInt64)) from rfl)) (zpc_eq (show fX12_look_18 μ 18 0 = some (zsi μ 0 0 0, (μ.1 0 39).toInt64) from rfl)) (congrArg Int32.toInt64 h18)
  · have hn := z_nin w (a := 0) (b := 18) rfl rfl
    refine zp2_ifr (fun _ => ?_) (fun q => absurd rfl q)
    unfold fX12_look_18
    refine zp2_fails1 (fun μ1 e1 => zp2_ifr (fun q => absurd q (by decide)) (fun _ => ?_))
    have c18 : (18 : Int32).toInt = 18 := rfl
    have c0 : (0 : Int32).toInt = 0 := rfl
    unfold fX11_look fX11_look_10
    have fin : zp2 (some (Sum.inr (σ, 1) : zRl)) (some (μ1, (0 : Int64))) (zAnl 1) := zp2_some (Or.inl ⟨σ, rfl, by rw [e1]; exact zTh_own⟩)
    refine zp2_ifl (fun _ => fin) (fun q => zp2_ifl (fun q1 => ?_) (fun _ => fin))
    have r1 := Int32.le_iff_toInt_le.mp (z_nlt q)
    have r2 := Int32.le_iff_toInt_le.mp q1
    exfalso; omega
theorem z_freshK {k c : Int32} {σ4 σ5 σ9 σ1 : zSt} {σ6 : Int32 → zSt} (ec : c = zKd k) (e4 : fX7_clear zS0 = some σ4) (e5 : fX10_clear zS0 = some σ5) (e6 : ∀ v, fX4_clear (zsi (zsi (zsi zS0 6 0 v) 34 10 1) 34 11 1) = some (σ6 v)) (e9 : fJ7_fill_53178_k44 zS0 (-1) = some σ9) (e : fX12_anew (zsi (zsi (zsi (zsi (zsi zS0 0 8 (-1)) 0 3 c) 3 44 0) 3 45 1) 3 46 1) = some σ1) : zAlk ⟨zJ2, zJ2_jw⟩ 0 (zC1 k σ4 σ5 σ6 σ9) σ1 := by
  refine ⟨z_freshJ2 ec e4 e5 e6 e9 e, ?_⟩
  have b := m_anewx σ1 e
  have m39 : σ1.1 0 39 = 0 := by
    rw [b.1.o (k := 0) (a := 39) (b := 39) rfl (by decide) (by decide), zsi_ne (by decide), zsi_ne (by decide), zsi_ne (by decide), zsi_nj (by decide), zsi_nj (by decide)]
    rfl
  rw [m39]
  rfl
end ZLK
end ZJN1
section ZJN2
/-! EVERY CALL KEEPS THE WHOLE RELATION -/
section ZG5
variable {K K0 n k s : Int} {σ μ : zSt} {o : Nat → Int64}
theorem zAll.mono {K K' : Int} (h : zAll K σ μ) (c : K ≤ K') : zAll K' σ μ := by
  obtain ⟨⟨C, hC, a⟩, b, d⟩ := h
  refine ⟨⟨C, Int.le_trans hC c, a⟩, b, fun q => ?_⟩
  obtain ⟨D, hD, e⟩ := d q
  exact ⟨D, Int.le_trans hD c, e⟩
theorem zRM.pic (h : zRM K0 n k s μ) : (μ.2 4 2).toInt ≤ 268435456 := by
  obtain ⟨c, G, i, a, b, e0, e1, e2⟩ := h
  have q : (μ.2 4 2).toInt = G 101 := i.fl 1 (4, 2) rfl
  have z := a.2.2.2.2.1
  omega
theorem zRM.svd (h : zRM K0 n k s μ) : (μ.1 0 19).toInt = s := by
  obtain ⟨c, G, i, a, b, e0, e1, e2⟩ := h
  exact Eq.trans (i.at 2 (by decide)) e2
theorem zRC.svd {k' : Int} (h : zRC n k' s σ) : (σ.1 0 11).toInt = s := by
  obtain ⟨H, i, e0, e1, e2⟩ := h
  exact Eq.trans (i.fz 1 (0, 11) rfl) e2
theorem z_flag {k' : Int} (a : zRM K0 n k s μ) (b : zRC n k' s σ) : σ.1 0 11 = 0 ↔ μ.1 0 19 = 0 := by
  have x := a.svd
  have y := b.svd
  rw [← Int32.toInt_inj, ← Int32.toInt_inj, x, y]
theorem g_feed (h : zAll K σ μ) (hr : zr 0 262656 (zgi μ 0 2)) {x1 : Int32} {x2 : Int64} {x4 : Int64} {x6 : Int64} : zp2 (fX11_feed σ x1 x2 x4 x6) (fX12_feed μ x1 x2 x4 x6) (fun r r' => zAll K (zRis r) (r'.1)) := fun a b ea eb => by
  obtain ⟨C, hC, n⟩ := h.1
  obtain ⟨m, r6⟩ := b_feed n h.2.1 hr a b ea eb
  exact h.tp hC m r6 (fy_fX11_feed zQ.rf a ea) (fY_fX12_feed zQ.rf b eb)
theorem g_grow (h : zAll K σ μ) (hr : zr 0 262656 (zgi μ 0 2)) {x1 : Int32} : zp2 (fX11_grow σ x1) (fX12_grow μ x1) (fun r r' => zAll K (zRis r) (r'.1)) := fun a b ea eb => by
  obtain ⟨C, hC, n⟩ := h.1
  obtain ⟨m, r6⟩ := b_grow n h.2.1 hr a b ea eb
  exact h.tp hC m r6 (fy_fX11_grow zQ.rf a ea) (fY_fX12_grow zQ.rf b eb)
theorem g_patch (h : zAll K σ μ) (hr : zr 0 262656 (zgi μ 0 2)) {x1 : Int32} {x2 : Int64} : zp2 (fX11_patch σ x1 x2) (fX12_patch μ x1 x2) (fun r r' => zAll K (zRus r) r') := fun a b ea eb => by
  obtain ⟨C, hC, n⟩ := h.1
  obtain ⟨m, r6⟩ := b_patch n h.2.1 hr a b ea eb
  exact h.tp hC m r6 (fy_fX11_patch zQ.rf a ea) (fY_fX12_patch zQ.rf b eb)
theorem g_load (h : zAll K σ μ) (hr : zr 0 262656 (zgi μ 0 2)) : zp2 (fX11_load σ ) (fX12_load μ ) (fun r r' => r.2 = r'.2 → zr 0 512 (r.1.1 1 3) → zr 0 262144 (r.1.1 1 4) → zR6 r.1 r'.1 → zAll K r.1 r'.1) := fun a b ea eb e r3 r4 r6 => by
  obtain ⟨C, hC, n⟩ := h.1
  have m := b_load n h.2.1 hr a b ea eb e r3 r4
  refine zAll.go (B := (K, 0, 0)) h (Int.le_refl _) (C := (C.1, C.2.1, 0)) hC m r6 (fun q => ?_)
  have hM := l_load n.pr.2.2.2.1.2.2.2.1 hr b eb
  rcases k_load a ea with ⟨x1, x2⟩ | ⟨_, σa, _, _, _, x5⟩
  · rcases hM with ⟨y1, y2⟩ | ⟨y1, _⟩
    · refine ⟨?_, ?_, x2.rlo (k := 39) rfl, ?_, y2.rlo (k := 13) rfl, y2.o (k := 0) (a := 3) (b := 3) rfl (by decide) (by decide)⟩
      · rw [← x2.o (k := 0) (a := 11) (b := 11) rfl (j := 11) (by decide) (by decide)]; exact q
      · unfold zsv
        exact List.forall_mem_cons.2 ⟨x2.ro (k := 43) rfl, List.forall_mem_cons.2 ⟨x2.ro (k := 41) rfl, List.forall_mem_cons.2 ⟨x2.ro (k := 37) rfl, List.forall_mem_cons.2 ⟨x2.ro (k := 35) rfl, List.forall_mem_cons.2 ⟨x2.ro (k := 33) rfl, List.forall_mem_cons.2 ⟨x2.ro (k := 31) rfl, List.forall_mem_cons.2 ⟨x2.ro (k := 26) rfl, List.forall_mem_cons.2 ⟨x2.ro (k := 24) rfl, List.forall_mem_cons.2 ⟨x2.ro (k := 22) rfl, List.forall_mem_cons.2 ⟨x2.ro (k := 20) rfl, List.forall_mem_cons.2 ⟨x2.ro (k := 18) rfl, List.forall_mem_cons.2 ⟨x2.ro (k := 16) rfl, fun _ h => absurd h List.not_mem_nil⟩⟩⟩⟩⟩⟩⟩⟩⟩⟩⟩⟩
      · unfold zsm
        exact List.forall_mem_cons.2 ⟨y2.ro (k := 18) rfl, List.forall_mem_cons.2 ⟨y2.ro (k := 17) rfl, List.forall_mem_cons.2 ⟨y2.ro (k := 16) rfl, List.forall_mem_cons.2 ⟨y2.ro (k := 15) rfl, List.forall_mem_cons.2 ⟨y2.ro (k := 14) rfl, List.forall_mem_cons.2 ⟨y2.ro (k := 12) rfl, fun _ h => absurd h List.not_mem_nil⟩⟩⟩⟩⟩⟩
    · exact absurd (e.trans y1) x1
  · exact absurd x5 q
theorem g_card (h : zAll K σ μ) {x1 : Int32} : zp2 (fX11_card σ x1) (fX12_card μ x1) (fun r r' => zAll K (zRis r) (r'.1)) := fun a b ea eb => by
  obtain ⟨C, hC, n⟩ := h.1
  exact h.kp (Int.le_refl _) hC (n.kp (fn_fX11_card zQ.rf a ea) (fN_fX12_card zQ.rf b eb) (by decide +kernel) (by decide +kernel)) (fv_fX11_card zQ.rf a ea) (fV_fX12_card zQ.rf b eb)
theorem g_step (h : zAll K σ μ) (hK : K ≤ 900000000000000) (hP : (μ.2 4 2).toInt ≤ 268435456) {x1 : Int32} : zp2 (fX11_step σ x1) (fX12_step μ x1) (fun r r' => zAll (K + 1000000) (zRis r) (r'.1)) := fun a b ea eb => by
  obtain ⟨C, hC, n⟩ := h.1
  obtain ⟨⟨D, hD, m⟩, _⟩ := a_step n (by omega) (by omega) a b ea eb
  exact h.kp (by omega) (show D.1 ≤ K + 1000000 by omega) m (fv_fX11_step zQ.rf a ea) (fV_fX12_step zQ.rf b eb)
theorem g_picture (h : zAll K σ μ) (hK : K ≤ 900000000000000) (hP : (μ.2 4 2).toInt ≤ 268435456) {x1 : Int32} : zp2 (fX11_picture σ x1) (fX12_picture μ x1) (fun r r' => zAll (K + 1000000) (zRis r) (r'.1)) := fun a b ea eb => by
  obtain ⟨C, hC, n⟩ := h.1
  obtain ⟨⟨D, hD, m⟩, _⟩ := a_picture n (by omega) (by omega) a b ea eb
  exact h.kp (by omega) (show D.1 ≤ K + 1000000 by omega) m (fv_fX11_picture zQ.rf a ea) (fV_fX12_picture zQ.rf b eb)
theorem g_reset (h : zAll K σ μ) : zp2 (fX11_reset σ ) (fX12_reset μ ) (fun r r' => zAll K r r') := fun a b ea eb => by
  obtain ⟨C, hC, n⟩ := h.1
  exact h.kp (Int.le_refl _) (C := (C.1, C.2.1, 0)) hC (b_reset n a b ea eb) (fv_fX11_reset zQ.rf a ea) (fV_fX12_reset zQ.rf b eb)
theorem g_pause (h : zAll K σ μ) : zp2 (fX11_pause σ ) (fX12_pause μ ) (fun r r' => zAll K r.1 (r'.1)) := fun a b ea eb => by
  obtain ⟨C, hC, n⟩ := h.1
  exact h.kp (Int.le_refl _) hC (b_pause n a b ea eb) (fv_fX11_pause zQ.rf a ea) (fV_fX12_pause zQ.rf b eb)
theorem g_press (h : zAll K σ μ) {x1 : Int32} {x2 : Int32} : zp2 (fX11_press σ x1 x2) (fX12_press μ x1 x2) (fun r r' => zAll K (zRus r) r') := fun a b ea eb => by
  obtain ⟨C, hC, n⟩ := h.1
  exact h.kp (Int.le_refl _) hC (b_press n a b ea eb) (fv_fX11_press zQ.rf a ea) (fV_fX12_press zQ.rf b eb)
theorem g_start (h : zAll K σ μ) {x1 : Int32} : zp2 (fX11_start σ x1) (fX12_start μ x1) (fun r r' => zAll K r r') := fun a b ea eb => by
  obtain ⟨C, hC, n⟩ := h.1
  exact h.kp (Int.le_refl _) hC (b_start n a b ea eb) (fv_fX11_start zQ.rf a ea) (fV_fX12_start zQ.rf b eb)
theorem g_line (h : zAll K σ μ) {x1 : Int32} {x2 : Int32} : zp2 (fX11_line σ x1 x2) (fX12_line μ x1 x2) (fun r r' => zAll K (zRus r) r') := fun a b ea eb => by
  obtain ⟨C, hC, n⟩ := h.1
  exact h.kp (Int.le_refl _) hC (b_line n a b ea eb) (fv_fX11_line zQ.rf a ea) (fV_fX12_line zQ.rf b eb)
theorem g_plan (h : zAll K σ μ) {x1 : Int32} {x2 : Int32} {x3 : Int32} : zp2 (fX11_plan σ x1 x2 x3) (fX12_plan μ x1 x2 x3) (fun r r' => zAll K (zRis r) (r'.1)) := fun a b ea eb => by
  obtain ⟨C, hC, n⟩ := h.1
  exact h.kp (Int.le_refl _) hC (b_plan n a b ea eb).1 (fv_fX11_plan zQ.rf a ea) (fV_fX12_plan zQ.rf b eb)
theorem g_tell (h : zAll K σ μ) {x1 : Int32} : zp2 (fX11_tell σ x1) (fX12_tell μ x1) (fun r r' => zAll K r.1 (r'.1)) := fun a b ea eb => by
  obtain ⟨C, hC, n⟩ := h.1
  exact h.kp (Int.le_refl _) hC (n.kp (fn_fX11_tell zQ.rf a ea) (fN_fX12_tell zQ.rf b eb) (by decide +kernel) (by decide +kernel)) (fv_fX11_tell zQ.rf a ea) (fV_fX12_tell zQ.rf b eb)
theorem g_text (h : zAll K σ μ) {x1 : Int32} : zp2 (fX11_text σ x1) (fX12_text μ x1) (fun r r' => zAll K (zRls r) (r'.1)) := fun a b ea eb => by
  obtain ⟨C, hC, n⟩ := h.1
  exact h.kp (Int.le_refl _) hC (n.kp (fn_fX11_text zQ.rf a ea) (fN_fX12_text zQ.rf b eb) (by decide +kernel) (by decide +kernel)) (fv_fX11_text zQ.rf a ea) (fV_fX12_text zQ.rf b eb)
theorem g_stop (h : zAll K σ μ) {x1 : Int32} {x2 : Int32} : zp2 (fX11_stop σ x1 x2) (fX12_stop μ x1 x2) (fun r r' => zAll K (zRis r) (r'.1)) := fun a b ea eb => by
  obtain ⟨C, hC, n⟩ := h.1
  exact h.kp (Int.le_refl _) hC (b_stop n a b ea eb) (fv_fX11_stop zQ.rf a ea) (fV_fX12_stop zQ.rf b eb)
theorem g_register (h : zAll K σ μ) {x1 : Int32} : zp2 (fX11_register σ x1) (fX12_register μ x1) (fun r r' => zAll K (zRis r) (r'.1)) := fun a b ea eb => by
  obtain ⟨C, hC, n⟩ := h.1
  exact h.kp (Int.le_refl _) hC (n.kp (fn_fX11_register zQ.rf a ea) (fN_fX12_register zQ.rf b eb) (by decide +kernel) (by decide +kernel)) (fv_fX11_register zQ.rf a ea) (fV_fX12_register zQ.rf b eb)
theorem g_set (h : zAll K σ μ) {x1 : Int32} {x2 : Int32} : zp2 (fX11_set σ x1 x2) (fX12_set μ x1 x2) (fun r r' => zAll K (zRus r) r') := fun a b ea eb => by
  obtain ⟨C, hC, n⟩ := h.1
  exact h.kp (Int.le_refl _) hC (b_set n a b ea eb) (fv_fX11_set zQ.rf a ea) (fV_fX12_set zQ.rf b eb)
theorem g_peek (h : zAll K σ μ) {x1 : Int32} : zp2 (fX11_peek σ x1) (fX12_peek μ x1) (fun r r' => zAll K r.1 (r'.1)) := fun a b ea eb => by
  obtain ⟨C, hC, n⟩ := h.1
  exact h.kp (Int.le_refl _) hC (n.kp (fn_fX11_peek zQ.rf a ea) (fN_fX12_peek zQ.rf b eb) (by decide +kernel) (by decide +kernel)) (fv_fX11_peek zQ.rf a ea) (fV_fX12_peek zQ.rf b eb)
theorem g_poke (h : zAll K σ μ) {x1 : Int32} {x2 : Int32} : zp2 (fX11_poke σ x1 x2) (fX12_poke μ x1 x2) (fun r r' => zAll K r r') := fun a b ea eb => by
  obtain ⟨C, hC, n⟩ := h.1
  exact h.kp (Int.le_refl _) hC (b_poke n a b ea eb) (fv_fX11_poke zQ.rf a ea) (fV_fX12_poke zQ.rf b eb)
theorem g_in (h : zAll K σ μ) {x1 : Int32} : zp2 (fX11_in σ x1) (fX12_in μ x1) (fun r r' => zAll K r.1 (r'.1)) := fun a b ea eb => by
  obtain ⟨C, hC, n⟩ := h.1
  exact h.kp (Int.le_refl _) hC (b_in n a b ea eb).1 (fv_fX11_in zQ.rf a ea) (fV_fX12_in zQ.rf b eb)
theorem g_out (h : zAll K σ μ) {x1 : Int32} {x2 : Int32} : zp2 (fX11_out σ x1 x2) (fX12_out μ x1 x2) (fun r r' => zAll K r r') := fun a b ea eb => by
  obtain ⟨C, hC, n⟩ := h.1
  exact h.kp (Int.le_refl _) hC (b_out n a b ea eb) (fv_fX11_out zQ.rf a ea) (fV_fX12_out zQ.rf b eb)
theorem g_battery (h : zAll K σ μ) {x1 : Int32} : zp2 (fX11_battery σ x1) (fX12_battery μ x1) (fun r r' => zAll K (zRis r) (r'.1)) := fun a b ea eb => by
  obtain ⟨C, hC, n⟩ := h.1
  exact h.kp (Int.le_refl _) hC (n.kp (fn_fX11_battery zQ.rf a ea) (fN_fX12_battery zQ.rf b eb) (by decide +kernel) (by decide +kernel)) (fv_fX11_battery zQ.rf a ea) (fV_fX12_battery zQ.rf b eb)
theorem g_wipe (h : zAll K σ μ) : zp2 (fX11_wipe σ ) (fX12_wipe μ ) (fun r r' => zAll K r r') := fun a b ea eb => by
  obtain ⟨C, hC, n⟩ := h.1
  exact h.kp (Int.le_refl _) hC (b_wipe n a b ea eb) (fv_fX11_wipe zQ.rf a ea) (fV_fX12_wipe zQ.rf b eb)
theorem g_video (h : zAll K σ μ) {x1 : Int32} : zp2 (fX11_video σ x1) (fX12_video μ x1) (fun r r' => zAll K r.1 (r'.1)) := fun a b ea eb => by
  obtain ⟨C, hC, n⟩ := h.1
  exact h.kp (Int.le_refl _) hC (n.kp (fn_fX11_video zQ.rf a ea) (fN_fX12_video zQ.rf b eb) (by decide +kernel) (by decide +kernel)) (fv_fX11_video zQ.rf a ea) (fV_fX12_video zQ.rf b eb)
theorem g_chip (h : zAll K σ μ) {x1 : Int32} : zp2 (fX11_chip σ x1) (fX12_chip μ x1) (fun r r' => zAll K (zRis r) (r'.1)) := fun a b ea eb => by
  obtain ⟨C, hC, n⟩ := h.1
  exact h.kp (Int.le_refl _) hC (n.kp (fn_fX11_chip zQ.rf a ea) (fN_fX12_chip zQ.rf b eb) (by decide +kernel) (by decide +kernel)) (fv_fX11_chip zQ.rf a ea) (fV_fX12_chip zQ.rf b eb)
theorem g_dot (h : zAll K σ μ) {x1 : Int32} {x2 : Int32} : zp2 (fX11_dot σ x1 x2) (fX12_dot μ x1 x2) (fun r r' => zAll K (zRis r) (r'.1)) := fun a b ea eb => by
  obtain ⟨C, hC, n⟩ := h.1
  exact h.kp (Int.le_refl _) hC (n.kp (fn_fX11_dot zQ.rf a ea) (fN_fX12_dot zQ.rf b eb) (by decide +kernel) (by decide +kernel)) (fv_fX11_dot zQ.rf a ea) (fV_fX12_dot zQ.rf b eb)
theorem g_row (h : zAll K σ μ) {x1 : Int32} : zp2 (fX11_row σ x1) (fX12_row μ x1) (fun r r' => zAll K (zRis r) (r'.1)) := fun a b ea eb => by
  obtain ⟨C, hC, n⟩ := h.1
  exact h.kp (Int.le_refl _) hC (n.kp (fn_fX11_row zQ.rf a ea) (fN_fX12_row zQ.rf b eb) (by decide +kernel) (by decide +kernel)) (fv_fX11_row zQ.rf a ea) (fV_fX12_row zQ.rf b eb)
theorem g_hear (h : zAll K σ μ) : zp2 (fX11_hear σ ) (fX12_hear μ ) (fun r r' => zAll K (zRls r) (r'.1)) := fun a b ea eb => by
  obtain ⟨C, hC, n⟩ := h.1
  exact h.kp (Int.le_refl _) hC (n.kp (fn_fX11_hear zQ.rf a ea) (fN_fX12_hear zQ.rf b eb) (by decide +kernel) (by decide +kernel)) (fv_fX11_hear zQ.rf a ea) (fV_fX12_hear zQ.rf b eb)
theorem g_mix (h : zAll K σ μ) : zp2 (fX11_mix σ ) (fX12_mix μ ) (fun r r' => zAll K (zRls r) (r'.1)) := fun a b ea eb => by
  obtain ⟨C, hC, n⟩ := h.1
  exact h.kp (Int.le_refl _) hC (n.kp (fn_fX11_mix zQ.rf a ea) (fN_fX12_mix zQ.rf b eb) (by decide +kernel) (by decide +kernel)) (fv_fX11_mix zQ.rf a ea) (fV_fX12_mix zQ.rf b eb)
theorem g_wave (h : zAll K σ μ) {x1 : Int32} : zp2 (fX11_wave σ x1) (fX12_wave μ x1) (fun r r' => zAll K (zRis r) (r'.1)) := fun a b ea eb => by
  obtain ⟨C, hC, n⟩ := h.1
  exact h.kp (Int.le_refl _) hC (n.kp (fn_fX11_wave zQ.rf a ea) (fN_fX12_wave zQ.rf b eb) (by decide +kernel) (by decide +kernel)) (fv_fX11_wave zQ.rf a ea) (fV_fX12_wave zQ.rf b eb)
theorem g_sound (h : zAll K σ μ) {x1 : Int32} : zp2 (fX11_sound σ x1) (fX12_sound μ x1) (fun r r' => zAll K (zRis r) (r'.1)) := fun a b ea eb => by
  obtain ⟨C, hC, n⟩ := h.1
  exact h.kp (Int.le_refl _) hC (n.kp (fn_fX11_sound zQ.rf a ea) (fN_fX12_sound zQ.rf b eb) (by decide +kernel) (by decide +kernel)) (fv_fX11_sound zQ.rf a ea) (fV_fX12_sound zQ.rf b eb)
theorem g_trace (h : zAll K σ μ) {x1 : Int32} : zp2 (fX11_trace σ x1) (fX12_trace μ x1) (fun r r' => zAll K r.1 (r'.1)) := fun a b ea eb => by
  obtain ⟨C, hC, n⟩ := h.1
  exact h.kp (Int.le_refl _) hC (n.kp (fn_fX11_trace zQ.rf a ea) (fN_fX12_trace zQ.rf b eb) (by decide +kernel) (by decide +kernel)) (fv_fX11_trace zQ.rf a ea) (fV_fX12_trace zQ.rf b eb)
theorem g_look (h : zAll K σ μ) {x1 : Int32} : zp2 (fX11_look σ x1) (fX12_look μ x1) (fun r r' => zAll K (zRls r) (r'.1)) := fun a b ea eb => by
  obtain ⟨C, hC, n⟩ := h.1
  exact h.kp (Int.le_refl _) hC (n.kp (fn_fX11_look zQ.rf a ea) (fN_fX12_look zQ.rf b eb) (by decide +kernel) (by decide +kernel)) (fv_fX11_look zQ.rf a ea) (fV_fX12_look zQ.rf b eb)
end ZG5
noncomputable def zJq : { J : Int → zSt → zSt → Prop // zJw J } := ⟨zJ2, zJ2_jw⟩
section ZG6
variable {K : Int} {σ μ : zSt} {J : { J : Int → zSt → zSt → Prop // zJw J }}
theorem zAlj.mono {K K' : Int} (h : zAlj J K σ μ) (c : K ≤ K') : zAlj J K' σ μ := ⟨h.1.mono c, J.2.1.2.2.1 _ _ _ _ (by omega) h.2.1, fun q => J.2.1.2.2.1 _ _ _ _ (by omega) (h.2.2 q)⟩
theorem gj_feed (h : zAlj J K σ μ) (hr : zr 0 262656 (zgi μ 0 2)) {x1 : Int32} {x2 : Int64} {x4 : Int64} {x6 : Int64} : zp2 (fX11_feed σ x1 x2 x4 x6) (fX12_feed μ x1 x2 x4 x6) (fun r r' => zAlj J K (zRis r) (r'.1)) := fun a b ea eb => by
  have fc := fy_fX11_feed (σ0 := σ) zQ.rf a ea
  have fm := fY_fX12_feed (σ0 := μ) zQ.rf b eb
  exact h.go (Int.le_refl _) (g_feed h.1 hr a b ea eb) (J.2.2.1 _ _ _ _ _ h.2.1 (zSc.of fc rfl) (zSrm.of fm rfl)) (fun q => ⟨by rw [← fc.o (k := 0) (a := 11) (b := 11) rfl (j := 11) (by decide) (by decide)]; exact q, zKsn.of fc rfl, zKtn.of fm rfl⟩)
theorem gj_grow (h : zAlj J K σ μ) (hr : zr 0 262656 (zgi μ 0 2)) {x1 : Int32} : zp2 (fX11_grow σ x1) (fX12_grow μ x1) (fun r r' => zAlj J K (zRis r) (r'.1)) := fun a b ea eb => by
  have fc := fy_fX11_grow (σ0 := σ) zQ.rf a ea
  have fm := fY_fX12_grow (σ0 := μ) zQ.rf b eb
  exact h.go (Int.le_refl _) (g_grow h.1 hr a b ea eb) (J.2.2.1 _ _ _ _ _ h.2.1 (zSc.of fc rfl) (zSrm.of fm rfl)) (fun q => ⟨by rw [← fc.o (k := 0) (a := 11) (b := 11) rfl (j := 11) (by decide) (by decide)]; exact q, zKsn.of fc rfl, zKtn.of fm rfl⟩)
theorem gj_patch (h : zAlj J K σ μ) (hr : zr 0 262656 (zgi μ 0 2)) {x1 : Int32} {x2 : Int64} : zp2 (fX11_patch σ x1 x2) (fX12_patch μ x1 x2) (fun r r' => zAlj J K (zRus r) (r')) := fun a b ea eb => by
  have fc := fy_fX11_patch (σ0 := σ) zQ.rf a ea
  have fm := fY_fX12_patch (σ0 := μ) zQ.rf b eb
  exact h.go (Int.le_refl _) (g_patch h.1 hr a b ea eb) (J.2.2.1 _ _ _ _ _ h.2.1 (zSc.of fc rfl) (zSrm.of fm rfl)) (fun q => ⟨by rw [← fc.o (k := 0) (a := 11) (b := 11) rfl (j := 11) (by decide) (by decide)]; exact q, zKsn.of fc rfl, zKtn.of fm rfl⟩)
theorem gj_load (h : zAlj J K σ μ) (hr : zr 0 262656 (zgi μ 0 2)) : zp2 (fX11_load σ ) (fX12_load μ ) (fun r r' => r.2 = r'.2 → zr 0 512 (r.1.1 1 3) → zr 0 262144 (r.1.1 1 4) → zR6 r.1 r'.1 → zAlj J K r.1 r'.1) := fun a b ea eb e r3 r4 r6 => by
  obtain ⟨C, hC, n⟩ := h.1.1
  have hM := l_load n.pr.2.2.2.1.2.2.2.1 hr b eb
  have x := g_load h.1 hr a b ea eb e r3 r4 r6
  rcases k_load a ea with ⟨x1, x2⟩ | ⟨x1, σa, x2, x3, x4, x5⟩
  · rcases hM with ⟨y1, y2⟩ | ⟨y1, _⟩
    · exact h.go (Int.le_refl _) x (J.2.2.1 _ _ _ _ _ h.2.1 (zSc.of x2 rfl) (zSrm.of y2 rfl)) (fun q => ⟨by rw [← x2.o (k := 0) (a := 11) (b := 11) rfl (j := 11) (by decide) (by decide)]; exact q, zKsn.of x2 rfl, zKtn.of y2 rfl⟩)
    · exact absurd (e.trans y1) x1
  · rcases hM with ⟨y1, y2⟩ | ⟨y1, μb, ⟨y2, _⟩, y6, y7⟩
    · exact absurd (e.symm.trans x1) y1
    · exact h.go (Int.le_refl _) x (J.2.2.2.1 _ _ _ _ _ (J.2.2.1 _ _ _ _ _ h.2.1 (zSc.of x2 rfl) (zSrm.of y2 rfl)) x3 y6) (fun q => absurd x5 q)
theorem gj_card (h : zAlj J K σ μ) {x1 : Int32} : zp2 (fX11_card σ x1) (fX12_card μ x1) (fun r r' => zAlj J K (zRis r) (r'.1)) := fun a b ea eb => by
  have fc := fg_fX11_card (σ0 := σ) zQ.rf a ea
  have fm := fG_fX12_card (σ0 := μ) zQ.rf b eb
  exact h.go (Int.le_refl _) (g_card h.1 a b ea eb) (J.2.2.1 _ _ _ _ _ h.2.1 (zSc.of fc rfl) (zSrm.of fm rfl)) (fun q => ⟨by rw [← fc.o (k := 0) (a := 11) (b := 11) rfl (j := 11) (by decide) (by decide)]; exact q, zKsn.of fc rfl, zKtn.of fm rfl⟩)
theorem gj_step (h : zAlj J K σ μ) (hK : K ≤ 1000000000) (hP : (μ.2 4 2).toInt ≤ 268435456) {x1 : Int32} : zp2 (fX11_step σ x1) (fX12_step μ x1) (fun r r' => zAlj J (K + 1000000) (zRis r) (r'.1)) := fun a b ea eb => by
  have fc := fe_fX11_step (σ0 := σ) zQ.rf a ea
  have fm := fV_fX12_step (σ0 := μ) zQ.rf b eb
  obtain ⟨C, hC, n⟩ := h.1.1
  obtain ⟨⟨D, hD, _, mj⟩, _⟩ := a_stepJ J.2.1 (N := 64 * K) (by omega) n h.2.1 (by omega) (by omega) a b ea eb
  exact h.go (by omega) (g_step h.1 (by omega) hP a b ea eb) (J.2.1.2.2.1 _ _ _ _ (by omega) mj) (fun q => ⟨by rw [← fc.o (k := 0) (a := 11) (b := 11) rfl (j := 11) (by decide) (by decide)]; exact q, zKsn.of fc rfl, zKtn.of fm rfl⟩)
theorem gj_picture (h : zAlj J K σ μ) (hK : K ≤ 1000000000) (hP : (μ.2 4 2).toInt ≤ 268435456) {x1 : Int32} : zp2 (fX11_picture σ x1) (fX12_picture μ x1) (fun r r' => zAlj J (K + 1000000) (zRis r) (r'.1)) := fun a b ea eb => by
  have fc := fe_fX11_picture (σ0 := σ) zQ.rf a ea
  have fm := fV_fX12_picture (σ0 := μ) zQ.rf b eb
  obtain ⟨C, hC, n⟩ := h.1.1
  obtain ⟨⟨D, hD, _, mj⟩, _⟩ := a_pictureJ J.2.1 (N := 64 * K) (by omega) n h.2.1 (by omega) (by omega) a b ea eb
  exact h.go (by omega) (g_picture h.1 (by omega) hP a b ea eb) (J.2.1.2.2.1 _ _ _ _ (by omega) mj) (fun q => ⟨by rw [← fc.o (k := 0) (a := 11) (b := 11) rfl (j := 11) (by decide) (by decide)]; exact q, zKsn.of fc rfl, zKtn.of fm rfl⟩)
theorem gj_reset (h : zAlj J K σ μ) : zp2 (fX11_reset σ ) (fX12_reset μ ) (fun r r' => zAlj J K r (r')) := fun a b ea eb => by
  have fc := fe_fX11_reset (σ0 := σ) zQ.rf a ea
  have fm := fV_fX12_reset (σ0 := μ) zQ.rf b eb
  exact h.go (Int.le_refl _) (g_reset h.1 a b ea eb) (bj_reset h.2.1 a b ea eb) (fun q => ⟨by rw [← fc.o (k := 0) (a := 11) (b := 11) rfl (j := 11) (by decide) (by decide)]; exact q, zKsn.of fc rfl, zKtn.of fm rfl⟩)
theorem gj_pause (h : zAlj J K σ μ) : zp2 (fX11_pause σ ) (fX12_pause μ ) (fun r r' => zAlj J K r.1 (r'.1)) := fun a b ea eb => by
  have fc := fe_fX11_pause (σ0 := σ) zQ.rf a ea
  have fm := fV_fX12_pause (σ0 := μ) zQ.rf b eb
  obtain ⟨C, hC, n⟩ := h.1.1
  have m := bj_pause (J := zJo J) (N := 64 * K) ⟨n, h.2.1⟩ a b ea eb
  exact h.go (Int.le_refl _) (g_pause h.1 a b ea eb) m.2 (fun q => ⟨by rw [← fc.o (k := 0) (a := 11) (b := 11) rfl (j := 11) (by decide) (by decide)]; exact q, zKsn.of fc rfl, zKtn.of fm rfl⟩)
theorem gj_press (h : zAlj J K σ μ) {x1 : Int32} {x2 : Int32} : zp2 (fX11_press σ x1 x2) (fX12_press μ x1 x2) (fun r r' => zAlj J K (zRus r) (r')) := fun a b ea eb => by
  have fc := fe_fX11_press (σ0 := σ) zQ.rf a ea
  have fm := fV_fX12_press (σ0 := μ) zQ.rf b eb
  obtain ⟨C, hC, n⟩ := h.1.1
  have m := bj_press (J := zJo J) (N := 64 * K) ⟨n, h.2.1⟩ a b ea eb
  exact h.go (Int.le_refl _) (g_press h.1 a b ea eb) m.2 (fun q => ⟨by rw [← fc.o (k := 0) (a := 11) (b := 11) rfl (j := 11) (by decide) (by decide)]; exact q, zKsn.of fc rfl, zKtn.of fm rfl⟩)
theorem gj_start (h : zAlj J K σ μ) {x1 : Int32} : zp2 (fX11_start σ x1) (fX12_start μ x1) (fun r r' => zAlj J K r (r')) := fun a b ea eb => by
  have fc := fe_fX11_start (σ0 := σ) zQ.rf a ea
  have fm := fV_fX12_start (σ0 := μ) zQ.rf b eb
  obtain ⟨C, hC, n⟩ := h.1.1
  have m := bj_start (J := zJo J) (N := 64 * K) ⟨n, h.2.1⟩ a b ea eb
  exact h.go (Int.le_refl _) (g_start h.1 a b ea eb) m.2 (fun q => ⟨by rw [← fc.o (k := 0) (a := 11) (b := 11) rfl (j := 11) (by decide) (by decide)]; exact q, zKsn.of fc rfl, zKtn.of fm rfl⟩)
theorem gj_line (h : zAlj J K σ μ) {x1 : Int32} {x2 : Int32} : zp2 (fX11_line σ x1 x2) (fX12_line μ x1 x2) (fun r r' => zAlj J K (zRus r) (r')) := fun a b ea eb => by
  have fc := fe_fX11_line (σ0 := σ) zQ.rf a ea
  have fm := fV_fX12_line (σ0 := μ) zQ.rf b eb
  obtain ⟨C, hC, n⟩ := h.1.1
  have m := bj_line (J := zJo J) (N := 64 * K) ⟨n, h.2.1⟩ a b ea eb
  exact h.go (Int.le_refl _) (g_line h.1 a b ea eb) m.2 (fun q => ⟨by rw [← fc.o (k := 0) (a := 11) (b := 11) rfl (j := 11) (by decide) (by decide)]; exact q, zKsn.of fc rfl, zKtn.of fm rfl⟩)
theorem gj_plan (h : zAlj J K σ μ) {x1 : Int32} {x2 : Int32} {x3 : Int32} : zp2 (fX11_plan σ x1 x2 x3) (fX12_plan μ x1 x2 x3) (fun r r' => zAlj J K (zRis r) (r'.1)) := fun a b ea eb => by
  have fc := fe_fX11_plan (σ0 := σ) zQ.rf a ea
  have fm := fV_fX12_plan (σ0 := μ) zQ.rf b eb
  obtain ⟨C, hC, n⟩ := h.1.1
  have m := bj_plan (J := zJo J) (N := 64 * K) ⟨n, h.2.1⟩ a b ea eb
  exact h.go (Int.le_refl _) (g_plan h.1 a b ea eb) m.1.2 (fun q => ⟨by rw [← fc.o (k := 0) (a := 11) (b := 11) rfl (j := 11) (by decide) (by decide)]; exact q, zKsn.of fc rfl, zKtn.of fm rfl⟩)
theorem gj_tell (h : zAlj J K σ μ) {x1 : Int32} : zp2 (fX11_tell σ x1) (fX12_tell μ x1) (fun r r' => zAlj J K r.1 (r'.1)) := fun a b ea eb => by
  have fc := fg_fX11_tell (σ0 := σ) zQ.rf a ea
  have fm := fG_fX12_tell (σ0 := μ) zQ.rf b eb
  exact h.go (Int.le_refl _) (g_tell h.1 a b ea eb) (J.2.2.1 _ _ _ _ _ h.2.1 (zSc.of fc rfl) (zSrm.of fm rfl)) (fun q => ⟨by rw [← fc.o (k := 0) (a := 11) (b := 11) rfl (j := 11) (by decide) (by decide)]; exact q, zKsn.of fc rfl, zKtn.of fm rfl⟩)
theorem gj_text (h : zAlj J K σ μ) {x1 : Int32} : zp2 (fX11_text σ x1) (fX12_text μ x1) (fun r r' => zAlj J K (zRls r) (r'.1)) := fun a b ea eb => by
  have fc := fg_fX11_text (σ0 := σ) zQ.rf a ea
  have fm := fG_fX12_text (σ0 := μ) zQ.rf b eb
  exact h.go (Int.le_refl _) (g_text h.1 a b ea eb) (J.2.2.1 _ _ _ _ _ h.2.1 (zSc.of fc rfl) (zSrm.of fm rfl)) (fun q => ⟨by rw [← fc.o (k := 0) (a := 11) (b := 11) rfl (j := 11) (by decide) (by decide)]; exact q, zKsn.of fc rfl, zKtn.of fm rfl⟩)
theorem gj_stop (h : zAlj J K σ μ) {x1 : Int32} {x2 : Int32} : zp2 (fX11_stop σ x1 x2) (fX12_stop μ x1 x2) (fun r r' => zAlj J K (zRis r) (r'.1)) := fun a b ea eb => by
  have fc := fe_fX11_stop (σ0 := σ) zQ.rf a ea
  have fm := fV_fX12_stop (σ0 := μ) zQ.rf b eb
  obtain ⟨C, hC, n⟩ := h.1.1
  have m := bj_stop (J := zJo J) (N := 64 * K) ⟨n, h.2.1⟩ a b ea eb
  exact h.go (Int.le_refl _) (g_stop h.1 a b ea eb) m.2 (fun q => ⟨by rw [← fc.o (k := 0) (a := 11) (b := 11) rfl (j := 11) (by decide) (by decide)]; exact q, zKsn.of fc rfl, zKtn.of fm rfl⟩)
theorem gj_register (h : zAlj J K σ μ) {x1 : Int32} : zp2 (fX11_register σ x1) (fX12_register μ x1) (fun r r' => zAlj J K (zRis r) (r'.1)) := fun a b ea eb => by
  have fc := fg_fX11_register (σ0 := σ) zQ.rf a ea
  have fm := fG_fX12_register (σ0 := μ) zQ.rf b eb
  exact h.go (Int.le_refl _) (g_register h.1 a b ea eb) (J.2.2.1 _ _ _ _ _ h.2.1 (zSc.of fc rfl) (zSrm.of fm rfl)) (fun q => ⟨by rw [← fc.o (k := 0) (a := 11) (b := 11) rfl (j := 11) (by decide) (by decide)]; exact q, zKsn.of fc rfl, zKtn.of fm rfl⟩)
theorem gj_set (h : zAlj J K σ μ) {x1 : Int32} {x2 : Int32} : zp2 (fX11_set σ x1 x2) (fX12_set μ x1 x2) (fun r r' => zAlj J K (zRus r) (r')) := fun a b ea eb => by
  have fc := fe_fX11_set (σ0 := σ) zQ.rf a ea
  have fm := fV_fX12_set (σ0 := μ) zQ.rf b eb
  obtain ⟨C, hC, n⟩ := h.1.1
  have m := bj_set (J := zJo J) (N := 64 * K) ⟨n, h.2.1⟩ a b ea eb
  exact h.go (Int.le_refl _) (g_set h.1 a b ea eb) m.2 (fun q => ⟨by rw [← fc.o (k := 0) (a := 11) (b := 11) rfl (j := 11) (by decide) (by decide)]; exact q, zKsn.of fc rfl, zKtn.of fm rfl⟩)
theorem gj_peek (h : zAlj J K σ μ) {x1 : Int32} : zp2 (fX11_peek σ x1) (fX12_peek μ x1) (fun r r' => zAlj J K r.1 (r'.1)) := fun a b ea eb => by
  have fc := fg_fX11_peek (σ0 := σ) zQ.rf a ea
  have fm := fG_fX12_peek (σ0 := μ) zQ.rf b eb
  exact h.go (Int.le_refl _) (g_peek h.1 a b ea eb) (J.2.2.1 _ _ _ _ _ h.2.1 (zSc.of fc rfl) (zSrm.of fm rfl)) (fun q => ⟨by rw [← fc.o (k := 0) (a := 11) (b := 11) rfl (j := 11) (by decide) (by decide)]; exact q, zKsn.of fc rfl, zKtn.of fm rfl⟩)
theorem gj_poke (h : zAlj J K σ μ) {x1 : Int32} {x2 : Int32} : zp2 (fX11_poke σ x1 x2) (fX12_poke μ x1 x2) (fun r r' => zAlj J K r (r')) := fun a b ea eb => by
  have fc := fe_fX11_poke (σ0 := σ) zQ.rf a ea
  have fm := fV_fX12_poke (σ0 := μ) zQ.rf b eb
  obtain ⟨C, hC, n⟩ := h.1.1
  have m := bj_poke (J := zJo J) (N := 64 * K) ⟨n, h.2.1⟩ a b ea eb
  exact h.go (Int.le_refl _) (g_poke h.1 a b ea eb) m.2 (fun q => ⟨by rw [← fc.o (k := 0) (a := 11) (b := 11) rfl (j := 11) (by decide) (by decide)]; exact q, zKsn.of fc rfl, zKtn.of fm rfl⟩)
theorem gj_in (h : zAlj J K σ μ) {x1 : Int32} : zp2 (fX11_in σ x1) (fX12_in μ x1) (fun r r' => zAlj J K r.1 (r'.1)) := fun a b ea eb => by
  have fc := fe_fX11_in (σ0 := σ) zQ.rf a ea
  have fm := fV_fX12_in (σ0 := μ) zQ.rf b eb
  obtain ⟨C, hC, n⟩ := h.1.1
  have m := bj_in (J := zJo J) (N := 64 * K) ⟨n, h.2.1⟩ a b ea eb
  exact h.go (Int.le_refl _) (g_in h.1 a b ea eb) m.1.2 (fun q => ⟨by rw [← fc.o (k := 0) (a := 11) (b := 11) rfl (j := 11) (by decide) (by decide)]; exact q, zKsn.of fc rfl, zKtn.of fm rfl⟩)
theorem gj_out (h : zAlj J K σ μ) {x1 : Int32} {x2 : Int32} : zp2 (fX11_out σ x1 x2) (fX12_out μ x1 x2) (fun r r' => zAlj J K r (r')) := fun a b ea eb => by
  have fc := fe_fX11_out (σ0 := σ) zQ.rf a ea
  have fm := fV_fX12_out (σ0 := μ) zQ.rf b eb
  obtain ⟨C, hC, n⟩ := h.1.1
  have m := bj_out (J := zJo J) (N := 64 * K) ⟨n, h.2.1⟩ a b ea eb
  exact h.go (Int.le_refl _) (g_out h.1 a b ea eb) m.2 (fun q => ⟨by rw [← fc.o (k := 0) (a := 11) (b := 11) rfl (j := 11) (by decide) (by decide)]; exact q, zKsn.of fc rfl, zKtn.of fm rfl⟩)
theorem gj_battery (h : zAlj J K σ μ) {x1 : Int32} : zp2 (fX11_battery σ x1) (fX12_battery μ x1) (fun r r' => zAlj J K (zRis r) (r'.1)) := fun a b ea eb => by
  have fc := fg_fX11_battery (σ0 := σ) zQ.rf a ea
  have fm := fG_fX12_battery (σ0 := μ) zQ.rf b eb
  exact h.go (Int.le_refl _) (g_battery h.1 a b ea eb) (J.2.2.1 _ _ _ _ _ h.2.1 (zSc.of fc rfl) (zSrm.of fm rfl)) (fun q => ⟨by rw [← fc.o (k := 0) (a := 11) (b := 11) rfl (j := 11) (by decide) (by decide)]; exact q, zKsn.of fc rfl, zKtn.of fm rfl⟩)
theorem gj_wipe (h : zAlj J K σ μ) : zp2 (fX11_wipe σ ) (fX12_wipe μ ) (fun r r' => zAlj J K r (r')) := fun a b ea eb => by
  have fc := fe_fX11_wipe (σ0 := σ) zQ.rf a ea
  have fm := fV_fX12_wipe (σ0 := μ) zQ.rf b eb
  obtain ⟨C, hC, n⟩ := h.1.1
  have m := bj_wipe (J := zJo J) (N := 64 * K) ⟨n, h.2.1⟩ a b ea eb
  exact h.go (Int.le_refl _) (g_wipe h.1 a b ea eb) m.2 (fun q => ⟨by rw [← fc.o (k := 0) (a := 11) (b := 11) rfl (j := 11) (by decide) (by decide)]; exact q, zKsn.of fc rfl, zKtn.of fm rfl⟩)
theorem gj_video (h : zAlj J K σ μ) {x1 : Int32} : zp2 (fX11_video σ x1) (fX12_video μ x1) (fun r r' => zAlj J K r.1 (r'.1)) := fun a b ea eb => by
  have fc := fg_fX11_video (σ0 := σ) zQ.rf a ea
  have fm := fG_fX12_video (σ0 := μ) zQ.rf b eb
  exact h.go (Int.le_refl _) (g_video h.1 a b ea eb) (J.2.2.1 _ _ _ _ _ h.2.1 (zSc.of fc rfl) (zSrm.of fm rfl)) (fun q => ⟨by rw [← fc.o (k := 0) (a := 11) (b := 11) rfl (j := 11) (by decide) (by decide)]; exact q, zKsn.of fc rfl, zKtn.of fm rfl⟩)
theorem gj_chip (h : zAlj J K σ μ) {x1 : Int32} : zp2 (fX11_chip σ x1) (fX12_chip μ x1) (fun r r' => zAlj J K (zRis r) (r'.1)) := fun a b ea eb => by
  have fc := fg_fX11_chip (σ0 := σ) zQ.rf a ea
  have fm := fG_fX12_chip (σ0 := μ) zQ.rf b eb
  exact h.go (Int.le_refl _) (g_chip h.1 a b ea eb) (J.2.2.1 _ _ _ _ _ h.2.1 (zSc.of fc rfl) (zSrm.of fm rfl)) (fun q => ⟨by rw [← fc.o (k := 0) (a := 11) (b := 11) rfl (j := 11) (by decide) (by decide)]; exact q, zKsn.of fc rfl, zKtn.of fm rfl⟩)
theorem gj_dot (h : zAlj J K σ μ) {x1 : Int32} {x2 : Int32} : zp2 (fX11_dot σ x1 x2) (fX12_dot μ x1 x2) (fun r r' => zAlj J K (zRis r) (r'.1)) := fun a b ea eb => by
  have fc := fg_fX11_dot (σ0 := σ) zQ.rf a ea
  have fm := fG_fX12_dot (σ0 := μ) zQ.rf b eb
  exact h.go (Int.le_refl _) (g_dot h.1 a b ea eb) (J.2.2.1 _ _ _ _ _ h.2.1 (zSc.of fc rfl) (zSrm.of fm rfl)) (fun q => ⟨by rw [← fc.o (k := 0) (a := 11) (b := 11) rfl (j := 11) (by decide) (by decide)]; exact q, zKsn.of fc rfl, zKtn.of fm rfl⟩)
theorem gj_row (h : zAlj J K σ μ) {x1 : Int32} : zp2 (fX11_row σ x1) (fX12_row μ x1) (fun r r' => zAlj J K (zRis r) (r'.1)) := fun a b ea eb => by
  have fc := fg_fX11_row (σ0 := σ) zQ.rf a ea
  have fm := fG_fX12_row (σ0 := μ) zQ.rf b eb
  exact h.go (Int.le_refl _) (g_row h.1 a b ea eb) (J.2.2.1 _ _ _ _ _ h.2.1 (zSc.of fc rfl) (zSrm.of fm rfl)) (fun q => ⟨by rw [← fc.o (k := 0) (a := 11) (b := 11) rfl (j := 11) (by decide) (by decide)]; exact q, zKsn.of fc rfl, zKtn.of fm rfl⟩)
theorem gj_hear (h : zAlj J K σ μ) : zp2 (fX11_hear σ ) (fX12_hear μ ) (fun r r' => zAlj J K (zRls r) (r'.1)) := fun a b ea eb => by
  have fc := fe_fX11_hear (σ0 := σ) zQ.rf a ea
  have fm := fV_fX12_hear (σ0 := μ) zQ.rf b eb
  exact h.go (Int.le_refl _) (g_hear h.1 a b ea eb) (J.2.2.2.2.1 _ _ _ h.2.1 a b ea eb) (fun q => ⟨by rw [← fc.o (k := 0) (a := 11) (b := 11) rfl (j := 11) (by decide) (by decide)]; exact q, zKsn.of fc rfl, zKtn.of fm rfl⟩)
theorem gj_mix (h : zAlj J K σ μ) : zp2 (fX11_mix σ ) (fX12_mix μ ) (fun r r' => zAlj J K (zRls r) (r'.1)) := fun a b ea eb => by
  have fc := fe_fX11_mix (σ0 := σ) zQ.rf a ea
  have fm := fV_fX12_mix (σ0 := μ) zQ.rf b eb
  exact h.go (Int.le_refl _) (g_mix h.1 a b ea eb) (J.2.2.2.2.2 _ _ _ h.2.1 a b ea eb) (fun q => ⟨by rw [← fc.o (k := 0) (a := 11) (b := 11) rfl (j := 11) (by decide) (by decide)]; exact q, zKsn.of fc rfl, zKtn.of fm rfl⟩)
theorem gj_wave (h : zAlj J K σ μ) {x1 : Int32} : zp2 (fX11_wave σ x1) (fX12_wave μ x1) (fun r r' => zAlj J K (zRis r) (r'.1)) := fun a b ea eb => by
  have fc := fg_fX11_wave (σ0 := σ) zQ.rf a ea
  have fm := fG_fX12_wave (σ0 := μ) zQ.rf b eb
  exact h.go (Int.le_refl _) (g_wave h.1 a b ea eb) (J.2.2.1 _ _ _ _ _ h.2.1 (zSc.of fc rfl) (zSrm.of fm rfl)) (fun q => ⟨by rw [← fc.o (k := 0) (a := 11) (b := 11) rfl (j := 11) (by decide) (by decide)]; exact q, zKsn.of fc rfl, zKtn.of fm rfl⟩)
theorem gj_sound (h : zAlj J K σ μ) {x1 : Int32} : zp2 (fX11_sound σ x1) (fX12_sound μ x1) (fun r r' => zAlj J K (zRis r) (r'.1)) := fun a b ea eb => by
  have fc := fg_fX11_sound (σ0 := σ) zQ.rf a ea
  have fm := fG_fX12_sound (σ0 := μ) zQ.rf b eb
  exact h.go (Int.le_refl _) (g_sound h.1 a b ea eb) (J.2.2.1 _ _ _ _ _ h.2.1 (zSc.of fc rfl) (zSrm.of fm rfl)) (fun q => ⟨by rw [← fc.o (k := 0) (a := 11) (b := 11) rfl (j := 11) (by decide) (by decide)]; exact q, zKsn.of fc rfl, zKtn.of fm rfl⟩)
theorem gj_trace (h : zAlj J K σ μ) {x1 : Int32} : zp2 (fX11_trace σ x1) (fX12_trace μ x1) (fun r r' => zAlj J K r.1 (r'.1)) := fun a b ea eb => by
  have fc := fg_fX11_trace (σ0 := σ) zQ.rf a ea
  have fm := fG_fX12_trace (σ0 := μ) zQ.rf b eb
  exact h.go (Int.le_refl _) (g_trace h.1 a b ea eb) (J.2.2.1 _ _ _ _ _ h.2.1 (zSc.of fc rfl) (zSrm.of fm rfl)) (fun q => ⟨by rw [← fc.o (k := 0) (a := 11) (b := 11) rfl (j := 11) (by decide) (by decide)]; exact q, zKsn.of fc rfl, zKtn.of fm rfl⟩)
theorem gj_look (h : zAlj J K σ μ) {x1 : Int32} : zp2 (fX11_look σ x1) (fX12_look μ x1) (fun r r' => zAlj J K (zRls r) (r'.1)) := fun a b ea eb => by
  have fc := fg_fX11_look (σ0 := σ) zQ.rf a ea
  have fm := fG_fX12_look (σ0 := μ) zQ.rf b eb
  exact h.go (Int.le_refl _) (g_look h.1 a b ea eb) (J.2.2.1 _ _ _ _ _ h.2.1 (zSc.of fc rfl) (zSrm.of fm rfl)) (fun q => ⟨by rw [← fc.o (k := 0) (a := 11) (b := 11) rfl (j := 11) (by decide) (by decide)]; exact q, zKsn.of fc rfl, zKtn.of fm rfl⟩)
theorem zAlk.mono {K K' : Int} (h : zAlk J K σ μ) (c : K ≤ K') : zAlk J K' σ μ := ⟨h.1.mono c, h.2⟩
theorem gk_feed (h : zAlk J K σ μ) (hr : zr 0 262656 (zgi μ 0 2)) {x1 : Int32} {x2 : Int64} {x4 : Int64} {x6 : Int64} : zp2 (fX11_feed σ x1 x2 x4 x6) (fX12_feed μ x1 x2 x4 x6) (fun r r' => zAlk J K (zRis r) (r'.1)) := fun a b ea eb => ⟨gj_feed h.1 hr a b ea eb, z_tx h.2 (fy_fX11_feed (σ0 := σ) zQ.rf a ea) (fY_fX12_feed (σ0 := μ) zQ.rf b eb) rfl rfl⟩
theorem gk_grow (h : zAlk J K σ μ) (hr : zr 0 262656 (zgi μ 0 2)) {x1 : Int32} : zp2 (fX11_grow σ x1) (fX12_grow μ x1) (fun r r' => zAlk J K (zRis r) (r'.1)) := fun a b ea eb => ⟨gj_grow h.1 hr a b ea eb, z_tx h.2 (fy_fX11_grow (σ0 := σ) zQ.rf a ea) (fY_fX12_grow (σ0 := μ) zQ.rf b eb) rfl rfl⟩
theorem gk_patch (h : zAlk J K σ μ) (hr : zr 0 262656 (zgi μ 0 2)) {x1 : Int32} {x2 : Int64} : zp2 (fX11_patch σ x1 x2) (fX12_patch μ x1 x2) (fun r r' => zAlk J K (zRus r) (r')) := fun a b ea eb => ⟨gj_patch h.1 hr a b ea eb, z_tx h.2 (fy_fX11_patch (σ0 := σ) zQ.rf a ea) (fY_fX12_patch (σ0 := μ) zQ.rf b eb) rfl rfl⟩
theorem gk_load (h : zAlk J K σ μ) (hr : zr 0 262656 (zgi μ 0 2)) : zp2 (fX11_load σ ) (fX12_load μ ) (fun r r' => r.2 = r'.2 → zr 0 512 (r.1.1 1 3) → zr 0 262144 (r.1.1 1 4) → zR6 r.1 r'.1 → zAlk J K r.1 r'.1) := fun a b ea eb e r3 r4 r6 => by
  refine ⟨gj_load h.1 hr a b ea eb e r3 r4 r6, ?_⟩
  obtain ⟨C, hC, n⟩ := h.1.1.1
  have hM := l_load n.pr.2.2.2.1.2.2.2.1 hr b eb
  rcases k_load a ea with ⟨x1, x2⟩ | ⟨x1, σa, x2, x3, x4, x5⟩
  · rcases hM with ⟨y1, y2⟩ | ⟨y1, _⟩
    · exact z_tx h.2 x2 y2 rfl rfl
    · exact absurd (e.trans y1) x1
  · rcases hM with ⟨y1, y2⟩ | ⟨y1, μb, ⟨y2, _⟩, y6, y7⟩
    · exact absurd (e.symm.trans x1) y1
    · exact z_tx (z_tx h.2 x2 y2 rfl rfl) x3.1 y6.1 rfl rfl
theorem gk_card (h : zAlk J K σ μ) {x1 : Int32} : zp2 (fX11_card σ x1) (fX12_card μ x1) (fun r r' => zAlk J K (zRis r) (r'.1)) := fun a b ea eb => ⟨gj_card h.1 a b ea eb, z_tx h.2 (fu_fX11_card (σ0 := σ) zQ.rf a ea) (fU_fX12_card (σ0 := μ) zQ.rf b eb) rfl rfl⟩
theorem gk_step (h : zAlk J K σ μ) (hK : K ≤ 1000000000) (hP : (μ.2 4 2).toInt ≤ 268435456) {x1 : Int32} : zp2 (fX11_step σ x1) (fX12_step μ x1) (fun r r' => zAlk J (K + 1000000) (zRis r) (r'.1)) := fun a b ea eb => ⟨gj_step h.1 hK hP a b ea eb, z_tx h.2 (fu_fX11_step (σ0 := σ) zQ.rf a ea) (fU_fX12_step (σ0 := μ) zQ.rf b eb) rfl rfl⟩
theorem gk_picture (h : zAlk J K σ μ) (hK : K ≤ 1000000000) (hP : (μ.2 4 2).toInt ≤ 268435456) {x1 : Int32} : zp2 (fX11_picture σ x1) (fX12_picture μ x1) (fun r r' => zAlk J (K + 1000000) (zRis r) (r'.1)) := fun a b ea eb => ⟨gj_picture h.1 hK hP a b ea eb, z_tx h.2 (fu_fX11_picture (σ0 := σ) zQ.rf a ea) (fU_fX12_picture (σ0 := μ) zQ.rf b eb) rfl rfl⟩
theorem gk_reset (h : zAlk J K σ μ) : zp2 (fX11_reset σ ) (fX12_reset μ ) (fun r r' => zAlk J K r (r')) := fun a b ea eb => ⟨gj_reset h.1 a b ea eb, z_tx h.2 (fu_fX11_reset (σ0 := σ) zQ.rf a ea) (fU_fX12_reset (σ0 := μ) zQ.rf b eb) rfl rfl⟩
theorem gk_pause (h : zAlk J K σ μ) : zp2 (fX11_pause σ ) (fX12_pause μ ) (fun r r' => zAlk J K r.1 (r'.1)) := fun a b ea eb => ⟨gj_pause h.1 a b ea eb, z_tx h.2 (fu_fX11_pause (σ0 := σ) zQ.rf a ea) (fU_fX12_pause (σ0 := μ) zQ.rf b eb) rfl rfl⟩
theorem gk_press (h : zAlk J K σ μ) {x1 : Int32} {x2 : Int32} : zp2 (fX11_press σ x1 x2) (fX12_press μ x1 x2) (fun r r' => zAlk J K (zRus r) (r')) := fun a b ea eb => ⟨gj_press h.1 a b ea eb, z_tx h.2 (fu_fX11_press (σ0 := σ) zQ.rf a ea) (fU_fX12_press (σ0 := μ) zQ.rf b eb) rfl rfl⟩
theorem gk_start (h : zAlk J K σ μ) {x1 : Int32} : zp2 (fX11_start σ x1) (fX12_start μ x1) (fun r r' => zAlk J K r (r')) := fun a b ea eb => ⟨gj_start h.1 a b ea eb, z_tx h.2 (fu_fX11_start (σ0 := σ) zQ.rf a ea) (fU_fX12_start (σ0 := μ) zQ.rf b eb) rfl rfl⟩
theorem gk_line (h : zAlk J K σ μ) {x1 : Int32} {x2 : Int32} : zp2 (fX11_line σ x1 x2) (fX12_line μ x1 x2) (fun r r' => zAlk J K (zRus r) (r')) := fun a b ea eb => ⟨gj_line h.1 a b ea eb, z_tx h.2 (fu_fX11_line (σ0 := σ) zQ.rf a ea) (fU_fX12_line (σ0 := μ) zQ.rf b eb) rfl rfl⟩
theorem gk_plan (h : zAlk J K σ μ) {x1 : Int32} {x2 : Int32} {x3 : Int32} : zp2 (fX11_plan σ x1 x2 x3) (fX12_plan μ x1 x2 x3) (fun r r' => zAlk J K (zRis r) (r'.1)) := fun a b ea eb => ⟨gj_plan h.1 a b ea eb, z_tx h.2 (fu_fX11_plan (σ0 := σ) zQ.rf a ea) (fU_fX12_plan (σ0 := μ) zQ.rf b eb) rfl rfl⟩
theorem gk_tell (h : zAlk J K σ μ) {x1 : Int32} : zp2 (fX11_tell σ x1) (fX12_tell μ x1) (fun r r' => zAlk J K r.1 (r'.1)) := fun a b ea eb => ⟨gj_tell h.1 a b ea eb, by
  obtain ⟨C, hC, n⟩ := h.1.1.1
  exact (v_tell n.1.1 a b ea eb).2.1⟩
theorem gk_text (h : zAlk J K σ μ) {x1 : Int32} : zp2 (fX11_text σ x1) (fX12_text μ x1) (fun r r' => zAlk J K (zRls r) (r'.1)) := fun a b ea eb => ⟨gj_text h.1 a b ea eb, z_tx h.2 (fu_fX11_text (σ0 := σ) zQ.rf a ea) (fU_fX12_text (σ0 := μ) zQ.rf b eb) rfl rfl⟩
theorem gk_stop (h : zAlk J K σ μ) {x1 : Int32} {x2 : Int32} : zp2 (fX11_stop σ x1 x2) (fX12_stop μ x1 x2) (fun r r' => zAlk J K (zRis r) (r'.1)) := fun a b ea eb => ⟨gj_stop h.1 a b ea eb, z_tx h.2 (fu_fX11_stop (σ0 := σ) zQ.rf a ea) (fU_fX12_stop (σ0 := μ) zQ.rf b eb) rfl rfl⟩
theorem gk_save (h : zAlk J K σ μ) : zp2 (fX11_save σ ) (fX12_save μ ) (zAlk J K) := fun a b ea eb => by
  refine ⟨gj_save h.1 a b ea eb, ?_⟩
  have q1 := (zKept_q (σ := σ)).1
  have ha := k_save a ea
  have hm := m_saveK b eb
  have q2 : zQ [16, 18, 20, 22, 24, 26, 31, 33, 35, 37, 41, 43, 11, 12] [(0, 11, 11)] [39, 47, 49] [] σ a := by rw [ha]; exact zQ.wi q1 rfl
  exact z_tx h.2 q2 hm.1 rfl rfl
theorem gk_restore (h : zAlk J K σ μ) (hf : σ.1 0 11 = 0 ↔ μ.1 0 19 = 0) : zp2 (fX11_restore σ ) (fX12_restore μ ) (fun r r' => zAlk J K (zRus r) r') := fun a b ea eb => by
  refine ⟨gj_restore h.1 hf a b ea eb, ?_⟩
  by_cases q : σ.1 0 11 = 0
  · have ha : zpc (fX11_restore σ ) (fun r => zRus r = σ) := by
      unfold fX11_restore
      exact zpc_if (fun _ => zpc_some rfl) (fun z => absurd q z)
    have hb : zpc (fX12_restore μ ) (fun r => ∃ v, r = zsi μ 0 0 v) := by
      unfold fX12_restore fX12_restore_13
      exact zpc_if (fun _ => zpc_fails1 (fun t1 e1 => zpc_if (fun z => absurd z (by decide)) (fun _ => zpc_some ⟨_, e1⟩))) (fun z => absurd (hf.mp q) z)
    obtain ⟨v, eb'⟩ := hb b eb
    rw [ha a ea, eb', zsi_nj (by decide)]
    exact h.2
  · have nq : ¬ μ.1 0 19 = 0 := fun z => q (hf.mpr z)
    have ha := c_restore q a ea
    have hb := m_restK nq b eb
    rw [ha]
    exact z_tx h.2 (zBack_q (σ := σ)).1 hb.1 rfl rfl
theorem gk_register (h : zAlk J K σ μ) {x1 : Int32} : zp2 (fX11_register σ x1) (fX12_register μ x1) (fun r r' => zAlk J K (zRis r) (r'.1)) := fun a b ea eb => ⟨gj_register h.1 a b ea eb, z_tx h.2 (fu_fX11_register (σ0 := σ) zQ.rf a ea) (fU_fX12_register (σ0 := μ) zQ.rf b eb) rfl rfl⟩
theorem gk_set (h : zAlk J K σ μ) {x1 : Int32} {x2 : Int32} : zp2 (fX11_set σ x1 x2) (fX12_set μ x1 x2) (fun r r' => zAlk J K (zRus r) (r')) := fun a b ea eb => ⟨gj_set h.1 a b ea eb, z_tx h.2 (fu_fX11_set (σ0 := σ) zQ.rf a ea) (fU_fX12_set (σ0 := μ) zQ.rf b eb) rfl rfl⟩
theorem gk_peek (h : zAlk J K σ μ) {x1 : Int32} : zp2 (fX11_peek σ x1) (fX12_peek μ x1) (fun r r' => zAlk J K r.1 (r'.1)) := fun a b ea eb => ⟨gj_peek h.1 a b ea eb, z_tx h.2 (fu_fX11_peek (σ0 := σ) zQ.rf a ea) (fU_fX12_peek (σ0 := μ) zQ.rf b eb) rfl rfl⟩
theorem gk_poke (h : zAlk J K σ μ) {x1 : Int32} {x2 : Int32} : zp2 (fX11_poke σ x1 x2) (fX12_poke μ x1 x2) (fun r r' => zAlk J K r (r')) := fun a b ea eb => ⟨gj_poke h.1 a b ea eb, z_tx h.2 (fu_fX11_poke (σ0 := σ) zQ.rf a ea) (fU_fX12_poke (σ0 := μ) zQ.rf b eb) rfl rfl⟩
theorem gk_in (h : zAlk J K σ μ) {x1 : Int32} : zp2 (fX11_in σ x1) (fX12_in μ x1) (fun r r' => zAlk J K r.1 (r'.1)) := fun a b ea eb => ⟨gj_in h.1 a b ea eb, z_tx h.2 (fu_fX11_in (σ0 := σ) zQ.rf a ea) (fU_fX12_in (σ0 := μ) zQ.rf b eb) rfl rfl⟩
theorem gk_out (h : zAlk J K σ μ) {x1 : Int32} {x2 : Int32} : zp2 (fX11_out σ x1 x2) (fX12_out μ x1 x2) (fun r r' => zAlk J K r (r')) := fun a b ea eb => ⟨gj_out h.1 a b ea eb, z_tx h.2 (fu_fX11_out (σ0 := σ) zQ.rf a ea) (fU_fX12_out (σ0 := μ) zQ.rf b eb) rfl rfl⟩
theorem gk_battery (h : zAlk J K σ μ) {x1 : Int32} : zp2 (fX11_battery σ x1) (fX12_battery μ x1) (fun r r' => zAlk J K (zRis r) (r'.1)) := fun a b ea eb => ⟨gj_battery h.1 a b ea eb, z_tx h.2 (fu_fX11_battery (σ0 := σ) zQ.rf a ea) (fU_fX12_battery (σ0 := μ) zQ.rf b eb) rfl rfl⟩
theorem gk_wipe (h : zAlk J K σ μ) : zp2 (fX11_wipe σ ) (fX12_wipe μ ) (fun r r' => zAlk J K r (r')) := fun a b ea eb => ⟨gj_wipe h.1 a b ea eb, z_tx h.2 (fu_fX11_wipe (σ0 := σ) zQ.rf a ea) (fU_fX12_wipe (σ0 := μ) zQ.rf b eb) rfl rfl⟩
theorem gk_video (h : zAlk J K σ μ) {x1 : Int32} : zp2 (fX11_video σ x1) (fX12_video μ x1) (fun r r' => zAlk J K r.1 (r'.1)) := fun a b ea eb => ⟨gj_video h.1 a b ea eb, z_tx h.2 (fu_fX11_video (σ0 := σ) zQ.rf a ea) (fU_fX12_video (σ0 := μ) zQ.rf b eb) rfl rfl⟩
theorem gk_chip (h : zAlk J K σ μ) {x1 : Int32} : zp2 (fX11_chip σ x1) (fX12_chip μ x1) (fun r r' => zAlk J K (zRis r) (r'.1)) := fun a b ea eb => ⟨gj_chip h.1 a b ea eb, z_tx h.2 (fu_fX11_chip (σ0 := σ) zQ.rf a ea) (fU_fX12_chip (σ0 := μ) zQ.rf b eb) rfl rfl⟩
theorem gk_dot (h : zAlk J K σ μ) {x1 : Int32} {x2 : Int32} : zp2 (fX11_dot σ x1 x2) (fX12_dot μ x1 x2) (fun r r' => zAlk J K (zRis r) (r'.1)) := fun a b ea eb => ⟨gj_dot h.1 a b ea eb, z_tx h.2 (fu_fX11_dot (σ0 := σ) zQ.rf a ea) (fU_fX12_dot (σ0 := μ) zQ.rf b eb) rfl rfl⟩
theorem gk_row (h : zAlk J K σ μ) {x1 : Int32} : zp2 (fX11_row σ x1) (fX12_row μ x1) (fun r r' => zAlk J K (zRis r) (r'.1)) := fun a b ea eb => ⟨gj_row h.1 a b ea eb, z_tx h.2 (fu_fX11_row (σ0 := σ) zQ.rf a ea) (fU_fX12_row (σ0 := μ) zQ.rf b eb) rfl rfl⟩
theorem gk_hear (h : zAlk J K σ μ) : zp2 (fX11_hear σ ) (fX12_hear μ ) (fun r r' => zAlk J K (zRls r) (r'.1)) := fun a b ea eb => ⟨gj_hear h.1 a b ea eb, z_tx h.2 (fu_fX11_hear (σ0 := σ) zQ.rf a ea) (fU_fX12_hear (σ0 := μ) zQ.rf b eb) rfl rfl⟩
theorem gk_mix (h : zAlk J K σ μ) : zp2 (fX11_mix σ ) (fX12_mix μ ) (fun r r' => zAlk J K (zRls r) (r'.1)) := fun a b ea eb => ⟨gj_mix h.1 a b ea eb, z_tx h.2 (fu_fX11_mix (σ0 := σ) zQ.rf a ea) (fU_fX12_mix (σ0 := μ) zQ.rf b eb) rfl rfl⟩
theorem gk_wave (h : zAlk J K σ μ) {x1 : Int32} : zp2 (fX11_wave σ x1) (fX12_wave μ x1) (fun r r' => zAlk J K (zRis r) (r'.1)) := fun a b ea eb => ⟨gj_wave h.1 a b ea eb, z_tx h.2 (fu_fX11_wave (σ0 := σ) zQ.rf a ea) (fU_fX12_wave (σ0 := μ) zQ.rf b eb) rfl rfl⟩
theorem gk_sound (h : zAlk J K σ μ) {x1 : Int32} : zp2 (fX11_sound σ x1) (fX12_sound μ x1) (fun r r' => zAlk J K (zRis r) (r'.1)) := fun a b ea eb => ⟨gj_sound h.1 a b ea eb, z_tx h.2 (fu_fX11_sound (σ0 := σ) zQ.rf a ea) (fU_fX12_sound (σ0 := μ) zQ.rf b eb) rfl rfl⟩
theorem gk_trace (h : zAlk J K σ μ) {x1 : Int32} : zp2 (fX11_trace σ x1) (fX12_trace μ x1) (fun r r' => zAlk J K r.1 (r'.1)) := fun a b ea eb => ⟨gj_trace h.1 a b ea eb, z_tx h.2 (fu_fX11_trace (σ0 := σ) zQ.rf a ea) (fU_fX12_trace (σ0 := μ) zQ.rf b eb) rfl rfl⟩
theorem gk_look (h : zAlk J K σ μ) {x1 : Int32} : zp2 (fX11_look σ x1) (fX12_look μ x1) (fun r r' => zAlk J K (zRls r) (r'.1)) := fun a b ea eb => ⟨gj_look h.1 a b ea eb, z_tx h.2 (fu_fX11_look (σ0 := σ) zQ.rf a ea) (fU_fX12_look (σ0 := μ) zQ.rf b eb) rfl rfl⟩
end ZG6
section ZG5
variable {K K0 n k s : Int} {σ μ : zSt} {o : Nat → Int64}
theorem r_feed (h : zAlk zJq K σ μ) (hr : zr 0 262656 (zgi μ 0 2)) {x1 : Int32} {x2 : Int64} {x4 : Int64} {x6 : Int64} : zp2 (fL_feed o σ x1 x2 x4 x6) (fX12_feed μ x1 x2 x4 x6) (fun r r' => zAlk zJq K (r.1.2) (r'.1)) := by
  unfold fL_feed
  exact zp2_hi (I := fun s (r' : zSt × Int32) => zAlk zJq K s (r'.1)) (fun _ _ _ h => zh2_st h) (gk_feed h hr)
theorem r_grow (h : zAlk zJq K σ μ) (hr : zr 0 262656 (zgi μ 0 2)) {x1 : Int32} : zp2 (fL_grow o σ x1) (fX12_grow μ x1) (fun r r' => zAlk zJq K (r.1.2) (r'.1)) := by
  unfold fL_grow
  exact zp2_hi (I := fun s (r' : zSt × Int32) => zAlk zJq K s (r'.1)) (fun _ _ _ h => zh2_st h) (gk_grow h hr)
theorem r_patch (h : zAlk zJq K σ μ) (hr : zr 0 262656 (zgi μ 0 2)) {x1 : Int32} {x2 : Int64} : zp2 (fL_patch σ x1 x2) (fX12_patch μ x1 x2) (fun r r' => zAlk zJq K (r.1) (r')) := by
  unfold fL_patch
  exact zp2_hu (I := fun s (r' : zSt) => zAlk zJq K s (r')) (fun _ _ _ h => zh1_st h) (gk_patch h hr)
theorem r_card (h : zAlk zJq K σ μ) {x1 : Int32} : zp2 (fL_card o σ x1) (fX12_card μ x1) (fun r r' => zAlk zJq K (r.1.2) (r'.1)) := by
  unfold fL_card
  exact zp2_hi (I := fun s (r' : zSt × Int32) => zAlk zJq K s (r'.1)) (fun _ _ _ h => zh1_st h) (gk_card h)
theorem r_step (h : zAlk zJq K σ μ) (hK : K ≤ 1000000000) (hP : (μ.2 4 2).toInt ≤ 268435456) {x1 : Int32} : zp2 (fL_step o σ x1) (fX12_step μ x1) (fun r r' => zAlk zJq (K + 1000000) (r.1.2) (r'.1)) := by
  unfold fL_step
  exact zp2_hi (I := fun s (r' : zSt × Int32) => zAlk zJq (K + 1000000) s (r'.1)) (fun _ _ _ h => zh1_st h) (gk_step h hK hP)
theorem r_picture (h : zAlk zJq K σ μ) (hK : K ≤ 1000000000) (hP : (μ.2 4 2).toInt ≤ 268435456) {x1 : Int32} : zp2 (fL_picture o σ x1) (fX12_picture μ x1) (fun r r' => zAlk zJq (K + 1000000) (r.1.2) (r'.1)) := by
  unfold fL_picture
  exact zp2_hi (I := fun s (r' : zSt × Int32) => zAlk zJq (K + 1000000) s (r'.1)) (fun _ _ _ h => zh1_st h) (gk_picture h hK hP)
theorem r_press (h : zAlk zJq K σ μ) {x1 : Int32} {x2 : Int32} : zp2 (fL_press σ x1 x2) (fX12_press μ x1 x2) (fun r r' => zAlk zJq K (r.1) (r')) := by
  unfold fL_press
  exact zp2_hu (I := fun s (r' : zSt) => zAlk zJq K s (r')) (fun _ _ _ h => zh1_st h) (gk_press h)
theorem r_line (h : zAlk zJq K σ μ) {x1 : Int32} {x2 : Int32} : zp2 (fL_line σ x1 x2) (fX12_line μ x1 x2) (fun r r' => zAlk zJq K (r.1) (r')) := by
  unfold fL_line
  exact zp2_hu (I := fun s (r' : zSt) => zAlk zJq K s (r')) (fun _ _ _ h => zh1_st h) (gk_line h)
theorem r_plan (h : zAlk zJq K σ μ) {x1 : Int32} {x2 : Int32} {x3 : Int32} : zp2 (fL_plan o σ x1 x2 x3) (fX12_plan μ x1 x2 x3) (fun r r' => zAlk zJq K (r.1.2) (r'.1)) := by
  unfold fL_plan
  exact zp2_hi (I := fun s (r' : zSt × Int32) => zAlk zJq K s (r'.1)) (fun _ _ _ h => zh2_st h) (gk_plan h)
theorem r_text (h : zAlk zJq K σ μ) {x1 : Int32} : zp2 (fL_text o σ x1) (fX12_text μ x1) (fun r r' => zAlk zJq K (r.1.2) (r'.1)) := by
  unfold fL_text
  exact zp2_hl (I := fun s (r' : zSt × Int64) => zAlk zJq K s (r'.1)) (fun _ _ _ h => zh1_st h) (gk_text h)
theorem r_stop (h : zAlk zJq K σ μ) {x1 : Int32} {x2 : Int32} : zp2 (fL_stop o σ x1 x2) (fX12_stop μ x1 x2) (fun r r' => zAlk zJq K (r.1.2) (r'.1)) := by
  unfold fL_stop
  exact zp2_hi (I := fun s (r' : zSt × Int32) => zAlk zJq K s (r'.1)) (fun _ _ _ h => zh2_st h) (gk_stop h)
theorem r_restore (h : zAlk zJq K σ μ) (hf : σ.1 0 11 = 0 ↔ μ.1 0 19 = 0) : zp2 (fL_restore σ ) (fX12_restore μ ) (fun r r' => zAlk zJq K (r.1) (r')) := by
  unfold fL_restore
  exact zp2_hu (I := fun s (r' : zSt) => zAlk zJq K s (r')) (fun _ _ _ h => zh1_st h) (gk_restore h hf)
theorem r_register (h : zAlk zJq K σ μ) {x1 : Int32} : zp2 (fL_register o σ x1) (fX12_register μ x1) (fun r r' => zAlk zJq K (r.1.2) (r'.1)) := by
  unfold fL_register
  exact zp2_hi (I := fun s (r' : zSt × Int32) => zAlk zJq K s (r'.1)) (fun _ _ _ h => zh1_st h) (gk_register h)
theorem r_set (h : zAlk zJq K σ μ) {x1 : Int32} {x2 : Int32} : zp2 (fL_set σ x1 x2) (fX12_set μ x1 x2) (fun r r' => zAlk zJq K (r.1) (r')) := by
  unfold fL_set
  exact zp2_hu (I := fun s (r' : zSt) => zAlk zJq K s (r')) (fun _ _ _ h => zh1_st h) (gk_set h)
theorem r_battery (h : zAlk zJq K σ μ) {x1 : Int32} : zp2 (fL_battery o σ x1) (fX12_battery μ x1) (fun r r' => zAlk zJq K (r.1.2) (r'.1)) := by
  unfold fL_battery
  exact zp2_hi (I := fun s (r' : zSt × Int32) => zAlk zJq K s (r'.1)) (fun _ _ _ h => zh1_st h) (gk_battery h)
theorem r_chip (h : zAlk zJq K σ μ) {x1 : Int32} : zp2 (fL_chip o σ x1) (fX12_chip μ x1) (fun r r' => zAlk zJq K (r.1.2) (r'.1)) := by
  unfold fL_chip
  exact zp2_hi (I := fun s (r' : zSt × Int32) => zAlk zJq K s (r'.1)) (fun _ _ _ h => zh1_st h) (gk_chip h)
theorem r_dot (h : zAlk zJq K σ μ) {x1 : Int32} {x2 : Int32} : zp2 (fL_dot o σ x1 x2) (fX12_dot μ x1 x2) (fun r r' => zAlk zJq K (r.1.2) (r'.1)) := by
  unfold fL_dot
  exact zp2_hi (I := fun s (r' : zSt × Int32) => zAlk zJq K s (r'.1)) (fun _ _ _ h => zh1_st h) (gk_dot h)
theorem r_row (h : zAlk zJq K σ μ) {x1 : Int32} : zp2 (fL_row o σ x1) (fX12_row μ x1) (fun r r' => zAlk zJq K (r.1.2) (r'.1)) := by
  unfold fL_row
  exact zp2_hi (I := fun s (r' : zSt × Int32) => zAlk zJq K s (r'.1)) (fun _ _ _ h => zh1_st h) (gk_row h)
theorem r_hear (h : zAlk zJq K σ μ) : zp2 (fL_hear o σ ) (fX12_hear μ ) (fun r r' => zAlk zJq K (r.1.2) (r'.1)) := by
  unfold fL_hear
  exact zp2_hl (I := fun s (r' : zSt × Int64) => zAlk zJq K s (r'.1)) (fun _ _ _ h => zh1_st h) (gk_hear h)
theorem r_mix (h : zAlk zJq K σ μ) : zp2 (fL_mix o σ ) (fX12_mix μ ) (fun r r' => zAlk zJq K (r.1.2) (r'.1)) := by
  unfold fL_mix
  exact zp2_hl (I := fun s (r' : zSt × Int64) => zAlk zJq K s (r'.1)) (fun _ _ _ h => zh1_st h) (gk_mix h)
theorem r_wave (h : zAlk zJq K σ μ) {x1 : Int32} : zp2 (fL_wave o σ x1) (fX12_wave μ x1) (fun r r' => zAlk zJq K (r.1.2) (r'.1)) := by
  unfold fL_wave
  exact zp2_hi (I := fun s (r' : zSt × Int32) => zAlk zJq K s (r'.1)) (fun _ _ _ h => zh1_st h) (gk_wave h)
theorem r_sound (h : zAlk zJq K σ μ) {x1 : Int32} : zp2 (fL_sound o σ x1) (fX12_sound μ x1) (fun r r' => zAlk zJq K (r.1.2) (r'.1)) := by
  unfold fL_sound
  exact zp2_hi (I := fun s (r' : zSt × Int32) => zAlk zJq K s (r'.1)) (fun _ _ _ h => zh1_st h) (gk_sound h)
theorem r_look (h : zAlk zJq K σ μ) {x1 : Int32} : zp2 (fL_look o σ x1) (fX12_look μ x1) (fun r r' => zAlk zJq K (r.1.2) (r'.1)) := by
  unfold fL_look
  exact zp2_hl (I := fun s (r' : zSt × Int64) => zAlk zJq K s (r'.1)) (fun _ _ _ h => zh1_st h) (gk_look h)
theorem zAn2.h {o : Nat → Int64} {q : Option zRi} {p : Option (zSt × Int32)} (h : zp2 q p zAn2) : zp2 (zbr q (zhi o zh2)) p zCv := by
  intro a c ea ec
  cases e : q with
  | none => rw [e] at ea; cases ea
  | some r =>
    have i := h r c e ec
    rw [e] at ea
    have ea : zhi o zh2 r = some a := ea
    rcases i with ⟨s, e1, t⟩ | ⟨s, e1, t⟩ | ⟨s, e1, t⟩
    · subst e1
      have ea : (if (1 : Nat) = 1 then some ((o, s), (1 : Int32)) else if (1 : Nat) = 2 then some ((o, s), (2 : Int32)) else none) = some a := ea
      rw [if_pos rfl] at ea
      cases ea
      exact ⟨t, fun z => absurd (show (1 : Int32) = 0 from z) (by decide)⟩
    · subst e1
      have ea : (if (2 : Nat) = 1 then some ((o, s), (1 : Int32)) else if (2 : Nat) = 2 then some ((o, s), (2 : Int32)) else none) = some a := ea
      rw [if_neg (by decide), if_pos rfl] at ea
      cases ea
      exact ⟨t, fun z => absurd (show (2 : Int32) = 0 from z) (by decide)⟩
    · subst e1
      have ea : some ((vp_updL o 0 c.2.toInt64, s), (0 : Int32)) = some a := ea
      cases ea
      refine ⟨t, fun _ => ?_⟩
      show (if (0 : Nat) = 0 then c.2.toInt64 else o 0).toInt = _
      rw [if_pos rfl, Int32.toInt_toInt64]
theorem w_look (h : zAlk zJq K σ μ) (hK : K ≤ 1000000000) (hP : (μ.2 4 2).toInt ≤ 268435456) (hf : σ.1 0 11 = 0 ↔ μ.1 0 19 = 0) {x1 : Int32} : zp2 (fL_look o σ x1) (fX12_look μ x1) zCl := by
  unfold fL_look
  exact zAnl.h (v_look h hK hf)
end ZG5
end ZJN2
section ZJN3
theorem q_fLaw_208 {K n k s h A : Int} {xs : Nat → Int32} {L : Nat} {kn : zSt → (Nat → Int64) → zSt → Int32 → Option Int32} {μ σ : zSt} {o : Nat → Int64} {x4 : Int32} (hM : zRM K n k s μ) (hC : zRC n h s σ) (hR : zAlk zJq A σ μ) (hA : A ≤ 1000000000) (hb : K + 2100000 ≤ 268435456) (hz : ∀ j : Int32, 0 ≤ j.toInt → j.toInt ≤ 7 → zin (x4 + j) L = true) (hK : ∀ (μ1 : zSt) (o1 : Nat → Int64) (σ1 : zSt) (n s : Int), zRM (K + 2100000) n k s μ1 → zRC n h s σ1 → zAlk zJq (A + 1000000) σ1 μ1 → zok (kn μ1 o1 σ1 (x4 + 8)) (fun r => r = 1)) : zok (fLaw_208 xs L kn μ o σ x4) (fun r => r = 1) := by
  unfold fLaw_208
  refine zok_ck (hz 1 (by decide) (by decide)) ?_
  refine zok_ck (hz 2 (by decide) (by decide)) ?_
  refine zok_ck (hz 3 (by decide) (by decide)) ?_
  refine zok_ck (hz 4 (by decide) (by decide)) ?_
  refine zok_ck (hz 5 (by decide) (by decide)) ?_
  refine zok_ck (hz 6 (by decide) (by decide)) ?_
  refine zok_ck (hz 7 (by decide) (by decide)) ?_
  refine zok_bhE (l_feedx hC) (fun o3 s4 _ e2 p1 => ?_)
  refine zok_ck (hz 1 (by decide) (by decide)) ?_
  refine zok_ck (hz 2 (by decide) (by decide)) ?_
  refine zok_ck (hz 3 (by decide) (by decide)) ?_
  refine zok_ck (hz 4 (by decide) (by decide)) ?_
  refine zok_ck (hz 5 (by decide) (by decide)) ?_
  refine zok_ck (hz 6 (by decide) (by decide)) ?_
  refine zok_ck (hz 7 (by decide) (by decide)) ?_
  refine zok_biE (m_feedx hM) (fun s7 _ e6 p5 => ?_)
  have R6 := r_feed hR hM.len.1 _ _ e2 e6
  obtain ⟨_, ⟨_, c8, m9⟩, _⟩ := zBr.both p1 p5
  refine zok_bv (fun v8 e8 => ?_)
  subst e8
  exact hK _ _ _ _ _ (zRM.mono m9 (by omega) hb) c8 (zAlk.mono R6 (by omega))
theorem q_fLaw_372 {K n k s h A : Int} {xs : Nat → Int32} {L : Nat} {kn : zSt → (Nat → Int64) → zSt → Int32 → Option Int32} {μ σ : zSt} {o : Nat → Int64} {x4 : Int32} (hM : zRM K n k s μ) (hC : zRC n h s σ) (hR : zAlk zJq A σ μ) (hA : A ≤ 1000000000) (hb : K + 2100000 ≤ 268435456) (hz : ∀ j : Int32, 0 ≤ j.toInt → j.toInt ≤ 7 → zin (x4 + j) L = true) (hK : ∀ (μ1 : zSt) (o1 : Nat → Int64) (σ1 : zSt) (n s : Int), zRM (K + 2100000) n k s μ1 → zRC n h s σ1 → zAlk zJq (A + 1000000) σ1 μ1 → zok (kn μ1 o1 σ1 (x4 + 8)) (fun r => r = 1)) : zok (fLaw_372 xs L kn μ o σ x4) (fun r => r = 1) := by
  unfold fLaw_372
  refine zok_ck (hz 1 (by decide) (by decide)) ?_
  refine zok_bhE (l_growx hC) (fun o3 s4 _ e2 p1 => ?_)
  refine zok_ck (hz 1 (by decide) (by decide)) ?_
  refine zok_biE (m_growx hM) (fun s7 _ e6 p5 => ?_)
  have R6 := r_grow hR hM.len.1 _ _ e2 e6
  obtain ⟨_, ⟨_, c8, m9⟩, _⟩ := zBr.both p1 p5
  refine zok_bv (fun v8 e8 => ?_)
  subst e8
  exact hK _ _ _ _ _ (zRM.mono m9 (by omega) hb) c8 (zAlk.mono R6 (by omega))
theorem q_fLaw_400 {K n k s h A : Int} {xs : Nat → Int32} {L : Nat} {kn : zSt → (Nat → Int64) → zSt → Int32 → Option Int32} {μ σ : zSt} {o : Nat → Int64} {x4 : Int32} (hM : zRM K n k s μ) (hC : zRC n h s σ) (hR : zAlk zJq A σ μ) (hA : A ≤ 1000000000) (hb : K + 2100000 ≤ 268435456) (hz : ∀ j : Int32, 0 ≤ j.toInt → j.toInt ≤ 7 → zin (x4 + j) L = true) (hK : ∀ (μ1 : zSt) (o1 : Nat → Int64) (σ1 : zSt) (n s : Int), zRM (K + 2100000) n k s μ1 → zRC n h s σ1 → zAlk zJq (A + 1000000) σ1 μ1 → zok (kn μ1 o1 σ1 (x4 + 8)) (fun r => r = 1)) : zok (fLaw_400 xs L kn μ o σ x4) (fun r => r = 1) := by
  unfold fLaw_400
  refine zok_ck (hz 1 (by decide) (by decide)) ?_
  refine zok_ck (hz 2 (by decide) (by decide)) ?_
  refine zok_ck (hz 3 (by decide) (by decide)) ?_
  refine zok_biE (l_patchx hC) (fun s3 _ e2 p1 => ?_)
  refine zok_ck (hz 1 (by decide) (by decide)) ?_
  refine zok_ck (hz 2 (by decide) (by decide)) ?_
  refine zok_ck (hz 3 (by decide) (by decide)) ?_
  refine zok_buE (m_patchx hM) (fun s6 e5 p4 => ?_)
  have R6 := r_patch hR hM.len.1 _ _ e2 e5
  refine zok_bv (fun v8 e8 => ?_)
  subst e8
  exact hK _ _ _ _ _ (zRM.mono p4.1 (by omega) hb) p1.1 (zAlk.mono R6 (by omega))
theorem q_fLaw_469 {K n k s h A : Int} {xs : Nat → Int32} {L : Nat} {kn : zSt → (Nat → Int64) → zSt → Int32 → Option Int32} {μ σ : zSt} {o : Nat → Int64} {x4 : Int32} (hM : zRM K n k s μ) (hC : zRC n h s σ) (hR : zAlk zJq A σ μ) (hA : A ≤ 1000000000) (hb : K + 2100000 ≤ 268435456) (hz : ∀ j : Int32, 0 ≤ j.toInt → j.toInt ≤ 7 → zin (x4 + j) L = true) (hK : ∀ (μ1 : zSt) (o1 : Nat → Int64) (σ1 : zSt) (n s : Int), zRM (K + 2100000) n k s μ1 → zRC n h s σ1 → zAlk zJq (A + 1000000) σ1 μ1 → zok (kn μ1 o1 σ1 (x4 + 8)) (fun r => r = 1)) : zok (fLaw_469 xs L kn μ o σ x4) (fun r => r = 1) := by
  unfold fLaw_469
  refine zok_biE (c_loadx hC) (fun s3 _ e2 p1 => ?_)
  refine zok_biE (m_loadx hM) (fun s6 _ e5 p4 => ?_)
  have l10 := z2_load hR.1.1.2.1 hM.len.1 _ _ e2 e5
  have R5 := gk_load hR hM.len.1 _ _ e2 e5
  obtain ⟨e9, _, c7, m8⟩ := zLo.both p1 p4
  have R6 := R5 e9 c7.len.2.1 c7.len.2.2 (zR6.ofL m8 c7 (l10 e9))
  refine zok_bv (fun v8 e8 => ?_)
  subst e8
  exact hK _ _ _ _ _ (zRM.mono m8 (by omega) hb) c7 (zAlk.mono R6 (by omega))
theorem q_fLaw_482 {K n k s h A : Int} {xs : Nat → Int32} {L : Nat} {kn : zSt → (Nat → Int64) → zSt → Int32 → Option Int32} {μ σ : zSt} {o : Nat → Int64} {x4 : Int32} (hM : zRM K n k s μ) (hC : zRC n h s σ) (hR : zAlk zJq A σ μ) (hA : A ≤ 1000000000) (hb : K + 2100000 ≤ 268435456) (hz : ∀ j : Int32, 0 ≤ j.toInt → j.toInt ≤ 7 → zin (x4 + j) L = true) (hK : ∀ (μ1 : zSt) (o1 : Nat → Int64) (σ1 : zSt) (n s : Int), zRM (K + 2100000) n k s μ1 → zRC n h s σ1 → zAlk zJq (A + 1000000) σ1 μ1 → zok (kn μ1 o1 σ1 (x4 + 8)) (fun r => r = 1)) : zok (fLaw_482 xs L kn μ o σ x4) (fun r => r = 1) := by
  unfold fLaw_482
  refine zok_ck (hz 1 (by decide) (by decide)) ?_
  refine zok_bhE (l_card hC) (fun o3 s4 _ e2 p1 => ?_)
  refine zok_ck (hz 1 (by decide) (by decide)) ?_
  refine zok_biE (m_card hM) (fun s7 _ e6 p5 => ?_)
  have R6 := r_card hR _ _ e2 e6
  refine zok_bv (fun v8 e8 => ?_)
  subst e8
  exact hK _ _ _ _ _ (zRM.mono p5 (by omega) hb) p1 (zAlk.mono R6 (by omega))
theorem q_fLaw_510 {K n k s h A : Int} {xs : Nat → Int32} {L : Nat} {kn : zSt → (Nat → Int64) → zSt → Int32 → Option Int32} {μ σ : zSt} {o : Nat → Int64} {x4 : Int32} (hM : zRM K n k s μ) (hC : zRC n h s σ) (hR : zAlk zJq A σ μ) (hA : A ≤ 1000000000) (hb : K + 2100000 ≤ 268435456) (hz : ∀ j : Int32, 0 ≤ j.toInt → j.toInt ≤ 7 → zin (x4 + j) L = true) (hK : ∀ (μ1 : zSt) (o1 : Nat → Int64) (σ1 : zSt) (n s : Int), zRM (K + 2100000) n k s μ1 → zRC n h s σ1 → zAlk zJq (A + 1000000) σ1 μ1 → zok (kn μ1 o1 σ1 (x4 + 8)) (fun r => r = 1)) : zok (fLaw_510 xs L kn μ o σ x4) (fun r => r = 1) := by
  unfold fLaw_510
  refine zok_ck (hz 1 (by decide) (by decide)) ?_
  refine zok_bhE (l_step hC) (fun o3 s4 _ e2 p1 => ?_)
  refine zok_ck (hz 1 (by decide) (by decide)) ?_
  refine zok_biE (m_step hM hb) (fun s7 _ e6 p5 => ?_)
  have R6 := r_step hR hA hM.pic _ _ e2 e6
  refine zok_bv (fun v8 e8 => ?_)
  subst e8
  exact hK _ _ _ _ _ p5 p1 R6
theorem q_fLaw_538 {K n k s h A : Int} {xs : Nat → Int32} {L : Nat} {kn : zSt → (Nat → Int64) → zSt → Int32 → Option Int32} {μ σ : zSt} {o : Nat → Int64} {x4 : Int32} (hM : zRM K n k s μ) (hC : zRC n h s σ) (hR : zAlk zJq A σ μ) (hA : A ≤ 1000000000) (hb : K + 2100000 ≤ 268435456) (hz : ∀ j : Int32, 0 ≤ j.toInt → j.toInt ≤ 7 → zin (x4 + j) L = true) (hK : ∀ (μ1 : zSt) (o1 : Nat → Int64) (σ1 : zSt) (n s : Int), zRM (K + 2100000) n k s μ1 → zRC n h s σ1 → zAlk zJq (A + 1000000) σ1 μ1 → zok (kn μ1 o1 σ1 (x4 + 8)) (fun r => r = 1)) : zok (fLaw_538 xs L kn μ o σ x4) (fun r => r = 1) := by
  unfold fLaw_538
  refine zok_ck (hz 1 (by decide) (by decide)) ?_
  refine zok_bhE (l_picture hC) (fun o3 s4 _ e2 p1 => ?_)
  refine zok_ck (hz 1 (by decide) (by decide)) ?_
  refine zok_biE (m_picture hM hb) (fun s7 _ e6 p5 => ?_)
  have R6 := r_picture hR hA hM.pic _ _ e2 e6
  refine zok_bv (fun v8 e8 => ?_)
  subst e8
  exact hK _ _ _ _ _ p5 p1 R6
theorem q_fLaw_566 {K n k s h A : Int} {xs : Nat → Int32} {L : Nat} {kn : zSt → (Nat → Int64) → zSt → Int32 → Option Int32} {μ σ : zSt} {o : Nat → Int64} {x4 : Int32} (hM : zRM K n k s μ) (hC : zRC n h s σ) (hR : zAlk zJq A σ μ) (hA : A ≤ 1000000000) (hb : K + 2100000 ≤ 268435456) (hz : ∀ j : Int32, 0 ≤ j.toInt → j.toInt ≤ 7 → zin (x4 + j) L = true) (hK : ∀ (μ1 : zSt) (o1 : Nat → Int64) (σ1 : zSt) (n s : Int), zRM (K + 2100000) n k s μ1 → zRC n h s σ1 → zAlk zJq (A + 1000000) σ1 μ1 → zok (kn μ1 o1 σ1 (x4 + 8)) (fun r => r = 1)) : zok (fLaw_566 xs L kn μ o σ x4) (fun r => r = 1) := by
  unfold fLaw_566
  refine zok_buE (c_reset hC) (fun s3 e2 p1 => ?_)
  refine zok_buE (m_reset hM) (fun s6 e5 p4 => ?_)
  have R6 := gk_reset hR _ _ e2 e5
  refine zok_bv (fun v8 e8 => ?_)
  subst e8
  exact hK _ _ _ _ _ (zRM.mono p4 (by omega) hb) p1 (zAlk.mono R6 (by omega))
theorem q_fLaw_577 {K n k s h A : Int} {xs : Nat → Int32} {L : Nat} {kn : zSt → (Nat → Int64) → zSt → Int32 → Option Int32} {μ σ : zSt} {o : Nat → Int64} {x4 : Int32} (hM : zRM K n k s μ) (hC : zRC n h s σ) (hR : zAlk zJq A σ μ) (hA : A ≤ 1000000000) (hb : K + 2100000 ≤ 268435456) (hz : ∀ j : Int32, 0 ≤ j.toInt → j.toInt ≤ 7 → zin (x4 + j) L = true) (hK : ∀ (μ1 : zSt) (o1 : Nat → Int64) (σ1 : zSt) (n s : Int), zRM (K + 2100000) n k s μ1 → zRC n h s σ1 → zAlk zJq (A + 1000000) σ1 μ1 → zok (kn μ1 o1 σ1 (x4 + 8)) (fun r => r = 1)) : zok (fLaw_577 xs L kn μ o σ x4) (fun r => r = 1) := by
  unfold fLaw_577
  refine zok_biE (c_pause hC) (fun s3 _ e2 p1 => ?_)
  refine zok_biE (m_pause hM) (fun s6 _ e5 p4 => ?_)
  have R6 := gk_pause hR _ _ e2 e5
  refine zok_bv (fun v8 e8 => ?_)
  subst e8
  exact hK _ _ _ _ _ (zRM.mono p4 (by omega) hb) p1 (zAlk.mono R6 (by omega))
theorem q_fLaw_590 {K n k s h A : Int} {xs : Nat → Int32} {L : Nat} {kn : zSt → (Nat → Int64) → zSt → Int32 → Option Int32} {μ σ : zSt} {o : Nat → Int64} {x4 : Int32} (hM : zRM K n k s μ) (hC : zRC n h s σ) (hR : zAlk zJq A σ μ) (hA : A ≤ 1000000000) (hb : K + 2100000 ≤ 268435456) (hz : ∀ j : Int32, 0 ≤ j.toInt → j.toInt ≤ 7 → zin (x4 + j) L = true) (hK : ∀ (μ1 : zSt) (o1 : Nat → Int64) (σ1 : zSt) (n s : Int), zRM (K + 2100000) n k s μ1 → zRC n h s σ1 → zAlk zJq (A + 1000000) σ1 μ1 → zok (kn μ1 o1 σ1 (x4 + 8)) (fun r => r = 1)) : zok (fLaw_590 xs L kn μ o σ x4) (fun r => r = 1) := by
  unfold fLaw_590
  refine zok_ck (hz 1 (by decide) (by decide)) ?_
  refine zok_ck (hz 2 (by decide) (by decide)) ?_
  refine zok_biE (l_press hC) (fun s3 _ e2 p1 => ?_)
  refine zok_ck (hz 1 (by decide) (by decide)) ?_
  refine zok_ck (hz 2 (by decide) (by decide)) ?_
  refine zok_buE (m_press hM) (fun s6 e5 p4 => ?_)
  have R6 := r_press hR _ _ e2 e5
  refine zok_bv (fun v8 e8 => ?_)
  subst e8
  exact hK _ _ _ _ _ (zRM.mono p4 (by omega) hb) p1 (zAlk.mono R6 (by omega))
theorem q_fLaw_627 {K n k s h A : Int} {xs : Nat → Int32} {L : Nat} {kn : zSt → (Nat → Int64) → zSt → Int32 → Option Int32} {μ σ : zSt} {o : Nat → Int64} {x4 : Int32} (hM : zRM K n k s μ) (hC : zRC n h s σ) (hR : zAlk zJq A σ μ) (hA : A ≤ 1000000000) (hb : K + 2100000 ≤ 268435456) (hz : ∀ j : Int32, 0 ≤ j.toInt → j.toInt ≤ 7 → zin (x4 + j) L = true) (hK : ∀ (μ1 : zSt) (o1 : Nat → Int64) (σ1 : zSt) (n s : Int), zRM (K + 2100000) n k s μ1 → zRC n h s σ1 → zAlk zJq (A + 1000000) σ1 μ1 → zok (kn μ1 o1 σ1 (x4 + 8)) (fun r => r = 1)) : zok (fLaw_627 xs L kn μ o σ x4) (fun r => r = 1) := by
  unfold fLaw_627
  refine zok_ck (hz 1 (by decide) (by decide)) ?_
  refine zok_if (fun q1 => ?_) (fun q1 => ?_)
  · refine zok_buE (c_start hC (zr_c (by decide))) (fun s4 e3 p2 => ?_)
    refine zok_ck (hz 1 (by decide) (by decide)) ?_
    refine zok_if (fun _ => ?_) (fun z => absurd q1 z)
    refine zok_buE (m_start hM (zr_c (by decide))) (fun s7 e6 p5 => ?_)
    have R6 := gk_start hR _ _ e3 e6
    refine zok_bv (fun v8 e8 => ?_)
    subst e8
    exact hK _ _ _ _ _ (zRM.mono p5 (by omega) hb) p2 (zAlk.mono R6 (by omega))
  · refine zok_buE (c_start hC (zr_c (by decide))) (fun s10 e9 p8 => ?_)
    refine zok_ck (hz 1 (by decide) (by decide)) ?_
    refine zok_if (fun z => absurd z q1) (fun _ => ?_)
    refine zok_buE (m_start hM (zr_c (by decide))) (fun s13 e12 p11 => ?_)
    have R6 := gk_start hR _ _ e9 e12
    refine zok_bv (fun v8 e8 => ?_)
    subst e8
    exact hK _ _ _ _ _ (zRM.mono p11 (by omega) hb) p8 (zAlk.mono R6 (by omega))
theorem q_fLaw_666 {K n k s h A : Int} {xs : Nat → Int32} {L : Nat} {kn : zSt → (Nat → Int64) → zSt → Int32 → Option Int32} {μ σ : zSt} {o : Nat → Int64} {x4 : Int32} (hM : zRM K n k s μ) (hC : zRC n h s σ) (hR : zAlk zJq A σ μ) (hA : A ≤ 1000000000) (hb : K + 2100000 ≤ 268435456) (hz : ∀ j : Int32, 0 ≤ j.toInt → j.toInt ≤ 7 → zin (x4 + j) L = true) (hK : ∀ (μ1 : zSt) (o1 : Nat → Int64) (σ1 : zSt) (n s : Int), zRM (K + 2100000) n k s μ1 → zRC n h s σ1 → zAlk zJq (A + 1000000) σ1 μ1 → zok (kn μ1 o1 σ1 (x4 + 8)) (fun r => r = 1)) : zok (fLaw_666 xs L kn μ o σ x4) (fun r => r = 1) := by
  unfold fLaw_666
  refine zok_ck (hz 1 (by decide) (by decide)) ?_
  refine zok_ck (hz 2 (by decide) (by decide)) ?_
  refine zok_if (fun q1 => ?_) (fun q1 => ?_)
  · refine zok_biE (l_line hC (zr_c (by decide))) (fun s4 _ e3 p2 => ?_)
    refine zok_ck (hz 1 (by decide) (by decide)) ?_
    refine zok_ck (hz 2 (by decide) (by decide)) ?_
    refine zok_if (fun _ => ?_) (fun z => absurd q1 z)
    refine zok_buE (m_line hM (zr_c (by decide))) (fun s7 e6 p5 => ?_)
    have R6 := r_line hR _ _ e3 e6
    refine zok_bv (fun v8 e8 => ?_)
    subst e8
    exact hK _ _ _ _ _ (zRM.mono p5 (by omega) hb) p2 (zAlk.mono R6 (by omega))
  · refine zok_biE (l_line hC (zr_c (by decide))) (fun s10 _ e9 p8 => ?_)
    refine zok_ck (hz 1 (by decide) (by decide)) ?_
    refine zok_ck (hz 2 (by decide) (by decide)) ?_
    refine zok_if (fun z => absurd z q1) (fun _ => ?_)
    refine zok_buE (m_line hM (zr_c (by decide))) (fun s13 e12 p11 => ?_)
    have R6 := r_line hR _ _ e9 e12
    refine zok_bv (fun v8 e8 => ?_)
    subst e8
    exact hK _ _ _ _ _ (zRM.mono p11 (by omega) hb) p8 (zAlk.mono R6 (by omega))
theorem q_fLaw_719 {K n k s h A : Int} {xs : Nat → Int32} {L : Nat} {kn : zSt → (Nat → Int64) → zSt → Int32 → Option Int32} {μ σ : zSt} {o : Nat → Int64} {x4 : Int32} (hM : zRM K n k s μ) (hC : zRC n h s σ) (hR : zAlk zJq A σ μ) (hA : A ≤ 1000000000) (hb : K + 2100000 ≤ 268435456) (hz : ∀ j : Int32, 0 ≤ j.toInt → j.toInt ≤ 7 → zin (x4 + j) L = true) (hK : ∀ (μ1 : zSt) (o1 : Nat → Int64) (σ1 : zSt) (n s : Int), zRM (K + 2100000) n k s μ1 → zRC n h s σ1 → zAlk zJq (A + 1000000) σ1 μ1 → zok (kn μ1 o1 σ1 (x4 + 8)) (fun r => r = 1)) : zok (fLaw_719 xs L kn μ o σ x4) (fun r => r = 1) := by
  unfold fLaw_719
  refine zok_ck (hz 1 (by decide) (by decide)) ?_
  refine zok_ck (hz 2 (by decide) (by decide)) ?_
  refine zok_ck (hz 3 (by decide) (by decide)) ?_
  refine zok_bhE (l_plan hC) (fun o3 s4 _ e2 p1 => ?_)
  refine zok_ck (hz 1 (by decide) (by decide)) ?_
  refine zok_ck (hz 2 (by decide) (by decide)) ?_
  refine zok_ck (hz 3 (by decide) (by decide)) ?_
  refine zok_biE (m_plan hM) (fun s7 _ e6 p5 => ?_)
  have R6 := r_plan hR _ _ e2 e6
  refine zok_bv (fun v8 e8 => ?_)
  subst e8
  exact hK _ _ _ _ _ (zRM.mono p5 (by omega) hb) p1 (zAlk.mono R6 (by omega))
theorem q_fLaw_771 {K n k s h A : Int} {xs : Nat → Int32} {L : Nat} {kn : zSt → (Nat → Int64) → zSt → Int32 → Option Int32} {μ σ : zSt} {o : Nat → Int64} {x4 : Int32} (hM : zRM K n k s μ) (hC : zRC n h s σ) (hR : zAlk zJq A σ μ) (hA : A ≤ 1000000000) (hb : K + 2100000 ≤ 268435456) (hz : ∀ j : Int32, 0 ≤ j.toInt → j.toInt ≤ 7 → zin (x4 + j) L = true) (hK : ∀ (μ1 : zSt) (o1 : Nat → Int64) (σ1 : zSt) (n s : Int), zRM (K + 2100000) n k s μ1 → zRC n h s σ1 → zAlk zJq (A + 1000000) σ1 μ1 → zok (kn μ1 o1 σ1 (x4 + 8)) (fun r => r = 1)) : zok (fLaw_771 xs L kn μ o σ x4) (fun r => r = 1) := by
  unfold fLaw_771
  refine zok_ck (hz 1 (by decide) (by decide)) ?_
  refine zok_biE (c_tell hC) (fun s3 _ e2 p1 => ?_)
  refine zok_ck (hz 1 (by decide) (by decide)) ?_
  refine zok_biE (m_tell hM) (fun s6 _ e5 p4 => ?_)
  have R6 := gk_tell hR _ _ e2 e5
  refine zok_bv (fun v8 e8 => ?_)
  subst e8
  exact hK _ _ _ _ _ (zRM.mono p4 (by omega) hb) p1 (zAlk.mono R6 (by omega))
theorem q_fLaw_796 {K n k s h A : Int} {xs : Nat → Int32} {L : Nat} {kn : zSt → (Nat → Int64) → zSt → Int32 → Option Int32} {μ σ : zSt} {o : Nat → Int64} {x4 : Int32} (hM : zRM K n k s μ) (hC : zRC n h s σ) (hR : zAlk zJq A σ μ) (hA : A ≤ 1000000000) (hb : K + 2100000 ≤ 268435456) (hz : ∀ j : Int32, 0 ≤ j.toInt → j.toInt ≤ 7 → zin (x4 + j) L = true) (hK : ∀ (μ1 : zSt) (o1 : Nat → Int64) (σ1 : zSt) (n s : Int), zRM (K + 2100000) n k s μ1 → zRC n h s σ1 → zAlk zJq (A + 1000000) σ1 μ1 → zok (kn μ1 o1 σ1 (x4 + 8)) (fun r => r = 1)) : zok (fLaw_796 xs L kn μ o σ x4) (fun r => r = 1) := by
  unfold fLaw_796
  refine zok_ck (hz 1 (by decide) (by decide)) ?_
  refine zok_bhE (l_text hC) (fun o3 s4 _ e2 p1 => ?_)
  refine zok_ck (hz 1 (by decide) (by decide)) ?_
  refine zok_bllE (m_text hM) (fun s7 _ e6 p5 => ?_)
  have R6 := r_text hR _ _ e2 e6
  refine zok_bv (fun v8 e8 => ?_)
  subst e8
  exact hK _ _ _ _ _ (zRM.mono p5 (by omega) hb) p1 (zAlk.mono R6 (by omega))
theorem q_fLaw_824 {K n k s h A : Int} {xs : Nat → Int32} {L : Nat} {kn : zSt → (Nat → Int64) → zSt → Int32 → Option Int32} {μ σ : zSt} {o : Nat → Int64} {x4 : Int32} (hM : zRM K n k s μ) (hC : zRC n h s σ) (hR : zAlk zJq A σ μ) (hA : A ≤ 1000000000) (hb : K + 2100000 ≤ 268435456) (hz : ∀ j : Int32, 0 ≤ j.toInt → j.toInt ≤ 7 → zin (x4 + j) L = true) (hK : ∀ (μ1 : zSt) (o1 : Nat → Int64) (σ1 : zSt) (n s : Int), zRM (K + 2100000) n k s μ1 → zRC n h s σ1 → zAlk zJq (A + 1000000) σ1 μ1 → zok (kn μ1 o1 σ1 (x4 + 8)) (fun r => r = 1)) : zok (fLaw_824 xs L kn μ o σ x4) (fun r => r = 1) := by
  unfold fLaw_824
  refine zok_ck (hz 1 (by decide) (by decide)) ?_
  refine zok_ck (hz 2 (by decide) (by decide)) ?_
  refine zok_if (fun q1 => ?_) (fun q1 => ?_)
  · refine zok_bhE (l_stop hC (zr_c (by decide))) (fun o4 s5 _ e3 p2 => ?_)
    refine zok_ck (hz 1 (by decide) (by decide)) ?_
    refine zok_ck (hz 2 (by decide) (by decide)) ?_
    refine zok_if (fun _ => ?_) (fun z => absurd q1 z)
    refine zok_biE (m_stop hM (zr_c (by decide))) (fun s8 _ e7 p6 => ?_)
    have R6 := r_stop hR _ _ e3 e7
    refine zok_bv (fun v8 e8 => ?_)
    subst e8
    exact hK _ _ _ _ _ (zRM.mono p6 (by omega) hb) p2 (zAlk.mono R6 (by omega))
  · refine zok_bhE (l_stop hC (zr_c (by decide))) (fun o11 s12 _ e10 p9 => ?_)
    refine zok_ck (hz 1 (by decide) (by decide)) ?_
    refine zok_ck (hz 2 (by decide) (by decide)) ?_
    refine zok_if (fun z => absurd z q1) (fun _ => ?_)
    refine zok_biE (m_stop hM (zr_c (by decide))) (fun s15 _ e14 p13 => ?_)
    have R6 := r_stop hR _ _ e10 e14
    refine zok_bv (fun v8 e8 => ?_)
    subst e8
    exact hK _ _ _ _ _ (zRM.mono p13 (by omega) hb) p9 (zAlk.mono R6 (by omega))
theorem q_fLaw_880 {K n k s h A : Int} {xs : Nat → Int32} {L : Nat} {kn : zSt → (Nat → Int64) → zSt → Int32 → Option Int32} {μ σ : zSt} {o : Nat → Int64} {x4 : Int32} (hM : zRM K n k s μ) (hC : zRC n h s σ) (hR : zAlk zJq A σ μ) (hA : A ≤ 1000000000) (hb : K + 2100000 ≤ 268435456) (hz : ∀ j : Int32, 0 ≤ j.toInt → j.toInt ≤ 7 → zin (x4 + j) L = true) (hK : ∀ (μ1 : zSt) (o1 : Nat → Int64) (σ1 : zSt) (n s : Int), zRM (K + 2100000) n k s μ1 → zRC n h s σ1 → zAlk zJq (A + 1000000) σ1 μ1 → zok (kn μ1 o1 σ1 (x4 + 8)) (fun r => r = 1)) : zok (fLaw_880 xs L kn μ o σ x4) (fun r => r = 1) := by
  unfold fLaw_880
  refine zok_buE (c_savex hC) (fun s3 e2 p1 => ?_)
  refine zok_buE (m_save hM) (fun s6 e5 p4 => ?_)
  have R6 := gk_save hR _ _ e2 e5
  refine zok_bv (fun v8 e8 => ?_)
  subst e8
  exact hK _ _ _ _ _ (zRM.mono p4 (by omega) hb) p1 (zAlk.mono R6 (by omega))
theorem q_fLaw_891 {K n k s h A : Int} {xs : Nat → Int32} {L : Nat} {kn : zSt → (Nat → Int64) → zSt → Int32 → Option Int32} {μ σ : zSt} {o : Nat → Int64} {x4 : Int32} (hM : zRM K n k s μ) (hC : zRC n h s σ) (hR : zAlk zJq A σ μ) (hA : A ≤ 1000000000) (hb : K + 2100000 ≤ 268435456) (hz : ∀ j : Int32, 0 ≤ j.toInt → j.toInt ≤ 7 → zin (x4 + j) L = true) (hK : ∀ (μ1 : zSt) (o1 : Nat → Int64) (σ1 : zSt) (n s : Int), zRM (K + 2100000) n k s μ1 → zRC n h s σ1 → zAlk zJq (A + 1000000) σ1 μ1 → zok (kn μ1 o1 σ1 (x4 + 8)) (fun r => r = 1)) : zok (fLaw_891 xs L kn μ o σ x4) (fun r => r = 1) := by
  unfold fLaw_891
  refine zok_biE (l_restorex hC) (fun s3 _ e2 p1 => ?_)
  refine zok_buE (m_restorex hM) (fun s6 e5 p4 => ?_)
  have R6 := r_restore hR (z_flag hM hC) _ _ e2 e5
  refine zok_bv (fun v8 e8 => ?_)
  subst e8
  exact hK _ _ _ _ _ (zRM.mono p4.1 (by omega) hb) p1.1 (zAlk.mono R6 (by omega))
theorem q_fLaw_904 {K n k s h A : Int} {xs : Nat → Int32} {L : Nat} {kn : zSt → (Nat → Int64) → zSt → Int32 → Option Int32} {μ σ : zSt} {o : Nat → Int64} {x4 : Int32} (hM : zRM K n k s μ) (hC : zRC n h s σ) (hR : zAlk zJq A σ μ) (hA : A ≤ 1000000000) (hb : K + 2100000 ≤ 268435456) (hz : ∀ j : Int32, 0 ≤ j.toInt → j.toInt ≤ 7 → zin (x4 + j) L = true) (hK : ∀ (μ1 : zSt) (o1 : Nat → Int64) (σ1 : zSt) (n s : Int), zRM (K + 2100000) n k s μ1 → zRC n h s σ1 → zAlk zJq (A + 1000000) σ1 μ1 → zok (kn μ1 o1 σ1 (x4 + 8)) (fun r => r = 1)) : zok (fLaw_904 xs L kn μ o σ x4) (fun r => r = 1) := by
  unfold fLaw_904
  refine zok_ck (hz 1 (by decide) (by decide)) ?_
  refine zok_bhE (l_register hC) (fun o3 s4 _ e2 p1 => ?_)
  refine zok_ck (hz 1 (by decide) (by decide)) ?_
  refine zok_biE (m_register hM) (fun s7 _ e6 p5 => ?_)
  have R6 := r_register hR _ _ e2 e6
  refine zok_bv (fun v8 e8 => ?_)
  subst e8
  exact hK _ _ _ _ _ (zRM.mono p5 (by omega) hb) p1 (zAlk.mono R6 (by omega))
theorem q_fLaw_932 {K n k s h A : Int} {xs : Nat → Int32} {L : Nat} {kn : zSt → (Nat → Int64) → zSt → Int32 → Option Int32} {μ σ : zSt} {o : Nat → Int64} {x4 : Int32} (hM : zRM K n k s μ) (hC : zRC n h s σ) (hR : zAlk zJq A σ μ) (hA : A ≤ 1000000000) (hb : K + 2100000 ≤ 268435456) (hz : ∀ j : Int32, 0 ≤ j.toInt → j.toInt ≤ 7 → zin (x4 + j) L = true) (hK : ∀ (μ1 : zSt) (o1 : Nat → Int64) (σ1 : zSt) (n s : Int), zRM (K + 2100000) n k s μ1 → zRC n h s σ1 → zAlk zJq (A + 1000000) σ1 μ1 → zok (kn μ1 o1 σ1 (x4 + 8)) (fun r => r = 1)) : zok (fLaw_932 xs L kn μ o σ x4) (fun r => r = 1) := by
  unfold fLaw_932
  refine zok_ck (hz 1 (by decide) (by decide)) ?_
  refine zok_ck (hz 2 (by decide) (by decide)) ?_
  refine zok_biE (l_set hC) (fun s3 _ e2 p1 => ?_)
  refine zok_ck (hz 1 (by decide) (by decide)) ?_
  refine zok_ck (hz 2 (by decide) (by decide)) ?_
  refine zok_buE (m_set hM) (fun s6 e5 p4 => ?_)
  have R6 := r_set hR _ _ e2 e5
  refine zok_bv (fun v8 e8 => ?_)
  subst e8
  exact hK _ _ _ _ _ (zRM.mono p4 (by omega) hb) p1 (zAlk.mono R6 (by omega))
theorem q_fLaw_969 {K n k s h A : Int} {xs : Nat → Int32} {L : Nat} {kn : zSt → (Nat → Int64) → zSt → Int32 → Option Int32} {μ σ : zSt} {o : Nat → Int64} {x4 : Int32} (hM : zRM K n k s μ) (hC : zRC n h s σ) (hR : zAlk zJq A σ μ) (hA : A ≤ 1000000000) (hb : K + 2100000 ≤ 268435456) (hz : ∀ j : Int32, 0 ≤ j.toInt → j.toInt ≤ 7 → zin (x4 + j) L = true) (hK : ∀ (μ1 : zSt) (o1 : Nat → Int64) (σ1 : zSt) (n s : Int), zRM (K + 2100000) n k s μ1 → zRC n h s σ1 → zAlk zJq (A + 1000000) σ1 μ1 → zok (kn μ1 o1 σ1 (x4 + 8)) (fun r => r = 1)) : zok (fLaw_969 xs L kn μ o σ x4) (fun r => r = 1) := by
  unfold fLaw_969
  refine zok_ck (hz 1 (by decide) (by decide)) ?_
  refine zok_biE (c_peek hC) (fun s3 _ e2 p1 => ?_)
  refine zok_ck (hz 1 (by decide) (by decide)) ?_
  refine zok_biE (m_peek hM) (fun s6 _ e5 p4 => ?_)
  have R6 := gk_peek hR _ _ e2 e5
  refine zok_bv (fun v8 e8 => ?_)
  subst e8
  exact hK _ _ _ _ _ (zRM.mono p4 (by omega) hb) p1 (zAlk.mono R6 (by omega))
theorem q_fLaw_994 {K n k s h A : Int} {xs : Nat → Int32} {L : Nat} {kn : zSt → (Nat → Int64) → zSt → Int32 → Option Int32} {μ σ : zSt} {o : Nat → Int64} {x4 : Int32} (hM : zRM K n k s μ) (hC : zRC n h s σ) (hR : zAlk zJq A σ μ) (hA : A ≤ 1000000000) (hb : K + 2100000 ≤ 268435456) (hz : ∀ j : Int32, 0 ≤ j.toInt → j.toInt ≤ 7 → zin (x4 + j) L = true) (hK : ∀ (μ1 : zSt) (o1 : Nat → Int64) (σ1 : zSt) (n s : Int), zRM (K + 2100000) n k s μ1 → zRC n h s σ1 → zAlk zJq (A + 1000000) σ1 μ1 → zok (kn μ1 o1 σ1 (x4 + 8)) (fun r => r = 1)) : zok (fLaw_994 xs L kn μ o σ x4) (fun r => r = 1) := by
  unfold fLaw_994
  refine zok_ck (hz 1 (by decide) (by decide)) ?_
  refine zok_ck (hz 2 (by decide) (by decide)) ?_
  refine zok_buE (c_poke hC) (fun s3 e2 p1 => ?_)
  refine zok_ck (hz 1 (by decide) (by decide)) ?_
  refine zok_ck (hz 2 (by decide) (by decide)) ?_
  refine zok_buE (m_poke hM) (fun s6 e5 p4 => ?_)
  have R6 := gk_poke hR _ _ e2 e5
  refine zok_bv (fun v8 e8 => ?_)
  subst e8
  exact hK _ _ _ _ _ (zRM.mono p4 (by omega) hb) p1 (zAlk.mono R6 (by omega))
theorem q_fLaw_1029 {K n k s h A : Int} {xs : Nat → Int32} {L : Nat} {kn : zSt → (Nat → Int64) → zSt → Int32 → Option Int32} {μ σ : zSt} {o : Nat → Int64} {x4 : Int32} (hM : zRM K n k s μ) (hC : zRC n h s σ) (hR : zAlk zJq A σ μ) (hA : A ≤ 1000000000) (hb : K + 2100000 ≤ 268435456) (hz : ∀ j : Int32, 0 ≤ j.toInt → j.toInt ≤ 7 → zin (x4 + j) L = true) (hK : ∀ (μ1 : zSt) (o1 : Nat → Int64) (σ1 : zSt) (n s : Int), zRM (K + 2100000) n k s μ1 → zRC n h s σ1 → zAlk zJq (A + 1000000) σ1 μ1 → zok (kn μ1 o1 σ1 (x4 + 8)) (fun r => r = 1)) : zok (fLaw_1029 xs L kn μ o σ x4) (fun r => r = 1) := by
  unfold fLaw_1029
  refine zok_ck (hz 1 (by decide) (by decide)) ?_
  refine zok_biE (c_in hC) (fun s3 _ e2 p1 => ?_)
  refine zok_ck (hz 1 (by decide) (by decide)) ?_
  refine zok_biE (m_in hM) (fun s6 _ e5 p4 => ?_)
  have R6 := gk_in hR _ _ e2 e5
  refine zok_bv (fun v8 e8 => ?_)
  subst e8
  exact hK _ _ _ _ _ (zRM.mono p4 (by omega) hb) p1 (zAlk.mono R6 (by omega))
theorem q_fLaw_1054 {K n k s h A : Int} {xs : Nat → Int32} {L : Nat} {kn : zSt → (Nat → Int64) → zSt → Int32 → Option Int32} {μ σ : zSt} {o : Nat → Int64} {x4 : Int32} (hM : zRM K n k s μ) (hC : zRC n h s σ) (hR : zAlk zJq A σ μ) (hA : A ≤ 1000000000) (hb : K + 2100000 ≤ 268435456) (hz : ∀ j : Int32, 0 ≤ j.toInt → j.toInt ≤ 7 → zin (x4 + j) L = true) (hK : ∀ (μ1 : zSt) (o1 : Nat → Int64) (σ1 : zSt) (n s : Int), zRM (K + 2100000) n k s μ1 → zRC n h s σ1 → zAlk zJq (A + 1000000) σ1 μ1 → zok (kn μ1 o1 σ1 (x4 + 8)) (fun r => r = 1)) : zok (fLaw_1054 xs L kn μ o σ x4) (fun r => r = 1) := by
  unfold fLaw_1054
  refine zok_ck (hz 1 (by decide) (by decide)) ?_
  refine zok_ck (hz 2 (by decide) (by decide)) ?_
  refine zok_buE (c_out hC) (fun s3 e2 p1 => ?_)
  refine zok_ck (hz 1 (by decide) (by decide)) ?_
  refine zok_ck (hz 2 (by decide) (by decide)) ?_
  refine zok_buE (m_out hM) (fun s6 e5 p4 => ?_)
  have R6 := gk_out hR _ _ e2 e5
  refine zok_bv (fun v8 e8 => ?_)
  subst e8
  exact hK _ _ _ _ _ (zRM.mono p4 (by omega) hb) p1 (zAlk.mono R6 (by omega))
theorem q_fLaw_1089 {K n k s h A : Int} {xs : Nat → Int32} {L : Nat} {kn : zSt → (Nat → Int64) → zSt → Int32 → Option Int32} {μ σ : zSt} {o : Nat → Int64} {x4 : Int32} (hM : zRM K n k s μ) (hC : zRC n h s σ) (hR : zAlk zJq A σ μ) (hA : A ≤ 1000000000) (hb : K + 2100000 ≤ 268435456) (hz : ∀ j : Int32, 0 ≤ j.toInt → j.toInt ≤ 7 → zin (x4 + j) L = true) (hK : ∀ (μ1 : zSt) (o1 : Nat → Int64) (σ1 : zSt) (n s : Int), zRM (K + 2100000) n k s μ1 → zRC n h s σ1 → zAlk zJq (A + 1000000) σ1 μ1 → zok (kn μ1 o1 σ1 (x4 + 8)) (fun r => r = 1)) : zok (fLaw_1089 xs L kn μ o σ x4) (fun r => r = 1) := by
  unfold fLaw_1089
  refine zok_ck (hz 1 (by decide) (by decide)) ?_
  refine zok_bhE (l_battery hC) (fun o3 s4 _ e2 p1 => ?_)
  refine zok_ck (hz 1 (by decide) (by decide)) ?_
  refine zok_biE (m_battery hM) (fun s7 _ e6 p5 => ?_)
  have R6 := r_battery hR _ _ e2 e6
  refine zok_bv (fun v8 e8 => ?_)
  subst e8
  exact hK _ _ _ _ _ (zRM.mono p5 (by omega) hb) p1 (zAlk.mono R6 (by omega))
theorem q_fLaw_1117 {K n k s h A : Int} {xs : Nat → Int32} {L : Nat} {kn : zSt → (Nat → Int64) → zSt → Int32 → Option Int32} {μ σ : zSt} {o : Nat → Int64} {x4 : Int32} (hM : zRM K n k s μ) (hC : zRC n h s σ) (hR : zAlk zJq A σ μ) (hA : A ≤ 1000000000) (hb : K + 2100000 ≤ 268435456) (hz : ∀ j : Int32, 0 ≤ j.toInt → j.toInt ≤ 7 → zin (x4 + j) L = true) (hK : ∀ (μ1 : zSt) (o1 : Nat → Int64) (σ1 : zSt) (n s : Int), zRM (K + 2100000) n k s μ1 → zRC n h s σ1 → zAlk zJq (A + 1000000) σ1 μ1 → zok (kn μ1 o1 σ1 (x4 + 8)) (fun r => r = 1)) : zok (fLaw_1117 xs L kn μ o σ x4) (fun r => r = 1) := by
  unfold fLaw_1117
  refine zok_buE (c_wipe hC) (fun s3 e2 p1 => ?_)
  refine zok_buE (m_wipe hM) (fun s6 e5 p4 => ?_)
  have R6 := gk_wipe hR _ _ e2 e5
  refine zok_bv (fun v8 e8 => ?_)
  subst e8
  exact hK _ _ _ _ _ (zRM.mono p4 (by omega) hb) p1 (zAlk.mono R6 (by omega))
theorem q_fLaw_1128 {K n k s h A : Int} {xs : Nat → Int32} {L : Nat} {kn : zSt → (Nat → Int64) → zSt → Int32 → Option Int32} {μ σ : zSt} {o : Nat → Int64} {x4 : Int32} (hM : zRM K n k s μ) (hC : zRC n h s σ) (hR : zAlk zJq A σ μ) (hA : A ≤ 1000000000) (hb : K + 2100000 ≤ 268435456) (hz : ∀ j : Int32, 0 ≤ j.toInt → j.toInt ≤ 7 → zin (x4 + j) L = true) (hK : ∀ (μ1 : zSt) (o1 : Nat → Int64) (σ1 : zSt) (n s : Int), zRM (K + 2100000) n k s μ1 → zRC n h s σ1 → zAlk zJq (A + 1000000) σ1 μ1 → zok (kn μ1 o1 σ1 (x4 + 8)) (fun r => r = 1)) : zok (fLaw_1128 xs L kn μ o σ x4) (fun r => r = 1) := by
  unfold fLaw_1128
  refine zok_ck (hz 1 (by decide) (by decide)) ?_
  refine zok_bllE (c_video hC) (fun s3 _ e2 p1 => ?_)
  refine zok_ck (hz 1 (by decide) (by decide)) ?_
  refine zok_bllE (m_video hM) (fun s6 _ e5 p4 => ?_)
  have R6 := gk_video hR _ _ e2 e5
  refine zok_bv (fun v8 e8 => ?_)
  subst e8
  exact hK _ _ _ _ _ (zRM.mono p4 (by omega) hb) p1 (zAlk.mono R6 (by omega))
theorem q_fLaw_1153 {K n k s h A : Int} {xs : Nat → Int32} {L : Nat} {kn : zSt → (Nat → Int64) → zSt → Int32 → Option Int32} {μ σ : zSt} {o : Nat → Int64} {x4 : Int32} (hM : zRM K n k s μ) (hC : zRC n h s σ) (hR : zAlk zJq A σ μ) (hA : A ≤ 1000000000) (hb : K + 2100000 ≤ 268435456) (hz : ∀ j : Int32, 0 ≤ j.toInt → j.toInt ≤ 7 → zin (x4 + j) L = true) (hK : ∀ (μ1 : zSt) (o1 : Nat → Int64) (σ1 : zSt) (n s : Int), zRM (K + 2100000) n k s μ1 → zRC n h s σ1 → zAlk zJq (A + 1000000) σ1 μ1 → zok (kn μ1 o1 σ1 (x4 + 8)) (fun r => r = 1)) : zok (fLaw_1153 xs L kn μ o σ x4) (fun r => r = 1) := by
  unfold fLaw_1153
  refine zok_ck (hz 1 (by decide) (by decide)) ?_
  refine zok_bhE (l_chip hC) (fun o3 s4 _ e2 p1 => ?_)
  refine zok_ck (hz 1 (by decide) (by decide)) ?_
  refine zok_biE (m_chip hM) (fun s7 _ e6 p5 => ?_)
  have R6 := r_chip hR _ _ e2 e6
  refine zok_bv (fun v8 e8 => ?_)
  subst e8
  exact hK _ _ _ _ _ (zRM.mono p5 (by omega) hb) p1 (zAlk.mono R6 (by omega))
theorem q_fLaw_1181 {K n k s h A : Int} {xs : Nat → Int32} {L : Nat} {kn : zSt → (Nat → Int64) → zSt → Int32 → Option Int32} {μ σ : zSt} {o : Nat → Int64} {x4 : Int32} (hM : zRM K n k s μ) (hC : zRC n h s σ) (hR : zAlk zJq A σ μ) (hA : A ≤ 1000000000) (hb : K + 2100000 ≤ 268435456) (hz : ∀ j : Int32, 0 ≤ j.toInt → j.toInt ≤ 7 → zin (x4 + j) L = true) (hK : ∀ (μ1 : zSt) (o1 : Nat → Int64) (σ1 : zSt) (n s : Int), zRM (K + 2100000) n k s μ1 → zRC n h s σ1 → zAlk zJq (A + 1000000) σ1 μ1 → zok (kn μ1 o1 σ1 (x4 + 8)) (fun r => r = 1)) : zok (fLaw_1181 xs L kn μ o σ x4) (fun r => r = 1) := by
  unfold fLaw_1181
  refine zok_ck (hz 1 (by decide) (by decide)) ?_
  refine zok_ck (hz 2 (by decide) (by decide)) ?_
  refine zok_bhE (l_dot hC) (fun o3 s4 _ e2 p1 => ?_)
  refine zok_ck (hz 1 (by decide) (by decide)) ?_
  refine zok_ck (hz 2 (by decide) (by decide)) ?_
  refine zok_biE (m_dot hM) (fun s7 _ e6 p5 => ?_)
  have R6 := r_dot hR _ _ e2 e6
  refine zok_bv (fun v8 e8 => ?_)
  subst e8
  exact hK _ _ _ _ _ (zRM.mono p5 (by omega) hb) p1 (zAlk.mono R6 (by omega))
theorem q_fLaw_1221 {K n k s h A : Int} {xs : Nat → Int32} {L : Nat} {kn : zSt → (Nat → Int64) → zSt → Int32 → Option Int32} {μ σ : zSt} {o : Nat → Int64} {x4 : Int32} (hM : zRM K n k s μ) (hC : zRC n h s σ) (hR : zAlk zJq A σ μ) (hA : A ≤ 1000000000) (hb : K + 2100000 ≤ 268435456) (hz : ∀ j : Int32, 0 ≤ j.toInt → j.toInt ≤ 7 → zin (x4 + j) L = true) (hK : ∀ (μ1 : zSt) (o1 : Nat → Int64) (σ1 : zSt) (n s : Int), zRM (K + 2100000) n k s μ1 → zRC n h s σ1 → zAlk zJq (A + 1000000) σ1 μ1 → zok (kn μ1 o1 σ1 (x4 + 8)) (fun r => r = 1)) : zok (fLaw_1221 xs L kn μ o σ x4) (fun r => r = 1) := by
  unfold fLaw_1221
  refine zok_ck (hz 1 (by decide) (by decide)) ?_
  refine zok_bhE (l_row hC) (fun o3 s4 _ e2 p1 => ?_)
  refine zok_ck (hz 1 (by decide) (by decide)) ?_
  refine zok_biE (m_row hM) (fun s7 _ e6 p5 => ?_)
  have R6 := r_row hR _ _ e2 e6
  refine zok_bv (fun v8 e8 => ?_)
  subst e8
  exact hK _ _ _ _ _ (zRM.mono p5 (by omega) hb) p1 (zAlk.mono R6 (by omega))
theorem q_fLaw_1249 {K n k s h A : Int} {xs : Nat → Int32} {L : Nat} {kn : zSt → (Nat → Int64) → zSt → Int32 → Option Int32} {μ σ : zSt} {o : Nat → Int64} {x4 : Int32} (hM : zRM K n k s μ) (hC : zRC n h s σ) (hR : zAlk zJq A σ μ) (hA : A ≤ 1000000000) (hb : K + 2100000 ≤ 268435456) (hz : ∀ j : Int32, 0 ≤ j.toInt → j.toInt ≤ 7 → zin (x4 + j) L = true) (hK : ∀ (μ1 : zSt) (o1 : Nat → Int64) (σ1 : zSt) (n s : Int), zRM (K + 2100000) n k s μ1 → zRC n h s σ1 → zAlk zJq (A + 1000000) σ1 μ1 → zok (kn μ1 o1 σ1 (x4 + 8)) (fun r => r = 1)) : zok (fLaw_1249 xs L kn μ o σ x4) (fun r => r = 1) := by
  unfold fLaw_1249
  refine zok_bhE (l_hear hC) (fun o3 s4 _ e2 p1 => ?_)
  refine zok_bllE (m_hear hM) (fun s7 _ e6 p5 => ?_)
  have R6 := r_hear hR _ _ e2 e6
  refine zok_bv (fun v8 e8 => ?_)
  subst e8
  exact hK _ _ _ _ _ (zRM.mono p5 (by omega) hb) p1 (zAlk.mono R6 (by omega))
theorem q_fLaw_1265 {K n k s h A : Int} {xs : Nat → Int32} {L : Nat} {kn : zSt → (Nat → Int64) → zSt → Int32 → Option Int32} {μ σ : zSt} {o : Nat → Int64} {x4 : Int32} (hM : zRM K n k s μ) (hC : zRC n h s σ) (hR : zAlk zJq A σ μ) (hA : A ≤ 1000000000) (hb : K + 2100000 ≤ 268435456) (hz : ∀ j : Int32, 0 ≤ j.toInt → j.toInt ≤ 7 → zin (x4 + j) L = true) (hK : ∀ (μ1 : zSt) (o1 : Nat → Int64) (σ1 : zSt) (n s : Int), zRM (K + 2100000) n k s μ1 → zRC n h s σ1 → zAlk zJq (A + 1000000) σ1 μ1 → zok (kn μ1 o1 σ1 (x4 + 8)) (fun r => r = 1)) : zok (fLaw_1265 xs L kn μ o σ x4) (fun r => r = 1) := by
  unfold fLaw_1265
  refine zok_bhE (l_mix hC) (fun o3 s4 _ e2 p1 => ?_)
  refine zok_bllE (m_mix hM) (fun s7 _ e6 p5 => ?_)
  have R6 := r_mix hR _ _ e2 e6
  refine zok_bv (fun v8 e8 => ?_)
  subst e8
  exact hK _ _ _ _ _ (zRM.mono p5 (by omega) hb) p1 (zAlk.mono R6 (by omega))
theorem q_fLaw_1281 {K n k s h A : Int} {xs : Nat → Int32} {L : Nat} {kn : zSt → (Nat → Int64) → zSt → Int32 → Option Int32} {μ σ : zSt} {o : Nat → Int64} {x4 : Int32} (hM : zRM K n k s μ) (hC : zRC n h s σ) (hR : zAlk zJq A σ μ) (hA : A ≤ 1000000000) (hb : K + 2100000 ≤ 268435456) (hz : ∀ j : Int32, 0 ≤ j.toInt → j.toInt ≤ 7 → zin (x4 + j) L = true) (hK : ∀ (μ1 : zSt) (o1 : Nat → Int64) (σ1 : zSt) (n s : Int), zRM (K + 2100000) n k s μ1 → zRC n h s σ1 → zAlk zJq (A + 1000000) σ1 μ1 → zok (kn μ1 o1 σ1 (x4 + 8)) (fun r => r = 1)) : zok (fLaw_1281 xs L kn μ o σ x4) (fun r => r = 1) := by
  unfold fLaw_1281
  refine zok_ck (hz 1 (by decide) (by decide)) ?_
  refine zok_bhE (l_wave hC) (fun o3 s4 _ e2 p1 => ?_)
  refine zok_ck (hz 1 (by decide) (by decide)) ?_
  refine zok_biE (m_wave hM) (fun s7 _ e6 p5 => ?_)
  have R6 := r_wave hR _ _ e2 e6
  refine zok_bv (fun v8 e8 => ?_)
  subst e8
  exact hK _ _ _ _ _ (zRM.mono p5 (by omega) hb) p1 (zAlk.mono R6 (by omega))
theorem q_fLaw_1309 {K n k s h A : Int} {xs : Nat → Int32} {L : Nat} {kn : zSt → (Nat → Int64) → zSt → Int32 → Option Int32} {μ σ : zSt} {o : Nat → Int64} {x4 : Int32} (hM : zRM K n k s μ) (hC : zRC n h s σ) (hR : zAlk zJq A σ μ) (hA : A ≤ 1000000000) (hb : K + 2100000 ≤ 268435456) (hz : ∀ j : Int32, 0 ≤ j.toInt → j.toInt ≤ 7 → zin (x4 + j) L = true) (hK : ∀ (μ1 : zSt) (o1 : Nat → Int64) (σ1 : zSt) (n s : Int), zRM (K + 2100000) n k s μ1 → zRC n h s σ1 → zAlk zJq (A + 1000000) σ1 μ1 → zok (kn μ1 o1 σ1 (x4 + 8)) (fun r => r = 1)) : zok (fLaw_1309 xs L kn μ o σ x4) (fun r => r = 1) := by
  unfold fLaw_1309
  refine zok_ck (hz 1 (by decide) (by decide)) ?_
  refine zok_bhE (l_sound hC) (fun o3 s4 _ e2 p1 => ?_)
  refine zok_ck (hz 1 (by decide) (by decide)) ?_
  refine zok_biE (m_sound hM) (fun s7 _ e6 p5 => ?_)
  have R6 := r_sound hR _ _ e2 e6
  refine zok_bv (fun v8 e8 => ?_)
  subst e8
  exact hK _ _ _ _ _ (zRM.mono p5 (by omega) hb) p1 (zAlk.mono R6 (by omega))
theorem q_fLaw_1337 {K n k s h A : Int} {xs : Nat → Int32} {L : Nat} {kn : zSt → (Nat → Int64) → zSt → Int32 → Option Int32} {μ σ : zSt} {o : Nat → Int64} {x4 : Int32} (hM : zRM K n k s μ) (hC : zRC n h s σ) (hR : zAlk zJq A σ μ) (hA : A ≤ 1000000000) (hb : K + 2100000 ≤ 268435456) (hz : ∀ j : Int32, 0 ≤ j.toInt → j.toInt ≤ 7 → zin (x4 + j) L = true) (hK : ∀ (μ1 : zSt) (o1 : Nat → Int64) (σ1 : zSt) (n s : Int), zRM (K + 2100000) n k s μ1 → zRC n h s σ1 → zAlk zJq (A + 1000000) σ1 μ1 → zok (kn μ1 o1 σ1 (x4 + 8)) (fun r => r = 1)) : zok (fLaw_1337 xs L kn μ o σ x4) (fun r => r = 1) := by
  unfold fLaw_1337
  refine zok_ck (hz 1 (by decide) (by decide)) ?_
  refine zok_biE (c_trace hC) (fun s3 _ e2 p1 => ?_)
  refine zok_ck (hz 1 (by decide) (by decide)) ?_
  refine zok_biE (m_trace hM) (fun s6 _ e5 p4 => ?_)
  have R6 := gk_trace hR _ _ e2 e5
  refine zok_bv (fun v8 e8 => ?_)
  subst e8
  exact hK _ _ _ _ _ (zRM.mono p4 (by omega) hb) p1 (zAlk.mono R6 (by omega))
theorem q_fLaw_1362 {K n k s h A : Int} {xs : Nat → Int32} {L : Nat} {kn : zSt → (Nat → Int64) → zSt → Int32 → Option Int32} {μ σ : zSt} {o : Nat → Int64} {x4 : Int32} (hM : zRM K n k s μ) (hC : zRC n h s σ) (hR : zAlk zJq A σ μ) (hA : A ≤ 1000000000) (hb : K + 2100000 ≤ 268435456) (hz : ∀ j : Int32, 0 ≤ j.toInt → j.toInt ≤ 7 → zin (x4 + j) L = true) (hK : ∀ (μ1 : zSt) (o1 : Nat → Int64) (σ1 : zSt) (n s : Int), zRM (K + 2100000) n k s μ1 → zRC n h s σ1 → zAlk zJq (A + 1000000) σ1 μ1 → zok (kn μ1 o1 σ1 (x4 + 8)) (fun r => r = 1)) : zok (fLaw_1362 xs L kn μ o σ x4) (fun r => r = 1) := by
  unfold fLaw_1362
  refine zok_ck (hz 1 (by decide) (by decide)) ?_
  refine zok_bhE (l_look hC) (fun o3 s4 _ e2 p1 => ?_)
  refine zok_ck (hz 1 (by decide) (by decide)) ?_
  refine zok_bllE (m_look hM) (fun s7 _ e6 p5 => ?_)
  have d8 := w_look hR hA hM.pic (z_flag hM hC) _ _ e2 e6
  have R6 := r_look hR _ _ e2 e6
  refine zok_thrown ?_
  refine zok_if (fun _ => ?_) (fun q => absurd d8.1 q)
  refine zok_if (fun q9 => ?_) (fun q9 => ?_)
  · refine zok_if (fun _ => ?_) (fun q => absurd (z_lgc (by exact d8.2 q9)) q)
    refine zok_bv (fun v8 e8 => ?_)
    subst e8
    exact hK _ _ _ _ _ (zRM.mono p5 (by omega) hb) p1 (zAlk.mono R6 (by omega))
  · refine zok_bv (fun v8 e8 => ?_)
    subst e8
    exact hK _ _ _ _ _ (zRM.mono p5 (by omega) hb) p1 (zAlk.mono R6 (by omega))
theorem q_fLaw_1417 {K n k s h A : Int} {xs : Nat → Int32} {L : Nat} {kn : zSt → (Nat → Int64) → zSt → Int32 → Option Int32} {μ σ : zSt} {o : Nat → Int64} {x4 : Int32} (hM : zRM K n k s μ) (hC : zRC n h s σ) (hR : zAlk zJq A σ μ) (hA : A ≤ 1000000000) (hb : K + 2100000 ≤ 268435456) (hz : ∀ j : Int32, 0 ≤ j.toInt → j.toInt ≤ 7 → zin (x4 + j) L = true) (hK : ∀ (μ1 : zSt) (o1 : Nat → Int64) (σ1 : zSt) (n s : Int), zRM (K + 2100000) n k s μ1 → zRC n h s σ1 → zAlk zJq (A + 1000000) σ1 μ1 → zok (kn μ1 o1 σ1 (x4 + 8)) (fun r => r = 1)) : zok (fLaw_1417 xs L kn μ o σ x4) (fun r => r = 1) := by
  unfold fLaw_1417
  refine zok_bv (fun v8 e8 => ?_)
  subst e8
  exact hK _ _ _ _ _ (zRM.mono hM (by omega) hb) hC (zAlk.mono hR (by omega))
end ZJN3
section ZJN4
theorem z_at8 {L : Nat} (hL : L ≤ 513) {x4 : Int32} {c : Nat} (e : x4.toInt = 1 + 8 * (c : Int)) (hc : c ≤ 64) (q : ¬ Int32.ofNat L - 8 < x4) : c ≤ 63 ∧ (∀ j : Int32, 0 ≤ j.toInt → j.toInt ≤ 7 → zin (x4 + j) L = true) ∧ zin x4 L = true ∧ (x4 + 8).toInt = 1 + 8 * ((c + 1 : Nat) : Int) := by
  have eL : (Int32.ofNat L).toInt = L := Int32.toInt_ofNat_of_lt (by omega)
  have c8 : (8 : Int32).toInt = 8 := rfl
  have r8 : zr 8 8 (8 : Int32) := zr_c (by decide)
  have rL : zr 0 513 (Int32.ofNat L) := ⟨by omega, by omega⟩
  have r4 : zr 1 513 x4 := ⟨by omega, by omega⟩
  have t := z_tsub rL r8 (by decide)
  have q1 := Int32.le_iff_toInt_le.mp (z_nlt q)
  rw [t, eL, c8, e] at q1
  have t8 := z_tadd r4 r8 (by decide)
  refine ⟨by omega, fun j j1 j2 => ?_, zin_ok (lo := x4.toInt) (hi := x4.toInt) ⟨Int.le_refl _, Int.le_refl _⟩ (by omega), by rw [t8, e, c8]; omega⟩
  have rj : zr 0 7 j := ⟨j1, j2⟩
  have tj := z_tadd r4 rj (by decide)
  exact zin_ok (lo := (x4 + j).toInt) (hi := (x4 + j).toInt) ⟨Int.le_refl _, Int.le_refl _⟩ (by omega)
theorem z_loop {L : Nat} (hL : L ≤ 513) {xs : Nat → Int32} {k h : Int} : ∀ (n c : Nat) (μ : zSt) (o : Nat → Int64) (σ : zSt) (x4 : Int32) (a d : Int), x4.toInt = 1 + 8 * (c : Int) → c + n = 66 → c ≤ 64 → zRM (2100000 * (c : Int)) a k d μ → zRC a h d σ → zAlk zJq (1000000 * (c : Int)) σ μ → zok (fLaw xs L n μ o σ x4) (fun r => r = 1) := by
  intro n
  induction n with
  | zero => intro c μ o σ x4 a d e hn hc; exfalso; omega
  | succ n ih =>
    intro c μ o σ x4 a d e hn hc hM hC hR
    show zok (fLaw_body xs L (fLaw xs L n) μ o σ x4) _
    unfold fLaw_body
    refine zok_if (fun _ => zok_some rfl) (fun q => ?_)
    obtain ⟨c1, hz, h0, e8⟩ := z_at8 hL e hc q
    have hb : 2100000 * (c : Int) + 2100000 ≤ 268435456 := by omega
    have hA : 1000000 * (c : Int) ≤ 1000000000 := by omega
    have hK : ∀ (μ1 : zSt) (o1 : Nat → Int64) (σ1 : zSt) (a d : Int), zRM (2100000 * (c : Int) + 2100000) a k d μ1 → zRC a h d σ1 → zAlk zJq (1000000 * (c : Int) + 1000000) σ1 μ1 → zok (fLaw xs L n μ1 o1 σ1 (x4 + 8)) (fun r => r = 1) := fun μ1 o1 σ1 a d h1 h2 h3 => by
      refine ih (c + 1) μ1 o1 σ1 (x4 + 8) a d e8 (by omega) (by omega) ?_ h2 ?_
      · rw [show 2100000 * ((c + 1 : Nat) : Int) = 2100000 * (c : Int) + 2100000 by omega]
        exact h1
      · rw [show 1000000 * ((c + 1 : Nat) : Int) = 1000000 * (c : Int) + 1000000 by omega]
        exact h3
    refine zok_ck h0 (zok_bv (fun t _ => ?_))
    refine zok_if (fun _ => q_fLaw_208 hM hC hR hA hb hz hK) (fun _ => ?_)
    refine zok_if (fun _ => q_fLaw_372 hM hC hR hA hb hz hK) (fun _ => ?_)
    refine zok_if (fun _ => q_fLaw_400 hM hC hR hA hb hz hK) (fun _ => ?_)
    refine zok_if (fun _ => q_fLaw_469 hM hC hR hA hb hz hK) (fun _ => ?_)
    refine zok_if (fun _ => q_fLaw_482 hM hC hR hA hb hz hK) (fun _ => ?_)
    refine zok_if (fun _ => q_fLaw_510 hM hC hR hA hb hz hK) (fun _ => ?_)
    refine zok_if (fun _ => q_fLaw_538 hM hC hR hA hb hz hK) (fun _ => ?_)
    refine zok_if (fun _ => q_fLaw_566 hM hC hR hA hb hz hK) (fun _ => ?_)
    refine zok_if (fun _ => q_fLaw_577 hM hC hR hA hb hz hK) (fun _ => ?_)
    refine zok_if (fun _ => q_fLaw_590 hM hC hR hA hb hz hK) (fun _ => ?_)
    refine zok_if (fun _ => q_fLaw_627 hM hC hR hA hb hz hK) (fun _ => ?_)
    refine zok_if (fun _ => q_fLaw_666 hM hC hR hA hb hz hK) (fun _ => ?_)
    refine zok_if (fun _ => q_fLaw_719 hM hC hR hA hb hz hK) (fun _ => ?_)
    refine zok_if (fun _ => q_fLaw_771 hM hC hR hA hb hz hK) (fun _ => ?_)
    refine zok_if (fun _ => q_fLaw_796 hM hC hR hA hb hz hK) (fun _ => ?_)
    refine zok_if (fun _ => q_fLaw_824 hM hC hR hA hb hz hK) (fun _ => ?_)
    refine zok_if (fun _ => q_fLaw_880 hM hC hR hA hb hz hK) (fun _ => ?_)
    refine zok_if (fun _ => q_fLaw_891 hM hC hR hA hb hz hK) (fun _ => ?_)
    refine zok_if (fun _ => q_fLaw_904 hM hC hR hA hb hz hK) (fun _ => ?_)
    refine zok_if (fun _ => q_fLaw_932 hM hC hR hA hb hz hK) (fun _ => ?_)
    refine zok_if (fun _ => q_fLaw_969 hM hC hR hA hb hz hK) (fun _ => ?_)
    refine zok_if (fun _ => q_fLaw_994 hM hC hR hA hb hz hK) (fun _ => ?_)
    refine zok_if (fun _ => q_fLaw_1029 hM hC hR hA hb hz hK) (fun _ => ?_)
    refine zok_if (fun _ => q_fLaw_1054 hM hC hR hA hb hz hK) (fun _ => ?_)
    refine zok_if (fun _ => q_fLaw_1089 hM hC hR hA hb hz hK) (fun _ => ?_)
    refine zok_if (fun _ => q_fLaw_1117 hM hC hR hA hb hz hK) (fun _ => ?_)
    refine zok_if (fun _ => q_fLaw_1128 hM hC hR hA hb hz hK) (fun _ => ?_)
    refine zok_if (fun _ => q_fLaw_1153 hM hC hR hA hb hz hK) (fun _ => ?_)
    refine zok_if (fun _ => q_fLaw_1181 hM hC hR hA hb hz hK) (fun _ => ?_)
    refine zok_if (fun _ => q_fLaw_1221 hM hC hR hA hb hz hK) (fun _ => ?_)
    refine zok_if (fun _ => q_fLaw_1249 hM hC hR hA hb hz hK) (fun _ => ?_)
    refine zok_if (fun _ => q_fLaw_1265 hM hC hR hA hb hz hK) (fun _ => ?_)
    refine zok_if (fun _ => q_fLaw_1281 hM hC hR hA hb hz hK) (fun _ => ?_)
    refine zok_if (fun _ => q_fLaw_1309 hM hC hR hA hb hz hK) (fun _ => ?_)
    refine zok_if (fun _ => q_fLaw_1337 hM hC hR hA hb hz hK) (fun _ => ?_)
    refine zok_if (fun _ => q_fLaw_1362 hM hC hR hA hb hz hK) (fun _ => ?_)
    exact q_fLaw_1417 hM hC hR hA hb hz hK
theorem zKS_fresh {k : Int32} : zKS 0 (zG0 k) := by
  have v : ∀ i, ¬ i = 1 → zG0 k i = 0 := fun i h1 => by
    unfold zG0 zset
    split
    · rfl
    · split
      · rfl
      · first | rfl | rw [if_neg h1]
  have lb := zln_b (zG0 k)
  unfold zKS zJ
  rw [v 102 (by decide), v 105 (by decide), v 106 (by decide), v 6 (by decide), v 7 (by decide), v 8 (by decide)]
  omega
theorem z_owed {L : Nat} {xs : Nat → Int32} (hL : L ≤ 513) : zOwed L xs := by
  obtain ⟨σ4, e4, i4⟩ := z_c4
  obtain ⟨σ5, e5, i5⟩ := z_c5
  obtain ⟨σ9, e9, i9⟩ := z_c9
  obtain ⟨σ1, e1, i1⟩ := s_freshM (zKd_r (zCell L xs))
  have hC := s_freshC i4 i5 (fun v => (Classical.choose_spec (z_c6 v)).2) i9 (k := zCell L xs)
  have z0 : zG0 (zKd (zCell L xs)) 0 = 0 := by unfold zG0; rw [zset_ne (by decide), zset_ne (by decide), zset_ne (by decide)]
  have z2 : zG0 (zKd (zCell L xs)) 2 = 0 := by unfold zG0; rw [zset_ne (by decide), zset_ne (by decide), zset_ne (by decide)]
  have h0 : zRM (2100000 * ((0 : Nat) : Int)) 0 (zG0 (zKd (zCell L xs)) 1) 0 σ1 := by
    rw [show (2100000 * ((0 : Nat) : Int)) = 0 by decide]
    exact ⟨by decide, _, i1, zG0_J (zKd_r _), zKS_fresh, z0, rfl, z2⟩
  have h1 : zRC 0 (zH0 (zCell L xs) 2) 0 (zC1 (zCell L xs) σ4 σ5 (fun v => Classical.choose (z_c6 v)) σ9) := ⟨_, hC, rfl, rfl, rfl⟩
  obtain ⟨r, e, h⟩ := z_loop hL (xs := xs) 66 0 σ1 (fun _ => 0) _ 1 _ _ (by decide) rfl (by decide) h0 h1 (by rw [show (1000000 * ((0 : Nat) : Int)) = 0 by decide]; exact z_freshK rfl e4 e5 (fun v => (Classical.choose_spec (z_c6 v)).1) e9 e1)
  refine ⟨σ4, e4, σ5, e5, _, fun v => (Classical.choose_spec (z_c6 v)).1, σ9, e9, σ1, e1, 66, by decide, ?_⟩
  rw [e, h]
end ZJN4
