set_option maxRecDepth 20000 in
set_option maxHeartbeats 2000000 in
theorem t_JM_max_0 {x0 : Int} {x1 : Int}  {w : Wo} {Q : Option AV → Wo → Prop} (h : ((x0 < x1 → Q (some (vi x1)) w) ∧ (¬ x0 < x1 → Q (some (vi x0)) w))) : Wp m_JM_max 0 [(0, vi x0), (1, vi x1)] [] (0, 0) w Q := by
  refine wp_ly (fun hly => ?_)
  refine wp_iload_n d_JM_max_0 (i := 0) rfl 0 rfl ?_
  refine wp_iload_n d_JM_max_1 (i := 1) rfl 1 rfl ?_
  refine wp_icmp_lt (tgt := 9) d_JM_max_2 (by decide) (fun hc => ?_) (fun hc => ?_)
  · replace h := h.1 hc
    refine wp_iload_n d_JM_max_9 (i := 1) rfl 1 rfl ?_
    exact wp_iret d_JM_max_10 rfl (by decide) h
  · replace h := h.2 hc
    refine wp_iload_n d_JM_max_5 (i := 0) rfl 0 rfl ?_
    refine wp_goto (tgt := 10) d_JM_max_6 (by decide) ?_
    exact wp_iret d_JM_max_10 rfl (by decide) h
set_option maxRecDepth 20000 in
set_option maxHeartbeats 2000000 in
theorem t_JM_min_0 {x0 : Int} {x1 : Int}  {w : Wo} {Q : Option AV → Wo → Prop} (h : ((x1 < x0 → Q (some (vi x1)) w) ∧ (¬ x1 < x0 → Q (some (vi x0)) w))) : Wp m_JM_min 0 [(0, vi x0), (1, vi x1)] [] (0, 0) w Q := by
  refine wp_ly (fun hly => ?_)
  refine wp_iload_n d_JM_min_0 (i := 0) rfl 0 rfl ?_
  refine wp_iload_n d_JM_min_1 (i := 1) rfl 1 rfl ?_
  refine wp_icmp_gt (tgt := 9) d_JM_min_2 (by decide) (fun hc => ?_) (fun hc => ?_)
  · replace h := h.1 hc
    refine wp_iload_n d_JM_min_9 (i := 1) rfl 1 rfl ?_
    exact wp_iret d_JM_min_10 rfl (by decide) h
  · replace h := h.2 hc
    refine wp_iload_n d_JM_min_5 (i := 0) rfl 0 rfl ?_
    refine wp_goto (tgt := 10) d_JM_min_6 (by decide) ?_
    exact wp_iret d_JM_min_10 rfl (by decide) h
