/-! STEPS: every call of the law keeps what holds -/
theorem zs_0 : zStep_0 zP := fun n I J a1 a2 hn hP => zP_deed hn (fun B hB => by
    unfold f_X8_person
    rw [zb_eta]
    exact Deed.two (d_person zL1 a1 a2)) (fun r hr => by
    unfold f_X8_person at hr
    rw [zb_eta] at hr
    exact fm_X2_enterPerson 1 110 (by decide +kernel) (by decide) hr) hP
theorem zs_1 : zStep_1 zP := fun n I J a1 hn hP => zP_deed hn (fun B hB => by
    unfold f_X8_tool
    rw [zb_eta]
    exact Deed.two (d_tool a1)) (fun r hr => by
    unfold f_X8_tool at hr
    rw [zb_eta] at hr
    exact fm_X2_enterTool 1 110 (by decide +kernel) (by decide) hr) hP
theorem zs_2 : zStep_2 zP := fun n I J a1 a2 a3 hn hP => zP_deed hn (fun B hB => by
    unfold f_X8_wish
    rw [zb_eta]
    exact Deed.two (d_wish a1 a2 a3)) (fun r hr => by
    unfold f_X8_wish at hr
    rw [zb_eta] at hr
    exact fm_X2_setWish 1 110 (by decide +kernel) (by decide) hr) hP
theorem zs_3 : zStep_3 zP := fun n I J a1 a2 hn hP => zP_deed hn (fun B hB => by
    unfold f_X8_fund
    rw [zb_eta]
    exact Deed.two (d_fund a1 a2)) (fun r hr => by
    unfold f_X8_fund at hr
    rw [zb_eta] at hr
    exact fm_X2_bringCoins 1 110 (by decide +kernel) (by decide) hr) hP
theorem zs_4 : zStep_4 zP := fun n I J a1 a2 hn hP => zP_ask hn (fun B np nt hB hR hH hT => q_personOf hR a1 a2) hP
theorem zs_5 : zStep_5 zP := fun n I J a1 a2 hn hP => zP_ask hn (fun B np nt hB hR hH hT => q_toolOf hR a1 a2) hP
theorem zs_6 : zStep_6 zP := fun n I J a1 a2 a3 hn hP => zP_ask hn (fun B np nt hB hR hH hT => q_link hR a1 a2 a3) hP
theorem zs_7 : zStep_7 zP := fun n I J a1 a2 a3 hn hP => zP_ask hn (fun B np nt hB hR hH hT => q_seen hR a1 a2 a3) hP
theorem zs_8 : zStep_8 zP := fun n I J a1 a2 a3 hn hP => zP_ask hn (fun B np nt hB hR hH hT => q_claimOf (by omega) hR a1 a2 a3) hP
theorem zs_9 : zStep_9 zP := fun n I J a1 hn hP => zP_ask hn (fun B np nt hB hR hH hT => q_ranked hR a1) hP
theorem zs_10 : zStep_10 zP := fun n I J a1 a2 a3 hn hP => zP_deed hn (fun B hB => by
    unfold f_X8_lease
    rw [zb_eta]
    exact Deed.two (d_lease (by omega) a1 a2 a3)) (fun r hr => by
    unfold f_X8_lease at hr
    rw [zb_eta] at hr
    exact fm_X2_leaseTo 1 110 (by decide +kernel) (by decide) hr) hP
theorem zs_11 : zStep_11 zP := fun n I J a1 a2 a3 hn hP => zP_deed hn (fun B hB => Deed.two (d_claim (by omega) a1 a2 a3)) (fun r hr => by
    unfold f_X8_claim at hr
    split at hr
    · rw [zb_eta] at hr
      exact fm_X2_enterClaim 1 110 (by decide +kernel) (by decide) hr
    · cases hr
      exact FM_r) hP
theorem zs_12 : zStep_12 zP := fun n I J a1 a2 hn hP => zP_deed hn (fun B hB => by
    unfold f_X8_waive
    rw [zb_eta]
    exact Deed.two (d_waive a1 a2)) (fun r hr => by
    unfold f_X8_waive at hr
    rw [zb_eta] at hr
    exact fm_X2_dropClaim 1 110 (by decide +kernel) (by decide) hr) hP
theorem zs_13 : zStep_13 zP := fun n I J a1 hn hP => zP_deed hn (fun B hB => by
    unfold f_X8_returned
    rw [zb_eta]
    exact Deed.two (d_returned (by omega) a1)) (fun r hr => by
    unfold f_X8_returned at hr
    rw [zb_eta] at hr
    exact fm_X2_giveBack 1 110 (by decide +kernel) (by decide) hr) hP
theorem zs_14 : zStep_14 zP := fun n I J a1 a2 hn hP => zP_deed hn (fun B hB => by
    unfold f_X8_pass
    rw [zb_eta]
    exact Deed.two (d_pass (by omega) a1 a2)) (fun r hr => by
    unfold f_X8_pass at hr
    rw [zb_eta] at hr
    exact fm_X2_passOn 1 110 (by decide +kernel) (by decide) hr) hP
theorem zs_15 : zStep_15 zP := fun n I J a1 a2 hn hP => zP_deed hn (fun B hB => by
    unfold f_X8_swap
    rw [zb_eta]
    exact d_swap (by omega) a1 a2) (fun r hr => by
    unfold f_X8_swap at hr
    rw [zb_eta] at hr
    exact fm_X2_exchange 1 110 (by decide +kernel) (by decide) hr) hP
theorem zs_16 : zStep_16 zP := fun n I J a1 a2 hn hP => zP_deed hn (fun B hB => by
    unfold f_X8_use
    rw [zb_eta]
    exact Deed.two (d_use a1 a2)) (fun r hr => by
    unfold f_X8_use at hr
    rw [zb_eta] at hr
    exact fm_X2_wearDown 1 110 (by decide +kernel) (by decide) hr) hP
theorem zs_17 : zStep_17 zP := fun n I J a1 hn hP => zP_deed hn (fun B hB => by
    unfold f_X8_look
    rw [zb_eta]
    exact Deed.two (d_look (by omega) a1)) (fun r hr => by
    unfold f_X8_look at hr
    rw [zb_eta] at hr
    exact fm_X2_lookAt 1 110 (by decide +kernel) (by decide) hr) hP
theorem zs_18 : zStep_18 zP := fun n I J a1 hn hP => zP_deed hn (fun B hB => by
    unfold f_X8_days
    rw [zb_eta]
    exact Deed.two (d_days (by omega) a1)) (fun r hr => by
    unfold f_X8_days at hr
    rw [zb_eta] at hr
    exact fm_X2_passDays 1 110 (by decide +kernel) (by decide) hr) hP
theorem zs_19 : zStep_19 zP := fun n I J a1 hn hP => zP_ask hn (fun B np nt hB hR hH hT => q_why hR a1) hP
theorem zs_20 : zStep_20 zP := fun n I J a1 a2 hn hP => zP_st hn (fun B hB => St_m (St_ask (fun np nt hR hM => q_told (by omega) hR hM a1 a2)) (by omega)) hP
theorem zs_21 : zStep_21 zP := fun n I J a1 a2 hn hP => zP_st hn (fun B hB => St_m (St_ask (fun np nt hR hM => q_share (by omega) hR hM a1 a2)) (by omega)) hP
theorem zs_22 : zStep_22 zP := fun n I J a1 hn hP => zP_swaps hn a1 hP
theorem zs_23 : zStep_23 zP := fun n I J a1 a2 hn hP => zP_ask hn (fun B np nt hB hR hH hT => q_ahead (by omega) hR a1 a2) hP
theorem zs_24 : zStep_24 zP := fun n I J a1 a2 hn hP => zP_ask hn (fun B np nt hB hR hH hT => q_judge (by omega) hR hH a1 a2) hP
theorem zs_25 : zStep_25 zP := fun n I J a1 hn hP => zP_st hn (fun B hB => St_m (St_feed a1) (by omega)) hP
theorem zs_26 : zStep_26 zP := fun n I J hn hP => zP_st hn (fun B hB => St_m (d_script (by omega)) (by omega)) hP
theorem zs_27 : zStep_27 zP := fun n I J hn hP => zP_st hn (fun B hB => St_m d_image (by omega)) hP
theorem zs_28 : zStep_28 zP := fun n I J hn hP => zP_st hn (fun B hB => St_m d_back (by omega)) hP
theorem zs_29 : zStep_29 zP := fun n I J a1 a2 a3 hn hP => zP_st hn (fun B hB => St_m (St_hold (fun np nt hR hH => d_hold hR hH a1 a2 a3)) (by omega)) hP
theorem zs_30 : zStep_30 zP := fun n I J a1 a2 hn hP => zP_st hn (fun B hB => St_m (St_hold (fun np nt hR hH => d_row hH a1 a2)) (by omega)) hP
theorem zs_31 : zStep_31 zP := fun n I J a1 a2 a3 hn hP => zP_st hn (fun B hB => St_m (St_hold (fun np nt hR hH => d_put hH a1 a2 a3)) (by omega)) hP
theorem zs_32 : zStep_32 zP := fun n I J a1 a2 hn hP => zP_ask hn (fun B np nt hB hR hH hT => q_tells hR hH a1 a2) hP
theorem zs_33 : zStep_33 zP := fun n I J a1 hn hP => zP_ask hn (fun B np nt hB hR hH hT => q_count hR hH hT a1) hP
theorem zs_all : zSteps zP := ⟨fun n I J h => zP_mono h, zs_0, zs_1, zs_2, zs_3, zs_4, zs_5, zs_6, zs_7, zs_8, zs_9, zs_10, zs_11, zs_12, zs_13, zs_14, zs_15, zs_16, zs_17, zs_18, zs_19, zs_20, zs_21, zs_22, zs_23, zs_24, zs_25, zs_26, zs_27, zs_28, zs_29, zs_30, zs_31, zs_32, zs_33⟩
