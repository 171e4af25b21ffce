set_option maxRecDepth 100000 in
set_option maxHeartbeats 4000000 in
theorem cal_L_lay_c : lw_tbl[302]? = some (Cond.code (mNm m_L_lay) (mBy m_L_lay) (mML m_L_lay) (mRt m_L_lay)) := rfl
theorem cal_L_lay_g : goodWord (Cond.code (mNm m_L_lay) (mBy m_L_lay) (mML m_L_lay) (mRt m_L_lay)) = true := rfl
theorem cal_L_lay : CalS m_L_lay 10 := ⟨⟨WL_mem 301 (by decide +kernel) (by decide +kernel), wi_8, WL_mem 302 cal_L_lay_c cal_L_lay_g⟩, ⟨(by decide +kernel), (by decide +kernel), (by decide +kernel)⟩⟩
set_option maxRecDepth 100000 in
set_option maxHeartbeats 4000000 in
theorem cal_L_act_c : lw_tbl[204]? = some (Cond.code (mNm m_L_act) (mBy m_L_act) (mML m_L_act) (mRt m_L_act)) := rfl
theorem cal_L_act_g : goodWord (Cond.code (mNm m_L_act) (mBy m_L_act) (mML m_L_act) (mRt m_L_act)) = true := rfl
theorem cal_L_act : CalS m_L_act 10 := ⟨⟨WL_mem 203 (by decide +kernel) (by decide +kernel), wi_8, WL_mem 204 cal_L_act_c cal_L_act_g⟩, ⟨(by decide +kernel), (by decide +kernel), (by decide +kernel)⟩⟩
