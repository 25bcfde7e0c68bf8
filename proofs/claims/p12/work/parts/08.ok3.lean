noncomputable section
set_option maxRecDepth 100000 in
theorem o_X9_takeU : ri_okq (m_X9_takeU, 1, 1, t_X9_takeU) := ri_okq_of 903 93 902 32 (by decide +kernel) (by decide +kernel)
set_option maxRecDepth 100000 in
theorem o_X9_takeV : ri_okq (m_X9_takeV, 1, 1, t_X9_takeV) := ri_okq_of 907 93 906 33 (by decide +kernel) (by decide +kernel)
set_option maxRecDepth 100000 in
theorem o_X9_turnV : ri_okq (m_X9_turnV, 0, 1, t_X9_turnV) := ri_okq_of 923 93 922 37 (by decide +kernel) (by decide +kernel)
set_option maxRecDepth 100000 in
theorem o_X9_ofU : ri_okq (m_X9_ofU, 1, 1, t_X9_ofU) := ri_okq_of 919 93 918 36 (by decide +kernel) (by decide +kernel)
set_option maxRecDepth 100000 in
theorem o_X9_ofV : ri_okq (m_X9_ofV, 1, 1, t_X9_ofV) := ri_okq_of 950 93 949 42 (by decide +kernel) (by decide +kernel)
set_option maxRecDepth 100000 in
theorem o_X9_isTurned : ri_okq (m_X9_isTurned, 0, 1, t_X9_isTurned) := ri_okq_of 915 93 914 35 (by decide +kernel) (by decide +kernel)
set_option maxRecDepth 100000 in
theorem o_X9_areOne : ri_okq (m_X9_areOne, 0, 1, t_X9_areOne) := ri_okq_of 911 93 910 34 (by decide +kernel) (by decide +kernel)
set_option maxRecDepth 100000 in
theorem o_X9_one : ri_okq (m_X9_one, 2, 1, t_X9_one) := ri_okq_of 895 93 893 894 (by decide +kernel) (by decide +kernel)
set_option maxRecDepth 100000 in
theorem o_X9_isPower : ri_okq (m_X9_isPower, 1, 1, t_X9_isPower) := ri_okq_of 934 93 933 38 (by decide +kernel) (by decide +kernel)
set_option maxRecDepth 100000 in
theorem o_X9_placeOf : ri_okq (m_X9_placeOf, 1, 0, t_X9_placeOf) := ri_okq_of 961 93 960 0 (by decide +kernel) (by decide +kernel)
set_option maxRecDepth 100000 in
theorem o_X9_farFrom : ri_okq (m_X9_farFrom, 2, 1, t_X9_farFrom) := ri_okq_of 958 93 957 44 (by decide +kernel) (by decide +kernel)
set_option maxRecDepth 100000 in
theorem o_X9_goRound : ri_okq (m_X9_goRound, 3, 1, t_X9_goRound) := ri_okq_of 969 93 968 46 (by decide +kernel) (by decide +kernel)
set_option maxRecDepth 100000 in
theorem o_X9_meetAtOnce : ri_okq (m_X9_meetAtOnce, 4, 1, t_X9_meetAtOnce) := ri_okq_of 954 93 953 43 (by decide +kernel) (by decide +kernel)
set_option maxRecDepth 100000 in
theorem o_X9_meetAlong : ri_okq (m_X9_meetAlong, 2, 1, t_X9_meetAlong) := ri_okq_of 965 93 964 45 (by decide +kernel) (by decide +kernel)
set_option maxRecDepth 100000 in
theorem o_X9_countMeetings : ri_okq (m_X9_countMeetings, 1, 1, t_X9_countMeetings) := ri_okq_of 946 93 945 41 (by decide +kernel) (by decide +kernel)
set_option maxRecDepth 100000 in
theorem o_X9_meetings : ri_okq (m_X9_meetings, 0, 1, t_X9_meetings) := ri_okq_of 942 93 941 40 (by decide +kernel) (by decide +kernel)
set_option maxRecDepth 100000 in
theorem o_X9_meetingsOf : ri_okq (m_X9_meetingsOf, 2, 1, t_X9_meetingsOf) := ri_okq_of 938 93 937 39 (by decide +kernel) (by decide +kernel)
set_option maxRecDepth 100000 in
theorem o_X9_isSimple : ri_okq (m_X9_isSimple, 1, 1, t_X9_isSimple) := ri_okq_of 985 93 984 47 (by decide +kernel) (by decide +kernel)
set_option maxRecDepth 100000 in
theorem o_X9_meets : ri_okq (m_X9_meets, 2, 1, t_X9_meets) := ri_okq_of 930 93 928 929 (by decide +kernel) (by decide +kernel)
set_option maxRecDepth 100000 in
theorem o_X9_told : ri_okq (m_X9_told, 2, 1, t_X9_told) := ri_okq_of 973 93 971 972 (by decide +kernel) (by decide +kernel)
set_option maxRecDepth 100000 in
theorem o_X9_at : ri_okq (m_X9_at, 2, 1, t_X9_at) := ri_okq_of 977 93 975 976 (by decide +kernel) (by decide +kernel)
set_option maxRecDepth 100000 in
theorem o_X9_heap : ri_okq (m_X9_heap, 1, 1, t_X9_heap) := ri_okq_of 981 93 979 980 (by decide +kernel) (by decide +kernel)
set_option maxRecDepth 100000 in
theorem o_X9_put : ri_okq (m_X9_put, 1, 1, t_X9_put) := ri_okq_of 1067 93 1066 59 (by decide +kernel) (by decide +kernel)
set_option maxRecDepth 100000 in
theorem o_X9_putC : ri_okq (m_X9_putC, 2, 1, t_X9_putC) := ri_okq_of 1071 93 1070 60 (by decide +kernel) (by decide +kernel)
set_option maxRecDepth 100000 in
theorem o_X9_putImage : ri_okq (m_X9_putImage, 4, 1, t_X9_putImage) := ri_okq_of 1063 93 1062 58 (by decide +kernel) (by decide +kernel)
set_option maxRecDepth 100000 in
theorem o_X9_twistRow : ri_okq (m_X9_twistRow, 1, 1, t_X9_twistRow) := ri_okq_of 1059 93 1058 57 (by decide +kernel) (by decide +kernel)
set_option maxRecDepth 100000 in
theorem o_X9_imageRow : ri_okq (m_X9_imageRow, 1, 1, t_X9_imageRow) := ri_okq_of 1055 93 1054 56 (by decide +kernel) (by decide +kernel)
set_option maxRecDepth 100000 in
theorem o_X9_takeLetter : ri_okq (m_X9_takeLetter, 1, 1, t_X9_takeLetter) := ri_okq_of 1051 93 1050 55 (by decide +kernel) (by decide +kernel)
set_option maxRecDepth 100000 in
theorem o_X9_takeRing : ri_okq (m_X9_takeRing, 1, 1, t_X9_takeRing) := ri_okq_of 1079 93 1078 61 (by decide +kernel) (by decide +kernel)
set_option maxRecDepth 100000 in
theorem o_X9_closeToU : ri_okq (m_X9_closeToU, 0, 1, t_X9_closeToU) := ri_okq_of 1083 93 1082 62 (by decide +kernel) (by decide +kernel)
set_option maxRecDepth 100000 in
theorem o_X9_noPlan : ri_okq (m_X9_noPlan, 1, 1, t_X9_noPlan) := ri_okq_of 1000 93 999 48 (by decide +kernel) (by decide +kernel)
set_option maxRecDepth 100000 in
theorem o_X9_feed : ri_okq (m_X9_feed, 2, 1, t_X9_feed) := ri_okq_of 990 93 988 989 (by decide +kernel) (by decide +kernel)
set_option maxRecDepth 100000 in
theorem o_X9_look : ri_okq (m_X9_look, 0, 1, t_X9_look) := ri_okq_of 1005 93 1004 49 (by decide +kernel) (by decide +kernel)
end
