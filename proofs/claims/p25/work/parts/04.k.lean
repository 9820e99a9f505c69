set_option maxRecDepth 20000 in
theorem ggL_nightOf_L_plateOf : GoodIn wsL_nightOf wsL_plateOf := goodIn_r _ [4] (by decide +kernel) (by decide +kernel)
set_option maxRecDepth 20000 in
theorem gL_nightOf_L_plateOf : GoodIn wsL_nightOf (va_wsS RL 44 yL_plateOf wsL_plateOf) := goodIn_app (goodIn_of _ (by decide +kernel)) ggL_nightOf_L_plateOf
set_option maxRecDepth 20000 in
theorem ggL_isLook_L_owner : GoodIn wsL_isLook wsL_owner := goodIn_r _ [4, 5] (by decide +kernel) (by decide +kernel)
set_option maxRecDepth 20000 in
theorem gL_isLook_L_owner : GoodIn wsL_isLook (va_wsS RL 50 yL_owner wsL_owner) := goodIn_app (goodIn_of _ (by decide +kernel)) ggL_isLook_L_owner
set_option maxRecDepth 20000 in
theorem ggL_isLook_L_isBelow : GoodIn wsL_isLook wsL_isBelow := goodIn_r _ [8] (by decide +kernel) (by decide +kernel)
set_option maxRecDepth 20000 in
theorem gL_isLook_L_isBelow : GoodIn wsL_isLook (va_wsS RL 53 yL_isBelow wsL_isBelow) := goodIn_app (goodIn_of _ (by decide +kernel)) ggL_isLook_L_isBelow
set_option maxRecDepth 20000 in
theorem ggL_looks_L_isLook : GoodIn wsL_looks wsL_isLook := goodIn_r _ [4, 5, 6, 3, 7, 8, 9, 10, 11] (by decide +kernel) (by decide +kernel)
set_option maxRecDepth 20000 in
theorem gL_looks_L_isLook : GoodIn wsL_looks (va_wsS RL 57 yL_isLook wsL_isLook) := goodIn_app (goodIn_of _ (by decide +kernel)) ggL_looks_L_isLook
set_option maxRecDepth 20000 in
theorem ggL_firstOf_L_isLook : GoodIn wsL_firstOf wsL_isLook := goodIn_r _ [4, 5, 6, 3, 7, 8, 9, 10, 11] (by decide +kernel) (by decide +kernel)
set_option maxRecDepth 20000 in
theorem gL_firstOf_L_isLook : GoodIn wsL_firstOf (va_wsS RL 57 yL_isLook wsL_isLook) := goodIn_app (goodIn_of _ (by decide +kernel)) ggL_firstOf_L_isLook
set_option maxRecDepth 20000 in
theorem ggL_firstOf_L_nightOf : GoodIn wsL_firstOf wsL_nightOf := goodIn_r _ [14, 15, 16, 3, 17] (by decide +kernel) (by decide +kernel)
set_option maxRecDepth 20000 in
theorem gL_firstOf_L_nightOf : GoodIn wsL_firstOf (va_wsS RL 61 yL_nightOf wsL_nightOf) := goodIn_app (goodIn_of _ (by decide +kernel)) ggL_firstOf_L_nightOf
set_option maxRecDepth 20000 in
theorem ggL_orbits_L_isLook : GoodIn wsL_orbits wsL_isLook := goodIn_r _ [5, 6, 7, 4, 8, 9, 10, 11, 12] (by decide +kernel) (by decide +kernel)
set_option maxRecDepth 20000 in
theorem gL_orbits_L_isLook : GoodIn wsL_orbits (va_wsS RL 57 yL_isLook wsL_isLook) := goodIn_app (goodIn_of _ (by decide +kernel)) ggL_orbits_L_isLook
set_option maxRecDepth 20000 in
theorem ggL_orbits_L_nightOf : GoodIn wsL_orbits wsL_nightOf := goodIn_r _ [15, 16, 17, 4, 18] (by decide +kernel) (by decide +kernel)
set_option maxRecDepth 20000 in
theorem gL_orbits_L_nightOf : GoodIn wsL_orbits (va_wsS RL 61 yL_nightOf wsL_nightOf) := goodIn_app (goodIn_of _ (by decide +kernel)) ggL_orbits_L_nightOf
set_option maxRecDepth 20000 in
theorem ggL_orbits_L_placeOf : GoodIn wsL_orbits wsL_placeOf := goodIn_r _ [21] (by decide +kernel) (by decide +kernel)
set_option maxRecDepth 20000 in
theorem gL_orbits_L_placeOf : GoodIn wsL_orbits (va_wsS RL 65 yL_placeOf wsL_placeOf) := goodIn_app (goodIn_of _ (by decide +kernel)) ggL_orbits_L_placeOf
set_option maxRecDepth 20000 in
theorem ggL_orbits_L_plateOf : GoodIn wsL_orbits wsL_plateOf := goodIn_r _ [18] (by decide +kernel) (by decide +kernel)
set_option maxRecDepth 20000 in
theorem gL_orbits_L_plateOf : GoodIn wsL_orbits (va_wsS RL 44 yL_plateOf wsL_plateOf) := goodIn_app (goodIn_of _ (by decide +kernel)) ggL_orbits_L_plateOf
set_option maxRecDepth 20000 in
theorem ggL_orbits_L_placeBy : GoodIn wsL_orbits wsL_placeBy := goodIn_r _ [24] (by decide +kernel) (by decide +kernel)
set_option maxRecDepth 20000 in
theorem gL_orbits_L_placeBy : GoodIn wsL_orbits (va_wsS RL 68 yL_placeBy wsL_placeBy) := goodIn_app (goodIn_of _ (by decide +kernel)) ggL_orbits_L_placeBy
set_option maxRecDepth 20000 in
theorem ggL_orbits_L_isNear : GoodIn wsL_orbits wsL_isNear := goodIn_r _ [27] (by decide +kernel) (by decide +kernel)
set_option maxRecDepth 20000 in
theorem gL_orbits_L_isNear : GoodIn wsL_orbits (va_wsS RL 72 yL_isNear wsL_isNear) := goodIn_app (goodIn_of _ (by decide +kernel)) ggL_orbits_L_isNear
set_option maxRecDepth 20000 in
theorem ggL_share_L_plateOf : GoodIn wsL_share wsL_plateOf := goodIn_r _ [4] (by decide +kernel) (by decide +kernel)
set_option maxRecDepth 20000 in
theorem gL_share_L_plateOf : GoodIn wsL_share (va_wsS RL 44 yL_plateOf wsL_plateOf) := goodIn_app (goodIn_of _ (by decide +kernel)) ggL_share_L_plateOf
set_option maxRecDepth 20000 in
theorem ggL_share_L_isLook : GoodIn wsL_share wsL_isLook := goodIn_r _ [7, 8, 9, 3, 10, 11, 12, 13, 14] (by decide +kernel) (by decide +kernel)
set_option maxRecDepth 20000 in
theorem gL_share_L_isLook : GoodIn wsL_share (va_wsS RL 57 yL_isLook wsL_isLook) := goodIn_app (goodIn_of _ (by decide +kernel)) ggL_share_L_isLook
