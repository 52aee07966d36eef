set_option maxRecDepth 20000 in
theorem gL_law_X11_init : GoodIn lw_tbl (wsX11_init) := goodIn_sub in_wsX11_init (by decide +kernel)
set_option maxRecDepth 20000 in
theorem gL_law_X12_init : GoodIn lw_tbl (wsX12_init) := goodIn_sub in_wsX12_init (by decide +kernel)
set_option maxRecDepth 20000 in
theorem gL_law_X11_word : GoodIn lw_tbl (wsV RL 13 RX11 yX11_word wsX11_word) := goodIn_sub (w_app (w_cons wl178 (w_cons wl177 (w_cons wl176 (w_cons wl171 w_nil)))) in_wsX11_word) (by decide +kernel)
set_option maxRecDepth 20000 in
theorem gL_law_X12_word : GoodIn lw_tbl (wsV RL 17 RX12 yX12_word wsX12_word) := goodIn_sub (w_app (w_cons wl200 (w_cons wl199 (w_cons wl198 (w_cons wl194 w_nil)))) in_wsX12_word) (by decide +kernel)
set_option maxRecDepth 20000 in
theorem gL_law_X11_ofWord : GoodIn lw_tbl (wsV RL 18 RX11 yX11_ofWord wsX11_ofWord) := goodIn_sub (w_app (w_cons wl213 (w_cons wl212 (w_cons wl211 (w_cons wl171 w_nil)))) in_wsX11_ofWord) (by decide +kernel)
set_option maxRecDepth 20000 in
theorem gL_law_X12_ofWord : GoodIn lw_tbl (wsV RL 21 RX12 yX12_ofWord wsX12_ofWord) := goodIn_sub (w_app (w_cons wl226 (w_cons wl225 (w_cons wl224 (w_cons wl194 w_nil)))) in_wsX12_ofWord) (by decide +kernel)
set_option maxRecDepth 20000 in
theorem gL_law_X11_known : GoodIn lw_tbl (wsV RL 22 RX11 yX11_known wsX11_known) := goodIn_sub (w_app (w_cons wl233 (w_cons wl232 (w_cons wl231 (w_cons wl171 w_nil)))) in_wsX11_known) (by decide +kernel)
set_option maxRecDepth 20000 in
theorem gL_law_X12_known : GoodIn lw_tbl (wsV RL 26 RX12 yX12_known wsX12_known) := goodIn_sub (w_app (w_cons wl241 (w_cons wl240 (w_cons wl239 (w_cons wl194 w_nil)))) in_wsX12_known) (by decide +kernel)
set_option maxRecDepth 20000 in
theorem gL_law_X11_swallow : GoodIn lw_tbl (wsV RL 27 RX11 yX11_swallow wsX11_swallow) := goodIn_sub (w_app (w_cons wl254 (w_cons wl253 (w_cons wl252 (w_cons wl171 w_nil)))) in_wsX11_swallow) (by decide +kernel)
set_option maxRecDepth 20000 in
theorem gL_law_X12_swallow : GoodIn lw_tbl (wsV RL 31 RX12 yX12_swallow wsX12_swallow) := goodIn_sub (w_app (w_cons wl265 (w_cons wl264 (w_cons wl263 (w_cons wl194 w_nil)))) in_wsX12_swallow) (by decide +kernel)
set_option maxRecDepth 20000 in
theorem gL_law_X11_ofSwallow : GoodIn lw_tbl (wsV RL 32 RX11 yX11_ofSwallow wsX11_ofSwallow) := goodIn_sub (w_app (w_cons wl269 (w_cons wl268 (w_cons wl267 (w_cons wl171 w_nil)))) in_wsX11_ofSwallow) (by decide +kernel)
set_option maxRecDepth 20000 in
theorem gL_law_X12_ofSwallow : GoodIn lw_tbl (wsV RL 35 RX12 yX12_ofSwallow wsX12_ofSwallow) := goodIn_sub (w_app (w_cons wl273 (w_cons wl272 (w_cons wl271 (w_cons wl194 w_nil)))) in_wsX12_ofSwallow) (by decide +kernel)
set_option maxRecDepth 20000 in
theorem gL_law_X11_wash : GoodIn lw_tbl (wsV RL 36 RX11 yX11_wash wsX11_wash) := goodIn_sub (w_app (w_cons wl278 (w_cons wl277 (w_cons wl276 (w_cons wl171 w_nil)))) in_wsX11_wash) (by decide +kernel)
set_option maxRecDepth 20000 in
theorem gL_law_X12_wash : GoodIn lw_tbl (wsV RL 39 RX12 yX12_wash wsX12_wash) := goodIn_sub (w_app (w_cons wl283 (w_cons wl282 (w_cons wl281 (w_cons wl194 w_nil)))) in_wsX12_wash) (by decide +kernel)
set_option maxRecDepth 20000 in
theorem gL_law_X11_ofWash : GoodIn lw_tbl (wsV RL 40 RX11 yX11_ofWash wsX11_ofWash) := goodIn_sub (w_app (w_cons wl287 (w_cons wl286 (w_cons wl285 (w_cons wl171 w_nil)))) in_wsX11_ofWash) (by decide +kernel)
set_option maxRecDepth 20000 in
theorem gL_law_X12_ofWash : GoodIn lw_tbl (wsV RL 43 RX12 yX12_ofWash wsX12_ofWash) := goodIn_sub (w_app (w_cons wl291 (w_cons wl290 (w_cons wl289 (w_cons wl194 w_nil)))) in_wsX12_ofWash) (by decide +kernel)
set_option maxRecDepth 20000 in
theorem gL_law_X11_spoon : GoodIn lw_tbl (wsV RL 44 RX11 yX11_spoon wsX11_spoon) := goodIn_sub (w_app (w_cons wl301 (w_cons wl300 (w_cons wl299 (w_cons wl171 w_nil)))) in_wsX11_spoon) (by decide +kernel)
set_option maxRecDepth 20000 in
theorem gL_law_X12_spoon : GoodIn lw_tbl (wsV RL 47 RX12 yX12_spoon wsX12_spoon) := goodIn_sub (w_app (w_cons wl314 (w_cons wl313 (w_cons wl312 (w_cons wl194 w_nil)))) in_wsX12_spoon) (by decide +kernel)
set_option maxRecDepth 20000 in
theorem gL_law_X11_ofSpoon : GoodIn lw_tbl (wsV RL 48 RX11 yX11_ofSpoon wsX11_ofSpoon) := goodIn_sub (w_app (w_cons wl395 (w_cons wl394 (w_cons wl393 (w_cons wl171 w_nil)))) in_wsX11_ofSpoon) (by decide +kernel)
set_option maxRecDepth 20000 in
theorem gL_law_X12_ofSpoon : GoodIn lw_tbl (wsV RL 51 RX12 yX12_ofSpoon wsX12_ofSpoon) := goodIn_sub (w_app (w_cons wl433 (w_cons wl432 (w_cons wl431 (w_cons wl194 w_nil)))) in_wsX12_ofSpoon) (by decide +kernel)
set_option maxRecDepth 20000 in
theorem gL_law_X11_change : GoodIn lw_tbl (wsV RL 52 RX11 yX11_change wsX11_change) := goodIn_sub (w_app (w_cons wl442 (w_cons wl441 (w_cons wl440 (w_cons wl171 w_nil)))) in_wsX11_change) (by decide +kernel)
set_option maxRecDepth 20000 in
theorem gL_law_X12_change : GoodIn lw_tbl (wsV RL 55 RX12 yX12_change wsX12_change) := goodIn_sub (w_app (w_cons wl447 (w_cons wl446 (w_cons wl445 (w_cons wl194 w_nil)))) in_wsX12_change) (by decide +kernel)
set_option maxRecDepth 20000 in
theorem gL_law_X11_become : GoodIn lw_tbl (wsV RL 56 RX11 yX11_become wsX11_become) := goodIn_sub (w_app (w_cons wl451 (w_cons wl450 (w_cons wl449 (w_cons wl171 w_nil)))) in_wsX11_become) (by decide +kernel)
set_option maxRecDepth 20000 in
theorem gL_law_X12_become : GoodIn lw_tbl (wsV RL 59 RX12 yX12_become wsX12_become) := goodIn_sub (w_app (w_cons wl455 (w_cons wl454 (w_cons wl453 (w_cons wl194 w_nil)))) in_wsX12_become) (by decide +kernel)
set_option maxRecDepth 20000 in
theorem gL_law_X11_as : GoodIn lw_tbl (wsV RL 60 RX11 yX11_as wsX11_as) := goodIn_sub (w_app (w_cons wl461 (w_cons wl460 (w_cons wl459 (w_cons wl171 w_nil)))) in_wsX11_as) (by decide +kernel)
set_option maxRecDepth 20000 in
theorem gL_law_X12_as : GoodIn lw_tbl (wsV RL 63 RX12 yX12_as wsX12_as) := goodIn_sub (w_app (w_cons wl469 (w_cons wl468 (w_cons wl467 (w_cons wl194 w_nil)))) in_wsX12_as) (by decide +kernel)
set_option maxRecDepth 20000 in
theorem gL_law_X11_feed : GoodIn lw_tbl (wsV RL 66 RX11 yX11_feed wsX11_feed) := goodIn_sub (w_app (w_cons wl475 (w_cons wl474 (w_cons wl473 (w_cons wl171 w_nil)))) in_wsX11_feed) (by decide +kernel)
set_option maxRecDepth 20000 in
theorem gL_law_X12_feed : GoodIn lw_tbl (wsV RL 70 RX12 yX12_feed wsX12_feed) := goodIn_sub (w_app (w_cons wl481 (w_cons wl480 (w_cons wl479 (w_cons wl194 w_nil)))) in_wsX12_feed) (by decide +kernel)
set_option maxRecDepth 20000 in
theorem gL_law_X11_text : GoodIn lw_tbl (wsV RL 71 RX11 yX11_text wsX11_text) := goodIn_sub (w_app (w_cons wl642 (w_cons wl641 (w_cons wl640 (w_cons wl171 w_nil)))) in_wsX11_text) (by decide +kernel)
set_option maxRecDepth 20000 in
theorem gL_law_X12_text : GoodIn lw_tbl (wsV RL 74 RX12 yX12_text wsX12_text) := goodIn_sub (w_app (w_cons wl707 (w_cons wl706 (w_cons wl705 (w_cons wl194 w_nil)))) in_wsX12_text) (by decide +kernel)
set_option maxRecDepth 20000 in
theorem gL_law_X11_law : GoodIn lw_tbl (wsV RL 75 RX11 yX11_law wsX11_law) := goodIn_sub (w_app (w_cons wl712 (w_cons wl711 (w_cons wl710 (w_cons wl171 w_nil)))) in_wsX11_law) (by decide +kernel)
set_option maxRecDepth 20000 in
theorem gL_law_X12_law : GoodIn lw_tbl (wsV RL 79 RX12 yX12_law wsX12_law) := goodIn_sub (w_app (w_cons wl716 (w_cons wl715 (w_cons wl714 (w_cons wl194 w_nil)))) in_wsX12_law) (by decide +kernel)
set_option maxRecDepth 20000 in
theorem gL_law_X11_hours : GoodIn lw_tbl (wsV RL 80 RX11 yX11_hours wsX11_hours) := goodIn_sub (w_app (w_cons wl805 (w_cons wl804 (w_cons wl803 (w_cons wl171 w_nil)))) in_wsX11_hours) (by decide +kernel)
set_option maxRecDepth 20000 in
theorem gL_law_X12_hours : GoodIn lw_tbl (wsV RL 83 RX12 yX12_hours wsX12_hours) := goodIn_sub (w_app (w_cons wl842 (w_cons wl841 (w_cons wl840 (w_cons wl194 w_nil)))) in_wsX12_hours) (by decide +kernel)
set_option maxRecDepth 20000 in
theorem gL_law_X11_loose : GoodIn lw_tbl (wsV RL 84 RX11 yX11_loose wsX11_loose) := goodIn_sub (w_app (w_cons wl855 (w_cons wl854 (w_cons wl853 (w_cons wl171 w_nil)))) in_wsX11_loose) (by decide +kernel)
set_option maxRecDepth 20000 in
theorem gL_law_X12_loose : GoodIn lw_tbl (wsV RL 87 RX12 yX12_loose wsX12_loose) := goodIn_sub (w_app (w_cons wl865 (w_cons wl864 (w_cons wl863 (w_cons wl194 w_nil)))) in_wsX12_loose) (by decide +kernel)
set_option maxRecDepth 20000 in
theorem gL_law_X11_then : GoodIn lw_tbl (wsV RL 88 RX11 yX11_then wsX11_then) := goodIn_sub (w_app (w_cons wl877 (w_cons wl876 (w_cons wl875 (w_cons wl171 w_nil)))) in_wsX11_then) (by decide +kernel)
set_option maxRecDepth 20000 in
theorem gL_law_X12_then : GoodIn lw_tbl (wsV RL 91 RX12 yX12_then wsX12_then) := goodIn_sub (w_app (w_cons wl892 (w_cons wl891 (w_cons wl890 (w_cons wl194 w_nil)))) in_wsX12_then) (by decide +kernel)
set_option maxRecDepth 20000 in
theorem gL_law_X11_spreads : GoodIn lw_tbl (wsV RL 92 RX11 yX11_spreads wsX11_spreads) := goodIn_sub (w_app (w_cons wl897 (w_cons wl896 (w_cons wl895 (w_cons wl171 w_nil)))) in_wsX11_spreads) (by decide +kernel)
set_option maxRecDepth 20000 in
theorem gL_law_X12_spreads : GoodIn lw_tbl (wsV RL 95 RX12 yX12_spreads wsX12_spreads) := goodIn_sub (w_app (w_cons wl905 (w_cons wl904 (w_cons wl903 (w_cons wl194 w_nil)))) in_wsX12_spreads) (by decide +kernel)
set_option maxRecDepth 20000 in
theorem gL_law_X11_when : GoodIn lw_tbl (wsV RL 96 RX11 yX11_when wsX11_when) := goodIn_sub (w_app (w_cons wl914 (w_cons wl913 (w_cons wl912 (w_cons wl171 w_nil)))) in_wsX11_when) (by decide +kernel)
set_option maxRecDepth 20000 in
theorem gL_law_X12_when : GoodIn lw_tbl (wsV RL 99 RX12 yX12_when wsX12_when) := goodIn_sub (w_app (w_cons wl918 (w_cons wl917 (w_cons wl916 (w_cons wl194 w_nil)))) in_wsX12_when) (by decide +kernel)
set_option maxRecDepth 20000 in
theorem gL_law_X11_lasts : GoodIn lw_tbl (wsV RL 100 RX11 yX11_lasts wsX11_lasts) := goodIn_sub (w_app (w_cons wl922 (w_cons wl921 (w_cons wl920 (w_cons wl171 w_nil)))) in_wsX11_lasts) (by decide +kernel)
set_option maxRecDepth 20000 in
theorem gL_law_X12_lasts : GoodIn lw_tbl (wsV RL 103 RX12 yX12_lasts wsX12_lasts) := goodIn_sub (w_app (w_cons wl926 (w_cons wl925 (w_cons wl924 (w_cons wl194 w_nil)))) in_wsX12_lasts) (by decide +kernel)
set_option maxRecDepth 20000 in
theorem gL_law_X11_silverFor : GoodIn lw_tbl (wsV RL 104 RX11 yX11_silverFor wsX11_silverFor) := goodIn_sub (w_app (w_cons wl930 (w_cons wl929 (w_cons wl928 (w_cons wl171 w_nil)))) in_wsX11_silverFor) (by decide +kernel)
set_option maxRecDepth 20000 in
theorem gL_law_X12_silverFor : GoodIn lw_tbl (wsV RL 107 RX12 yX12_silverFor wsX12_silverFor) := goodIn_sub (w_app (w_cons wl934 (w_cons wl933 (w_cons wl932 (w_cons wl194 w_nil)))) in_wsX12_silverFor) (by decide +kernel)
set_option maxRecDepth 20000 in
theorem gL_law_X11_washFor : GoodIn lw_tbl (wsV RL 108 RX11 yX11_washFor wsX11_washFor) := goodIn_sub (w_app (w_cons wl938 (w_cons wl937 (w_cons wl936 (w_cons wl171 w_nil)))) in_wsX11_washFor) (by decide +kernel)
set_option maxRecDepth 20000 in
theorem gL_law_X12_washFor : GoodIn lw_tbl (wsV RL 111 RX12 yX12_washFor wsX12_washFor) := goodIn_sub (w_app (w_cons wl946 (w_cons wl945 (w_cons wl944 (w_cons wl194 w_nil)))) in_wsX12_washFor) (by decide +kernel)
set_option maxRecDepth 20000 in
theorem gL_law_X11_kindFor : GoodIn lw_tbl (wsV RL 112 RX11 yX11_kindFor wsX11_kindFor) := goodIn_sub (w_app (w_cons wl950 (w_cons wl949 (w_cons wl948 (w_cons wl171 w_nil)))) in_wsX11_kindFor) (by decide +kernel)
set_option maxRecDepth 20000 in
theorem gL_law_X12_kindFor : GoodIn lw_tbl (wsV RL 115 RX12 yX12_kindFor wsX12_kindFor) := goodIn_sub (w_app (w_cons wl954 (w_cons wl953 (w_cons wl952 (w_cons wl194 w_nil)))) in_wsX12_kindFor) (by decide +kernel)
set_option maxRecDepth 20000 in
theorem gL_law_X11_rubbed : GoodIn lw_tbl (wsV RL 116 RX11 yX11_rubbed wsX11_rubbed) := goodIn_sub (w_app (w_cons wl969 (w_cons wl968 (w_cons wl967 (w_cons wl171 w_nil)))) in_wsX11_rubbed) (by decide +kernel)
set_option maxRecDepth 20000 in
theorem gL_law_X12_rubbed : GoodIn lw_tbl (wsV RL 119 RX12 yX12_rubbed wsX12_rubbed) := goodIn_sub (w_app (w_cons wl980 (w_cons wl979 (w_cons wl978 (w_cons wl194 w_nil)))) in_wsX12_rubbed) (by decide +kernel)
set_option maxRecDepth 20000 in
theorem gL_law_X11_which : GoodIn lw_tbl (wsV RL 120 RX11 yX11_which wsX11_which) := goodIn_sub (w_app (w_cons wl984 (w_cons wl983 (w_cons wl982 (w_cons wl171 w_nil)))) in_wsX11_which) (by decide +kernel)
set_option maxRecDepth 20000 in
theorem gL_law_X12_which : GoodIn lw_tbl (wsV RL 123 RX12 yX12_which wsX12_which) := goodIn_sub (w_app (w_cons wl988 (w_cons wl987 (w_cons wl986 (w_cons wl194 w_nil)))) in_wsX12_which) (by decide +kernel)
set_option maxRecDepth 20000 in
theorem gL_law_X11_washers : GoodIn lw_tbl (wsV RL 124 RX11 yX11_washers wsX11_washers) := goodIn_sub (w_app (w_cons wl1001 (w_cons wl1000 (w_cons wl999 (w_cons wl171 w_nil)))) in_wsX11_washers) (by decide +kernel)
set_option maxRecDepth 20000 in
theorem gL_law_X12_washers : GoodIn lw_tbl (wsV RL 128 RX12 yX12_washers wsX12_washers) := goodIn_sub (w_app (w_cons wl1009 (w_cons wl1008 (w_cons wl1007 (w_cons wl194 w_nil)))) in_wsX12_washers) (by decide +kernel)
set_option maxRecDepth 20000 in
theorem gL_law_X11_telling : GoodIn lw_tbl (wsV RL 129 RX11 yX11_telling wsX11_telling) := goodIn_sub (w_app (w_cons wl1017 (w_cons wl1016 (w_cons wl1015 (w_cons wl171 w_nil)))) in_wsX11_telling) (by decide +kernel)
set_option maxRecDepth 20000 in
theorem gL_law_X12_telling : GoodIn lw_tbl (wsV RL 132 RX12 yX12_telling wsX12_telling) := goodIn_sub (w_app (w_cons wl1021 (w_cons wl1020 (w_cons wl1019 (w_cons wl194 w_nil)))) in_wsX12_telling) (by decide +kernel)
set_option maxRecDepth 20000 in
theorem gL_law_X11_gossip : GoodIn lw_tbl (wsV RL 133 RX11 yX11_gossip wsX11_gossip) := goodIn_sub (w_app (w_cons wl1029 (w_cons wl1028 (w_cons wl1027 (w_cons wl171 w_nil)))) in_wsX11_gossip) (by decide +kernel)
set_option maxRecDepth 20000 in
theorem gL_law_X12_gossip : GoodIn lw_tbl (wsV RL 136 RX12 yX12_gossip wsX12_gossip) := goodIn_sub (w_app (w_cons wl1033 (w_cons wl1032 (w_cons wl1031 (w_cons wl194 w_nil)))) in_wsX12_gossip) (by decide +kernel)
set_option maxRecDepth 20000 in
theorem gL_law_X11_much : GoodIn lw_tbl (wsV RL 137 RX11 yX11_much wsX11_much) := goodIn_sub (w_app (w_cons wl1038 (w_cons wl1037 (w_cons wl1036 (w_cons wl171 w_nil)))) in_wsX11_much) (by decide +kernel)
set_option maxRecDepth 20000 in
theorem gL_law_X12_much : GoodIn lw_tbl (wsV RL 140 RX12 yX12_much wsX12_much) := goodIn_sub (w_app (w_cons wl1042 (w_cons wl1041 (w_cons wl1040 (w_cons wl194 w_nil)))) in_wsX12_much) (by decide +kernel)
set_option maxRecDepth 20000 in
theorem gL_law_X11_odds : GoodIn lw_tbl (wsV RL 141 RX11 yX11_odds wsX11_odds) := goodIn_sub (w_app (w_cons wl1050 (w_cons wl1049 (w_cons wl1048 (w_cons wl171 w_nil)))) in_wsX11_odds) (by decide +kernel)
set_option maxRecDepth 20000 in
theorem gL_law_X12_odds : GoodIn lw_tbl (wsV RL 144 RX12 yX12_odds wsX12_odds) := goodIn_sub (w_app (w_cons wl1058 (w_cons wl1057 (w_cons wl1056 (w_cons wl194 w_nil)))) in_wsX12_odds) (by decide +kernel)
set_option maxRecDepth 20000 in
theorem gL_law_X11_seed : GoodIn lw_tbl (wsV RL 145 RX11 yX11_seed wsX11_seed) := goodIn_sub (w_app (w_cons wl1063 (w_cons wl1062 (w_cons wl1061 (w_cons wl171 w_nil)))) in_wsX11_seed) (by decide +kernel)
set_option maxRecDepth 20000 in
theorem gL_law_X12_seed : GoodIn lw_tbl (wsV RL 148 RX12 yX12_seed wsX12_seed) := goodIn_sub (w_app (w_cons wl1067 (w_cons wl1066 (w_cons wl1065 (w_cons wl194 w_nil)))) in_wsX12_seed) (by decide +kernel)
set_option maxRecDepth 20000 in
theorem gL_law_X11_voice : GoodIn lw_tbl (wsV RL 149 RX11 yX11_voice wsX11_voice) := goodIn_sub (w_app (w_cons wl1172 (w_cons wl1171 (w_cons wl1170 (w_cons wl171 w_nil)))) in_wsX11_voice) (by decide +kernel)
set_option maxRecDepth 20000 in
theorem gL_law_X12_voice : GoodIn lw_tbl (wsV RL 152 RX12 yX12_voice wsX12_voice) := goodIn_sub (w_app (w_cons wl1198 (w_cons wl1197 (w_cons wl1196 (w_cons wl194 w_nil)))) in_wsX12_voice) (by decide +kernel)
set_option maxRecDepth 20000 in
theorem gL_law_X11_trace : GoodIn lw_tbl (wsV RL 153 RX11 yX11_trace wsX11_trace) := goodIn_sub (w_app (w_cons wl1204 (w_cons wl1203 (w_cons wl1202 (w_cons wl171 w_nil)))) in_wsX11_trace) (by decide +kernel)
set_option maxRecDepth 20000 in
theorem gL_law_X12_trace : GoodIn lw_tbl (wsV RL 156 RX12 yX12_trace wsX12_trace) := goodIn_sub (w_app (w_cons wl1208 (w_cons wl1207 (w_cons wl1206 (w_cons wl194 w_nil)))) in_wsX12_trace) (by decide +kernel)
set_option maxRecDepth 20000 in
theorem gL_law_X11_sheet : GoodIn lw_tbl (wsV RL 157 RX11 yX11_sheet wsX11_sheet) := goodIn_sub (w_app (w_cons wl1219 (w_cons wl1218 (w_cons wl1217 (w_cons wl171 w_nil)))) in_wsX11_sheet) (by decide +kernel)
set_option maxRecDepth 20000 in
theorem gL_law_X12_sheet : GoodIn lw_tbl (wsV RL 160 RX12 yX12_sheet wsX12_sheet) := goodIn_sub (w_app (w_cons wl1223 (w_cons wl1222 (w_cons wl1221 (w_cons wl194 w_nil)))) in_wsX12_sheet) (by decide +kernel)
set_option maxRecDepth 20000 in
theorem gL_law_X11_put : GoodIn lw_tbl (wsV RL 161 RX11 yX11_put wsX11_put) := goodIn_sub (w_app (w_cons wl1235 (w_cons wl1234 (w_cons wl1233 (w_cons wl171 w_nil)))) in_wsX11_put) (by decide +kernel)
set_option maxRecDepth 20000 in
theorem gL_law_X12_put : GoodIn lw_tbl (wsV RL 164 RX12 yX12_put wsX12_put) := goodIn_sub (w_app (w_cons wl1239 (w_cons wl1238 (w_cons wl1237 (w_cons wl194 w_nil)))) in_wsX12_put) (by decide +kernel)
set_option maxRecDepth 20000 in
theorem gL_law_X11_move : GoodIn lw_tbl (wsV RL 165 RX11 yX11_move wsX11_move) := goodIn_sub (w_app (w_cons wl1244 (w_cons wl1243 (w_cons wl1242 (w_cons wl171 w_nil)))) in_wsX11_move) (by decide +kernel)
set_option maxRecDepth 20000 in
theorem gL_law_X12_move : GoodIn lw_tbl (wsV RL 169 RX12 yX12_move wsX12_move) := goodIn_sub (w_app (w_cons wl1248 (w_cons wl1247 (w_cons wl1246 (w_cons wl194 w_nil)))) in_wsX12_move) (by decide +kernel)
set_option maxRecDepth 20000 in
theorem gL_law_X11_weights : GoodIn lw_tbl (wsV RL 170 RX11 yX11_weights wsX11_weights) := goodIn_sub (w_app (w_cons wl1252 (w_cons wl1251 (w_cons wl1250 (w_cons wl171 w_nil)))) in_wsX11_weights) (by decide +kernel)
set_option maxRecDepth 20000 in
theorem gL_law_X12_weights : GoodIn lw_tbl (wsV RL 173 RX12 yX12_weights wsX12_weights) := goodIn_sub (w_app (w_cons wl1256 (w_cons wl1255 (w_cons wl1254 (w_cons wl194 w_nil)))) in_wsX12_weights) (by decide +kernel)
set_option maxRecDepth 20000 in
theorem gL_law_X11_judge : GoodIn lw_tbl (wsV RL 174 RX11 yX11_judge wsX11_judge) := goodIn_sub (w_app (w_cons wl1260 (w_cons wl1259 (w_cons wl1258 (w_cons wl171 w_nil)))) in_wsX11_judge) (by decide +kernel)
set_option maxRecDepth 20000 in
theorem gL_law_X12_judge : GoodIn lw_tbl (wsV RL 177 RX12 yX12_judge wsX12_judge) := goodIn_sub (w_app (w_cons wl1264 (w_cons wl1263 (w_cons wl1262 (w_cons wl194 w_nil)))) in_wsX12_judge) (by decide +kernel)
set_option maxRecDepth 20000 in
theorem gL_law_X11_image : GoodIn lw_tbl (wsV RL 178 RX11 yX11_image wsX11_image) := goodIn_sub (w_app (w_cons wl1276 (w_cons wl1275 (w_cons wl1274 (w_cons wl171 w_nil)))) in_wsX11_image) (by decide +kernel)
set_option maxRecDepth 20000 in
theorem gL_law_X12_image : GoodIn lw_tbl (wsV RL 181 RX12 yX12_image wsX12_image) := goodIn_sub (w_app (w_cons wl1281 (w_cons wl1280 (w_cons wl1279 (w_cons wl194 w_nil)))) in_wsX12_image) (by decide +kernel)
set_option maxRecDepth 20000 in
theorem gL_law_X11_restore : GoodIn lw_tbl (wsV RL 182 RX11 yX11_restore wsX11_restore) := goodIn_sub (w_app (w_cons wl1285 (w_cons wl1284 (w_cons wl1283 (w_cons wl171 w_nil)))) in_wsX11_restore) (by decide +kernel)
set_option maxRecDepth 20000 in
theorem gL_law_X12_restore : GoodIn lw_tbl (wsV RL 185 RX12 yX12_restore wsX12_restore) := goodIn_sub (w_app (w_cons wl1289 (w_cons wl1288 (w_cons wl1287 (w_cons wl194 w_nil)))) in_wsX12_restore) (by decide +kernel)
set_option maxRecDepth 20000 in
theorem gL_law_X11_tell : GoodIn lw_tbl (wsV RL 186 RX11 yX11_tell wsX11_tell) := goodIn_sub (w_app (w_cons wl1295 (w_cons wl1294 (w_cons wl1293 (w_cons wl171 w_nil)))) in_wsX11_tell) (by decide +kernel)
set_option maxRecDepth 20000 in
theorem gL_law_X12_tell : GoodIn lw_tbl (wsV RL 189 RX12 yX12_tell wsX12_tell) := goodIn_sub (w_app (w_cons wl1299 (w_cons wl1298 (w_cons wl1297 (w_cons wl194 w_nil)))) in_wsX12_tell) (by decide +kernel)
set_option maxRecDepth 20000 in
theorem gL_law_X11_check : GoodIn lw_tbl (wsV RL 190 RX11 yX11_check wsX11_check) := goodIn_sub (w_app (w_cons wl1303 (w_cons wl1302 (w_cons wl1301 (w_cons wl171 w_nil)))) in_wsX11_check) (by decide +kernel)
set_option maxRecDepth 20000 in
theorem gL_law_X12_check : GoodIn lw_tbl (wsV RL 193 RX12 yX12_check wsX12_check) := goodIn_sub (w_app (w_cons wl1307 (w_cons wl1306 (w_cons wl1305 (w_cons wl194 w_nil)))) in_wsX12_check) (by decide +kernel)
set_option maxRecDepth 20000 in
theorem gL_law_X11_count : GoodIn lw_tbl (wsV RL 194 RX11 yX11_count wsX11_count) := goodIn_sub (w_app (w_cons wl1315 (w_cons wl1314 (w_cons wl1313 (w_cons wl171 w_nil)))) in_wsX11_count) (by decide +kernel)
set_option maxRecDepth 20000 in
theorem gL_law_X12_count : GoodIn lw_tbl (wsV RL 197 RX12 yX12_count wsX12_count) := goodIn_sub (w_app (w_cons wl1327 (w_cons wl1326 (w_cons wl1325 (w_cons wl194 w_nil)))) in_wsX12_count) (by decide +kernel)
set_option maxRecDepth 20000 in
theorem gL_law_X11_told : GoodIn lw_tbl (wsV RL 198 RX11 yX11_told wsX11_told) := goodIn_sub (w_app (w_cons wl1331 (w_cons wl1330 (w_cons wl1329 (w_cons wl171 w_nil)))) in_wsX11_told) (by decide +kernel)
set_option maxRecDepth 20000 in
theorem gL_law_X12_told : GoodIn lw_tbl (wsV RL 201 RX12 yX12_told wsX12_told) := goodIn_sub (w_app (w_cons wl1335 (w_cons wl1334 (w_cons wl1333 (w_cons wl194 w_nil)))) in_wsX12_told) (by decide +kernel)
