set_option maxRecDepth 100000 in
theorem ke176 : bke (0, smT) ctb 185 sc176 24 1000000 nl176 = true := by decide +kernel
set_option maxRecDepth 100000 in
theorem kn176_0 : bkn (0, smT) ctb 185 sc176 1000000 nl176 nd176_0 = true := by decide +kernel
set_option maxRecDepth 100000 in
theorem kn176_1 : bkn (0, smT) ctb 185 sc176 1000000 nl176 nd176_1 = true := by decide +kernel
set_option maxRecDepth 100000 in
theorem kn176_2 : bkn (0, smT) ctb 185 sc176 1000000 nl176 nd176_2 = true := by decide +kernel
set_option maxRecDepth 100000 in
theorem kn176_3 : bkn (0, smT) ctb 185 sc176 1000000 nl176 nd176_3 = true := by decide +kernel
set_option maxRecDepth 100000 in
theorem kn176_4 : bkn (0, smT) ctb 185 sc176 1000000 nl176 nd176_4 = true := by decide +kernel
set_option maxRecDepth 100000 in
theorem kn176_5 : bkn (0, smT) ctb 185 sc176 1000000 nl176 nd176_5 = true := by decide +kernel
set_option maxRecDepth 100000 in
theorem kn176_6 : bkn (0, smT) ctb 185 sc176 1000000 nl176 nd176_6 = true := by decide +kernel
set_option maxRecDepth 100000 in
theorem kn176_7 : bkn (0, smT) ctb 185 sc176 1000000 nl176 nd176_7 = true := by decide +kernel
set_option maxRecDepth 100000 in
theorem kn176_8 : bkn (0, smT) ctb 185 sc176 1000000 nl176 nd176_8 = true := by decide +kernel
set_option maxRecDepth 100000 in
theorem kn176_9 : bkn (0, smT) ctb 185 sc176 1000000 nl176 nd176_9 = true := by decide +kernel
set_option maxRecDepth 100000 in
theorem kn176_10 : bkn (0, smT) ctb 185 sc176 1000000 nl176 nd176_10 = true := by decide +kernel
set_option maxRecDepth 100000 in
theorem kn176_11 : bkn (0, smT) ctb 185 sc176 1000000 nl176 nd176_11 = true := by decide +kernel
set_option maxRecDepth 100000 in
theorem kn176_12 : bkn (0, smT) ctb 185 sc176 1000000 nl176 nd176_12 = true := by decide +kernel
set_option maxRecDepth 100000 in
theorem kn176_13 : bkn (0, smT) ctb 185 sc176 1000000 nl176 nd176_13 = true := by decide +kernel
set_option maxRecDepth 100000 in
theorem kn176_14 : bkn (0, smT) ctb 185 sc176 1000000 nl176 nd176_14 = true := by decide +kernel
set_option maxRecDepth 100000 in
theorem kn176_15 : bkn (0, smT) ctb 185 sc176 1000000 nl176 nd176_15 = true := by decide +kernel
set_option maxRecDepth 100000 in
theorem kn176_16 : bkn (0, smT) ctb 185 sc176 1000000 nl176 nd176_16 = true := by decide +kernel
set_option maxRecDepth 100000 in
theorem kn176_17 : bkn (0, smT) ctb 185 sc176 1000000 nl176 nd176_17 = true := by decide +kernel
set_option maxRecDepth 100000 in
theorem kn176_18 : bkn (0, smT) ctb 185 sc176 1000000 nl176 nd176_18 = true := by decide +kernel
set_option maxRecDepth 100000 in
theorem kn176_19 : bkn (0, smT) ctb 185 sc176 1000000 nl176 nd176_19 = true := by decide +kernel
set_option maxRecDepth 100000 in
theorem kn176_20 : bkn (0, smT) ctb 185 sc176 1000000 nl176 nd176_20 = true := by decide +kernel
set_option maxRecDepth 100000 in
theorem kn176_21 : bkn (0, smT) ctb 185 sc176 1000000 nl176 nd176_21 = true := by decide +kernel
set_option maxRecDepth 100000 in
theorem kn176_22 : bkn (0, smT) ctb 185 sc176 1000000 nl176 nd176_22 = true := by decide +kernel
set_option maxRecDepth 100000 in
theorem ke177 : bke (0, smT) ctb 185 sc177 0 1000000 nl177 = true := by decide +kernel
set_option maxRecDepth 100000 in
theorem ke178 : bke (0, smT) ctb 185 sc178 0 1000000 nl178 = true := by decide +kernel
set_option maxRecDepth 100000 in
theorem ke179 : bke (0, smT) ctb 185 sc179 49 1000000 nl179 = true := by decide +kernel
set_option maxRecDepth 100000 in
theorem kn179_0 : bkn (0, smT) ctb 185 sc179 1000000 nl179 nd179_0 = true := by decide +kernel
set_option maxRecDepth 100000 in
theorem kn179_1 : bkn (0, smT) ctb 185 sc179 1000000 nl179 nd179_1 = true := by decide +kernel
set_option maxRecDepth 100000 in
theorem kn179_2 : bkn (0, smT) ctb 185 sc179 1000000 nl179 nd179_2 = true := by decide +kernel
set_option maxRecDepth 100000 in
theorem kn179_3 : bkn (0, smT) ctb 185 sc179 1000000 nl179 nd179_3 = true := by decide +kernel
set_option maxRecDepth 100000 in
theorem kn179_4 : bkn (0, smT) ctb 185 sc179 1000000 nl179 nd179_4 = true := by decide +kernel
set_option maxRecDepth 100000 in
theorem kn179_5 : bkn (0, smT) ctb 185 sc179 1000000 nl179 nd179_5 = true := by decide +kernel
set_option maxRecDepth 100000 in
theorem kn179_6 : bkn (0, smT) ctb 185 sc179 1000000 nl179 nd179_6 = true := by decide +kernel
set_option maxRecDepth 100000 in
theorem kn179_7 : bkn (0, smT) ctb 185 sc179 1000000 nl179 nd179_7 = true := by decide +kernel
set_option maxRecDepth 100000 in
theorem kn179_8 : bkn (0, smT) ctb 185 sc179 1000000 nl179 nd179_8 = true := by decide +kernel
set_option maxRecDepth 100000 in
theorem kn179_9 : bkn (0, smT) ctb 185 sc179 1000000 nl179 nd179_9 = true := by decide +kernel
set_option maxRecDepth 100000 in
theorem kn179_10 : bkn (0, smT) ctb 185 sc179 1000000 nl179 nd179_10 = true := by decide +kernel
set_option maxRecDepth 100000 in
theorem kn179_11 : bkn (0, smT) ctb 185 sc179 1000000 nl179 nd179_11 = true := by decide +kernel
set_option maxRecDepth 100000 in
theorem kn179_12 : bkn (0, smT) ctb 185 sc179 1000000 nl179 nd179_12 = true := by decide +kernel
set_option maxRecDepth 100000 in
theorem kn179_13 : bkn (0, smT) ctb 185 sc179 1000000 nl179 nd179_13 = true := by decide +kernel
set_option maxRecDepth 100000 in
theorem kn179_14 : bkn (0, smT) ctb 185 sc179 1000000 nl179 nd179_14 = true := by decide +kernel
set_option maxRecDepth 100000 in
theorem kn179_15 : bkn (0, smT) ctb 185 sc179 1000000 nl179 nd179_15 = true := by decide +kernel
set_option maxRecDepth 100000 in
theorem kn179_16 : bkn (0, smT) ctb 185 sc179 1000000 nl179 nd179_16 = true := by decide +kernel
set_option maxRecDepth 100000 in
theorem kn179_17 : bkn (0, smT) ctb 185 sc179 1000000 nl179 nd179_17 = true := by decide +kernel
set_option maxRecDepth 100000 in
theorem kn179_18 : bkn (0, smT) ctb 185 sc179 1000000 nl179 nd179_18 = true := by decide +kernel
set_option maxRecDepth 100000 in
theorem kn179_19 : bkn (0, smT) ctb 185 sc179 1000000 nl179 nd179_19 = true := by decide +kernel
set_option maxRecDepth 100000 in
theorem kn179_20 : bkn (0, smT) ctb 185 sc179 1000000 nl179 nd179_20 = true := by decide +kernel
set_option maxRecDepth 100000 in
theorem kn179_21 : bkn (0, smT) ctb 185 sc179 1000000 nl179 nd179_21 = true := by decide +kernel
set_option maxRecDepth 100000 in
theorem kn179_22 : bkn (0, smT) ctb 185 sc179 1000000 nl179 nd179_22 = true := by decide +kernel
set_option maxRecDepth 100000 in
theorem kn179_23 : bkn (0, smT) ctb 185 sc179 1000000 nl179 nd179_23 = true := by decide +kernel
set_option maxRecDepth 100000 in
theorem kn179_24 : bkn (0, smT) ctb 185 sc179 1000000 nl179 nd179_24 = true := by decide +kernel
set_option maxRecDepth 100000 in
theorem kn179_25 : bkn (0, smT) ctb 185 sc179 1000000 nl179 nd179_25 = true := by decide +kernel
set_option maxRecDepth 100000 in
theorem kn179_26 : bkn (0, smT) ctb 185 sc179 1000000 nl179 nd179_26 = true := by decide +kernel
set_option maxRecDepth 100000 in
theorem kn179_27 : bkn (0, smT) ctb 185 sc179 1000000 nl179 nd179_27 = true := by decide +kernel
set_option maxRecDepth 100000 in
theorem kn179_28 : bkn (0, smT) ctb 185 sc179 1000000 nl179 nd179_28 = true := by decide +kernel
set_option maxRecDepth 100000 in
theorem kn179_29 : bkn (0, smT) ctb 185 sc179 1000000 nl179 nd179_29 = true := by decide +kernel
set_option maxRecDepth 100000 in
theorem kn179_30 : bkn (0, smT) ctb 185 sc179 1000000 nl179 nd179_30 = true := by decide +kernel
set_option maxRecDepth 100000 in
theorem kn179_31 : bkn (0, smT) ctb 185 sc179 1000000 nl179 nd179_31 = true := by decide +kernel
set_option maxRecDepth 100000 in
theorem kn179_32 : bkn (0, smT) ctb 185 sc179 1000000 nl179 nd179_32 = true := by decide +kernel
set_option maxRecDepth 100000 in
theorem kn179_33 : bkn (0, smT) ctb 185 sc179 1000000 nl179 nd179_33 = true := by decide +kernel
set_option maxRecDepth 100000 in
theorem kn179_34 : bkn (0, smT) ctb 185 sc179 1000000 nl179 nd179_34 = true := by decide +kernel
set_option maxRecDepth 100000 in
theorem kn179_35 : bkn (0, smT) ctb 185 sc179 1000000 nl179 nd179_35 = true := by decide +kernel
set_option maxRecDepth 100000 in
theorem kn179_36 : bkn (0, smT) ctb 185 sc179 1000000 nl179 nd179_36 = true := by decide +kernel
set_option maxRecDepth 100000 in
theorem kn179_37 : bkn (0, smT) ctb 185 sc179 1000000 nl179 nd179_37 = true := by decide +kernel
set_option maxRecDepth 100000 in
theorem kn179_38 : bkn (0, smT) ctb 185 sc179 1000000 nl179 nd179_38 = true := by decide +kernel
set_option maxRecDepth 100000 in
theorem kn179_39 : bkn (0, smT) ctb 185 sc179 1000000 nl179 nd179_39 = true := by decide +kernel
set_option maxRecDepth 100000 in
theorem kn179_40 : bkn (0, smT) ctb 185 sc179 1000000 nl179 nd179_40 = true := by decide +kernel
set_option maxRecDepth 100000 in
theorem kn179_41 : bkn (0, smT) ctb 185 sc179 1000000 nl179 nd179_41 = true := by decide +kernel
set_option maxRecDepth 100000 in
theorem kn179_42 : bkn (0, smT) ctb 185 sc179 1000000 nl179 nd179_42 = true := by decide +kernel
set_option maxRecDepth 100000 in
theorem kn179_43 : bkn (0, smT) ctb 185 sc179 1000000 nl179 nd179_43 = true := by decide +kernel
set_option maxRecDepth 100000 in
theorem kn179_44 : bkn (0, smT) ctb 185 sc179 1000000 nl179 nd179_44 = true := by decide +kernel
set_option maxRecDepth 100000 in
theorem kn179_45 : bkn (0, smT) ctb 185 sc179 1000000 nl179 nd179_45 = true := by decide +kernel
set_option maxRecDepth 100000 in
theorem kn179_46 : bkn (0, smT) ctb 185 sc179 1000000 nl179 nd179_46 = true := by decide +kernel
set_option maxRecDepth 100000 in
theorem kn179_47 : bkn (0, smT) ctb 185 sc179 1000000 nl179 nd179_47 = true := by decide +kernel
set_option maxRecDepth 100000 in
theorem ke180 : bke (0, smT) ctb 185 sc180 0 1000000 nl180 = true := by decide +kernel
set_option maxRecDepth 100000 in
theorem ke181 : bke (0, smT) ctb 185 sc181 0 1000000 nl181 = true := by decide +kernel
set_option maxRecDepth 100000 in
theorem ke182 : bke (0, smT) ctb 185 sc182 0 1000000 nl182 = true := by decide +kernel
set_option maxRecDepth 100000 in
theorem ke183 : bke (0, smT) ctb 185 sc183 5 1000000 nl183 = true := by decide +kernel
set_option maxRecDepth 100000 in
theorem kn183_0 : bkn (0, smT) ctb 185 sc183 1000000 nl183 nd183_0 = true := by decide +kernel
set_option maxRecDepth 100000 in
theorem kn183_1 : bkn (0, smT) ctb 185 sc183 1000000 nl183 nd183_1 = true := by decide +kernel
set_option maxRecDepth 100000 in
theorem kn183_2 : bkn (0, smT) ctb 185 sc183 1000000 nl183 nd183_2 = true := by decide +kernel
set_option maxRecDepth 100000 in
theorem kn183_3 : bkn (0, smT) ctb 185 sc183 1000000 nl183 nd183_3 = true := by decide +kernel
set_option maxRecDepth 100000 in
theorem ke184 : bke (0, smT) ctb 185 sc184 0 1000000 nl184 = true := by decide +kernel
set_option maxRecDepth 100000 in
theorem ke185 : bke (0, smT) ctb 185 sc185 0 1000000 nl185 = true := by decide +kernel
set_option maxRecDepth 100000 in
theorem ke186 : bke (0, smT) ctb 185 sc186 0 1000000 nl186 = true := by decide +kernel
set_option maxRecDepth 100000 in
theorem ke187 : bke (0, smT) ctb 185 sc187 29 1000000 nl187 = true := by decide +kernel
set_option maxRecDepth 100000 in
theorem kn187_0 : bkn (0, smT) ctb 185 sc187 1000000 nl187 nd187_0 = true := by decide +kernel
set_option maxRecDepth 100000 in
theorem kn187_1 : bkn (0, smT) ctb 185 sc187 1000000 nl187 nd187_1 = true := by decide +kernel
set_option maxRecDepth 100000 in
theorem kn187_2 : bkn (0, smT) ctb 185 sc187 1000000 nl187 nd187_2 = true := by decide +kernel
set_option maxRecDepth 100000 in
theorem kn187_3 : bkn (0, smT) ctb 185 sc187 1000000 nl187 nd187_3 = true := by decide +kernel
set_option maxRecDepth 100000 in
theorem kn187_4 : bkn (0, smT) ctb 185 sc187 1000000 nl187 nd187_4 = true := by decide +kernel
set_option maxRecDepth 100000 in
theorem kn187_5 : bkn (0, smT) ctb 185 sc187 1000000 nl187 nd187_5 = true := by decide +kernel
set_option maxRecDepth 100000 in
theorem kn187_6 : bkn (0, smT) ctb 185 sc187 1000000 nl187 nd187_6 = true := by decide +kernel
set_option maxRecDepth 100000 in
theorem kn187_7 : bkn (0, smT) ctb 185 sc187 1000000 nl187 nd187_7 = true := by decide +kernel
set_option maxRecDepth 100000 in
theorem kn187_8 : bkn (0, smT) ctb 185 sc187 1000000 nl187 nd187_8 = true := by decide +kernel
set_option maxRecDepth 100000 in
theorem kn187_9 : bkn (0, smT) ctb 185 sc187 1000000 nl187 nd187_9 = true := by decide +kernel
set_option maxRecDepth 100000 in
theorem kn187_10 : bkn (0, smT) ctb 185 sc187 1000000 nl187 nd187_10 = true := by decide +kernel
set_option maxRecDepth 100000 in
theorem kn187_11 : bkn (0, smT) ctb 185 sc187 1000000 nl187 nd187_11 = true := by decide +kernel
set_option maxRecDepth 100000 in
theorem kn187_12 : bkn (0, smT) ctb 185 sc187 1000000 nl187 nd187_12 = true := by decide +kernel
set_option maxRecDepth 100000 in
theorem kn187_13 : bkn (0, smT) ctb 185 sc187 1000000 nl187 nd187_13 = true := by decide +kernel
set_option maxRecDepth 100000 in
theorem kn187_14 : bkn (0, smT) ctb 185 sc187 1000000 nl187 nd187_14 = true := by decide +kernel
set_option maxRecDepth 100000 in
theorem kn187_15 : bkn (0, smT) ctb 185 sc187 1000000 nl187 nd187_15 = true := by decide +kernel
set_option maxRecDepth 100000 in
theorem kn187_16 : bkn (0, smT) ctb 185 sc187 1000000 nl187 nd187_16 = true := by decide +kernel
set_option maxRecDepth 100000 in
theorem kn187_17 : bkn (0, smT) ctb 185 sc187 1000000 nl187 nd187_17 = true := by decide +kernel
set_option maxRecDepth 100000 in
theorem kn187_18 : bkn (0, smT) ctb 185 sc187 1000000 nl187 nd187_18 = true := by decide +kernel
set_option maxRecDepth 100000 in
theorem kn187_19 : bkn (0, smT) ctb 185 sc187 1000000 nl187 nd187_19 = true := by decide +kernel
set_option maxRecDepth 100000 in
theorem kn187_20 : bkn (0, smT) ctb 185 sc187 1000000 nl187 nd187_20 = true := by decide +kernel
set_option maxRecDepth 100000 in
theorem kn187_21 : bkn (0, smT) ctb 185 sc187 1000000 nl187 nd187_21 = true := by decide +kernel
set_option maxRecDepth 100000 in
theorem kn187_22 : bkn (0, smT) ctb 185 sc187 1000000 nl187 nd187_22 = true := by decide +kernel
set_option maxRecDepth 100000 in
theorem kn187_23 : bkn (0, smT) ctb 185 sc187 1000000 nl187 nd187_23 = true := by decide +kernel
set_option maxRecDepth 100000 in
theorem kn187_24 : bkn (0, smT) ctb 185 sc187 1000000 nl187 nd187_24 = true := by decide +kernel
set_option maxRecDepth 100000 in
theorem kn187_25 : bkn (0, smT) ctb 185 sc187 1000000 nl187 nd187_25 = true := by decide +kernel
set_option maxRecDepth 100000 in
theorem kn187_26 : bkn (0, smT) ctb 185 sc187 1000000 nl187 nd187_26 = true := by decide +kernel
set_option maxRecDepth 100000 in
theorem kn187_27 : bkn (0, smT) ctb 185 sc187 1000000 nl187 nd187_27 = true := by decide +kernel
set_option maxRecDepth 100000 in
theorem ke188 : bke (0, smT) ctb 185 sc188 0 1000000 nl188 = true := by decide +kernel
set_option maxRecDepth 100000 in
theorem ke189 : bke (0, smT) ctb 185 sc189 0 1000000 nl189 = true := by decide +kernel
set_option maxRecDepth 100000 in
theorem ke190 : bke (0, smT) ctb 185 sc190 0 1000000 nl190 = true := by decide +kernel
set_option maxRecDepth 100000 in
theorem ke191 : bke (0, smT) ctb 185 sc191 0 1000000 nl191 = true := by decide +kernel
set_option maxRecDepth 100000 in
theorem ke192 : bke (0, smT) ctb 185 sc192 6 1000000 nl192 = true := by decide +kernel
set_option maxRecDepth 100000 in
theorem kn192_0 : bkn (0, smT) ctb 185 sc192 1000000 nl192 nd192_0 = true := by decide +kernel
set_option maxRecDepth 100000 in
theorem kn192_1 : bkn (0, smT) ctb 185 sc192 1000000 nl192 nd192_1 = true := by decide +kernel
set_option maxRecDepth 100000 in
theorem kn192_2 : bkn (0, smT) ctb 185 sc192 1000000 nl192 nd192_2 = true := by decide +kernel
set_option maxRecDepth 100000 in
theorem kn192_3 : bkn (0, smT) ctb 185 sc192 1000000 nl192 nd192_3 = true := by decide +kernel
set_option maxRecDepth 100000 in
theorem kn192_4 : bkn (0, smT) ctb 185 sc192 1000000 nl192 nd192_4 = true := by decide +kernel
set_option maxRecDepth 100000 in
theorem ke193 : bke (0, smT) ctb 185 sc193 0 1000000 nl193 = true := by decide +kernel
set_option maxRecDepth 100000 in
theorem ke194 : bke (0, smT) ctb 185 sc194 0 1000000 nl194 = true := by decide +kernel
set_option maxRecDepth 100000 in
theorem ke195 : bke (0, smT) ctb 185 sc195 0 1000000 nl195 = true := by decide +kernel
set_option maxRecDepth 100000 in
theorem ke196 : bke (0, smT) ctb 185 sc196 0 1000000 nl196 = true := by decide +kernel
set_option maxRecDepth 100000 in
theorem ke197 : bke (0, smT) ctb 185 sc197 29 1000000 nl197 = true := by decide +kernel
set_option maxRecDepth 100000 in
theorem kn197_0 : bkn (0, smT) ctb 185 sc197 1000000 nl197 nd197_0 = true := by decide +kernel
set_option maxRecDepth 100000 in
theorem kn197_1 : bkn (0, smT) ctb 185 sc197 1000000 nl197 nd197_1 = true := by decide +kernel
set_option maxRecDepth 100000 in
theorem kn197_2 : bkn (0, smT) ctb 185 sc197 1000000 nl197 nd197_2 = true := by decide +kernel
set_option maxRecDepth 100000 in
theorem kn197_3 : bkn (0, smT) ctb 185 sc197 1000000 nl197 nd197_3 = true := by decide +kernel
set_option maxRecDepth 100000 in
theorem kn197_4 : bkn (0, smT) ctb 185 sc197 1000000 nl197 nd197_4 = true := by decide +kernel
set_option maxRecDepth 100000 in
theorem kn197_5 : bkn (0, smT) ctb 185 sc197 1000000 nl197 nd197_5 = true := by decide +kernel
set_option maxRecDepth 100000 in
theorem kn197_6 : bkn (0, smT) ctb 185 sc197 1000000 nl197 nd197_6 = true := by decide +kernel
set_option maxRecDepth 100000 in
theorem kn197_7 : bkn (0, smT) ctb 185 sc197 1000000 nl197 nd197_7 = true := by decide +kernel
set_option maxRecDepth 100000 in
theorem kn197_8 : bkn (0, smT) ctb 185 sc197 1000000 nl197 nd197_8 = true := by decide +kernel
set_option maxRecDepth 100000 in
theorem kn197_9 : bkn (0, smT) ctb 185 sc197 1000000 nl197 nd197_9 = true := by decide +kernel
set_option maxRecDepth 100000 in
theorem kn197_10 : bkn (0, smT) ctb 185 sc197 1000000 nl197 nd197_10 = true := by decide +kernel
set_option maxRecDepth 100000 in
theorem kn197_11 : bkn (0, smT) ctb 185 sc197 1000000 nl197 nd197_11 = true := by decide +kernel
set_option maxRecDepth 100000 in
theorem kn197_12 : bkn (0, smT) ctb 185 sc197 1000000 nl197 nd197_12 = true := by decide +kernel
set_option maxRecDepth 100000 in
theorem kn197_13 : bkn (0, smT) ctb 185 sc197 1000000 nl197 nd197_13 = true := by decide +kernel
set_option maxRecDepth 100000 in
theorem kn197_14 : bkn (0, smT) ctb 185 sc197 1000000 nl197 nd197_14 = true := by decide +kernel
set_option maxRecDepth 100000 in
theorem kn197_15 : bkn (0, smT) ctb 185 sc197 1000000 nl197 nd197_15 = true := by decide +kernel
set_option maxRecDepth 100000 in
theorem kn197_16 : bkn (0, smT) ctb 185 sc197 1000000 nl197 nd197_16 = true := by decide +kernel
set_option maxRecDepth 100000 in
theorem kn197_17 : bkn (0, smT) ctb 185 sc197 1000000 nl197 nd197_17 = true := by decide +kernel
set_option maxRecDepth 100000 in
theorem kn197_18 : bkn (0, smT) ctb 185 sc197 1000000 nl197 nd197_18 = true := by decide +kernel
set_option maxRecDepth 100000 in
theorem kn197_19 : bkn (0, smT) ctb 185 sc197 1000000 nl197 nd197_19 = true := by decide +kernel
set_option maxRecDepth 100000 in
theorem kn197_20 : bkn (0, smT) ctb 185 sc197 1000000 nl197 nd197_20 = true := by decide +kernel
set_option maxRecDepth 100000 in
theorem kn197_21 : bkn (0, smT) ctb 185 sc197 1000000 nl197 nd197_21 = true := by decide +kernel
set_option maxRecDepth 100000 in
theorem kn197_22 : bkn (0, smT) ctb 185 sc197 1000000 nl197 nd197_22 = true := by decide +kernel
set_option maxRecDepth 100000 in
theorem kn197_23 : bkn (0, smT) ctb 185 sc197 1000000 nl197 nd197_23 = true := by decide +kernel
set_option maxRecDepth 100000 in
theorem kn197_24 : bkn (0, smT) ctb 185 sc197 1000000 nl197 nd197_24 = true := by decide +kernel
set_option maxRecDepth 100000 in
theorem kn197_25 : bkn (0, smT) ctb 185 sc197 1000000 nl197 nd197_25 = true := by decide +kernel
set_option maxRecDepth 100000 in
theorem kn197_26 : bkn (0, smT) ctb 185 sc197 1000000 nl197 nd197_26 = true := by decide +kernel
set_option maxRecDepth 100000 in
theorem kn197_27 : bkn (0, smT) ctb 185 sc197 1000000 nl197 nd197_27 = true := by decide +kernel
set_option maxRecDepth 100000 in
theorem ke198 : bke (0, smT) ctb 185 sc198 0 1000000 nl198 = true := by decide +kernel
set_option maxRecDepth 100000 in
theorem ke199 : bke (0, smT) ctb 185 sc199 0 1000000 nl199 = true := by decide +kernel
set_option maxRecDepth 100000 in
theorem ke200 : bke (0, smT) ctb 185 sc200 0 1000000 nl200 = true := by decide +kernel
set_option maxRecDepth 100000 in
theorem ke201 : bke (0, smT) ctb 185 sc201 6 1000000 nl201 = true := by decide +kernel
set_option maxRecDepth 100000 in
theorem kn201_0 : bkn (0, smT) ctb 185 sc201 1000000 nl201 nd201_0 = true := by decide +kernel
set_option maxRecDepth 100000 in
theorem kn201_1 : bkn (0, smT) ctb 185 sc201 1000000 nl201 nd201_1 = true := by decide +kernel
set_option maxRecDepth 100000 in
theorem kn201_2 : bkn (0, smT) ctb 185 sc201 1000000 nl201 nd201_2 = true := by decide +kernel
set_option maxRecDepth 100000 in
theorem kn201_3 : bkn (0, smT) ctb 185 sc201 1000000 nl201 nd201_3 = true := by decide +kernel
set_option maxRecDepth 100000 in
theorem kn201_4 : bkn (0, smT) ctb 185 sc201 1000000 nl201 nd201_4 = true := by decide +kernel
set_option maxRecDepth 100000 in
theorem ke202 : bke (0, smT) ctb 185 sc202 0 1000000 nl202 = true := by decide +kernel
set_option maxRecDepth 100000 in
theorem ke203 : bke (0, smT) ctb 185 sc203 0 1000000 nl203 = true := by decide +kernel
set_option maxRecDepth 100000 in
theorem ke204 : bke (0, smT) ctb 185 sc204 6 1000000 nl204 = true := by decide +kernel
set_option maxRecDepth 100000 in
theorem kn204_0 : bkn (0, smT) ctb 185 sc204 1000000 nl204 nd204_0 = true := by decide +kernel
set_option maxRecDepth 100000 in
theorem kn204_1 : bkn (0, smT) ctb 185 sc204 1000000 nl204 nd204_1 = true := by decide +kernel
set_option maxRecDepth 100000 in
theorem kn204_2 : bkn (0, smT) ctb 185 sc204 1000000 nl204 nd204_2 = true := by decide +kernel
set_option maxRecDepth 100000 in
theorem kn204_3 : bkn (0, smT) ctb 185 sc204 1000000 nl204 nd204_3 = true := by decide +kernel
set_option maxRecDepth 100000 in
theorem kn204_4 : bkn (0, smT) ctb 185 sc204 1000000 nl204 nd204_4 = true := by decide +kernel
set_option maxRecDepth 100000 in
theorem ke205 : bke (0, smT) ctb 185 sc205 0 1000000 nl205 = true := by decide +kernel
set_option maxRecDepth 100000 in
theorem ke206 : bke (0, smT) ctb 185 sc206 0 1000000 nl206 = true := by decide +kernel
set_option maxRecDepth 100000 in
theorem ke207 : bke (0, smT) ctb 185 sc207 0 1000000 nl207 = true := by decide +kernel
set_option maxRecDepth 100000 in
theorem ke208 : bke (0, smT) ctb 185 sc208 0 1000000 nl208 = true := by decide +kernel
set_option maxRecDepth 100000 in
theorem ke209 : bke (0, smT) ctb 185 sc209 5 1000000 nl209 = true := by decide +kernel
set_option maxRecDepth 100000 in
theorem kn209_0 : bkn (0, smT) ctb 185 sc209 1000000 nl209 nd209_0 = true := by decide +kernel
set_option maxRecDepth 100000 in
theorem kn209_1 : bkn (0, smT) ctb 185 sc209 1000000 nl209 nd209_1 = true := by decide +kernel
set_option maxRecDepth 100000 in
theorem kn209_2 : bkn (0, smT) ctb 185 sc209 1000000 nl209 nd209_2 = true := by decide +kernel
set_option maxRecDepth 100000 in
theorem kn209_3 : bkn (0, smT) ctb 185 sc209 1000000 nl209 nd209_3 = true := by decide +kernel
set_option maxRecDepth 100000 in
theorem ke210 : bke (0, smT) ctb 185 sc210 0 1000000 nl210 = true := by decide +kernel
set_option maxRecDepth 100000 in
theorem ke211 : bke (0, smT) ctb 185 sc211 0 1000000 nl211 = true := by decide +kernel
set_option maxRecDepth 100000 in
theorem ke212 : bke (0, smT) ctb 185 sc212 0 1000000 nl212 = true := by decide +kernel
set_option maxRecDepth 100000 in
theorem ke213 : bke (0, smT) ctb 185 sc213 35 1000000 nl213 = true := by decide +kernel
set_option maxRecDepth 100000 in
theorem kn213_0 : bkn (0, smT) ctb 185 sc213 1000000 nl213 nd213_0 = true := by decide +kernel
set_option maxRecDepth 100000 in
theorem kn213_1 : bkn (0, smT) ctb 185 sc213 1000000 nl213 nd213_1 = true := by decide +kernel
set_option maxRecDepth 100000 in
theorem kn213_2 : bkn (0, smT) ctb 185 sc213 1000000 nl213 nd213_2 = true := by decide +kernel
set_option maxRecDepth 100000 in
theorem kn213_3 : bkn (0, smT) ctb 185 sc213 1000000 nl213 nd213_3 = true := by decide +kernel
set_option maxRecDepth 100000 in
theorem kn213_4 : bkn (0, smT) ctb 185 sc213 1000000 nl213 nd213_4 = true := by decide +kernel
set_option maxRecDepth 100000 in
theorem kn213_5 : bkn (0, smT) ctb 185 sc213 1000000 nl213 nd213_5 = true := by decide +kernel
set_option maxRecDepth 100000 in
theorem kn213_6 : bkn (0, smT) ctb 185 sc213 1000000 nl213 nd213_6 = true := by decide +kernel
set_option maxRecDepth 100000 in
theorem kn213_7 : bkn (0, smT) ctb 185 sc213 1000000 nl213 nd213_7 = true := by decide +kernel
set_option maxRecDepth 100000 in
theorem kn213_8 : bkn (0, smT) ctb 185 sc213 1000000 nl213 nd213_8 = true := by decide +kernel
set_option maxRecDepth 100000 in
theorem kn213_9 : bkn (0, smT) ctb 185 sc213 1000000 nl213 nd213_9 = true := by decide +kernel
set_option maxRecDepth 100000 in
theorem kn213_10 : bkn (0, smT) ctb 185 sc213 1000000 nl213 nd213_10 = true := by decide +kernel
set_option maxRecDepth 100000 in
theorem kn213_11 : bkn (0, smT) ctb 185 sc213 1000000 nl213 nd213_11 = true := by decide +kernel
set_option maxRecDepth 100000 in
theorem kn213_12 : bkn (0, smT) ctb 185 sc213 1000000 nl213 nd213_12 = true := by decide +kernel
set_option maxRecDepth 100000 in
theorem kn213_13 : bkn (0, smT) ctb 185 sc213 1000000 nl213 nd213_13 = true := by decide +kernel
set_option maxRecDepth 100000 in
theorem kn213_14 : bkn (0, smT) ctb 185 sc213 1000000 nl213 nd213_14 = true := by decide +kernel
set_option maxRecDepth 100000 in
theorem kn213_15 : bkn (0, smT) ctb 185 sc213 1000000 nl213 nd213_15 = true := by decide +kernel
set_option maxRecDepth 100000 in
theorem kn213_16 : bkn (0, smT) ctb 185 sc213 1000000 nl213 nd213_16 = true := by decide +kernel
set_option maxRecDepth 100000 in
theorem kn213_17 : bkn (0, smT) ctb 185 sc213 1000000 nl213 nd213_17 = true := by decide +kernel
set_option maxRecDepth 100000 in
theorem kn213_18 : bkn (0, smT) ctb 185 sc213 1000000 nl213 nd213_18 = true := by decide +kernel
set_option maxRecDepth 100000 in
theorem kn213_19 : bkn (0, smT) ctb 185 sc213 1000000 nl213 nd213_19 = true := by decide +kernel
set_option maxRecDepth 100000 in
theorem kn213_20 : bkn (0, smT) ctb 185 sc213 1000000 nl213 nd213_20 = true := by decide +kernel
set_option maxRecDepth 100000 in
theorem kn213_21 : bkn (0, smT) ctb 185 sc213 1000000 nl213 nd213_21 = true := by decide +kernel
set_option maxRecDepth 100000 in
theorem kn213_22 : bkn (0, smT) ctb 185 sc213 1000000 nl213 nd213_22 = true := by decide +kernel
set_option maxRecDepth 100000 in
theorem kn213_23 : bkn (0, smT) ctb 185 sc213 1000000 nl213 nd213_23 = true := by decide +kernel
set_option maxRecDepth 100000 in
theorem kn213_24 : bkn (0, smT) ctb 185 sc213 1000000 nl213 nd213_24 = true := by decide +kernel
set_option maxRecDepth 100000 in
theorem kn213_25 : bkn (0, smT) ctb 185 sc213 1000000 nl213 nd213_25 = true := by decide +kernel
set_option maxRecDepth 100000 in
theorem kn213_26 : bkn (0, smT) ctb 185 sc213 1000000 nl213 nd213_26 = true := by decide +kernel
set_option maxRecDepth 100000 in
theorem kn213_27 : bkn (0, smT) ctb 185 sc213 1000000 nl213 nd213_27 = true := by decide +kernel
set_option maxRecDepth 100000 in
theorem kn213_28 : bkn (0, smT) ctb 185 sc213 1000000 nl213 nd213_28 = true := by decide +kernel
set_option maxRecDepth 100000 in
theorem kn213_29 : bkn (0, smT) ctb 185 sc213 1000000 nl213 nd213_29 = true := by decide +kernel
set_option maxRecDepth 100000 in
theorem kn213_30 : bkn (0, smT) ctb 185 sc213 1000000 nl213 nd213_30 = true := by decide +kernel
set_option maxRecDepth 100000 in
theorem kn213_31 : bkn (0, smT) ctb 185 sc213 1000000 nl213 nd213_31 = true := by decide +kernel
set_option maxRecDepth 100000 in
theorem kn213_32 : bkn (0, smT) ctb 185 sc213 1000000 nl213 nd213_32 = true := by decide +kernel
set_option maxRecDepth 100000 in
theorem kn213_33 : bkn (0, smT) ctb 185 sc213 1000000 nl213 nd213_33 = true := by decide +kernel
set_option maxRecDepth 100000 in
theorem ke214 : bke (0, smT) ctb 185 sc214 0 1000000 nl214 = true := by decide +kernel
set_option maxRecDepth 100000 in
theorem ke215 : bke (1, smT) ctb 186 sc215 402 1000000 nl215 = true := by decide +kernel
set_option maxRecDepth 100000 in
theorem kn215_0 : bkn (1, smT) ctb 186 sc215 1000000 nl215 nd215_0 = true := by decide +kernel
set_option maxRecDepth 100000 in
theorem ke216 : bke (4, smT) ctb 190 sc216 102 1000000 nl216 = true := by decide +kernel
set_option maxRecDepth 100000 in
theorem kn216_0 : bkn (4, smT) ctb 190 sc216 1000000 nl216 nd216_0 = true := by decide +kernel
