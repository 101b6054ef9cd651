/-! THE EXCEPTIONS that Countfall throws: their words (laid by wip/whole/tools, from the specs there) -/
abbrev jNm : List String := ["java/lang/RuntimeException", "java/lang/Exception"]
abbrev jB13 : ByteArray := prog_26_method_4_code
theorem jB13_0 : decode jB13 0 = .ok (.aload_n 0, 1) := by decide +kernel
theorem jB13_1 : decode jB13 1 = .ok (.aload_n 1, 1) := by decide +kernel
theorem jB13_2 : decode jB13 2 = .ok (.invokespecial 13, 3) := by decide +kernel
theorem jB13_5 : decode jB13 5 = .ok (.return_, 1) := by decide +kernel
set_option maxRecDepth 20000 in
theorem vxg_85 : ∀ w ∈ (vx_atS RX11 85 "java/lang/IllegalStateException" jNm).filter goodWord, w ∈ lw_good := jg_list _ [66, 487, 496, 502, 505, 507, 488, 489, 86, 87, 490, 495, 503, 523, 477, 524, 479, 525, 481, 491, 493, 483, 519, 520, 522, 483, 510, 511, 512, 513, 513, 514, 515, 516, 516, 517, 518, 519, 509, 466, 474, 475, 476, 478, 480, 482, 486, 485, 484] (by decide +kernel) (by decide +kernel)
set_option maxRecDepth 20000 in
theorem vxn_85 : ∀ w ∈ (vx_atS RX11 85 "java/lang/IllegalStateException" jNm).filter (fun w => !goodWord w), w ∈ Cond.castable "java/lang/IllegalStateException" "java/lang/IllegalStateException" :: jSup.map (fun Y => Cond.declares (Bundle.initS Y)) := by decide +kernel
set_option maxRecDepth 20000 in
theorem vxh_85 : ∀ w ∈ Cond.classLink RX11 81 "java/lang/IllegalStateException" :: Cond.initialized "java/lang/IllegalStateException" :: vx_atS RX11 85 "java/lang/IllegalStateException" jNm, vx_ot w = true := by decide +kernel
set_option maxRecDepth 20000 in
theorem vxg_315 : ∀ w ∈ (vx_atS RX11 315 "java/lang/IndexOutOfBoundsException" jNm).filter goodWord, w ∈ lw_good := jg_list _ [66, 487, 496, 502, 505, 507, 488, 489, 86, 87, 490, 495, 503, 523, 477, 524, 479, 525, 481, 491, 493, 483, 519, 520, 522, 483, 565, 566, 567, 513, 513, 514, 515, 516, 516, 517, 518, 519, 564, 555, 557, 499, 558, 559, 560, 561, 486, 485, 562] (by decide +kernel) (by decide +kernel)
set_option maxRecDepth 20000 in
theorem vxn_315 : ∀ w ∈ (vx_atS RX11 315 "java/lang/IndexOutOfBoundsException" jNm).filter (fun w => !goodWord w), w ∈ Cond.castable "java/lang/IndexOutOfBoundsException" "java/lang/IndexOutOfBoundsException" :: jSup.map (fun Y => Cond.declares (Bundle.initS Y)) := by decide +kernel
set_option maxRecDepth 20000 in
theorem vxh_315 : ∀ w ∈ Cond.classLink RX11 311 "java/lang/IndexOutOfBoundsException" :: Cond.initialized "java/lang/IndexOutOfBoundsException" :: vx_atS RX11 315 "java/lang/IndexOutOfBoundsException" jNm, vx_ot w = true := by decide +kernel
set_option maxRecDepth 20000 in
theorem vxg_105 : ∀ w ∈ (vx_atS RX11 105 "java/lang/IllegalArgumentException" jNm).filter goodWord, w ∈ lw_good := jg_list _ [66, 487, 496, 502, 505, 507, 488, 489, 86, 87, 490, 495, 503, 523, 477, 524, 479, 525, 481, 491, 493, 483, 519, 520, 522, 483, 581, 582, 583, 513, 513, 514, 515, 516, 516, 517, 518, 519, 580, 571, 573, 498, 574, 575, 576, 577, 486, 485, 578] (by decide +kernel) (by decide +kernel)
set_option maxRecDepth 20000 in
theorem vxn_105 : ∀ w ∈ (vx_atS RX11 105 "java/lang/IllegalArgumentException" jNm).filter (fun w => !goodWord w), w ∈ Cond.castable "java/lang/IllegalArgumentException" "java/lang/IllegalArgumentException" :: jSup.map (fun Y => Cond.declares (Bundle.initS Y)) := by decide +kernel
set_option maxRecDepth 20000 in
theorem vxh_105 : ∀ w ∈ Cond.classLink RX11 101 "java/lang/IllegalArgumentException" :: Cond.initialized "java/lang/IllegalArgumentException" :: vx_atS RX11 105 "java/lang/IllegalArgumentException" jNm, vx_ot w = true := by decide +kernel
set_option maxRecDepth 20000 in
theorem vxg_242 : ∀ w ∈ (jAt0 RX11 242 "java/util/NoSuchElementException" "java/lang/RuntimeException" 13 jB13 ["java/lang/Exception"]).filter goodWord, w ∈ lw_good := jg_list _ [66, 487, 496, 502, 505, 507, 488, 489, 86, 87, 490, 495, 503, 523, 477, 524, 479, 525, 481, 491, 493, 483, 519, 520, 522, 483, 774, 775, 776, 513, 513, 514, 515, 516, 516, 517, 518, 519, 773, 764, 766, 501, 767, 768, 769, 770, 486, 485, 771] (by decide +kernel) (by decide +kernel)
set_option maxRecDepth 20000 in
theorem vxn_242 : ∀ w ∈ (jAt0 RX11 242 "java/util/NoSuchElementException" "java/lang/RuntimeException" 13 jB13 ["java/lang/Exception"]).filter (fun w => !goodWord w), w ∈ Cond.castable "java/util/NoSuchElementException" "java/util/NoSuchElementException" :: jSup.map (fun Y => Cond.declares (Bundle.initS Y)) := by decide +kernel
set_option maxRecDepth 20000 in
theorem vxh_242 : ∀ w ∈ Cond.classLink RX11 238 "java/util/NoSuchElementException" :: Cond.initialized "java/util/NoSuchElementException" :: jAt0 RX11 242 "java/util/NoSuchElementException" "java/lang/RuntimeException" 13 jB13 ["java/lang/Exception"], vx_ot w = true := by decide +kernel
set_option maxRecDepth 20000 in
theorem vxg_346 : ∀ w ∈ (vx_atS RX11 346 "java/lang/UnsupportedOperationException" jNm).filter goodWord, w ∈ lw_good := jg_list _ [66, 487, 496, 502, 505, 507, 488, 489, 86, 87, 490, 495, 503, 523, 477, 524, 479, 525, 481, 491, 493, 483, 519, 520, 522, 483, 954, 955, 956, 513, 513, 514, 515, 516, 516, 517, 518, 519, 953, 944, 946, 500, 947, 948, 949, 950, 486, 485, 951] (by decide +kernel) (by decide +kernel)
set_option maxRecDepth 20000 in
theorem vxn_346 : ∀ w ∈ (vx_atS RX11 346 "java/lang/UnsupportedOperationException" jNm).filter (fun w => !goodWord w), w ∈ Cond.castable "java/lang/UnsupportedOperationException" "java/lang/UnsupportedOperationException" :: jSup.map (fun Y => Cond.declares (Bundle.initS Y)) := by decide +kernel
set_option maxRecDepth 20000 in
theorem vxh_346 : ∀ w ∈ Cond.classLink RX11 342 "java/lang/UnsupportedOperationException" :: Cond.initialized "java/lang/UnsupportedOperationException" :: vx_atS RX11 346 "java/lang/UnsupportedOperationException" jNm, vx_ot w = true := by decide +kernel
theorem jfit_n : ∀ n ∈ jNm, Bundle.fit n = true := by decide +kernel
theorem jfit_85 : Bundle.fit "java/lang/IllegalStateException" = true := by decide +kernel
theorem jfit_315 : Bundle.fit "java/lang/IndexOutOfBoundsException" = true := by decide +kernel
theorem jfit_105 : Bundle.fit "java/lang/IllegalArgumentException" = true := by decide +kernel
theorem jfit_242 : Bundle.fit "java/util/NoSuchElementException" = true := by decide +kernel
theorem jfit_346 : Bundle.fit "java/lang/UnsupportedOperationException" = true := by decide +kernel
