theorem wtk_X12_laysDue : Cond.code yX12_laysDue cX12_laysDue 2 none ∈ TB := tk_X12_laysDue
theorem wgc_X12_laysDue : GoodIn TB (cw yX12_laysDue cX12_laysDue 2 none) := goodIn_c2 wtk_X12_laysDue
theorem wtb_428 : Cond.methodLink "ToneLinesModel" 303 yX12_laysDue ∈ TB := tb_644
theorem wtb_429 : Cond.instanceMethod yX12_laysDue ∈ TB := tb_645
theorem wtb_430 : Cond.selects "ToneLinesModel" yX12_laysDue yX12_laysDue ∈ TB := tb_646
theorem wgv_X12_303 : GoodIn TB (wsV RX12 303 RX12 yX12_laysDue (cw yX12_laysDue cX12_laysDue 2 none)) := goodIn_4 wtb_428 wtb_429 wtb_430 wtb_105 wgc_X12_laysDue
theorem whv_X12_laysDue : yX12_laysDue.cls = RX12 ∧ yX12_laysDue.cls ≠ "java/lang/invoke/MethodHandle" ∧ yX12_laysDue.cls ≠ "java/lang/invoke/VarHandle" ∧ (parseMethodDescriptor yX12_laysDue.desc).map (fun d => d.parameters.length) = some 0 := hv_X12_laysDue
theorem wtk_X12_isDue : Cond.code yX12_isDue cX12_isDue 2 (some .boolean) ∈ TB := tk_X12_isDue
theorem wgc_X12_isDue : GoodIn TB (cw yX12_isDue cX12_isDue 2 (some .boolean)) := goodIn_c2 wtk_X12_isDue
theorem wtb_431 : Cond.methodLink "ToneLinesModel" 306 yX12_isDue ∈ TB := tb_647
theorem wtb_432 : Cond.instanceMethod yX12_isDue ∈ TB := tb_648
theorem wtb_433 : Cond.selects "ToneLinesModel" yX12_isDue yX12_isDue ∈ TB := tb_649
theorem wgv_X12_306 : GoodIn TB (wsV RX12 306 RX12 yX12_isDue (cw yX12_isDue cX12_isDue 2 (some .boolean))) := goodIn_4 wtb_431 wtb_432 wtb_433 wtb_105 wgc_X12_isDue
theorem whv_X12_isDue : yX12_isDue.cls = RX12 ∧ yX12_isDue.cls ≠ "java/lang/invoke/MethodHandle" ∧ yX12_isDue.cls ≠ "java/lang/invoke/VarHandle" ∧ (parseMethodDescriptor yX12_isDue.desc).map (fun d => d.parameters.length) = some 0 := hv_X12_isDue
