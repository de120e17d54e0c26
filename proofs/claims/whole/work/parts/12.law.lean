-- the law
set_option maxRecDepth 100000 in
set_option maxHeartbeats 4000000 in
def F_L_law (n : Nat) (M : AM) (a0 : Nat) : Option (Int32 × AM) :=
  (nOb 11 M).bind fun M1 => (F_X11_init n M1 (mK M).length).bind fun M3 => (nOb 12 M3).bind fun M4 => (F_X12_init n M4 (mK M3).length).bind fun M6 => (iter (fun (s7 : Int32 × AM) => (aln s7.2 a0).bind fun v8 => if (v8 - (7 : Int32)) < s7.1 then some (.inr (.inl s7.2)) else (rdI s7.2 a0 s7.1).bind fun v10 => jn (fun (M11 : AM) => some (.inl ((s7.1 + (7 : Int32)), M11))) fun j12 => if (v10 &&& (63 : Int32)) = (0 : Int32) then (rdI s7.2 a0 (s7.1 + (1 : Int32))).bind fun v14 => (rdI s7.2 a0 (s7.1 + (2 : Int32))).bind fun v15 => (rdI s7.2 a0 (s7.1 + (3 : Int32))).bind fun v16 => (rdI s7.2 a0 (s7.1 + (4 : Int32))).bind fun v17 => (rdI s7.2 a0 (s7.1 + (5 : Int32))).bind fun v18 => (rcv 11 s7.2 (mK M).length (F_X11_feed n s7.2 (mK M).length v14 v15 v16 v17 v18)).bind fun v19 => (rdI v19.2 a0 (s7.1 + (1 : Int32))).bind fun v20 => (rdI v19.2 a0 (s7.1 + (2 : Int32))).bind fun v21 => (rdI v19.2 a0 (s7.1 + (3 : Int32))).bind fun v22 => (rdI v19.2 a0 (s7.1 + (4 : Int32))).bind fun v23 => (rdI v19.2 a0 (s7.1 + (5 : Int32))).bind fun v24 => (rcv 12 v19.2 (mK M3).length (F_X12_feed n v19.2 (mK M3).length v20 v21 v22 v23 v24)).bind fun v25 => if v19.1 = v25.1 then j12 v25.2 else some (.inr (.inr ((0 : Int32), v25.2))) else if (v10 &&& (63 : Int32)) = (1 : Int32) then (rdI s7.2 a0 (s7.1 + (1 : Int32))).bind fun v28 => (rcv 11 s7.2 (mK M).length (F_X11_back n s7.2 (mK M).length v28)).bind fun v29 => (rdI v29.2 a0 (s7.1 + (1 : Int32))).bind fun v30 => (rcv 12 v29.2 (mK M3).length (F_X12_back n v29.2 (mK M3).length v30)).bind fun v31 => if v29.1 = v31.1 then j12 v31.2 else some (.inr (.inr ((0 : Int32), v31.2))) else if (v10 &&& (63 : Int32)) = (2 : Int32) then (rcv 11 s7.2 (mK M).length (F_X11_read n s7.2 (mK M).length)).bind fun v34 => (rcv 12 v34.2 (mK M3).length (F_X12_read n v34.2 (mK M3).length)).bind fun v35 => if v34.1 = v35.1 then j12 v35.2 else some (.inr (.inr ((0 : Int32), v35.2))) else if (v10 &&& (63 : Int32)) = (3 : Int32) then (rcv 11 s7.2 (mK M).length (F_X11_place n s7.2 (mK M).length)).bind fun v38 => (rcv 12 s7.2 (mK M3).length (F_X12_place n s7.2 (mK M3).length)).bind fun v39 => if v38 = v39 then j12 s7.2 else some (.inr (.inr ((0 : Int32), s7.2))) else if (v10 &&& (63 : Int32)) = (4 : Int32) then (rdI s7.2 a0 (s7.1 + (1 : Int32))).bind fun v42 => (rdI s7.2 a0 (s7.1 + (2 : Int32))).bind fun v43 => (rcv 11 s7.2 (mK M).length (F_X11_age n s7.2 (mK M).length v42 v43)).bind fun v44 => (rdI s7.2 a0 (s7.1 + (1 : Int32))).bind fun v45 => (rdI s7.2 a0 (s7.1 + (2 : Int32))).bind fun v46 => (rcv 12 s7.2 (mK M3).length (F_X12_age n s7.2 (mK M3).length v45 v46)).bind fun v47 => if v44 = v47 then j12 s7.2 else some (.inr (.inr ((0 : Int32), s7.2))) else if (v10 &&& (63 : Int32)) = (5 : Int32) then (rdI s7.2 a0 (s7.1 + (1 : Int32))).bind fun v50 => (rdI s7.2 a0 (s7.1 + (2 : Int32))).bind fun v51 => (rcv 11 s7.2 (mK M).length (F_X11_where n s7.2 (mK M).length v50 v51)).bind fun v52 => (rdI s7.2 a0 (s7.1 + (1 : Int32))).bind fun v53 => (rdI s7.2 a0 (s7.1 + (2 : Int32))).bind fun v54 => (rcv 12 s7.2 (mK M3).length (F_X12_where n s7.2 (mK M3).length v53 v54)).bind fun v55 => if v52 = v55 then j12 s7.2 else some (.inr (.inr ((0 : Int32), s7.2))) else if (v10 &&& (63 : Int32)) = (6 : Int32) then (rdI s7.2 a0 (s7.1 + (1 : Int32))).bind fun v58 => (rdI s7.2 a0 (s7.1 + (2 : Int32))).bind fun v59 => (rcv 11 s7.2 (mK M).length (F_X11_earshot n s7.2 (mK M).length v58 v59)).bind fun v60 => (rdI s7.2 a0 (s7.1 + (1 : Int32))).bind fun v61 => (rdI s7.2 a0 (s7.1 + (2 : Int32))).bind fun v62 => (rcv 12 s7.2 (mK M3).length (F_X12_earshot n s7.2 (mK M3).length v61 v62)).bind fun v63 => if v60 = v63 then j12 s7.2 else some (.inr (.inr ((0 : Int32), s7.2))) else if (v10 &&& (63 : Int32)) = (7 : Int32) then (rdI s7.2 a0 (s7.1 + (1 : Int32))).bind fun v66 => (rdI s7.2 a0 (s7.1 + (2 : Int32))).bind fun v67 => (rdI s7.2 a0 (s7.1 + (3 : Int32))).bind fun v68 => (rdI s7.2 a0 (s7.1 + (4 : Int32))).bind fun v69 => jn (fun (u70 : Int32) => (rcv 11 s7.2 (mK M).length (F_X11_may n s7.2 (mK M).length v66 v67 v68 u70)).bind fun v71 => (rdI v71.2 a0 (s7.1 + (1 : Int32))).bind fun v72 => (rdI v71.2 a0 (s7.1 + (2 : Int32))).bind fun v73 => (rdI v71.2 a0 (s7.1 + (3 : Int32))).bind fun v74 => (rdI v71.2 a0 (s7.1 + (4 : Int32))).bind fun v75 => jn (fun (u76 : Int32) => (rcv 12 v71.2 (mK M3).length (F_X12_may n v71.2 (mK M3).length v72 v73 v74 u76)).bind fun v77 => if v71.1 = v77.1 then j12 v77.2 else some (.inr (.inr ((0 : Int32), v77.2)))) fun j79 => if v75 = 0 then j79 (0 : Int32) else j79 (1 : Int32)) fun j81 => if v69 = 0 then j81 (0 : Int32) else j81 (1 : Int32) else if (v10 &&& (63 : Int32)) = (8 : Int32) then (rdI s7.2 a0 (s7.1 + (1 : Int32))).bind fun v84 => (rdI s7.2 a0 (s7.1 + (2 : Int32))).bind fun v85 => (rdI s7.2 a0 (s7.1 + (3 : Int32))).bind fun v86 => (rdI s7.2 a0 (s7.1 + (4 : Int32))).bind fun v87 => (rcv 11 s7.2 (mK M).length (F_X11_say n s7.2 (mK M).length v84 v85 v86 v87)).bind fun v88 => (rdI v88.2 a0 (s7.1 + (1 : Int32))).bind fun v89 => (rdI v88.2 a0 (s7.1 + (2 : Int32))).bind fun v90 => (rdI v88.2 a0 (s7.1 + (3 : Int32))).bind fun v91 => (rdI v88.2 a0 (s7.1 + (4 : Int32))).bind fun v92 => (rcv 12 v88.2 (mK M3).length (F_X12_say n v88.2 (mK M3).length v89 v90 v91 v92)).bind fun v93 => if v88.1 = v93.1 then j12 v93.2 else some (.inr (.inr ((0 : Int32), v93.2))) else if (v10 &&& (63 : Int32)) = (9 : Int32) then (rdI s7.2 a0 (s7.1 + (1 : Int32))).bind fun v96 => (rdI s7.2 a0 (s7.1 + (2 : Int32))).bind fun v97 => (rdI s7.2 a0 (s7.1 + (3 : Int32))).bind fun v98 => (rcv 11 s7.2 (mK M).length (F_X11_show n s7.2 (mK M).length v96 v97 v98)).bind fun v99 => (rdI v99.2 a0 (s7.1 + (1 : Int32))).bind fun v100 => (rdI v99.2 a0 (s7.1 + (2 : Int32))).bind fun v101 => (rdI v99.2 a0 (s7.1 + (3 : Int32))).bind fun v102 => (rcv 12 v99.2 (mK M3).length (F_X12_show n v99.2 (mK M3).length v100 v101 v102)).bind fun v103 => if v99.1 = v103.1 then j12 v103.2 else some (.inr (.inr ((0 : Int32), v103.2))) else if (v10 &&& (63 : Int32)) = (10 : Int32) then (rdI s7.2 a0 (s7.1 + (1 : Int32))).bind fun v106 => (rdI s7.2 a0 (s7.1 + (2 : Int32))).bind fun v107 => (rdI s7.2 a0 (s7.1 + (3 : Int32))).bind fun v108 => (rcv 11 s7.2 (mK M).length (F_X11_leave n s7.2 (mK M).length v106 v107 v108)).bind fun v109 => (rdI v109.2 a0 (s7.1 + (1 : Int32))).bind fun v110 => (rdI v109.2 a0 (s7.1 + (2 : Int32))).bind fun v111 => (rdI v109.2 a0 (s7.1 + (3 : Int32))).bind fun v112 => (rcv 12 v109.2 (mK M3).length (F_X12_leave n v109.2 (mK M3).length v110 v111 v112)).bind fun v113 => if v109.1 = v113.1 then j12 v113.2 else some (.inr (.inr ((0 : Int32), v113.2))) else if (v10 &&& (63 : Int32)) = (11 : Int32) then (rdI s7.2 a0 (s7.1 + (1 : Int32))).bind fun v116 => (rdI s7.2 a0 (s7.1 + (2 : Int32))).bind fun v117 => (rdI s7.2 a0 (s7.1 + (3 : Int32))).bind fun v118 => (rdI s7.2 a0 (s7.1 + (4 : Int32))).bind fun v119 => (rcv 11 s7.2 (mK M).length (F_X11_ask n s7.2 (mK M).length v116 v117 v118 v119)).bind fun v120 => (rdI v120.2 a0 (s7.1 + (1 : Int32))).bind fun v121 => (rdI v120.2 a0 (s7.1 + (2 : Int32))).bind fun v122 => (rdI v120.2 a0 (s7.1 + (3 : Int32))).bind fun v123 => (rdI v120.2 a0 (s7.1 + (4 : Int32))).bind fun v124 => (rcv 12 v120.2 (mK M3).length (F_X12_ask n v120.2 (mK M3).length v121 v122 v123 v124)).bind fun v125 => if v120.1 = v125.1 then j12 v125.2 else some (.inr (.inr ((0 : Int32), v125.2))) else if (v10 &&& (63 : Int32)) = (12 : Int32) then (rdI s7.2 a0 (s7.1 + (1 : Int32))).bind fun v128 => (rcv 11 s7.2 (mK M).length (F_X11_drop n s7.2 (mK M).length v128)).bind fun v129 => (rdI v129.2 a0 (s7.1 + (1 : Int32))).bind fun v130 => (rcv 12 v129.2 (mK M3).length (F_X12_drop n v129.2 (mK M3).length v130)).bind fun v131 => if v129.1 = v131.1 then j12 v131.2 else some (.inr (.inr ((0 : Int32), v131.2))) else if (v10 &&& (63 : Int32)) = (13 : Int32) then (rdI s7.2 a0 (s7.1 + (1 : Int32))).bind fun v134 => (rdI s7.2 a0 (s7.1 + (2 : Int32))).bind fun v135 => (rcv 11 s7.2 (mK M).length (F_X11_doing n s7.2 (mK M).length v134 v135)).bind fun v136 => (rdI v136.2 a0 (s7.1 + (1 : Int32))).bind fun v137 => (rdI v136.2 a0 (s7.1 + (2 : Int32))).bind fun v138 => (rcv 12 v136.2 (mK M3).length (F_X12_doing n v136.2 (mK M3).length v137 v138)).bind fun v139 => if v136.1 = v139.1 then j12 v139.2 else some (.inr (.inr ((0 : Int32), v139.2))) else if (v10 &&& (63 : Int32)) = (14 : Int32) then (rcv 11 s7.2 (mK M).length (F_X11_judge n s7.2 (mK M).length)).bind fun v142 => (rcv 12 v142.2 (mK M3).length (F_X12_judge n v142.2 (mK M3).length)).bind fun v143 => if v142.1 = v143.1 then j12 v143.2 else some (.inr (.inr ((0 : Int32), v143.2))) else if (v10 &&& (63 : Int32)) = (15 : Int32) then (rcv 11 s7.2 (mK M).length (F_X11_cost n s7.2 (mK M).length)).bind fun v146 => (rcv 12 v146.2 (mK M3).length (F_X12_cost n v146.2 (mK M3).length)).bind fun v147 => if v146.1 = v147.1 then j12 v147.2 else some (.inr (.inr ((0 : Int32), v147.2))) else if (v10 &&& (63 : Int32)) = (16 : Int32) then (rdI s7.2 a0 (s7.1 + (1 : Int32))).bind fun v150 => (rdI s7.2 a0 (s7.1 + (2 : Int32))).bind fun v151 => (rcv 11 s7.2 (mK M).length (F_X11_knows n s7.2 (mK M).length v150 v151)).bind fun v152 => (rdI v152.2 a0 (s7.1 + (1 : Int32))).bind fun v153 => (rdI v152.2 a0 (s7.1 + (2 : Int32))).bind fun v154 => (rcv 12 v152.2 (mK M3).length (F_X12_knows n v152.2 (mK M3).length v153 v154)).bind fun v155 => if v152.1 = v155.1 then j12 v155.2 else some (.inr (.inr ((0 : Int32), v155.2))) else if (v10 &&& (63 : Int32)) = (17 : Int32) then (rdI s7.2 a0 (s7.1 + (1 : Int32))).bind fun v158 => (rdI s7.2 a0 (s7.1 + (2 : Int32))).bind fun v159 => (rcv 11 s7.2 (mK M).length (F_X11_when n s7.2 (mK M).length v158 v159)).bind fun v160 => (rdI v160.2 a0 (s7.1 + (1 : Int32))).bind fun v161 => (rdI v160.2 a0 (s7.1 + (2 : Int32))).bind fun v162 => (rcv 12 v160.2 (mK M3).length (F_X12_when n v160.2 (mK M3).length v161 v162)).bind fun v163 => if v160.1 = v163.1 then j12 v163.2 else some (.inr (.inr ((0 : Int32), v163.2))) else if (v10 &&& (63 : Int32)) = (18 : Int32) then (rdI s7.2 a0 (s7.1 + (1 : Int32))).bind fun v166 => (rdI s7.2 a0 (s7.1 + (2 : Int32))).bind fun v167 => (rdI s7.2 a0 (s7.1 + (3 : Int32))).bind fun v168 => (rcv 11 s7.2 (mK M).length (F_X11_seen n s7.2 (mK M).length v166 v167 v168)).bind fun v169 => (rdI v169.2 a0 (s7.1 + (1 : Int32))).bind fun v170 => (rdI v169.2 a0 (s7.1 + (2 : Int32))).bind fun v171 => (rdI v169.2 a0 (s7.1 + (3 : Int32))).bind fun v172 => (rcv 12 v169.2 (mK M3).length (F_X12_seen n v169.2 (mK M3).length v170 v171 v172)).bind fun v173 => if v169.1 = v173.1 then j12 v173.2 else some (.inr (.inr ((0 : Int32), v173.2))) else if (v10 &&& (63 : Int32)) = (19 : Int32) then (rdI s7.2 a0 (s7.1 + (1 : Int32))).bind fun v176 => (rdI s7.2 a0 (s7.1 + (2 : Int32))).bind fun v177 => (rdI s7.2 a0 (s7.1 + (3 : Int32))).bind fun v178 => (rdI s7.2 a0 (s7.1 + (4 : Int32))).bind fun v179 => (rdI s7.2 a0 (s7.1 + (5 : Int32))).bind fun v180 => (rdI s7.2 a0 (s7.1 + (6 : Int32))).bind fun v181 => jn (fun (u182 : Int32) => (rcv 11 s7.2 (mK M).length (F_X11_soon n s7.2 (mK M).length v176 v177 v178 v179 v180 u182)).bind fun v183 => (rdI v183.2 a0 (s7.1 + (1 : Int32))).bind fun v184 => (rdI v183.2 a0 (s7.1 + (2 : Int32))).bind fun v185 => (rdI v183.2 a0 (s7.1 + (3 : Int32))).bind fun v186 => (rdI v183.2 a0 (s7.1 + (4 : Int32))).bind fun v187 => (rdI v183.2 a0 (s7.1 + (5 : Int32))).bind fun v188 => (rdI v183.2 a0 (s7.1 + (6 : Int32))).bind fun v189 => jn (fun (u190 : Int32) => (rcv 12 v183.2 (mK M3).length (F_X12_soon n v183.2 (mK M3).length v184 v185 v186 v187 v188 u190)).bind fun v191 => if v183.1 = v191.1 then j12 v191.2 else some (.inr (.inr ((0 : Int32), v191.2)))) fun j193 => if v189 = 0 then j193 (0 : Int32) else j193 (1 : Int32)) fun j195 => if v181 = 0 then j195 (0 : Int32) else j195 (1 : Int32) else if (v10 &&& (63 : Int32)) = (20 : Int32) then (rdI s7.2 a0 (s7.1 + (1 : Int32))).bind fun v198 => (rdI s7.2 a0 (s7.1 + (2 : Int32))).bind fun v199 => (rdI s7.2 a0 (s7.1 + (3 : Int32))).bind fun v200 => (rdI s7.2 a0 (s7.1 + (4 : Int32))).bind fun v201 => (rdI s7.2 a0 (s7.1 + (5 : Int32))).bind fun v202 => jn (fun (u203 : Int32) => (rcv 11 s7.2 (mK M).length (F_X11_all n s7.2 (mK M).length v198 v199 v200 v201 u203)).bind fun v204 => (rdI v204.2 a0 (s7.1 + (1 : Int32))).bind fun v205 => (rdI v204.2 a0 (s7.1 + (2 : Int32))).bind fun v206 => (rdI v204.2 a0 (s7.1 + (3 : Int32))).bind fun v207 => (rdI v204.2 a0 (s7.1 + (4 : Int32))).bind fun v208 => (rdI v204.2 a0 (s7.1 + (5 : Int32))).bind fun v209 => jn (fun (u210 : Int32) => (rcv 12 v204.2 (mK M3).length (F_X12_all n v204.2 (mK M3).length v205 v206 v207 v208 u210)).bind fun v211 => if v204.1 = v211.1 then j12 v211.2 else some (.inr (.inr ((0 : Int32), v211.2)))) fun j213 => if v209 = 0 then j213 (0 : Int32) else j213 (1 : Int32)) fun j215 => if v202 = 0 then j215 (0 : Int32) else j215 (1 : Int32) else if (v10 &&& (63 : Int32)) = (21 : Int32) then (rdI s7.2 a0 (s7.1 + (1 : Int32))).bind fun v218 => (rdI s7.2 a0 (s7.1 + (2 : Int32))).bind fun v219 => (rdI s7.2 a0 (s7.1 + (3 : Int32))).bind fun v220 => (rdI s7.2 a0 (s7.1 + (4 : Int32))).bind fun v221 => (rdI s7.2 a0 (s7.1 + (5 : Int32))).bind fun v222 => (rcv 11 s7.2 (mK M).length (F_X11_cheap n s7.2 (mK M).length v218 v219 v220 v221 v222)).bind fun v223 => (rdI v223.2 a0 (s7.1 + (1 : Int32))).bind fun v224 => (rdI v223.2 a0 (s7.1 + (2 : Int32))).bind fun v225 => (rdI v223.2 a0 (s7.1 + (3 : Int32))).bind fun v226 => (rdI v223.2 a0 (s7.1 + (4 : Int32))).bind fun v227 => (rdI v223.2 a0 (s7.1 + (5 : Int32))).bind fun v228 => (rcv 12 v223.2 (mK M3).length (F_X12_cheap n v223.2 (mK M3).length v224 v225 v226 v227 v228)).bind fun v229 => if v223.1 = v229.1 then j12 v229.2 else some (.inr (.inr ((0 : Int32), v229.2))) else if (v10 &&& (63 : Int32)) = (22 : Int32) then (rdI s7.2 a0 (s7.1 + (1 : Int32))).bind fun v232 => (rdI s7.2 a0 (s7.1 + (2 : Int32))).bind fun v233 => (rdI s7.2 a0 (s7.1 + (3 : Int32))).bind fun v234 => (rdI s7.2 a0 (s7.1 + (4 : Int32))).bind fun v235 => (rdI s7.2 a0 (s7.1 + (5 : Int32))).bind fun v236 => (rcv 11 s7.2 (mK M).length (F_X11_cheapAt n s7.2 (mK M).length v232 v233 v234 v235 v236)).bind fun v237 => (rdI v237.2 a0 (s7.1 + (1 : Int32))).bind fun v238 => (rdI v237.2 a0 (s7.1 + (2 : Int32))).bind fun v239 => (rdI v237.2 a0 (s7.1 + (3 : Int32))).bind fun v240 => (rdI v237.2 a0 (s7.1 + (4 : Int32))).bind fun v241 => (rdI v237.2 a0 (s7.1 + (5 : Int32))).bind fun v242 => (rcv 12 v237.2 (mK M3).length (F_X12_cheapAt n v237.2 (mK M3).length v238 v239 v240 v241 v242)).bind fun v243 => if v237.1 = v243.1 then j12 v243.2 else some (.inr (.inr ((0 : Int32), v243.2))) else if (v10 &&& (63 : Int32)) = (23 : Int32) then (rdI s7.2 a0 (s7.1 + (1 : Int32))).bind fun v246 => (rdI s7.2 a0 (s7.1 + (2 : Int32))).bind fun v247 => (rcv 11 s7.2 (mK M).length (F_X11_secret n s7.2 (mK M).length v246 v247)).bind fun v248 => (rdI s7.2 a0 (s7.1 + (1 : Int32))).bind fun v249 => (rdI s7.2 a0 (s7.1 + (2 : Int32))).bind fun v250 => (rcv 12 s7.2 (mK M3).length (F_X12_secret n s7.2 (mK M3).length v249 v250)).bind fun v251 => if v248 = v251.1 then j12 v251.2 else some (.inr (.inr ((0 : Int32), v251.2))) else if (v10 &&& (63 : Int32)) = (24 : Int32) then (rdI s7.2 a0 (s7.1 + (1 : Int32))).bind fun v254 => (rdI s7.2 a0 (s7.1 + (2 : Int32))).bind fun v255 => (rcv 11 s7.2 (mK M).length (F_X11_below n s7.2 (mK M).length v254 v255)).bind fun v256 => (rdI s7.2 a0 (s7.1 + (1 : Int32))).bind fun v257 => (rdI s7.2 a0 (s7.1 + (2 : Int32))).bind fun v258 => (rcv 12 s7.2 (mK M3).length (F_X12_below n s7.2 (mK M3).length v257 v258)).bind fun v259 => if v256 = v259.1 then j12 v259.2 else some (.inr (.inr ((0 : Int32), v259.2))) else if (v10 &&& (63 : Int32)) = (25 : Int32) then (rdI s7.2 a0 (s7.1 + (1 : Int32))).bind fun v262 => (rdI s7.2 a0 (s7.1 + (2 : Int32))).bind fun v263 => (rdI s7.2 a0 (s7.1 + (3 : Int32))).bind fun v264 => (rcv 11 s7.2 (mK M).length (F_X11_stand n s7.2 (mK M).length v262 v263 v264)).bind fun v265 => (rdI s7.2 a0 (s7.1 + (1 : Int32))).bind fun v266 => (rdI s7.2 a0 (s7.1 + (2 : Int32))).bind fun v267 => (rdI s7.2 a0 (s7.1 + (3 : Int32))).bind fun v268 => (rcv 12 s7.2 (mK M3).length (F_X12_stand n s7.2 (mK M3).length v266 v267 v268)).bind fun v269 => if v265 = v269.1 then j12 v269.2 else some (.inr (.inr ((0 : Int32), v269.2))) else if (v10 &&& (63 : Int32)) = (26 : Int32) then (rdI s7.2 a0 (s7.1 + (1 : Int32))).bind fun v272 => (rdI s7.2 a0 (s7.1 + (2 : Int32))).bind fun v273 => (rdI s7.2 a0 (s7.1 + (3 : Int32))).bind fun v274 => (rcv 11 s7.2 (mK M).length (F_X11_best n s7.2 (mK M).length v272 v273 v274)).bind fun v275 => (rdI s7.2 a0 (s7.1 + (1 : Int32))).bind fun v276 => (rdI s7.2 a0 (s7.1 + (2 : Int32))).bind fun v277 => (rdI s7.2 a0 (s7.1 + (3 : Int32))).bind fun v278 => (rcv 12 s7.2 (mK M3).length (F_X12_best n s7.2 (mK M3).length v276 v277 v278)).bind fun v279 => if v275 = v279.1 then j12 v279.2 else some (.inr (.inr ((0 : Int32), v279.2))) else if (v10 &&& (63 : Int32)) = (27 : Int32) then (rdI s7.2 a0 (s7.1 + (1 : Int32))).bind fun v282 => (rdI s7.2 a0 (s7.1 + (2 : Int32))).bind fun v283 => (rcv 11 s7.2 (mK M).length (F_X11_lost n s7.2 (mK M).length v282 v283)).bind fun v284 => (rdI v284.2 a0 (s7.1 + (1 : Int32))).bind fun v285 => (rdI v284.2 a0 (s7.1 + (2 : Int32))).bind fun v286 => (rcv 12 v284.2 (mK M3).length (F_X12_lost n v284.2 (mK M3).length v285 v286)).bind fun v287 => if v284.1 = v287.1 then j12 v287.2 else some (.inr (.inr ((0 : Int32), v287.2))) else if (v10 &&& (63 : Int32)) = (28 : Int32) then (rdI s7.2 a0 (s7.1 + (1 : Int32))).bind fun v290 => (rdI s7.2 a0 (s7.1 + (2 : Int32))).bind fun v291 => (rcv 11 s7.2 (mK M).length (F_X11_before n s7.2 (mK M).length v290 v291)).bind fun v292 => (rdI v292.2 a0 (s7.1 + (1 : Int32))).bind fun v293 => (rdI v292.2 a0 (s7.1 + (2 : Int32))).bind fun v294 => (rcv 12 v292.2 (mK M3).length (F_X12_before n v292.2 (mK M3).length v293 v294)).bind fun v295 => if v292.1 = v295.1 then j12 v295.2 else some (.inr (.inr ((0 : Int32), v295.2))) else if (v10 &&& (63 : Int32)) = (29 : Int32) then (rdI s7.2 a0 (s7.1 + (1 : Int32))).bind fun v298 => (rcv 11 s7.2 (mK M).length (F_X11_missed n s7.2 (mK M).length v298)).bind fun v299 => (rdI v299.2 a0 (s7.1 + (1 : Int32))).bind fun v300 => (rcv 12 v299.2 (mK M3).length (F_X12_missed n v299.2 (mK M3).length v300)).bind fun v301 => if v299.1 = v301.1 then j12 v301.2 else some (.inr (.inr ((0 : Int32), v301.2))) else if (v10 &&& (63 : Int32)) = (30 : Int32) then (rcv 11 s7.2 (mK M).length (F_X11_harm n s7.2 (mK M).length)).bind fun v304 => (rcv 12 v304.2 (mK M3).length (F_X12_harm n v304.2 (mK M3).length)).bind fun v305 => if v304.1 = v305.1 then j12 v305.2 else some (.inr (.inr ((0 : Int32), v305.2))) else if (v10 &&& (63 : Int32)) = (31 : Int32) then (rdI s7.2 a0 (s7.1 + (1 : Int32))).bind fun v308 => (rcv 11 s7.2 (mK M).length (F_X11_can n s7.2 (mK M).length v308)).bind fun v309 => (rdI v309.2 a0 (s7.1 + (1 : Int32))).bind fun v310 => (rcv 12 v309.2 (mK M3).length (F_X12_can n v309.2 (mK M3).length v310)).bind fun v311 => if v309.1 = v311.1 then j12 v311.2 else some (.inr (.inr ((0 : Int32), v311.2))) else if (v10 &&& (63 : Int32)) = (32 : Int32) then (rdI s7.2 a0 (s7.1 + (1 : Int32))).bind fun v314 => (rdI s7.2 a0 (s7.1 + (2 : Int32))).bind fun v315 => (rcv 11 s7.2 (mK M).length (F_X11_task n s7.2 (mK M).length v314 v315)).bind fun v316 => (rdI v316.2 a0 (s7.1 + (1 : Int32))).bind fun v317 => (rdI v316.2 a0 (s7.1 + (2 : Int32))).bind fun v318 => (rcv 12 v316.2 (mK M3).length (F_X12_task n v316.2 (mK M3).length v317 v318)).bind fun v319 => if v316.1 = v319.1 then j12 v319.2 else some (.inr (.inr ((0 : Int32), v319.2))) else if (v10 &&& (63 : Int32)) = (33 : Int32) then (rdI s7.2 a0 (s7.1 + (1 : Int32))).bind fun v322 => (rdI s7.2 a0 (s7.1 + (2 : Int32))).bind fun v323 => (rcv 11 s7.2 (mK M).length (F_X11_rank n s7.2 (mK M).length v322 v323)).bind fun v324 => (rdI v324.2 a0 (s7.1 + (1 : Int32))).bind fun v325 => (rdI v324.2 a0 (s7.1 + (2 : Int32))).bind fun v326 => (rcv 12 v324.2 (mK M3).length (F_X12_rank n v324.2 (mK M3).length v325 v326)).bind fun v327 => if v324.1 = v327.1 then j12 v327.2 else some (.inr (.inr ((0 : Int32), v327.2))) else if (v10 &&& (63 : Int32)) = (34 : Int32) then (rdI s7.2 a0 (s7.1 + (1 : Int32))).bind fun v330 => (rdI s7.2 a0 (s7.1 + (2 : Int32))).bind fun v331 => (rdI s7.2 a0 (s7.1 + (3 : Int32))).bind fun v332 => (rcv 11 s7.2 (mK M).length (F_X11_share n s7.2 (mK M).length v330 v331 v332)).bind fun v333 => (rdI v333.2 a0 (s7.1 + (1 : Int32))).bind fun v334 => (rdI v333.2 a0 (s7.1 + (2 : Int32))).bind fun v335 => (rdI v333.2 a0 (s7.1 + (3 : Int32))).bind fun v336 => (rcv 12 v333.2 (mK M3).length (F_X12_share n v333.2 (mK M3).length v334 v335 v336)).bind fun v337 => if v333.1 = v337.1 then j12 v337.2 else some (.inr (.inr ((0 : Int32), v337.2))) else if (v10 &&& (63 : Int32)) = (35 : Int32) then (rdI s7.2 a0 (s7.1 + (1 : Int32))).bind fun v340 => (rcv 11 s7.2 (mK M).length (F_X11_rule n s7.2 (mK M).length v340)).bind fun v341 => (rdI v341.2 a0 (s7.1 + (1 : Int32))).bind fun v342 => (rcv 12 v341.2 (mK M3).length (F_X12_rule n v341.2 (mK M3).length v342)).bind fun v343 => if v341.1 = v343.1 then j12 v343.2 else some (.inr (.inr ((0 : Int32), v343.2))) else if (v10 &&& (63 : Int32)) = (36 : Int32) then (rdI s7.2 a0 (s7.1 + (1 : Int32))).bind fun v346 => (rdI s7.2 a0 (s7.1 + (2 : Int32))).bind fun v347 => (rcv 11 s7.2 (mK M).length (F_X11_ruled n s7.2 (mK M).length v346 v347)).bind fun v348 => (rdI v348.2 a0 (s7.1 + (1 : Int32))).bind fun v349 => (rdI v348.2 a0 (s7.1 + (2 : Int32))).bind fun v350 => (rcv 12 v348.2 (mK M3).length (F_X12_ruled n v348.2 (mK M3).length v349 v350)).bind fun v351 => if v348.1 = v351.1 then j12 v351.2 else some (.inr (.inr ((0 : Int32), v351.2))) else if (v10 &&& (63 : Int32)) = (37 : Int32) then (rdI s7.2 a0 (s7.1 + (1 : Int32))).bind fun v354 => (rdI s7.2 a0 (s7.1 + (2 : Int32))).bind fun v355 => (rdI s7.2 a0 (s7.1 + (3 : Int32))).bind fun v356 => (rcv 11 s7.2 (mK M).length (F_X11_day n s7.2 (mK M).length v354 v355 v356)).bind fun v357 => (rdI v357.2 a0 (s7.1 + (1 : Int32))).bind fun v358 => (rdI v357.2 a0 (s7.1 + (2 : Int32))).bind fun v359 => (rdI v357.2 a0 (s7.1 + (3 : Int32))).bind fun v360 => (rcv 12 v357.2 (mK M3).length (F_X12_day n v357.2 (mK M3).length v358 v359 v360)).bind fun v361 => if v357.1 = v361.1 then j12 v361.2 else some (.inr (.inr ((0 : Int32), v361.2))) else if (v10 &&& (63 : Int32)) = (38 : Int32) then (rdI s7.2 a0 (s7.1 + (1 : Int32))).bind fun v364 => (rdI s7.2 a0 (s7.1 + (2 : Int32))).bind fun v365 => (rdI s7.2 a0 (s7.1 + (3 : Int32))).bind fun v366 => (rdI s7.2 a0 (s7.1 + (4 : Int32))).bind fun v367 => (rcv 11 s7.2 (mK M).length (F_X11_kept n s7.2 (mK M).length v364 v365 v366 v367)).bind fun v368 => (rdI v368.2 a0 (s7.1 + (1 : Int32))).bind fun v369 => (rdI v368.2 a0 (s7.1 + (2 : Int32))).bind fun v370 => (rdI v368.2 a0 (s7.1 + (3 : Int32))).bind fun v371 => (rdI v368.2 a0 (s7.1 + (4 : Int32))).bind fun v372 => (rcv 12 v368.2 (mK M3).length (F_X12_kept n v368.2 (mK M3).length v369 v370 v371 v372)).bind fun v373 => if v368.1 = v373.1 then j12 v373.2 else some (.inr (.inr ((0 : Int32), v373.2))) else if (v10 &&& (63 : Int32)) = (39 : Int32) then (rdI s7.2 a0 (s7.1 + (1 : Int32))).bind fun v376 => (rcv 11 s7.2 (mK M).length (F_X11_hold n s7.2 (mK M).length v376)).bind fun v377 => (rdI v377.2 a0 (s7.1 + (1 : Int32))).bind fun v378 => (rcv 12 v377.2 (mK M3).length (F_X12_hold n v377.2 (mK M3).length v378)).bind fun v379 => if v377.1 = v379.1 then j12 v379.2 else some (.inr (.inr ((0 : Int32), v379.2))) else if (v10 &&& (63 : Int32)) = (40 : Int32) then (rdI s7.2 a0 (s7.1 + (1 : Int32))).bind fun v382 => (rcv 11 s7.2 (mK M).length (F_X11_restore n s7.2 (mK M).length v382)).bind fun v383 => (rdI v383.2 a0 (s7.1 + (1 : Int32))).bind fun v384 => (rcv 12 v383.2 (mK M3).length (F_X12_restore n v383.2 (mK M3).length v384)).bind fun v385 => if v383.1 = v385.1 then j12 v385.2 else some (.inr (.inr ((0 : Int32), v385.2))) else if (v10 &&& (63 : Int32)) = (41 : Int32) then (rdI s7.2 a0 (s7.1 + (1 : Int32))).bind fun v388 => (rcv 11 s7.2 (mK M).length (F_X11_count n s7.2 (mK M).length v388)).bind fun v389 => (rdI s7.2 a0 (s7.1 + (1 : Int32))).bind fun v390 => (rcv 12 s7.2 (mK M3).length (F_X12_count n s7.2 (mK M3).length v390)).bind fun v391 => if v389 = v391 then j12 s7.2 else some (.inr (.inr ((0 : Int32), s7.2))) else j12 s7.2) n ((0 : Int32), M6)).bind fun (z7 : (AM) ⊕ (Int32 × AM)) => Sum.elim (fun (e7 : AM) => some ((1 : Int32), e7)) (fun (v : (Int32 × AM)) => some v) z7
set_option maxRecDepth 100000 in
set_option maxHeartbeats 4000000 in
theorem G_L_law {n : Nat} {M : AM} {a0 : Nat} {o : (Int32 × AM)} (h : F_L_law n M a0 = some o) : G yL_law cL_law 4 (some .boolean) 83 0 [(0, .ref a0)] [] M (some (.int o.1)) o.2 := by
  unfold F_L_law at h
  show G yL_law cL_law 4 (some .boolean) 83 0 [(0, .ref a0)] [] M (some (.int o.1)) o.2
  refine G.new dL_law_0 cok11 knL_7 kiX11 kzX11 h (fun M1 h => ?_)
  refine G.dup dL_law_3 rfl ?_
  refine G.callI [] [.ref (mK M).length] dL_law_4 lkL_9 okX11_init (fun v hv => C_X11_init hv) (Nat.le_of_ble_eq_true rfl) rfl rfl (Nat.le_of_ble_eq_true rfl) h (fun M3 h => ?_)
  refine G.astore_n (lv' := [(1, .ref (mK M).length), (0, .ref a0)]) dL_law_7 rfl (Nat.le_of_ble_eq_true rfl) rfl ?_
  refine G.new dL_law_8 cok12 knL_10 kiX12 kzX12 h (fun M4 h => ?_)
  refine G.dup dL_law_11 rfl ?_
  refine G.callI [] [.ref (mK M3).length] dL_law_12 lkL_12 okX12_init (fun v hv => C_X12_init hv) (Nat.le_of_ble_eq_true rfl) rfl rfl (Nat.le_of_ble_eq_true rfl) h (fun M6 h => ?_)
  refine G.astore_n (lv' := [(2, .ref (mK M3).length), (1, .ref (mK M).length), (0, .ref a0)]) dL_law_15 rfl (Nat.le_of_ble_eq_true rfl) rfl ?_
  refine G.iconst (0 : Int32) dL_law_16 ki_0 ?_
  refine G.istore_n (lv' := [(3, .int (0 : Int32)), (2, .ref (mK M3).length), (1, .ref (mK M).length), (0, .ref a0)]) dL_law_17 rfl (Nat.le_of_ble_eq_true rfl) rfl ?_
  refine G.sub (lv' := [(0, .ref a0), (1, .ref (mK M).length), (2, .ref (mK M3).length), (3, .int (0 : Int32))]) [3, 2, 1, 0] rfl ?_
  refine loopE (fun (s7 : Int32 × AM) => G yL_law cL_law 4 (some .boolean) 83 18 [(0, .ref a0), (1, .ref (mK M).length), (2, .ref (mK M3).length), (3, .int s7.1)] [] s7.2 (some (.int o.1)) o.2) (fun (z7 : (AM) ⊕ (Int32 × AM)) => Sum.elim (fun (e7 : AM) => G yL_law cL_law 4 (some .boolean) 83 1788 [] [] e7 (some (.int o.1)) o.2) (fun (v : (Int32 × AM)) => some v = some o) z7) h ?_ ?_
  · intro z7 h
    rcases z7 with e7 | v
    · have h := sum_inl h
      show G yL_law cL_law 4 (some .boolean) 83 1788 [] [] e7 (some (.int o.1)) o.2
      refine G.iconst (1 : Int32) dL_law_1788 ki_1 ?_
      exact G.iretW dL_law_1789 rfl (by decide) h
    · have h := sum_inr h
      exact h
  · intro s7 x7 h K7
    show G yL_law cL_law 4 (some .boolean) 83 18 [(0, .ref a0), (1, .ref (mK M).length), (2, .ref (mK M3).length), (3, .int s7.1)] [] s7.2 (some (.int o.1)) o.2
    refine G.iload_n dL_law_18 rfl rfl ?_
    refine G.aload_n dL_law_19 rfl rfl ?_
    refine G.alen dL_law_20 h (fun v8 h => ?_)
    refine G.bipush (7 : Int32) dL_law_21 kb_7 ?_
    refine G.isub dL_law_23 ?_
    refine G.icmp_gt 1788 dL_law_24 (by decide) h (fun c9 h => ?_) (fun c9 h => ?_)
    · refine G.sub (lv' := []) [] rfl ?_
      have h := leafR' h K7
      exact h
    · refine G.aload_n dL_law_27 rfl rfl ?_
      refine G.iload_n dL_law_28 rfl rfl ?_
      refine G.iald dL_law_29 h (fun v10 h => ?_)
      refine G.bipush (63 : Int32) dL_law_30 kb_63 ?_
      refine G.iand dL_law_32 ?_
      refine jn_elim (fun j12 => ∀ (M11 : AM), j12 M11 = some x7 → G yL_law cL_law 4 (some .boolean) 83 1782 [(0, .ref a0), (1, .ref (mK M).length), (2, .ref (mK M3).length), (3, .int s7.1)] [] M11 (some (.int o.1)) o.2) h ?_ ?_
      · intro M11 h
        refine G.iinc s7.1 (w := (s7.1 + (7 : Int32))) (lv' := [(3, .int (s7.1 + (7 : Int32))), (0, .ref a0), (1, .ref (mK M).length), (2, .ref (mK M3).length)]) dL_law_1782 rfl rfl (Nat.le_of_ble_eq_true rfl) rfl ?_
        refine G.goto 18 dL_law_1785 (by decide) ?_
        refine G.sub (lv' := [(0, .ref a0), (1, .ref (mK M).length), (2, .ref (mK M3).length), (3, .int (s7.1 + (7 : Int32)))]) [1, 2, 3, 0] rfl ?_
        have h := leafL' h K7
        exact h
      · intro j12 Jj12 h
        refine G.sw h (fun c13 h => ?_) (fun c13 h => ?_)
        · refine G.tableIn 216 dL_law_33 (by rw [c13]; decide) (by rw [c13]; decide) (by rw [c13]; rfl) (by decide) ?_
          refine G.aload_n dL_law_216 rfl rfl ?_
          refine G.aload_n dL_law_217 rfl rfl ?_
          refine G.iload_n dL_law_218 rfl rfl ?_
          refine G.iconst (1 : Int32) dL_law_219 ki_1 ?_
          refine G.iadd dL_law_220 ?_
          refine G.iald dL_law_221 h (fun v14 h => ?_)
          refine G.aload_n dL_law_222 rfl rfl ?_
          refine G.iload_n dL_law_223 rfl rfl ?_
          refine G.iconst (2 : Int32) dL_law_224 ki_2 ?_
          refine G.iadd dL_law_225 ?_
          refine G.iald dL_law_226 h (fun v15 h => ?_)
          refine G.aload_n dL_law_227 rfl rfl ?_
          refine G.iload_n dL_law_228 rfl rfl ?_
          refine G.iconst (3 : Int32) dL_law_229 ki_3 ?_
          refine G.iadd dL_law_230 ?_
          refine G.iald dL_law_231 h (fun v16 h => ?_)
          refine G.aload_n dL_law_232 rfl rfl ?_
          refine G.iload_n dL_law_233 rfl rfl ?_
          refine G.iconst (4 : Int32) dL_law_234 ki_4 ?_
          refine G.iadd dL_law_235 ?_
          refine G.iald dL_law_236 h (fun v17 h => ?_)
          refine G.aload_n dL_law_237 rfl rfl ?_
          refine G.iload_n dL_law_238 rfl rfl ?_
          refine G.iconst (5 : Int32) dL_law_239 ki_5 ?_
          refine G.iadd dL_law_240 ?_
          refine G.iald dL_law_241 h (fun v18 h => ?_)
          refine G.callVi (ci := 11) [.int v14, .int v15, .int v16, .int v17, .int v18] [] dL_law_242 lkL_13 okX11_feed rfl (fun v hv => C_X11_feed hv) (Nat.le_of_ble_eq_true rfl) rfl rfl (Nat.le_of_ble_eq_true rfl) h (fun v19 h => ?_)
          refine G.aload_n dL_law_245 rfl rfl ?_
          refine G.aload_n dL_law_246 rfl rfl ?_
          refine G.iload_n dL_law_247 rfl rfl ?_
          refine G.iconst (1 : Int32) dL_law_248 ki_1 ?_
          refine G.iadd dL_law_249 ?_
          refine G.iald dL_law_250 h (fun v20 h => ?_)
          refine G.aload_n dL_law_251 rfl rfl ?_
          refine G.iload_n dL_law_252 rfl rfl ?_
          refine G.iconst (2 : Int32) dL_law_253 ki_2 ?_
          refine G.iadd dL_law_254 ?_
          refine G.iald dL_law_255 h (fun v21 h => ?_)
          refine G.aload_n dL_law_256 rfl rfl ?_
          refine G.iload_n dL_law_257 rfl rfl ?_
          refine G.iconst (3 : Int32) dL_law_258 ki_3 ?_
          refine G.iadd dL_law_259 ?_
          refine G.iald dL_law_260 h (fun v22 h => ?_)
          refine G.aload_n dL_law_261 rfl rfl ?_
          refine G.iload_n dL_law_262 rfl rfl ?_
          refine G.iconst (4 : Int32) dL_law_263 ki_4 ?_
          refine G.iadd dL_law_264 ?_
          refine G.iald dL_law_265 h (fun v23 h => ?_)
          refine G.aload_n dL_law_266 rfl rfl ?_
          refine G.iload_n dL_law_267 rfl rfl ?_
          refine G.iconst (5 : Int32) dL_law_268 ki_5 ?_
          refine G.iadd dL_law_269 ?_
          refine G.iald dL_law_270 h (fun v24 h => ?_)
          refine G.callVi (ci := 12) [.int v20, .int v21, .int v22, .int v23, .int v24] [.int v19.1] dL_law_271 lkL_17 okX12_feed rfl (fun v hv => C_X12_feed hv) (Nat.le_of_ble_eq_true rfl) rfl rfl (Nat.le_of_ble_eq_true rfl) h (fun v25 h => ?_)
          refine G.icmp_eq 1782 dL_law_274 (by decide) h (fun c26 h => ?_) (fun c26 h => ?_)
          · refine G.sub (lv' := [(0, .ref a0), (1, .ref (mK M).length), (2, .ref (mK M3).length), (3, .int s7.1)]) [0, 1, 2, 3] rfl ?_
            exact Jj12 _ h
          · refine G.iconst (0 : Int32) dL_law_277 ki_0 ?_
            have h := leafR' h K7
            exact G.iretW dL_law_278 rfl (by decide) h
        · refine G.sw h (fun c27 h => ?_) (fun c27 h => ?_)
          · refine G.tableIn 279 dL_law_33 (by rw [c27]; decide) (by rw [c27]; decide) (by rw [c27]; rfl) (by decide) ?_
            refine G.aload_n dL_law_279 rfl rfl ?_
            refine G.aload_n dL_law_280 rfl rfl ?_
            refine G.iload_n dL_law_281 rfl rfl ?_
            refine G.iconst (1 : Int32) dL_law_282 ki_1 ?_
            refine G.iadd dL_law_283 ?_
            refine G.iald dL_law_284 h (fun v28 h => ?_)
            refine G.callVi (ci := 11) [.int v28] [] dL_law_285 lkL_18 okX11_back rfl (fun v hv => C_X11_back hv) (Nat.le_of_ble_eq_true rfl) rfl rfl (Nat.le_of_ble_eq_true rfl) h (fun v29 h => ?_)
            refine G.aload_n dL_law_288 rfl rfl ?_
            refine G.aload_n dL_law_289 rfl rfl ?_
            refine G.iload_n dL_law_290 rfl rfl ?_
            refine G.iconst (1 : Int32) dL_law_291 ki_1 ?_
            refine G.iadd dL_law_292 ?_
            refine G.iald dL_law_293 h (fun v30 h => ?_)
            refine G.callVi (ci := 12) [.int v30] [.int v29.1] dL_law_294 lkL_22 okX12_back rfl (fun v hv => C_X12_back hv) (Nat.le_of_ble_eq_true rfl) rfl rfl (Nat.le_of_ble_eq_true rfl) h (fun v31 h => ?_)
            refine G.icmp_eq 1782 dL_law_297 (by decide) h (fun c32 h => ?_) (fun c32 h => ?_)
            · refine G.sub (lv' := [(0, .ref a0), (1, .ref (mK M).length), (2, .ref (mK M3).length), (3, .int s7.1)]) [0, 1, 2, 3] rfl ?_
              exact Jj12 _ h
            · refine G.iconst (0 : Int32) dL_law_300 ki_0 ?_
              have h := leafR' h K7
              exact G.iretW dL_law_301 rfl (by decide) h
          · refine G.sw h (fun c33 h => ?_) (fun c33 h => ?_)
            · refine G.tableIn 302 dL_law_33 (by rw [c33]; decide) (by rw [c33]; decide) (by rw [c33]; rfl) (by decide) ?_
              refine G.aload_n dL_law_302 rfl rfl ?_
              refine G.callVi (ci := 11) [] [] dL_law_303 lkL_23 okX11_read rfl (fun v hv => C_X11_read hv) (Nat.le_of_ble_eq_true rfl) rfl rfl (Nat.le_of_ble_eq_true rfl) h (fun v34 h => ?_)
              refine G.aload_n dL_law_306 rfl rfl ?_
              refine G.callVi (ci := 12) [] [.int v34.1] dL_law_307 lkL_27 okX12_read rfl (fun v hv => C_X12_read hv) (Nat.le_of_ble_eq_true rfl) rfl rfl (Nat.le_of_ble_eq_true rfl) h (fun v35 h => ?_)
              refine G.icmp_eq 1782 dL_law_310 (by decide) h (fun c36 h => ?_) (fun c36 h => ?_)
              · refine G.sub (lv' := [(0, .ref a0), (1, .ref (mK M).length), (2, .ref (mK M3).length), (3, .int s7.1)]) [0, 1, 2, 3] rfl ?_
                exact Jj12 _ h
              · refine G.iconst (0 : Int32) dL_law_313 ki_0 ?_
                have h := leafR' h K7
                exact G.iretW dL_law_314 rfl (by decide) h
            · refine G.sw h (fun c37 h => ?_) (fun c37 h => ?_)
              · refine G.tableIn 315 dL_law_33 (by rw [c37]; decide) (by rw [c37]; decide) (by rw [c37]; rfl) (by decide) ?_
                refine G.aload_n dL_law_315 rfl rfl ?_
                refine G.callVi (ci := 11) [] [] dL_law_316 lkL_28 okX11_place rfl (fun v hv => C_X11_place hv) (Nat.le_of_ble_eq_true rfl) rfl rfl (Nat.le_of_ble_eq_true rfl) h (fun v38 h => ?_)
                refine G.aload_n dL_law_319 rfl rfl ?_
                refine G.callVi (ci := 12) [] [.int v38] dL_law_320 lkL_31 okX12_place rfl (fun v hv => C_X12_place hv) (Nat.le_of_ble_eq_true rfl) rfl rfl (Nat.le_of_ble_eq_true rfl) h (fun v39 h => ?_)
                refine G.icmp_eq 1782 dL_law_323 (by decide) h (fun c40 h => ?_) (fun c40 h => ?_)
                · refine G.sub (lv' := [(0, .ref a0), (1, .ref (mK M).length), (2, .ref (mK M3).length), (3, .int s7.1)]) [0, 1, 2, 3] rfl ?_
                  exact Jj12 _ h
                · refine G.iconst (0 : Int32) dL_law_326 ki_0 ?_
                  have h := leafR' h K7
                  exact G.iretW dL_law_327 rfl (by decide) h
              · refine G.sw h (fun c41 h => ?_) (fun c41 h => ?_)
                · refine G.tableIn 328 dL_law_33 (by rw [c41]; decide) (by rw [c41]; decide) (by rw [c41]; rfl) (by decide) ?_
                  refine G.aload_n dL_law_328 rfl rfl ?_
                  refine G.aload_n dL_law_329 rfl rfl ?_
                  refine G.iload_n dL_law_330 rfl rfl ?_
                  refine G.iconst (1 : Int32) dL_law_331 ki_1 ?_
                  refine G.iadd dL_law_332 ?_
                  refine G.iald dL_law_333 h (fun v42 h => ?_)
                  refine G.aload_n dL_law_334 rfl rfl ?_
                  refine G.iload_n dL_law_335 rfl rfl ?_
                  refine G.iconst (2 : Int32) dL_law_336 ki_2 ?_
                  refine G.iadd dL_law_337 ?_
                  refine G.iald dL_law_338 h (fun v43 h => ?_)
                  refine G.callVi (ci := 11) [.int v42, .int v43] [] dL_law_339 lkL_32 okX11_age rfl (fun v hv => C_X11_age hv) (Nat.le_of_ble_eq_true rfl) rfl rfl (Nat.le_of_ble_eq_true rfl) h (fun v44 h => ?_)
                  refine G.aload_n dL_law_342 rfl rfl ?_
                  refine G.aload_n dL_law_343 rfl rfl ?_
                  refine G.iload_n dL_law_344 rfl rfl ?_
                  refine G.iconst (1 : Int32) dL_law_345 ki_1 ?_
                  refine G.iadd dL_law_346 ?_
                  refine G.iald dL_law_347 h (fun v45 h => ?_)
                  refine G.aload_n dL_law_348 rfl rfl ?_
                  refine G.iload_n dL_law_349 rfl rfl ?_
                  refine G.iconst (2 : Int32) dL_law_350 ki_2 ?_
                  refine G.iadd dL_law_351 ?_
                  refine G.iald dL_law_352 h (fun v46 h => ?_)
                  refine G.callVi (ci := 12) [.int v45, .int v46] [.int v44] dL_law_353 lkL_36 okX12_age rfl (fun v hv => C_X12_age hv) (Nat.le_of_ble_eq_true rfl) rfl rfl (Nat.le_of_ble_eq_true rfl) h (fun v47 h => ?_)
                  refine G.icmp_eq 1782 dL_law_356 (by decide) h (fun c48 h => ?_) (fun c48 h => ?_)
                  · refine G.sub (lv' := [(0, .ref a0), (1, .ref (mK M).length), (2, .ref (mK M3).length), (3, .int s7.1)]) [0, 1, 2, 3] rfl ?_
                    exact Jj12 _ h
                  · refine G.iconst (0 : Int32) dL_law_359 ki_0 ?_
                    have h := leafR' h K7
                    exact G.iretW dL_law_360 rfl (by decide) h
                · refine G.sw h (fun c49 h => ?_) (fun c49 h => ?_)
                  · refine G.tableIn 361 dL_law_33 (by rw [c49]; decide) (by rw [c49]; decide) (by rw [c49]; rfl) (by decide) ?_
                    refine G.aload_n dL_law_361 rfl rfl ?_
                    refine G.aload_n dL_law_362 rfl rfl ?_
                    refine G.iload_n dL_law_363 rfl rfl ?_
                    refine G.iconst (1 : Int32) dL_law_364 ki_1 ?_
                    refine G.iadd dL_law_365 ?_
                    refine G.iald dL_law_366 h (fun v50 h => ?_)
                    refine G.aload_n dL_law_367 rfl rfl ?_
                    refine G.iload_n dL_law_368 rfl rfl ?_
                    refine G.iconst (2 : Int32) dL_law_369 ki_2 ?_
                    refine G.iadd dL_law_370 ?_
                    refine G.iald dL_law_371 h (fun v51 h => ?_)
                    refine G.callVi (ci := 11) [.int v50, .int v51] [] dL_law_372 lkL_37 okX11_where rfl (fun v hv => C_X11_where hv) (Nat.le_of_ble_eq_true rfl) rfl rfl (Nat.le_of_ble_eq_true rfl) h (fun v52 h => ?_)
                    refine G.aload_n dL_law_375 rfl rfl ?_
                    refine G.aload_n dL_law_376 rfl rfl ?_
                    refine G.iload_n dL_law_377 rfl rfl ?_
                    refine G.iconst (1 : Int32) dL_law_378 ki_1 ?_
                    refine G.iadd dL_law_379 ?_
                    refine G.iald dL_law_380 h (fun v53 h => ?_)
                    refine G.aload_n dL_law_381 rfl rfl ?_
                    refine G.iload_n dL_law_382 rfl rfl ?_
                    refine G.iconst (2 : Int32) dL_law_383 ki_2 ?_
                    refine G.iadd dL_law_384 ?_
                    refine G.iald dL_law_385 h (fun v54 h => ?_)
                    refine G.callVi (ci := 12) [.int v53, .int v54] [.int v52] dL_law_386 lkL_40 okX12_where rfl (fun v hv => C_X12_where hv) (Nat.le_of_ble_eq_true rfl) rfl rfl (Nat.le_of_ble_eq_true rfl) h (fun v55 h => ?_)
                    refine G.icmp_eq 1782 dL_law_389 (by decide) h (fun c56 h => ?_) (fun c56 h => ?_)
                    · refine G.sub (lv' := [(0, .ref a0), (1, .ref (mK M).length), (2, .ref (mK M3).length), (3, .int s7.1)]) [0, 1, 2, 3] rfl ?_
                      exact Jj12 _ h
                    · refine G.iconst (0 : Int32) dL_law_392 ki_0 ?_
                      have h := leafR' h K7
                      exact G.iretW dL_law_393 rfl (by decide) h
                  · refine G.sw h (fun c57 h => ?_) (fun c57 h => ?_)
                    · refine G.tableIn 394 dL_law_33 (by rw [c57]; decide) (by rw [c57]; decide) (by rw [c57]; rfl) (by decide) ?_
                      refine G.aload_n dL_law_394 rfl rfl ?_
                      refine G.aload_n dL_law_395 rfl rfl ?_
                      refine G.iload_n dL_law_396 rfl rfl ?_
                      refine G.iconst (1 : Int32) dL_law_397 ki_1 ?_
                      refine G.iadd dL_law_398 ?_
                      refine G.iald dL_law_399 h (fun v58 h => ?_)
                      refine G.aload_n dL_law_400 rfl rfl ?_
                      refine G.iload_n dL_law_401 rfl rfl ?_
                      refine G.iconst (2 : Int32) dL_law_402 ki_2 ?_
                      refine G.iadd dL_law_403 ?_
                      refine G.iald dL_law_404 h (fun v59 h => ?_)
                      refine G.callVi (ci := 11) [.int v58, .int v59] [] dL_law_405 lkL_41 okX11_earshot rfl (fun v hv => C_X11_earshot hv) (Nat.le_of_ble_eq_true rfl) rfl rfl (Nat.le_of_ble_eq_true rfl) h (fun v60 h => ?_)
                      refine G.aload_n dL_law_408 rfl rfl ?_
                      refine G.aload_n dL_law_409 rfl rfl ?_
                      refine G.iload_n dL_law_410 rfl rfl ?_
                      refine G.iconst (1 : Int32) dL_law_411 ki_1 ?_
                      refine G.iadd dL_law_412 ?_
                      refine G.iald dL_law_413 h (fun v61 h => ?_)
                      refine G.aload_n dL_law_414 rfl rfl ?_
                      refine G.iload_n dL_law_415 rfl rfl ?_
                      refine G.iconst (2 : Int32) dL_law_416 ki_2 ?_
                      refine G.iadd dL_law_417 ?_
                      refine G.iald dL_law_418 h (fun v62 h => ?_)
                      refine G.callVi (ci := 12) [.int v61, .int v62] [.int v60] dL_law_419 lkL_44 okX12_earshot rfl (fun v hv => C_X12_earshot hv) (Nat.le_of_ble_eq_true rfl) rfl rfl (Nat.le_of_ble_eq_true rfl) h (fun v63 h => ?_)
                      refine G.icmp_eq 1782 dL_law_422 (by decide) h (fun c64 h => ?_) (fun c64 h => ?_)
                      · refine G.sub (lv' := [(0, .ref a0), (1, .ref (mK M).length), (2, .ref (mK M3).length), (3, .int s7.1)]) [0, 1, 2, 3] rfl ?_
                        exact Jj12 _ h
                      · refine G.iconst (0 : Int32) dL_law_425 ki_0 ?_
                        have h := leafR' h K7
                        exact G.iretW dL_law_426 rfl (by decide) h
                    · refine G.sw h (fun c65 h => ?_) (fun c65 h => ?_)
                      · refine G.tableIn 427 dL_law_33 (by rw [c65]; decide) (by rw [c65]; decide) (by rw [c65]; rfl) (by decide) ?_
                        refine G.aload_n dL_law_427 rfl rfl ?_
                        refine G.aload_n dL_law_428 rfl rfl ?_
                        refine G.iload_n dL_law_429 rfl rfl ?_
                        refine G.iconst (1 : Int32) dL_law_430 ki_1 ?_
                        refine G.iadd dL_law_431 ?_
                        refine G.iald dL_law_432 h (fun v66 h => ?_)
                        refine G.aload_n dL_law_433 rfl rfl ?_
                        refine G.iload_n dL_law_434 rfl rfl ?_
                        refine G.iconst (2 : Int32) dL_law_435 ki_2 ?_
                        refine G.iadd dL_law_436 ?_
                        refine G.iald dL_law_437 h (fun v67 h => ?_)
                        refine G.aload_n dL_law_438 rfl rfl ?_
                        refine G.iload_n dL_law_439 rfl rfl ?_
                        refine G.iconst (3 : Int32) dL_law_440 ki_3 ?_
                        refine G.iadd dL_law_441 ?_
                        refine G.iald dL_law_442 h (fun v68 h => ?_)
                        refine G.aload_n dL_law_443 rfl rfl ?_
                        refine G.iload_n dL_law_444 rfl rfl ?_
                        refine G.iconst (4 : Int32) dL_law_445 ki_4 ?_
                        refine G.iadd dL_law_446 ?_
                        refine G.iald dL_law_447 h (fun v69 h => ?_)
                        refine jn_elim (fun j81 => ∀ (u70 : Int32), j81 u70 = some x7 → G yL_law cL_law 4 (some .boolean) 83 456 [(0, .ref a0), (1, .ref (mK M).length), (2, .ref (mK M3).length), (3, .int s7.1)] [.int u70, .int v68, .int v67, .int v66, .ref (mK M).length] s7.2 (some (.int o.1)) o.2) h ?_ ?_
                        · intro u70 h
                          refine G.callVi (ci := 11) [.int v66, .int v67, .int v68, .int u70] [] dL_law_456 lkL_45 okX11_may rfl (fun v hv => C_X11_may hv) (Nat.le_of_ble_eq_true rfl) rfl rfl (Nat.le_of_ble_eq_true rfl) h (fun v71 h => ?_)
                          refine G.aload_n dL_law_459 rfl rfl ?_
                          refine G.aload_n dL_law_460 rfl rfl ?_
                          refine G.iload_n dL_law_461 rfl rfl ?_
                          refine G.iconst (1 : Int32) dL_law_462 ki_1 ?_
                          refine G.iadd dL_law_463 ?_
                          refine G.iald dL_law_464 h (fun v72 h => ?_)
                          refine G.aload_n dL_law_465 rfl rfl ?_
                          refine G.iload_n dL_law_466 rfl rfl ?_
                          refine G.iconst (2 : Int32) dL_law_467 ki_2 ?_
                          refine G.iadd dL_law_468 ?_
                          refine G.iald dL_law_469 h (fun v73 h => ?_)
                          refine G.aload_n dL_law_470 rfl rfl ?_
                          refine G.iload_n dL_law_471 rfl rfl ?_
                          refine G.iconst (3 : Int32) dL_law_472 ki_3 ?_
                          refine G.iadd dL_law_473 ?_
                          refine G.iald dL_law_474 h (fun v74 h => ?_)
                          refine G.aload_n dL_law_475 rfl rfl ?_
                          refine G.iload_n dL_law_476 rfl rfl ?_
                          refine G.iconst (4 : Int32) dL_law_477 ki_4 ?_
                          refine G.iadd dL_law_478 ?_
                          refine G.iald dL_law_479 h (fun v75 h => ?_)
                          refine jn_elim (fun j79 => ∀ (u76 : Int32), j79 u76 = some x7 → G yL_law cL_law 4 (some .boolean) 83 488 [(0, .ref a0), (1, .ref (mK M).length), (2, .ref (mK M3).length), (3, .int s7.1)] [.int u76, .int v74, .int v73, .int v72, .ref (mK M3).length, .int v71.1] v71.2 (some (.int o.1)) o.2) h ?_ ?_
                          · intro u76 h
                            refine G.callVi (ci := 12) [.int v72, .int v73, .int v74, .int u76] [.int v71.1] dL_law_488 lkL_49 okX12_may rfl (fun v hv => C_X12_may hv) (Nat.le_of_ble_eq_true rfl) rfl rfl (Nat.le_of_ble_eq_true rfl) h (fun v77 h => ?_)
                            refine G.icmp_eq 1782 dL_law_491 (by decide) h (fun c78 h => ?_) (fun c78 h => ?_)
                            · refine G.sub (lv' := [(0, .ref a0), (1, .ref (mK M).length), (2, .ref (mK M3).length), (3, .int s7.1)]) [0, 1, 2, 3] rfl ?_
                              exact Jj12 _ h
                            · refine G.iconst (0 : Int32) dL_law_494 ki_0 ?_
                              have h := leafR' h K7
                              exact G.iretW dL_law_495 rfl (by decide) h
                          · intro j79 Jj79 h
                            refine G.if_eq 487 dL_law_480 (by decide) h (fun c80 h => ?_) (fun c80 h => ?_)
                            · refine G.iconst (0 : Int32) dL_law_487 ki_0 ?_
                              refine G.sub (lv' := [(0, .ref a0), (1, .ref (mK M).length), (2, .ref (mK M3).length), (3, .int s7.1)]) [0, 1, 2, 3] rfl ?_
                              exact Jj79 _ h
                            · refine G.iconst (1 : Int32) dL_law_483 ki_1 ?_
                              refine G.goto 488 dL_law_484 (by decide) ?_
                              refine G.sub (lv' := [(0, .ref a0), (1, .ref (mK M).length), (2, .ref (mK M3).length), (3, .int s7.1)]) [0, 1, 2, 3] rfl ?_
                              exact Jj79 _ h
                        · intro j81 Jj81 h
                          refine G.if_eq 455 dL_law_448 (by decide) h (fun c82 h => ?_) (fun c82 h => ?_)
                          · refine G.iconst (0 : Int32) dL_law_455 ki_0 ?_
                            refine G.sub (lv' := [(0, .ref a0), (1, .ref (mK M).length), (2, .ref (mK M3).length), (3, .int s7.1)]) [0, 1, 2, 3] rfl ?_
                            exact Jj81 _ h
                          · refine G.iconst (1 : Int32) dL_law_451 ki_1 ?_
                            refine G.goto 456 dL_law_452 (by decide) ?_
                            refine G.sub (lv' := [(0, .ref a0), (1, .ref (mK M).length), (2, .ref (mK M3).length), (3, .int s7.1)]) [0, 1, 2, 3] rfl ?_
                            exact Jj81 _ h
                      · refine G.sw h (fun c83 h => ?_) (fun c83 h => ?_)
                        · refine G.tableIn 496 dL_law_33 (by rw [c83]; decide) (by rw [c83]; decide) (by rw [c83]; rfl) (by decide) ?_
                          refine G.aload_n dL_law_496 rfl rfl ?_
                          refine G.aload_n dL_law_497 rfl rfl ?_
                          refine G.iload_n dL_law_498 rfl rfl ?_
                          refine G.iconst (1 : Int32) dL_law_499 ki_1 ?_
                          refine G.iadd dL_law_500 ?_
                          refine G.iald dL_law_501 h (fun v84 h => ?_)
                          refine G.aload_n dL_law_502 rfl rfl ?_
                          refine G.iload_n dL_law_503 rfl rfl ?_
                          refine G.iconst (2 : Int32) dL_law_504 ki_2 ?_
                          refine G.iadd dL_law_505 ?_
                          refine G.iald dL_law_506 h (fun v85 h => ?_)
                          refine G.aload_n dL_law_507 rfl rfl ?_
                          refine G.iload_n dL_law_508 rfl rfl ?_
                          refine G.iconst (3 : Int32) dL_law_509 ki_3 ?_
                          refine G.iadd dL_law_510 ?_
                          refine G.iald dL_law_511 h (fun v86 h => ?_)
                          refine G.aload_n dL_law_512 rfl rfl ?_
                          refine G.iload_n dL_law_513 rfl rfl ?_
                          refine G.iconst (4 : Int32) dL_law_514 ki_4 ?_
                          refine G.iadd dL_law_515 ?_
                          refine G.iald dL_law_516 h (fun v87 h => ?_)
                          refine G.callVi (ci := 11) [.int v84, .int v85, .int v86, .int v87] [] dL_law_517 lkL_50 okX11_say rfl (fun v hv => C_X11_say hv) (Nat.le_of_ble_eq_true rfl) rfl rfl (Nat.le_of_ble_eq_true rfl) h (fun v88 h => ?_)
                          refine G.aload_n dL_law_520 rfl rfl ?_
                          refine G.aload_n dL_law_521 rfl rfl ?_
                          refine G.iload_n dL_law_522 rfl rfl ?_
                          refine G.iconst (1 : Int32) dL_law_523 ki_1 ?_
                          refine G.iadd dL_law_524 ?_
                          refine G.iald dL_law_525 h (fun v89 h => ?_)
                          refine G.aload_n dL_law_526 rfl rfl ?_
                          refine G.iload_n dL_law_527 rfl rfl ?_
                          refine G.iconst (2 : Int32) dL_law_528 ki_2 ?_
                          refine G.iadd dL_law_529 ?_
                          refine G.iald dL_law_530 h (fun v90 h => ?_)
                          refine G.aload_n dL_law_531 rfl rfl ?_
                          refine G.iload_n dL_law_532 rfl rfl ?_
                          refine G.iconst (3 : Int32) dL_law_533 ki_3 ?_
                          refine G.iadd dL_law_534 ?_
                          refine G.iald dL_law_535 h (fun v91 h => ?_)
                          refine G.aload_n dL_law_536 rfl rfl ?_
                          refine G.iload_n dL_law_537 rfl rfl ?_
                          refine G.iconst (4 : Int32) dL_law_538 ki_4 ?_
                          refine G.iadd dL_law_539 ?_
                          refine G.iald dL_law_540 h (fun v92 h => ?_)
                          refine G.callVi (ci := 12) [.int v89, .int v90, .int v91, .int v92] [.int v88.1] dL_law_541 lkL_54 okX12_say rfl (fun v hv => C_X12_say hv) (Nat.le_of_ble_eq_true rfl) rfl rfl (Nat.le_of_ble_eq_true rfl) h (fun v93 h => ?_)
                          refine G.icmp_eq 1782 dL_law_544 (by decide) h (fun c94 h => ?_) (fun c94 h => ?_)
                          · refine G.sub (lv' := [(0, .ref a0), (1, .ref (mK M).length), (2, .ref (mK M3).length), (3, .int s7.1)]) [0, 1, 2, 3] rfl ?_
                            exact Jj12 _ h
                          · refine G.iconst (0 : Int32) dL_law_547 ki_0 ?_
                            have h := leafR' h K7
                            exact G.iretW dL_law_548 rfl (by decide) h
                        · refine G.sw h (fun c95 h => ?_) (fun c95 h => ?_)
                          · refine G.tableIn 549 dL_law_33 (by rw [c95]; decide) (by rw [c95]; decide) (by rw [c95]; rfl) (by decide) ?_
                            refine G.aload_n dL_law_549 rfl rfl ?_
                            refine G.aload_n dL_law_550 rfl rfl ?_
                            refine G.iload_n dL_law_551 rfl rfl ?_
                            refine G.iconst (1 : Int32) dL_law_552 ki_1 ?_
                            refine G.iadd dL_law_553 ?_
                            refine G.iald dL_law_554 h (fun v96 h => ?_)
                            refine G.aload_n dL_law_555 rfl rfl ?_
                            refine G.iload_n dL_law_556 rfl rfl ?_
                            refine G.iconst (2 : Int32) dL_law_557 ki_2 ?_
                            refine G.iadd dL_law_558 ?_
                            refine G.iald dL_law_559 h (fun v97 h => ?_)
                            refine G.aload_n dL_law_560 rfl rfl ?_
                            refine G.iload_n dL_law_561 rfl rfl ?_
                            refine G.iconst (3 : Int32) dL_law_562 ki_3 ?_
                            refine G.iadd dL_law_563 ?_
                            refine G.iald dL_law_564 h (fun v98 h => ?_)
                            refine G.callVi (ci := 11) [.int v96, .int v97, .int v98] [] dL_law_565 lkL_55 okX11_show rfl (fun v hv => C_X11_show hv) (Nat.le_of_ble_eq_true rfl) rfl rfl (Nat.le_of_ble_eq_true rfl) h (fun v99 h => ?_)
                            refine G.aload_n dL_law_568 rfl rfl ?_
                            refine G.aload_n dL_law_569 rfl rfl ?_
                            refine G.iload_n dL_law_570 rfl rfl ?_
                            refine G.iconst (1 : Int32) dL_law_571 ki_1 ?_
                            refine G.iadd dL_law_572 ?_
                            refine G.iald dL_law_573 h (fun v100 h => ?_)
                            refine G.aload_n dL_law_574 rfl rfl ?_
                            refine G.iload_n dL_law_575 rfl rfl ?_
                            refine G.iconst (2 : Int32) dL_law_576 ki_2 ?_
                            refine G.iadd dL_law_577 ?_
                            refine G.iald dL_law_578 h (fun v101 h => ?_)
                            refine G.aload_n dL_law_579 rfl rfl ?_
                            refine G.iload_n dL_law_580 rfl rfl ?_
                            refine G.iconst (3 : Int32) dL_law_581 ki_3 ?_
                            refine G.iadd dL_law_582 ?_
                            refine G.iald dL_law_583 h (fun v102 h => ?_)
                            refine G.callVi (ci := 12) [.int v100, .int v101, .int v102] [.int v99.1] dL_law_584 lkL_59 okX12_show rfl (fun v hv => C_X12_show hv) (Nat.le_of_ble_eq_true rfl) rfl rfl (Nat.le_of_ble_eq_true rfl) h (fun v103 h => ?_)
                            refine G.icmp_eq 1782 dL_law_587 (by decide) h (fun c104 h => ?_) (fun c104 h => ?_)
                            · refine G.sub (lv' := [(0, .ref a0), (1, .ref (mK M).length), (2, .ref (mK M3).length), (3, .int s7.1)]) [0, 1, 2, 3] rfl ?_
                              exact Jj12 _ h
                            · refine G.iconst (0 : Int32) dL_law_590 ki_0 ?_
                              have h := leafR' h K7
                              exact G.iretW dL_law_591 rfl (by decide) h
                          · refine G.sw h (fun c105 h => ?_) (fun c105 h => ?_)
                            · refine G.tableIn 592 dL_law_33 (by rw [c105]; decide) (by rw [c105]; decide) (by rw [c105]; rfl) (by decide) ?_
                              refine G.aload_n dL_law_592 rfl rfl ?_
                              refine G.aload_n dL_law_593 rfl rfl ?_
                              refine G.iload_n dL_law_594 rfl rfl ?_
                              refine G.iconst (1 : Int32) dL_law_595 ki_1 ?_
                              refine G.iadd dL_law_596 ?_
                              refine G.iald dL_law_597 h (fun v106 h => ?_)
                              refine G.aload_n dL_law_598 rfl rfl ?_
                              refine G.iload_n dL_law_599 rfl rfl ?_
                              refine G.iconst (2 : Int32) dL_law_600 ki_2 ?_
                              refine G.iadd dL_law_601 ?_
                              refine G.iald dL_law_602 h (fun v107 h => ?_)
                              refine G.aload_n dL_law_603 rfl rfl ?_
                              refine G.iload_n dL_law_604 rfl rfl ?_
                              refine G.iconst (3 : Int32) dL_law_605 ki_3 ?_
                              refine G.iadd dL_law_606 ?_
                              refine G.iald dL_law_607 h (fun v108 h => ?_)
                              refine G.callVi (ci := 11) [.int v106, .int v107, .int v108] [] dL_law_608 lkL_60 okX11_leave rfl (fun v hv => C_X11_leave hv) (Nat.le_of_ble_eq_true rfl) rfl rfl (Nat.le_of_ble_eq_true rfl) h (fun v109 h => ?_)
                              refine G.aload_n dL_law_611 rfl rfl ?_
                              refine G.aload_n dL_law_612 rfl rfl ?_
                              refine G.iload_n dL_law_613 rfl rfl ?_
                              refine G.iconst (1 : Int32) dL_law_614 ki_1 ?_
                              refine G.iadd dL_law_615 ?_
                              refine G.iald dL_law_616 h (fun v110 h => ?_)
                              refine G.aload_n dL_law_617 rfl rfl ?_
                              refine G.iload_n dL_law_618 rfl rfl ?_
                              refine G.iconst (2 : Int32) dL_law_619 ki_2 ?_
                              refine G.iadd dL_law_620 ?_
                              refine G.iald dL_law_621 h (fun v111 h => ?_)
                              refine G.aload_n dL_law_622 rfl rfl ?_
                              refine G.iload_n dL_law_623 rfl rfl ?_
                              refine G.iconst (3 : Int32) dL_law_624 ki_3 ?_
                              refine G.iadd dL_law_625 ?_
                              refine G.iald dL_law_626 h (fun v112 h => ?_)
                              refine G.callVi (ci := 12) [.int v110, .int v111, .int v112] [.int v109.1] dL_law_627 lkL_63 okX12_leave rfl (fun v hv => C_X12_leave hv) (Nat.le_of_ble_eq_true rfl) rfl rfl (Nat.le_of_ble_eq_true rfl) h (fun v113 h => ?_)
                              refine G.icmp_eq 1782 dL_law_630 (by decide) h (fun c114 h => ?_) (fun c114 h => ?_)
                              · refine G.sub (lv' := [(0, .ref a0), (1, .ref (mK M).length), (2, .ref (mK M3).length), (3, .int s7.1)]) [0, 1, 2, 3] rfl ?_
                                exact Jj12 _ h
                              · refine G.iconst (0 : Int32) dL_law_633 ki_0 ?_
                                have h := leafR' h K7
                                exact G.iretW dL_law_634 rfl (by decide) h
                            · refine G.sw h (fun c115 h => ?_) (fun c115 h => ?_)
                              · refine G.tableIn 635 dL_law_33 (by rw [c115]; decide) (by rw [c115]; decide) (by rw [c115]; rfl) (by decide) ?_
                                refine G.aload_n dL_law_635 rfl rfl ?_
                                refine G.aload_n dL_law_636 rfl rfl ?_
                                refine G.iload_n dL_law_637 rfl rfl ?_
                                refine G.iconst (1 : Int32) dL_law_638 ki_1 ?_
                                refine G.iadd dL_law_639 ?_
                                refine G.iald dL_law_640 h (fun v116 h => ?_)
                                refine G.aload_n dL_law_641 rfl rfl ?_
                                refine G.iload_n dL_law_642 rfl rfl ?_
                                refine G.iconst (2 : Int32) dL_law_643 ki_2 ?_
                                refine G.iadd dL_law_644 ?_
                                refine G.iald dL_law_645 h (fun v117 h => ?_)
                                refine G.aload_n dL_law_646 rfl rfl ?_
                                refine G.iload_n dL_law_647 rfl rfl ?_
                                refine G.iconst (3 : Int32) dL_law_648 ki_3 ?_
                                refine G.iadd dL_law_649 ?_
                                refine G.iald dL_law_650 h (fun v118 h => ?_)
                                refine G.aload_n dL_law_651 rfl rfl ?_
                                refine G.iload_n dL_law_652 rfl rfl ?_
                                refine G.iconst (4 : Int32) dL_law_653 ki_4 ?_
                                refine G.iadd dL_law_654 ?_
                                refine G.iald dL_law_655 h (fun v119 h => ?_)
                                refine G.callVi (ci := 11) [.int v116, .int v117, .int v118, .int v119] [] dL_law_656 lkL_64 okX11_ask rfl (fun v hv => C_X11_ask hv) (Nat.le_of_ble_eq_true rfl) rfl rfl (Nat.le_of_ble_eq_true rfl) h (fun v120 h => ?_)
                                refine G.aload_n dL_law_659 rfl rfl ?_
                                refine G.aload_n dL_law_660 rfl rfl ?_
                                refine G.iload_n dL_law_661 rfl rfl ?_
                                refine G.iconst (1 : Int32) dL_law_662 ki_1 ?_
                                refine G.iadd dL_law_663 ?_
                                refine G.iald dL_law_664 h (fun v121 h => ?_)
                                refine G.aload_n dL_law_665 rfl rfl ?_
                                refine G.iload_n dL_law_666 rfl rfl ?_
                                refine G.iconst (2 : Int32) dL_law_667 ki_2 ?_
                                refine G.iadd dL_law_668 ?_
                                refine G.iald dL_law_669 h (fun v122 h => ?_)
                                refine G.aload_n dL_law_670 rfl rfl ?_
                                refine G.iload_n dL_law_671 rfl rfl ?_
                                refine G.iconst (3 : Int32) dL_law_672 ki_3 ?_
                                refine G.iadd dL_law_673 ?_
                                refine G.iald dL_law_674 h (fun v123 h => ?_)
                                refine G.aload_n dL_law_675 rfl rfl ?_
                                refine G.iload_n dL_law_676 rfl rfl ?_
                                refine G.iconst (4 : Int32) dL_law_677 ki_4 ?_
                                refine G.iadd dL_law_678 ?_
                                refine G.iald dL_law_679 h (fun v124 h => ?_)
                                refine G.callVi (ci := 12) [.int v121, .int v122, .int v123, .int v124] [.int v120.1] dL_law_680 lkL_67 okX12_ask rfl (fun v hv => C_X12_ask hv) (Nat.le_of_ble_eq_true rfl) rfl rfl (Nat.le_of_ble_eq_true rfl) h (fun v125 h => ?_)
                                refine G.icmp_eq 1782 dL_law_683 (by decide) h (fun c126 h => ?_) (fun c126 h => ?_)
                                · refine G.sub (lv' := [(0, .ref a0), (1, .ref (mK M).length), (2, .ref (mK M3).length), (3, .int s7.1)]) [0, 1, 2, 3] rfl ?_
                                  exact Jj12 _ h
                                · refine G.iconst (0 : Int32) dL_law_686 ki_0 ?_
                                  have h := leafR' h K7
                                  exact G.iretW dL_law_687 rfl (by decide) h
                              · refine G.sw h (fun c127 h => ?_) (fun c127 h => ?_)
                                · refine G.tableIn 688 dL_law_33 (by rw [c127]; decide) (by rw [c127]; decide) (by rw [c127]; rfl) (by decide) ?_
                                  refine G.aload_n dL_law_688 rfl rfl ?_
                                  refine G.aload_n dL_law_689 rfl rfl ?_
                                  refine G.iload_n dL_law_690 rfl rfl ?_
                                  refine G.iconst (1 : Int32) dL_law_691 ki_1 ?_
                                  refine G.iadd dL_law_692 ?_
                                  refine G.iald dL_law_693 h (fun v128 h => ?_)
                                  refine G.callVi (ci := 11) [.int v128] [] dL_law_694 lkL_68 okX11_drop rfl (fun v hv => C_X11_drop hv) (Nat.le_of_ble_eq_true rfl) rfl rfl (Nat.le_of_ble_eq_true rfl) h (fun v129 h => ?_)
                                  refine G.aload_n dL_law_697 rfl rfl ?_
                                  refine G.aload_n dL_law_698 rfl rfl ?_
                                  refine G.iload_n dL_law_699 rfl rfl ?_
                                  refine G.iconst (1 : Int32) dL_law_700 ki_1 ?_
                                  refine G.iadd dL_law_701 ?_
                                  refine G.iald dL_law_702 h (fun v130 h => ?_)
                                  refine G.callVi (ci := 12) [.int v130] [.int v129.1] dL_law_703 lkL_71 okX12_drop rfl (fun v hv => C_X12_drop hv) (Nat.le_of_ble_eq_true rfl) rfl rfl (Nat.le_of_ble_eq_true rfl) h (fun v131 h => ?_)
                                  refine G.icmp_eq 1782 dL_law_706 (by decide) h (fun c132 h => ?_) (fun c132 h => ?_)
                                  · refine G.sub (lv' := [(0, .ref a0), (1, .ref (mK M).length), (2, .ref (mK M3).length), (3, .int s7.1)]) [0, 1, 2, 3] rfl ?_
                                    exact Jj12 _ h
                                  · refine G.iconst (0 : Int32) dL_law_709 ki_0 ?_
                                    have h := leafR' h K7
                                    exact G.iretW dL_law_710 rfl (by decide) h
                                · refine G.sw h (fun c133 h => ?_) (fun c133 h => ?_)
                                  · refine G.tableIn 711 dL_law_33 (by rw [c133]; decide) (by rw [c133]; decide) (by rw [c133]; rfl) (by decide) ?_
                                    refine G.aload_n dL_law_711 rfl rfl ?_
                                    refine G.aload_n dL_law_712 rfl rfl ?_
                                    refine G.iload_n dL_law_713 rfl rfl ?_
                                    refine G.iconst (1 : Int32) dL_law_714 ki_1 ?_
                                    refine G.iadd dL_law_715 ?_
                                    refine G.iald dL_law_716 h (fun v134 h => ?_)
                                    refine G.aload_n dL_law_717 rfl rfl ?_
                                    refine G.iload_n dL_law_718 rfl rfl ?_
                                    refine G.iconst (2 : Int32) dL_law_719 ki_2 ?_
                                    refine G.iadd dL_law_720 ?_
                                    refine G.iald dL_law_721 h (fun v135 h => ?_)
                                    refine G.callVi (ci := 11) [.int v134, .int v135] [] dL_law_722 lkL_72 okX11_doing rfl (fun v hv => C_X11_doing hv) (Nat.le_of_ble_eq_true rfl) rfl rfl (Nat.le_of_ble_eq_true rfl) h (fun v136 h => ?_)
                                    refine G.aload_n dL_law_725 rfl rfl ?_
                                    refine G.aload_n dL_law_726 rfl rfl ?_
                                    refine G.iload_n dL_law_727 rfl rfl ?_
                                    refine G.iconst (1 : Int32) dL_law_728 ki_1 ?_
                                    refine G.iadd dL_law_729 ?_
                                    refine G.iald dL_law_730 h (fun v137 h => ?_)
                                    refine G.aload_n dL_law_731 rfl rfl ?_
                                    refine G.iload_n dL_law_732 rfl rfl ?_
                                    refine G.iconst (2 : Int32) dL_law_733 ki_2 ?_
                                    refine G.iadd dL_law_734 ?_
                                    refine G.iald dL_law_735 h (fun v138 h => ?_)
                                    refine G.callVi (ci := 12) [.int v137, .int v138] [.int v136.1] dL_law_736 lkL_75 okX12_doing rfl (fun v hv => C_X12_doing hv) (Nat.le_of_ble_eq_true rfl) rfl rfl (Nat.le_of_ble_eq_true rfl) h (fun v139 h => ?_)
                                    refine G.icmp_eq 1782 dL_law_739 (by decide) h (fun c140 h => ?_) (fun c140 h => ?_)
                                    · refine G.sub (lv' := [(0, .ref a0), (1, .ref (mK M).length), (2, .ref (mK M3).length), (3, .int s7.1)]) [0, 1, 2, 3] rfl ?_
                                      exact Jj12 _ h
                                    · refine G.iconst (0 : Int32) dL_law_742 ki_0 ?_
                                      have h := leafR' h K7
                                      exact G.iretW dL_law_743 rfl (by decide) h
                                  · refine G.sw h (fun c141 h => ?_) (fun c141 h => ?_)
                                    · refine G.tableIn 744 dL_law_33 (by rw [c141]; decide) (by rw [c141]; decide) (by rw [c141]; rfl) (by decide) ?_
                                      refine G.aload_n dL_law_744 rfl rfl ?_
                                      refine G.callVi (ci := 11) [] [] dL_law_745 lkL_76 okX11_judge rfl (fun v hv => C_X11_judge hv) (Nat.le_of_ble_eq_true rfl) rfl rfl (Nat.le_of_ble_eq_true rfl) h (fun v142 h => ?_)
                                      refine G.aload_n dL_law_748 rfl rfl ?_
                                      refine G.callVi (ci := 12) [] [.int v142.1] dL_law_749 lkL_79 okX12_judge rfl (fun v hv => C_X12_judge hv) (Nat.le_of_ble_eq_true rfl) rfl rfl (Nat.le_of_ble_eq_true rfl) h (fun v143 h => ?_)
                                      refine G.icmp_eq 1782 dL_law_752 (by decide) h (fun c144 h => ?_) (fun c144 h => ?_)
                                      · refine G.sub (lv' := [(0, .ref a0), (1, .ref (mK M).length), (2, .ref (mK M3).length), (3, .int s7.1)]) [0, 1, 2, 3] rfl ?_
                                        exact Jj12 _ h
                                      · refine G.iconst (0 : Int32) dL_law_755 ki_0 ?_
                                        have h := leafR' h K7
                                        exact G.iretW dL_law_756 rfl (by decide) h
                                    · refine G.sw h (fun c145 h => ?_) (fun c145 h => ?_)
                                      · refine G.tableIn 757 dL_law_33 (by rw [c145]; decide) (by rw [c145]; decide) (by rw [c145]; rfl) (by decide) ?_
                                        refine G.aload_n dL_law_757 rfl rfl ?_
                                        refine G.callVi (ci := 11) [] [] dL_law_758 lkL_80 okX11_cost rfl (fun v hv => C_X11_cost hv) (Nat.le_of_ble_eq_true rfl) rfl rfl (Nat.le_of_ble_eq_true rfl) h (fun v146 h => ?_)
                                        refine G.aload_n dL_law_761 rfl rfl ?_
                                        refine G.callVi (ci := 12) [] [.int v146.1] dL_law_762 lkL_83 okX12_cost rfl (fun v hv => C_X12_cost hv) (Nat.le_of_ble_eq_true rfl) rfl rfl (Nat.le_of_ble_eq_true rfl) h (fun v147 h => ?_)
                                        refine G.icmp_eq 1782 dL_law_765 (by decide) h (fun c148 h => ?_) (fun c148 h => ?_)
                                        · refine G.sub (lv' := [(0, .ref a0), (1, .ref (mK M).length), (2, .ref (mK M3).length), (3, .int s7.1)]) [0, 1, 2, 3] rfl ?_
                                          exact Jj12 _ h
                                        · refine G.iconst (0 : Int32) dL_law_768 ki_0 ?_
                                          have h := leafR' h K7
                                          exact G.iretW dL_law_769 rfl (by decide) h
                                      · refine G.sw h (fun c149 h => ?_) (fun c149 h => ?_)
                                        · refine G.tableIn 770 dL_law_33 (by rw [c149]; decide) (by rw [c149]; decide) (by rw [c149]; rfl) (by decide) ?_
                                          refine G.aload_n dL_law_770 rfl rfl ?_
                                          refine G.aload_n dL_law_771 rfl rfl ?_
                                          refine G.iload_n dL_law_772 rfl rfl ?_
                                          refine G.iconst (1 : Int32) dL_law_773 ki_1 ?_
                                          refine G.iadd dL_law_774 ?_
                                          refine G.iald dL_law_775 h (fun v150 h => ?_)
                                          refine G.aload_n dL_law_776 rfl rfl ?_
                                          refine G.iload_n dL_law_777 rfl rfl ?_
                                          refine G.iconst (2 : Int32) dL_law_778 ki_2 ?_
                                          refine G.iadd dL_law_779 ?_
                                          refine G.iald dL_law_780 h (fun v151 h => ?_)
                                          refine G.callVi (ci := 11) [.int v150, .int v151] [] dL_law_781 lkL_84 okX11_knows rfl (fun v hv => C_X11_knows hv) (Nat.le_of_ble_eq_true rfl) rfl rfl (Nat.le_of_ble_eq_true rfl) h (fun v152 h => ?_)
                                          refine G.aload_n dL_law_784 rfl rfl ?_
                                          refine G.aload_n dL_law_785 rfl rfl ?_
                                          refine G.iload_n dL_law_786 rfl rfl ?_
                                          refine G.iconst (1 : Int32) dL_law_787 ki_1 ?_
                                          refine G.iadd dL_law_788 ?_
                                          refine G.iald dL_law_789 h (fun v153 h => ?_)
                                          refine G.aload_n dL_law_790 rfl rfl ?_
                                          refine G.iload_n dL_law_791 rfl rfl ?_
                                          refine G.iconst (2 : Int32) dL_law_792 ki_2 ?_
                                          refine G.iadd dL_law_793 ?_
                                          refine G.iald dL_law_794 h (fun v154 h => ?_)
                                          refine G.callVi (ci := 12) [.int v153, .int v154] [.int v152.1] dL_law_795 lkL_87 okX12_knows rfl (fun v hv => C_X12_knows hv) (Nat.le_of_ble_eq_true rfl) rfl rfl (Nat.le_of_ble_eq_true rfl) h (fun v155 h => ?_)
                                          refine G.icmp_eq 1782 dL_law_798 (by decide) h (fun c156 h => ?_) (fun c156 h => ?_)
                                          · refine G.sub (lv' := [(0, .ref a0), (1, .ref (mK M).length), (2, .ref (mK M3).length), (3, .int s7.1)]) [0, 1, 2, 3] rfl ?_
                                            exact Jj12 _ h
                                          · refine G.iconst (0 : Int32) dL_law_801 ki_0 ?_
                                            have h := leafR' h K7
                                            exact G.iretW dL_law_802 rfl (by decide) h
                                        · refine G.sw h (fun c157 h => ?_) (fun c157 h => ?_)
                                          · refine G.tableIn 803 dL_law_33 (by rw [c157]; decide) (by rw [c157]; decide) (by rw [c157]; rfl) (by decide) ?_
                                            refine G.aload_n dL_law_803 rfl rfl ?_
                                            refine G.aload_n dL_law_804 rfl rfl ?_
                                            refine G.iload_n dL_law_805 rfl rfl ?_
                                            refine G.iconst (1 : Int32) dL_law_806 ki_1 ?_
                                            refine G.iadd dL_law_807 ?_
                                            refine G.iald dL_law_808 h (fun v158 h => ?_)
                                            refine G.aload_n dL_law_809 rfl rfl ?_
                                            refine G.iload_n dL_law_810 rfl rfl ?_
                                            refine G.iconst (2 : Int32) dL_law_811 ki_2 ?_
                                            refine G.iadd dL_law_812 ?_
                                            refine G.iald dL_law_813 h (fun v159 h => ?_)
                                            refine G.callVi (ci := 11) [.int v158, .int v159] [] dL_law_814 lkL_88 okX11_when rfl (fun v hv => C_X11_when hv) (Nat.le_of_ble_eq_true rfl) rfl rfl (Nat.le_of_ble_eq_true rfl) h (fun v160 h => ?_)
                                            refine G.aload_n dL_law_817 rfl rfl ?_
                                            refine G.aload_n dL_law_818 rfl rfl ?_
                                            refine G.iload_n dL_law_819 rfl rfl ?_
                                            refine G.iconst (1 : Int32) dL_law_820 ki_1 ?_
                                            refine G.iadd dL_law_821 ?_
                                            refine G.iald dL_law_822 h (fun v161 h => ?_)
                                            refine G.aload_n dL_law_823 rfl rfl ?_
                                            refine G.iload_n dL_law_824 rfl rfl ?_
                                            refine G.iconst (2 : Int32) dL_law_825 ki_2 ?_
                                            refine G.iadd dL_law_826 ?_
                                            refine G.iald dL_law_827 h (fun v162 h => ?_)
                                            refine G.callVi (ci := 12) [.int v161, .int v162] [.int v160.1] dL_law_828 lkL_91 okX12_when rfl (fun v hv => C_X12_when hv) (Nat.le_of_ble_eq_true rfl) rfl rfl (Nat.le_of_ble_eq_true rfl) h (fun v163 h => ?_)
                                            refine G.icmp_eq 1782 dL_law_831 (by decide) h (fun c164 h => ?_) (fun c164 h => ?_)
                                            · refine G.sub (lv' := [(0, .ref a0), (1, .ref (mK M).length), (2, .ref (mK M3).length), (3, .int s7.1)]) [0, 1, 2, 3] rfl ?_
                                              exact Jj12 _ h
                                            · refine G.iconst (0 : Int32) dL_law_834 ki_0 ?_
                                              have h := leafR' h K7
                                              exact G.iretW dL_law_835 rfl (by decide) h
                                          · refine G.sw h (fun c165 h => ?_) (fun c165 h => ?_)
                                            · refine G.tableIn 836 dL_law_33 (by rw [c165]; decide) (by rw [c165]; decide) (by rw [c165]; rfl) (by decide) ?_
                                              refine G.aload_n dL_law_836 rfl rfl ?_
                                              refine G.aload_n dL_law_837 rfl rfl ?_
                                              refine G.iload_n dL_law_838 rfl rfl ?_
                                              refine G.iconst (1 : Int32) dL_law_839 ki_1 ?_
                                              refine G.iadd dL_law_840 ?_
                                              refine G.iald dL_law_841 h (fun v166 h => ?_)
                                              refine G.aload_n dL_law_842 rfl rfl ?_
                                              refine G.iload_n dL_law_843 rfl rfl ?_
                                              refine G.iconst (2 : Int32) dL_law_844 ki_2 ?_
                                              refine G.iadd dL_law_845 ?_
                                              refine G.iald dL_law_846 h (fun v167 h => ?_)
                                              refine G.aload_n dL_law_847 rfl rfl ?_
                                              refine G.iload_n dL_law_848 rfl rfl ?_
                                              refine G.iconst (3 : Int32) dL_law_849 ki_3 ?_
                                              refine G.iadd dL_law_850 ?_
                                              refine G.iald dL_law_851 h (fun v168 h => ?_)
                                              refine G.callVi (ci := 11) [.int v166, .int v167, .int v168] [] dL_law_852 lkL_92 okX11_seen rfl (fun v hv => C_X11_seen hv) (Nat.le_of_ble_eq_true rfl) rfl rfl (Nat.le_of_ble_eq_true rfl) h (fun v169 h => ?_)
                                              refine G.aload_n dL_law_855 rfl rfl ?_
                                              refine G.aload_n dL_law_856 rfl rfl ?_
                                              refine G.iload_n dL_law_857 rfl rfl ?_
                                              refine G.iconst (1 : Int32) dL_law_858 ki_1 ?_
                                              refine G.iadd dL_law_859 ?_
                                              refine G.iald dL_law_860 h (fun v170 h => ?_)
                                              refine G.aload_n dL_law_861 rfl rfl ?_
                                              refine G.iload_n dL_law_862 rfl rfl ?_
                                              refine G.iconst (2 : Int32) dL_law_863 ki_2 ?_
                                              refine G.iadd dL_law_864 ?_
                                              refine G.iald dL_law_865 h (fun v171 h => ?_)
                                              refine G.aload_n dL_law_866 rfl rfl ?_
                                              refine G.iload_n dL_law_867 rfl rfl ?_
                                              refine G.iconst (3 : Int32) dL_law_868 ki_3 ?_
                                              refine G.iadd dL_law_869 ?_
                                              refine G.iald dL_law_870 h (fun v172 h => ?_)
                                              refine G.callVi (ci := 12) [.int v170, .int v171, .int v172] [.int v169.1] dL_law_871 lkL_95 okX12_seen rfl (fun v hv => C_X12_seen hv) (Nat.le_of_ble_eq_true rfl) rfl rfl (Nat.le_of_ble_eq_true rfl) h (fun v173 h => ?_)
                                              refine G.icmp_eq 1782 dL_law_874 (by decide) h (fun c174 h => ?_) (fun c174 h => ?_)
                                              · refine G.sub (lv' := [(0, .ref a0), (1, .ref (mK M).length), (2, .ref (mK M3).length), (3, .int s7.1)]) [0, 1, 2, 3] rfl ?_
                                                exact Jj12 _ h
                                              · refine G.iconst (0 : Int32) dL_law_877 ki_0 ?_
                                                have h := leafR' h K7
                                                exact G.iretW dL_law_878 rfl (by decide) h
                                            · refine G.sw h (fun c175 h => ?_) (fun c175 h => ?_)
                                              · refine G.tableIn 879 dL_law_33 (by rw [c175]; decide) (by rw [c175]; decide) (by rw [c175]; rfl) (by decide) ?_
                                                refine G.aload_n dL_law_879 rfl rfl ?_
                                                refine G.aload_n dL_law_880 rfl rfl ?_
                                                refine G.iload_n dL_law_881 rfl rfl ?_
                                                refine G.iconst (1 : Int32) dL_law_882 ki_1 ?_
                                                refine G.iadd dL_law_883 ?_
                                                refine G.iald dL_law_884 h (fun v176 h => ?_)
                                                refine G.aload_n dL_law_885 rfl rfl ?_
                                                refine G.iload_n dL_law_886 rfl rfl ?_
                                                refine G.iconst (2 : Int32) dL_law_887 ki_2 ?_
                                                refine G.iadd dL_law_888 ?_
                                                refine G.iald dL_law_889 h (fun v177 h => ?_)
                                                refine G.aload_n dL_law_890 rfl rfl ?_
                                                refine G.iload_n dL_law_891 rfl rfl ?_
                                                refine G.iconst (3 : Int32) dL_law_892 ki_3 ?_
                                                refine G.iadd dL_law_893 ?_
                                                refine G.iald dL_law_894 h (fun v178 h => ?_)
                                                refine G.aload_n dL_law_895 rfl rfl ?_
                                                refine G.iload_n dL_law_896 rfl rfl ?_
                                                refine G.iconst (4 : Int32) dL_law_897 ki_4 ?_
                                                refine G.iadd dL_law_898 ?_
                                                refine G.iald dL_law_899 h (fun v179 h => ?_)
                                                refine G.aload_n dL_law_900 rfl rfl ?_
                                                refine G.iload_n dL_law_901 rfl rfl ?_
                                                refine G.iconst (5 : Int32) dL_law_902 ki_5 ?_
                                                refine G.iadd dL_law_903 ?_
                                                refine G.iald dL_law_904 h (fun v180 h => ?_)
                                                refine G.aload_n dL_law_905 rfl rfl ?_
                                                refine G.iload_n dL_law_906 rfl rfl ?_
                                                refine G.bipush (6 : Int32) dL_law_907 kb_6 ?_
                                                refine G.iadd dL_law_909 ?_
                                                refine G.iald dL_law_910 h (fun v181 h => ?_)
                                                refine jn_elim (fun j195 => ∀ (u182 : Int32), j195 u182 = some x7 → G yL_law cL_law 4 (some .boolean) 83 919 [(0, .ref a0), (1, .ref (mK M).length), (2, .ref (mK M3).length), (3, .int s7.1)] [.int u182, .int v180, .int v179, .int v178, .int v177, .int v176, .ref (mK M).length] s7.2 (some (.int o.1)) o.2) h ?_ ?_
                                                · intro u182 h
                                                  refine G.callVi (ci := 11) [.int v176, .int v177, .int v178, .int v179, .int v180, .int u182] [] dL_law_919 lkL_96 okX11_soon rfl (fun v hv => C_X11_soon hv) (Nat.le_of_ble_eq_true rfl) rfl rfl (Nat.le_of_ble_eq_true rfl) h (fun v183 h => ?_)
                                                  refine G.aload_n dL_law_922 rfl rfl ?_
                                                  refine G.aload_n dL_law_923 rfl rfl ?_
                                                  refine G.iload_n dL_law_924 rfl rfl ?_
                                                  refine G.iconst (1 : Int32) dL_law_925 ki_1 ?_
                                                  refine G.iadd dL_law_926 ?_
                                                  refine G.iald dL_law_927 h (fun v184 h => ?_)
                                                  refine G.aload_n dL_law_928 rfl rfl ?_
                                                  refine G.iload_n dL_law_929 rfl rfl ?_
                                                  refine G.iconst (2 : Int32) dL_law_930 ki_2 ?_
                                                  refine G.iadd dL_law_931 ?_
                                                  refine G.iald dL_law_932 h (fun v185 h => ?_)
                                                  refine G.aload_n dL_law_933 rfl rfl ?_
                                                  refine G.iload_n dL_law_934 rfl rfl ?_
                                                  refine G.iconst (3 : Int32) dL_law_935 ki_3 ?_
                                                  refine G.iadd dL_law_936 ?_
                                                  refine G.iald dL_law_937 h (fun v186 h => ?_)
                                                  refine G.aload_n dL_law_938 rfl rfl ?_
                                                  refine G.iload_n dL_law_939 rfl rfl ?_
                                                  refine G.iconst (4 : Int32) dL_law_940 ki_4 ?_
                                                  refine G.iadd dL_law_941 ?_
                                                  refine G.iald dL_law_942 h (fun v187 h => ?_)
                                                  refine G.aload_n dL_law_943 rfl rfl ?_
                                                  refine G.iload_n dL_law_944 rfl rfl ?_
                                                  refine G.iconst (5 : Int32) dL_law_945 ki_5 ?_
                                                  refine G.iadd dL_law_946 ?_
                                                  refine G.iald dL_law_947 h (fun v188 h => ?_)
                                                  refine G.aload_n dL_law_948 rfl rfl ?_
                                                  refine G.iload_n dL_law_949 rfl rfl ?_
                                                  refine G.bipush (6 : Int32) dL_law_950 kb_6 ?_
                                                  refine G.iadd dL_law_952 ?_
                                                  refine G.iald dL_law_953 h (fun v189 h => ?_)
                                                  refine jn_elim (fun j193 => ∀ (u190 : Int32), j193 u190 = some x7 → G yL_law cL_law 4 (some .boolean) 83 962 [(0, .ref a0), (1, .ref (mK M).length), (2, .ref (mK M3).length), (3, .int s7.1)] [.int u190, .int v188, .int v187, .int v186, .int v185, .int v184, .ref (mK M3).length, .int v183.1] v183.2 (some (.int o.1)) o.2) h ?_ ?_
                                                  · intro u190 h
                                                    refine G.callVi (ci := 12) [.int v184, .int v185, .int v186, .int v187, .int v188, .int u190] [.int v183.1] dL_law_962 lkL_100 okX12_soon rfl (fun v hv => C_X12_soon hv) (Nat.le_of_ble_eq_true rfl) rfl rfl (Nat.le_of_ble_eq_true rfl) h (fun v191 h => ?_)
                                                    refine G.icmp_eq 1782 dL_law_965 (by decide) h (fun c192 h => ?_) (fun c192 h => ?_)
                                                    · refine G.sub (lv' := [(0, .ref a0), (1, .ref (mK M).length), (2, .ref (mK M3).length), (3, .int s7.1)]) [0, 1, 2, 3] rfl ?_
                                                      exact Jj12 _ h
                                                    · refine G.iconst (0 : Int32) dL_law_968 ki_0 ?_
                                                      have h := leafR' h K7
                                                      exact G.iretW dL_law_969 rfl (by decide) h
                                                  · intro j193 Jj193 h
                                                    refine G.if_eq 961 dL_law_954 (by decide) h (fun c194 h => ?_) (fun c194 h => ?_)
                                                    · refine G.iconst (0 : Int32) dL_law_961 ki_0 ?_
                                                      refine G.sub (lv' := [(0, .ref a0), (1, .ref (mK M).length), (2, .ref (mK M3).length), (3, .int s7.1)]) [0, 1, 2, 3] rfl ?_
                                                      exact Jj193 _ h
                                                    · refine G.iconst (1 : Int32) dL_law_957 ki_1 ?_
                                                      refine G.goto 962 dL_law_958 (by decide) ?_
                                                      refine G.sub (lv' := [(0, .ref a0), (1, .ref (mK M).length), (2, .ref (mK M3).length), (3, .int s7.1)]) [0, 1, 2, 3] rfl ?_
                                                      exact Jj193 _ h
                                                · intro j195 Jj195 h
                                                  refine G.if_eq 918 dL_law_911 (by decide) h (fun c196 h => ?_) (fun c196 h => ?_)
                                                  · refine G.iconst (0 : Int32) dL_law_918 ki_0 ?_
                                                    refine G.sub (lv' := [(0, .ref a0), (1, .ref (mK M).length), (2, .ref (mK M3).length), (3, .int s7.1)]) [0, 1, 2, 3] rfl ?_
                                                    exact Jj195 _ h
                                                  · refine G.iconst (1 : Int32) dL_law_914 ki_1 ?_
                                                    refine G.goto 919 dL_law_915 (by decide) ?_
                                                    refine G.sub (lv' := [(0, .ref a0), (1, .ref (mK M).length), (2, .ref (mK M3).length), (3, .int s7.1)]) [0, 1, 2, 3] rfl ?_
                                                    exact Jj195 _ h
                                              · refine G.sw h (fun c197 h => ?_) (fun c197 h => ?_)
                                                · refine G.tableIn 970 dL_law_33 (by rw [c197]; decide) (by rw [c197]; decide) (by rw [c197]; rfl) (by decide) ?_
                                                  refine G.aload_n dL_law_970 rfl rfl ?_
                                                  refine G.aload_n dL_law_971 rfl rfl ?_
                                                  refine G.iload_n dL_law_972 rfl rfl ?_
                                                  refine G.iconst (1 : Int32) dL_law_973 ki_1 ?_
                                                  refine G.iadd dL_law_974 ?_
                                                  refine G.iald dL_law_975 h (fun v198 h => ?_)
                                                  refine G.aload_n dL_law_976 rfl rfl ?_
                                                  refine G.iload_n dL_law_977 rfl rfl ?_
                                                  refine G.iconst (2 : Int32) dL_law_978 ki_2 ?_
                                                  refine G.iadd dL_law_979 ?_
                                                  refine G.iald dL_law_980 h (fun v199 h => ?_)
                                                  refine G.aload_n dL_law_981 rfl rfl ?_
                                                  refine G.iload_n dL_law_982 rfl rfl ?_
                                                  refine G.iconst (3 : Int32) dL_law_983 ki_3 ?_
                                                  refine G.iadd dL_law_984 ?_
                                                  refine G.iald dL_law_985 h (fun v200 h => ?_)
                                                  refine G.aload_n dL_law_986 rfl rfl ?_
                                                  refine G.iload_n dL_law_987 rfl rfl ?_
                                                  refine G.iconst (4 : Int32) dL_law_988 ki_4 ?_
                                                  refine G.iadd dL_law_989 ?_
                                                  refine G.iald dL_law_990 h (fun v201 h => ?_)
                                                  refine G.aload_n dL_law_991 rfl rfl ?_
                                                  refine G.iload_n dL_law_992 rfl rfl ?_
                                                  refine G.iconst (5 : Int32) dL_law_993 ki_5 ?_
                                                  refine G.iadd dL_law_994 ?_
                                                  refine G.iald dL_law_995 h (fun v202 h => ?_)
                                                  refine jn_elim (fun j215 => ∀ (u203 : Int32), j215 u203 = some x7 → G yL_law cL_law 4 (some .boolean) 83 1004 [(0, .ref a0), (1, .ref (mK M).length), (2, .ref (mK M3).length), (3, .int s7.1)] [.int u203, .int v201, .int v200, .int v199, .int v198, .ref (mK M).length] s7.2 (some (.int o.1)) o.2) h ?_ ?_
                                                  · intro u203 h
                                                    refine G.callVi (ci := 11) [.int v198, .int v199, .int v200, .int v201, .int u203] [] dL_law_1004 lkL_101 okX11_all rfl (fun v hv => C_X11_all hv) (Nat.le_of_ble_eq_true rfl) rfl rfl (Nat.le_of_ble_eq_true rfl) h (fun v204 h => ?_)
                                                    refine G.aload_n dL_law_1007 rfl rfl ?_
                                                    refine G.aload_n dL_law_1008 rfl rfl ?_
                                                    refine G.iload_n dL_law_1009 rfl rfl ?_
                                                    refine G.iconst (1 : Int32) dL_law_1010 ki_1 ?_
                                                    refine G.iadd dL_law_1011 ?_
                                                    refine G.iald dL_law_1012 h (fun v205 h => ?_)
                                                    refine G.aload_n dL_law_1013 rfl rfl ?_
                                                    refine G.iload_n dL_law_1014 rfl rfl ?_
                                                    refine G.iconst (2 : Int32) dL_law_1015 ki_2 ?_
                                                    refine G.iadd dL_law_1016 ?_
                                                    refine G.iald dL_law_1017 h (fun v206 h => ?_)
                                                    refine G.aload_n dL_law_1018 rfl rfl ?_
                                                    refine G.iload_n dL_law_1019 rfl rfl ?_
                                                    refine G.iconst (3 : Int32) dL_law_1020 ki_3 ?_
                                                    refine G.iadd dL_law_1021 ?_
                                                    refine G.iald dL_law_1022 h (fun v207 h => ?_)
                                                    refine G.aload_n dL_law_1023 rfl rfl ?_
                                                    refine G.iload_n dL_law_1024 rfl rfl ?_
                                                    refine G.iconst (4 : Int32) dL_law_1025 ki_4 ?_
                                                    refine G.iadd dL_law_1026 ?_
                                                    refine G.iald dL_law_1027 h (fun v208 h => ?_)
                                                    refine G.aload_n dL_law_1028 rfl rfl ?_
                                                    refine G.iload_n dL_law_1029 rfl rfl ?_
                                                    refine G.iconst (5 : Int32) dL_law_1030 ki_5 ?_
                                                    refine G.iadd dL_law_1031 ?_
                                                    refine G.iald dL_law_1032 h (fun v209 h => ?_)
                                                    refine jn_elim (fun j213 => ∀ (u210 : Int32), j213 u210 = some x7 → G yL_law cL_law 4 (some .boolean) 83 1041 [(0, .ref a0), (1, .ref (mK M).length), (2, .ref (mK M3).length), (3, .int s7.1)] [.int u210, .int v208, .int v207, .int v206, .int v205, .ref (mK M3).length, .int v204.1] v204.2 (some (.int o.1)) o.2) h ?_ ?_
                                                    · intro u210 h
                                                      refine G.callVi (ci := 12) [.int v205, .int v206, .int v207, .int v208, .int u210] [.int v204.1] dL_law_1041 lkL_105 okX12_all rfl (fun v hv => C_X12_all hv) (Nat.le_of_ble_eq_true rfl) rfl rfl (Nat.le_of_ble_eq_true rfl) h (fun v211 h => ?_)
                                                      refine G.icmp_eq 1782 dL_law_1044 (by decide) h (fun c212 h => ?_) (fun c212 h => ?_)
                                                      · refine G.sub (lv' := [(0, .ref a0), (1, .ref (mK M).length), (2, .ref (mK M3).length), (3, .int s7.1)]) [0, 1, 2, 3] rfl ?_
                                                        exact Jj12 _ h
                                                      · refine G.iconst (0 : Int32) dL_law_1047 ki_0 ?_
                                                        have h := leafR' h K7
                                                        exact G.iretW dL_law_1048 rfl (by decide) h
                                                    · intro j213 Jj213 h
                                                      refine G.if_eq 1040 dL_law_1033 (by decide) h (fun c214 h => ?_) (fun c214 h => ?_)
                                                      · refine G.iconst (0 : Int32) dL_law_1040 ki_0 ?_
                                                        refine G.sub (lv' := [(0, .ref a0), (1, .ref (mK M).length), (2, .ref (mK M3).length), (3, .int s7.1)]) [0, 1, 2, 3] rfl ?_
                                                        exact Jj213 _ h
                                                      · refine G.iconst (1 : Int32) dL_law_1036 ki_1 ?_
                                                        refine G.goto 1041 dL_law_1037 (by decide) ?_
                                                        refine G.sub (lv' := [(0, .ref a0), (1, .ref (mK M).length), (2, .ref (mK M3).length), (3, .int s7.1)]) [0, 1, 2, 3] rfl ?_
                                                        exact Jj213 _ h
                                                  · intro j215 Jj215 h
                                                    refine G.if_eq 1003 dL_law_996 (by decide) h (fun c216 h => ?_) (fun c216 h => ?_)
                                                    · refine G.iconst (0 : Int32) dL_law_1003 ki_0 ?_
                                                      refine G.sub (lv' := [(0, .ref a0), (1, .ref (mK M).length), (2, .ref (mK M3).length), (3, .int s7.1)]) [0, 1, 2, 3] rfl ?_
                                                      exact Jj215 _ h
                                                    · refine G.iconst (1 : Int32) dL_law_999 ki_1 ?_
                                                      refine G.goto 1004 dL_law_1000 (by decide) ?_
                                                      refine G.sub (lv' := [(0, .ref a0), (1, .ref (mK M).length), (2, .ref (mK M3).length), (3, .int s7.1)]) [0, 1, 2, 3] rfl ?_
                                                      exact Jj215 _ h
                                                · refine G.sw h (fun c217 h => ?_) (fun c217 h => ?_)
                                                  · refine G.tableIn 1049 dL_law_33 (by rw [c217]; decide) (by rw [c217]; decide) (by rw [c217]; rfl) (by decide) ?_
                                                    refine G.aload_n dL_law_1049 rfl rfl ?_
                                                    refine G.aload_n dL_law_1050 rfl rfl ?_
                                                    refine G.iload_n dL_law_1051 rfl rfl ?_
                                                    refine G.iconst (1 : Int32) dL_law_1052 ki_1 ?_
                                                    refine G.iadd dL_law_1053 ?_
                                                    refine G.iald dL_law_1054 h (fun v218 h => ?_)
                                                    refine G.aload_n dL_law_1055 rfl rfl ?_
                                                    refine G.iload_n dL_law_1056 rfl rfl ?_
                                                    refine G.iconst (2 : Int32) dL_law_1057 ki_2 ?_
                                                    refine G.iadd dL_law_1058 ?_
                                                    refine G.iald dL_law_1059 h (fun v219 h => ?_)
                                                    refine G.aload_n dL_law_1060 rfl rfl ?_
                                                    refine G.iload_n dL_law_1061 rfl rfl ?_
                                                    refine G.iconst (3 : Int32) dL_law_1062 ki_3 ?_
                                                    refine G.iadd dL_law_1063 ?_
                                                    refine G.iald dL_law_1064 h (fun v220 h => ?_)
                                                    refine G.aload_n dL_law_1065 rfl rfl ?_
                                                    refine G.iload_n dL_law_1066 rfl rfl ?_
                                                    refine G.iconst (4 : Int32) dL_law_1067 ki_4 ?_
                                                    refine G.iadd dL_law_1068 ?_
                                                    refine G.iald dL_law_1069 h (fun v221 h => ?_)
                                                    refine G.aload_n dL_law_1070 rfl rfl ?_
                                                    refine G.iload_n dL_law_1071 rfl rfl ?_
                                                    refine G.iconst (5 : Int32) dL_law_1072 ki_5 ?_
                                                    refine G.iadd dL_law_1073 ?_
                                                    refine G.iald dL_law_1074 h (fun v222 h => ?_)
                                                    refine G.callVi (ci := 11) [.int v218, .int v219, .int v220, .int v221, .int v222] [] dL_law_1075 lkL_106 okX11_cheap rfl (fun v hv => C_X11_cheap hv) (Nat.le_of_ble_eq_true rfl) rfl rfl (Nat.le_of_ble_eq_true rfl) h (fun v223 h => ?_)
                                                    refine G.aload_n dL_law_1078 rfl rfl ?_
                                                    refine G.aload_n dL_law_1079 rfl rfl ?_
                                                    refine G.iload_n dL_law_1080 rfl rfl ?_
                                                    refine G.iconst (1 : Int32) dL_law_1081 ki_1 ?_
                                                    refine G.iadd dL_law_1082 ?_
                                                    refine G.iald dL_law_1083 h (fun v224 h => ?_)
                                                    refine G.aload_n dL_law_1084 rfl rfl ?_
                                                    refine G.iload_n dL_law_1085 rfl rfl ?_
                                                    refine G.iconst (2 : Int32) dL_law_1086 ki_2 ?_
                                                    refine G.iadd dL_law_1087 ?_
                                                    refine G.iald dL_law_1088 h (fun v225 h => ?_)
                                                    refine G.aload_n dL_law_1089 rfl rfl ?_
                                                    refine G.iload_n dL_law_1090 rfl rfl ?_
                                                    refine G.iconst (3 : Int32) dL_law_1091 ki_3 ?_
                                                    refine G.iadd dL_law_1092 ?_
                                                    refine G.iald dL_law_1093 h (fun v226 h => ?_)
                                                    refine G.aload_n dL_law_1094 rfl rfl ?_
                                                    refine G.iload_n dL_law_1095 rfl rfl ?_
                                                    refine G.iconst (4 : Int32) dL_law_1096 ki_4 ?_
                                                    refine G.iadd dL_law_1097 ?_
                                                    refine G.iald dL_law_1098 h (fun v227 h => ?_)
                                                    refine G.aload_n dL_law_1099 rfl rfl ?_
                                                    refine G.iload_n dL_law_1100 rfl rfl ?_
                                                    refine G.iconst (5 : Int32) dL_law_1101 ki_5 ?_
                                                    refine G.iadd dL_law_1102 ?_
                                                    refine G.iald dL_law_1103 h (fun v228 h => ?_)
                                                    refine G.callVi (ci := 12) [.int v224, .int v225, .int v226, .int v227, .int v228] [.int v223.1] dL_law_1104 lkL_109 okX12_cheap rfl (fun v hv => C_X12_cheap hv) (Nat.le_of_ble_eq_true rfl) rfl rfl (Nat.le_of_ble_eq_true rfl) h (fun v229 h => ?_)
                                                    refine G.icmp_eq 1782 dL_law_1107 (by decide) h (fun c230 h => ?_) (fun c230 h => ?_)
                                                    · refine G.sub (lv' := [(0, .ref a0), (1, .ref (mK M).length), (2, .ref (mK M3).length), (3, .int s7.1)]) [0, 1, 2, 3] rfl ?_
                                                      exact Jj12 _ h
                                                    · refine G.iconst (0 : Int32) dL_law_1110 ki_0 ?_
                                                      have h := leafR' h K7
                                                      exact G.iretW dL_law_1111 rfl (by decide) h
                                                  · refine G.sw h (fun c231 h => ?_) (fun c231 h => ?_)
                                                    · refine G.tableIn 1112 dL_law_33 (by rw [c231]; decide) (by rw [c231]; decide) (by rw [c231]; rfl) (by decide) ?_
                                                      refine G.aload_n dL_law_1112 rfl rfl ?_
                                                      refine G.aload_n dL_law_1113 rfl rfl ?_
                                                      refine G.iload_n dL_law_1114 rfl rfl ?_
                                                      refine G.iconst (1 : Int32) dL_law_1115 ki_1 ?_
                                                      refine G.iadd dL_law_1116 ?_
                                                      refine G.iald dL_law_1117 h (fun v232 h => ?_)
                                                      refine G.aload_n dL_law_1118 rfl rfl ?_
                                                      refine G.iload_n dL_law_1119 rfl rfl ?_
                                                      refine G.iconst (2 : Int32) dL_law_1120 ki_2 ?_
                                                      refine G.iadd dL_law_1121 ?_
                                                      refine G.iald dL_law_1122 h (fun v233 h => ?_)
                                                      refine G.aload_n dL_law_1123 rfl rfl ?_
                                                      refine G.iload_n dL_law_1124 rfl rfl ?_
                                                      refine G.iconst (3 : Int32) dL_law_1125 ki_3 ?_
                                                      refine G.iadd dL_law_1126 ?_
                                                      refine G.iald dL_law_1127 h (fun v234 h => ?_)
                                                      refine G.aload_n dL_law_1128 rfl rfl ?_
                                                      refine G.iload_n dL_law_1129 rfl rfl ?_
                                                      refine G.iconst (4 : Int32) dL_law_1130 ki_4 ?_
                                                      refine G.iadd dL_law_1131 ?_
                                                      refine G.iald dL_law_1132 h (fun v235 h => ?_)
                                                      refine G.aload_n dL_law_1133 rfl rfl ?_
                                                      refine G.iload_n dL_law_1134 rfl rfl ?_
                                                      refine G.iconst (5 : Int32) dL_law_1135 ki_5 ?_
                                                      refine G.iadd dL_law_1136 ?_
                                                      refine G.iald dL_law_1137 h (fun v236 h => ?_)
                                                      refine G.callVi (ci := 11) [.int v232, .int v233, .int v234, .int v235, .int v236] [] dL_law_1138 lkL_110 okX11_cheapAt rfl (fun v hv => C_X11_cheapAt hv) (Nat.le_of_ble_eq_true rfl) rfl rfl (Nat.le_of_ble_eq_true rfl) h (fun v237 h => ?_)
                                                      refine G.aload_n dL_law_1141 rfl rfl ?_
                                                      refine G.aload_n dL_law_1142 rfl rfl ?_
                                                      refine G.iload_n dL_law_1143 rfl rfl ?_
                                                      refine G.iconst (1 : Int32) dL_law_1144 ki_1 ?_
                                                      refine G.iadd dL_law_1145 ?_
                                                      refine G.iald dL_law_1146 h (fun v238 h => ?_)
                                                      refine G.aload_n dL_law_1147 rfl rfl ?_
                                                      refine G.iload_n dL_law_1148 rfl rfl ?_
                                                      refine G.iconst (2 : Int32) dL_law_1149 ki_2 ?_
                                                      refine G.iadd dL_law_1150 ?_
                                                      refine G.iald dL_law_1151 h (fun v239 h => ?_)
                                                      refine G.aload_n dL_law_1152 rfl rfl ?_
                                                      refine G.iload_n dL_law_1153 rfl rfl ?_
                                                      refine G.iconst (3 : Int32) dL_law_1154 ki_3 ?_
                                                      refine G.iadd dL_law_1155 ?_
                                                      refine G.iald dL_law_1156 h (fun v240 h => ?_)
                                                      refine G.aload_n dL_law_1157 rfl rfl ?_
                                                      refine G.iload_n dL_law_1158 rfl rfl ?_
                                                      refine G.iconst (4 : Int32) dL_law_1159 ki_4 ?_
                                                      refine G.iadd dL_law_1160 ?_
                                                      refine G.iald dL_law_1161 h (fun v241 h => ?_)
                                                      refine G.aload_n dL_law_1162 rfl rfl ?_
                                                      refine G.iload_n dL_law_1163 rfl rfl ?_
                                                      refine G.iconst (5 : Int32) dL_law_1164 ki_5 ?_
                                                      refine G.iadd dL_law_1165 ?_
                                                      refine G.iald dL_law_1166 h (fun v242 h => ?_)
                                                      refine G.callVi (ci := 12) [.int v238, .int v239, .int v240, .int v241, .int v242] [.int v237.1] dL_law_1167 lkL_113 okX12_cheapAt rfl (fun v hv => C_X12_cheapAt hv) (Nat.le_of_ble_eq_true rfl) rfl rfl (Nat.le_of_ble_eq_true rfl) h (fun v243 h => ?_)
                                                      refine G.icmp_eq 1782 dL_law_1170 (by decide) h (fun c244 h => ?_) (fun c244 h => ?_)
                                                      · refine G.sub (lv' := [(0, .ref a0), (1, .ref (mK M).length), (2, .ref (mK M3).length), (3, .int s7.1)]) [0, 1, 2, 3] rfl ?_
                                                        exact Jj12 _ h
                                                      · refine G.iconst (0 : Int32) dL_law_1173 ki_0 ?_
                                                        have h := leafR' h K7
                                                        exact G.iretW dL_law_1174 rfl (by decide) h
                                                    · refine G.sw h (fun c245 h => ?_) (fun c245 h => ?_)
                                                      · refine G.tableIn 1175 dL_law_33 (by rw [c245]; decide) (by rw [c245]; decide) (by rw [c245]; rfl) (by decide) ?_
                                                        refine G.aload_n dL_law_1175 rfl rfl ?_
                                                        refine G.aload_n dL_law_1176 rfl rfl ?_
                                                        refine G.iload_n dL_law_1177 rfl rfl ?_
                                                        refine G.iconst (1 : Int32) dL_law_1178 ki_1 ?_
                                                        refine G.iadd dL_law_1179 ?_
                                                        refine G.iald dL_law_1180 h (fun v246 h => ?_)
                                                        refine G.aload_n dL_law_1181 rfl rfl ?_
                                                        refine G.iload_n dL_law_1182 rfl rfl ?_
                                                        refine G.iconst (2 : Int32) dL_law_1183 ki_2 ?_
                                                        refine G.iadd dL_law_1184 ?_
                                                        refine G.iald dL_law_1185 h (fun v247 h => ?_)
                                                        refine G.callVi (ci := 11) [.int v246, .int v247] [] dL_law_1186 lkL_114 okX11_secret rfl (fun v hv => C_X11_secret hv) (Nat.le_of_ble_eq_true rfl) rfl rfl (Nat.le_of_ble_eq_true rfl) h (fun v248 h => ?_)
                                                        refine G.aload_n dL_law_1189 rfl rfl ?_
                                                        refine G.aload_n dL_law_1190 rfl rfl ?_
                                                        refine G.iload_n dL_law_1191 rfl rfl ?_
                                                        refine G.iconst (1 : Int32) dL_law_1192 ki_1 ?_
                                                        refine G.iadd dL_law_1193 ?_
                                                        refine G.iald dL_law_1194 h (fun v249 h => ?_)
                                                        refine G.aload_n dL_law_1195 rfl rfl ?_
                                                        refine G.iload_n dL_law_1196 rfl rfl ?_
                                                        refine G.iconst (2 : Int32) dL_law_1197 ki_2 ?_
                                                        refine G.iadd dL_law_1198 ?_
                                                        refine G.iald dL_law_1199 h (fun v250 h => ?_)
                                                        refine G.callVi (ci := 12) [.int v249, .int v250] [.int v248] dL_law_1200 lkL_117 okX12_secret rfl (fun v hv => C_X12_secret hv) (Nat.le_of_ble_eq_true rfl) rfl rfl (Nat.le_of_ble_eq_true rfl) h (fun v251 h => ?_)
                                                        refine G.icmp_eq 1782 dL_law_1203 (by decide) h (fun c252 h => ?_) (fun c252 h => ?_)
                                                        · refine G.sub (lv' := [(0, .ref a0), (1, .ref (mK M).length), (2, .ref (mK M3).length), (3, .int s7.1)]) [0, 1, 2, 3] rfl ?_
                                                          exact Jj12 _ h
                                                        · refine G.iconst (0 : Int32) dL_law_1206 ki_0 ?_
                                                          have h := leafR' h K7
                                                          exact G.iretW dL_law_1207 rfl (by decide) h
                                                      · refine G.sw h (fun c253 h => ?_) (fun c253 h => ?_)
                                                        · refine G.tableIn 1208 dL_law_33 (by rw [c253]; decide) (by rw [c253]; decide) (by rw [c253]; rfl) (by decide) ?_
                                                          refine G.aload_n dL_law_1208 rfl rfl ?_
                                                          refine G.aload_n dL_law_1209 rfl rfl ?_
                                                          refine G.iload_n dL_law_1210 rfl rfl ?_
                                                          refine G.iconst (1 : Int32) dL_law_1211 ki_1 ?_
                                                          refine G.iadd dL_law_1212 ?_
                                                          refine G.iald dL_law_1213 h (fun v254 h => ?_)
                                                          refine G.aload_n dL_law_1214 rfl rfl ?_
                                                          refine G.iload_n dL_law_1215 rfl rfl ?_
                                                          refine G.iconst (2 : Int32) dL_law_1216 ki_2 ?_
                                                          refine G.iadd dL_law_1217 ?_
                                                          refine G.iald dL_law_1218 h (fun v255 h => ?_)
                                                          refine G.callVi (ci := 11) [.int v254, .int v255] [] dL_law_1219 lkL_118 okX11_below rfl (fun v hv => C_X11_below hv) (Nat.le_of_ble_eq_true rfl) rfl rfl (Nat.le_of_ble_eq_true rfl) h (fun v256 h => ?_)
                                                          refine G.aload_n dL_law_1222 rfl rfl ?_
                                                          refine G.aload_n dL_law_1223 rfl rfl ?_
                                                          refine G.iload_n dL_law_1224 rfl rfl ?_
                                                          refine G.iconst (1 : Int32) dL_law_1225 ki_1 ?_
                                                          refine G.iadd dL_law_1226 ?_
                                                          refine G.iald dL_law_1227 h (fun v257 h => ?_)
                                                          refine G.aload_n dL_law_1228 rfl rfl ?_
                                                          refine G.iload_n dL_law_1229 rfl rfl ?_
                                                          refine G.iconst (2 : Int32) dL_law_1230 ki_2 ?_
                                                          refine G.iadd dL_law_1231 ?_
                                                          refine G.iald dL_law_1232 h (fun v258 h => ?_)
                                                          refine G.callVi (ci := 12) [.int v257, .int v258] [.int v256] dL_law_1233 lkL_121 okX12_below rfl (fun v hv => C_X12_below hv) (Nat.le_of_ble_eq_true rfl) rfl rfl (Nat.le_of_ble_eq_true rfl) h (fun v259 h => ?_)
                                                          refine G.icmp_eq 1782 dL_law_1236 (by decide) h (fun c260 h => ?_) (fun c260 h => ?_)
                                                          · refine G.sub (lv' := [(0, .ref a0), (1, .ref (mK M).length), (2, .ref (mK M3).length), (3, .int s7.1)]) [0, 1, 2, 3] rfl ?_
                                                            exact Jj12 _ h
                                                          · refine G.iconst (0 : Int32) dL_law_1239 ki_0 ?_
                                                            have h := leafR' h K7
                                                            exact G.iretW dL_law_1240 rfl (by decide) h
                                                        · refine G.sw h (fun c261 h => ?_) (fun c261 h => ?_)
                                                          · refine G.tableIn 1241 dL_law_33 (by rw [c261]; decide) (by rw [c261]; decide) (by rw [c261]; rfl) (by decide) ?_
                                                            refine G.aload_n dL_law_1241 rfl rfl ?_
                                                            refine G.aload_n dL_law_1242 rfl rfl ?_
                                                            refine G.iload_n dL_law_1243 rfl rfl ?_
                                                            refine G.iconst (1 : Int32) dL_law_1244 ki_1 ?_
                                                            refine G.iadd dL_law_1245 ?_
                                                            refine G.iald dL_law_1246 h (fun v262 h => ?_)
                                                            refine G.aload_n dL_law_1247 rfl rfl ?_
                                                            refine G.iload_n dL_law_1248 rfl rfl ?_
                                                            refine G.iconst (2 : Int32) dL_law_1249 ki_2 ?_
                                                            refine G.iadd dL_law_1250 ?_
                                                            refine G.iald dL_law_1251 h (fun v263 h => ?_)
                                                            refine G.aload_n dL_law_1252 rfl rfl ?_
                                                            refine G.iload_n dL_law_1253 rfl rfl ?_
                                                            refine G.iconst (3 : Int32) dL_law_1254 ki_3 ?_
                                                            refine G.iadd dL_law_1255 ?_
                                                            refine G.iald dL_law_1256 h (fun v264 h => ?_)
                                                            refine G.callVi (ci := 11) [.int v262, .int v263, .int v264] [] dL_law_1257 lkL_122 okX11_stand rfl (fun v hv => C_X11_stand hv) (Nat.le_of_ble_eq_true rfl) rfl rfl (Nat.le_of_ble_eq_true rfl) h (fun v265 h => ?_)
                                                            refine G.aload_n dL_law_1260 rfl rfl ?_
                                                            refine G.aload_n dL_law_1261 rfl rfl ?_
                                                            refine G.iload_n dL_law_1262 rfl rfl ?_
                                                            refine G.iconst (1 : Int32) dL_law_1263 ki_1 ?_
                                                            refine G.iadd dL_law_1264 ?_
                                                            refine G.iald dL_law_1265 h (fun v266 h => ?_)
                                                            refine G.aload_n dL_law_1266 rfl rfl ?_
                                                            refine G.iload_n dL_law_1267 rfl rfl ?_
                                                            refine G.iconst (2 : Int32) dL_law_1268 ki_2 ?_
                                                            refine G.iadd dL_law_1269 ?_
                                                            refine G.iald dL_law_1270 h (fun v267 h => ?_)
                                                            refine G.aload_n dL_law_1271 rfl rfl ?_
                                                            refine G.iload_n dL_law_1272 rfl rfl ?_
                                                            refine G.iconst (3 : Int32) dL_law_1273 ki_3 ?_
                                                            refine G.iadd dL_law_1274 ?_
                                                            refine G.iald dL_law_1275 h (fun v268 h => ?_)
                                                            refine G.callVi (ci := 12) [.int v266, .int v267, .int v268] [.int v265] dL_law_1276 lkL_125 okX12_stand rfl (fun v hv => C_X12_stand hv) (Nat.le_of_ble_eq_true rfl) rfl rfl (Nat.le_of_ble_eq_true rfl) h (fun v269 h => ?_)
                                                            refine G.icmp_eq 1782 dL_law_1279 (by decide) h (fun c270 h => ?_) (fun c270 h => ?_)
                                                            · refine G.sub (lv' := [(0, .ref a0), (1, .ref (mK M).length), (2, .ref (mK M3).length), (3, .int s7.1)]) [0, 1, 2, 3] rfl ?_
                                                              exact Jj12 _ h
                                                            · refine G.iconst (0 : Int32) dL_law_1282 ki_0 ?_
                                                              have h := leafR' h K7
                                                              exact G.iretW dL_law_1283 rfl (by decide) h
                                                          · refine G.sw h (fun c271 h => ?_) (fun c271 h => ?_)
                                                            · refine G.tableIn 1284 dL_law_33 (by rw [c271]; decide) (by rw [c271]; decide) (by rw [c271]; rfl) (by decide) ?_
                                                              refine G.aload_n dL_law_1284 rfl rfl ?_
                                                              refine G.aload_n dL_law_1285 rfl rfl ?_
                                                              refine G.iload_n dL_law_1286 rfl rfl ?_
                                                              refine G.iconst (1 : Int32) dL_law_1287 ki_1 ?_
                                                              refine G.iadd dL_law_1288 ?_
                                                              refine G.iald dL_law_1289 h (fun v272 h => ?_)
                                                              refine G.aload_n dL_law_1290 rfl rfl ?_
                                                              refine G.iload_n dL_law_1291 rfl rfl ?_
                                                              refine G.iconst (2 : Int32) dL_law_1292 ki_2 ?_
                                                              refine G.iadd dL_law_1293 ?_
                                                              refine G.iald dL_law_1294 h (fun v273 h => ?_)
                                                              refine G.aload_n dL_law_1295 rfl rfl ?_
                                                              refine G.iload_n dL_law_1296 rfl rfl ?_
                                                              refine G.iconst (3 : Int32) dL_law_1297 ki_3 ?_
                                                              refine G.iadd dL_law_1298 ?_
                                                              refine G.iald dL_law_1299 h (fun v274 h => ?_)
                                                              refine G.callVi (ci := 11) [.int v272, .int v273, .int v274] [] dL_law_1300 lkL_126 okX11_best rfl (fun v hv => C_X11_best hv) (Nat.le_of_ble_eq_true rfl) rfl rfl (Nat.le_of_ble_eq_true rfl) h (fun v275 h => ?_)
                                                              refine G.aload_n dL_law_1303 rfl rfl ?_
                                                              refine G.aload_n dL_law_1304 rfl rfl ?_
                                                              refine G.iload_n dL_law_1305 rfl rfl ?_
                                                              refine G.iconst (1 : Int32) dL_law_1306 ki_1 ?_
                                                              refine G.iadd dL_law_1307 ?_
                                                              refine G.iald dL_law_1308 h (fun v276 h => ?_)
                                                              refine G.aload_n dL_law_1309 rfl rfl ?_
                                                              refine G.iload_n dL_law_1310 rfl rfl ?_
                                                              refine G.iconst (2 : Int32) dL_law_1311 ki_2 ?_
                                                              refine G.iadd dL_law_1312 ?_
                                                              refine G.iald dL_law_1313 h (fun v277 h => ?_)
                                                              refine G.aload_n dL_law_1314 rfl rfl ?_
                                                              refine G.iload_n dL_law_1315 rfl rfl ?_
                                                              refine G.iconst (3 : Int32) dL_law_1316 ki_3 ?_
                                                              refine G.iadd dL_law_1317 ?_
                                                              refine G.iald dL_law_1318 h (fun v278 h => ?_)
                                                              refine G.callVi (ci := 12) [.int v276, .int v277, .int v278] [.int v275] dL_law_1319 lkL_129 okX12_best rfl (fun v hv => C_X12_best hv) (Nat.le_of_ble_eq_true rfl) rfl rfl (Nat.le_of_ble_eq_true rfl) h (fun v279 h => ?_)
                                                              refine G.icmp_eq 1782 dL_law_1322 (by decide) h (fun c280 h => ?_) (fun c280 h => ?_)
                                                              · refine G.sub (lv' := [(0, .ref a0), (1, .ref (mK M).length), (2, .ref (mK M3).length), (3, .int s7.1)]) [0, 1, 2, 3] rfl ?_
                                                                exact Jj12 _ h
                                                              · refine G.iconst (0 : Int32) dL_law_1325 ki_0 ?_
                                                                have h := leafR' h K7
                                                                exact G.iretW dL_law_1326 rfl (by decide) h
                                                            · refine G.sw h (fun c281 h => ?_) (fun c281 h => ?_)
                                                              · refine G.tableIn 1327 dL_law_33 (by rw [c281]; decide) (by rw [c281]; decide) (by rw [c281]; rfl) (by decide) ?_
                                                                refine G.aload_n dL_law_1327 rfl rfl ?_
                                                                refine G.aload_n dL_law_1328 rfl rfl ?_
                                                                refine G.iload_n dL_law_1329 rfl rfl ?_
                                                                refine G.iconst (1 : Int32) dL_law_1330 ki_1 ?_
                                                                refine G.iadd dL_law_1331 ?_
                                                                refine G.iald dL_law_1332 h (fun v282 h => ?_)
                                                                refine G.aload_n dL_law_1333 rfl rfl ?_
                                                                refine G.iload_n dL_law_1334 rfl rfl ?_
                                                                refine G.iconst (2 : Int32) dL_law_1335 ki_2 ?_
                                                                refine G.iadd dL_law_1336 ?_
                                                                refine G.iald dL_law_1337 h (fun v283 h => ?_)
                                                                refine G.callVi (ci := 11) [.int v282, .int v283] [] dL_law_1338 lkL_130 okX11_lost rfl (fun v hv => C_X11_lost hv) (Nat.le_of_ble_eq_true rfl) rfl rfl (Nat.le_of_ble_eq_true rfl) h (fun v284 h => ?_)
                                                                refine G.aload_n dL_law_1341 rfl rfl ?_
                                                                refine G.aload_n dL_law_1342 rfl rfl ?_
                                                                refine G.iload_n dL_law_1343 rfl rfl ?_
                                                                refine G.iconst (1 : Int32) dL_law_1344 ki_1 ?_
                                                                refine G.iadd dL_law_1345 ?_
                                                                refine G.iald dL_law_1346 h (fun v285 h => ?_)
                                                                refine G.aload_n dL_law_1347 rfl rfl ?_
                                                                refine G.iload_n dL_law_1348 rfl rfl ?_
                                                                refine G.iconst (2 : Int32) dL_law_1349 ki_2 ?_
                                                                refine G.iadd dL_law_1350 ?_
                                                                refine G.iald dL_law_1351 h (fun v286 h => ?_)
                                                                refine G.callVi (ci := 12) [.int v285, .int v286] [.int v284.1] dL_law_1352 lkL_133 okX12_lost rfl (fun v hv => C_X12_lost hv) (Nat.le_of_ble_eq_true rfl) rfl rfl (Nat.le_of_ble_eq_true rfl) h (fun v287 h => ?_)
                                                                refine G.icmp_eq 1782 dL_law_1355 (by decide) h (fun c288 h => ?_) (fun c288 h => ?_)
                                                                · refine G.sub (lv' := [(0, .ref a0), (1, .ref (mK M).length), (2, .ref (mK M3).length), (3, .int s7.1)]) [0, 1, 2, 3] rfl ?_
                                                                  exact Jj12 _ h
                                                                · refine G.iconst (0 : Int32) dL_law_1358 ki_0 ?_
                                                                  have h := leafR' h K7
                                                                  exact G.iretW dL_law_1359 rfl (by decide) h
                                                              · refine G.sw h (fun c289 h => ?_) (fun c289 h => ?_)
                                                                · refine G.tableIn 1360 dL_law_33 (by rw [c289]; decide) (by rw [c289]; decide) (by rw [c289]; rfl) (by decide) ?_
                                                                  refine G.aload_n dL_law_1360 rfl rfl ?_
                                                                  refine G.aload_n dL_law_1361 rfl rfl ?_
                                                                  refine G.iload_n dL_law_1362 rfl rfl ?_
                                                                  refine G.iconst (1 : Int32) dL_law_1363 ki_1 ?_
                                                                  refine G.iadd dL_law_1364 ?_
                                                                  refine G.iald dL_law_1365 h (fun v290 h => ?_)
                                                                  refine G.aload_n dL_law_1366 rfl rfl ?_
                                                                  refine G.iload_n dL_law_1367 rfl rfl ?_
                                                                  refine G.iconst (2 : Int32) dL_law_1368 ki_2 ?_
                                                                  refine G.iadd dL_law_1369 ?_
                                                                  refine G.iald dL_law_1370 h (fun v291 h => ?_)
                                                                  refine G.callVi (ci := 11) [.int v290, .int v291] [] dL_law_1371 lkL_134 okX11_before rfl (fun v hv => C_X11_before hv) (Nat.le_of_ble_eq_true rfl) rfl rfl (Nat.le_of_ble_eq_true rfl) h (fun v292 h => ?_)
                                                                  refine G.aload_n dL_law_1374 rfl rfl ?_
                                                                  refine G.aload_n dL_law_1375 rfl rfl ?_
                                                                  refine G.iload_n dL_law_1376 rfl rfl ?_
                                                                  refine G.iconst (1 : Int32) dL_law_1377 ki_1 ?_
                                                                  refine G.iadd dL_law_1378 ?_
                                                                  refine G.iald dL_law_1379 h (fun v293 h => ?_)
                                                                  refine G.aload_n dL_law_1380 rfl rfl ?_
                                                                  refine G.iload_n dL_law_1381 rfl rfl ?_
                                                                  refine G.iconst (2 : Int32) dL_law_1382 ki_2 ?_
                                                                  refine G.iadd dL_law_1383 ?_
                                                                  refine G.iald dL_law_1384 h (fun v294 h => ?_)
                                                                  refine G.callVi (ci := 12) [.int v293, .int v294] [.int v292.1] dL_law_1385 lkL_137 okX12_before rfl (fun v hv => C_X12_before hv) (Nat.le_of_ble_eq_true rfl) rfl rfl (Nat.le_of_ble_eq_true rfl) h (fun v295 h => ?_)
                                                                  refine G.icmp_eq 1782 dL_law_1388 (by decide) h (fun c296 h => ?_) (fun c296 h => ?_)
                                                                  · refine G.sub (lv' := [(0, .ref a0), (1, .ref (mK M).length), (2, .ref (mK M3).length), (3, .int s7.1)]) [0, 1, 2, 3] rfl ?_
                                                                    exact Jj12 _ h
                                                                  · refine G.iconst (0 : Int32) dL_law_1391 ki_0 ?_
                                                                    have h := leafR' h K7
                                                                    exact G.iretW dL_law_1392 rfl (by decide) h
                                                                · refine G.sw h (fun c297 h => ?_) (fun c297 h => ?_)
                                                                  · refine G.tableIn 1393 dL_law_33 (by rw [c297]; decide) (by rw [c297]; decide) (by rw [c297]; rfl) (by decide) ?_
                                                                    refine G.aload_n dL_law_1393 rfl rfl ?_
                                                                    refine G.aload_n dL_law_1394 rfl rfl ?_
                                                                    refine G.iload_n dL_law_1395 rfl rfl ?_
                                                                    refine G.iconst (1 : Int32) dL_law_1396 ki_1 ?_
                                                                    refine G.iadd dL_law_1397 ?_
                                                                    refine G.iald dL_law_1398 h (fun v298 h => ?_)
                                                                    refine G.callVi (ci := 11) [.int v298] [] dL_law_1399 lkL_138 okX11_missed rfl (fun v hv => C_X11_missed hv) (Nat.le_of_ble_eq_true rfl) rfl rfl (Nat.le_of_ble_eq_true rfl) h (fun v299 h => ?_)
                                                                    refine G.aload_n dL_law_1402 rfl rfl ?_
                                                                    refine G.aload_n dL_law_1403 rfl rfl ?_
                                                                    refine G.iload_n dL_law_1404 rfl rfl ?_
                                                                    refine G.iconst (1 : Int32) dL_law_1405 ki_1 ?_
                                                                    refine G.iadd dL_law_1406 ?_
                                                                    refine G.iald dL_law_1407 h (fun v300 h => ?_)
                                                                    refine G.callVi (ci := 12) [.int v300] [.int v299.1] dL_law_1408 lkL_141 okX12_missed rfl (fun v hv => C_X12_missed hv) (Nat.le_of_ble_eq_true rfl) rfl rfl (Nat.le_of_ble_eq_true rfl) h (fun v301 h => ?_)
                                                                    refine G.icmp_eq 1782 dL_law_1411 (by decide) h (fun c302 h => ?_) (fun c302 h => ?_)
                                                                    · refine G.sub (lv' := [(0, .ref a0), (1, .ref (mK M).length), (2, .ref (mK M3).length), (3, .int s7.1)]) [0, 1, 2, 3] rfl ?_
                                                                      exact Jj12 _ h
                                                                    · refine G.iconst (0 : Int32) dL_law_1414 ki_0 ?_
                                                                      have h := leafR' h K7
                                                                      exact G.iretW dL_law_1415 rfl (by decide) h
                                                                  · refine G.sw h (fun c303 h => ?_) (fun c303 h => ?_)
                                                                    · refine G.tableIn 1416 dL_law_33 (by rw [c303]; decide) (by rw [c303]; decide) (by rw [c303]; rfl) (by decide) ?_
                                                                      refine G.aload_n dL_law_1416 rfl rfl ?_
                                                                      refine G.callVi (ci := 11) [] [] dL_law_1417 lkL_142 okX11_harm rfl (fun v hv => C_X11_harm hv) (Nat.le_of_ble_eq_true rfl) rfl rfl (Nat.le_of_ble_eq_true rfl) h (fun v304 h => ?_)
                                                                      refine G.aload_n dL_law_1420 rfl rfl ?_
                                                                      refine G.callVi (ci := 12) [] [.int v304.1] dL_law_1421 lkL_145 okX12_harm rfl (fun v hv => C_X12_harm hv) (Nat.le_of_ble_eq_true rfl) rfl rfl (Nat.le_of_ble_eq_true rfl) h (fun v305 h => ?_)
                                                                      refine G.icmp_eq 1782 dL_law_1424 (by decide) h (fun c306 h => ?_) (fun c306 h => ?_)
                                                                      · refine G.sub (lv' := [(0, .ref a0), (1, .ref (mK M).length), (2, .ref (mK M3).length), (3, .int s7.1)]) [0, 1, 2, 3] rfl ?_
                                                                        exact Jj12 _ h
                                                                      · refine G.iconst (0 : Int32) dL_law_1427 ki_0 ?_
                                                                        have h := leafR' h K7
                                                                        exact G.iretW dL_law_1428 rfl (by decide) h
                                                                    · refine G.sw h (fun c307 h => ?_) (fun c307 h => ?_)
                                                                      · refine G.tableIn 1429 dL_law_33 (by rw [c307]; decide) (by rw [c307]; decide) (by rw [c307]; rfl) (by decide) ?_
                                                                        refine G.aload_n dL_law_1429 rfl rfl ?_
                                                                        refine G.aload_n dL_law_1430 rfl rfl ?_
                                                                        refine G.iload_n dL_law_1431 rfl rfl ?_
                                                                        refine G.iconst (1 : Int32) dL_law_1432 ki_1 ?_
                                                                        refine G.iadd dL_law_1433 ?_
                                                                        refine G.iald dL_law_1434 h (fun v308 h => ?_)
                                                                        refine G.callVi (ci := 11) [.int v308] [] dL_law_1435 lkL_146 okX11_can rfl (fun v hv => C_X11_can hv) (Nat.le_of_ble_eq_true rfl) rfl rfl (Nat.le_of_ble_eq_true rfl) h (fun v309 h => ?_)
                                                                        refine G.aload_n dL_law_1438 rfl rfl ?_
                                                                        refine G.aload_n dL_law_1439 rfl rfl ?_
                                                                        refine G.iload_n dL_law_1440 rfl rfl ?_
                                                                        refine G.iconst (1 : Int32) dL_law_1441 ki_1 ?_
                                                                        refine G.iadd dL_law_1442 ?_
                                                                        refine G.iald dL_law_1443 h (fun v310 h => ?_)
                                                                        refine G.callVi (ci := 12) [.int v310] [.int v309.1] dL_law_1444 lkL_149 okX12_can rfl (fun v hv => C_X12_can hv) (Nat.le_of_ble_eq_true rfl) rfl rfl (Nat.le_of_ble_eq_true rfl) h (fun v311 h => ?_)
                                                                        refine G.icmp_eq 1782 dL_law_1447 (by decide) h (fun c312 h => ?_) (fun c312 h => ?_)
                                                                        · refine G.sub (lv' := [(0, .ref a0), (1, .ref (mK M).length), (2, .ref (mK M3).length), (3, .int s7.1)]) [0, 1, 2, 3] rfl ?_
                                                                          exact Jj12 _ h
                                                                        · refine G.iconst (0 : Int32) dL_law_1450 ki_0 ?_
                                                                          have h := leafR' h K7
                                                                          exact G.iretW dL_law_1451 rfl (by decide) h
                                                                      · refine G.sw h (fun c313 h => ?_) (fun c313 h => ?_)
                                                                        · refine G.tableIn 1452 dL_law_33 (by rw [c313]; decide) (by rw [c313]; decide) (by rw [c313]; rfl) (by decide) ?_
                                                                          refine G.aload_n dL_law_1452 rfl rfl ?_
                                                                          refine G.aload_n dL_law_1453 rfl rfl ?_
                                                                          refine G.iload_n dL_law_1454 rfl rfl ?_
                                                                          refine G.iconst (1 : Int32) dL_law_1455 ki_1 ?_
                                                                          refine G.iadd dL_law_1456 ?_
                                                                          refine G.iald dL_law_1457 h (fun v314 h => ?_)
                                                                          refine G.aload_n dL_law_1458 rfl rfl ?_
                                                                          refine G.iload_n dL_law_1459 rfl rfl ?_
                                                                          refine G.iconst (2 : Int32) dL_law_1460 ki_2 ?_
                                                                          refine G.iadd dL_law_1461 ?_
                                                                          refine G.iald dL_law_1462 h (fun v315 h => ?_)
                                                                          refine G.callVi (ci := 11) [.int v314, .int v315] [] dL_law_1463 lkL_150 okX11_task rfl (fun v hv => C_X11_task hv) (Nat.le_of_ble_eq_true rfl) rfl rfl (Nat.le_of_ble_eq_true rfl) h (fun v316 h => ?_)
                                                                          refine G.aload_n dL_law_1466 rfl rfl ?_
                                                                          refine G.aload_n dL_law_1467 rfl rfl ?_
                                                                          refine G.iload_n dL_law_1468 rfl rfl ?_
                                                                          refine G.iconst (1 : Int32) dL_law_1469 ki_1 ?_
                                                                          refine G.iadd dL_law_1470 ?_
                                                                          refine G.iald dL_law_1471 h (fun v317 h => ?_)
                                                                          refine G.aload_n dL_law_1472 rfl rfl ?_
                                                                          refine G.iload_n dL_law_1473 rfl rfl ?_
                                                                          refine G.iconst (2 : Int32) dL_law_1474 ki_2 ?_
                                                                          refine G.iadd dL_law_1475 ?_
                                                                          refine G.iald dL_law_1476 h (fun v318 h => ?_)
                                                                          refine G.callVi (ci := 12) [.int v317, .int v318] [.int v316.1] dL_law_1477 lkL_153 okX12_task rfl (fun v hv => C_X12_task hv) (Nat.le_of_ble_eq_true rfl) rfl rfl (Nat.le_of_ble_eq_true rfl) h (fun v319 h => ?_)
                                                                          refine G.icmp_eq 1782 dL_law_1480 (by decide) h (fun c320 h => ?_) (fun c320 h => ?_)
                                                                          · refine G.sub (lv' := [(0, .ref a0), (1, .ref (mK M).length), (2, .ref (mK M3).length), (3, .int s7.1)]) [0, 1, 2, 3] rfl ?_
                                                                            exact Jj12 _ h
                                                                          · refine G.iconst (0 : Int32) dL_law_1483 ki_0 ?_
                                                                            have h := leafR' h K7
                                                                            exact G.iretW dL_law_1484 rfl (by decide) h
                                                                        · refine G.sw h (fun c321 h => ?_) (fun c321 h => ?_)
                                                                          · refine G.tableIn 1485 dL_law_33 (by rw [c321]; decide) (by rw [c321]; decide) (by rw [c321]; rfl) (by decide) ?_
                                                                            refine G.aload_n dL_law_1485 rfl rfl ?_
                                                                            refine G.aload_n dL_law_1486 rfl rfl ?_
                                                                            refine G.iload_n dL_law_1487 rfl rfl ?_
                                                                            refine G.iconst (1 : Int32) dL_law_1488 ki_1 ?_
                                                                            refine G.iadd dL_law_1489 ?_
                                                                            refine G.iald dL_law_1490 h (fun v322 h => ?_)
                                                                            refine G.aload_n dL_law_1491 rfl rfl ?_
                                                                            refine G.iload_n dL_law_1492 rfl rfl ?_
                                                                            refine G.iconst (2 : Int32) dL_law_1493 ki_2 ?_
                                                                            refine G.iadd dL_law_1494 ?_
                                                                            refine G.iald dL_law_1495 h (fun v323 h => ?_)
                                                                            refine G.callVi (ci := 11) [.int v322, .int v323] [] dL_law_1496 lkL_154 okX11_rank rfl (fun v hv => C_X11_rank hv) (Nat.le_of_ble_eq_true rfl) rfl rfl (Nat.le_of_ble_eq_true rfl) h (fun v324 h => ?_)
                                                                            refine G.aload_n dL_law_1499 rfl rfl ?_
                                                                            refine G.aload_n dL_law_1500 rfl rfl ?_
                                                                            refine G.iload_n dL_law_1501 rfl rfl ?_
                                                                            refine G.iconst (1 : Int32) dL_law_1502 ki_1 ?_
                                                                            refine G.iadd dL_law_1503 ?_
                                                                            refine G.iald dL_law_1504 h (fun v325 h => ?_)
                                                                            refine G.aload_n dL_law_1505 rfl rfl ?_
                                                                            refine G.iload_n dL_law_1506 rfl rfl ?_
                                                                            refine G.iconst (2 : Int32) dL_law_1507 ki_2 ?_
                                                                            refine G.iadd dL_law_1508 ?_
                                                                            refine G.iald dL_law_1509 h (fun v326 h => ?_)
                                                                            refine G.callVi (ci := 12) [.int v325, .int v326] [.int v324.1] dL_law_1510 lkL_157 okX12_rank rfl (fun v hv => C_X12_rank hv) (Nat.le_of_ble_eq_true rfl) rfl rfl (Nat.le_of_ble_eq_true rfl) h (fun v327 h => ?_)
                                                                            refine G.icmp_eq 1782 dL_law_1513 (by decide) h (fun c328 h => ?_) (fun c328 h => ?_)
                                                                            · refine G.sub (lv' := [(0, .ref a0), (1, .ref (mK M).length), (2, .ref (mK M3).length), (3, .int s7.1)]) [0, 1, 2, 3] rfl ?_
                                                                              exact Jj12 _ h
                                                                            · refine G.iconst (0 : Int32) dL_law_1516 ki_0 ?_
                                                                              have h := leafR' h K7
                                                                              exact G.iretW dL_law_1517 rfl (by decide) h
                                                                          · refine G.sw h (fun c329 h => ?_) (fun c329 h => ?_)
                                                                            · refine G.tableIn 1518 dL_law_33 (by rw [c329]; decide) (by rw [c329]; decide) (by rw [c329]; rfl) (by decide) ?_
                                                                              refine G.aload_n dL_law_1518 rfl rfl ?_
                                                                              refine G.aload_n dL_law_1519 rfl rfl ?_
                                                                              refine G.iload_n dL_law_1520 rfl rfl ?_
                                                                              refine G.iconst (1 : Int32) dL_law_1521 ki_1 ?_
                                                                              refine G.iadd dL_law_1522 ?_
                                                                              refine G.iald dL_law_1523 h (fun v330 h => ?_)
                                                                              refine G.aload_n dL_law_1524 rfl rfl ?_
                                                                              refine G.iload_n dL_law_1525 rfl rfl ?_
                                                                              refine G.iconst (2 : Int32) dL_law_1526 ki_2 ?_
                                                                              refine G.iadd dL_law_1527 ?_
                                                                              refine G.iald dL_law_1528 h (fun v331 h => ?_)
                                                                              refine G.aload_n dL_law_1529 rfl rfl ?_
                                                                              refine G.iload_n dL_law_1530 rfl rfl ?_
                                                                              refine G.iconst (3 : Int32) dL_law_1531 ki_3 ?_
                                                                              refine G.iadd dL_law_1532 ?_
                                                                              refine G.iald dL_law_1533 h (fun v332 h => ?_)
                                                                              refine G.callVi (ci := 11) [.int v330, .int v331, .int v332] [] dL_law_1534 lkL_158 okX11_share rfl (fun v hv => C_X11_share hv) (Nat.le_of_ble_eq_true rfl) rfl rfl (Nat.le_of_ble_eq_true rfl) h (fun v333 h => ?_)
                                                                              refine G.aload_n dL_law_1537 rfl rfl ?_
                                                                              refine G.aload_n dL_law_1538 rfl rfl ?_
                                                                              refine G.iload_n dL_law_1539 rfl rfl ?_
                                                                              refine G.iconst (1 : Int32) dL_law_1540 ki_1 ?_
                                                                              refine G.iadd dL_law_1541 ?_
                                                                              refine G.iald dL_law_1542 h (fun v334 h => ?_)
                                                                              refine G.aload_n dL_law_1543 rfl rfl ?_
                                                                              refine G.iload_n dL_law_1544 rfl rfl ?_
                                                                              refine G.iconst (2 : Int32) dL_law_1545 ki_2 ?_
                                                                              refine G.iadd dL_law_1546 ?_
                                                                              refine G.iald dL_law_1547 h (fun v335 h => ?_)
                                                                              refine G.aload_n dL_law_1548 rfl rfl ?_
                                                                              refine G.iload_n dL_law_1549 rfl rfl ?_
                                                                              refine G.iconst (3 : Int32) dL_law_1550 ki_3 ?_
                                                                              refine G.iadd dL_law_1551 ?_
                                                                              refine G.iald dL_law_1552 h (fun v336 h => ?_)
                                                                              refine G.callVi (ci := 12) [.int v334, .int v335, .int v336] [.int v333.1] dL_law_1553 lkL_161 okX12_share rfl (fun v hv => C_X12_share hv) (Nat.le_of_ble_eq_true rfl) rfl rfl (Nat.le_of_ble_eq_true rfl) h (fun v337 h => ?_)
                                                                              refine G.icmp_eq 1782 dL_law_1556 (by decide) h (fun c338 h => ?_) (fun c338 h => ?_)
                                                                              · refine G.sub (lv' := [(0, .ref a0), (1, .ref (mK M).length), (2, .ref (mK M3).length), (3, .int s7.1)]) [0, 1, 2, 3] rfl ?_
                                                                                exact Jj12 _ h
                                                                              · refine G.iconst (0 : Int32) dL_law_1559 ki_0 ?_
                                                                                have h := leafR' h K7
                                                                                exact G.iretW dL_law_1560 rfl (by decide) h
                                                                            · refine G.sw h (fun c339 h => ?_) (fun c339 h => ?_)
                                                                              · refine G.tableIn 1561 dL_law_33 (by rw [c339]; decide) (by rw [c339]; decide) (by rw [c339]; rfl) (by decide) ?_
                                                                                refine G.aload_n dL_law_1561 rfl rfl ?_
                                                                                refine G.aload_n dL_law_1562 rfl rfl ?_
                                                                                refine G.iload_n dL_law_1563 rfl rfl ?_
                                                                                refine G.iconst (1 : Int32) dL_law_1564 ki_1 ?_
                                                                                refine G.iadd dL_law_1565 ?_
                                                                                refine G.iald dL_law_1566 h (fun v340 h => ?_)
                                                                                refine G.callVi (ci := 11) [.int v340] [] dL_law_1567 lkL_162 okX11_rule rfl (fun v hv => C_X11_rule hv) (Nat.le_of_ble_eq_true rfl) rfl rfl (Nat.le_of_ble_eq_true rfl) h (fun v341 h => ?_)
                                                                                refine G.aload_n dL_law_1570 rfl rfl ?_
                                                                                refine G.aload_n dL_law_1571 rfl rfl ?_
                                                                                refine G.iload_n dL_law_1572 rfl rfl ?_
                                                                                refine G.iconst (1 : Int32) dL_law_1573 ki_1 ?_
                                                                                refine G.iadd dL_law_1574 ?_
                                                                                refine G.iald dL_law_1575 h (fun v342 h => ?_)
                                                                                refine G.callVi (ci := 12) [.int v342] [.int v341.1] dL_law_1576 lkL_165 okX12_rule rfl (fun v hv => C_X12_rule hv) (Nat.le_of_ble_eq_true rfl) rfl rfl (Nat.le_of_ble_eq_true rfl) h (fun v343 h => ?_)
                                                                                refine G.icmp_eq 1782 dL_law_1579 (by decide) h (fun c344 h => ?_) (fun c344 h => ?_)
                                                                                · refine G.sub (lv' := [(0, .ref a0), (1, .ref (mK M).length), (2, .ref (mK M3).length), (3, .int s7.1)]) [0, 1, 2, 3] rfl ?_
                                                                                  exact Jj12 _ h
                                                                                · refine G.iconst (0 : Int32) dL_law_1582 ki_0 ?_
                                                                                  have h := leafR' h K7
                                                                                  exact G.iretW dL_law_1583 rfl (by decide) h
                                                                              · refine G.sw h (fun c345 h => ?_) (fun c345 h => ?_)
                                                                                · refine G.tableIn 1584 dL_law_33 (by rw [c345]; decide) (by rw [c345]; decide) (by rw [c345]; rfl) (by decide) ?_
                                                                                  refine G.aload_n dL_law_1584 rfl rfl ?_
                                                                                  refine G.aload_n dL_law_1585 rfl rfl ?_
                                                                                  refine G.iload_n dL_law_1586 rfl rfl ?_
                                                                                  refine G.iconst (1 : Int32) dL_law_1587 ki_1 ?_
                                                                                  refine G.iadd dL_law_1588 ?_
                                                                                  refine G.iald dL_law_1589 h (fun v346 h => ?_)
                                                                                  refine G.aload_n dL_law_1590 rfl rfl ?_
                                                                                  refine G.iload_n dL_law_1591 rfl rfl ?_
                                                                                  refine G.iconst (2 : Int32) dL_law_1592 ki_2 ?_
                                                                                  refine G.iadd dL_law_1593 ?_
                                                                                  refine G.iald dL_law_1594 h (fun v347 h => ?_)
                                                                                  refine G.callVi (ci := 11) [.int v346, .int v347] [] dL_law_1595 lkL_166 okX11_ruled rfl (fun v hv => C_X11_ruled hv) (Nat.le_of_ble_eq_true rfl) rfl rfl (Nat.le_of_ble_eq_true rfl) h (fun v348 h => ?_)
                                                                                  refine G.aload_n dL_law_1598 rfl rfl ?_
                                                                                  refine G.aload_n dL_law_1599 rfl rfl ?_
                                                                                  refine G.iload_n dL_law_1600 rfl rfl ?_
                                                                                  refine G.iconst (1 : Int32) dL_law_1601 ki_1 ?_
                                                                                  refine G.iadd dL_law_1602 ?_
                                                                                  refine G.iald dL_law_1603 h (fun v349 h => ?_)
                                                                                  refine G.aload_n dL_law_1604 rfl rfl ?_
                                                                                  refine G.iload_n dL_law_1605 rfl rfl ?_
                                                                                  refine G.iconst (2 : Int32) dL_law_1606 ki_2 ?_
                                                                                  refine G.iadd dL_law_1607 ?_
                                                                                  refine G.iald dL_law_1608 h (fun v350 h => ?_)
                                                                                  refine G.callVi (ci := 12) [.int v349, .int v350] [.int v348.1] dL_law_1609 lkL_169 okX12_ruled rfl (fun v hv => C_X12_ruled hv) (Nat.le_of_ble_eq_true rfl) rfl rfl (Nat.le_of_ble_eq_true rfl) h (fun v351 h => ?_)
                                                                                  refine G.icmp_eq 1782 dL_law_1612 (by decide) h (fun c352 h => ?_) (fun c352 h => ?_)
                                                                                  · refine G.sub (lv' := [(0, .ref a0), (1, .ref (mK M).length), (2, .ref (mK M3).length), (3, .int s7.1)]) [0, 1, 2, 3] rfl ?_
                                                                                    exact Jj12 _ h
                                                                                  · refine G.iconst (0 : Int32) dL_law_1615 ki_0 ?_
                                                                                    have h := leafR' h K7
                                                                                    exact G.iretW dL_law_1616 rfl (by decide) h
                                                                                · refine G.sw h (fun c353 h => ?_) (fun c353 h => ?_)
                                                                                  · refine G.tableIn 1617 dL_law_33 (by rw [c353]; decide) (by rw [c353]; decide) (by rw [c353]; rfl) (by decide) ?_
                                                                                    refine G.aload_n dL_law_1617 rfl rfl ?_
                                                                                    refine G.aload_n dL_law_1618 rfl rfl ?_
                                                                                    refine G.iload_n dL_law_1619 rfl rfl ?_
                                                                                    refine G.iconst (1 : Int32) dL_law_1620 ki_1 ?_
                                                                                    refine G.iadd dL_law_1621 ?_
                                                                                    refine G.iald dL_law_1622 h (fun v354 h => ?_)
                                                                                    refine G.aload_n dL_law_1623 rfl rfl ?_
                                                                                    refine G.iload_n dL_law_1624 rfl rfl ?_
                                                                                    refine G.iconst (2 : Int32) dL_law_1625 ki_2 ?_
                                                                                    refine G.iadd dL_law_1626 ?_
                                                                                    refine G.iald dL_law_1627 h (fun v355 h => ?_)
                                                                                    refine G.aload_n dL_law_1628 rfl rfl ?_
                                                                                    refine G.iload_n dL_law_1629 rfl rfl ?_
                                                                                    refine G.iconst (3 : Int32) dL_law_1630 ki_3 ?_
                                                                                    refine G.iadd dL_law_1631 ?_
                                                                                    refine G.iald dL_law_1632 h (fun v356 h => ?_)
                                                                                    refine G.callVi (ci := 11) [.int v354, .int v355, .int v356] [] dL_law_1633 lkL_170 okX11_day rfl (fun v hv => C_X11_day hv) (Nat.le_of_ble_eq_true rfl) rfl rfl (Nat.le_of_ble_eq_true rfl) h (fun v357 h => ?_)
                                                                                    refine G.aload_n dL_law_1636 rfl rfl ?_
                                                                                    refine G.aload_n dL_law_1637 rfl rfl ?_
                                                                                    refine G.iload_n dL_law_1638 rfl rfl ?_
                                                                                    refine G.iconst (1 : Int32) dL_law_1639 ki_1 ?_
                                                                                    refine G.iadd dL_law_1640 ?_
                                                                                    refine G.iald dL_law_1641 h (fun v358 h => ?_)
                                                                                    refine G.aload_n dL_law_1642 rfl rfl ?_
                                                                                    refine G.iload_n dL_law_1643 rfl rfl ?_
                                                                                    refine G.iconst (2 : Int32) dL_law_1644 ki_2 ?_
                                                                                    refine G.iadd dL_law_1645 ?_
                                                                                    refine G.iald dL_law_1646 h (fun v359 h => ?_)
                                                                                    refine G.aload_n dL_law_1647 rfl rfl ?_
                                                                                    refine G.iload_n dL_law_1648 rfl rfl ?_
                                                                                    refine G.iconst (3 : Int32) dL_law_1649 ki_3 ?_
                                                                                    refine G.iadd dL_law_1650 ?_
                                                                                    refine G.iald dL_law_1651 h (fun v360 h => ?_)
                                                                                    refine G.callVi (ci := 12) [.int v358, .int v359, .int v360] [.int v357.1] dL_law_1652 lkL_173 okX12_day rfl (fun v hv => C_X12_day hv) (Nat.le_of_ble_eq_true rfl) rfl rfl (Nat.le_of_ble_eq_true rfl) h (fun v361 h => ?_)
                                                                                    refine G.icmp_eq 1782 dL_law_1655 (by decide) h (fun c362 h => ?_) (fun c362 h => ?_)
                                                                                    · refine G.sub (lv' := [(0, .ref a0), (1, .ref (mK M).length), (2, .ref (mK M3).length), (3, .int s7.1)]) [0, 1, 2, 3] rfl ?_
                                                                                      exact Jj12 _ h
                                                                                    · refine G.iconst (0 : Int32) dL_law_1658 ki_0 ?_
                                                                                      have h := leafR' h K7
                                                                                      exact G.iretW dL_law_1659 rfl (by decide) h
                                                                                  · refine G.sw h (fun c363 h => ?_) (fun c363 h => ?_)
                                                                                    · refine G.tableIn 1660 dL_law_33 (by rw [c363]; decide) (by rw [c363]; decide) (by rw [c363]; rfl) (by decide) ?_
                                                                                      refine G.aload_n dL_law_1660 rfl rfl ?_
                                                                                      refine G.aload_n dL_law_1661 rfl rfl ?_
                                                                                      refine G.iload_n dL_law_1662 rfl rfl ?_
                                                                                      refine G.iconst (1 : Int32) dL_law_1663 ki_1 ?_
                                                                                      refine G.iadd dL_law_1664 ?_
                                                                                      refine G.iald dL_law_1665 h (fun v364 h => ?_)
                                                                                      refine G.aload_n dL_law_1666 rfl rfl ?_
                                                                                      refine G.iload_n dL_law_1667 rfl rfl ?_
                                                                                      refine G.iconst (2 : Int32) dL_law_1668 ki_2 ?_
                                                                                      refine G.iadd dL_law_1669 ?_
                                                                                      refine G.iald dL_law_1670 h (fun v365 h => ?_)
                                                                                      refine G.aload_n dL_law_1671 rfl rfl ?_
                                                                                      refine G.iload_n dL_law_1672 rfl rfl ?_
                                                                                      refine G.iconst (3 : Int32) dL_law_1673 ki_3 ?_
                                                                                      refine G.iadd dL_law_1674 ?_
                                                                                      refine G.iald dL_law_1675 h (fun v366 h => ?_)
                                                                                      refine G.aload_n dL_law_1676 rfl rfl ?_
                                                                                      refine G.iload_n dL_law_1677 rfl rfl ?_
                                                                                      refine G.iconst (4 : Int32) dL_law_1678 ki_4 ?_
                                                                                      refine G.iadd dL_law_1679 ?_
                                                                                      refine G.iald dL_law_1680 h (fun v367 h => ?_)
                                                                                      refine G.callVi (ci := 11) [.int v364, .int v365, .int v366, .int v367] [] dL_law_1681 lkL_174 okX11_kept rfl (fun v hv => C_X11_kept hv) (Nat.le_of_ble_eq_true rfl) rfl rfl (Nat.le_of_ble_eq_true rfl) h (fun v368 h => ?_)
                                                                                      refine G.aload_n dL_law_1684 rfl rfl ?_
                                                                                      refine G.aload_n dL_law_1685 rfl rfl ?_
                                                                                      refine G.iload_n dL_law_1686 rfl rfl ?_
                                                                                      refine G.iconst (1 : Int32) dL_law_1687 ki_1 ?_
                                                                                      refine G.iadd dL_law_1688 ?_
                                                                                      refine G.iald dL_law_1689 h (fun v369 h => ?_)
                                                                                      refine G.aload_n dL_law_1690 rfl rfl ?_
                                                                                      refine G.iload_n dL_law_1691 rfl rfl ?_
                                                                                      refine G.iconst (2 : Int32) dL_law_1692 ki_2 ?_
                                                                                      refine G.iadd dL_law_1693 ?_
                                                                                      refine G.iald dL_law_1694 h (fun v370 h => ?_)
                                                                                      refine G.aload_n dL_law_1695 rfl rfl ?_
                                                                                      refine G.iload_n dL_law_1696 rfl rfl ?_
                                                                                      refine G.iconst (3 : Int32) dL_law_1697 ki_3 ?_
                                                                                      refine G.iadd dL_law_1698 ?_
                                                                                      refine G.iald dL_law_1699 h (fun v371 h => ?_)
                                                                                      refine G.aload_n dL_law_1700 rfl rfl ?_
                                                                                      refine G.iload_n dL_law_1701 rfl rfl ?_
                                                                                      refine G.iconst (4 : Int32) dL_law_1702 ki_4 ?_
                                                                                      refine G.iadd dL_law_1703 ?_
                                                                                      refine G.iald dL_law_1704 h (fun v372 h => ?_)
                                                                                      refine G.callVi (ci := 12) [.int v369, .int v370, .int v371, .int v372] [.int v368.1] dL_law_1705 lkL_177 okX12_kept rfl (fun v hv => C_X12_kept hv) (Nat.le_of_ble_eq_true rfl) rfl rfl (Nat.le_of_ble_eq_true rfl) h (fun v373 h => ?_)
                                                                                      refine G.icmp_eq 1782 dL_law_1708 (by decide) h (fun c374 h => ?_) (fun c374 h => ?_)
                                                                                      · refine G.sub (lv' := [(0, .ref a0), (1, .ref (mK M).length), (2, .ref (mK M3).length), (3, .int s7.1)]) [0, 1, 2, 3] rfl ?_
                                                                                        exact Jj12 _ h
                                                                                      · refine G.iconst (0 : Int32) dL_law_1711 ki_0 ?_
                                                                                        have h := leafR' h K7
                                                                                        exact G.iretW dL_law_1712 rfl (by decide) h
                                                                                    · refine G.sw h (fun c375 h => ?_) (fun c375 h => ?_)
                                                                                      · refine G.tableIn 1713 dL_law_33 (by rw [c375]; decide) (by rw [c375]; decide) (by rw [c375]; rfl) (by decide) ?_
                                                                                        refine G.aload_n dL_law_1713 rfl rfl ?_
                                                                                        refine G.aload_n dL_law_1714 rfl rfl ?_
                                                                                        refine G.iload_n dL_law_1715 rfl rfl ?_
                                                                                        refine G.iconst (1 : Int32) dL_law_1716 ki_1 ?_
                                                                                        refine G.iadd dL_law_1717 ?_
                                                                                        refine G.iald dL_law_1718 h (fun v376 h => ?_)
                                                                                        refine G.callVi (ci := 11) [.int v376] [] dL_law_1719 lkL_178 okX11_hold rfl (fun v hv => C_X11_hold hv) (Nat.le_of_ble_eq_true rfl) rfl rfl (Nat.le_of_ble_eq_true rfl) h (fun v377 h => ?_)
                                                                                        refine G.aload_n dL_law_1722 rfl rfl ?_
                                                                                        refine G.aload_n dL_law_1723 rfl rfl ?_
                                                                                        refine G.iload_n dL_law_1724 rfl rfl ?_
                                                                                        refine G.iconst (1 : Int32) dL_law_1725 ki_1 ?_
                                                                                        refine G.iadd dL_law_1726 ?_
                                                                                        refine G.iald dL_law_1727 h (fun v378 h => ?_)
                                                                                        refine G.callVi (ci := 12) [.int v378] [.int v377.1] dL_law_1728 lkL_182 okX12_hold rfl (fun v hv => C_X12_hold hv) (Nat.le_of_ble_eq_true rfl) rfl rfl (Nat.le_of_ble_eq_true rfl) h (fun v379 h => ?_)
                                                                                        refine G.icmp_eq 1782 dL_law_1731 (by decide) h (fun c380 h => ?_) (fun c380 h => ?_)
                                                                                        · refine G.sub (lv' := [(0, .ref a0), (1, .ref (mK M).length), (2, .ref (mK M3).length), (3, .int s7.1)]) [0, 1, 2, 3] rfl ?_
                                                                                          exact Jj12 _ h
                                                                                        · refine G.iconst (0 : Int32) dL_law_1734 ki_0 ?_
                                                                                          have h := leafR' h K7
                                                                                          exact G.iretW dL_law_1735 rfl (by decide) h
                                                                                      · refine G.sw h (fun c381 h => ?_) (fun c381 h => ?_)
                                                                                        · refine G.tableIn 1736 dL_law_33 (by rw [c381]; decide) (by rw [c381]; decide) (by rw [c381]; rfl) (by decide) ?_
                                                                                          refine G.aload_n dL_law_1736 rfl rfl ?_
                                                                                          refine G.aload_n dL_law_1737 rfl rfl ?_
                                                                                          refine G.iload_n dL_law_1738 rfl rfl ?_
                                                                                          refine G.iconst (1 : Int32) dL_law_1739 ki_1 ?_
                                                                                          refine G.iadd dL_law_1740 ?_
                                                                                          refine G.iald dL_law_1741 h (fun v382 h => ?_)
                                                                                          refine G.callVi (ci := 11) [.int v382] [] dL_law_1742 lkL_183 okX11_restore rfl (fun v hv => C_X11_restore hv) (Nat.le_of_ble_eq_true rfl) rfl rfl (Nat.le_of_ble_eq_true rfl) h (fun v383 h => ?_)
                                                                                          refine G.aload_n dL_law_1745 rfl rfl ?_
                                                                                          refine G.aload_n dL_law_1746 rfl rfl ?_
                                                                                          refine G.iload_n dL_law_1747 rfl rfl ?_
                                                                                          refine G.iconst (1 : Int32) dL_law_1748 ki_1 ?_
                                                                                          refine G.iadd dL_law_1749 ?_
                                                                                          refine G.iald dL_law_1750 h (fun v384 h => ?_)
                                                                                          refine G.callVi (ci := 12) [.int v384] [.int v383.1] dL_law_1751 lkL_186 okX12_restore rfl (fun v hv => C_X12_restore hv) (Nat.le_of_ble_eq_true rfl) rfl rfl (Nat.le_of_ble_eq_true rfl) h (fun v385 h => ?_)
                                                                                          refine G.icmp_eq 1782 dL_law_1754 (by decide) h (fun c386 h => ?_) (fun c386 h => ?_)
                                                                                          · refine G.sub (lv' := [(0, .ref a0), (1, .ref (mK M).length), (2, .ref (mK M3).length), (3, .int s7.1)]) [0, 1, 2, 3] rfl ?_
                                                                                            exact Jj12 _ h
                                                                                          · refine G.iconst (0 : Int32) dL_law_1757 ki_0 ?_
                                                                                            have h := leafR' h K7
                                                                                            exact G.iretW dL_law_1758 rfl (by decide) h
                                                                                        · refine G.sw h (fun c387 h => ?_) (fun c387 h => ?_)
                                                                                          · refine G.tableIn 1759 dL_law_33 (by rw [c387]; decide) (by rw [c387]; decide) (by rw [c387]; rfl) (by decide) ?_
                                                                                            refine G.aload_n dL_law_1759 rfl rfl ?_
                                                                                            refine G.aload_n dL_law_1760 rfl rfl ?_
                                                                                            refine G.iload_n dL_law_1761 rfl rfl ?_
                                                                                            refine G.iconst (1 : Int32) dL_law_1762 ki_1 ?_
                                                                                            refine G.iadd dL_law_1763 ?_
                                                                                            refine G.iald dL_law_1764 h (fun v388 h => ?_)
                                                                                            refine G.callVi (ci := 11) [.int v388] [] dL_law_1765 lkL_187 okX11_count rfl (fun v hv => C_X11_count hv) (Nat.le_of_ble_eq_true rfl) rfl rfl (Nat.le_of_ble_eq_true rfl) h (fun v389 h => ?_)
                                                                                            refine G.aload_n dL_law_1768 rfl rfl ?_
                                                                                            refine G.aload_n dL_law_1769 rfl rfl ?_
                                                                                            refine G.iload_n dL_law_1770 rfl rfl ?_
                                                                                            refine G.iconst (1 : Int32) dL_law_1771 ki_1 ?_
                                                                                            refine G.iadd dL_law_1772 ?_
                                                                                            refine G.iald dL_law_1773 h (fun v390 h => ?_)
                                                                                            refine G.callVi (ci := 12) [.int v390] [.int v389] dL_law_1774 lkL_190 okX12_count rfl (fun v hv => C_X12_count hv) (Nat.le_of_ble_eq_true rfl) rfl rfl (Nat.le_of_ble_eq_true rfl) h (fun v391 h => ?_)
                                                                                            refine G.icmp_eq 1782 dL_law_1777 (by decide) h (fun c392 h => ?_) (fun c392 h => ?_)
                                                                                            · refine G.sub (lv' := [(0, .ref a0), (1, .ref (mK M).length), (2, .ref (mK M3).length), (3, .int s7.1)]) [0, 1, 2, 3] rfl ?_
                                                                                              exact Jj12 _ h
                                                                                            · refine G.iconst (0 : Int32) dL_law_1780 ki_0 ?_
                                                                                              have h := leafR' h K7
                                                                                              exact G.iretW dL_law_1781 rfl (by decide) h
                                                                                          · refine G.tableOut 1782 dL_law_33 (sw_out (lo := 0) (hi := 41) (fun z393 g1 g2 ge => ?_)) (by decide) ?_
                                                                                            · have hz : z393 = 0 ∨ z393 = 1 ∨ z393 = 2 ∨ z393 = 3 ∨ z393 = 4 ∨ z393 = 5 ∨ z393 = 6 ∨ z393 = 7 ∨ z393 = 8 ∨ z393 = 9 ∨ z393 = 10 ∨ z393 = 11 ∨ z393 = 12 ∨ z393 = 13 ∨ z393 = 14 ∨ z393 = 15 ∨ z393 = 16 ∨ z393 = 17 ∨ z393 = 18 ∨ z393 = 19 ∨ z393 = 20 ∨ z393 = 21 ∨ z393 = 22 ∨ z393 = 23 ∨ z393 = 24 ∨ z393 = 25 ∨ z393 = 26 ∨ z393 = 27 ∨ z393 = 28 ∨ z393 = 29 ∨ z393 = 30 ∨ z393 = 31 ∨ z393 = 32 ∨ z393 = 33 ∨ z393 = 34 ∨ z393 = 35 ∨ z393 = 36 ∨ z393 = 37 ∨ z393 = 38 ∨ z393 = 39 ∨ z393 = 40 ∨ z393 = 41 := by omega
                                                                                              rcases hz with rfl | rfl | rfl | rfl | rfl | rfl | rfl | rfl | rfl | rfl | rfl | rfl | rfl | rfl | rfl | rfl | rfl | rfl | rfl | rfl | rfl | rfl | rfl | rfl | rfl | rfl | rfl | rfl | rfl | rfl | rfl | rfl | rfl | rfl | rfl | rfl | rfl | rfl | rfl | rfl | rfl | rfl
                                                                                              · exact c13 ge
                                                                                              · exact c27 ge
                                                                                              · exact c33 ge
                                                                                              · exact c37 ge
                                                                                              · exact c41 ge
                                                                                              · exact c49 ge
                                                                                              · exact c57 ge
                                                                                              · exact c65 ge
                                                                                              · exact c83 ge
                                                                                              · exact c95 ge
                                                                                              · exact c105 ge
                                                                                              · exact c115 ge
                                                                                              · exact c127 ge
                                                                                              · exact c133 ge
                                                                                              · exact c141 ge
                                                                                              · exact c145 ge
                                                                                              · exact c149 ge
                                                                                              · exact c157 ge
                                                                                              · exact c165 ge
                                                                                              · exact c175 ge
                                                                                              · exact c197 ge
                                                                                              · exact c217 ge
                                                                                              · exact c231 ge
                                                                                              · exact c245 ge
                                                                                              · exact c253 ge
                                                                                              · exact c261 ge
                                                                                              · exact c271 ge
                                                                                              · exact c281 ge
                                                                                              · exact c289 ge
                                                                                              · exact c297 ge
                                                                                              · exact c303 ge
                                                                                              · exact c307 ge
                                                                                              · exact c313 ge
                                                                                              · exact c321 ge
                                                                                              · exact c329 ge
                                                                                              · exact c339 ge
                                                                                              · exact c345 ge
                                                                                              · exact c353 ge
                                                                                              · exact c363 ge
                                                                                              · exact c375 ge
                                                                                              · exact c381 ge
                                                                                              · exact c387 ge
                                                                                            · refine G.sub (lv' := [(0, .ref a0), (1, .ref (mK M).length), (2, .ref (mK M3).length), (3, .int s7.1)]) [0, 1, 2, 3] rfl ?_
                                                                                              exact Jj12 _ h
