set_option maxRecDepth 100000 in
theorem m_fy1 : m_fy 1 := ⟨m_w 68 rfl rfl, m_w 47 (by decide +kernel) (by decide +kernel), ⟨by decide +kernel, by decide +kernel, by decide +kernel⟩, by decide, fun h => absurd h (by decide), fun _ => m_w 67 (by decide +kernel) (by decide +kernel), fun h => absurd h (by decide), fun _ => ⟨rfl, rfl⟩⟩
set_option maxRecDepth 100000 in
theorem m_fy2 : m_fy 2 := ⟨m_w 60 rfl rfl, m_w 46 (by decide +kernel) (by decide +kernel), ⟨by decide +kernel, by decide +kernel, by decide +kernel⟩, by decide, fun h => absurd h (by decide), fun _ => m_w 59 (by decide +kernel) (by decide +kernel), fun h => absurd h (by decide), fun _ => ⟨rfl, rfl⟩⟩
set_option maxRecDepth 100000 in
theorem m_fy3 : m_fy 3 := ⟨m_w 104 rfl rfl, m_w 51 (by decide +kernel) (by decide +kernel), ⟨by decide +kernel, by decide +kernel, by decide +kernel⟩, by decide, fun h => absurd h (by decide), fun _ => m_w 103 (by decide +kernel) (by decide +kernel), fun h => absurd h (by decide), fun _ => ⟨rfl, rfl⟩⟩
set_option maxRecDepth 100000 in
theorem m_fy4 : m_fy 4 := ⟨m_w 139 rfl rfl, m_w 52 (by decide +kernel) (by decide +kernel), ⟨by decide +kernel, by decide +kernel, by decide +kernel⟩, by decide, fun h => absurd h (by decide), fun _ => m_w 138 (by decide +kernel) (by decide +kernel), fun h => absurd h (by decide), fun _ => ⟨rfl, rfl⟩⟩
set_option maxRecDepth 100000 in
theorem m_fy5 : m_fy 5 := ⟨m_w 145 rfl rfl, m_w 53 (by decide +kernel) (by decide +kernel), ⟨by decide +kernel, by decide +kernel, by decide +kernel⟩, by decide, fun h => absurd h (by decide), fun _ => m_w 144 (by decide +kernel) (by decide +kernel), fun h => absurd h (by decide), fun _ => ⟨rfl, rfl⟩⟩
set_option maxRecDepth 100000 in
theorem m_fy6 : m_fy 6 := ⟨m_w 216 rfl rfl, m_w 54 (by decide +kernel) (by decide +kernel), ⟨by decide +kernel, by decide +kernel, by decide +kernel⟩, by decide, fun h => absurd h (by decide), fun _ => m_w 215 (by decide +kernel) (by decide +kernel), fun h => absurd h (by decide), fun _ => ⟨rfl, rfl⟩⟩
set_option maxRecDepth 100000 in
theorem m_fy7 : m_fy 7 := ⟨m_w 259 rfl rfl, m_w 46 (by decide +kernel) (by decide +kernel), ⟨by decide +kernel, by decide +kernel, by decide +kernel⟩, by decide, fun h => absurd h (by decide), fun _ => m_w 257 (by decide +kernel) (by decide +kernel), fun _ => ⟨m_w 258 (by decide +kernel) (by decide +kernel), _, _, rfl⟩, fun h => absurd h (by decide)⟩
set_option maxRecDepth 100000 in
theorem m_fy8 : m_fy 8 := ⟨m_w 263 rfl rfl, m_w 47 (by decide +kernel) (by decide +kernel), ⟨by decide +kernel, by decide +kernel, by decide +kernel⟩, by decide, fun h => absurd h (by decide), fun _ => m_w 261 (by decide +kernel) (by decide +kernel), fun _ => ⟨m_w 262 (by decide +kernel) (by decide +kernel), _, _, rfl⟩, fun h => absurd h (by decide)⟩
set_option maxRecDepth 100000 in
theorem m_fy9 : m_fy 9 := ⟨m_w 267 rfl rfl, m_w 47 (by decide +kernel) (by decide +kernel), ⟨by decide +kernel, by decide +kernel, by decide +kernel⟩, by decide, fun h => absurd h (by decide), fun _ => m_w 265 (by decide +kernel) (by decide +kernel), fun _ => ⟨m_w 266 (by decide +kernel) (by decide +kernel), _, _, rfl⟩, fun h => absurd h (by decide)⟩
set_option maxRecDepth 100000 in
theorem m_fy10 : m_fy 10 := ⟨m_w 271 rfl rfl, m_w 46 (by decide +kernel) (by decide +kernel), ⟨by decide +kernel, by decide +kernel, by decide +kernel⟩, by decide, fun h => absurd h (by decide), fun _ => m_w 269 (by decide +kernel) (by decide +kernel), fun _ => ⟨m_w 270 (by decide +kernel) (by decide +kernel), _, _, rfl⟩, fun h => absurd h (by decide)⟩
set_option maxRecDepth 100000 in
theorem m_fy11 : m_fy 11 := ⟨m_w 275 rfl rfl, m_w 46 (by decide +kernel) (by decide +kernel), ⟨by decide +kernel, by decide +kernel, by decide +kernel⟩, by decide, fun h => absurd h (by decide), fun _ => m_w 273 (by decide +kernel) (by decide +kernel), fun _ => ⟨m_w 274 (by decide +kernel) (by decide +kernel), _, _, rfl⟩, fun h => absurd h (by decide)⟩
set_option maxRecDepth 100000 in
theorem m_fy12 : m_fy 12 := ⟨m_w 279 rfl rfl, m_w 46 (by decide +kernel) (by decide +kernel), ⟨by decide +kernel, by decide +kernel, by decide +kernel⟩, by decide, fun h => absurd h (by decide), fun _ => m_w 278 (by decide +kernel) (by decide +kernel), fun _ => ⟨m_w 0 (by decide +kernel) (by decide +kernel), _, _, rfl⟩, fun h => absurd h (by decide)⟩
set_option maxRecDepth 100000 in
theorem m_fy13 : m_fy 13 := ⟨m_w 283 rfl rfl, m_w 51 (by decide +kernel) (by decide +kernel), ⟨by decide +kernel, by decide +kernel, by decide +kernel⟩, by decide, fun h => absurd h (by decide), fun _ => m_w 281 (by decide +kernel) (by decide +kernel), fun _ => ⟨m_w 282 (by decide +kernel) (by decide +kernel), _, _, rfl⟩, fun h => absurd h (by decide)⟩
set_option maxRecDepth 100000 in
theorem m_fy14 : m_fy 14 := ⟨m_w 287 rfl rfl, m_w 46 (by decide +kernel) (by decide +kernel), ⟨by decide +kernel, by decide +kernel, by decide +kernel⟩, by decide, fun h => absurd h (by decide), fun _ => m_w 285 (by decide +kernel) (by decide +kernel), fun _ => ⟨m_w 286 (by decide +kernel) (by decide +kernel), _, _, rfl⟩, fun h => absurd h (by decide)⟩
set_option maxRecDepth 100000 in
theorem m_fy15 : m_fy 15 := ⟨m_w 291 rfl rfl, m_w 46 (by decide +kernel) (by decide +kernel), ⟨by decide +kernel, by decide +kernel, by decide +kernel⟩, by decide, fun h => absurd h (by decide), fun _ => m_w 290 (by decide +kernel) (by decide +kernel), fun _ => ⟨m_w 1 (by decide +kernel) (by decide +kernel), _, _, rfl⟩, fun h => absurd h (by decide)⟩
set_option maxRecDepth 100000 in
theorem m_fy16 : m_fy 16 := ⟨m_w 294 rfl rfl, m_w 46 (by decide +kernel) (by decide +kernel), ⟨by decide +kernel, by decide +kernel, by decide +kernel⟩, by decide, fun _ => m_w 293 (by decide +kernel) (by decide +kernel), fun h => absurd rfl h, fun h => absurd h (by decide), fun h => absurd h (by decide)⟩
set_option maxRecDepth 100000 in
theorem m_fy17 : m_fy 17 := ⟨m_w 298 rfl rfl, m_w 51 (by decide +kernel) (by decide +kernel), ⟨by decide +kernel, by decide +kernel, by decide +kernel⟩, by decide, fun h => absurd h (by decide), fun _ => m_w 296 (by decide +kernel) (by decide +kernel), fun _ => ⟨m_w 297 (by decide +kernel) (by decide +kernel), _, _, rfl⟩, fun h => absurd h (by decide)⟩
set_option maxRecDepth 100000 in
theorem m_fy18 : m_fy 18 := ⟨m_w 302 rfl rfl, m_w 46 (by decide +kernel) (by decide +kernel), ⟨by decide +kernel, by decide +kernel, by decide +kernel⟩, by decide, fun h => absurd h (by decide), fun _ => m_w 300 (by decide +kernel) (by decide +kernel), fun _ => ⟨m_w 301 (by decide +kernel) (by decide +kernel), _, _, rfl⟩, fun h => absurd h (by decide)⟩
set_option maxRecDepth 100000 in
theorem m_fy19 : m_fy 19 := ⟨m_w 306 rfl rfl, m_w 54 (by decide +kernel) (by decide +kernel), ⟨by decide +kernel, by decide +kernel, by decide +kernel⟩, by decide, fun h => absurd h (by decide), fun _ => m_w 304 (by decide +kernel) (by decide +kernel), fun _ => ⟨m_w 305 (by decide +kernel) (by decide +kernel), _, _, rfl⟩, fun h => absurd h (by decide)⟩
set_option maxRecDepth 100000 in
theorem m_fy20 : m_fy 20 := ⟨m_w 310 rfl rfl, m_w 46 (by decide +kernel) (by decide +kernel), ⟨by decide +kernel, by decide +kernel, by decide +kernel⟩, by decide, fun h => absurd h (by decide), fun _ => m_w 309 (by decide +kernel) (by decide +kernel), fun _ => ⟨m_w 2 (by decide +kernel) (by decide +kernel), _, _, rfl⟩, fun h => absurd h (by decide)⟩
set_option maxRecDepth 100000 in
theorem m_fy21 : m_fy 21 := ⟨m_w 314 rfl rfl, m_w 46 (by decide +kernel) (by decide +kernel), ⟨by decide +kernel, by decide +kernel, by decide +kernel⟩, by decide, fun h => absurd h (by decide), fun _ => m_w 313 (by decide +kernel) (by decide +kernel), fun _ => ⟨m_w 3 (by decide +kernel) (by decide +kernel), _, _, rfl⟩, fun h => absurd h (by decide)⟩
set_option maxRecDepth 100000 in
theorem m_fy22 : m_fy 22 := ⟨m_w 318 rfl rfl, m_w 52 (by decide +kernel) (by decide +kernel), ⟨by decide +kernel, by decide +kernel, by decide +kernel⟩, by decide, fun h => absurd h (by decide), fun _ => m_w 316 (by decide +kernel) (by decide +kernel), fun _ => ⟨m_w 317 (by decide +kernel) (by decide +kernel), _, _, rfl⟩, fun h => absurd h (by decide)⟩
set_option maxRecDepth 100000 in
theorem m_fy23 : m_fy 23 := ⟨m_w 322 rfl rfl, m_w 46 (by decide +kernel) (by decide +kernel), ⟨by decide +kernel, by decide +kernel, by decide +kernel⟩, by decide, fun h => absurd h (by decide), fun _ => m_w 321 (by decide +kernel) (by decide +kernel), fun _ => ⟨m_w 4 (by decide +kernel) (by decide +kernel), _, _, rfl⟩, fun h => absurd h (by decide)⟩
set_option maxRecDepth 100000 in
theorem m_fy24 : m_fy 24 := ⟨m_w 326 rfl rfl, m_w 46 (by decide +kernel) (by decide +kernel), ⟨by decide +kernel, by decide +kernel, by decide +kernel⟩, by decide, fun h => absurd h (by decide), fun _ => m_w 325 (by decide +kernel) (by decide +kernel), fun _ => ⟨m_w 5 (by decide +kernel) (by decide +kernel), _, _, rfl⟩, fun h => absurd h (by decide)⟩
set_option maxRecDepth 100000 in
theorem m_fy25 : m_fy 25 := ⟨m_w 330 rfl rfl, m_w 53 (by decide +kernel) (by decide +kernel), ⟨by decide +kernel, by decide +kernel, by decide +kernel⟩, by decide, fun h => absurd h (by decide), fun _ => m_w 328 (by decide +kernel) (by decide +kernel), fun _ => ⟨m_w 329 (by decide +kernel) (by decide +kernel), _, _, rfl⟩, fun h => absurd h (by decide)⟩
set_option maxRecDepth 100000 in
theorem m_fy26 : m_fy 26 := ⟨m_w 334 rfl rfl, m_w 46 (by decide +kernel) (by decide +kernel), ⟨by decide +kernel, by decide +kernel, by decide +kernel⟩, by decide, fun h => absurd h (by decide), fun _ => m_w 333 (by decide +kernel) (by decide +kernel), fun _ => ⟨m_w 6 (by decide +kernel) (by decide +kernel), _, _, rfl⟩, fun h => absurd h (by decide)⟩
set_option maxRecDepth 100000 in
theorem m_fy27 : m_fy 27 := ⟨m_w 338 rfl rfl, m_w 52 (by decide +kernel) (by decide +kernel), ⟨by decide +kernel, by decide +kernel, by decide +kernel⟩, by decide, fun h => absurd h (by decide), fun _ => m_w 336 (by decide +kernel) (by decide +kernel), fun _ => ⟨m_w 337 (by decide +kernel) (by decide +kernel), _, _, rfl⟩, fun h => absurd h (by decide)⟩
set_option maxRecDepth 100000 in
theorem m_fy28 : m_fy 28 := ⟨m_w 342 rfl rfl, m_w 46 (by decide +kernel) (by decide +kernel), ⟨by decide +kernel, by decide +kernel, by decide +kernel⟩, by decide, fun h => absurd h (by decide), fun _ => m_w 341 (by decide +kernel) (by decide +kernel), fun _ => ⟨m_w 7 (by decide +kernel) (by decide +kernel), _, _, rfl⟩, fun h => absurd h (by decide)⟩
set_option maxRecDepth 100000 in
theorem m_fy29 : m_fy 29 := ⟨m_w 346 rfl rfl, m_w 46 (by decide +kernel) (by decide +kernel), ⟨by decide +kernel, by decide +kernel, by decide +kernel⟩, by decide, fun h => absurd h (by decide), fun _ => m_w 345 (by decide +kernel) (by decide +kernel), fun _ => ⟨m_w 8 (by decide +kernel) (by decide +kernel), _, _, rfl⟩, fun h => absurd h (by decide)⟩
set_option maxRecDepth 100000 in
theorem m_fy30 : m_fy 30 := ⟨m_w 350 rfl rfl, m_w 46 (by decide +kernel) (by decide +kernel), ⟨by decide +kernel, by decide +kernel, by decide +kernel⟩, by decide, fun h => absurd h (by decide), fun _ => m_w 349 (by decide +kernel) (by decide +kernel), fun _ => ⟨m_w 9 (by decide +kernel) (by decide +kernel), _, _, rfl⟩, fun h => absurd h (by decide)⟩
set_option maxRecDepth 100000 in
theorem m_fy31 : m_fy 31 := ⟨m_w 354 rfl rfl, m_w 46 (by decide +kernel) (by decide +kernel), ⟨by decide +kernel, by decide +kernel, by decide +kernel⟩, by decide, fun h => absurd h (by decide), fun _ => m_w 353 (by decide +kernel) (by decide +kernel), fun _ => ⟨m_w 10 (by decide +kernel) (by decide +kernel), _, _, rfl⟩, fun h => absurd h (by decide)⟩
set_option maxRecDepth 100000 in
theorem m_fy32 : m_fy 32 := ⟨m_w 358 rfl rfl, m_w 53 (by decide +kernel) (by decide +kernel), ⟨by decide +kernel, by decide +kernel, by decide +kernel⟩, by decide, fun h => absurd h (by decide), fun _ => m_w 356 (by decide +kernel) (by decide +kernel), fun _ => ⟨m_w 357 (by decide +kernel) (by decide +kernel), _, _, rfl⟩, fun h => absurd h (by decide)⟩
set_option maxRecDepth 100000 in
theorem m_fy33 : m_fy 33 := ⟨m_w 362 rfl rfl, m_w 54 (by decide +kernel) (by decide +kernel), ⟨by decide +kernel, by decide +kernel, by decide +kernel⟩, by decide, fun h => absurd h (by decide), fun _ => m_w 360 (by decide +kernel) (by decide +kernel), fun _ => ⟨m_w 361 (by decide +kernel) (by decide +kernel), _, _, rfl⟩, fun h => absurd h (by decide)⟩
set_option maxRecDepth 100000 in
theorem m_fy34 : m_fy 34 := ⟨m_w 366 rfl rfl, m_w 46 (by decide +kernel) (by decide +kernel), ⟨by decide +kernel, by decide +kernel, by decide +kernel⟩, by decide, fun h => absurd h (by decide), fun _ => m_w 365 (by decide +kernel) (by decide +kernel), fun _ => ⟨m_w 11 (by decide +kernel) (by decide +kernel), _, _, rfl⟩, fun h => absurd h (by decide)⟩
set_option maxRecDepth 100000 in
theorem m_fy35 : m_fy 35 := ⟨m_w 370 rfl rfl, m_w 46 (by decide +kernel) (by decide +kernel), ⟨by decide +kernel, by decide +kernel, by decide +kernel⟩, by decide, fun h => absurd h (by decide), fun _ => m_w 369 (by decide +kernel) (by decide +kernel), fun _ => ⟨m_w 12 (by decide +kernel) (by decide +kernel), _, _, rfl⟩, fun h => absurd h (by decide)⟩
set_option maxRecDepth 100000 in
theorem m_fy36 : m_fy 36 := ⟨m_w 374 rfl rfl, m_w 53 (by decide +kernel) (by decide +kernel), ⟨by decide +kernel, by decide +kernel, by decide +kernel⟩, by decide, fun h => absurd h (by decide), fun _ => m_w 372 (by decide +kernel) (by decide +kernel), fun _ => ⟨m_w 373 (by decide +kernel) (by decide +kernel), _, _, rfl⟩, fun h => absurd h (by decide)⟩
set_option maxRecDepth 100000 in
theorem m_fy37 : m_fy 37 := ⟨m_w 378 rfl rfl, m_w 46 (by decide +kernel) (by decide +kernel), ⟨by decide +kernel, by decide +kernel, by decide +kernel⟩, by decide, fun h => absurd h (by decide), fun _ => m_w 377 (by decide +kernel) (by decide +kernel), fun _ => ⟨m_w 13 (by decide +kernel) (by decide +kernel), _, _, rfl⟩, fun h => absurd h (by decide)⟩
set_option maxRecDepth 100000 in
theorem m_fy38 : m_fy 38 := ⟨m_w 382 rfl rfl, m_w 46 (by decide +kernel) (by decide +kernel), ⟨by decide +kernel, by decide +kernel, by decide +kernel⟩, by decide, fun h => absurd h (by decide), fun _ => m_w 381 (by decide +kernel) (by decide +kernel), fun _ => ⟨m_w 14 (by decide +kernel) (by decide +kernel), _, _, rfl⟩, fun h => absurd h (by decide)⟩
set_option maxRecDepth 100000 in
theorem m_fy39 : m_fy 39 := ⟨m_w 386 rfl rfl, m_w 47 (by decide +kernel) (by decide +kernel), ⟨by decide +kernel, by decide +kernel, by decide +kernel⟩, by decide, fun h => absurd h (by decide), fun _ => m_w 384 (by decide +kernel) (by decide +kernel), fun _ => ⟨m_w 385 (by decide +kernel) (by decide +kernel), _, _, rfl⟩, fun h => absurd h (by decide)⟩
set_option maxRecDepth 100000 in
theorem m_fy40 : m_fy 40 := ⟨m_w 390 rfl rfl, m_w 47 (by decide +kernel) (by decide +kernel), ⟨by decide +kernel, by decide +kernel, by decide +kernel⟩, by decide, fun h => absurd h (by decide), fun _ => m_w 388 (by decide +kernel) (by decide +kernel), fun _ => ⟨m_w 389 (by decide +kernel) (by decide +kernel), _, _, rfl⟩, fun h => absurd h (by decide)⟩
set_option maxRecDepth 100000 in
theorem m_fy41 : m_fy 41 := ⟨m_w 395 rfl rfl, m_w 53 (by decide +kernel) (by decide +kernel), ⟨by decide +kernel, by decide +kernel, by decide +kernel⟩, by decide, fun h => absurd h (by decide), fun _ => m_w 393 (by decide +kernel) (by decide +kernel), fun _ => ⟨m_w 394 (by decide +kernel) (by decide +kernel), _, _, rfl⟩, fun h => absurd h (by decide)⟩
set_option maxRecDepth 100000 in
theorem m_fy42 : m_fy 42 := ⟨m_w 399 rfl rfl, m_w 46 (by decide +kernel) (by decide +kernel), ⟨by decide +kernel, by decide +kernel, by decide +kernel⟩, by decide, fun h => absurd h (by decide), fun _ => m_w 398 (by decide +kernel) (by decide +kernel), fun _ => ⟨m_w 15 (by decide +kernel) (by decide +kernel), _, _, rfl⟩, fun h => absurd h (by decide)⟩
set_option maxRecDepth 100000 in
theorem m_fy43 : m_fy 43 := ⟨m_w 403 rfl rfl, m_w 51 (by decide +kernel) (by decide +kernel), ⟨by decide +kernel, by decide +kernel, by decide +kernel⟩, by decide, fun h => absurd h (by decide), fun _ => m_w 401 (by decide +kernel) (by decide +kernel), fun _ => ⟨m_w 402 (by decide +kernel) (by decide +kernel), _, _, rfl⟩, fun h => absurd h (by decide)⟩
set_option maxRecDepth 100000 in
theorem m_fy44 : m_fy 44 := ⟨m_w 409 rfl rfl, m_w 46 (by decide +kernel) (by decide +kernel), ⟨by decide +kernel, by decide +kernel, by decide +kernel⟩, by decide, fun h => absurd h (by decide), fun _ => m_w 408 (by decide +kernel) (by decide +kernel), fun _ => ⟨m_w 16 (by decide +kernel) (by decide +kernel), _, _, rfl⟩, fun h => absurd h (by decide)⟩
set_option maxRecDepth 100000 in
theorem m_fy45 : m_fy 45 := ⟨m_w 413 rfl rfl, m_w 52 (by decide +kernel) (by decide +kernel), ⟨by decide +kernel, by decide +kernel, by decide +kernel⟩, by decide, fun h => absurd h (by decide), fun _ => m_w 411 (by decide +kernel) (by decide +kernel), fun _ => ⟨m_w 412 (by decide +kernel) (by decide +kernel), _, _, rfl⟩, fun h => absurd h (by decide)⟩
set_option maxRecDepth 100000 in
theorem m_fy46 : m_fy 46 := ⟨m_w 417 rfl rfl, m_w 46 (by decide +kernel) (by decide +kernel), ⟨by decide +kernel, by decide +kernel, by decide +kernel⟩, by decide, fun h => absurd h (by decide), fun _ => m_w 416 (by decide +kernel) (by decide +kernel), fun _ => ⟨m_w 17 (by decide +kernel) (by decide +kernel), _, _, rfl⟩, fun h => absurd h (by decide)⟩
set_option maxRecDepth 100000 in
theorem m_fy47 : m_fy 47 := ⟨m_w 421 rfl rfl, m_w 46 (by decide +kernel) (by decide +kernel), ⟨by decide +kernel, by decide +kernel, by decide +kernel⟩, by decide, fun h => absurd h (by decide), fun _ => m_w 420 (by decide +kernel) (by decide +kernel), fun _ => ⟨m_w 18 (by decide +kernel) (by decide +kernel), _, _, rfl⟩, fun h => absurd h (by decide)⟩
set_option maxRecDepth 100000 in
theorem m_fy48 : m_fy 48 := ⟨m_w 425 rfl rfl, m_w 46 (by decide +kernel) (by decide +kernel), ⟨by decide +kernel, by decide +kernel, by decide +kernel⟩, by decide, fun h => absurd h (by decide), fun _ => m_w 424 (by decide +kernel) (by decide +kernel), fun _ => ⟨m_w 19 (by decide +kernel) (by decide +kernel), _, _, rfl⟩, fun h => absurd h (by decide)⟩
set_option maxRecDepth 100000 in
theorem m_fy49 : m_fy 49 := ⟨m_w 429 rfl rfl, m_w 46 (by decide +kernel) (by decide +kernel), ⟨by decide +kernel, by decide +kernel, by decide +kernel⟩, by decide, fun h => absurd h (by decide), fun _ => m_w 428 (by decide +kernel) (by decide +kernel), fun _ => ⟨m_w 20 (by decide +kernel) (by decide +kernel), _, _, rfl⟩, fun h => absurd h (by decide)⟩
set_option maxRecDepth 100000 in
theorem m_fy50 : m_fy 50 := ⟨m_w 433 rfl rfl, m_w 46 (by decide +kernel) (by decide +kernel), ⟨by decide +kernel, by decide +kernel, by decide +kernel⟩, by decide, fun h => absurd h (by decide), fun _ => m_w 432 (by decide +kernel) (by decide +kernel), fun _ => ⟨m_w 21 (by decide +kernel) (by decide +kernel), _, _, rfl⟩, fun h => absurd h (by decide)⟩
set_option maxRecDepth 100000 in
theorem m_fy51 : m_fy 51 := ⟨m_w 437 rfl rfl, m_w 46 (by decide +kernel) (by decide +kernel), ⟨by decide +kernel, by decide +kernel, by decide +kernel⟩, by decide, fun h => absurd h (by decide), fun _ => m_w 435 (by decide +kernel) (by decide +kernel), fun _ => ⟨m_w 436 (by decide +kernel) (by decide +kernel), _, _, rfl⟩, fun h => absurd h (by decide)⟩
set_option maxRecDepth 100000 in
theorem m_fy52 : m_fy 52 := ⟨m_w 441 rfl rfl, m_w 46 (by decide +kernel) (by decide +kernel), ⟨by decide +kernel, by decide +kernel, by decide +kernel⟩, by decide, fun h => absurd h (by decide), fun _ => m_w 439 (by decide +kernel) (by decide +kernel), fun _ => ⟨m_w 440 (by decide +kernel) (by decide +kernel), _, _, rfl⟩, fun h => absurd h (by decide)⟩
set_option maxRecDepth 100000 in
theorem m_fy53 : m_fy 53 := ⟨m_w 445 rfl rfl, m_w 46 (by decide +kernel) (by decide +kernel), ⟨by decide +kernel, by decide +kernel, by decide +kernel⟩, by decide, fun h => absurd h (by decide), fun _ => m_w 443 (by decide +kernel) (by decide +kernel), fun _ => ⟨m_w 444 (by decide +kernel) (by decide +kernel), _, _, rfl⟩, fun h => absurd h (by decide)⟩
set_option maxRecDepth 100000 in
theorem m_fy54 : m_fy 54 := ⟨m_w 449 rfl rfl, m_w 46 (by decide +kernel) (by decide +kernel), ⟨by decide +kernel, by decide +kernel, by decide +kernel⟩, by decide, fun h => absurd h (by decide), fun _ => m_w 447 (by decide +kernel) (by decide +kernel), fun _ => ⟨m_w 448 (by decide +kernel) (by decide +kernel), _, _, rfl⟩, fun h => absurd h (by decide)⟩
set_option maxRecDepth 100000 in
theorem m_fy55 : m_fy 55 := ⟨m_w 453 rfl rfl, m_w 46 (by decide +kernel) (by decide +kernel), ⟨by decide +kernel, by decide +kernel, by decide +kernel⟩, by decide, fun h => absurd h (by decide), fun _ => m_w 451 (by decide +kernel) (by decide +kernel), fun _ => ⟨m_w 452 (by decide +kernel) (by decide +kernel), _, _, rfl⟩, fun h => absurd h (by decide)⟩
set_option maxRecDepth 100000 in
theorem m_fy56 : m_fy 56 := ⟨m_w 457 rfl rfl, m_w 46 (by decide +kernel) (by decide +kernel), ⟨by decide +kernel, by decide +kernel, by decide +kernel⟩, by decide, fun h => absurd h (by decide), fun _ => m_w 455 (by decide +kernel) (by decide +kernel), fun _ => ⟨m_w 456 (by decide +kernel) (by decide +kernel), _, _, rfl⟩, fun h => absurd h (by decide)⟩
set_option maxRecDepth 100000 in
theorem m_fy57 : m_fy 57 := ⟨m_w 461 rfl rfl, m_w 54 (by decide +kernel) (by decide +kernel), ⟨by decide +kernel, by decide +kernel, by decide +kernel⟩, by decide, fun h => absurd h (by decide), fun _ => m_w 459 (by decide +kernel) (by decide +kernel), fun _ => ⟨m_w 460 (by decide +kernel) (by decide +kernel), _, _, rfl⟩, fun h => absurd h (by decide)⟩
set_option maxRecDepth 100000 in
theorem m_fy58 : m_fy 58 := ⟨m_w 465 rfl rfl, m_w 46 (by decide +kernel) (by decide +kernel), ⟨by decide +kernel, by decide +kernel, by decide +kernel⟩, by decide, fun h => absurd h (by decide), fun _ => m_w 463 (by decide +kernel) (by decide +kernel), fun _ => ⟨m_w 464 (by decide +kernel) (by decide +kernel), _, _, rfl⟩, fun h => absurd h (by decide)⟩
set_option maxRecDepth 100000 in
theorem m_fy59 : m_fy 59 := ⟨m_w 469 rfl rfl, m_w 46 (by decide +kernel) (by decide +kernel), ⟨by decide +kernel, by decide +kernel, by decide +kernel⟩, by decide, fun h => absurd h (by decide), fun _ => m_w 467 (by decide +kernel) (by decide +kernel), fun _ => ⟨m_w 468 (by decide +kernel) (by decide +kernel), _, _, rfl⟩, fun h => absurd h (by decide)⟩
set_option maxRecDepth 100000 in
theorem m_fy60 : m_fy 60 := ⟨m_w 473 rfl rfl, m_w 46 (by decide +kernel) (by decide +kernel), ⟨by decide +kernel, by decide +kernel, by decide +kernel⟩, by decide, fun h => absurd h (by decide), fun _ => m_w 471 (by decide +kernel) (by decide +kernel), fun _ => ⟨m_w 472 (by decide +kernel) (by decide +kernel), _, _, rfl⟩, fun h => absurd h (by decide)⟩
set_option maxRecDepth 100000 in
theorem m_fy61 : m_fy 61 := ⟨m_w 477 rfl rfl, m_w 46 (by decide +kernel) (by decide +kernel), ⟨by decide +kernel, by decide +kernel, by decide +kernel⟩, by decide, fun h => absurd h (by decide), fun _ => m_w 475 (by decide +kernel) (by decide +kernel), fun _ => ⟨m_w 476 (by decide +kernel) (by decide +kernel), _, _, rfl⟩, fun h => absurd h (by decide)⟩
set_option maxRecDepth 100000 in
theorem m_fy62 : m_fy 62 := ⟨m_w 482 rfl rfl, m_w 55 (by decide +kernel) (by decide +kernel), ⟨by decide +kernel, by decide +kernel, by decide +kernel⟩, by decide, fun h => absurd h (by decide), fun _ => m_w 481 (by decide +kernel) (by decide +kernel), fun h => absurd h (by decide), fun _ => ⟨rfl, rfl⟩⟩
set_option maxRecDepth 100000 in
theorem m_fy63 : m_fy 63 := ⟨m_w 599 rfl rfl, m_w 55 (by decide +kernel) (by decide +kernel), ⟨by decide +kernel, by decide +kernel, by decide +kernel⟩, by decide, fun h => absurd h (by decide), fun _ => m_w 597 (by decide +kernel) (by decide +kernel), fun _ => ⟨m_w 598 (by decide +kernel) (by decide +kernel), _, _, rfl⟩, fun h => absurd h (by decide)⟩
set_option maxRecDepth 100000 in
theorem m_fy64 : m_fy 64 := ⟨m_w 603 rfl rfl, m_w 55 (by decide +kernel) (by decide +kernel), ⟨by decide +kernel, by decide +kernel, by decide +kernel⟩, by decide, fun h => absurd h (by decide), fun _ => m_w 602 (by decide +kernel) (by decide +kernel), fun _ => ⟨m_w 22 (by decide +kernel) (by decide +kernel), _, _, rfl⟩, fun h => absurd h (by decide)⟩
set_option maxRecDepth 100000 in
theorem m_fy65 : m_fy 65 := ⟨m_w 607 rfl rfl, m_w 55 (by decide +kernel) (by decide +kernel), ⟨by decide +kernel, by decide +kernel, by decide +kernel⟩, by decide, fun h => absurd h (by decide), fun _ => m_w 605 (by decide +kernel) (by decide +kernel), fun _ => ⟨m_w 606 (by decide +kernel) (by decide +kernel), _, _, rfl⟩, fun h => absurd h (by decide)⟩
set_option maxRecDepth 100000 in
theorem m_fy66 : m_fy 66 := ⟨m_w 611 rfl rfl, m_w 55 (by decide +kernel) (by decide +kernel), ⟨by decide +kernel, by decide +kernel, by decide +kernel⟩, by decide, fun h => absurd h (by decide), fun _ => m_w 609 (by decide +kernel) (by decide +kernel), fun _ => ⟨m_w 610 (by decide +kernel) (by decide +kernel), _, _, rfl⟩, fun h => absurd h (by decide)⟩
set_option maxRecDepth 100000 in
theorem m_fy67 : m_fy 67 := ⟨m_w 615 rfl rfl, m_w 55 (by decide +kernel) (by decide +kernel), ⟨by decide +kernel, by decide +kernel, by decide +kernel⟩, by decide, fun h => absurd h (by decide), fun _ => m_w 614 (by decide +kernel) (by decide +kernel), fun _ => ⟨m_w 23 (by decide +kernel) (by decide +kernel), _, _, rfl⟩, fun h => absurd h (by decide)⟩
set_option maxRecDepth 100000 in
theorem m_fy68 : m_fy 68 := ⟨m_w 619 rfl rfl, m_w 55 (by decide +kernel) (by decide +kernel), ⟨by decide +kernel, by decide +kernel, by decide +kernel⟩, by decide, fun h => absurd h (by decide), fun _ => m_w 617 (by decide +kernel) (by decide +kernel), fun _ => ⟨m_w 618 (by decide +kernel) (by decide +kernel), _, _, rfl⟩, fun h => absurd h (by decide)⟩
set_option maxRecDepth 100000 in
theorem m_fy69 : m_fy 69 := ⟨m_w 623 rfl rfl, m_w 55 (by decide +kernel) (by decide +kernel), ⟨by decide +kernel, by decide +kernel, by decide +kernel⟩, by decide, fun h => absurd h (by decide), fun _ => m_w 622 (by decide +kernel) (by decide +kernel), fun _ => ⟨m_w 24 (by decide +kernel) (by decide +kernel), _, _, rfl⟩, fun h => absurd h (by decide)⟩
set_option maxRecDepth 100000 in
theorem m_fy70 : m_fy 70 := ⟨m_w 627 rfl rfl, m_w 55 (by decide +kernel) (by decide +kernel), ⟨by decide +kernel, by decide +kernel, by decide +kernel⟩, by decide, fun h => absurd h (by decide), fun _ => m_w 625 (by decide +kernel) (by decide +kernel), fun _ => ⟨m_w 626 (by decide +kernel) (by decide +kernel), _, _, rfl⟩, fun h => absurd h (by decide)⟩
set_option maxRecDepth 100000 in
theorem m_fy71 : m_fy 71 := ⟨m_w 631 rfl rfl, m_w 55 (by decide +kernel) (by decide +kernel), ⟨by decide +kernel, by decide +kernel, by decide +kernel⟩, by decide, fun h => absurd h (by decide), fun _ => m_w 630 (by decide +kernel) (by decide +kernel), fun _ => ⟨m_w 25 (by decide +kernel) (by decide +kernel), _, _, rfl⟩, fun h => absurd h (by decide)⟩
set_option maxRecDepth 100000 in
theorem m_fy72 : m_fy 72 := ⟨m_w 635 rfl rfl, m_w 55 (by decide +kernel) (by decide +kernel), ⟨by decide +kernel, by decide +kernel, by decide +kernel⟩, by decide, fun h => absurd h (by decide), fun _ => m_w 633 (by decide +kernel) (by decide +kernel), fun _ => ⟨m_w 634 (by decide +kernel) (by decide +kernel), _, _, rfl⟩, fun h => absurd h (by decide)⟩
set_option maxRecDepth 100000 in
theorem m_fy73 : m_fy 73 := ⟨m_w 639 rfl rfl, m_w 55 (by decide +kernel) (by decide +kernel), ⟨by decide +kernel, by decide +kernel, by decide +kernel⟩, by decide, fun h => absurd h (by decide), fun _ => m_w 638 (by decide +kernel) (by decide +kernel), fun _ => ⟨m_w 26 (by decide +kernel) (by decide +kernel), _, _, rfl⟩, fun h => absurd h (by decide)⟩
set_option maxRecDepth 100000 in
theorem m_fy74 : m_fy 74 := ⟨m_w 643 rfl rfl, m_w 55 (by decide +kernel) (by decide +kernel), ⟨by decide +kernel, by decide +kernel, by decide +kernel⟩, by decide, fun h => absurd h (by decide), fun _ => m_w 641 (by decide +kernel) (by decide +kernel), fun _ => ⟨m_w 642 (by decide +kernel) (by decide +kernel), _, _, rfl⟩, fun h => absurd h (by decide)⟩
set_option maxRecDepth 100000 in
theorem m_fy75 : m_fy 75 := ⟨m_w 647 rfl rfl, m_w 55 (by decide +kernel) (by decide +kernel), ⟨by decide +kernel, by decide +kernel, by decide +kernel⟩, by decide, fun h => absurd h (by decide), fun _ => m_w 646 (by decide +kernel) (by decide +kernel), fun _ => ⟨m_w 27 (by decide +kernel) (by decide +kernel), _, _, rfl⟩, fun h => absurd h (by decide)⟩
set_option maxRecDepth 100000 in
theorem m_fy76 : m_fy 76 := ⟨m_w 651 rfl rfl, m_w 55 (by decide +kernel) (by decide +kernel), ⟨by decide +kernel, by decide +kernel, by decide +kernel⟩, by decide, fun h => absurd h (by decide), fun _ => m_w 650 (by decide +kernel) (by decide +kernel), fun _ => ⟨m_w 28 (by decide +kernel) (by decide +kernel), _, _, rfl⟩, fun h => absurd h (by decide)⟩
set_option maxRecDepth 100000 in
theorem m_fy77 : m_fy 77 := ⟨m_w 655 rfl rfl, m_w 55 (by decide +kernel) (by decide +kernel), ⟨by decide +kernel, by decide +kernel, by decide +kernel⟩, by decide, fun h => absurd h (by decide), fun _ => m_w 654 (by decide +kernel) (by decide +kernel), fun _ => ⟨m_w 29 (by decide +kernel) (by decide +kernel), _, _, rfl⟩, fun h => absurd h (by decide)⟩
set_option maxRecDepth 100000 in
theorem m_fy78 : m_fy 78 := ⟨m_w 659 rfl rfl, m_w 55 (by decide +kernel) (by decide +kernel), ⟨by decide +kernel, by decide +kernel, by decide +kernel⟩, by decide, fun h => absurd h (by decide), fun _ => m_w 658 (by decide +kernel) (by decide +kernel), fun _ => ⟨m_w 30 (by decide +kernel) (by decide +kernel), _, _, rfl⟩, fun h => absurd h (by decide)⟩
set_option maxRecDepth 100000 in
theorem m_fy79 : m_fy 79 := ⟨m_w 663 rfl rfl, m_w 55 (by decide +kernel) (by decide +kernel), ⟨by decide +kernel, by decide +kernel, by decide +kernel⟩, by decide, fun h => absurd h (by decide), fun _ => m_w 662 (by decide +kernel) (by decide +kernel), fun _ => ⟨m_w 31 (by decide +kernel) (by decide +kernel), _, _, rfl⟩, fun h => absurd h (by decide)⟩
set_option maxRecDepth 100000 in
theorem m_fy80 : m_fy 80 := ⟨m_w 667 rfl rfl, m_w 55 (by decide +kernel) (by decide +kernel), ⟨by decide +kernel, by decide +kernel, by decide +kernel⟩, by decide, fun h => absurd h (by decide), fun _ => m_w 666 (by decide +kernel) (by decide +kernel), fun _ => ⟨m_w 32 (by decide +kernel) (by decide +kernel), _, _, rfl⟩, fun h => absurd h (by decide)⟩
set_option maxRecDepth 100000 in
theorem m_fy81 : m_fy 81 := ⟨m_w 671 rfl rfl, m_w 55 (by decide +kernel) (by decide +kernel), ⟨by decide +kernel, by decide +kernel, by decide +kernel⟩, by decide, fun h => absurd h (by decide), fun _ => m_w 670 (by decide +kernel) (by decide +kernel), fun _ => ⟨m_w 33 (by decide +kernel) (by decide +kernel), _, _, rfl⟩, fun h => absurd h (by decide)⟩
set_option maxRecDepth 100000 in
theorem m_fy82 : m_fy 82 := ⟨m_w 675 rfl rfl, m_w 55 (by decide +kernel) (by decide +kernel), ⟨by decide +kernel, by decide +kernel, by decide +kernel⟩, by decide, fun h => absurd h (by decide), fun _ => m_w 674 (by decide +kernel) (by decide +kernel), fun _ => ⟨m_w 34 (by decide +kernel) (by decide +kernel), _, _, rfl⟩, fun h => absurd h (by decide)⟩
set_option maxRecDepth 100000 in
theorem m_fy83 : m_fy 83 := ⟨m_w 679 rfl rfl, m_w 55 (by decide +kernel) (by decide +kernel), ⟨by decide +kernel, by decide +kernel, by decide +kernel⟩, by decide, fun h => absurd h (by decide), fun _ => m_w 678 (by decide +kernel) (by decide +kernel), fun _ => ⟨m_w 35 (by decide +kernel) (by decide +kernel), _, _, rfl⟩, fun h => absurd h (by decide)⟩
set_option maxRecDepth 100000 in
theorem m_fy84 : m_fy 84 := ⟨m_w 683 rfl rfl, m_w 55 (by decide +kernel) (by decide +kernel), ⟨by decide +kernel, by decide +kernel, by decide +kernel⟩, by decide, fun h => absurd h (by decide), fun _ => m_w 682 (by decide +kernel) (by decide +kernel), fun _ => ⟨m_w 36 (by decide +kernel) (by decide +kernel), _, _, rfl⟩, fun h => absurd h (by decide)⟩
set_option maxRecDepth 100000 in
theorem m_fy85 : m_fy 85 := ⟨m_w 687 rfl rfl, m_w 55 (by decide +kernel) (by decide +kernel), ⟨by decide +kernel, by decide +kernel, by decide +kernel⟩, by decide, fun h => absurd h (by decide), fun _ => m_w 686 (by decide +kernel) (by decide +kernel), fun _ => ⟨m_w 37 (by decide +kernel) (by decide +kernel), _, _, rfl⟩, fun h => absurd h (by decide)⟩
set_option maxRecDepth 100000 in
theorem m_fy86 : m_fy 86 := ⟨m_w 691 rfl rfl, m_w 55 (by decide +kernel) (by decide +kernel), ⟨by decide +kernel, by decide +kernel, by decide +kernel⟩, by decide, fun h => absurd h (by decide), fun _ => m_w 690 (by decide +kernel) (by decide +kernel), fun _ => ⟨m_w 38 (by decide +kernel) (by decide +kernel), _, _, rfl⟩, fun h => absurd h (by decide)⟩
set_option maxRecDepth 100000 in
theorem m_fy87 : m_fy 87 := ⟨m_w 695 rfl rfl, m_w 55 (by decide +kernel) (by decide +kernel), ⟨by decide +kernel, by decide +kernel, by decide +kernel⟩, by decide, fun h => absurd h (by decide), fun _ => m_w 694 (by decide +kernel) (by decide +kernel), fun _ => ⟨m_w 39 (by decide +kernel) (by decide +kernel), _, _, rfl⟩, fun h => absurd h (by decide)⟩
set_option maxRecDepth 100000 in
theorem m_fy88 : m_fy 88 := ⟨m_w 699 rfl rfl, m_w 55 (by decide +kernel) (by decide +kernel), ⟨by decide +kernel, by decide +kernel, by decide +kernel⟩, by decide, fun h => absurd h (by decide), fun _ => m_w 698 (by decide +kernel) (by decide +kernel), fun _ => ⟨m_w 40 (by decide +kernel) (by decide +kernel), _, _, rfl⟩, fun h => absurd h (by decide)⟩
set_option maxRecDepth 100000 in
theorem m_fy89 : m_fy 89 := ⟨m_w 703 rfl rfl, m_w 55 (by decide +kernel) (by decide +kernel), ⟨by decide +kernel, by decide +kernel, by decide +kernel⟩, by decide, fun h => absurd h (by decide), fun _ => m_w 702 (by decide +kernel) (by decide +kernel), fun _ => ⟨m_w 41 (by decide +kernel) (by decide +kernel), _, _, rfl⟩, fun h => absurd h (by decide)⟩
set_option maxRecDepth 100000 in
theorem m_fy90 : m_fy 90 := ⟨m_w 707 rfl rfl, m_w 55 (by decide +kernel) (by decide +kernel), ⟨by decide +kernel, by decide +kernel, by decide +kernel⟩, by decide, fun h => absurd h (by decide), fun _ => m_w 706 (by decide +kernel) (by decide +kernel), fun _ => ⟨m_w 42 (by decide +kernel) (by decide +kernel), _, _, rfl⟩, fun h => absurd h (by decide)⟩
set_option maxRecDepth 100000 in
theorem m_fy91 : m_fy 91 := ⟨m_w 711 rfl rfl, m_w 55 (by decide +kernel) (by decide +kernel), ⟨by decide +kernel, by decide +kernel, by decide +kernel⟩, by decide, fun h => absurd h (by decide), fun _ => m_w 710 (by decide +kernel) (by decide +kernel), fun _ => ⟨m_w 43 (by decide +kernel) (by decide +kernel), _, _, rfl⟩, fun h => absurd h (by decide)⟩
set_option maxRecDepth 100000 in
theorem m_fy92 : m_fy 92 := ⟨m_w 715 rfl rfl, m_w 55 (by decide +kernel) (by decide +kernel), ⟨by decide +kernel, by decide +kernel, by decide +kernel⟩, by decide, fun h => absurd h (by decide), fun _ => m_w 713 (by decide +kernel) (by decide +kernel), fun _ => ⟨m_w 714 (by decide +kernel) (by decide +kernel), _, _, rfl⟩, fun h => absurd h (by decide)⟩
set_option maxRecDepth 100000 in
theorem m_fy93 : m_fy 93 := ⟨m_w 719 rfl rfl, m_w 55 (by decide +kernel) (by decide +kernel), ⟨by decide +kernel, by decide +kernel, by decide +kernel⟩, by decide, fun h => absurd h (by decide), fun _ => m_w 717 (by decide +kernel) (by decide +kernel), fun _ => ⟨m_w 718 (by decide +kernel) (by decide +kernel), _, _, rfl⟩, fun h => absurd h (by decide)⟩
set_option maxRecDepth 100000 in
theorem m_fy94 : m_fy 94 := ⟨m_w 723 rfl rfl, m_w 55 (by decide +kernel) (by decide +kernel), ⟨by decide +kernel, by decide +kernel, by decide +kernel⟩, by decide, fun h => absurd h (by decide), fun _ => m_w 721 (by decide +kernel) (by decide +kernel), fun _ => ⟨m_w 722 (by decide +kernel) (by decide +kernel), _, _, rfl⟩, fun h => absurd h (by decide)⟩
set_option maxRecDepth 100000 in
theorem m_fy95 : m_fy 95 := ⟨m_w 727 rfl rfl, m_w 55 (by decide +kernel) (by decide +kernel), ⟨by decide +kernel, by decide +kernel, by decide +kernel⟩, by decide, fun h => absurd h (by decide), fun _ => m_w 725 (by decide +kernel) (by decide +kernel), fun _ => ⟨m_w 726 (by decide +kernel) (by decide +kernel), _, _, rfl⟩, fun h => absurd h (by decide)⟩
set_option maxRecDepth 100000 in
theorem m_fy96 : m_fy 96 := ⟨m_w 731 rfl rfl, m_w 55 (by decide +kernel) (by decide +kernel), ⟨by decide +kernel, by decide +kernel, by decide +kernel⟩, by decide, fun h => absurd h (by decide), fun _ => m_w 730 (by decide +kernel) (by decide +kernel), fun _ => ⟨m_w 44 (by decide +kernel) (by decide +kernel), _, _, rfl⟩, fun h => absurd h (by decide)⟩
set_option maxRecDepth 100000 in
theorem m_fy97 : m_fy 97 := ⟨m_w 735 rfl rfl, m_w 55 (by decide +kernel) (by decide +kernel), ⟨by decide +kernel, by decide +kernel, by decide +kernel⟩, by decide, fun h => absurd h (by decide), fun _ => m_w 733 (by decide +kernel) (by decide +kernel), fun _ => ⟨m_w 734 (by decide +kernel) (by decide +kernel), _, _, rfl⟩, fun h => absurd h (by decide)⟩
set_option maxRecDepth 100000 in
theorem m_fy98 : m_fy 98 := ⟨m_w 739 rfl rfl, m_w 55 (by decide +kernel) (by decide +kernel), ⟨by decide +kernel, by decide +kernel, by decide +kernel⟩, by decide, fun h => absurd h (by decide), fun _ => m_w 737 (by decide +kernel) (by decide +kernel), fun _ => ⟨m_w 738 (by decide +kernel) (by decide +kernel), _, _, rfl⟩, fun h => absurd h (by decide)⟩
set_option maxRecDepth 100000 in
theorem m_fy99 : m_fy 99 := ⟨m_w 743 rfl rfl, m_w 55 (by decide +kernel) (by decide +kernel), ⟨by decide +kernel, by decide +kernel, by decide +kernel⟩, by decide, fun h => absurd h (by decide), fun _ => m_w 741 (by decide +kernel) (by decide +kernel), fun _ => ⟨m_w 742 (by decide +kernel) (by decide +kernel), _, _, rfl⟩, fun h => absurd h (by decide)⟩
set_option maxRecDepth 100000 in
theorem m_fy100 : m_fy 100 := ⟨m_w 747 rfl rfl, m_w 55 (by decide +kernel) (by decide +kernel), ⟨by decide +kernel, by decide +kernel, by decide +kernel⟩, by decide, fun h => absurd h (by decide), fun _ => m_w 745 (by decide +kernel) (by decide +kernel), fun _ => ⟨m_w 746 (by decide +kernel) (by decide +kernel), _, _, rfl⟩, fun h => absurd h (by decide)⟩
def m_mlq (c : Nat) (e : Nat × Nat) : Prop := if e.2 = 0 then Cond.methodLink (m_cn c) e.1 Lib.objectInit ∈ m_W0 else m_fy e.2 ∧ m_lmw (m_cn c) e.1 (m_mn e.2)
theorem m_ml0_1 : m_mlq 0 (1, 0) := m_w 61 (by decide +kernel) (by decide +kernel)
theorem m_ml0_9 : m_mlq 0 (9, 1) := ⟨m_fy1, Or.inr ⟨"PropagationDesk", List.mem_of_getElem? (i := 66) (by decide +kernel)⟩⟩
theorem m_ml0_32 : m_mlq 0 (32, 3) := ⟨m_fy3, Or.inr ⟨"PropagationDesk", List.mem_of_getElem? (i := 102) (by decide +kernel)⟩⟩
theorem m_ml0_33 : m_mlq 0 (33, 4) := ⟨m_fy4, Or.inr ⟨"PropagationDesk", List.mem_of_getElem? (i := 137) (by decide +kernel)⟩⟩
theorem m_ml0_36 : m_mlq 0 (36, 6) := ⟨m_fy6, Or.inr ⟨"PropagationDesk", List.mem_of_getElem? (i := 214) (by decide +kernel)⟩⟩
theorem m_ml0_44 : m_mlq 0 (44, 8) := ⟨m_fy8, Or.inl (m_w 260 (by decide +kernel) (by decide +kernel))⟩
theorem m_ml0_48 : m_mlq 0 (48, 9) := ⟨m_fy9, Or.inl (m_w 264 (by decide +kernel) (by decide +kernel))⟩
theorem m_ml0_59 : m_mlq 0 (59, 12) := ⟨m_fy12, Or.inl (m_w 276 (by decide +kernel) (by decide +kernel))⟩
theorem m_ml0_62 : m_mlq 0 (62, 13) := ⟨m_fy13, Or.inl (m_w 280 (by decide +kernel) (by decide +kernel))⟩
theorem m_ml0_66 : m_mlq 0 (66, 15) := ⟨m_fy15, Or.inl (m_w 288 (by decide +kernel) (by decide +kernel))⟩
theorem m_ml0_70 : m_mlq 0 (70, 17) := ⟨m_fy17, Or.inl (m_w 295 (by decide +kernel) (by decide +kernel))⟩
theorem m_ml0_74 : m_mlq 0 (74, 19) := ⟨m_fy19, Or.inl (m_w 303 (by decide +kernel) (by decide +kernel))⟩
theorem m_ml0_80 : m_mlq 0 (80, 20) := ⟨m_fy20, Or.inl (m_w 307 (by decide +kernel) (by decide +kernel))⟩
theorem m_ml0_84 : m_mlq 0 (84, 16) := ⟨m_fy16, Or.inl (m_w 292 (by decide +kernel) (by decide +kernel))⟩
theorem m_ml0_87 : m_mlq 0 (87, 39) := ⟨m_fy39, Or.inl (m_w 383 (by decide +kernel) (by decide +kernel))⟩
theorem m_ml0_91 : m_mlq 0 (91, 43) := ⟨m_fy43, Or.inl (m_w 400 (by decide +kernel) (by decide +kernel))⟩
theorem m_ml0_98 : m_mlq 0 (98, 57) := ⟨m_fy57, Or.inl (m_w 458 (by decide +kernel) (by decide +kernel))⟩
theorem m_ml0_110 : m_mlq 0 (110, 21) := ⟨m_fy21, Or.inl (m_w 311 (by decide +kernel) (by decide +kernel))⟩
theorem m_ml0_126 : m_mlq 0 (126, 28) := ⟨m_fy28, Or.inl (m_w 339 (by decide +kernel) (by decide +kernel))⟩
theorem m_ml0_130 : m_mlq 0 (130, 42) := ⟨m_fy42, Or.inl (m_w 396 (by decide +kernel) (by decide +kernel))⟩
theorem m_ml0_134 : m_mlq 0 (134, 22) := ⟨m_fy22, Or.inl (m_w 315 (by decide +kernel) (by decide +kernel))⟩
theorem m_ml0_135 : m_mlq 0 (135, 23) := ⟨m_fy23, Or.inl (m_w 319 (by decide +kernel) (by decide +kernel))⟩
theorem m_ml0_139 : m_mlq 0 (139, 26) := ⟨m_fy26, Or.inl (m_w 331 (by decide +kernel) (by decide +kernel))⟩
theorem m_ml0_142 : m_mlq 0 (142, 24) := ⟨m_fy24, Or.inl (m_w 323 (by decide +kernel) (by decide +kernel))⟩
theorem m_ml0_150 : m_mlq 0 (150, 27) := ⟨m_fy27, Or.inl (m_w 335 (by decide +kernel) (by decide +kernel))⟩
theorem m_ml0_163 : m_mlq 0 (163, 25) := ⟨m_fy25, Or.inl (m_w 327 (by decide +kernel) (by decide +kernel))⟩
theorem m_ml0_170 : m_mlq 0 (170, 44) := ⟨m_fy44, Or.inl (m_w 406 (by decide +kernel) (by decide +kernel))⟩
theorem m_ml0_174 : m_mlq 0 (174, 46) := ⟨m_fy46, Or.inl (m_w 414 (by decide +kernel) (by decide +kernel))⟩
theorem m_ml0_184 : m_mlq 0 (184, 45) := ⟨m_fy45, Or.inl (m_w 410 (by decide +kernel) (by decide +kernel))⟩
theorem m_ml0_187 : m_mlq 0 (187, 47) := ⟨m_fy47, Or.inl (m_w 418 (by decide +kernel) (by decide +kernel))⟩
theorem m_ml0_191 : m_mlq 0 (191, 48) := ⟨m_fy48, Or.inl (m_w 422 (by decide +kernel) (by decide +kernel))⟩
theorem m_ml0_194 : m_mlq 0 (194, 50) := ⟨m_fy50, Or.inl (m_w 430 (by decide +kernel) (by decide +kernel))⟩
theorem m_ml0_203 : m_mlq 0 (203, 33) := ⟨m_fy33, Or.inl (m_w 359 (by decide +kernel) (by decide +kernel))⟩
theorem m_ml0_211 : m_mlq 0 (211, 49) := ⟨m_fy49, Or.inl (m_w 426 (by decide +kernel) (by decide +kernel))⟩
theorem m_ml0_215 : m_mlq 0 (215, 32) := ⟨m_fy32, Or.inl (m_w 355 (by decide +kernel) (by decide +kernel))⟩
theorem m_ml0_219 : m_mlq 0 (219, 29) := ⟨m_fy29, Or.inl (m_w 343 (by decide +kernel) (by decide +kernel))⟩
theorem m_ml0_222 : m_mlq 0 (222, 34) := ⟨m_fy34, Or.inl (m_w 363 (by decide +kernel) (by decide +kernel))⟩
theorem m_ml0_225 : m_mlq 0 (225, 37) := ⟨m_fy37, Or.inl (m_w 375 (by decide +kernel) (by decide +kernel))⟩
theorem m_ml0_227 : m_mlq 0 (227, 38) := ⟨m_fy38, Or.inl (m_w 379 (by decide +kernel) (by decide +kernel))⟩
theorem m_ml0_230 : m_mlq 0 (230, 41) := ⟨m_fy41, Or.inl (m_w 392 (by decide +kernel) (by decide +kernel))⟩
theorem m_ml0_234 : m_mlq 0 (234, 30) := ⟨m_fy30, Or.inl (m_w 347 (by decide +kernel) (by decide +kernel))⟩
theorem m_ml0_238 : m_mlq 0 (238, 31) := ⟨m_fy31, Or.inl (m_w 351 (by decide +kernel) (by decide +kernel))⟩
theorem m_ml0_244 : m_mlq 0 (244, 35) := ⟨m_fy35, Or.inl (m_w 367 (by decide +kernel) (by decide +kernel))⟩
theorem m_ml0_251 : m_mlq 0 (251, 36) := ⟨m_fy36, Or.inl (m_w 371 (by decide +kernel) (by decide +kernel))⟩
theorem m_mls0 : ∀ e ∈ m_mls.getD 0 [], m_mlq 0 e := List.forall_mem_cons.mpr ⟨m_ml0_1, List.forall_mem_cons.mpr ⟨m_ml0_9, List.forall_mem_cons.mpr ⟨m_ml0_32, List.forall_mem_cons.mpr ⟨m_ml0_33, List.forall_mem_cons.mpr ⟨m_ml0_36, List.forall_mem_cons.mpr ⟨m_ml0_44, List.forall_mem_cons.mpr ⟨m_ml0_48, List.forall_mem_cons.mpr ⟨m_ml0_59, List.forall_mem_cons.mpr ⟨m_ml0_62, List.forall_mem_cons.mpr ⟨m_ml0_66, List.forall_mem_cons.mpr ⟨m_ml0_70, List.forall_mem_cons.mpr ⟨m_ml0_74, List.forall_mem_cons.mpr ⟨m_ml0_80, List.forall_mem_cons.mpr ⟨m_ml0_84, List.forall_mem_cons.mpr ⟨m_ml0_87, List.forall_mem_cons.mpr ⟨m_ml0_91, List.forall_mem_cons.mpr ⟨m_ml0_98, List.forall_mem_cons.mpr ⟨m_ml0_110, List.forall_mem_cons.mpr ⟨m_ml0_126, List.forall_mem_cons.mpr ⟨m_ml0_130, List.forall_mem_cons.mpr ⟨m_ml0_134, List.forall_mem_cons.mpr ⟨m_ml0_135, List.forall_mem_cons.mpr ⟨m_ml0_139, List.forall_mem_cons.mpr ⟨m_ml0_142, List.forall_mem_cons.mpr ⟨m_ml0_150, List.forall_mem_cons.mpr ⟨m_ml0_163, List.forall_mem_cons.mpr ⟨m_ml0_170, List.forall_mem_cons.mpr ⟨m_ml0_174, List.forall_mem_cons.mpr ⟨m_ml0_184, List.forall_mem_cons.mpr ⟨m_ml0_187, List.forall_mem_cons.mpr ⟨m_ml0_191, List.forall_mem_cons.mpr ⟨m_ml0_194, List.forall_mem_cons.mpr ⟨m_ml0_203, List.forall_mem_cons.mpr ⟨m_ml0_211, List.forall_mem_cons.mpr ⟨m_ml0_215, List.forall_mem_cons.mpr ⟨m_ml0_219, List.forall_mem_cons.mpr ⟨m_ml0_222, List.forall_mem_cons.mpr ⟨m_ml0_225, List.forall_mem_cons.mpr ⟨m_ml0_227, List.forall_mem_cons.mpr ⟨m_ml0_230, List.forall_mem_cons.mpr ⟨m_ml0_234, List.forall_mem_cons.mpr ⟨m_ml0_238, List.forall_mem_cons.mpr ⟨m_ml0_244, List.forall_mem_cons.mpr ⟨m_ml0_251, fun _ h => absurd h List.not_mem_nil⟩⟩⟩⟩⟩⟩⟩⟩⟩⟩⟩⟩⟩⟩⟩⟩⟩⟩⟩⟩⟩⟩⟩⟩⟩⟩⟩⟩⟩⟩⟩⟩⟩⟩⟩⟩⟩⟩⟩⟩⟩⟩⟩⟩
theorem m_ml1_3 : m_mlq 1 (3, 0) := m_w 69 (by decide +kernel) (by decide +kernel)
theorem m_ml1_28 : m_mlq 1 (28, 8) := ⟨m_fy8, Or.inl (m_w 391 (by decide +kernel) (by decide +kernel))⟩
theorem m_ml1_32 : m_mlq 1 (32, 40) := ⟨m_fy40, Or.inl (m_w 387 (by decide +kernel) (by decide +kernel))⟩
theorem m_mls1 : ∀ e ∈ m_mls.getD 1 [], m_mlq 1 e := List.forall_mem_cons.mpr ⟨m_ml1_3, List.forall_mem_cons.mpr ⟨m_ml1_28, List.forall_mem_cons.mpr ⟨m_ml1_32, fun _ h => absurd h List.not_mem_nil⟩⟩⟩
theorem m_ml2_3 : m_mlq 2 (3, 0) := m_w 105 (by decide +kernel) (by decide +kernel)
theorem m_ml2_35 : m_mlq 2 (35, 39) := ⟨m_fy39, Or.inl (m_w 404 (by decide +kernel) (by decide +kernel))⟩
theorem m_ml2_41 : m_mlq 2 (41, 40) := ⟨m_fy40, Or.inl (m_w 405 (by decide +kernel) (by decide +kernel))⟩
theorem m_mls2 : ∀ e ∈ m_mls.getD 2 [], m_mlq 2 e := List.forall_mem_cons.mpr ⟨m_ml2_3, List.forall_mem_cons.mpr ⟨m_ml2_35, List.forall_mem_cons.mpr ⟨m_ml2_41, fun _ h => absurd h List.not_mem_nil⟩⟩⟩
theorem m_ml3_3 : m_mlq 3 (3, 0) := m_w 146 (by decide +kernel) (by decide +kernel)
theorem m_mls3 : ∀ e ∈ m_mls.getD 3 [], m_mlq 3 e := List.forall_mem_cons.mpr ⟨m_ml3_3, fun _ h => absurd h List.not_mem_nil⟩
theorem m_ml4_3 : m_mlq 4 (3, 0) := m_w 140 (by decide +kernel) (by decide +kernel)
theorem m_ml4_11 : m_mlq 4 (11, 5) := ⟨m_fy5, Or.inr ⟨"PropagationDesk", List.mem_of_getElem? (i := 143) (by decide +kernel)⟩⟩
theorem m_mls4 : ∀ e ∈ m_mls.getD 4 [], m_mlq 4 e := List.forall_mem_cons.mpr ⟨m_ml4_3, List.forall_mem_cons.mpr ⟨m_ml4_11, fun _ h => absurd h List.not_mem_nil⟩⟩
theorem m_ml5_3 : m_mlq 5 (3, 0) := m_w 217 (by decide +kernel) (by decide +kernel)
theorem m_mls5 : ∀ e ∈ m_mls.getD 5 [], m_mlq 5 e := List.forall_mem_cons.mpr ⟨m_ml5_3, fun _ h => absurd h List.not_mem_nil⟩
theorem m_ml6_1 : m_mlq 6 (1, 0) := m_w 483 (by decide +kernel) (by decide +kernel)
theorem m_ml6_108 : m_mlq 6 (108, 64) := ⟨m_fy64, Or.inl (m_w 600 (by decide +kernel) (by decide +kernel))⟩
theorem m_ml6_112 : m_mlq 6 (112, 67) := ⟨m_fy67, Or.inl (m_w 612 (by decide +kernel) (by decide +kernel))⟩
theorem m_ml6_115 : m_mlq 6 (115, 69) := ⟨m_fy69, Or.inl (m_w 620 (by decide +kernel) (by decide +kernel))⟩
theorem m_ml6_119 : m_mlq 6 (119, 71) := ⟨m_fy71, Or.inl (m_w 628 (by decide +kernel) (by decide +kernel))⟩
theorem m_ml6_123 : m_mlq 6 (123, 73) := ⟨m_fy73, Or.inl (m_w 636 (by decide +kernel) (by decide +kernel))⟩
theorem m_ml6_130 : m_mlq 6 (130, 80) := ⟨m_fy80, Or.inl (m_w 664 (by decide +kernel) (by decide +kernel))⟩
theorem m_ml6_134 : m_mlq 6 (134, 90) := ⟨m_fy90, Or.inl (m_w 704 (by decide +kernel) (by decide +kernel))⟩
theorem m_ml6_138 : m_mlq 6 (138, 89) := ⟨m_fy89, Or.inl (m_w 700 (by decide +kernel) (by decide +kernel))⟩
theorem m_ml6_151 : m_mlq 6 (151, 76) := ⟨m_fy76, Or.inl (m_w 648 (by decide +kernel) (by decide +kernel))⟩
theorem m_ml6_154 : m_mlq 6 (154, 77) := ⟨m_fy77, Or.inl (m_w 652 (by decide +kernel) (by decide +kernel))⟩
theorem m_ml6_157 : m_mlq 6 (157, 91) := ⟨m_fy91, Or.inl (m_w 708 (by decide +kernel) (by decide +kernel))⟩
theorem m_ml6_160 : m_mlq 6 (160, 87) := ⟨m_fy87, Or.inl (m_w 692 (by decide +kernel) (by decide +kernel))⟩
theorem m_ml6_164 : m_mlq 6 (164, 88) := ⟨m_fy88, Or.inl (m_w 696 (by decide +kernel) (by decide +kernel))⟩
theorem m_ml6_167 : m_mlq 6 (167, 79) := ⟨m_fy79, Or.inl (m_w 660 (by decide +kernel) (by decide +kernel))⟩
theorem m_ml6_173 : m_mlq 6 (173, 75) := ⟨m_fy75, Or.inl (m_w 644 (by decide +kernel) (by decide +kernel))⟩
theorem m_ml6_177 : m_mlq 6 (177, 81) := ⟨m_fy81, Or.inl (m_w 668 (by decide +kernel) (by decide +kernel))⟩
theorem m_ml6_181 : m_mlq 6 (181, 82) := ⟨m_fy82, Or.inl (m_w 672 (by decide +kernel) (by decide +kernel))⟩
theorem m_ml6_184 : m_mlq 6 (184, 83) := ⟨m_fy83, Or.inl (m_w 676 (by decide +kernel) (by decide +kernel))⟩
theorem m_ml6_187 : m_mlq 6 (187, 84) := ⟨m_fy84, Or.inl (m_w 680 (by decide +kernel) (by decide +kernel))⟩
theorem m_ml6_190 : m_mlq 6 (190, 85) := ⟨m_fy85, Or.inl (m_w 684 (by decide +kernel) (by decide +kernel))⟩
theorem m_ml6_193 : m_mlq 6 (193, 78) := ⟨m_fy78, Or.inl (m_w 656 (by decide +kernel) (by decide +kernel))⟩
theorem m_ml6_196 : m_mlq 6 (196, 86) := ⟨m_fy86, Or.inl (m_w 688 (by decide +kernel) (by decide +kernel))⟩
theorem m_ml6_199 : m_mlq 6 (199, 96) := ⟨m_fy96, Or.inl (m_w 728 (by decide +kernel) (by decide +kernel))⟩
theorem m_mls6 : ∀ e ∈ m_mls.getD 6 [], m_mlq 6 e := List.forall_mem_cons.mpr ⟨m_ml6_1, List.forall_mem_cons.mpr ⟨m_ml6_108, List.forall_mem_cons.mpr ⟨m_ml6_112, List.forall_mem_cons.mpr ⟨m_ml6_115, List.forall_mem_cons.mpr ⟨m_ml6_119, List.forall_mem_cons.mpr ⟨m_ml6_123, List.forall_mem_cons.mpr ⟨m_ml6_130, List.forall_mem_cons.mpr ⟨m_ml6_134, List.forall_mem_cons.mpr ⟨m_ml6_138, List.forall_mem_cons.mpr ⟨m_ml6_151, List.forall_mem_cons.mpr ⟨m_ml6_154, List.forall_mem_cons.mpr ⟨m_ml6_157, List.forall_mem_cons.mpr ⟨m_ml6_160, List.forall_mem_cons.mpr ⟨m_ml6_164, List.forall_mem_cons.mpr ⟨m_ml6_167, List.forall_mem_cons.mpr ⟨m_ml6_173, List.forall_mem_cons.mpr ⟨m_ml6_177, List.forall_mem_cons.mpr ⟨m_ml6_181, List.forall_mem_cons.mpr ⟨m_ml6_184, List.forall_mem_cons.mpr ⟨m_ml6_187, List.forall_mem_cons.mpr ⟨m_ml6_190, List.forall_mem_cons.mpr ⟨m_ml6_193, List.forall_mem_cons.mpr ⟨m_ml6_196, List.forall_mem_cons.mpr ⟨m_ml6_199, fun _ h => absurd h List.not_mem_nil⟩⟩⟩⟩⟩⟩⟩⟩⟩⟩⟩⟩⟩⟩⟩⟩⟩⟩⟩⟩⟩⟩⟩⟩
theorem m_ml7_9 : m_mlq 7 (9, 2) := ⟨m_fy2, Or.inl (m_w 58 (by decide +kernel) (by decide +kernel))⟩
theorem m_ml7_12 : m_mlq 7 (12, 62) := ⟨m_fy62, Or.inl (m_w 480 (by decide +kernel) (by decide +kernel))⟩
theorem m_ml7_13 : m_mlq 7 (13, 7) := ⟨m_fy7, Or.inl (m_w 256 (by decide +kernel) (by decide +kernel))⟩
theorem m_ml7_17 : m_mlq 7 (17, 63) := ⟨m_fy63, Or.inl (m_w 596 (by decide +kernel) (by decide +kernel))⟩
theorem m_ml7_18 : m_mlq 7 (18, 10) := ⟨m_fy10, Or.inl (m_w 268 (by decide +kernel) (by decide +kernel))⟩
theorem m_ml7_21 : m_mlq 7 (21, 65) := ⟨m_fy65, Or.inl (m_w 604 (by decide +kernel) (by decide +kernel))⟩
theorem m_ml7_22 : m_mlq 7 (22, 11) := ⟨m_fy11, Or.inl (m_w 272 (by decide +kernel) (by decide +kernel))⟩
theorem m_ml7_26 : m_mlq 7 (26, 66) := ⟨m_fy66, Or.inl (m_w 608 (by decide +kernel) (by decide +kernel))⟩
theorem m_ml7_27 : m_mlq 7 (27, 14) := ⟨m_fy14, Or.inl (m_w 284 (by decide +kernel) (by decide +kernel))⟩
theorem m_ml7_31 : m_mlq 7 (31, 68) := ⟨m_fy68, Or.inl (m_w 616 (by decide +kernel) (by decide +kernel))⟩
theorem m_ml7_32 : m_mlq 7 (32, 18) := ⟨m_fy18, Or.inl (m_w 299 (by decide +kernel) (by decide +kernel))⟩
theorem m_ml7_35 : m_mlq 7 (35, 74) := ⟨m_fy74, Or.inl (m_w 640 (by decide +kernel) (by decide +kernel))⟩
theorem m_ml7_36 : m_mlq 7 (36, 51) := ⟨m_fy51, Or.inl (m_w 434 (by decide +kernel) (by decide +kernel))⟩
theorem m_ml7_40 : m_mlq 7 (40, 92) := ⟨m_fy92, Or.inl (m_w 712 (by decide +kernel) (by decide +kernel))⟩
theorem m_ml7_41 : m_mlq 7 (41, 52) := ⟨m_fy52, Or.inl (m_w 438 (by decide +kernel) (by decide +kernel))⟩
theorem m_ml7_44 : m_mlq 7 (44, 93) := ⟨m_fy93, Or.inl (m_w 716 (by decide +kernel) (by decide +kernel))⟩
theorem m_ml7_45 : m_mlq 7 (45, 53) := ⟨m_fy53, Or.inl (m_w 442 (by decide +kernel) (by decide +kernel))⟩
theorem m_ml7_48 : m_mlq 7 (48, 70) := ⟨m_fy70, Or.inl (m_w 624 (by decide +kernel) (by decide +kernel))⟩
theorem m_ml7_49 : m_mlq 7 (49, 54) := ⟨m_fy54, Or.inl (m_w 446 (by decide +kernel) (by decide +kernel))⟩
theorem m_ml7_52 : m_mlq 7 (52, 72) := ⟨m_fy72, Or.inl (m_w 632 (by decide +kernel) (by decide +kernel))⟩
theorem m_ml7_53 : m_mlq 7 (53, 55) := ⟨m_fy55, Or.inl (m_w 450 (by decide +kernel) (by decide +kernel))⟩
theorem m_ml7_57 : m_mlq 7 (57, 94) := ⟨m_fy94, Or.inl (m_w 720 (by decide +kernel) (by decide +kernel))⟩
theorem m_ml7_58 : m_mlq 7 (58, 56) := ⟨m_fy56, Or.inl (m_w 454 (by decide +kernel) (by decide +kernel))⟩
theorem m_ml7_61 : m_mlq 7 (61, 95) := ⟨m_fy95, Or.inl (m_w 724 (by decide +kernel) (by decide +kernel))⟩
theorem m_ml7_62 : m_mlq 7 (62, 58) := ⟨m_fy58, Or.inl (m_w 462 (by decide +kernel) (by decide +kernel))⟩
theorem m_ml7_65 : m_mlq 7 (65, 97) := ⟨m_fy97, Or.inl (m_w 732 (by decide +kernel) (by decide +kernel))⟩
theorem m_ml7_66 : m_mlq 7 (66, 59) := ⟨m_fy59, Or.inl (m_w 466 (by decide +kernel) (by decide +kernel))⟩
theorem m_ml7_69 : m_mlq 7 (69, 98) := ⟨m_fy98, Or.inl (m_w 736 (by decide +kernel) (by decide +kernel))⟩
theorem m_ml7_70 : m_mlq 7 (70, 60) := ⟨m_fy60, Or.inl (m_w 470 (by decide +kernel) (by decide +kernel))⟩
theorem m_ml7_73 : m_mlq 7 (73, 99) := ⟨m_fy99, Or.inl (m_w 740 (by decide +kernel) (by decide +kernel))⟩
theorem m_ml7_74 : m_mlq 7 (74, 61) := ⟨m_fy61, Or.inl (m_w 474 (by decide +kernel) (by decide +kernel))⟩
theorem m_ml7_77 : m_mlq 7 (77, 100) := ⟨m_fy100, Or.inl (m_w 744 (by decide +kernel) (by decide +kernel))⟩
theorem m_mls7 : ∀ e ∈ m_mls.getD 7 [], m_mlq 7 e := List.forall_mem_cons.mpr ⟨m_ml7_9, List.forall_mem_cons.mpr ⟨m_ml7_12, List.forall_mem_cons.mpr ⟨m_ml7_13, List.forall_mem_cons.mpr ⟨m_ml7_17, List.forall_mem_cons.mpr ⟨m_ml7_18, List.forall_mem_cons.mpr ⟨m_ml7_21, List.forall_mem_cons.mpr ⟨m_ml7_22, List.forall_mem_cons.mpr ⟨m_ml7_26, List.forall_mem_cons.mpr ⟨m_ml7_27, List.forall_mem_cons.mpr ⟨m_ml7_31, List.forall_mem_cons.mpr ⟨m_ml7_32, List.forall_mem_cons.mpr ⟨m_ml7_35, List.forall_mem_cons.mpr ⟨m_ml7_36, List.forall_mem_cons.mpr ⟨m_ml7_40, List.forall_mem_cons.mpr ⟨m_ml7_41, List.forall_mem_cons.mpr ⟨m_ml7_44, List.forall_mem_cons.mpr ⟨m_ml7_45, List.forall_mem_cons.mpr ⟨m_ml7_48, List.forall_mem_cons.mpr ⟨m_ml7_49, List.forall_mem_cons.mpr ⟨m_ml7_52, List.forall_mem_cons.mpr ⟨m_ml7_53, List.forall_mem_cons.mpr ⟨m_ml7_57, List.forall_mem_cons.mpr ⟨m_ml7_58, List.forall_mem_cons.mpr ⟨m_ml7_61, List.forall_mem_cons.mpr ⟨m_ml7_62, List.forall_mem_cons.mpr ⟨m_ml7_65, List.forall_mem_cons.mpr ⟨m_ml7_66, List.forall_mem_cons.mpr ⟨m_ml7_69, List.forall_mem_cons.mpr ⟨m_ml7_70, List.forall_mem_cons.mpr ⟨m_ml7_73, List.forall_mem_cons.mpr ⟨m_ml7_74, List.forall_mem_cons.mpr ⟨m_ml7_77, fun _ h => absurd h List.not_mem_nil⟩⟩⟩⟩⟩⟩⟩⟩⟩⟩⟩⟩⟩⟩⟩⟩⟩⟩⟩⟩⟩⟩⟩⟩⟩⟩⟩⟩⟩⟩⟩⟩
theorem m_mls8 : ∀ e ∈ m_mls.getD 8 [], m_mlq 8 e := fun _ h => absurd h List.not_mem_nil
theorem m_mls_all (c : Nat) : ∀ e ∈ m_mls.getD c [], m_mlq c e := by
  match c with
  | 0 => exact m_mls0
  | 1 => exact m_mls1
  | 2 => exact m_mls2
  | 3 => exact m_mls3
  | 4 => exact m_mls4
  | 5 => exact m_mls5
  | 6 => exact m_mls6
  | 7 => exact m_mls7
  | 8 => exact m_mls8
  | n + 9 =>
    intro e he
    exact absurd he (by rw [show m_mls.getD (n + 9) [] = [] from rfl]; exact List.not_mem_nil)
theorem m_ml_ok {me idx y : Nat} (h : m_ml me idx = some y) (hy : y ≠ 0) : m_fy y ∧ m_lmw (m_on me) idx (m_mn y) := by
  have hm := m_look h
  have h1 := m_mls_all _ _ hm
  unfold m_mlq at h1
  rw [if_neg hy] at h1
  rw [m_fl_oc rfl _ hm]
  exact h1
theorem m_oi_ok {me idx : Nat} (h : m_ml me idx = some 0) : Cond.methodLink (m_on me) idx Lib.objectInit ∈ m_W0 ∧ Cond.instanceMethod Lib.objectInit ∈ m_W0 ∧ Cond.code Lib.objectInit ⟨#[0xb1]⟩ 1 none ∈ m_W0 := by
  have hm := m_look h
  have h1 := m_mls_all _ _ hm
  unfold m_mlq at h1
  rw [if_pos rfl] at h1
  rw [m_fl_oc rfl _ hm]
  exact ⟨h1, m_w 62 (by decide +kernel) (by decide +kernel), m_w 63 (by decide +kernel) rfl⟩
def m_nwq (c : Nat) (e : Nat × Nat) : Prop := ∃ C T N ty, m_ff e.2 C T N ty ∧ Cond.classLink (m_cn c) e.1 C ∈ m_W0 ∧ Cond.instantiable C N ∈ m_W0 ∧ Cond.initialized C ∈ m_W0
theorem m_nw0_7 : m_nwq 0 (7, 1) := ⟨_, _, _, _, m_ff1, m_w 64 (by decide +kernel) (by decide +kernel), m_w 65 (by decide +kernel) (by decide +kernel), m_w 47 (by decide +kernel) (by decide +kernel)⟩
theorem m_nw0_16 : m_nwq 0 (16, 2) := ⟨_, _, _, _, m_ff2, m_w 97 (by decide +kernel) (by decide +kernel), m_w 101 (by decide +kernel) (by decide +kernel), m_w 51 (by decide +kernel) (by decide +kernel)⟩
theorem m_nw0_26 : m_nwq 0 (26, 4) := ⟨_, _, _, _, m_ff4, m_w 99 (by decide +kernel) (by decide +kernel), m_w 136 (by decide +kernel) (by decide +kernel), m_w 52 (by decide +kernel) (by decide +kernel)⟩
theorem m_nw0_34 : m_nwq 0 (34, 5) := ⟨_, _, _, _, m_ff5, m_w 212 (by decide +kernel) (by decide +kernel), m_w 213 (by decide +kernel) (by decide +kernel), m_w 54 (by decide +kernel) (by decide +kernel)⟩
theorem m_nws0 : ∀ e ∈ m_nws.getD 0 [], m_nwq 0 e := List.forall_mem_cons.mpr ⟨m_nw0_7, List.forall_mem_cons.mpr ⟨m_nw0_16, List.forall_mem_cons.mpr ⟨m_nw0_26, List.forall_mem_cons.mpr ⟨m_nw0_34, fun _ h => absurd h List.not_mem_nil⟩⟩⟩⟩
theorem m_nws1 : ∀ e ∈ m_nws.getD 1 [], m_nwq 1 e := fun _ h => absurd h List.not_mem_nil
theorem m_nws2 : ∀ e ∈ m_nws.getD 2 [], m_nwq 2 e := fun _ h => absurd h List.not_mem_nil
theorem m_nws3 : ∀ e ∈ m_nws.getD 3 [], m_nwq 3 e := fun _ h => absurd h List.not_mem_nil
theorem m_nw4_9 : m_nwq 4 (9, 3) := ⟨_, _, _, _, m_ff3, m_w 141 (by decide +kernel) (by decide +kernel), m_w 142 (by decide +kernel) (by decide +kernel), m_w 53 (by decide +kernel) (by decide +kernel)⟩
theorem m_nws4 : ∀ e ∈ m_nws.getD 4 [], m_nwq 4 e := List.forall_mem_cons.mpr ⟨m_nw4_9, fun _ h => absurd h List.not_mem_nil⟩
theorem m_nws5 : ∀ e ∈ m_nws.getD 5 [], m_nwq 5 e := fun _ h => absurd h List.not_mem_nil
theorem m_nws6 : ∀ e ∈ m_nws.getD 6 [], m_nwq 6 e := fun _ h => absurd h List.not_mem_nil
theorem m_nw7_7 : m_nwq 7 (7, 0) := ⟨_, _, _, _, m_ff0, m_w 56 (by decide +kernel) (by decide +kernel), m_w 57 (by decide +kernel) (by decide +kernel), m_w 46 (by decide +kernel) (by decide +kernel)⟩
theorem m_nw7_10 : m_nwq 7 (10, 6) := ⟨_, _, _, _, m_ff6, m_w 478 (by decide +kernel) (by decide +kernel), m_w 479 (by decide +kernel) (by decide +kernel), m_w 55 (by decide +kernel) (by decide +kernel)⟩
theorem m_nws7 : ∀ e ∈ m_nws.getD 7 [], m_nwq 7 e := List.forall_mem_cons.mpr ⟨m_nw7_7, List.forall_mem_cons.mpr ⟨m_nw7_10, fun _ h => absurd h List.not_mem_nil⟩⟩
theorem m_nws8 : ∀ e ∈ m_nws.getD 8 [], m_nwq 8 e := fun _ h => absurd h List.not_mem_nil
theorem m_nws_all (c : Nat) : ∀ e ∈ m_nws.getD c [], m_nwq c e := by
  match c with
  | 0 => exact m_nws0
  | 1 => exact m_nws1
  | 2 => exact m_nws2
  | 3 => exact m_nws3
  | 4 => exact m_nws4
  | 5 => exact m_nws5
  | 6 => exact m_nws6
  | 7 => exact m_nws7
  | 8 => exact m_nws8
  | n + 9 =>
    intro e he
    exact absurd he (by rw [show m_nws.getD (n + 9) [] = [] from rfl]; exact List.not_mem_nil)
theorem m_cl_ok {me idx ci : Nat} (h : m_cl me idx = some ci) : ∃ C T N ty, m_ff ci C T N ty ∧ Cond.classLink (m_on me) idx C ∈ m_W0 ∧ Cond.instantiable C N ∈ m_W0 ∧ Cond.initialized C ∈ m_W0 := by
  have hm := m_look h
  rw [m_fl_oc rfl _ hm]
  exact m_nws_all _ _ hm
def m_anq (c : Nat) (e : Nat × Nat) : Prop := (e.2 = 3 ∨ e.2 = 4) ∧ Cond.classLink (m_cn c) e.1 (m_cn (m_ak e.2)) ∈ m_W0 ∧ Cond.arrayOver (.object (m_cn (m_ak e.2))) ∈ lw_tbl
theorem m_an0_16 : m_anq 0 (16, 3) := ⟨by decide, m_w 97 (by decide +kernel) (by decide +kernel), List.mem_of_getElem? (i := 98) (by decide +kernel)⟩
theorem m_an0_26 : m_anq 0 (26, 4) := ⟨by decide, m_w 99 (by decide +kernel) (by decide +kernel), List.mem_of_getElem? (i := 100) (by decide +kernel)⟩
theorem m_ans0 : ∀ e ∈ m_ans.getD 0 [], m_anq 0 e := List.forall_mem_cons.mpr ⟨m_an0_16, List.forall_mem_cons.mpr ⟨m_an0_26, fun _ h => absurd h List.not_mem_nil⟩⟩
theorem m_ans1 : ∀ e ∈ m_ans.getD 1 [], m_anq 1 e := fun _ h => absurd h List.not_mem_nil
theorem m_ans2 : ∀ e ∈ m_ans.getD 2 [], m_anq 2 e := fun _ h => absurd h List.not_mem_nil
theorem m_ans3 : ∀ e ∈ m_ans.getD 3 [], m_anq 3 e := fun _ h => absurd h List.not_mem_nil
theorem m_ans4 : ∀ e ∈ m_ans.getD 4 [], m_anq 4 e := fun _ h => absurd h List.not_mem_nil
theorem m_ans5 : ∀ e ∈ m_ans.getD 5 [], m_anq 5 e := fun _ h => absurd h List.not_mem_nil
theorem m_ans6 : ∀ e ∈ m_ans.getD 6 [], m_anq 6 e := fun _ h => absurd h List.not_mem_nil
theorem m_ans7 : ∀ e ∈ m_ans.getD 7 [], m_anq 7 e := fun _ h => absurd h List.not_mem_nil
theorem m_ans8 : ∀ e ∈ m_ans.getD 8 [], m_anq 8 e := fun _ h => absurd h List.not_mem_nil
theorem m_ans_all (c : Nat) : ∀ e ∈ m_ans.getD c [], m_anq c e := by
  match c with
  | 0 => exact m_ans0
  | 1 => exact m_ans1
  | 2 => exact m_ans2
  | 3 => exact m_ans3
  | 4 => exact m_ans4
  | 5 => exact m_ans5
  | 6 => exact m_ans6
  | 7 => exact m_ans7
  | 8 => exact m_ans8
  | n + 9 =>
    intro e he
    exact absurd he (by rw [show m_ans.getD (n + 9) [] = [] from rfl]; exact List.not_mem_nil)
theorem m_ca_ok {me idx t : Nat} (h : m_ca me idx = some t) : (t = 3 ∨ t = 4) ∧ Cond.classLink (m_on me) idx (m_cn (m_ak t)) ∈ m_W0 ∧ Cond.arrayOver (.object (m_cn (m_ak t))) ∈ lw_tbl := by
  have hm := m_look h
  rw [m_fl_oc rfl _ hm]
  exact m_ans_all _ _ hm
theorem m_ak_ok {t : Nat} (h : t = 3 ∨ t = 4) : ∃ T N ty, m_ff (m_ak t) (m_cn (m_ak t)) T N ty := by
  rcases h with rfl | rfl
  · exact ⟨_, _, _, m_ff2⟩
  · exact ⟨_, _, _, m_ff4⟩
