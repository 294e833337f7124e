theorem dL_law__0 : decode cL_law_ 0 = .ok (.new 8, 3) := by decide +kernel
theorem dL_law__3 : decode cL_law_ 3 = .ok (.dup, 1) := by decide +kernel
theorem dL_law__4 : decode cL_law_ 4 = .ok (.invokespecial 107, 3) := by decide +kernel
theorem dL_law__7 : decode cL_law_ 7 = .ok (.astore_n 1, 1) := by decide +kernel
theorem dL_law__8 : decode cL_law_ 8 = .ok (.new 108, 3) := by decide +kernel
theorem dL_law__11 : decode cL_law_ 11 = .ok (.dup, 1) := by decide +kernel
theorem dL_law__12 : decode cL_law_ 12 = .ok (.invokespecial 110, 3) := by decide +kernel
theorem dL_law__15 : decode cL_law_ 15 = .ok (.astore_n 2, 1) := by decide +kernel
theorem dL_law__16 : decode cL_law_ 16 = .ok (.iconst 1, 1) := by decide +kernel
theorem dL_law__17 : decode cL_law_ 17 = .ok (.newarray .long, 2) := by decide +kernel
theorem dL_law__19 : decode cL_law_ 19 = .ok (.astore_n 3, 1) := by decide +kernel
theorem dL_law__20 : decode cL_law_ 20 = .ok (.iconst 0, 1) := by decide +kernel
theorem dL_law__21 : decode cL_law_ 21 = .ok (.istore 4, 2) := by decide +kernel
theorem dL_law__23 : decode cL_law_ 23 = .ok (.iload 4, 2) := by decide +kernel
theorem dL_law__25 : decode cL_law_ 25 = .ok (.aload_n 0, 1) := by decide +kernel
theorem dL_law__26 : decode cL_law_ 26 = .ok (.arraylength, 1) := by decide +kernel
theorem dL_law__27 : decode cL_law_ 27 = .ok (.bipush 9, 2) := by decide +kernel
theorem dL_law__29 : decode cL_law_ 29 = .ok (.isub, 1) := by decide +kernel
theorem dL_law__30 : decode cL_law_ 30 = .ok (.if_icmp .gt 1591, 3) := by decide +kernel
theorem dL_law__33 : decode cL_law_ 33 = .ok (.aload_n 0, 1) := by decide +kernel
theorem dL_law__34 : decode cL_law_ 34 = .ok (.iload 4, 2) := by decide +kernel
theorem dL_law__36 : decode cL_law_ 36 = .ok (.iaload, 1) := by decide +kernel
theorem dL_law__37 : decode cL_law_ 37 = .ok (.bipush 63, 2) := by decide +kernel
theorem dL_law__39 : decode cL_law_ 39 = .ok (.iand, 1) := by decide +kernel
theorem dL_law__40 : decode cL_law_ 40 = .ok (.tableswitch 1575 0 37 #[168, 241, 269, 297, 325, 353, 366, 379, 407, 447, 487, 555, 595, 635, 753, 793, 833, 873, 886, 914, 927, 955, 983, 1011, 1039, 1067, 1131, 1183, 1235, 1263, 1303, 1343, 1371, 1423, 1499, 1512, 1525, 1550], 168) := by decide +kernel
theorem dL_law__208 : decode cL_law_ 208 = .ok (.aload_n 1, 1) := by decide +kernel
theorem dL_law__209 : decode cL_law_ 209 = .ok (.aload_n 0, 1) := by decide +kernel
theorem dL_law__210 : decode cL_law_ 210 = .ok (.iload 4, 2) := by decide +kernel
theorem dL_law__212 : decode cL_law_ 212 = .ok (.iconst 1, 1) := by decide +kernel
theorem dL_law__213 : decode cL_law_ 213 = .ok (.iadd, 1) := by decide +kernel
theorem dL_law__214 : decode cL_law_ 214 = .ok (.iaload, 1) := by decide +kernel
theorem dL_law__215 : decode cL_law_ 215 = .ok (.aload_n 0, 1) := by decide +kernel
theorem dL_law__216 : decode cL_law_ 216 = .ok (.iload 4, 2) := by decide +kernel
theorem dL_law__218 : decode cL_law_ 218 = .ok (.iconst 2, 1) := by decide +kernel
theorem dL_law__219 : decode cL_law_ 219 = .ok (.iadd, 1) := by decide +kernel
theorem dL_law__220 : decode cL_law_ 220 = .ok (.iaload, 1) := by decide +kernel
theorem dL_law__221 : decode cL_law_ 221 = .ok (.aload_n 0, 1) := by decide +kernel
theorem dL_law__222 : decode cL_law_ 222 = .ok (.iload 4, 2) := by decide +kernel
theorem dL_law__224 : decode cL_law_ 224 = .ok (.iconst 3, 1) := by decide +kernel
theorem dL_law__225 : decode cL_law_ 225 = .ok (.iadd, 1) := by decide +kernel
theorem dL_law__226 : decode cL_law_ 226 = .ok (.iaload, 1) := by decide +kernel
theorem dL_law__227 : decode cL_law_ 227 = .ok (.aload_n 0, 1) := by decide +kernel
theorem dL_law__228 : decode cL_law_ 228 = .ok (.iload 4, 2) := by decide +kernel
theorem dL_law__230 : decode cL_law_ 230 = .ok (.iconst 4, 1) := by decide +kernel
theorem dL_law__231 : decode cL_law_ 231 = .ok (.iadd, 1) := by decide +kernel
theorem dL_law__232 : decode cL_law_ 232 = .ok (.iaload, 1) := by decide +kernel
theorem dL_law__233 : decode cL_law_ 233 = .ok (.aload_n 0, 1) := by decide +kernel
theorem dL_law__234 : decode cL_law_ 234 = .ok (.iload 4, 2) := by decide +kernel
theorem dL_law__236 : decode cL_law_ 236 = .ok (.iconst 5, 1) := by decide +kernel
theorem dL_law__237 : decode cL_law_ 237 = .ok (.iadd, 1) := by decide +kernel
theorem dL_law__238 : decode cL_law_ 238 = .ok (.iaload, 1) := by decide +kernel
theorem dL_law__239 : decode cL_law_ 239 = .ok (.invokevirtual 111, 3) := by decide +kernel
theorem dL_law__242 : decode cL_law_ 242 = .ok (.pop, 1) := by decide +kernel
theorem dL_law__243 : decode cL_law_ 243 = .ok (.aload_n 2, 1) := by decide +kernel
theorem dL_law__244 : decode cL_law_ 244 = .ok (.aload_n 0, 1) := by decide +kernel
theorem dL_law__245 : decode cL_law_ 245 = .ok (.iload 4, 2) := by decide +kernel
theorem dL_law__247 : decode cL_law_ 247 = .ok (.iconst 1, 1) := by decide +kernel
theorem dL_law__248 : decode cL_law_ 248 = .ok (.iadd, 1) := by decide +kernel
theorem dL_law__249 : decode cL_law_ 249 = .ok (.iaload, 1) := by decide +kernel
theorem dL_law__250 : decode cL_law_ 250 = .ok (.aload_n 0, 1) := by decide +kernel
theorem dL_law__251 : decode cL_law_ 251 = .ok (.iload 4, 2) := by decide +kernel
theorem dL_law__253 : decode cL_law_ 253 = .ok (.iconst 2, 1) := by decide +kernel
theorem dL_law__254 : decode cL_law_ 254 = .ok (.iadd, 1) := by decide +kernel
theorem dL_law__255 : decode cL_law_ 255 = .ok (.iaload, 1) := by decide +kernel
theorem dL_law__256 : decode cL_law_ 256 = .ok (.aload_n 0, 1) := by decide +kernel
theorem dL_law__257 : decode cL_law_ 257 = .ok (.iload 4, 2) := by decide +kernel
theorem dL_law__259 : decode cL_law_ 259 = .ok (.iconst 3, 1) := by decide +kernel
theorem dL_law__260 : decode cL_law_ 260 = .ok (.iadd, 1) := by decide +kernel
theorem dL_law__261 : decode cL_law_ 261 = .ok (.iaload, 1) := by decide +kernel
theorem dL_law__262 : decode cL_law_ 262 = .ok (.aload_n 0, 1) := by decide +kernel
theorem dL_law__263 : decode cL_law_ 263 = .ok (.iload 4, 2) := by decide +kernel
theorem dL_law__265 : decode cL_law_ 265 = .ok (.iconst 4, 1) := by decide +kernel
theorem dL_law__266 : decode cL_law_ 266 = .ok (.iadd, 1) := by decide +kernel
theorem dL_law__267 : decode cL_law_ 267 = .ok (.iaload, 1) := by decide +kernel
theorem dL_law__268 : decode cL_law_ 268 = .ok (.aload_n 0, 1) := by decide +kernel
theorem dL_law__269 : decode cL_law_ 269 = .ok (.iload 4, 2) := by decide +kernel
theorem dL_law__271 : decode cL_law_ 271 = .ok (.iconst 5, 1) := by decide +kernel
theorem dL_law__272 : decode cL_law_ 272 = .ok (.iadd, 1) := by decide +kernel
theorem dL_law__273 : decode cL_law_ 273 = .ok (.iaload, 1) := by decide +kernel
theorem dL_law__274 : decode cL_law_ 274 = .ok (.invokevirtual 114, 3) := by decide +kernel
theorem dL_law__277 : decode cL_law_ 277 = .ok (.pop, 1) := by decide +kernel
theorem dL_law__278 : decode cL_law_ 278 = .ok (.goto 1337, 3) := by decide +kernel
theorem dL_law__281 : decode cL_law_ 281 = .ok (.aload_n 1, 1) := by decide +kernel
theorem dL_law__282 : decode cL_law_ 282 = .ok (.aload_n 0, 1) := by decide +kernel
theorem dL_law__283 : decode cL_law_ 283 = .ok (.iload 4, 2) := by decide +kernel
theorem dL_law__285 : decode cL_law_ 285 = .ok (.iconst 1, 1) := by decide +kernel
theorem dL_law__286 : decode cL_law_ 286 = .ok (.iadd, 1) := by decide +kernel
theorem dL_law__287 : decode cL_law_ 287 = .ok (.iaload, 1) := by decide +kernel
theorem dL_law__288 : decode cL_law_ 288 = .ok (.aload_n 3, 1) := by decide +kernel
theorem dL_law__289 : decode cL_law_ 289 = .ok (.invokestatic 115, 3) := by decide +kernel
theorem dL_law__292 : decode cL_law_ 292 = .ok (.istore 5, 2) := by decide +kernel
theorem dL_law__294 : decode cL_law_ 294 = .ok (.aload_n 2, 1) := by decide +kernel
theorem dL_law__295 : decode cL_law_ 295 = .ok (.aload_n 0, 1) := by decide +kernel
theorem dL_law__296 : decode cL_law_ 296 = .ok (.iload 4, 2) := by decide +kernel
theorem dL_law__298 : decode cL_law_ 298 = .ok (.iconst 1, 1) := by decide +kernel
theorem dL_law__299 : decode cL_law_ 299 = .ok (.iadd, 1) := by decide +kernel
theorem dL_law__300 : decode cL_law_ 300 = .ok (.iaload, 1) := by decide +kernel
theorem dL_law__301 : decode cL_law_ 301 = .ok (.invokevirtual 120, 3) := by decide +kernel
theorem dL_law__304 : decode cL_law_ 304 = .ok (.istore 6, 2) := by decide +kernel
theorem dL_law__306 : decode cL_law_ 306 = .ok (.goto 1309, 3) := by decide +kernel
theorem dL_law__309 : decode cL_law_ 309 = .ok (.aload_n 1, 1) := by decide +kernel
theorem dL_law__310 : decode cL_law_ 310 = .ok (.aload_n 0, 1) := by decide +kernel
theorem dL_law__311 : decode cL_law_ 311 = .ok (.iload 4, 2) := by decide +kernel
theorem dL_law__313 : decode cL_law_ 313 = .ok (.iconst 1, 1) := by decide +kernel
theorem dL_law__314 : decode cL_law_ 314 = .ok (.iadd, 1) := by decide +kernel
theorem dL_law__315 : decode cL_law_ 315 = .ok (.iaload, 1) := by decide +kernel
theorem dL_law__316 : decode cL_law_ 316 = .ok (.aload_n 3, 1) := by decide +kernel
theorem dL_law__317 : decode cL_law_ 317 = .ok (.invokestatic 121, 3) := by decide +kernel
theorem dL_law__320 : decode cL_law_ 320 = .ok (.istore 5, 2) := by decide +kernel
theorem dL_law__322 : decode cL_law_ 322 = .ok (.aload_n 2, 1) := by decide +kernel
theorem dL_law__323 : decode cL_law_ 323 = .ok (.aload_n 0, 1) := by decide +kernel
theorem dL_law__324 : decode cL_law_ 324 = .ok (.iload 4, 2) := by decide +kernel
theorem dL_law__326 : decode cL_law_ 326 = .ok (.iconst 1, 1) := by decide +kernel
theorem dL_law__327 : decode cL_law_ 327 = .ok (.iadd, 1) := by decide +kernel
theorem dL_law__328 : decode cL_law_ 328 = .ok (.iaload, 1) := by decide +kernel
theorem dL_law__329 : decode cL_law_ 329 = .ok (.invokevirtual 123, 3) := by decide +kernel
theorem dL_law__332 : decode cL_law_ 332 = .ok (.istore 6, 2) := by decide +kernel
theorem dL_law__334 : decode cL_law_ 334 = .ok (.goto 1281, 3) := by decide +kernel
theorem dL_law__337 : decode cL_law_ 337 = .ok (.aload_n 1, 1) := by decide +kernel
theorem dL_law__338 : decode cL_law_ 338 = .ok (.aload_n 0, 1) := by decide +kernel
theorem dL_law__339 : decode cL_law_ 339 = .ok (.iload 4, 2) := by decide +kernel
theorem dL_law__341 : decode cL_law_ 341 = .ok (.iconst 1, 1) := by decide +kernel
theorem dL_law__342 : decode cL_law_ 342 = .ok (.iadd, 1) := by decide +kernel
theorem dL_law__343 : decode cL_law_ 343 = .ok (.iaload, 1) := by decide +kernel
theorem dL_law__344 : decode cL_law_ 344 = .ok (.aload_n 3, 1) := by decide +kernel
theorem dL_law__345 : decode cL_law_ 345 = .ok (.invokestatic 124, 3) := by decide +kernel
theorem dL_law__348 : decode cL_law_ 348 = .ok (.istore 5, 2) := by decide +kernel
theorem dL_law__350 : decode cL_law_ 350 = .ok (.aload_n 2, 1) := by decide +kernel
theorem dL_law__351 : decode cL_law_ 351 = .ok (.aload_n 0, 1) := by decide +kernel
theorem dL_law__352 : decode cL_law_ 352 = .ok (.iload 4, 2) := by decide +kernel
theorem dL_law__354 : decode cL_law_ 354 = .ok (.iconst 1, 1) := by decide +kernel
theorem dL_law__355 : decode cL_law_ 355 = .ok (.iadd, 1) := by decide +kernel
theorem dL_law__356 : decode cL_law_ 356 = .ok (.iaload, 1) := by decide +kernel
theorem dL_law__357 : decode cL_law_ 357 = .ok (.invokevirtual 126, 3) := by decide +kernel
theorem dL_law__360 : decode cL_law_ 360 = .ok (.istore 6, 2) := by decide +kernel
theorem dL_law__362 : decode cL_law_ 362 = .ok (.goto 1253, 3) := by decide +kernel
theorem dL_law__365 : decode cL_law_ 365 = .ok (.aload_n 1, 1) := by decide +kernel
theorem dL_law__366 : decode cL_law_ 366 = .ok (.aload_n 0, 1) := by decide +kernel
theorem dL_law__367 : decode cL_law_ 367 = .ok (.iload 4, 2) := by decide +kernel
theorem dL_law__369 : decode cL_law_ 369 = .ok (.iconst 1, 1) := by decide +kernel
theorem dL_law__370 : decode cL_law_ 370 = .ok (.iadd, 1) := by decide +kernel
theorem dL_law__371 : decode cL_law_ 371 = .ok (.iaload, 1) := by decide +kernel
theorem dL_law__372 : decode cL_law_ 372 = .ok (.aload_n 3, 1) := by decide +kernel
theorem dL_law__373 : decode cL_law_ 373 = .ok (.invokestatic 127, 3) := by decide +kernel
theorem dL_law__376 : decode cL_law_ 376 = .ok (.istore 5, 2) := by decide +kernel
theorem dL_law__378 : decode cL_law_ 378 = .ok (.aload_n 2, 1) := by decide +kernel
theorem dL_law__379 : decode cL_law_ 379 = .ok (.aload_n 0, 1) := by decide +kernel
theorem dL_law__380 : decode cL_law_ 380 = .ok (.iload 4, 2) := by decide +kernel
theorem dL_law__382 : decode cL_law_ 382 = .ok (.iconst 1, 1) := by decide +kernel
theorem dL_law__383 : decode cL_law_ 383 = .ok (.iadd, 1) := by decide +kernel
theorem dL_law__384 : decode cL_law_ 384 = .ok (.iaload, 1) := by decide +kernel
theorem dL_law__385 : decode cL_law_ 385 = .ok (.invokevirtual 129, 3) := by decide +kernel
theorem dL_law__388 : decode cL_law_ 388 = .ok (.istore 6, 2) := by decide +kernel
theorem dL_law__390 : decode cL_law_ 390 = .ok (.goto 1225, 3) := by decide +kernel
theorem dL_law__393 : decode cL_law_ 393 = .ok (.aload_n 1, 1) := by decide +kernel
theorem dL_law__394 : decode cL_law_ 394 = .ok (.invokevirtual 130, 3) := by decide +kernel
theorem dL_law__397 : decode cL_law_ 397 = .ok (.pop, 1) := by decide +kernel
theorem dL_law__398 : decode cL_law_ 398 = .ok (.aload_n 2, 1) := by decide +kernel
theorem dL_law__399 : decode cL_law_ 399 = .ok (.invokevirtual 134, 3) := by decide +kernel
theorem dL_law__402 : decode cL_law_ 402 = .ok (.pop, 1) := by decide +kernel
theorem dL_law__403 : decode cL_law_ 403 = .ok (.goto 1212, 3) := by decide +kernel
theorem dL_law__406 : decode cL_law_ 406 = .ok (.aload_n 1, 1) := by decide +kernel
theorem dL_law__407 : decode cL_law_ 407 = .ok (.invokevirtual 135, 3) := by decide +kernel
theorem dL_law__410 : decode cL_law_ 410 = .ok (.pop, 1) := by decide +kernel
theorem dL_law__411 : decode cL_law_ 411 = .ok (.aload_n 2, 1) := by decide +kernel
theorem dL_law__412 : decode cL_law_ 412 = .ok (.invokevirtual 138, 3) := by decide +kernel
theorem dL_law__415 : decode cL_law_ 415 = .ok (.pop, 1) := by decide +kernel
theorem dL_law__416 : decode cL_law_ 416 = .ok (.goto 1199, 3) := by decide +kernel
theorem dL_law__419 : decode cL_law_ 419 = .ok (.aload_n 1, 1) := by decide +kernel
theorem dL_law__420 : decode cL_law_ 420 = .ok (.aload_n 0, 1) := by decide +kernel
theorem dL_law__421 : decode cL_law_ 421 = .ok (.iload 4, 2) := by decide +kernel
theorem dL_law__423 : decode cL_law_ 423 = .ok (.iconst 1, 1) := by decide +kernel
theorem dL_law__424 : decode cL_law_ 424 = .ok (.iadd, 1) := by decide +kernel
theorem dL_law__425 : decode cL_law_ 425 = .ok (.iaload, 1) := by decide +kernel
theorem dL_law__426 : decode cL_law_ 426 = .ok (.aload_n 3, 1) := by decide +kernel
theorem dL_law__427 : decode cL_law_ 427 = .ok (.invokestatic 139, 3) := by decide +kernel
theorem dL_law__430 : decode cL_law_ 430 = .ok (.istore 5, 2) := by decide +kernel
theorem dL_law__432 : decode cL_law_ 432 = .ok (.aload_n 2, 1) := by decide +kernel
theorem dL_law__433 : decode cL_law_ 433 = .ok (.aload_n 0, 1) := by decide +kernel
theorem dL_law__434 : decode cL_law_ 434 = .ok (.iload 4, 2) := by decide +kernel
theorem dL_law__436 : decode cL_law_ 436 = .ok (.iconst 1, 1) := by decide +kernel
theorem dL_law__437 : decode cL_law_ 437 = .ok (.iadd, 1) := by decide +kernel
theorem dL_law__438 : decode cL_law_ 438 = .ok (.iaload, 1) := by decide +kernel
theorem dL_law__439 : decode cL_law_ 439 = .ok (.invokevirtual 141, 3) := by decide +kernel
theorem dL_law__442 : decode cL_law_ 442 = .ok (.istore 6, 2) := by decide +kernel
theorem dL_law__444 : decode cL_law_ 444 = .ok (.goto 1171, 3) := by decide +kernel
theorem dL_law__447 : decode cL_law_ 447 = .ok (.aload_n 1, 1) := by decide +kernel
theorem dL_law__448 : decode cL_law_ 448 = .ok (.aload_n 0, 1) := by decide +kernel
theorem dL_law__449 : decode cL_law_ 449 = .ok (.iload 4, 2) := by decide +kernel
theorem dL_law__451 : decode cL_law_ 451 = .ok (.iconst 1, 1) := by decide +kernel
theorem dL_law__452 : decode cL_law_ 452 = .ok (.iadd, 1) := by decide +kernel
theorem dL_law__453 : decode cL_law_ 453 = .ok (.iaload, 1) := by decide +kernel
theorem dL_law__454 : decode cL_law_ 454 = .ok (.aload_n 0, 1) := by decide +kernel
theorem dL_law__455 : decode cL_law_ 455 = .ok (.iload 4, 2) := by decide +kernel
theorem dL_law__457 : decode cL_law_ 457 = .ok (.iconst 2, 1) := by decide +kernel
theorem dL_law__458 : decode cL_law_ 458 = .ok (.iadd, 1) := by decide +kernel
theorem dL_law__459 : decode cL_law_ 459 = .ok (.iaload, 1) := by decide +kernel
theorem dL_law__460 : decode cL_law_ 460 = .ok (.aload_n 3, 1) := by decide +kernel
theorem dL_law__461 : decode cL_law_ 461 = .ok (.invokestatic 142, 3) := by decide +kernel
theorem dL_law__464 : decode cL_law_ 464 = .ok (.istore 5, 2) := by decide +kernel
theorem dL_law__466 : decode cL_law_ 466 = .ok (.aload_n 2, 1) := by decide +kernel
theorem dL_law__467 : decode cL_law_ 467 = .ok (.aload_n 0, 1) := by decide +kernel
theorem dL_law__468 : decode cL_law_ 468 = .ok (.iload 4, 2) := by decide +kernel
theorem dL_law__470 : decode cL_law_ 470 = .ok (.iconst 1, 1) := by decide +kernel
theorem dL_law__471 : decode cL_law_ 471 = .ok (.iadd, 1) := by decide +kernel
theorem dL_law__472 : decode cL_law_ 472 = .ok (.iaload, 1) := by decide +kernel
theorem dL_law__473 : decode cL_law_ 473 = .ok (.aload_n 0, 1) := by decide +kernel
theorem dL_law__474 : decode cL_law_ 474 = .ok (.iload 4, 2) := by decide +kernel
theorem dL_law__476 : decode cL_law_ 476 = .ok (.iconst 2, 1) := by decide +kernel
theorem dL_law__477 : decode cL_law_ 477 = .ok (.iadd, 1) := by decide +kernel
theorem dL_law__478 : decode cL_law_ 478 = .ok (.iaload, 1) := by decide +kernel
theorem dL_law__479 : decode cL_law_ 479 = .ok (.invokevirtual 145, 3) := by decide +kernel
theorem dL_law__482 : decode cL_law_ 482 = .ok (.istore 6, 2) := by decide +kernel
theorem dL_law__484 : decode cL_law_ 484 = .ok (.goto 1131, 3) := by decide +kernel
theorem dL_law__487 : decode cL_law_ 487 = .ok (.aload_n 1, 1) := by decide +kernel
theorem dL_law__488 : decode cL_law_ 488 = .ok (.aload_n 0, 1) := by decide +kernel
theorem dL_law__489 : decode cL_law_ 489 = .ok (.iload 4, 2) := by decide +kernel
theorem dL_law__491 : decode cL_law_ 491 = .ok (.iconst 1, 1) := by decide +kernel
theorem dL_law__492 : decode cL_law_ 492 = .ok (.iadd, 1) := by decide +kernel
theorem dL_law__493 : decode cL_law_ 493 = .ok (.iaload, 1) := by decide +kernel
theorem dL_law__494 : decode cL_law_ 494 = .ok (.aload_n 0, 1) := by decide +kernel
theorem dL_law__495 : decode cL_law_ 495 = .ok (.iload 4, 2) := by decide +kernel
theorem dL_law__497 : decode cL_law_ 497 = .ok (.iconst 2, 1) := by decide +kernel
theorem dL_law__498 : decode cL_law_ 498 = .ok (.iadd, 1) := by decide +kernel
theorem dL_law__499 : decode cL_law_ 499 = .ok (.iaload, 1) := by decide +kernel
theorem dL_law__500 : decode cL_law_ 500 = .ok (.aload_n 3, 1) := by decide +kernel
theorem dL_law__501 : decode cL_law_ 501 = .ok (.invokestatic 146, 3) := by decide +kernel
theorem dL_law__504 : decode cL_law_ 504 = .ok (.istore 5, 2) := by decide +kernel
theorem dL_law__506 : decode cL_law_ 506 = .ok (.aload_n 2, 1) := by decide +kernel
theorem dL_law__507 : decode cL_law_ 507 = .ok (.aload_n 0, 1) := by decide +kernel
theorem dL_law__508 : decode cL_law_ 508 = .ok (.iload 4, 2) := by decide +kernel
theorem dL_law__510 : decode cL_law_ 510 = .ok (.iconst 1, 1) := by decide +kernel
theorem dL_law__511 : decode cL_law_ 511 = .ok (.iadd, 1) := by decide +kernel
theorem dL_law__512 : decode cL_law_ 512 = .ok (.iaload, 1) := by decide +kernel
theorem dL_law__513 : decode cL_law_ 513 = .ok (.aload_n 0, 1) := by decide +kernel
theorem dL_law__514 : decode cL_law_ 514 = .ok (.iload 4, 2) := by decide +kernel
theorem dL_law__516 : decode cL_law_ 516 = .ok (.iconst 2, 1) := by decide +kernel
theorem dL_law__517 : decode cL_law_ 517 = .ok (.iadd, 1) := by decide +kernel
theorem dL_law__518 : decode cL_law_ 518 = .ok (.iaload, 1) := by decide +kernel
theorem dL_law__519 : decode cL_law_ 519 = .ok (.invokevirtual 148, 3) := by decide +kernel
theorem dL_law__522 : decode cL_law_ 522 = .ok (.istore 6, 2) := by decide +kernel
theorem dL_law__524 : decode cL_law_ 524 = .ok (.goto 1091, 3) := by decide +kernel
theorem dL_law__527 : decode cL_law_ 527 = .ok (.aload_n 1, 1) := by decide +kernel
theorem dL_law__528 : decode cL_law_ 528 = .ok (.aload_n 0, 1) := by decide +kernel
theorem dL_law__529 : decode cL_law_ 529 = .ok (.iload 4, 2) := by decide +kernel
theorem dL_law__531 : decode cL_law_ 531 = .ok (.iconst 1, 1) := by decide +kernel
theorem dL_law__532 : decode cL_law_ 532 = .ok (.iadd, 1) := by decide +kernel
theorem dL_law__533 : decode cL_law_ 533 = .ok (.iaload, 1) := by decide +kernel
theorem dL_law__534 : decode cL_law_ 534 = .ok (.aload_n 0, 1) := by decide +kernel
theorem dL_law__535 : decode cL_law_ 535 = .ok (.iload 4, 2) := by decide +kernel
theorem dL_law__537 : decode cL_law_ 537 = .ok (.iconst 2, 1) := by decide +kernel
theorem dL_law__538 : decode cL_law_ 538 = .ok (.iadd, 1) := by decide +kernel
theorem dL_law__539 : decode cL_law_ 539 = .ok (.iaload, 1) := by decide +kernel
theorem dL_law__540 : decode cL_law_ 540 = .ok (.aload_n 3, 1) := by decide +kernel
theorem dL_law__541 : decode cL_law_ 541 = .ok (.invokestatic 149, 3) := by decide +kernel
theorem dL_law__544 : decode cL_law_ 544 = .ok (.istore 5, 2) := by decide +kernel
theorem dL_law__546 : decode cL_law_ 546 = .ok (.aload_n 2, 1) := by decide +kernel
theorem dL_law__547 : decode cL_law_ 547 = .ok (.aload_n 0, 1) := by decide +kernel
theorem dL_law__548 : decode cL_law_ 548 = .ok (.iload 4, 2) := by decide +kernel
theorem dL_law__550 : decode cL_law_ 550 = .ok (.iconst 1, 1) := by decide +kernel
theorem dL_law__551 : decode cL_law_ 551 = .ok (.iadd, 1) := by decide +kernel
theorem dL_law__552 : decode cL_law_ 552 = .ok (.iaload, 1) := by decide +kernel
theorem dL_law__553 : decode cL_law_ 553 = .ok (.aload_n 0, 1) := by decide +kernel
theorem dL_law__554 : decode cL_law_ 554 = .ok (.iload 4, 2) := by decide +kernel
theorem dL_law__556 : decode cL_law_ 556 = .ok (.iconst 2, 1) := by decide +kernel
theorem dL_law__557 : decode cL_law_ 557 = .ok (.iadd, 1) := by decide +kernel
theorem dL_law__558 : decode cL_law_ 558 = .ok (.iaload, 1) := by decide +kernel
theorem dL_law__559 : decode cL_law_ 559 = .ok (.invokevirtual 151, 3) := by decide +kernel
theorem dL_law__562 : decode cL_law_ 562 = .ok (.istore 6, 2) := by decide +kernel
theorem dL_law__564 : decode cL_law_ 564 = .ok (.aload_n 2, 1) := by decide +kernel
theorem dL_law__565 : decode cL_law_ 565 = .ok (.invokevirtual 152, 3) := by decide +kernel
theorem dL_law__568 : decode cL_law_ 568 = .ok (.iload 5, 2) := by decide +kernel
theorem dL_law__570 : decode cL_law_ 570 = .ok (.if_icmp .eq 5, 3) := by decide +kernel
theorem dL_law__573 : decode cL_law_ 573 = .ok (.iconst 0, 1) := by decide +kernel
theorem dL_law__574 : decode cL_law_ 574 = .ok (.ireturn, 1) := by decide +kernel
theorem dL_law__575 : decode cL_law_ 575 = .ok (.iload 5, 2) := by decide +kernel
theorem dL_law__577 : decode cL_law_ 577 = .ok (.ifCond .ne 15, 3) := by decide +kernel
theorem dL_law__580 : decode cL_law_ 580 = .ok (.aload_n 3, 1) := by decide +kernel
theorem dL_law__581 : decode cL_law_ 581 = .ok (.iconst 0, 1) := by decide +kernel
theorem dL_law__582 : decode cL_law_ 582 = .ok (.laload, 1) := by decide +kernel
theorem dL_law__583 : decode cL_law_ 583 = .ok (.iload 6, 2) := by decide +kernel
theorem dL_law__585 : decode cL_law_ 585 = .ok (.i2l, 1) := by decide +kernel
theorem dL_law__586 : decode cL_law_ 586 = .ok (.lcmp, 1) := by decide +kernel
theorem dL_law__587 : decode cL_law_ 587 = .ok (.ifCond .eq 5, 3) := by decide +kernel
theorem dL_law__590 : decode cL_law_ 590 = .ok (.iconst 0, 1) := by decide +kernel
theorem dL_law__591 : decode cL_law_ 591 = .ok (.ireturn, 1) := by decide +kernel
theorem dL_law__592 : decode cL_law_ 592 = .ok (.goto 1023, 3) := by decide +kernel
theorem dL_law__595 : decode cL_law_ 595 = .ok (.aload_n 1, 1) := by decide +kernel
theorem dL_law__596 : decode cL_law_ 596 = .ok (.aload_n 0, 1) := by decide +kernel
theorem dL_law__597 : decode cL_law_ 597 = .ok (.iload 4, 2) := by decide +kernel
theorem dL_law__599 : decode cL_law_ 599 = .ok (.iconst 1, 1) := by decide +kernel
theorem dL_law__600 : decode cL_law_ 600 = .ok (.iadd, 1) := by decide +kernel
theorem dL_law__601 : decode cL_law_ 601 = .ok (.iaload, 1) := by decide +kernel
theorem dL_law__602 : decode cL_law_ 602 = .ok (.aload_n 0, 1) := by decide +kernel
theorem dL_law__603 : decode cL_law_ 603 = .ok (.iload 4, 2) := by decide +kernel
theorem dL_law__605 : decode cL_law_ 605 = .ok (.iconst 2, 1) := by decide +kernel
theorem dL_law__606 : decode cL_law_ 606 = .ok (.iadd, 1) := by decide +kernel
theorem dL_law__607 : decode cL_law_ 607 = .ok (.iaload, 1) := by decide +kernel
theorem dL_law__608 : decode cL_law_ 608 = .ok (.aload_n 3, 1) := by decide +kernel
theorem dL_law__609 : decode cL_law_ 609 = .ok (.invokestatic 155, 3) := by decide +kernel
theorem dL_law__612 : decode cL_law_ 612 = .ok (.istore 5, 2) := by decide +kernel
theorem dL_law__614 : decode cL_law_ 614 = .ok (.aload_n 2, 1) := by decide +kernel
theorem dL_law__615 : decode cL_law_ 615 = .ok (.aload_n 0, 1) := by decide +kernel
theorem dL_law__616 : decode cL_law_ 616 = .ok (.iload 4, 2) := by decide +kernel
theorem dL_law__618 : decode cL_law_ 618 = .ok (.iconst 1, 1) := by decide +kernel
theorem dL_law__619 : decode cL_law_ 619 = .ok (.iadd, 1) := by decide +kernel
theorem dL_law__620 : decode cL_law_ 620 = .ok (.iaload, 1) := by decide +kernel
theorem dL_law__621 : decode cL_law_ 621 = .ok (.aload_n 0, 1) := by decide +kernel
theorem dL_law__622 : decode cL_law_ 622 = .ok (.iload 4, 2) := by decide +kernel
theorem dL_law__624 : decode cL_law_ 624 = .ok (.iconst 2, 1) := by decide +kernel
theorem dL_law__625 : decode cL_law_ 625 = .ok (.iadd, 1) := by decide +kernel
theorem dL_law__626 : decode cL_law_ 626 = .ok (.iaload, 1) := by decide +kernel
theorem dL_law__627 : decode cL_law_ 627 = .ok (.invokevirtual 157, 3) := by decide +kernel
theorem dL_law__630 : decode cL_law_ 630 = .ok (.istore 6, 2) := by decide +kernel
theorem dL_law__632 : decode cL_law_ 632 = .ok (.goto 983, 3) := by decide +kernel
theorem dL_law__635 : decode cL_law_ 635 = .ok (.aload_n 1, 1) := by decide +kernel
theorem dL_law__636 : decode cL_law_ 636 = .ok (.aload_n 0, 1) := by decide +kernel
theorem dL_law__637 : decode cL_law_ 637 = .ok (.iload 4, 2) := by decide +kernel
theorem dL_law__639 : decode cL_law_ 639 = .ok (.iconst 1, 1) := by decide +kernel
theorem dL_law__640 : decode cL_law_ 640 = .ok (.iadd, 1) := by decide +kernel
theorem dL_law__641 : decode cL_law_ 641 = .ok (.iaload, 1) := by decide +kernel
theorem dL_law__642 : decode cL_law_ 642 = .ok (.aload_n 0, 1) := by decide +kernel
theorem dL_law__643 : decode cL_law_ 643 = .ok (.iload 4, 2) := by decide +kernel
theorem dL_law__645 : decode cL_law_ 645 = .ok (.iconst 2, 1) := by decide +kernel
theorem dL_law__646 : decode cL_law_ 646 = .ok (.iadd, 1) := by decide +kernel
theorem dL_law__647 : decode cL_law_ 647 = .ok (.iaload, 1) := by decide +kernel
theorem dL_law__648 : decode cL_law_ 648 = .ok (.aload_n 3, 1) := by decide +kernel
theorem dL_law__649 : decode cL_law_ 649 = .ok (.invokestatic 158, 3) := by decide +kernel
theorem dL_law__652 : decode cL_law_ 652 = .ok (.istore 5, 2) := by decide +kernel
theorem dL_law__654 : decode cL_law_ 654 = .ok (.aload_n 2, 1) := by decide +kernel
theorem dL_law__655 : decode cL_law_ 655 = .ok (.aload_n 0, 1) := by decide +kernel
theorem dL_law__656 : decode cL_law_ 656 = .ok (.iload 4, 2) := by decide +kernel
theorem dL_law__658 : decode cL_law_ 658 = .ok (.iconst 1, 1) := by decide +kernel
