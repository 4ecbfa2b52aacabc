import java.util.List;

/** Edges of promises 36 to 48: what he thought, who it was, chances, a cake, rests, rules, years. */
final class GuessEdges {
    private static final int MIN = Integer.MIN_VALUE;
    private static final int MAX = Integer.MAX_VALUE;
    private static final int[] HEARD_MOST = {9, 5, 1, 5, 9};

    private GuessEdges() {
    }

    static void all(Edges e) {
        saw(e);
        minds(e);
        looks(e);
        heard(e);
        fits(e);
        asks(e);
        grave(e);
        cake(e);
        rests(e);
        law(e);
        years(e);
        yearsDrawn(e);
    }

    private static ElderBallast by(String brothers, String rule) {
        ElderBallast x = Check.with(brothers);
        Check.say(x, rule).rule();
        return x;
    }

    private static void saw(Edges e) {
        e.edge(36, "It was seen that PULL was v (-20 .. 20) by a WIND w (-9 .. 9) and SAIL s (0 .. 9), all else as it is, but for the THOUGHT of one: how many such", c -> {
            ElderBallast x = new ElderBallast();
            int[][] ends = {{-9, 0, -20}, {-9, 0, 20}, {-9, 9, -20}, {-9, 9, 20}, {9, 0, -20}, {9, 0, 20}, {9, 9, -20}, {9, 9, 20}, {0, 0, 0}, {0, 0, 0}};
            for (int i = 0; i < ends.length; i++) {
                c.due("saw " + i, x.saw(ends[i][0], ends[i][1], ends[i][2]), i + 1);
            }
        });
        e.refused(36, "Refused: others", -1, List.of(x -> x.saw(-10, 0, 0), x -> x.saw(10, 0, 0), x -> x.saw(0, -1, 0), x -> x.saw(0, 10, 0),
                x -> x.saw(0, 0, -21), x -> x.saw(0, 0, 21), x -> x.saw(MIN, 0, 0), x -> x.saw(MAX, 0, 0), x -> x.saw(0, MIN, 0), x -> x.saw(0, MAX, 0),
                x -> x.saw(0, 0, MIN), x -> x.saw(0, 0, MAX)));
        e.edge(36, "others, 10", c -> {
            ElderBallast x = Check.three();
            for (int i = 1; i <= 10; i++) {
                x.saw(4, 5, 5);
            }
            c.due("an eleventh", x.saw(0, 0, 1), -1);
            c.due("ten", x.count(9), 10);
            c.due("as the ten say", x.minds(0), 7);
        });
        e.edge(37, "It is denied: how many there were", c -> {
            ElderBallast x = Check.three();
            c.due("none", x.denies(), 0);
            x.saw(0, 0, 20);
            c.due("one", x.denies(), 1);
            c.due("all may be again", x.minds(0), 63);
            for (int i = 0; i < 11; i++) {
                x.saw(0, 0, 20);
            }
            c.due("ten", x.denies(), 10);
            c.due("none", x.count(9), 0);
            c.due("anew", x.saw(4, 5, 5), 1);
            c.due("as this says alone", x.minds(0), 7);
        });
    }

    private static void minds(Edges e) {
        e.edge(38, "THOUGHTS (bits) that a BROTHER can have so that all that was seen would be so; the ROW: how many, 1 if his own is one, else 0", c -> {
            ElderBallast x = Check.with("00+0;".repeat(6) + "00+5");
            c.due("nothing seen", x, x.minds(6), 63, 6, 1);
            x.saw(0, 0, 5);
            c.due("45 alone is 5", x, x.minds(6), 32, 1, 0);
            x.tells(6, 5);
            c.due("his own", x, x.minds(6), 32, 1, 1);
            c.due("another's: it is so", x, x.minds(0), 63, 6, 1);
            x.saw(0, 0, 4);
            c.due("none", x, x.minds(6), 0, 0, 0);
            x = Check.with("00+5");
            x.saw(9, 9, 20);
            c.due("162 .. 207, put to 20", x, x.minds(0), 63, 6, 1);
            x.denies();
            x.saw(-9, 9, -20);
            c.due("-162: -20; -157: -19", x, x.minds(0), 1, 1, 1);
            x = by("00+5;00+5", "k*8");
            x.saw(0, 0, 10);
            c.due("who thinks alike is weighed anew: 80", x, x.minds(0), 1, 1, 1);
            x.denies();
            x.saw(0, 0, 0);
            c.due("who thinks alike is weighed anew: 0", x, x.minds(0), 62, 5, 0);
        });
        e.refused(38, "NONE: none such", -1, List.of(x -> x.minds(-1), x -> x.minds(4), x -> x.minds(7), x -> x.minds(MIN), x -> x.minds(MAX)));
    }

    private static void looks(Edges e) {
        e.edge(39, "The WIND and SAIL by which to look next, so that, whatever PULL is, the fewest of these THOUGHTS are left at most: "
                + "10 times 9 and WIND (-9 .. 9), and SAIL (0 .. 9), of equal ones the least; the ROW: how many at most", c -> {
            ElderBallast x = Check.with("00+0;".repeat(6) + "00+0");
            c.due("in the middle: all are left, the least look", x, x.looks(6), 0, 6);
            x = by("00+1", "t");
            Check.say(x, "000008").thoughts();
            c.due("0 and 8 part by any look: five are left", x, x.looks(0), 0, 5);
            Check.say(x, "111117").thoughts();
            c.due("1 and 7: -17 and -11 part, 1 and 7 do not", x, x.looks(0), 1, 5);
            x.saw(0, 0, 0);
            c.due("as many, seen by no wind", x, x.looks(0), 1, 5);
            Check.say(x, "111119").thoughts();
            c.due("the 9 was seen not to be: all alike are left", x, x.looks(0), 0, 5);
            x = Check.with("00+5");
            Check.say(x, "024689").thoughts();
            c.due("0 .. 45: all part by -9 and 1", x, x.looks(0), 1, 1);
            x.saw(0, 0, 0);
            c.due("one is left: the least look", x, x.looks(0), 0, 1);
            x = Check.with("00+1;30-1;40-2");
            Check.say(x, "000001").thoughts();
            c.due("-11 and -10: 7 and 8 by 1 and 9", x, x.looks(0), 109, 5);
            x = Check.with("00-5;90-5;90-5;90-5;90-5;90-5;30-5");
            c.due("-240 .. -285: -78, -83, -93, .. -123 by 9 and 9 alone", x, x.looks(0), 189, 1);
        });
        e.edge(39, "-2: none is left", c -> {
            ElderBallast x = Check.three();
            x.moment();
            x.saw(0, 0, 20);
            c.due("none", x, x.looks(0), -2, 105, 6, 6);
        });
        e.refused(39, "NONE: none such", -1, List.of(x -> x.looks(-1), x -> x.looks(4), x -> x.looks(7), x -> x.looks(MIN), x -> x.looks(MAX)));
    }

    private static void heard(Edges e) {
        e.edge(40, "It was heard of a BROTHER that, what 0: GRAVITY is v (0 .. 9) or more; 1: his THOUGHT is v (0 .. 5); 2: he is to starboard (1) or not (0); "
                + "3: he is v (0 .. 5) from the middle; 4: WEIGHT is v (0 .. 9) or more: how many such", c -> {
            ElderBallast x = new ElderBallast();
            for (int what = 0; what < 5; what++) {
                c.due("the least of " + what, x.heard(what, 0), 2 * what + 1);
                c.due("the greatest of " + what, x.heard(what, HEARD_MOST[what]), 2 * what + 2);
            }
            int[][] told = {{0, 0, 7}, {0, 4, 6}, {0, 5, 6}, {0, 6, 4}, {0, 9, 4}, {1, 0, 1}, {1, 3, 2}, {1, 5, 4}, {1, 1, 0}, {2, 1, 4}, {2, 0, 3}, {3, 0, 1},
                {3, 5, 2}, {3, 1, 4}, {3, 2, 0}, {4, 0, 7}, {4, 1, 6}, {4, 9, 6}};
            for (int[] t : told) {
                x = Check.with("00+0;53-5;95+1");
                x.heard(t[0], t[1]);
                c.due("what " + t[0] + ", v " + t[1], x.fits(), t[2]);
            }
            x = Check.with("80+0;90+0");
            x.heard(4, 9);
            c.due("a weight of 9 or more", x.fits(), 2);
        });
        e.refused(40, "Refused: others", -1, List.of(x -> x.heard(-1, 0), x -> x.heard(5, 0), x -> x.heard(MIN, 0), x -> x.heard(MAX, 0), x -> x.heard(0, -1),
                x -> x.heard(0, 10), x -> x.heard(1, -1), x -> x.heard(1, 6), x -> x.heard(2, -1), x -> x.heard(2, 2), x -> x.heard(3, -1), x -> x.heard(3, 6),
                x -> x.heard(4, -1), x -> x.heard(4, 10), x -> x.heard(0, MIN), x -> x.heard(4, MAX)));
        e.edge(40, "others, 12", c -> {
            ElderBallast x = Check.three();
            for (int i = 1; i <= 12; i++) {
                c.due("heard " + i, x.heard(0, 3), i);
            }
            c.due("a thirteenth", x.heard(3, 5), -1);
            c.due("twelve", x.count(10), 12);
            c.due("as the twelve say", x.fits(), 3);
        });
        e.edge(41, "It is forgotten: how many there were", c -> {
            ElderBallast x = Check.three();
            c.due("none", x.forget(), 0);
            x.heard(3, 5);
            c.due("one", x.forget(), 1);
            c.due("all fit again", x.fits(), 7);
            for (int i = 0; i < 13; i++) {
                x.heard(3, 5);
            }
            c.due("twelve", x.forget(), 12);
            c.due("none", x.count(10), 0);
            c.due("anew", x.heard(0, 3), 1);
            c.due("as this says alone", x.fits(), 3);
        });
    }

    private static void fits(Edges e) {
        e.edge(42, "BROTHERS (bits) who fit all that was heard now; the ROW: how many", c -> {
            ElderBallast x = new ElderBallast();
            c.due("without brothers", x, x.fits(), 0, 0);
            x.heard(0, 0);
            c.due("without brothers", x, x.fits(), 0, 0);
            x = Check.with("10+1;".repeat(6) + "90+1");
            c.due("nothing heard: all seven", x, x.fits(), 127, 7);
            x.heard(0, 9);
            c.due("the last", x, x.fits(), 64, 1);
            x.heard(2, 0);
            c.due("none", x, x.fits(), 0, 0);
            x.moves(6, 0);
            c.due("as it is now", x, x.fits(), 64, 1);
        });
    }

    private static void asks(Edges e) {
        e.edge(43, "What to ask next, so that, it is so or not, the fewest such BROTHERS are left at most: 10 times what and v, as they may be heard, of equal ones the least: it; "
                + "the ROW: how many at most", c -> {
            ElderBallast x = Check.with("50+1");
            c.due("one: the least question", x, x.asks(), 0, 1);
            x = Check.with("50+1;50+1;50+1;50+1;50+1;50+1;50+1");
            c.due("all alike: the least question", x, x.asks(), 0, 7);
            x = Check.with("00+1;10+1");
            c.due("what 0", x, x.asks(), 1, 1);
            x = Check.with("90+1;80+1");
            c.due("what 0, the greatest v", x, x.asks(), 9, 1);
            x = Check.with("55+1;54+1");
            c.due("what 1: 4 ahead of 5", x, x.asks(), 14, 1);
            x = Check.with("50+1;50-1");
            c.due("what 2: 0 ahead of 1", x, x.asks(), 20, 1);
            x = Check.with("50+5;50+4");
            c.due("what 3: 4 ahead of 5", x, x.asks(), 34, 1);
            x = by("50+1;50+1", "i+8");
            c.due("what 4, the greatest v", x, x.asks(), 49, 1);
            x = by("50+1;50+1", "i+9");
            c.due("9 and 10: no question parts them", x, x.asks(), 0, 2);
            x = Check.with("50+1;50+1;90+1");
            c.due("2 of 3", x, x.asks(), 6, 2);
            x.heard(0, 6);
            c.due("one is left", x, x.asks(), 0, 1);
        });
        e.edge(43, "-2: none fits", c -> {
            ElderBallast x = Check.three();
            x.moment();
            x.heard(3, 5);
            c.due("none", x, x.asks(), -2, 105, 6, 6);
            x = new ElderBallast();
            x.moment();
            c.due("without brothers", x, x.asks(), -2, 100, 0, 0);
        });
    }

    private static ElderBallast inFullSail() {
        ElderBallast x = new ElderBallast();
        x.sails(9);
        return x;
    }

    private static void grave(Edges e) {
        e.edge(44, "Of the next n HOURS (0 .. 8) WIND is 9 by p tenths (0 .. 10), else -9, each by itself: how likely she is OVER at least once in these: 0; the ROW: the fraction", c -> {
            ElderBallast x = inFullSail();
            c.due("no hours", x, x.grave(0, 0), 0, 0, 1);
            c.due("no hours", x, x.grave(0, 10), 0, 0, 1);
            c.due("seven hours", x, x.grave(7, 10), 0, 0, 1);
            c.due("eight hours", x, x.grave(8, 10), 0, 1, 1);
            c.due("eight hours to larboard", x, x.grave(8, 0), 0, 1, 1);
            x.sails(8);
            c.due("just 15 in the eighth hour", x, x.grave(8, 10), 0, 1, 1);
            c.due("just -15 in the eighth hour", x, x.grave(8, 0), 0, 1, 1);
            c.due("14 in the seventh", x, x.grave(7, 10), 0, 0, 1);
            x.sails(9);
            c.due("1 and 9 of 10, eight times", x, x.grave(8, 1), 0, 21523361, 50000000);
            Check.say(x, "+9").winds();
            x.hours(7);
            c.due("14: 1 of 10", x, x.grave(1, 1), 0, 1, 10);
            c.due("14: never", x, x.grave(8, 0), 0, 0, 1);
            c.due("14: 16, or 12, 14, 16", x, x.grave(3, 5), 0, 5, 8);
            x = by("00+5;00+5", "20");
            x.hours(12);
            c.due("20 now, no hours", x, x.grave(0, 5), 0, 0, 1);
            c.due("20: she lies over", x, x.grave(1, 5), 0, 1, 1);
            Check.say(x, "0").rule();
            c.due("20 and 18, without a sail", x, x.grave(1, 5), 0, 1, 1);
            x.hours(2);
            c.due("16 and 14, without a sail", x, x.grave(1, 5), 0, 0, 1);
            x.sails(9);
            c.due("16 and 17 or 14", x, x.grave(1, 3), 0, 3, 10);
        });
        e.edge(44, "Of the next n HOURS", c -> {
            ElderBallast x = by("00+5;00+5", "20");
            x.hours(12);
            Check.say(x, "0").rule();
            x.hours(2);
            Check.say(x, "20*(n=1)").rule();
            c.due("hour 14: 16 and 14", x, x.grave(1, 5), 0, 0, 1);
            c.due("hour 15: 14 and 16", x, x.grave(2, 5), 0, 1, 1);
            c.due("it is hour 14", x.count(1), 14);
        });
        e.refused(44, "NONE: others", -1, List.of(x -> x.grave(-1, 5), x -> x.grave(9, 5), x -> x.grave(5, -1), x -> x.grave(5, 11), x -> x.grave(MIN, 5),
                x -> x.grave(MAX, 5), x -> x.grave(5, MIN), x -> x.grave(5, MAX)));
    }

    private static void cake(Edges e) {
        e.edge(45, "Two brothers eat by turns from a cake of a (1 .. 3) rows of b (1 .. 7) pieces: who eats takes a piece and all that are left in its row and the rows below, "
                + "from its column on to the right; who takes the piece in the first row and column has lost: the least piece, 10 times row and column (0 ..), by which the first one wins", c -> {
            int[][] due = {{-2, 1, 1, 1, 1, 1, 1}, {10, 11, 12, 13, 14, 15, 16}, {10, 21, 11, 12, 23, 13, 24}};
            ElderBallast x = new ElderBallast();
            for (int a = 3; a >= 1; a--) {
                for (int b = 7; b >= 1; b--) {
                    c.due("of one object, cake(" + a + ", " + b + ")", x.cake(a, b), due[a - 1][b - 1]);
                    c.due("of a new one, cake(" + a + ", " + b + ")", new ElderBallast().cake(a, b), due[a - 1][b - 1]);
                }
            }
        });
        e.refused(45, "-2: by none (1 and 1)", -2, List.of(x -> x.cake(1, 1)));
        e.refused(45, "NONE: others", -1, List.of(x -> x.cake(0, 1), x -> x.cake(4, 1), x -> x.cake(1, 0), x -> x.cake(1, 8), x -> x.cake(-1, 1), x -> x.cake(1, -1),
                x -> x.cake(MIN, 1), x -> x.cake(MAX, 1), x -> x.cake(1, MIN), x -> x.cake(1, MAX)));
    }

    private static void rests(Edges e) {
        e.edge(46, "Two are grave by x and y (0 .. 9): the ship stands, if both together are v (0 .. 18) or more, which is worth 9 to each; each pays its own, "
                + "but the graver one is left below, which costs 2 more. Pairs by which neither would have more by another number alone: how many; the ROW: the least (nothing without)", c -> {
            int[] many = new int[19];
            int[][] least = new int[19][];
            for (int v = 0; v <= 18; v++) {
                for (int x = 0; x < 10; x++) {
                    for (int y = 0; y < 10; y++) {
                        if (isRest(x, y, v)) {
                            many[v]++;
                            least[v] = least[v] == null ? new int[] {x, y} : least[v];
                        }
                    }
                }
            }
            c.due("v 0: 0 and 0 alone", many[0], 1);
            c.due("v 18: 0 and 0, 9 and 9", many[18], 2);
            ElderBallast x = new ElderBallast();
            for (int v = 0; v <= 18; v++) {
                c.due("rests(" + v + ")", x, x.rests(v), many[v], least[v][0], least[v][1]);
            }
        });
        e.refused(46, "NONE: another v", -1, List.of(x -> x.rests(-1), x -> x.rests(19), x -> x.rests(MIN), x -> x.rests(MAX)));
    }

    private static boolean isRest(int x, int y, int v) {
        for (int z = 0; z < 10; z++) {
            if (gain(z, y, v) > gain(x, y, v) || gain(z, x, v) > gain(y, x, v)) {
                return false;
            }
        }
        return true;
    }

    private static int gain(int own, int other, int v) {
        int gain = -own;
        if (own + other >= v) {
            gain += 9;
        }
        if (own > other) {
            gain -= 2;
        }
        return gain;
    }

    private static void law(Edges e) {
        e.edge(47, "THE TEXT is another RULE (an empty one: none): LEAGUES more in 20 HOURS by it, less those by THE RULE (below 0, too): as they grow; "
                + "the ROW: both, by it first, then 100 and LEAN then by it, by THE RULE", c -> {
            ElderBallast x = Check.three();
            Check.say(x, "20*(p=2)").rule();
            c.due("none: g+t", x, Check.say(x, "").law(), 51, 84, 33, 105, 110);
            Check.say(x, "").rule();
            c.due("below 0", x, Check.say(x, "20*(p=2)").law(), -51, 33, 84, 110, 105);
            c.due("the same", x, Check.say(x, "g+t").law(), 0, 84, 84, 105, 105);
            c.due("it is not THE RULE then", x.brother(0, 3), 3);
            x = new ElderBallast();
            Check.say(x, "+9-9").winds();
            x.sails(9);
            for (int i = 0; i < 6; i++) {
                x.hours(60);
            }
            c.due("20 hours of 53 by two", x, Check.say(x, "g").law(), 0, 459, 459, 100, 100);
            x.hours(60);
            c.due("9999 are made", x, Check.say(x, "g").law(), 0, 0, 0, 100, 100);
        });
        e.edge(47, "-100000 - p: the sign at p can't stand there (as rule())", c -> {
            String end = "10" + "+0".repeat(19);
            String[] texts = {"x", "g+", "(", "()", "g)", "g<t<k", "(((((", "1000", "-", "gt", end + "x", end + "+0", "-".repeat(80), "g" + (char) 255};
            int[] at = {0, 2, 1, 1, 1, 3, 4, 3, 1, 1, 40, 40, 40, 1};
            for (int i = 0; i < texts.length; i++) {
                Edges.inVain(c, texts[i], ElderBallast::law, -100000 - at[i]);
                Edges.inVain(c, texts[i], ElderBallast::rule, -1 - at[i]);
            }
            c.due("40 signs", Check.say(new ElderBallast(), end).law(), 0);
        });
    }

    private static void years(Edges e) {
        e.edge(48, "n times (1 .. 60)", c -> {
            ElderBallast x = Check.three();
            c.due("once", years(x, 1, 1), asDrawn(Check.three(), 1, 1));
            c.due("60 times", years(x, 1, 60), asDrawn(Check.three(), 1, 60));
            c.due("59 times", years(x, 5, 59), asDrawn(Check.three(), 5, 59));
        });
        e.edge(48, "LEAGUES more in these (as they grow), how often she was OVER in these (whole)", c -> {
            ElderBallast x = new ElderBallast();
            Check.say(x, "+9-9").winds();
            x.sails(9);
            for (int i = 0; i < 6; i++) {
                x.hours(60);
            }
            x.hours(17);
            x.years(3, 60);
            c.due("nine more at most", x.row(0), 9);
            ElderBallast often = by("00+5;00+5", "20");
            for (int i = 0; i < 17; i++) {
                often.hours(60);
            }
            c.due("999 times", often.count(5), 999);
            int lean = often.years(3, 60);
            c.due("each hour of these", often.row(1) > 20, true);
            c.due("60 times", lean + " 0 " + often.row(1) + " of 2", asDrawn(often, 3, 60));
        });
        e.edge(48, "(nothing, no DRAWS more, without BROTHERS)", c -> {
            for (int seed = 0; seed < 20; seed++) {
                ElderBallast x = new ElderBallast();
                Check.say(x, "+9").winds();
                ElderBallast as = new ElderBallast();
                Check.say(as, "+9").winds();
                c.due("seed " + seed, years(x, seed, 60), asDrawn(as, seed, 60));
            }
        });
        e.refused(48, "NONE: another n", -1, List.of(x -> x.years(1, 0), x -> x.years(1, 61), x -> x.years(1, -1), x -> x.years(1, MIN), x -> x.years(1, MAX)));
    }

    private static void yearsDrawn(Edges e) {
        e.edge(48, "A DRAW of n: R = R times 1103515245 + 12345 (as ints; R is seed at first), (R without sign, by 65536) % n", c -> {
            for (int seed : new int[] {0, 1, -1, 2, 65535, 65536, MIN, MAX, MIN + 1, MAX - 1, 1103515245, -12345}) {
                for (String brothers : new String[] {"95+5", "30+2;51-1;05+0", "91+5;92+5;93-5;94+5;95+5;90+1;90+5"}) {
                    ElderBallast x = Check.with(brothers);
                    Check.say(x, "+9-4+1").winds();
                    ElderBallast as = Check.with(brothers);
                    Check.say(as, "+9-4+1").winds();
                    c.due("seed " + seed + " of " + brothers, years(x, seed, 60), asDrawn(as, seed, 60));
                }
            }
        });
    }

    private static String years(ElderBallast x, int seed, int n) {
        int lean = x.years(seed, n);
        return lean + " " + x.row(0) + " " + x.row(1) + " of " + x.count(12);
    }

    /** The same by calls that are done, one by one; R is kept as a long number without a sign. */
    private static String asDrawn(ElderBallast x, int seed, int n) {
        long[] r = {seed & 0xffffffffL};
        int leagues = x.count(4);
        long overs = 0;
        for (int i = 0; i < n; i++) {
            int drawn = draw(r, 4);
            if (drawn < 2) {
                x.hours(1);
                overs += x.row(1);
            } else if (drawn == 2) {
                x.sails(draw(r, 10));
            } else if (x.count(0) > 0) {
                int b = draw(r, x.count(0));
                x.tells(b, draw(r, 6));
            }
        }
        return x.count(3) + " " + (x.count(4) - leagues) + " " + overs + " of 2";
    }

    private static int draw(long[] r, int n) {
        r[0] = (r[0] * 1103515245L + 12345L) % 4294967296L;
        return (int) (r[0] / 65536 % n);
    }
}
