import java.util.List;
import java.util.function.ToLongFunction;

/** Edges of promises 1 to 10: a new object, THE TEXT, thoughts, brothers, winds, the rule, sheets. */
final class TextEdges {
    private static final int MIN = Integer.MIN_VALUE;
    private static final int MAX = Integer.MAX_VALUE;
    private static final String LINE = "10+0;";

    private TextEdges() {
    }

    static void all(Edges e) {
        newObject(e);
        signAndEnd(e);
        thoughts(e);
        brothers(e);
        brothersWithoutRoom(e);
        winds(e);
        rule(e);
        brotherAndPrice(e);
        sheetEntries(e);
        sheetRefusals(e);
    }

    private static void newObject(Edges e) {
        e.edge(1, "No BROTHERS", c -> {
            ElderBallast x = new ElderBallast();
            c.due("brothers", x.count(0), 0);
            c.throwsNoSuch("brother(0, 0)", () -> x.brother(0, 0));
            c.due("tells(0, 1)", x.tells(0, 1), -1);
            c.due("undo()", x.undo(), -1);
            c.due("again(0)", x.again(0), false);
            c.due("count(12)", x.count(12), 0);
            c.due("count(13)", x.count(13), 0);
        });
    }

    private static void signAndEnd(Edges e) {
        e.edge(2, "Four signs come behind THE TEXT, of v the highest byte first: how many it has", c -> {
            ElderBallast x = new ElderBallast();
            c.due("behind none", x.sign(0x31323334), 4);
            x.end(1);
            c.due("behind one", x.sign(0x35363738), 5);
            c.due("behind five", x.sign(0x39000000), 9);
            x.end(6);
            c.due("156789", x.thoughts(), 36);
            int[] due = {1, 5, 6, 7, 8, 9};
            for (int t = 0; t < 6; t++) {
                c.due("price " + t, x.price(t), due[t]);
            }
            x.sign(MIN);
            x.end(1);
            c.due("a sign of 128", x.thoughts(), -1);
            c.due("signs of 255", x.sign(-1), 4);
        });
        e.edge(2, "Refused: there would be more than 80", c -> {
            ElderBallast x = new ElderBallast();
            for (int i = 1; i <= 20; i++) {
                c.due("four more", x.sign(0x30303030), 4 * i);
            }
            for (int n = 80; n > 76; n--) {
                x.end(n);
                c.due("behind " + n, x.sign(0x31313131), -1);
                c.due("it stays", x.count(13), n);
            }
            x.end(76);
            c.due("behind 76", x.sign(0x31313131), 80);
            x.end(6);
            c.due("the first ones stay", x.thoughts(), 0);
        });
        e.edge(3, "THE TEXT has its first n signs alone: true", c -> {
            ElderBallast x = Check.say(new ElderBallast(), "12345678");
            c.due("all", x.end(8), true);
            c.due("all", x.count(13), 8);
            c.due("six", x.end(6), true);
            c.due("six", x.count(13), 6);
            c.due("the first ones", x.thoughts(), 21);
            c.due("none of none", x.end(0), true);
            x.sign(0);
            c.due("none of four", x.end(0), true);
            c.due("none of four", x.count(13), 0);
        });
        e.edge(3, "false if it has not so many, or n is below 0", c -> {
            ElderBallast x = Check.say(new ElderBallast(), "123456");
            for (int n : new int[] {7, 80, 81, MAX, -1, MIN}) {
                c.due("end(" + n + ")", x.end(n), false);
            }
            c.due("it stays", x.count(13), 6);
            c.due("as it was", x.thoughts(), 21);
            c.due("of none", x.end(1), false);
            c.due("what was cut is gone", Check.say(x, "123456").end(5) && x.end(6), false);
        });
    }

    private static void thoughts(Edges e) {
        e.edge(4, "THE TEXT is THOUGHTS: their PRICES together", c -> {
            c.due("the least", Check.say(new ElderBallast(), "000000").thoughts(), 0);
            c.due("the greatest", Check.say(new ElderBallast(), "999999").thoughts(), 54);
            c.due("0 and 9", Check.say(new ElderBallast(), "090909").thoughts(), 27);
        });
        e.edge(4, "-1 - p: the sign at p can't stand there", c -> {
            for (int p = 0; p < 6; p++) {
                for (char sign : new char[] {'/', ':', ' ', 'a', '+', 0, 255, 176}) {
                    Edges.inVain(c, "111111".substring(0, p) + sign + "1".repeat(5 - p), ElderBallast::thoughts, -1 - p);
                }
            }
            Edges.inVain(c, "1x11x1x", ElderBallast::thoughts, -2);
        });
        e.edge(4, "its end, if it ends too early", c -> {
            for (int n = 0; n < 6; n++) {
                Edges.inVain(c, "1".repeat(n), ElderBallast::thoughts, -1 - n);
            }
        });
        e.edge(4, "a seventh sign: at it", c -> {
            Edges.inVain(c, "1111111", ElderBallast::thoughts, -7);
            Edges.inVain(c, "111111x", ElderBallast::thoughts, -7);
            Edges.inVain(c, "1".repeat(80), ElderBallast::thoughts, -7);
            Edges.inVain(c, "11111x1", ElderBallast::thoughts, -6);
        });
        e.edge(4, "Can't be undone", c -> {
            ElderBallast x = Check.three();
            Check.say(x, "222222").thoughts();
            c.due("nothing to be undone", x.undo(), -1);
            x.sails(1);
            Check.say(x, "444444").thoughts();
            c.due("the sail alone", x.undo(), 0);
            c.due("the price stays", x.price(0), 4);
            x.keep(0);
            Check.say(x, "555555").thoughts();
            x.again(0);
            c.due("nor is it kept", x.price(0), 5);
        });
    }

    private static void brothers(Edges e) {
        e.edge(5, "THE TEXT tells of BROTHERS (an empty one: nothing): how many LINES", c -> {
            ElderBallast x = new ElderBallast();
            c.due("an empty one", x.brothers(), 0);
            c.due("one", Check.say(x, "10+0").brothers(), 1);
            c.due("three more", Check.say(x, "20+0;30+0;40+0").brothers(), 3);
            c.due("an empty one", Check.say(x, "").brothers(), 0);
            c.due("four in all", x.count(0), 4);
            for (int b = 0; b < 4; b++) {
                c.due("in their order, " + b, x.brother(b, 0), b + 1);
            }
        });
        e.edge(5, "-1 - p: the sign at p can't stand there", c -> {
            String[] good = {"1", "5", "+", "5", ";", "9", "0", "-", "0"};
            String[] bad = {"/:x+;", "/6:9+", ",*./5 ", "/6:9+", ":<50 ", "/:;+-", "6/-+9", ",.0;", "6/-;"};
            for (int p = 0; p < good.length; p++) {
                for (char sign : bad[p].toCharArray()) {
                    String text = String.join("", List.of(good).subList(0, p)) + sign + String.join("", List.of(good).subList(p + 1, 9));
                    Edges.inVain(c, text, ElderBallast::brothers, -1 - p);
                }
            }
        });
        e.edge(5, "its end, if it ends too early", c -> {
            String text = "15+0;95-5;00+0";
            for (int n : new int[] {1, 2, 3, 5, 6, 7, 8, 10, 11, 12, 13}) {
                Edges.inVain(c, text.substring(0, n), ElderBallast::brothers, -1 - n);
            }
        });
        e.edge(5, "34, if it has more and the first 34 could go on or end", c -> {
            ToLongFunction<String> read = text -> Check.say(new ElderBallast(), text).brothers();
            String seven = LINE.repeat(6) + "10+0";
            c.due("34", read.applyAsLong(seven), 7);
            c.due("35", read.applyAsLong(seven + ";"), -35);
            c.due("35, a bad one", read.applyAsLong(seven + "x"), -35);
            c.due("39", read.applyAsLong(seven + ";10+0"), -35);
            c.due("80", read.applyAsLong(LINE.repeat(16)), -35);
            c.due("a fault ahead of it", read.applyAsLong(LINE.repeat(6) + "10+6;10+0"), -34);
            c.due("a fault far ahead of it", read.applyAsLong("x" + LINE.repeat(8)), -1);
            c.due("33", read.applyAsLong(LINE.repeat(6) + "10+"), -34);
            c.due("none of them comes", Check.say(new ElderBallast(), LINE.repeat(8)).brothers(), -35);
        });
    }

    private static void brothersWithoutRoom(Edges e) {
        e.edge(5, "the first sign of a LINE for which there is no room", c -> {
            for (int crew = 1; crew <= 7; crew++) {
                String room = LINE.repeat(7 - crew);
                int due = -1 - 5 * (7 - crew);
                for (String text : new String[] {room + "20+0", room + "20+0;20+0", room + "x", room + "2", room + "26+0", room + ";"}) {
                    ElderBallast x = Check.with(LINE.repeat(crew - 1) + "10+0");
                    c.due(crew + " and " + text, Check.say(x, text).brothers(), due);
                    c.due("none of these came", x.count(0), crew);
                }
                ElderBallast x = Check.with(LINE.repeat(crew - 1) + "10+0");
                c.due(crew + " and none", Check.say(x, "").brothers(), 0);
                if (crew < 7) {
                    c.due("a fault ahead of it", Check.say(x, "16" + room + "20+0").brothers(), -2);
                    c.due(crew + " and as many as there is room for", Check.say(x, room.substring(0, room.length() - 1)).brothers(), 7 - crew);
                    c.due("seven", x.count(0), 7);
                }
            }
        });
        e.edge(5, "Nothing of it comes, if a LINE can't", c -> {
            Edges.inVain(c, "10+0;20+0;x", ElderBallast::brothers, -11);
            Edges.inVain(c, "10+0;20+0;30+0;40+0", ElderBallast::brothers, -16);
            Edges.inVain(c, "10+0;20+", ElderBallast::brothers, -9);
        });
    }

    private static void winds(Edges e) {
        e.edge(6, "THE TEXT is WINDS: how many pairs", c -> {
            for (int n = 1; n <= 20; n++) {
                ElderBallast x = new ElderBallast();
                c.due(n + " pairs", Check.say(x, "-9".repeat(n - 1) + "+9").winds(), n);
                c.due("the first", x.count(6), n == 1 ? 19 : 1);
                x.hours(n - 1);
                c.due("the last", x.count(6), 19);
                x.hours(1);
                c.due("the first again", x.count(6), n == 1 ? 19 : 1);
            }
        });
        e.edge(6, "-1 - p: the sign at p can't stand there", c -> {
            for (char sign : new char[] {',', '*', '.', '0', ';', ' ', 0, 255}) {
                Edges.inVain(c, sign + "1+1", ElderBallast::winds, -1);
                Edges.inVain(c, "+1" + sign + "1", ElderBallast::winds, -3);
            }
            for (char sign : new char[] {'/', ':', '+', '-', ';', 0, 255}) {
                Edges.inVain(c, "+" + sign + "+1", ElderBallast::winds, -2);
                Edges.inVain(c, "+1-" + sign, ElderBallast::winds, -4);
            }
            Edges.inVain(c, "+1".repeat(19) + "+x", ElderBallast::winds, -40);
        });
        e.edge(6, "its end, if it ends too early, for none, too", c -> {
            Edges.inVain(c, "", ElderBallast::winds, -1);
            Edges.inVain(c, "-", ElderBallast::winds, -2);
            Edges.inVain(c, "+1+", ElderBallast::winds, -4);
            Edges.inVain(c, "+1".repeat(19) + "+", ElderBallast::winds, -40);
        });
        e.edge(6, "a twenty-first pair: at its first sign", c -> {
            for (String more : new String[] {"+", "-1", "x", "1", "+x", "+1+1"}) {
                Edges.inVain(c, "+1".repeat(20) + more, ElderBallast::winds, -41);
            }
            Edges.inVain(c, "+1".repeat(40), ElderBallast::winds, -41);
            Edges.inVain(c, "+1".repeat(19) + "x1+1", ElderBallast::winds, -39);
        });
        e.edge(6, "Can't be undone", c -> {
            ElderBallast x = Check.three();
            c.due("nothing to be undone", x.undo(), -1);
            x.keep(0);
            x.sails(1);
            Check.say(x, "-7").winds();
            c.due("the sail alone", x.undo(), 0);
            c.due("the wind stays", x.count(6), 3);
            x.again(0);
            c.due("nor is it kept", x.count(6), 3);
        });
    }

    private static void rule(Edges e) {
        e.edge(7, "THE TEXT is THE RULE (an empty one: none): 0", c -> {
            ElderBallast x = Check.with("73+0");
            c.due("one", Check.say(x, "g").rule(), 0);
            c.due("by it", x.brother(0, 3), 7);
            c.due("none", Check.say(x, "").rule(), 0);
            c.due("g+t again", x.brother(0, 3), 12);
            x.sails(1);
            Check.say(x, "t").rule();
            c.due("it forgets nothing", x.undo(), 0);
            c.due("it is not undone", x.brother(0, 3), 5);
        });
        e.edge(7, "(an empty one: none)", c -> {
            ElderBallast x = Check.with("73+0");
            String full = "10" + "+0".repeat(19);
            for (String before : new String[] {"g", "1<2", "-g", full, "((((1))))", "g+", "(((", "1<2<", "x"}) {
                for (int times = 1; times <= 4; times++) {
                    for (int i = 0; i < times; i++) {
                        Check.say(x, before).rule();
                    }
                    c.due("none behind " + times + " times " + before, Check.say(x, "").rule(), 0);
                    c.due("g+t behind " + times + " times " + before, x.brother(0, 3), 12);
                }
            }
            for (int i = 0; i < 5; i++) {
                c.due("< once more", Check.say(x, "3<4").rule(), 0);
                c.due("= in ( ) once more", Check.say(x, "(3=4)").rule(), 0);
            }
        });
        e.edge(7, "-1 - p: the sign at p can't stand there", c -> {
            String things = "/:*+<>=);,. xGaz~!" + (char) 0 + (char) 255 + (char) 173;
            for (char sign : things.toCharArray()) {
                Edges.inVain(c, sign + "g", ElderBallast::rule, -1);
                Edges.inVain(c, "g+" + sign, ElderBallast::rule, -3);
                Edges.inVain(c, "(" + sign, ElderBallast::rule, -2);
                Edges.inVain(c, "-" + sign + "g", ElderBallast::rule, -2);
            }
            String joints = "gtkplin(;,. xGz~!" + (char) 0 + (char) 255 + (char) 173;
            for (char sign : joints.toCharArray()) {
                Edges.inVain(c, "g" + sign, ElderBallast::rule, -2);
                Edges.inVain(c, "(g)" + sign + "g", ElderBallast::rule, -4);
                Edges.inVain(c, "12" + sign, ElderBallast::rule, -3);
            }
        });
        e.edge(7, "its end, if it ends too early", c -> {
            for (String text : new String[] {"-", "(", "g+", "g-", "g*", "g/", "g<", "g>", "g=", "(g", "((g)", "g+(", "-(-", "1*(2+3", "((((1"}) {
                Edges.inVain(c, text, ElderBallast::rule, -1 - text.length());
            }
            Edges.inVain(c, "g" + "+1".repeat(19) + "+", ElderBallast::rule, -41);
        });
        e.edge(7, "40, if it has more and the first 40 could go on or end", c -> {
            String end = "10" + "+0".repeat(19);
            String on = "g" + "+0".repeat(19) + "+";
            for (String text : new String[] {end + "+", end + "+0", end + "x", end + "0", end + ")", on + "0", on + "x", on + "0+0", "-".repeat(41),
                "-".repeat(80), "((((" + "1+".repeat(18) + "1))))", "(".repeat(4) + "-".repeat(37)}) {
                Edges.inVain(c, text, ElderBallast::rule, -41);
            }
            Edges.inVain(c, "g" + "+0".repeat(19) + "x0", ElderBallast::rule, -40);
            Edges.inVain(c, "x" + end + end, ElderBallast::rule, -1);
            c.due("40", Check.say(new ElderBallast(), end).rule(), 0);
            c.due("39", Check.say(new ElderBallast(), "g" + "+0".repeat(19)).rule(), 0);
            ElderBallast x = Check.with("73+0");
            Check.say(x, "0-" + "-".repeat(34) + "(20)").rule();
            c.due("all 40 count", x.brother(0, 3), 0);
            Check.say(x, "1+" + "-".repeat(34) + "(19)").rule();
            c.due("all 40 count", x.brother(0, 3), 20);
        });
    }

    private static void brotherAndPrice(Edges e) {
        e.edge(8, "NoSuchElementException: none such, another what", c -> {
            ElderBallast x = Edges.busy();
            for (int b : new int[] {-1, 4, 6, 7, 8, MIN, MAX}) {
                c.throwsNoSuch("brother(" + b + ", 0)", () -> x.brother(b, 0));
                c.throwsNoSuch("brother(" + b + ", 3)", () -> x.brother(b, 3));
            }
            for (int what : new int[] {-1, 4, MIN, MAX}) {
                c.throwsNoSuch("brother(0, " + what + ")", () -> x.brother(0, what));
            }
            c.throwsNoSuch("both", () -> x.brother(-1, -1));
            c.due("nothing changes", Edges.future(x), Edges.future(Edges.busy()));
            ElderBallast seven = Check.with(LINE.repeat(6) + "95-5");
            int[] due = {9, 5, 5, 18};
            for (int what = 0; what < 4; what++) {
                c.due("of the last, what " + what, seven.brother(6, what), due[what]);
            }
            c.throwsNoSuch("behind seven", () -> seven.brother(7, 0));
        });
        e.edge(9, "PRICE of a THOUGHT. NoSuchElementException: none such", c -> {
            ElderBallast x = Edges.busy();
            c.due("the first", x.price(0), 0);
            c.due("the last", x.price(5), 9);
            for (int t : new int[] {-1, 6, 7, MIN, MAX}) {
                c.throwsNoSuch("price(" + t + ")", () -> x.price(t));
            }
            c.due("nothing changes", Edges.future(x), Edges.future(Edges.busy()));
        });
    }

    /** What each of seven brothers has behind a sheet. */
    private static void sheetIs(Check c, int[] sheet, int... due) {
        ElderBallast x = Check.with("30+0;".repeat(6) + "30+0");
        int sum = 0;
        for (int g : due) {
            sum += g;
        }
        String what = "sheet(" + sheet[0] + ", " + sheet[1] + ", " + sheet[2] + ", " + sheet[3] + ")";
        c.due(what, x.sheet(sheet[0], sheet[1], sheet[2], sheet[3]), sum);
        for (int b = 0; b < 7; b++) {
            c.due(what + " of " + b, x.brother(b, 0), due[b]);
        }
    }

    private static void sheetEntries(Edges e) {
        e.edge(10, "bytes (kind 0), shorts (1), ints (2) of n entries f, f + step, .. (of bytes, shorts the lowest bits, with their sign; put to 0 .. 9)", c -> {
            for (int kind = 0; kind < 3; kind++) {
                sheetIs(c, new int[] {kind, 7, 0, 1}, 0, 1, 2, 3, 4, 5, 6);
                sheetIs(c, new int[] {kind, 7, 12, -2}, 9, 9, 8, 6, 4, 2, 0);
                sheetIs(c, new int[] {kind, 7, -3, 2}, 0, 0, 1, 3, 5, 7, 9);
                sheetIs(c, new int[] {kind, 7, 9, 1}, 9, 9, 9, 9, 9, 9, 9);
            }
            sheetIs(c, new int[] {0, 7, 127, 1}, 9, 0, 0, 0, 0, 0, 0);
            sheetIs(c, new int[] {0, 7, 254, 1}, 0, 0, 0, 1, 2, 3, 4);
            sheetIs(c, new int[] {0, 7, 260, 256}, 4, 4, 4, 4, 4, 4, 4);
            sheetIs(c, new int[] {0, 7, -128, -1}, 0, 9, 9, 9, 9, 9, 9);
            sheetIs(c, new int[] {1, 7, 32767, 1}, 9, 0, 0, 0, 0, 0, 0);
            sheetIs(c, new int[] {1, 7, 65534, 1}, 0, 0, 0, 1, 2, 3, 4);
            sheetIs(c, new int[] {1, 7, 65540, 65536}, 4, 4, 4, 4, 4, 4, 4);
            sheetIs(c, new int[] {1, 7, 128, 0}, 9, 9, 9, 9, 9, 9, 9);
            sheetIs(c, new int[] {2, 7, MAX, 1}, 9, 0, 0, 0, 0, 0, 0);
            sheetIs(c, new int[] {2, 7, MIN, -1}, 0, 9, 9, 9, 9, 9, 9);
            sheetIs(c, new int[] {2, 7, 65540, 0}, 9, 9, 9, 9, 9, 9, 9);
            sheetIs(c, new int[] {2, 7, 4, MIN}, 4, 0, 4, 0, 4, 0, 4);
            sheetIs(c, new int[] {0, 7, MAX, 3}, 0, 2, 5, 8, 9, 9, 9);
            sheetIs(c, new int[] {1, 7, MIN, 5}, 0, 5, 9, 9, 9, 9, 9);
        });
        e.edge(10, "those behind it have 0: the sum of all", c -> {
            for (int kind = 0; kind < 3; kind++) {
                sheetIs(c, new int[] {kind, 0, 5, 0}, 0, 0, 0, 0, 0, 0, 0);
                sheetIs(c, new int[] {kind, 1, 5, 0}, 5, 0, 0, 0, 0, 0, 0);
                sheetIs(c, new int[] {kind, 6, 5, 0}, 5, 5, 5, 5, 5, 5, 0);
                sheetIs(c, new int[] {kind, 7, 5, 0}, 5, 5, 5, 5, 5, 5, 5);
            }
            ElderBallast x = Check.three();
            c.due("more entries than brothers", x.sheet(0, 7, 2, 1), 9);
            c.due("GRAVITY of all", x.count(7), 9);
            c.due("without brothers", new ElderBallast().sheet(0, 7, 2, 1), 0);
        });
        e.edge(10, "Nothing is kept of it that could be undone (an undo() behind it brings GRAVITY back, too, as it was ahead of what is undone)", c -> {
            ElderBallast x = Check.three();
            x.sheet(0, 3, 7, 0);
            c.due("nothing kept", x.count(11), 0);
            c.due("nothing to be undone", x.undo(), -1);
            c.due("it stays", x.count(7), 21);
            x.eases(0);
            x.sheet(0, 3, 1, 0);
            x.sails(9);
            x.sheet(0, 3, 2, 0);
            c.due("two kept", x.count(11), 2);
            c.due("the sail undone", x.undo(), 1);
            c.due("as ahead of the sail", x.count(7), 3);
            c.due("the easing undone", x.undo(), 0);
            c.due("as ahead of it", x.count(7), 21);
        });
    }

    private static void sheetRefusals(Edges e) {
        e.refused(10, "-2: n below 0 (of kinds 0 .. 2; nothing changes)", -2, List.of(
                x -> x.sheet(0, -1, 5, 0), x -> x.sheet(1, -1, 5, 0), x -> x.sheet(2, -1, 5, 0), x -> x.sheet(0, MIN, 5, 0)));
        e.edge(10, "-3: missing (all 0)", c -> {
            for (int n : new int[] {0, 1, 7, -1, MIN}) {
                ElderBallast x = Check.three();
                x.moment();
                c.due("n " + n, x, x.sheet(3, n, 5, 1), -3, 105, 6, 6);
                c.due("all 0", x.count(7), 0);
                c.due("thoughts stay", x.brother(2, 1), 5);
                c.due("nothing kept", x.count(11), 0);
            }
            c.due("without brothers", new ElderBallast().sheet(3, 0, 0, 0), -3);
        });
        e.edge(10, "or a missing one (3)", c -> {
            ElderBallast x = Check.three();
            x.sheet(3, 3, 9, 0);
            c.due("its entries tell nothing", x.count(7), 0);
        });
        e.refused(10, "NONE: another kind, n above 7 (these first)", -1, List.of(
                x -> x.sheet(-1, 3, 5, 0), x -> x.sheet(4, 3, 5, 0), x -> x.sheet(MIN, 3, 5, 0), x -> x.sheet(MAX, 3, 5, 0),
                x -> x.sheet(0, 8, 5, 0), x -> x.sheet(1, 8, 5, 0), x -> x.sheet(2, 8, 5, 0), x -> x.sheet(2, MAX, 5, 0),
                x -> x.sheet(3, 8, 5, 0), x -> x.sheet(-1, -1, 5, 0), x -> x.sheet(4, -1, 5, 0), x -> x.sheet(4, 8, 5, 0)));
    }
}
