import java.util.List;
import java.util.function.ToLongFunction;

/** Edges of promises 11 to 18 and 49 to 52: hours, tellings, watches, what is undone and kept, counts, the ROW. */
final class ActEdges {
    private static final int MIN = Integer.MIN_VALUE;
    private static final int MAX = Integer.MAX_VALUE;

    private ActEdges() {
    }

    static void all(Edges e) {
        hours(e);
        tells(e);
        moves(e);
        easesAndPreaches(e);
        sails(e);
        watchActs(e);
        watchFaults(e);
        undoKept(e);
        undoForgotten(e);
        keepAndAgain(e);
        countAndRow(e);
    }

    private static void hours(Edges e) {
        e.edge(11, "n HOURS (0 .. 60): 100 and LEAN then", c -> {
            ElderBallast x = Check.three();
            x.hours(2);
            c.due("none", x, x.hours(0), 102, 0, 0);
            c.due("none go by", x.count(1), 2);
            c.due("one", x, x.hours(1), 103, 5, 0);
            c.due("60", x, x.hours(60), 105, 4 + 59 * 4, 0);
            c.due("63 in all", x.count(1), 63);
            x = Check.with("95-5;95-5");
            c.due("the least lean", x.hours(60), 80);
            x = Check.with("95+5;95+5");
            c.due("the greatest lean", x.hours(60), 120);
        });
        e.edge(11, "LEAGUES more in these (as they grew)", c -> {
            ElderBallast x = farOff();
            c.due("to 9999", x, x.hours(60), 100, 459, 0);
            c.due("none more", x, x.hours(60), 100, 0, 0);
            c.due("9999", x.count(4), 9999);
        });
        e.edge(11, "how often she was OVER in these (whole)", c -> {
            ElderBallast x = oftenOver();
            c.due("998 times", x.count(5), 998);
            c.due("60 more", x, x.hours(60), 120, 0, 60);
            c.due("999 are counted", x.count(5), 999);
            c.due("60 more", x, x.hours(60), 120, 0, 60);
            x = Check.with("95+5;95+5");
            c.due("not in 7", x, x.hours(7), 114, 0, 0);
            c.due("in the eighth", x, x.hours(1), 116, 0, 1);
        });
        e.refused(11, "Refused: another n", -1, List.of(x -> x.hours(61), x -> x.hours(-1), x -> x.hours(MIN), x -> x.hours(MAX)));
    }

    /** 9540 leagues; 53 more in each two hours. */
    private static ElderBallast farOff() {
        ElderBallast x = new ElderBallast();
        Check.say(x, "+9-9").winds();
        x.sails(9);
        for (int i = 0; i < 6; i++) {
            x.hours(60);
        }
        return x;
    }

    /** Over 998 times, and in each hour to come. */
    private static ElderBallast oftenOver() {
        ElderBallast x = Check.with("95+5;95+5");
        for (int i = 0; i < 16; i++) {
            x.hours(60);
        }
        x.hours(45);
        return x;
    }

    private static void tells(Edges e) {
        e.edge(12, "A BROTHER is told a THOUGHT (0 .. 5): 10 and the one he had", c -> {
            ElderBallast x = Check.with("10+0;".repeat(6) + "10+0");
            c.due("the last thought", x.tells(0, 5), 10);
            c.due("the first thought", x.tells(0, 0), 15);
            c.due("the last brother", x.tells(6, 5), 10);
            c.due("he has it", x.brother(6, 1), 5);
            c.due("the others have theirs", x.brother(5, 1), 0);
        });
        e.refused(12, "-2: he has it", -2, List.of(x -> x.tells(0, 3), x -> x.tells(2, 0), x -> x.tells(3, 5)));
        e.refused(12, "NONE: others", -1, List.of(x -> x.tells(-1, 0), x -> x.tells(4, 0), x -> x.tells(7, 0), x -> x.tells(0, -1),
                x -> x.tells(0, 6), x -> x.tells(MIN, MIN), x -> x.tells(MAX, MAX), x -> x.tells(4, 6)));
    }

    private static void moves(Edges e) {
        e.edge(13, "A BROTHER goes to a PLACE (-5 .. 5): how far that is", c -> {
            ElderBallast x = Check.with("10+5;".repeat(6) + "10+5");
            c.due("from end to end", x.moves(6, -5), 10);
            c.due("he is there", x.brother(6, 2), 5);
            c.due("one back", x.moves(6, -4), 1);
            c.due("to the middle", x.moves(6, 0), 4);
            c.due("to starboard", x.moves(6, 5), 5);
            c.due("he is there", x.brother(6, 2), 15);
            c.due("the others stay", x.brother(5, 2), 15);
        });
        e.refused(13, "-2: he is there", -2, List.of(x -> x.moves(0, 5), x -> x.moves(1, -2), x -> x.moves(3, 0)));
        e.refused(13, "NONE: others", -1, List.of(x -> x.moves(-1, 0), x -> x.moves(4, 0), x -> x.moves(7, 0), x -> x.moves(0, -6),
                x -> x.moves(0, 6), x -> x.moves(MIN, MIN), x -> x.moves(MAX, MAX), x -> x.moves(0, MIN)));
    }

    private static void easesAndPreaches(Edges e) {
        e.edge(14, "A BROTHER is eased: GRAVITY is 1 less: GRAVITY", c -> {
            ElderBallast x = Check.with("90+0;10+0");
            c.due("from 9", x.eases(0), 8);
            c.due("to 0", x.eases(1), 0);
            c.due("of both", x.count(7), 8);
        });
        e.refused(14, "-2: it is 0", -2, List.of(x -> x.eases(3)));
        e.refused(14, "NONE: none such", -1, List.of(x -> x.eases(-1), x -> x.eases(4), x -> x.eases(7), x -> x.eases(MIN), x -> x.eases(MAX)));
        e.edge(15, "A BROTHER is preached at: GRAVITY is n (1 .. 9) more (9 at most): GRAVITY", c -> {
            ElderBallast x = Check.with("00+0;00+0;80+0;80+0;50+0");
            c.due("by 1", x.preaches(0, 1), 1);
            c.due("by 9", x.preaches(1, 9), 9);
            c.due("just to 9", x.preaches(2, 1), 9);
            c.due("beyond 9", x.preaches(3, 2), 9);
            c.due("far beyond 9", x.preaches(4, 9), 9);
            c.due("9 at most", x.brother(4, 0), 9);
        });
        e.refused(15, "-2: it is 9", -2, List.of(x -> x.preaches(0, 1), x -> x.preaches(0, 9)));
        e.refused(15, "NONE: others", -1, List.of(x -> x.preaches(-1, 1), x -> x.preaches(4, 1), x -> x.preaches(7, 1), x -> x.preaches(1, 0),
                x -> x.preaches(1, 10), x -> x.preaches(0, 0), x -> x.preaches(0, 10), x -> x.preaches(1, -1), x -> x.preaches(MAX, MAX),
                x -> x.preaches(1, MAX), x -> x.preaches(1, MIN), x -> x.preaches(MIN, 1)));
    }

    private static void sails(Edges e) {
        e.edge(16, "SAIL becomes v (0 .. 9): 10 and what it was", c -> {
            ElderBallast x = new ElderBallast();
            c.due("none", x.sails(0), 15);
            c.due("all", x.sails(9), 10);
            c.due("from all", x.sails(5), 19);
            c.due("it is so", x.count(2), 5);
        });
        e.refused(16, "-2: it is so", -2, List.of(x -> x.sails(8)));
        e.refused(16, "NONE: another v", -1, List.of(x -> x.sails(-1), x -> x.sails(10), x -> x.sails(MIN), x -> x.sails(MAX)));
    }

    private static int watched(String text) {
        return Check.say(Check.three(), text).watch();
    }

    private static void watchActs(Edges e) {
        e.edge(17, "THE TEXT tells A WATCH (an empty one: nothing)", c -> {
            ElderBallast x = Check.three();
            x.moment();
            c.due("an empty one", x, x.watch(), 0, 0, 100);
            c.due("nothing kept", x.count(11), 0);
            x.hours(1);
            x.undo();
            c.due("no hour", x.count(1), 0);
        });
        e.edge(17, "ACTS one behind another, without signs between", c -> {
            c.due("three", watched("n1s1e0"), 3);
            for (String between : new String[] {";", ",", " ", "+"}) {
                Edges.inVain(c, "n1" + between + "s1", ElderBallast::watch, -3);
            }
        });
        e.edge(17, "n and a digit (hours()), t, a digit and a digit 0 .. 5 (tells()), m, a digit, + or - and a digit 0 .. 5 (moves()), e and a digit (eases()), "
                + "p, a digit and a digit 1 .. 9 (preaches()), s and a digit (sails())", c -> {
            ElderBallast x = Check.with("90-5;".repeat(6) + "00+5");
            c.due("the ends of all", x, Check.say(x, "t05t00t65m0+5m0-0m6-5e0p69s9s0n0").watch(), 11, 0, 100);
            c.due("t", x.brother(0, 1), 0);
            c.due("t", x.brother(6, 1), 5);
            c.due("m", x.brother(0, 2), 10);
            c.due("m", x.brother(6, 2), 5);
            c.due("e", x.brother(0, 0), 8);
            c.due("p", x.brother(6, 0), 9);
            c.due("s", x.count(2), 0);
            c.due("n", x.count(1), 0);
            c.due("nine hours", x, Check.say(x, "n9").watch(), 1, 0, x.count(3));
            c.due("nine hours", x.count(1), 9);
            String[] none = {"t70", "t90", "m7+0", "m9+0", "e7", "e9", "p71", "p91"};
            for (String act : none) {
                c.due("none such: " + act, x, Check.say(x, act + "n1").watch(), 0, 1, x.count(3));
            }
            c.due("no hours", x.count(1), 9);
        });
        e.edge(17, "they are done one by one, till one can't be (it answers NONE or -2): how many were done", c -> {
            String[] watches = {"s5", "t00", "m0+2", "e2", "t30", "s1s1s2", "e0e0e0e0n9", "p09p09n9", "n1t00n1", "m0+3m0+3m0+4", "t01t02t02", "n9n9e2"};
            int[] due = {0, 0, 0, 0, 0, 1, 3, 1, 1, 1, 2, 2};
            for (int i = 0; i < watches.length; i++) {
                c.due(watches[i], watched(watches[i]), due[i]);
            }
            ElderBallast x = Check.three();
            Check.say(x, "s1s1s2").watch();
            c.due("what is behind it is not done", x.count(2), 1);
            c.due("30 acts", watched("s1s2".repeat(15)), 30);
        });
        e.edge(17, "the ROW: 1 if one could not be, else 0; 100 and LEAN then", c -> {
            ElderBallast x = Check.three();
            c.due("one could not be", x, Check.say(x, "n2s5n1").watch(), 1, 1, 102);
            c.due("the first could not be", x, Check.say(x, "s5").watch(), 0, 1, 102);
            c.due("the last could not be", x, Check.say(x, "n1s5").watch(), 1, 1, 103);
            c.due("all could", x, Check.say(x, "n1").watch(), 1, 0, 104);
            x = Check.with("95-5;95-5");
            c.due("to larboard", x, Check.say(x, "n9n9").watch(), 2, 0, 80);
        });
    }

    private static void watchFaults(Edges e) {
        e.edge(17, "-1 - p: the sign at p can't stand there", c -> {
            String[] texts = {"x", "N1", "1", ";", "n/", "n:", "nn", "t/0", "t:0", "t0/", "t06", "t0+", "m/+0", "m:+0", "m0,0", "m0*0", "m00", "m0+/", "m0+6", "m0-:",
                "e/", "e:", "p/1", "p:1", "p0/", "p00", "p0:", "s/", "s:", "s+", "n1;n1", "n1 n1", "e01", "s11", "n11", "t000", "p011", "m0+00", "" + (char) 0,
                "n" + (char) 255, "n1e" + (char) 176};
            int[] at = {0, 0, 0, 0, 1, 1, 1, 1, 1, 2, 2, 2, 1, 1, 2, 2, 2, 3, 3, 3,
                1, 1, 1, 1, 2, 2, 2, 1, 1, 1, 2, 2, 2, 2, 2, 3, 3, 4, 0,
                1, 3};
            for (int i = 0; i < texts.length; i++) {
                Edges.inVain(c, texts[i], ElderBallast::watch, -1 - at[i]);
            }
        });
        e.edge(17, "its end, if it ends too early", c -> {
            for (String text : new String[] {"n", "t", "t0", "m", "m0", "m0+", "e", "p", "p0", "s", "n1n", "n1m0-", "s1".repeat(29) + "s"}) {
                Edges.inVain(c, text, ElderBallast::watch, -1 - text.length());
            }
        });
        e.edge(17, "60, if it has more and the first 60 could go on or end", c -> {
            String end = "n1".repeat(30);
            String on = "n1".repeat(29);
            for (String text : new String[] {end + "n", end + "n1", end + "x", end + "1", on + "t00", on + "t0x", on + "m0+1", on + "p0", on + "t0",
                "n1".repeat(40), "t01".repeat(19) + "m0+1", "m0+1".repeat(20)}) {
                Edges.inVain(c, text, ElderBallast::watch, -61);
            }
            Edges.inVain(c, on + "nx1", ElderBallast::watch, -60);
            Edges.inVain(c, on + "x11", ElderBallast::watch, -59);
            Edges.inVain(c, "x" + end + end.substring(0, 19), ElderBallast::watch, -1);
            c.due("60", watched(end), 30);
            c.due("59", watched("n1".repeat(28) + "t01"), 29);
        });
        e.edge(17, "nothing is done then", c -> {
            Edges.inVain(c, "n9s1x", ElderBallast::watch, -5);
            Edges.inVain(c, "n9s1t", ElderBallast::watch, -6);
            Edges.inVain(c, "s1s2".repeat(16), ElderBallast::watch, -61);
        });
    }

    private static void undoKept(Edges e) {
        e.edge(18, "of 12 that are kept, the latest ones", c -> {
            ElderBallast x = new ElderBallast();
            for (int i = 1; i <= 12; i++) {
                x.sails(i % 2);
                c.due("kept behind " + i, x.count(11), i);
            }
            x.hours(1);
            c.due("kept behind 13", x.count(11), 12);
            for (int i = 11; i >= 0; i--) {
                c.due("left", x.undo(), i);
            }
            c.due("behind the first", x.count(2), 1);
            c.due("the first is not kept", x.undo(), -1);
            for (int i = 0; i < 30; i++) {
                x.sails(2 + i % 7);
            }
            x.undo();
            x.sails(9);
            c.due("12 again", x.count(11), 12);
            x.undo();
            c.due("as ahead of the latest", x.count(2), 2);
        });
        e.edge(18, "such as were done; hours() of 1 and more, watch() of which one ACT was done, as one", c -> {
            ElderBallast x = Check.three();
            x.hours(0);
            x.hours(61);
            x.tells(0, 0);
            x.tells(0, 6);
            x.moves(0, 2);
            x.moves(0, 6);
            x.eases(2);
            x.eases(3);
            x.preaches(0, 0);
            x.sails(5);
            x.sails(10);
            Check.say(x, "").watch();
            Check.say(x, "s5n9").watch();
            Check.say(x, "n9n").watch();
            c.due("none of these", x.count(11), 0);
            x.hours(1);
            c.due("one hour", x.count(11), 1);
            Check.say(x, "n1s5").watch();
            c.due("one act of two", x.count(11), 2);
            Check.say(x, "s1s2s3s4t01m0+1e0").watch();
            c.due("seven acts", x.count(11), 3);
            Check.say(x, "n0").watch();
            c.due("an act of no hours", x.count(11), 4);
            x.preaches(1, 9);
            x.preaches(1, 9);
            c.due("done once", x.count(11), 5);
            x = Check.with("10+0");
            c.due("eased to 0, which is done", x.eases(0), 0);
            c.due("eased to 0", x.undo(), 0);
            c.due("not eased", x.brother(0, 0), 1);
        });
        e.edge(18, "is undone (all of BROTHERS, SAIL, LEAN, LEAGUES, OVERS, HOUR are as ahead of it): how many are left that can be", c -> {
            List<ToLongFunction<ElderBallast>> acts = List.of(x -> x.hours(60), x -> x.tells(0, 5), x -> x.moves(0, -5), x -> x.eases(0),
                    x -> x.preaches(0, 9), x -> x.sails(0), x -> Check.say(x, "s1n9t05m1+0e0p09").watch());
            for (int i = 0; i < acts.size(); i++) {
                ElderBallast x = Check.with("80+5;80+5;80+5;00+0");
                x.sails(9);
                x.hours(9);
                String before = Check.seenOf(x);
                acts.get(i).applyAsLong(x);
                c.due("act " + i + " changes something", before.equals(Check.seenOf(x)), false);
                c.due("act " + i + " left", x.undo(), 2);
                c.due("act " + i + " undone", Check.seenOf(x), before);
            }
        });
    }

    private static void undoForgotten(Edges e) {
        e.edge(18, "Refused: none", c -> {
            ElderBallast x = Check.three();
            c.due("of a new one", x.undo(), -1);
            x.hours(1);
            x.moment();
            c.due("one", x, x.undo(), 0, 105, 6, 6);
            String before = Edges.future(sailing());
            ElderBallast y = sailing();
            c.due("none left", y, y.undo(), -1, 105, 6, 6);
            c.due("nothing changes", Edges.future(y), before);
        });
        e.edge(18, "(brothers() and again() forget them, if they are not refused; an empty brothers() does not.)", c -> {
            ElderBallast x = Check.three();
            x.keep(0);
            x.sails(1);
            x.hours(1);
            Check.say(x, "").brothers();
            c.due("an empty brothers()", x.count(11), 2);
            Check.say(x, "x").brothers();
            Check.say(x, "10+0;").brothers();
            Check.say(x, "10+0;10+0;10+0;10+0;10+0").brothers();
            c.due("refused brothers()", x.count(11), 2);
            x.again(1);
            x.again(2);
            x.again(-1);
            c.due("refused again()", x.count(11), 2);
            c.due("still undone", x.undo(), 1);
            x.again(0);
            c.due("again()", x.undo(), -1);
            c.due("again() brought it", x.count(2), 5);
            x.sails(2);
            Check.say(x, "10+0").brothers();
            c.due("brothers()", x.undo(), -1);
            c.due("the sail stays", x.count(2), 2);
            x.sails(3);
            x.again(0);
            c.due("refused, since brothers came", x.undo(), 0);
        });
    }

    /** One act undone, a ROW told, a RULE and something kept: nothing is left to be undone. */
    private static ElderBallast sailing() {
        ElderBallast x = Check.three();
        x.sails(9);
        x.undo();
        x.keep(0);
        x.moment();
        return x;
    }

    private static void keepAndAgain(Edges e) {
        e.edge(49, "What undo() brings back is kept under a number 0 .. 1: true", c -> {
            ElderBallast x = Check.with("80+5;80+5;80+5;00+0");
            x.hours(2);
            c.due("keep(0)", x.keep(0), true);
            x.hours(9);
            x.tells(0, 5);
            x.moves(1, 0);
            x.eases(2);
            x.sails(9);
            c.due("keep(1)", x.keep(1), true);
            c.due("what can be undone stays", x.count(11), 6);
            x.saw(0, 0, 0);
            x.heard(0, 0);
            Check.say(x, "g").rule();
            Check.say(x, "+9").winds();
            Check.say(x, "111111").thoughts();
            c.due("again(0)", x.again(0), true);
            c.due("hour, sail, lean, leagues, overs", x.count(1) + 10 * x.count(2) + 100 * x.count(3) + x.count(4) + x.count(5), 2 + 50 + 10400);
            c.due("thought, place, gravity", x.brother(0, 1) + 10 * x.brother(1, 2) + 1000 * x.brother(2, 0), 150 + 8000);
            c.due("what was seen stays", x.count(9), 1);
            c.due("what was heard stays", x.count(10), 1);
            c.due("winds stay", x.count(6), 19);
            c.due("prices stay", x.price(5), 1);
            c.due("the rule stays", x.brother(0, 3), 8);
            c.due("again(1)", x.again(1), true);
            c.due("the other one", x.count(2) + 10 * x.count(1), 9 + 110);
            c.due("once more", x.again(0) && x.count(1) == 2, true);
            x.sails(1);
            x.keep(0);
            x.sails(2);
            c.due("kept anew", x.again(0) && x.count(2) == 1, true);
        });
        List<ToLongFunction<ElderBallast>> others = List.of(x -> x.keep(-1) ? 1 : 0, x -> x.keep(2) ? 1 : 0, x -> x.keep(MIN) ? 1 : 0, x -> x.keep(MAX) ? 1 : 0);
        e.refused(49, "Refused: others", 0, others);
        e.refused(50, "Refused: nothing kept", 0, List.of(x -> x.again(0) ? 1 : 0, x -> x.again(-1) ? 1 : 0, x -> x.again(2) ? 1 : 0,
                x -> x.again(MIN) ? 1 : 0, x -> x.again(MAX) ? 1 : 0));
        e.edge(50, "BROTHERS came since", c -> {
            for (int i = 0; i < 2; i++) {
                ElderBallast x = Check.three();
                x.keep(i);
                x.sails(1);
                c.due("none came", x.again(i), true);
                c.due("as it was", x.count(2), 5);
                Check.say(x, "").brothers();
                Check.say(x, "x").brothers();
                x.sails(1);
                c.due("none came by an empty text, or a refused one", x.again(i), true);
                Check.say(x, "10+0").brothers();
                x.sails(2);
                c.due("one came", x.again(i), false);
                c.due("nothing changes", x.count(2) + 10 * x.count(0) + 100 * x.count(11), 2 + 40 + 100);
                c.due("kept since", x.keep(i) && x.again(i), true);
            }
            ElderBallast none = new ElderBallast();
            none.keep(1);
            c.due("kept without brothers", none.again(1), true);
            Check.say(none, "10+0").brothers();
            c.due("one came", none.again(1), false);
            c.due("nothing kept under the other", none.again(0), false);
        });
    }

    private static void countAndRow(Edges e) {
        e.edge(51, "What 0: BROTHERS, 1: HOUR, 2: SAIL, 3: 100 and LEAN, 4: LEAGUES, 5: OVERS, 6: 10 and WIND of this HOUR, 7: GRAVITY of all, 8: WEIGHT of all, "
                + "9: what was seen, 10: what was heard, 11: what can be undone, 12: numbers of the ROW, 13: signs of THE TEXT", c -> {
            int[] first = {0, 0, 5, 100, 0, 0, 10, 0, 0, 0, 0, 0, 0, 0};
            ElderBallast x = new ElderBallast();
            for (int what = 0; what < 14; what++) {
                c.due("at first, count " + what, x.count(what), first[what]);
            }
            x = Check.with("95-5;".repeat(6) + "95-5");
            Check.say(x, "-9").winds();
            Check.say(x, "999").rule();
            for (int i = 0; i < 20; i++) {
                x.hours(60);
                x.saw(0, 0, 0);
                x.heard(0, 0);
                x.sign(0);
            }
            x.line();
            int[] last = {7, 1200, 0, 80, 84, 999, 1, 63, 140, 10, 12, 12, 7, 80};
            for (int what = 0; what < 14; what++) {
                c.due("at last, count " + what, x.count(what), last[what]);
            }
        });
        e.edge(51, "7: GRAVITY of all, 8: WEIGHT of all", c -> {
            ElderBallast x = Check.with("10+0");
            c.due("weight at first", x.count(8), 1);
            x.preaches(0, 5);
            c.due("weight behind preaches()", x.count(8), 6);
            x.tells(0, 5);
            c.due("weight behind tells()", x.count(8), 15);
            Check.say(x, "000001").thoughts();
            c.due("weight behind thoughts()", x.count(8), 7);
            x.undo();
            c.due("weight behind undo()", x.count(8), 6);
            x.sheet(0, 1, 2, 0);
            c.due("weight behind sheet()", x.count(8), 2);
            Check.say(x, "19").rule();
            c.due("weight behind rule()", x.count(8), 19);
            Check.say(x, "90+0").brothers();
            c.due("weight behind brothers()", x.count(8), 38);
            c.due("gravity behind brothers()", x.count(7), 11);
        });
        e.refused(51, "NONE for another what", -1, List.of(x -> x.count(-1), x -> x.count(14), x -> x.count(MIN), x -> x.count(MAX)));
        e.edge(52, "Number i of the ROW. NoSuchElementException: none such", c -> {
            ElderBallast none = new ElderBallast();
            c.throwsNoSuch("row(0) of none", () -> none.row(0));
            ElderBallast x = Edges.busy();
            c.due("the last", x.row(2) >= 0, true);
            for (int i : new int[] {-1, 3, 7, 8, MIN, MAX}) {
                c.throwsNoSuch("row(" + i + ") of three", () -> x.row(i));
            }
            c.due("nothing changes", Edges.future(x), Edges.future(Edges.busy()));
            ElderBallast seven = Check.with("10+0;".repeat(6) + "10+0");
            seven.line();
            c.due("the seventh", seven.row(6), 6);
            c.throwsNoSuch("row(7) of seven", () -> seven.row(7));
            seven.fits();
            c.throwsNoSuch("row(1) of one", () -> seven.row(1));
            seven.steps(20);
            c.throwsNoSuch("row(0) of an emptied one", () -> seven.row(0));
        });
    }
}
