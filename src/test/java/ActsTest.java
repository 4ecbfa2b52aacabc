/** Promises 11 to 18 and 49 to 52: hours, tellings, watches, what is undone and kept, the ROW. */
public final class ActsTest {
    private static final Check CHECK = new Check();

    public static void main(String[] args) {
        hours();
        hoursOver();
        mostLeagues();
        mostOvers();
        tellsAndMoves();
        easesAndPreaches();
        sails();
        watch();
        watchFaults();
        undo();
        undoForgotten();
        keepAndAgain();
        countAndRow();
        CHECK.close();
    }

    private static void hours() {
        ElderBallast x = Check.three();
        CHECK.due("11: two hours", x, x.hours(2), 102, 11, 0);
        CHECK.due("11: the hour", x.count(1), 2);
        CHECK.due("11: leagues", x.count(4), 11);
        CHECK.due("11: no hours", x, x.hours(0), 102, 0, 0);
        CHECK.due("11: no hours are not kept", x.count(11), 1);
        CHECK.due("11: up to the pull", x, x.hours(60), 105, 5 + 4 + 57 * 4 + 4, 0);
        CHECK.due("11: 61", x, x.hours(61), -1, 241, 0);
        CHECK.due("11: -1", x, x.hours(-1), -1, 241, 0);
        CHECK.due("11: refused", x.count(1), 62);
        x = new ElderBallast();
        Check.say(x, "-9").winds();
        CHECK.due("11: to larboard by 2, then by 1", x, x.hours(4), 93, 14 + 13 + 12 + 12, 0);
        CHECK.due("11: pull is -11", x, x.hours(2), 91, 11 + 11, 0);
    }

    /** Pull is 20, so that she leans 2 an hour up to 16, then 1. */
    private static ElderBallast falling() {
        ElderBallast x = Check.with("90+5;90+5;90+5");
        Check.say(x, "20").rule();
        Check.say(x, "+9").winds();
        x.sails(9);
        return x;
    }

    private static void hoursOver() {
        ElderBallast x = falling();
        CHECK.due("11: not over at 14", x, x.hours(7), 114, 26 + 25 + 24 + 23 + 22 + 21 + 20, 0);
        CHECK.due("11: sail stands", x.count(2), 9);
        CHECK.due("11: over, with the leagues of this hour", x, x.hours(1), 116, 19, 1);
        CHECK.due("11: sail is 0", x.count(2), 0);
        CHECK.due("11: overs", x.count(5), 1);
        CHECK.due("11: over again each hour", x, x.hours(5), 120, 0, 5);
        CHECK.due("11: overs", x.count(5), 6);
        CHECK.due("11: leagues stay", x.count(4), 180);
        x = Check.with("90-5;90-5;90-5");
        Check.say(x, "8").rule();
        CHECK.due("11: not over at -14", x, x.hours(9), 86, 0, 0);
        CHECK.due("11: over at -15", x, x.hours(1), 85, 0, 1);
    }

    private static void mostLeagues() {
        ElderBallast x = new ElderBallast();
        Check.say(x, "+9-9").winds();
        x.sails(9);
        for (int i = 0; i < 6; i++) {
            CHECK.due("11: 60 hours", x, x.hours(60), 100, 1590, 0);
        }
        CHECK.due("11: later, as they grow", x, x.later(60), 100, 459, 9);
        CHECK.due("11: as they grew", x, x.hours(60), 100, 459, 0);
        CHECK.due("11: leagues at most", x.count(4), 9999);
        CHECK.due("11: none more", x, x.hours(1), 102, 0, 0);
        CHECK.due("27: best of none, the least", x, x.best(5), 0, 0, 0);
        CHECK.due("25: makes", x, x.makes(9999), 0, 9999, 9);
    }

    private static void mostOvers() {
        ElderBallast x = falling();
        x.hours(60);
        CHECK.due("11: overs", x.count(5), 53);
        for (int i = 0; i < 15; i++) {
            x.hours(60);
        }
        CHECK.due("11: overs", x.count(5), 953);
        CHECK.due("11: all of these overs", x, x.hours(60), 120, 0, 60);
        CHECK.due("11: overs at most", x.count(5), 999);
        CHECK.due("11: whole", x, x.hours(3), 120, 0, 3);
        x.years(7, 60);
        CHECK.due("48: whole", x.row(1) > 0, true);
    }

    private static void tellsAndMoves() {
        ElderBallast x = Check.three();
        CHECK.due("12: tells", x.tells(1, 4), 11);
        CHECK.due("12: his thought", x.brother(1, 1), 4);
        CHECK.due("12: he has it", x.tells(1, 4), -2);
        CHECK.due("12: thought 6", x.tells(1, 6), -1);
        CHECK.due("12: thought -1", x.tells(1, -1), -1);
        CHECK.due("12: brother 3", x.tells(3, 0), -1);
        CHECK.due("12: brother -1", x.tells(-1, 0), -1);
        CHECK.due("12: the one he had", x.tells(1, 0), 14);
        CHECK.due("12: kept twice", x.count(11), 2);
        CHECK.due("13: moves", x.moves(0, -3), 5);
        CHECK.due("13: his place", x.brother(0, 2), 7);
        CHECK.due("13: he is there", x.moves(0, -3), -2);
        CHECK.due("13: as far as can be", x.moves(0, 5), 8);
        CHECK.due("13: place 6", x.moves(0, 6), -1);
        CHECK.due("13: place -6", x.moves(0, -6), -1);
        CHECK.due("13: place far off", x.moves(0, Integer.MIN_VALUE), -1);
        CHECK.due("13: brother 3", x.moves(3, 0), -1);
        CHECK.due("13: brother -1", x.moves(-1, 0), -1);
        CHECK.due("13: kept twice more", x.count(11), 4);
    }

    private static void easesAndPreaches() {
        ElderBallast x = Check.three();
        CHECK.due("14: eases", x.eases(0), 2);
        CHECK.due("14: eases", x.eases(0), 1);
        CHECK.due("14: eases", x.eases(0), 0);
        CHECK.due("14: it is 0", x.eases(0), -2);
        CHECK.due("14: brother 3", x.eases(3), -1);
        CHECK.due("14: brother -1", x.eases(-1), -1);
        CHECK.due("14: kept", x.count(11), 3);
        CHECK.due("15: preaches", x.preaches(0, 4), 4);
        CHECK.due("15: 9 at most", x.preaches(0, 9), 9);
        CHECK.due("15: it is 9", x.preaches(0, 1), -2);
        CHECK.due("15: n 0 ahead of it is 9", x.preaches(0, 0), -1);
        CHECK.due("15: n 10", x.preaches(1, 10), -1);
        CHECK.due("15: brother 3", x.preaches(3, 1), -1);
        CHECK.due("15: brother -1", x.preaches(-1, 1), -1);
        CHECK.due("15: kept", x.count(11), 5);
    }

    private static void sails() {
        ElderBallast x = new ElderBallast();
        CHECK.due("16: it is so", x.sails(5), -2);
        CHECK.due("16: sails", x.sails(0), 15);
        CHECK.due("16: sails", x.sails(9), 10);
        CHECK.due("16: sail", x.count(2), 9);
        CHECK.due("16: 10", x.sails(10), -1);
        CHECK.due("16: -1", x.sails(-1), -1);
        CHECK.due("16: kept", x.count(11), 2);
    }

    private static void watch() {
        ElderBallast x = Check.three();
        CHECK.due("17: all done", x, Check.say(x, "n1t03m1+4e0p29s0").watch(), 6, 0, 101);
        CHECK.due("17: it empties the text", x.count(13), 0);
        CHECK.due("17: tells", x.brother(0, 1), 3);
        CHECK.due("17: moves", x.brother(1, 2), 14);
        CHECK.due("17: eases", x.brother(0, 0), 2);
        CHECK.due("17: preaches", x.brother(2, 0), 9);
        CHECK.due("17: sails", x.count(2), 0);
        CHECK.due("17: hours", x.count(1), 1);
        CHECK.due("17: kept as one", x.count(11), 1);
        CHECK.due("17: undone as one", x.undo(), 0);
        CHECK.due("17: undone", x.brother(0, 1), 0);
        CHECK.due("17: undone", x.brother(2, 0), 0);
        CHECK.due("17: undone", x.count(1), 0);
        CHECK.due("17: till one can't be", x, Check.say(x, "s3s3s4").watch(), 1, 1, 100);
        CHECK.due("17: what stands behind is not done", x.count(2), 3);
        CHECK.due("17: none such", x, Check.say(x, "e9n9").watch(), 0, 1, 100);
        CHECK.due("17: none done, none kept", x.count(11), 1);
        CHECK.due("17: an empty one", x, Check.say(x, "").watch(), 0, 0, 100);
        CHECK.due("17: none kept", x.count(11), 1);
        CHECK.due("17: no hours are done, too", x, Check.say(x, "n0").watch(), 1, 0, 100);
        CHECK.due("17: and kept", x.count(11), 2);
        CHECK.due("17: to larboard", x, Check.say(x, "m0-5").watch(), 1, 0, 100);
        CHECK.due("17: to larboard", x.brother(0, 2), 5);
        CHECK.due("17: 0 with a sign", x, Check.say(x, "m2-0").watch(), 0, 1, 100);
        CHECK.due("17: nine hours, 30 times", x, Check.say(x, "n9".repeat(30)).watch(), 30, 0, x.count(3));
        CHECK.due("17: 270 hours", x.count(1), 270);
    }

    private static void watchFaults() {
        String[] texts = {"x", "n", "nx", "n1;", "n1n", "t", "t0", "t06", "t0x", "tx", "m", "m0", "m05", "m0+", "m0+6", "m0+5x", "mx", "e", "ex",
            "p", "p0", "p00", "px", "s", "s-", "n1x1", "n1t0", "N1", "n1".repeat(30) + "n", "n1".repeat(31), "n1".repeat(29) + "t0",
            "n1".repeat(29) + "t01", "n1".repeat(29) + "n", "n1".repeat(30) + "x", "n1".repeat(29) + "xx11", "n1".repeat(40)};
        int[] at = {0, 1, 1, 2, 3, 1, 2, 2, 2, 1, 1, 2, 2, 3, 3, 4, 1, 1, 1,
            1, 2, 2, 1, 1, 1, 2, 4, 0, 60, 60, 60,
            60, 59, 60, 58, 60};
        for (int i = 0; i < texts.length; i++) {
            ElderBallast x = Check.three();
            x.moment();
            CHECK.due("17: watch " + texts[i], x, Check.say(x, texts[i]).watch(), -1 - at[i], 105, 6, 6);
            CHECK.due("17: it empties the text", x.count(13), 0);
            CHECK.due("17: nothing is done", x.count(1), 0);
            CHECK.due("17: nothing is kept", x.count(11), 0);
        }
        ElderBallast x = Check.three();
        CHECK.due("17: 60 signs", Check.say(x, "n1".repeat(30)).watch(), 30);
    }

    private static void undo() {
        ElderBallast x = Check.three();
        CHECK.due("18: none", x.undo(), -1);
        x.hours(2);
        x.tells(1, 2);
        x.moves(0, -3);
        x.eases(0);
        x.preaches(2, 9);
        x.sails(9);
        x.hours(1);
        CHECK.due("18: left", x.undo(), 6);
        CHECK.due("18: lean", x.count(3), 102);
        CHECK.due("18: leagues", x.count(4), 11);
        CHECK.due("18: hour", x.count(1), 2);
        CHECK.due("18: left", x.undo(), 5);
        CHECK.due("18: sail", x.count(2), 5);
        CHECK.due("18: left", x.undo(), 4);
        CHECK.due("18: preached", x.brother(2, 0), 0);
        CHECK.due("18: left", x.undo(), 3);
        CHECK.due("18: eased", x.brother(0, 0), 3);
        CHECK.due("18: left", x.undo(), 2);
        CHECK.due("18: moved", x.brother(0, 2), 12);
        CHECK.due("18: left", x.undo(), 1);
        CHECK.due("18: told", x.brother(1, 1), 1);
        CHECK.due("18: left", x.undo(), 0);
        CHECK.due("18: none", x.undo(), -1);
        eachUndoneAlone();
        x = falling();
        x.undo();
        x.hours(60);
        x.undo();
        CHECK.due("18: overs", x.count(5), 0);
        CHECK.due("18: sail", x.count(2), 5);
        x = new ElderBallast();
        for (int i = 0; i < 15; i++) {
            x.sails(i % 10);
        }
        CHECK.due("18: the latest 12", x.count(11), 12);
        for (int i = 11; i >= 0; i--) {
            CHECK.due("18: left", x.undo(), i);
        }
        CHECK.due("18: the sail ahead of the latest 12", x.count(2), 2);
        CHECK.due("18: no more", x.undo(), -1);
    }

    /** Two acts, of which the latter is undone and the former is not. */
    private static void eachUndoneAlone() {
        String[] acts = {"n3", "t04", "m0-3", "e0", "p01", "s2"};
        for (String act : acts) {
            ElderBallast x = Check.three();
            Check.say(x, "s9n1").watch();
            Check.say(x, "10+1").brothers();
            x.sails(7);
            x.tells(3, 3);
            String before = Check.seenOf(x);
            char digit = act.charAt(1);
            switch (act.charAt(0)) {
                case 'n': x.hours(digit - '0'); break;
                case 't': x.tells(0, 4); break;
                case 'm': x.moves(0, -3); break;
                case 'e': x.eases(0); break;
                case 'p': x.preaches(0, 1); break;
                default: x.sails(2); break;
            }
            CHECK.due("18: " + act + " is kept", x.count(11), 3);
            CHECK.due("18: " + act + " is done", before.equals(Check.seenOf(x)), false);
            CHECK.due("18: " + act + " is undone", x.undo(), 2);
            CHECK.due("18: all as ahead of " + act, before.equals(Check.seenOf(x)), true);
            Check.say(x, act).watch();
            x.undo();
            CHECK.due("18: all as ahead of the watch " + act, before.equals(Check.seenOf(x)), true);
        }
    }

    private static void undoForgotten() {
        ElderBallast x = Check.three();
        x.sails(1);
        x.sails(1);
        x.tells(9, 9);
        x.hours(99);
        CHECK.due("18: such as were done", x.count(11), 1);
        Check.say(x, "").brothers();
        CHECK.due("18: an empty brothers() forgets none", x.count(11), 1);
        Check.say(x, "x").brothers();
        CHECK.due("18: a refused brothers() forgets none", x.count(11), 1);
        x.again(0);
        CHECK.due("18: a refused again() forgets none", x.count(11), 1);
        Check.say(x, "0").rule();
        x.saw(0, 0, 0);
        x.heard(0, 0);
        x.undo();
        CHECK.due("18: what was seen stays", x.count(9), 1);
        CHECK.due("18: what was heard stays", x.count(10), 1);
        x.sails(1);
        Check.say(x, "10+0").brothers();
        CHECK.due("18: brothers() forgets", x.undo(), -1);
        CHECK.due("18: the sail stays", x.count(2), 1);
    }

    private static void keepAndAgain() {
        ElderBallast x = Check.three();
        CHECK.due("50: nothing kept", x.again(0), false);
        CHECK.due("49: keep", x.keep(0), true);
        CHECK.due("49: keep(2)", x.keep(2), false);
        CHECK.due("49: keep(-1)", x.keep(-1), false);
        CHECK.due("50: again(2)", x.again(2), false);
        CHECK.due("50: again(-1)", x.again(-1), false);
        CHECK.due("50: nothing kept under 1", x.again(1), false);
        String first = Check.seenOf(x);
        x.hours(3);
        x.tells(0, 5);
        x.moves(1, 5);
        x.preaches(2, 2);
        x.sails(9);
        CHECK.due("49: keep the other", x.keep(1), true);
        CHECK.due("49: it forgets none", x.count(11), 5);
        CHECK.due("50: again", x.again(0), true);
        CHECK.due("50: all as it was", Check.seenOf(x).equals(first), true);
        CHECK.due("50: nothing to undo", x.undo(), -1);
        CHECK.due("50: the other", x.again(1), true);
        CHECK.due("50: the other", x.count(2), 9);
        CHECK.due("50: the other", x.count(1), 3);
        CHECK.due("50: once more", x.again(0), true);
        x.sails(7);
        CHECK.due("49: kept anew", x.keep(0), true);
        x.sails(3);
        x.again(0);
        CHECK.due("50: as kept last", x.count(2), 7);
        Check.say(x, "").brothers();
        CHECK.due("50: none came", x.again(0), true);
        Check.say(x, "10+0").brothers();
        CHECK.due("50: brothers came since", x.again(0), false);
        CHECK.due("50: brothers came since", x.again(1), false);
        CHECK.due("50: four", x.count(0), 4);
        x.keep(1);
        CHECK.due("50: kept since", x.again(1), true);
    }

    private static void countAndRow() {
        ElderBallast x = Check.three();
        x.hours(2);
        x.saw(0, 0, 0);
        x.saw(0, 0, 0);
        x.heard(0, 0);
        x.sign(0);
        int[] due = {3, 2, 5, 102, 11, 0, 14, 8, 18, 2, 1, 1, 2, 4};
        for (int i = 0; i < due.length; i++) {
            CHECK.due("51: count(" + i + ")", x.count(i), due[i]);
        }
        CHECK.due("51: count(14)", x.count(14), -1);
        CHECK.due("51: count(-1)", x.count(-1), -1);
        CHECK.due("52: row(0)", x.row(0), 11);
        CHECK.due("52: row(1)", x.row(1), 0);
        CHECK.throwsNoSuch("52: row(2)", () -> x.row(2));
        CHECK.throwsNoSuch("52: row(-1)", () -> x.row(-1));
        CHECK.throwsNoSuch("52: row of none", () -> new ElderBallast().row(0));
        x.line();
        CHECK.due("52: a longer one", x.row(2), 0);
        x.fits();
        CHECK.throwsNoSuch("52: a shorter one", () -> x.row(1));
    }
}
