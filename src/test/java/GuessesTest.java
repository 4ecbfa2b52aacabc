/** Promises 36 to 48: what he thought, who it was, chances, a cake, rests, rules, years. */
public final class GuessesTest {
    private static final Check CHECK = new Check();

    public static void main(String[] args) {
        saw();
        minds();
        looks();
        heard();
        fits();
        asks();
        grave();
        graveByTheRule();
        cake();
        rests();
        law();
        years();
        CHECK.close();
    }

    private static void saw() {
        ElderBallast x = Check.three();
        CHECK.due("36: w 10", x.saw(10, 0, 0), -1);
        CHECK.due("36: w -10", x.saw(-10, 0, 0), -1);
        CHECK.due("36: s 10", x.saw(0, 10, 0), -1);
        CHECK.due("36: s -1", x.saw(0, -1, 0), -1);
        CHECK.due("36: v 21", x.saw(0, 0, 21), -1);
        CHECK.due("36: v -21", x.saw(0, 0, -21), -1);
        CHECK.due("36: none of these", x.count(9), 0);
        for (int i = 1; i <= 10; i++) {
            CHECK.due("36: saw " + i, x.saw(-9, 9, -20), i);
        }
        CHECK.due("36: 11", x.saw(0, 0, 0), -1);
        CHECK.due("36: 10 are kept", x.count(9), 10);
        CHECK.due("37: denies", x.denies(), 10);
        CHECK.due("37: none", x.denies(), 0);
        CHECK.due("36: anew", x.saw(9, 9, 20), 1);
    }

    private static void minds() {
        ElderBallast x = Check.three();
        CHECK.due("38: nothing seen", x, x.minds(0), 63, 6, 1);
        x.saw(4, 5, 5);
        CHECK.due("38: 40 .. 47: prices up to 3", x, x.minds(0), 7, 3, 1);
        CHECK.due("38: in the middle", x, x.minds(2), 63, 6, 1);
        CHECK.due("38: 41 - t: only 40 and more", x, x.minds(1), 3, 2, 1);
        x.saw(0, 0, 0);
        CHECK.due("38: both", x, x.minds(0), 7, 3, 1);
        x.tells(0, 5);
        CHECK.due("38: his own is none", x, x.minds(0), 7, 3, 0);
        x.denies();
        x.saw(0, 0, 1);
        CHECK.due("38: 10 and 14 by 8 are 1, his own 18 is 2", x, x.minds(0), 24, 2, 0);
        x.saw(0, 0, 2);
        CHECK.due("38: none", x, x.minds(0), 0, 0, 0);
        CHECK.due("38: brother 3", x, x.minds(3), -1, 0, 0);
        CHECK.due("38: brother -1", x, x.minds(-1), -1, 0, 0);
        x = Check.with("00+5;00+5");
        Check.say(x, "k*8").rule();
        x.saw(0, 0, 10);
        CHECK.due("38: the other is weighed by his thought, too", x, x.minds(0), 1, 1, 1);
        x.denies();
        x.saw(0, 0, 0);
        CHECK.due("38: the other is weighed by his thought, too", x, x.minds(0), 62, 5, 0);
        x = Check.with("00+5");
        x.saw(-9, 9, -20);
        CHECK.due("38: -162 by 8 is -20, -157 is -19", x, x.minds(0), 1, 1, 1);
        x = Check.with("00-5");
        x.saw(-9, 9, -20);
        CHECK.due("38: put to -20", x, x.minds(0), 63, 6, 1);
    }

    private static void looks() {
        ElderBallast x = Check.three();
        x.saw(4, 5, 5);
        CHECK.due("39: looks", x, x.looks(0), 1, 2);
        x.saw(0, 0, 5);
        CHECK.due("39: none is left", x, x.looks(0), -2, 2);
        CHECK.due("39: brother 3", x, x.looks(3), -1, 2);
        CHECK.due("39: brother -1", x, x.looks(-1), -1, 2);
        x.denies();
        CHECK.due("39: in the middle all alike", x, x.looks(2), 0, 6);
        x = Check.with("00+5");
        Check.say(x, "i").rule();
        CHECK.due("39: no thought is weighed", x, x.looks(0), 0, 6);
        x = Check.with("00+5");
        Check.say(x, "024689").thoughts();
        CHECK.due("39: 0 10 20 30 40 45, by 0 wind or sail: 0 1 2 3 5 5", x, x.looks(0), 1, 1);
    }

    private static void heard() {
        ElderBallast x = Check.three();
        int[] most = {9, 5, 1, 5, 9};
        for (int what = 0; what < 5; what++) {
            CHECK.due("40: most v of " + what, x.heard(what, most[what]), 2 * what + 1);
            CHECK.due("40: more v of " + what, x.heard(what, most[what] + 1), -1);
            CHECK.due("40: least v of " + what, x.heard(what, 0), 2 * what + 2);
            CHECK.due("40: less v of " + what, x.heard(what, -1), -1);
        }
        CHECK.due("40: what 5", x.heard(5, 0), -1);
        CHECK.due("40: what -1", x.heard(-1, 0), -1);
        CHECK.due("40: eleven", x.heard(0, 0), 11);
        CHECK.due("40: twelve", x.heard(0, 0), 12);
        CHECK.due("40: thirteen", x.heard(0, 0), -1);
        CHECK.due("40: twelve are kept", x.count(10), 12);
        CHECK.due("41: forget", x.forget(), 12);
        CHECK.due("41: none", x.forget(), 0);
        CHECK.due("41: none", x.count(10), 0);
    }

    private static void fits() {
        int[][] heard = {{0, 3}, {0, 5}, {0, 0}, {1, 0}, {1, 1}, {1, 5}, {1, 4}, {2, 1}, {2, 0}, {3, 0}, {3, 1}, {3, 2}, {4, 6}, {4, 7}, {4, 0}};
        int[] due = {3, 2, 7, 1, 2, 4, 0, 1, 6, 4, 2, 1, 6, 4, 7};
        for (int i = 0; i < heard.length; i++) {
            ElderBallast x = Check.three();
            x.heard(heard[i][0], heard[i][1]);
            CHECK.due("42: " + heard[i][0] + " " + heard[i][1], x, x.fits(), due[i], Integer.bitCount(due[i]));
        }
        ElderBallast x = Check.three();
        CHECK.due("42: nothing heard", x, x.fits(), 7, 3);
        x.heard(0, 3);
        x.heard(2, 1);
        CHECK.due("42: both", x, x.fits(), 1, 1);
        x.moves(1, 3);
        CHECK.due("42: as it is now", x, x.fits(), 3, 2);
        x.forget();
        CHECK.due("42: forgotten", x, x.fits(), 7, 3);
        x = new ElderBallast();
        CHECK.due("42: without brothers", x, x.fits(), 0, 0);
    }

    private static void asks() {
        ElderBallast x = Check.three();
        CHECK.due("43: asks", x, x.asks(), 1, 2);
        x.heard(3, 5);
        CHECK.due("43: none fits", x, x.asks(), -2, 2);
        x.forget();
        x.heard(0, 3);
        CHECK.due("43: 3 or 5", x, x.asks(), 4, 1);
        x.heard(0, 4);
        CHECK.due("43: one is left", x, x.asks(), 0, 1);
        x = Check.with("50+1;50+1;50-1;50-1");
        CHECK.due("43: starboard or not", x, x.asks(), 20, 2);
        x = Check.with("50+1;50+1;50-3;50-3");
        CHECK.due("43: starboard ahead of how far", x, x.asks(), 20, 2);
        x = Check.with("50+1;50+1;50+3;50+3");
        CHECK.due("43: how far", x, x.asks(), 31, 2);
        x = Check.with("51+1;51+1;53+1;53+1");
        CHECK.due("43: the thought", x, x.asks(), 11, 2);
        x = Check.with("50+1;50+1;50+1;50+1");
        Check.say(x, "i").rule();
        CHECK.due("43: the weight", x, x.asks(), 42, 2);
        CHECK.due("43: without brothers", new ElderBallast().asks(), -2);
    }

    private static void grave() {
        ElderBallast x = Check.three();
        CHECK.due("44: no hours", x, x.grave(0, 5), 0, 0, 1);
        CHECK.due("44: pull is 11", x, x.grave(8, 10), 0, 0, 1);
        x.sails(9);
        CHECK.due("44: in the eighth hour", x, x.grave(8, 10), 0, 1, 1);
        CHECK.due("44: not in seven", x, x.grave(7, 10), 0, 0, 1);
        CHECK.due("44: either way", x, x.grave(8, 5), 0, 1, 128);
        CHECK.due("44: by 0 tenths to larboard", x, x.grave(8, 0), 0, 1, 1);
        CHECK.due("44: n 9", x, x.grave(9, 0), -1, 1, 1);
        CHECK.due("44: n -1", x, x.grave(-1, 0), -1, 1, 1);
        CHECK.due("44: p 11", x, x.grave(0, 11), -1, 1, 1);
        CHECK.due("44: p -1", x, x.grave(0, -1), -1, 1, 1);
        x.denies();
        Check.say(x, "+9").winds();
        x.hours(7);
        CHECK.due("44: one hour more, 3 tenths", x, x.grave(1, 3), 0, 3, 10);
        CHECK.due("44: two hours: 3 tenths; to 12 and back", x, x.grave(2, 3), 0, 3, 10);
        CHECK.due("44: three hours: 3 tenths, or 7 3 3 of 1000", x, x.grave(3, 3), 0, 363, 1000);
        CHECK.due("44: nothing changes", x.count(1), 7);
    }

    /** The rule sees lean and hour: she is over by 14 and 9 alone. */
    private static void graveByTheRule() {
        ElderBallast x = Check.with("00+5;00+5");
        Check.say(x, "l+n*3").rule();
        CHECK.due("44: sail 5, pull 11 and -11 at first", x, x.grave(1, 1), 0, 0, 1);
        x.hours(6);
        String before = Check.seenOf(x);
        x.grave(8, 10);
        CHECK.due("44: nothing changes", before.equals(Check.seenOf(x)), true);
    }

    private static void cake() {
        int[][] due = {{-2, 1, 1, 1, 1, 1, 1}, {10, 11, 12, 13, 14, 15, 16}, {10, 21, 11, 12, 23, 13, 24}};
        for (int a = 1; a <= 3; a++) {
            for (int b = 1; b <= 7; b++) {
                ElderBallast x = new ElderBallast();
                CHECK.due("45: cake " + a + " " + b, x.cake(a, b), due[a - 1][b - 1]);
            }
        }
        ElderBallast x = new ElderBallast();
        for (int i = 0; i < 3; i++) {
            CHECK.due("45: one behind another", x.cake(3, 7), 24);
            CHECK.due("45: one behind another", x.cake(1, 1), -2);
            CHECK.due("45: one behind another", x.cake(2, 2), 11);
        }
        CHECK.due("45: 0 rows", x.cake(0, 1), -1);
        CHECK.due("45: 4 rows", x.cake(4, 1), -1);
        CHECK.due("45: 0 pieces", x.cake(1, 0), -1);
        CHECK.due("45: 8 pieces", x.cake(1, 8), -1);
    }

    private static void rests() {
        ElderBallast x = new ElderBallast();
        CHECK.due("46: v 0", x, x.rests(0), 1, 0, 0);
        CHECK.due("46: v 1: 0 and 1, 1 and 0: each pays 3 of 9", x, x.rests(1), 2, 0, 1);
        CHECK.due("46: v 18: 0 and 0, 9 and 9", x, x.rests(18), 2, 0, 0);
        CHECK.due("46: v 2: 0 and 2, 1 and 1, 2 and 0", x, x.rests(2), 3, 0, 2);
        CHECK.due("46: v 7: 0 and 7 (7 pays 9 of 9), 1 and 6, .. 7 and 0, and 0 and 0", x, x.rests(7), 9, 0, 0);
        CHECK.due("46: v 8: 0 and 0, 1 and 7, .. 7 and 1", x, x.rests(8), 8, 0, 0);
        x.rests(2);
        CHECK.due("46: v 19", x, x.rests(19), -1, 0, 2);
        CHECK.due("46: v -1", x, x.rests(-1), -1, 0, 2);
    }

    private static void law() {
        ElderBallast x = Check.three();
        CHECK.due("47: no weight", x, Check.say(x, "0").law(), 0, 84, 84, 105, 105);
        CHECK.due("47: another", x, Check.say(x, "20*(p=2)").law(), -51, 33, 84, 110, 105);
        CHECK.due("47: a fault", x, Check.say(x, "g+").law(), -100002, 33, 84, 110, 105);
        CHECK.due("47: the rule stays", x.brother(0, 3), 3);
        CHECK.due("47: nothing changes", x.count(1), 0);
        Check.say(x, "20*(p=2)").rule();
        CHECK.due("47: none", x, Check.say(x, "").law(), 51, 84, 33, 105, 110);
        CHECK.due("47: the rule stays", x.brother(0, 3), 20);
        CHECK.due("47: 40 signs", Check.say(x, "10" + "+0".repeat(19)).law() > -100000, true);
        CHECK.due("47: 41 signs", Check.say(x, "g" + "+0".repeat(20)).law(), -100040);
        x.hours(3);
        int leagues = x.count(4);
        Check.say(x, "").law();
        CHECK.due("47: leagues more, not all", x.row(0) + leagues > 84 && x.row(0) < 84, true);
        Check.say(x, "g").law();
        Check.say(x, "x").rule();
        CHECK.due("47: the rule stays behind a refused one", x.brother(0, 3), 20);
    }

    /** By the draws of seed 1, told by long numbers. */
    private static void years() {
        ElderBallast x = Check.three();
        CHECK.due("48: n 0", x.years(1, 0), -1);
        CHECK.due("48: n 61", x.years(1, 61), -1);
        CHECK.due("48: nothing told", x.count(12), 0);
        for (int seed : new int[] {0, 1, -1, 77, 123456789, Integer.MIN_VALUE, Integer.MAX_VALUE}) {
            for (int n : new int[] {1, 2, 9, 60}) {
                ElderBallast as = Check.three();
                long[] r = {seed & 0xffffffffL};
                long overs = 0;
                for (int i = 0; i < n; i++) {
                    int d = draw(r, 4);
                    if (d < 2) {
                        as.hours(1);
                        overs += as.row(1);
                    } else if (d == 2) {
                        as.sails(draw(r, 10));
                    } else {
                        int b = draw(r, 3);
                        as.tells(b, draw(r, 6));
                    }
                }
                String before = Check.seenOf(x);
                CHECK.due("48: years " + seed + " " + n, x, x.years(seed, n), as.count(3), as.count(4), overs);
                CHECK.due("48: nothing changes", before.equals(Check.seenOf(x)), true);
            }
        }
        ElderBallast none = new ElderBallast();
        Check.say(none, "+5").winds();
        ElderBallast as = new ElderBallast();
        Check.say(as, "+5").winds();
        long[] r = {5};
        for (int i = 0; i < 40; i++) {
            int d = draw(r, 4);
            if (d < 2) {
                as.hours(1);
            } else if (d == 2) {
                as.sails(draw(r, 10));
            }
        }
        CHECK.due("48: without brothers", none, none.years(5, 40), as.count(3), as.count(4), 0);
    }

    private static int draw(long[] r, int n) {
        r[0] = (r[0] * 1103515245L + 12345L) % 4294967296L;
        return (int) (r[0] / 65536 % n);
    }
}
