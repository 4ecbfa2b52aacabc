import java.util.List;

/** Edges of promises 19 to 35: how she lies, so that she stands, brothers by sides. */
final class QuestionEdges {
    private static final int MIN = Integer.MIN_VALUE;
    private static final int MAX = Integer.MAX_VALUE;

    private QuestionEdges() {
    }

    static void all(Edges e) {
        moment(e);
        later(e);
        over(e);
        when(e);
        rolls(e);
        steady(e);
        makes(e);
        steps(e);
        best(e);
        trims(e);
        frees(e);
        bears(e);
        partiesAndJust(e);
        swaps(e);
        lineAndApart(e);
    }

    private static ElderBallast in(String winds) {
        ElderBallast x = new ElderBallast();
        Check.say(x, winds).winds();
        return x;
    }

    private static ElderBallast by(String brothers, String rule) {
        ElderBallast x = Check.with(brothers);
        Check.say(x, rule).rule();
        return x;
    }

    /** Pull is lean, but 1 more where the hour by 7 is 6: she leans 15 behind 105 hours. */
    private static ElderBallast slow(int hours) {
        return slowTo("+", hours);
    }

    private static ElderBallast slowTo(String side, int hours) {
        ElderBallast x = by("00@5;00@3".replace("@", side), "l+(n=6)");
        for (int i = 0; i < hours; i++) {
            x.hours(1);
        }
        return x;
    }

    private static void moment(Edges e) {
        e.edge(19, "1000 and MOMENT now; the ROW: 100 and PULL, WEIGHT times PLACE of those to starboard (PLACE above 0), to larboard (without its sign)", c -> {
            ElderBallast x = new ElderBallast();
            c.due("without brothers", x, x.moment(), 1000, 100, 0, 0);
            x = Check.with("90+0;10+1;10-1");
            c.due("in the middle none", x, x.moment(), 1000, 100, 1, 1);
            x = by("00-5;00-5;00-5;00-5;00-5;00-5;00-5", "20");
            Check.say(x, "-9").winds();
            x.sails(9);
            c.due("the least", x, x.moment(), 1000 - 862, 80, 0, 700);
            x = by("00+5;00+5;00+5;00+5;00+5;00+5;00+5", "20");
            Check.say(x, "+9").winds();
            x.sails(9);
            c.due("the greatest", x, x.moment(), 1862, 120, 700, 0);
        });
    }

    private static void later(Edges e) {
        e.edge(20, "100 and LEAN in n HOURS (0 .. 99)", c -> {
            ElderBallast x = slow(6);
            c.due("in none", x, x.later(0), 100, 0, 5);
            c.due("in one", x, x.later(1), 101, 0, 5);
            c.due("in 98", x, x.later(98), 114, 0, 5);
            c.due("in 99", x, x.later(99), 115, 0, 0);
        });
        e.edge(20, "LEAGUES more till then (as they grow), SAIL then", c -> {
            ElderBallast x = farOff();
            c.due("far off", x, x.later(99), 102, 459, 9);
            x.hours(60);
            c.due("none more", x, x.later(99), 102, 0, 9);
        });
        e.refused(20, "NONE: another n", -1, List.of(x -> x.later(-1), x -> x.later(100), x -> x.later(MIN), x -> x.later(MAX)));
    }

    /** 9540 leagues; 53 more in each two hours. */
    private static ElderBallast farOff() {
        ElderBallast x = in("+9-9");
        x.sails(9);
        for (int i = 0; i < 6; i++) {
            x.hours(60);
        }
        return x;
    }

    private static void over(Edges e) {
        e.edge(21, "In how many HOURS (1 .. 99) she is OVER first: how many; the ROW: 100 and LEAN then", c -> {
            ElderBallast x = slow(6);
            c.due("in 99", x, x.over(), 99, 115);
            x = slowTo("-", 6);
            c.due("in 99, to larboard", x, x.over(), 99, 85);
            x = slow(104);
            c.due("in one", x, x.over(), 1, 115);
            x = slow(105);
            c.due("she is now, and in one", x, x.over(), 1, 115);
            x = by("00+5;00+5;00+5;00+5", "20");
            x.hours(12);
            Check.say(x, "0").rule();
            c.due("20 and 18, 16, 14", x, x.over(), 1, 118);
            x.hours(2);
            x.moment();
            c.due("16 and 14", x, x.over(), -2, 100, 0, 0);
        });
        e.edge(21, "-2: in none of these", c -> {
            ElderBallast x = slow(5);
            x.moment();
            c.due("in 100", x, x.over(), -2, 100, 0, 0);
            c.due("without brothers", new ElderBallast().over(), -2);
        });
    }

    private static void when(Edges e) {
        e.edge(22, "In how many HOURS (0 .. 99) LEAN is v (-20 .. 20) first: how many; the ROW: in how many of these 100", c -> {
            ElderBallast x = slow(6);
            c.due("now", x, x.when(0), 0, 1);
            c.due("seven hours each", x, x.when(1), 1, 7);
            c.due("in 99", x, x.when(15), 99, 1);
            ElderBallast still = new ElderBallast();
            c.due("all of these", still, still.when(0), 0, 100);
            for (String place : new String[] {"+", "-"}) {
                ElderBallast far = by("00@5;00@5".replace("@", place), "20");
                c.due("farthest", far, far.when(place.equals("+") ? 20 : -20), 12, 88);
            }
        });
        e.edge(22, "-2: in none", c -> {
            ElderBallast x = slow(5);
            x.moment();
            c.due("in 100", x, x.when(15), -2, 100, 0, 0);
            c.due("the other side", x, x.when(-1), -2, 100, 0, 0);
            c.due("20", x, x.when(20), -2, 100, 0, 0);
            c.due("-20", x, x.when(-20), -2, 100, 0, 0);
        });
        e.refused(22, "NONE: another v", -1, List.of(x -> x.when(-21), x -> x.when(21), x -> x.when(MIN), x -> x.when(MAX)));
    }

    private static void rolls(Edges e) {
        e.edge(23, "The greatest LEAN behind 0, 1, .. n HOURS (0 .. 99): 100 and it; the ROW: behind how many first, 100 and the least one, behind how many first", c -> {
            ElderBallast x = slow(6);
            c.due("now", x, x.rolls(0), 100, 0, 100, 0);
            c.due("one", x, x.rolls(1), 101, 1, 100, 0);
            c.due("98", x, x.rolls(98), 114, 92, 100, 0);
            c.due("99", x, x.rolls(99), 115, 99, 100, 0);
            x = slowTo("-", 6);
            c.due("to larboard", x, x.rolls(99), 100, 0, 85, 99);
            x = in("-9+9+9-9");
            c.due("-2 0 2 0 -2 0 2 0: the first of as great ones", x, x.rolls(8), 102, 3, 98, 1);
            c.due("-2 0", x, x.rolls(2), 100, 0, 98, 1);
            x.hours(1);
            c.due("-2 now", x, x.rolls(5), 102, 2, 98, 0);
        });
        e.refused(23, "NONE: another n", -1, List.of(x -> x.rolls(-1), x -> x.rolls(100), x -> x.rolls(MIN), x -> x.rolls(MAX)));
    }

    private static void steady(Edges e) {
        e.edge(24, "The longest run of HOURS, one behind the other, of the next n (1 .. 99), behind each of which LEAN's size is v (0 .. 20) or less: how long", c -> {
            ElderBallast x = slow(6);
            c.due("one hour, lean 1", x, x.steady(1, 0), 0, 0);
            c.due("one hour, lean 1", x, x.steady(1, 1), 1, 1);
            c.due("98 hours to 14", x, x.steady(98, 14), 98, 1);
            c.due("99 hours, the last at 15", x, x.steady(99, 14), 98, 1);
            c.due("99 hours to 15", x, x.steady(99, 15), 99, 1);
            x = slowTo("-", 6);
            c.due("the size", x, x.steady(99, 14), 98, 1);
            x = by("00+5;00+5", "20");
            c.due("20", x, x.steady(99, 20), 99, 1);
            c.due("19", x, x.steady(99, 19), 11, 1);
        });
        e.edge(24, "the ROW: the first of it (1 ..; of as long ones the first; 0 without)", c -> {
            ElderBallast x = in("+9-9");
            c.due("2 0 2 0: hours 2, 4", x, x.steady(4, 0), 1, 2);
            c.due("2: without", x, x.steady(1, 0), 0, 0);
            x = in("+9-9-9-9+9+9");
            c.due("2 0 -2 -4 -2 0 2 0 -2: three and five", x, x.steady(8, 2), 4, 5);
            c.due("three and three", x, x.steady(7, 2), 3, 1);
            c.due("three and two", x, x.steady(6, 2), 3, 1);
        });
        e.refused(24, "NONE: others", -1, List.of(x -> x.steady(0, 5), x -> x.steady(100, 5), x -> x.steady(5, -1), x -> x.steady(5, 21),
                x -> x.steady(-1, 5), x -> x.steady(MIN, 5), x -> x.steady(MAX, 5), x -> x.steady(5, MIN), x -> x.steady(5, MAX)));
    }

    private static void makes(Edges e) {
        e.edge(25, "Behind how many HOURS (0: it is .. 99) LEAGUES are v (0 .. 9999) or more first: how many; the ROW: LEAGUES, SAIL then", c -> {
            ElderBallast x = in("+1");
            x.sails(3);
            c.due("it is", x, x.makes(0), 0, 0, 3);
            c.due("in one", x, x.makes(1), 1, 1, 3);
            c.due("in 99", x, x.makes(99), 99, 99, 3);
            x.hours(1);
            c.due("it is", x, x.makes(1), 0, 1, 3);
            c.due("in 99", x, x.makes(100), 99, 100, 3);
            x = farOff();
            c.due("9540 now", x, x.makes(9540), 0, 9540, 9);
            c.due("more than asked", x, x.makes(9541), 1, 9566, 9);
            c.due("the most", x, x.makes(9999), 18, 9999, 9);
            x.hours(60);
            c.due("the most, it is", x, x.makes(9999), 0, 9999, 9);
            x = by("00+5;00+5", "20");
            Check.say(x, "+9").winds();
            c.due("over in the hour: the sail then", x, x.makes(84), 8, 84, 0);
        });
        e.edge(25, "-2: behind none of these", c -> {
            ElderBallast x = in("+1");
            x.sails(3);
            x.moment();
            c.due("in 100", x, x.makes(100), -2, 100, 0, 0);
            c.due("never", x, x.makes(9999), -2, 100, 0, 0);
        });
        e.refused(25, "NONE: another v", -1, List.of(x -> x.makes(-1), x -> x.makes(10000), x -> x.makes(MIN), x -> x.makes(MAX)));
    }

    private static void steps(Edges e) {
        e.edge(26, "The fewest BROTHERS (0 .. 2) who are to be told another THOUGHT so that PULL's size is v (0 .. 20) or less now: how many; "
                + "the ROW: each by 10 times his number and the THOUGHT, rising (of as few the least row)", c -> {
            ElderBallast x = Check.with("05+2;05+2;05+2");
            c.due("54: pull 6, none", x, x.steps(6), 0);
            c.due("36, 38: pull 4, one", x, x.steps(4), 1, 0);
            c.due("two: 18: pull 2", x, x.steps(2), 2, 0, 10);
            c.due("20: all", x, x.steps(20), 0);
            x = Check.with("05-2;05-2;05-2");
            c.due("-54: the size", x, x.steps(5), 1, 0);
            c.due("-18: the size", x, x.steps(2), 2, 0, 10);
            x = Check.with("00+5;00+5;05-5;05-5");
            c.due("the least row, not the least sum: -90 + 15 + 45", x, x.steps(4), 2, 2, 15);
            x = Check.with("00+0;00+0;00+0;00+0;00+0;05+5;05+5");
            c.due("90: the last two", x, x.steps(0), 2, 50, 60);
            c.due("90: but 5, one", x, x.steps(5), 1, 50);
            x = by("00+4;00+4;01-1", "k*5");
            c.due("who thought alike is weighed anew", x, x.steps(0), 1, 2);
            x = Check.with("00+5;05+5;05+5");
            c.due("90: the last two, the first as he is", x, x.steps(0), 2, 10, 20);
            for (String side : new String[] {"+", "-"}) {
                x = by("90@2;05@1".replace("@", side), "g+t*i");
                Check.say(x, "555559").thoughts();
                c.due("18 and 5: 23 by 8 is 2", x, x.steps(2), 1, 10);
                Check.say(x, "666669").thoughts();
                c.due("18 and 6: 24 by 8 is 3", x.steps(2), -2);
            }
        });
        e.edge(26, "-2: by no two", c -> {
            ElderBallast x = Check.with("05+2;05+2;05+2");
            x.moment();
            c.due("three were needed", x, x.steps(1), -2, 106, 54, 0);
            x = Check.with("95+5");
            x.moment();
            c.due("there is but one: 45 at least", x, x.steps(4), -2, 111, 90, 0);
            c.due("there is but one", x, x.steps(5), 1, 0);
            x = in("+9");
            x.moment();
            c.due("there is none", x, x.steps(10), -2, 111, 0, 0);
            c.due("there is none, none is needed", x, x.steps(11), 0);
            x = Check.with("05+5;".repeat(6) + "05+5");
            c.due("seven: 225 by two", x.steps(0), -2);
            c.due("seven: 225 by two is put to 20", x, x.steps(20), 0);
            x = Check.with("90+5;00+0");
            c.due("two: 45 at least", x.steps(4), -2);
            c.due("two: 45", x.steps(5), 0);
        });
        e.refused(26, "NONE: another v", -1, List.of(x -> x.steps(-1), x -> x.steps(21), x -> x.steps(MIN), x -> x.steps(MAX)));
    }

    private static void best(Edges e) {
        e.edge(27, "The SAIL (0 .. 9) to be set now by which LEAGUES are the most in n HOURS (1 .. 60): of equal ones the least: it", c -> {
            ElderBallast x = in("+0");
            c.due("no wind: 0", x, x.best(60), 0, 0, 0);
            x = in("+1");
            c.due("9 by 3", x, x.best(1), 9, 3, 1);
            x = in("+2");
            c.due("18 by 3 less 2 by 2", x, x.best(1), 9, 6, 3);
            x = in("+0+0+0+0+0+0+0+0+0+0+0+0+0+0+0+0+0+0+0+1");
            c.due("in 19 hours none", x, x.best(19), 0, 0, 0);
            c.due("in 20 hours one", x, x.best(20), 9, 3, 1);
            c.due("in 60 hours three", x, x.best(60), 9, 9, 3);
            x = Check.with("95+3;95+2;70+0");
            Check.say(x, "+5").winds();
            int most = -1;
            int chosen = 0;
            for (int sail = 0; sail < 10; sail++) {
                x.sails(sail);
                x.hours(60);
                if (x.row(0) > most) {
                    most = (int) x.row(0);
                    chosen = sail;
                }
                x.undo();
                x.undo();
            }
            c.due("by hours of each", x.best(60), chosen);
        });
        e.edge(27, "how many more they are (as they grow), how many by SAIL as it is", c -> {
            ElderBallast x = farOff();
            c.due("459 or more by 3 .. 9, all cut at 9999", x.best(60), 3);
            c.due("459", x.row(0), 459);
            c.due("459 as it is", x.row(1), 459);
            x.hours(60);
            c.due("none more: the least", x, x.best(60), 0, 0, 0);
            x = in("+1");
            x.sails(0);
            c.due("by no sail as it is", x, x.best(1), 9, 3, 0);
        });
        e.refused(27, "NONE: another n", -1, List.of(x -> x.best(0), x -> x.best(61), x -> x.best(-1), x -> x.best(MIN), x -> x.best(MAX)));
    }

    private static void trims(Edges e) {
        e.edge(28, "The PLACE where a BROTHER is to be so that PULL's size is the least now: 10 and it, of equal ones the least; the ROW: 100 and PULL then", c -> {
            ElderBallast x = Check.with("10+0;".repeat(6) + "00+5");
            c.due("weighs nothing: -5", x, x.trims(6), 5, 100);
            x = in("+9");
            x.sails(9);
            Check.say(x, "90+0").brothers();
            c.due("162: as far to larboard as can be", x, x.trims(0), 5, 114);
            x = in("-9");
            x.sails(9);
            Check.say(x, "90+0").brothers();
            c.due("-162: as far to starboard as can be", x, x.trims(0), 15, 86);
            x = by("50+1", "p*4");
            Check.say(x, "+8").winds();
            c.due("80 - 100 and 80 - 64: -5 ahead of -4", x, x.trims(0), 5, 98);
            x = by("50+1;50+1", "20");
            Check.say(x, "+9").winds();
            x.sails(9);
            c.due("182 - 100: put to 20 but for -5 .. -2", x, x.trims(1), 5, 110);
            x = by("00+0;00+5;00+5;00+5;00+5", "20");
            c.due("300 .. 500, all put to 20", x, x.trims(0), 5, 120);
            x = by("00+0;00-5;00-5;00-5;00-5", "20");
            c.due("-500 .. -300, all put to -20", x, x.trims(0), 5, 80);
        });
        e.refused(28, "NONE: none such", -1, List.of(x -> x.trims(-1), x -> x.trims(4), x -> x.trims(7), x -> x.trims(MIN), x -> x.trims(MAX)));
    }

    private static void frees(Edges e) {
        e.edge(29, "The BROTHER who is to be set free (his WEIGHT is 0, all else as it is) so that PULL's size is the least now: of equal ones the first: he", c -> {
            ElderBallast x = Check.with("90+0;90+5;90+5;90-5");
            c.due("the first of two", x, x.frees(), 1, 100, 105);
            x = Check.with("10+0;".repeat(6) + "90+5");
            c.due("the last of seven", x, x.frees(), 6, 100, 105);
            x = Check.with("10+0;90-4;80+2");
            c.due("-20 and 16: the first", x, x.frees(), 0, 98, 98);
            x = by("00+4;00+4;03-4", "k*8+8");
            c.due("the others weigh as they did", x, x.frees(), 0, 104, 112);
            x = Check.with("90-3");
            c.due("the only one", x, x.frees(), 0, 100, 97);
            x = by("00+5;00+5;00+5", "20");
            Check.say(x, "+9").winds();
            c.due("300 and 90, put to 20: the first", x, x.frees(), 0, 120, 120);
            x = by("00-5;00-5;00-5", "20");
            c.due("-300 and -200, put to -20: the first", x, x.frees(), 0, 80, 80);
            x = Check.with("00+0;70+1;70+1");
            c.due("14 and 7", x, x.frees(), 1, 100, 101);
        });
        e.edge(29, "-2: there are none", c -> {
            ElderBallast x = in("+9");
            x.moment();
            c.due("none", x, x.frees(), -2, 111, 0, 0);
        });
    }

    private static void bears(Edges e) {
        e.edge(30, "The greatest WIND (0 .. 9, to starboard, in place of that of this HOUR) by which PULL is below 15: it; the ROW: 100 and PULL by it, 100 and PULL by a WIND of 9", c -> {
            ElderBallast x = in("-9");
            c.due("9: 90", x, x.bears(), 9, 111, 111);
            x.sails(7);
            c.due("112 by 8, 126 by 9", x, x.bears(), 8, 114, 115);
            x = in("+9");
            x.sails(6);
            c.due("108 by 9", x, x.bears(), 9, 113, 113);
            x = Check.with("90+5;90+5;90+3;20+1");
            c.due("119 by 0: pull 14", x, x.bears(), 0, 114, 120);
            x.sails(0);
            c.due("no sail: 9", x, x.bears(), 9, 114, 114);
            x = by("00-5;00-5;00-5", "20");
            c.due("far to larboard: 9", x, x.bears(), 9, 80, 80);
        });
        e.edge(30, "-2: not even by 0", c -> {
            ElderBallast x = Check.with("90+5;90+5;90+3;30+1");
            x.moment();
            c.due("120 by 0: pull 15", x, x.bears(), -2, 115, 120, 0);
            Check.say(x, "-9").winds();
            c.due("by 0, whatever the wind is", x, x.bears(), -2, 115, 120, 0);
        });
    }

    private static void partiesAndJust(Edges e) {
        e.edge(31, "BROTHERS are parted in two so that WEIGHTS of both parts differ the least: by how much; the ROW: one part (bits: of as good ones the least), WEIGHT of it", c -> {
            ElderBallast x = new ElderBallast();
            c.due("none", x, x.parties(), 0, 0, 0);
            x = Check.with("50+0");
            c.due("one", x, x.parties(), 5, 0, 0);
            x = Check.with("50+0;50+0");
            c.due("two alike", x, x.parties(), 0, 1, 5);
            x = Check.with("00+0;00+0;00+0");
            c.due("weights 0", x, x.parties(), 0, 0, 0);
            x = Check.with("30+0;00+0");
            c.due("0 and 3", x, x.parties(), 3, 0, 0);
            x = by("00+0;".repeat(6) + "00+0", "20");
            c.due("seven of 20: three of them", x, x.parties(), 20, 7, 60);
            x = Check.with("10+0;10+0;10+0;10+0;10+0;10+0;60+0");
            c.due("six and one", x, x.parties(), 0, 63, 6);
        });
        e.edge(32, "The fewest BROTHERS whose WEIGHTS together are just v (0 .. 140): how many; the ROW: they (bits: of as few the least), how many sets there are", c -> {
            ElderBallast x = new ElderBallast();
            c.due("0 of none", x, x.just(0), 0, 0, 1);
            x = Check.with("30+0;30+0;00+0;60+0");
            c.due("6: one", x, x.just(6), 1, 8, 4);
            c.due("3: the first", x, x.just(3), 1, 1, 4);
            c.due("0: none of them", x, x.just(0), 0, 0, 2);
            c.due("12: all but one", x, x.just(12), 3, 11, 2);
            x = by("00+0;".repeat(6) + "00+0", "20");
            c.due("140", x, x.just(140), 7, 127, 1);
            c.due("120", x, x.just(120), 6, 63, 7);
        });
        e.edge(32, "-2: none", c -> {
            ElderBallast x = Check.with("30+0;30+0;00+0;60+0");
            x.moment();
            c.due("1", x, x.just(1), -2, 100, 0, 0);
            c.due("13", x, x.just(13), -2, 100, 0, 0);
            c.due("140", x, x.just(140), -2, 100, 0, 0);
            c.due("1 without brothers", new ElderBallast().just(1), -2);
        });
        e.refused(32, "NONE: another v", -1, List.of(x -> x.just(-1), x -> x.just(141), x -> x.just(MIN), x -> x.just(MAX)));
    }

    private static void swaps(Edges e) {
        e.edge(33, "The two BROTHERS who are to change PLACES so that PULL's size is the least now: the lesser and the greater number, 10 times the first and the second; "
                + "the ROW: 100 and PULL then (of as good ones the least pair)", c -> {
            ElderBallast x = Check.with("10+0;10+0;10+0");
            c.due("all as good: 0 and 1", x, x.swaps(), 1, 100);
            x = Check.with("10+5;90+5");
            c.due("two alone, nothing gained", x, x.swaps(), 1, 106);
            x = Check.with("00+0;00+0;00+0;00+0;00+0;20+5;90-5");
            c.due("-35: the last to the middle, 0 in his place", x, x.swaps(), 6, 101);
            x = Check.with("90+5;90+5;90+5;90+5;90+5;90+5;00-5");
            c.due("270, and 180: put to 20, the first", x, x.swaps(), 1, 120);
            x = Check.with("90-5;90-5;90-5;90-5;90-5;90-5;00+5");
            c.due("-270, and -180: put to -20, the first", x, x.swaps(), 1, 80);
            x = Check.with("00+5;90+5;50-4");
            c.due("25, 70 and -11: the last two", x, x.swaps(), 12, 99);
            x = Check.with("00+5;00+5;00+5;00+5;00+5;90+5;50-4");
            c.due("the last two of seven", x, x.swaps(), 56, 99);
            x = Check.with("00+0;20-5;90-4;80+5");
            c.due("-10 - 36 + 40: pull 0, as 0 and 1, ..", x, x.swaps(), 1, 100);
            x = by("00+5;05+1", "p*t");
            c.due("weighed at their new places", x, x.swaps(), 1, 112);
        });
        e.edge(33, "-2: there are not two", c -> {
            ElderBallast x = Check.with("90+5");
            x.moment();
            c.due("one", x, x.swaps(), -2, 105, 45, 0);
            x = in("+9");
            x.moment();
            c.due("none", x, x.swaps(), -2, 111, 0, 0);
        });
    }

    private static void lineAndApart(Edges e) {
        e.edge(34, "BROTHERS from the heaviest on (of like ones by their numbers): how many; the ROW: they", c -> {
            ElderBallast x = Check.with("90+0");
            x.moment();
            c.due("one", x, x.line(), 1, 0);
            x = new ElderBallast();
            x.moment();
            c.due("none", x, x.line(), 0);
            x = Check.with("10+0;20+0;10+0;20+0;00+0;30+0;20+0");
            c.due("seven", x, x.line(), 7, 5, 1, 3, 6, 0, 2, 4);
            x = by("10+0;20+0;30+0", "21+g");
            c.due("all put to 20", x, x.line(), 3, 0, 1, 2);
        });
        e.edge(35, "The most BROTHERS of whom no two have one THOUGHT, and no two one PLACE: how many; the ROW: they (bits: of as many the least)", c -> {
            ElderBallast x = new ElderBallast();
            c.due("none", x, x.apart(), 0, 0);
            x = Check.with("10+0");
            c.due("one", x, x.apart(), 1, 1);
            x = Check.with("10+0;11+0");
            c.due("one place", x, x.apart(), 1, 1);
            x = Check.with("10+0;10+1");
            c.due("one thought", x, x.apart(), 1, 1);
            x = Check.with("10-5;11+5");
            c.due("as far, not one place", x, x.apart(), 2, 3);
            x = Check.with("10-5;11-4;12-3;13+0;14+4;15+5;15+1");
            c.due("six of seven: there are six thoughts", x, x.apart(), 6, 63);
            x = Check.with("10+0;11+0;10+1;11+1");
            c.due("1 and 2, not 0 and 3", x, x.apart(), 2, 6);
        });
    }
}
