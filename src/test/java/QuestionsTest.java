/** Promises 19 to 35: how she lies, so that she stands, brothers by sides. */
public final class QuestionsTest {
    private static final Check CHECK = new Check();

    public static void main(String[] args) {
        moment();
        later();
        over();
        when();
        rolls();
        steady();
        makes();
        steps();
        stepsThatTouchOthers();
        best();
        trims();
        frees();
        bears();
        parties();
        just();
        swaps();
        line();
        apart();
        asFarAsCanBeSeen();
        CHECK.close();
    }

    /** Pull is 20: she leans 2, 4, .. 16, 17, .. 20, and goes over in hour 8. */
    private static ElderBallast falling() {
        ElderBallast x = Check.with("90+5;90+5;90+5");
        Check.say(x, "20").rule();
        Check.say(x, "+9").winds();
        x.sails(9);
        return x;
    }

    private static ElderBallast in(String winds) {
        ElderBallast x = new ElderBallast();
        Check.say(x, winds).winds();
        return x;
    }

    private static void moment() {
        ElderBallast x = new ElderBallast();
        CHECK.due("19: none", x, x.moment(), 1000, 100, 0, 0);
        x = Check.three();
        CHECK.due("19: moment", x, x.moment(), 1040, 105, 6, 6);
        x = Check.with("30-2;51-1;05+5");
        Check.say(x, "-4").winds();
        CHECK.due("19: cut to 0", x, x.moment(), 1000 - 6 - 6 + 45 - 40, 100, 45, 12);
        x = Check.with("95-5;95-5;95-5;95-5;95-5;95-5;95-5");
        Check.say(x, "20").rule();
        Check.say(x, "-9").winds();
        x.sails(9);
        CHECK.due("19: the least", x, x.moment(), 1000 - 700 - 162, 80, 0, 700);
        x = Check.with("70-1");
        CHECK.due("19: -7 by 8", x, x.moment(), 993, 100, 0, 7);
        x = Check.with("70+0;81+1");
        CHECK.due("19: 9 by 8, none of the middle", x, x.moment(), 1009, 101, 9, 0);
    }

    private static void later() {
        ElderBallast x = Check.three();
        CHECK.due("20: later", x, x.later(3), 103, 16, 5);
        CHECK.due("20: now", x, x.later(0), 100, 0, 5);
        CHECK.due("20: 100", x, x.later(100), -1, 0, 5);
        CHECK.due("20: -1", x, x.later(-1), -1, 0, 5);
        CHECK.due("20: far", x, x.later(99), 105, 6 + 5 + 5 + 96 * 4, 5);
        x = falling();
        CHECK.due("20: sail then", x, x.later(8), 116, 180, 0);
        CHECK.due("20: sail then", x, x.later(99), 120, 180, 0);
        CHECK.due("20: nothing changes", x.count(2), 9);
    }

    private static void over() {
        ElderBallast x = falling();
        CHECK.due("21: over", x, x.over(), 8, 116);
        x.hours(7);
        CHECK.due("21: over", x, x.over(), 1, 116);
        x.hours(1);
        CHECK.due("21: over again", x, x.over(), 1, 117);
        x = Check.three();
        x.moment();
        CHECK.due("21: never", x, x.over(), -2, 105, 6, 6);
        x = Check.with("90-5;90-5;90-5");
        Check.say(x, "8").rule();
        CHECK.due("21: to larboard", x, x.over(), 10, 85);
    }

    private static void when() {
        ElderBallast x = Check.three();
        CHECK.due("22: when", x, x.when(5), 5, 95);
        CHECK.due("22: now", x, x.when(0), 0, 1);
        CHECK.due("22: never", x, x.when(-1), -2, 1);
        CHECK.due("22: 21", x, x.when(21), -1, 1);
        CHECK.due("22: -21", x, x.when(-21), -1, 1);
        CHECK.due("22: 20", x, x.when(20), -2, 1);
        x = in("+9-9");
        CHECK.due("22: to and fro", x, x.when(2), 1, 50);
        CHECK.due("22: to and fro", x, x.when(0), 0, 50);
    }

    private static void rolls() {
        ElderBallast x = Check.three();
        CHECK.due("23: rolls", x, x.rolls(3), 103, 3, 100, 0);
        CHECK.due("23: far", x, x.rolls(99), 105, 5, 100, 0);
        CHECK.due("23: now", x, x.rolls(0), 100, 0, 100, 0);
        CHECK.due("23: 100", x, x.rolls(100), -1, 0, 100, 0);
        CHECK.due("23: -1", x, x.rolls(-1), -1, 0, 100, 0);
        x = in("-9+9+9");
        CHECK.due("23: to and fro", x, x.rolls(3), 102, 3, 98, 1);
        CHECK.due("23: to and fro", x, x.rolls(2), 100, 0, 98, 1);
    }

    private static void steady() {
        ElderBallast x = Check.three();
        CHECK.due("24: steady", x, x.steady(4, 2), 2, 1);
        CHECK.due("24: all", x, x.steady(99, 5), 99, 1);
        CHECK.due("24: none", x, x.steady(4, 0), 0, 0);
        CHECK.due("24: n 0", x, x.steady(0, 0), -1, 0);
        CHECK.due("24: n 100", x, x.steady(100, 0), -1, 0);
        CHECK.due("24: v 21", x, x.steady(5, 21), -1, 0);
        CHECK.due("24: v -1", x, x.steady(5, -1), -1, 0);
        x = in("+9-9");
        CHECK.due("24: of as long ones the first", x, x.steady(9, 0), 1, 2);
        CHECK.due("24: the size", x, x.steady(9, 2), 9, 1);
        x = in("+9-9-9-9+9+9");
        CHECK.due("24: leans 2 0 -2 -4 -2 0: a run behind another", x, x.steady(6, 2), 3, 1);
        CHECK.due("24: leans 2 0 -2 -4 -2 0 2: the longer one", x, x.steady(9, 2), 5, 5);
    }

    private static void makes() {
        ElderBallast x = Check.three();
        CHECK.due("25: makes", x, x.makes(16), 3, 16, 5);
        CHECK.due("25: more than asked", x, x.makes(12), 3, 16, 5);
        CHECK.due("25: now", x, x.makes(0), 0, 0, 5);
        CHECK.due("25: never", x, x.makes(9999), -2, 0, 5);
        CHECK.due("25: 10000", x, x.makes(10000), -1, 0, 5);
        CHECK.due("25: -1", x, x.makes(-1), -1, 0, 5);
        x.hours(3);
        CHECK.due("25: it is", x, x.makes(16), 0, 16, 5);
        CHECK.due("25: all leagues", x, x.makes(17), 1, 20, 5);
        x = falling();
        CHECK.due("25: sail then", x, x.makes(180), 8, 180, 0);
        CHECK.due("25: no more", x.makes(181), -2);
    }

    private static void steps() {
        ElderBallast x = Check.three();
        CHECK.due("26: none needed", x, x.steps(5), 0);
        CHECK.due("26: one", x, x.steps(4), 1, 12);
        x.moment();
        CHECK.due("26: 21", x, x.steps(21), -1, 105, 6, 6);
        CHECK.due("26: -1", x, x.steps(-1), -1, 105, 6, 6);
        CHECK.due("26: by no two", x, x.steps(0), -2, 105, 6, 6);
        x = Check.with("00+5;00-5;00+1");
        CHECK.due("26: she stands", x, x.steps(0), 0);
        x = Check.with("05+2;05+2;05+2");
        CHECK.due("26: 54, pull 6; one to 0: 36, pull 4", x, x.steps(4), 1, 0);
        CHECK.due("26: one to 3: 46, pull 5", x, x.steps(5), 1, 0);
        CHECK.due("26: two to 0: 18, pull 2", x, x.steps(2), 2, 0, 10);
        CHECK.due("26: two to 0 and 1: 20; 0 and 2: 24, pull 3", x, x.steps(3), 2, 0, 10);
        CHECK.due("26: by no two", x.steps(1), -2);
        x = Check.with("00+1;05+5;05+5");
        CHECK.due("26: 90, pull 11; the least row", x, x.steps(6), 1, 10);
        CHECK.due("26: 2 times 35, less than 72", x, x.steps(8), 1, 10);
        x = new ElderBallast();
        Check.say(x, "+9").winds();
        CHECK.due("26: without brothers", x.steps(10), -2);
        CHECK.due("26: without brothers", x, x.steps(11), 0);
    }

    /** By k alone: what one is told is weighed by those who thought as he did, or do so then. */
    private static void stepsThatTouchOthers() {
        ElderBallast x = Check.with("00+4;00+4;01-1");
        Check.say(x, "k*5").rule();
        CHECK.due("26: 5 and 5 at 4: pull 5", x.moment(), 1040);
        CHECK.due("26: one told 1: 0 and 5 at 4, 5 at -1: 15, pull 1", x, x.steps(1), 1, 1);
        CHECK.due("26: one told 2: none is like another", x, x.steps(0), 1, 2);
        x = Check.with("00+4;00+4;00+4");
        Check.say(x, "k*5").rule();
        CHECK.due("26: pull 15", x.moment(), 1120);
        CHECK.due("26: one other: 5 and 5 are left", x, x.steps(5), 1, 1);
        CHECK.due("26: all differ: 1 and 2", x, x.steps(0), 2, 1, 12);
    }

    private static void best() {
        ElderBallast x = Check.three();
        CHECK.due("27: best", x, x.best(3), 9, 31, 16);
        CHECK.due("27: 61", x, x.best(61), -1, 31, 16);
        CHECK.due("27: 0", x, x.best(0), -1, 31, 16);
        x = new ElderBallast();
        CHECK.due("27: no wind, the least", x, x.best(60), 0, 0, 0);
        Check.say(x, "+1").winds();
        CHECK.due("27: 9 by 3 is 3, 5 by 3 is 1", x, x.best(1), 9, 3, 1);
        x.sails(9);
        CHECK.due("27: nothing changes", x.count(2), 9);
        x = falling();
        CHECK.due("27: over by all of these", x, x.best(60), 9, 180, 180);
    }

    private static void trims() {
        ElderBallast x = Check.three();
        CHECK.due("28: trims", x, x.trims(0), 5, 102);
        CHECK.due("28: trims", x, x.trims(1), 5, 102);
        CHECK.due("28: brother 3", x, x.trims(3), -1, 102);
        CHECK.due("28: brother -1", x, x.trims(-1), -1, 102);
        x = Check.with("90+5");
        CHECK.due("28: of equal ones the least", x, x.trims(0), 10, 100);
        x = Check.with("30+5");
        CHECK.due("28: 6 by 8 is 0", x, x.trims(0), 8, 100);
        x = Check.with("50+1");
        Check.say(x, "p*4").rule();
        Check.say(x, "+8").winds();
        CHECK.due("28: the weight by the place: 80 - 64 and 80 - 100 are as good", x, x.trims(0), 5, 98);
        CHECK.due("28: nothing changes", x.brother(0, 2), 11);
    }

    private static void frees() {
        ElderBallast x = Check.three();
        CHECK.due("29: frees", x, x.frees(), 0, 104, 105);
        x = new ElderBallast();
        x.moment();
        CHECK.due("29: none", x, x.frees(), -2, 100, 0, 0);
        x = Check.with("90+5;90+5;90-5");
        CHECK.due("29: of equal ones the first", x, x.frees(), 0, 100, 105);
        x = Check.with("10+0;90-4;80+1");
        CHECK.due("29: 8 is nearer than -36", x, x.frees(), 1, 101, 97);
        x = Check.with("10+0;90-4;80+2");
        CHECK.due("29: -20 and 16 are as good", x, x.frees(), 0, 98, 98);
        x = Check.with("00+4;00+4;03-4");
        Check.say(x, "k*8+8").rule();
        CHECK.due("29: the others weigh as they did: 64 - 32", x, x.frees(), 0, 104, 112);
    }

    private static void bears() {
        ElderBallast x = Check.three();
        CHECK.due("30: bears", x, x.bears(), 9, 111, 111);
        x.sails(9);
        CHECK.due("30: 18 times 6 is 108, times 7 126", x, x.bears(), 6, 113, 120);
        x = Check.with("95+5;95+5");
        x.moment();
        CHECK.due("30: not even by 0", x, x.bears(), -2, 120, 180, 0);
        x = Check.with("40+5;95+5;55+1");
        CHECK.due("30: 124 is 15 by 8", x.moment(), 1124);
        CHECK.due("30: 124", x.bears(), -2);
        x = Check.with("40+5;95+5;45+0");
        CHECK.due("30: 110 by 0, 120 by 1", x, x.bears(), 0, 113, 120);
        x = Check.with("95-5;95-5");
        CHECK.due("30: far to larboard", x, x.bears(), 9, 100 - 90 / 8, 100 - 90 / 8);
        Check.say(x, "-9").winds();
        CHECK.due("30: in place of this hour's", x, x.bears(), 9, 89, 89);
    }

    private static void parties() {
        ElderBallast x = Check.three();
        CHECK.due("31: parties", x, x.parties(), 0, 3, 9);
        x = new ElderBallast();
        CHECK.due("31: none", x, x.parties(), 0, 0, 0);
        x = Check.with("50+0");
        CHECK.due("31: one", x, x.parties(), 5, 0, 0);
        x = Check.with("50+0;70+0");
        CHECK.due("31: two", x, x.parties(), 2, 1, 5);
        x = Check.with("90+0;10+0;20+0;60+0;10+0");
        CHECK.due("31: 9 and 10", x, x.parties(), 1, 1, 9);
        x = Check.with("00+0;00+0");
        CHECK.due("31: weights 0", x, x.parties(), 0, 0, 0);
    }

    private static void just() {
        ElderBallast x = Check.three();
        CHECK.due("32: just", x, x.just(9), 1, 4, 2);
        CHECK.due("32: all", x, x.just(18), 3, 7, 1);
        CHECK.due("32: none of them", x, x.just(0), 0, 0, 1);
        CHECK.due("32: none", x, x.just(1), -2, 0, 1);
        CHECK.due("32: 141", x, x.just(141), -1, 0, 1);
        CHECK.due("32: -1", x, x.just(-1), -1, 0, 1);
        CHECK.due("32: 140", x, x.just(140), -2, 0, 1);
        x = Check.with("00+0;30+0;30+0;00+0");
        CHECK.due("32: weights 0 count as sets", x, x.just(3), 1, 2, 8);
        CHECK.due("32: the empty one is least", x, x.just(0), 0, 0, 4);
        x = Check.with("00+0;00+0;00+0;00+0;00+0;00+0;00+0");
        Check.say(x, "20").rule();
        CHECK.due("32: 140", x, x.just(140), 7, 127, 1);
    }

    private static void swaps() {
        ElderBallast x = Check.three();
        CHECK.due("33: swaps", x, x.swaps(), 12, 104);
        x = Check.with("90+5");
        x.moment();
        CHECK.due("33: not two", x, x.swaps(), -2, 105, 45, 0);
        CHECK.due("33: none", new ElderBallast().swaps(), -2);
        x = Check.with("10+5;90+5");
        CHECK.due("33: as it is", x, x.swaps(), 1, 106);
        x = Check.with("10+0;20+0;30+0");
        CHECK.due("33: of as good ones the least", x, x.swaps(), 1, 100);
        x = Check.with("90+5;10-1;50-5;00+0");
        CHECK.due("33: 45 - 1 - 25; 0 and 3: -26; 0 and 1: -29; 2 and 3: 44; 0 and 2: -21", x, x.swaps(), 2, 98);
        x = Check.with("00+5;05+1");
        Check.say(x, "p*t").rule();
        CHECK.due("33: the weights by the places: 9 then 45 times 5", x, x.swaps(), 1, 112);
    }

    private static void line() {
        ElderBallast x = Check.three();
        CHECK.due("34: line", x, x.line(), 3, 2, 1, 0);
        x = Check.with("30+0;50+0;30+0;50+0;02+0");
        CHECK.due("34: of like ones by their numbers", x, x.line(), 5, 1, 3, 0, 2, 4);
        x = new ElderBallast();
        x.moment();
        CHECK.due("34: none", x, x.line(), 0);
        x = Check.with("00+0;00+0;00+0;00+0;00+0;00+0;00+0");
        CHECK.due("34: seven", x, x.line(), 7, 0, 1, 2, 3, 4, 5, 6);
    }

    private static void apart() {
        ElderBallast x = Check.three();
        CHECK.due("35: apart", x, x.apart(), 3, 7);
        x = new ElderBallast();
        CHECK.due("35: none", x, x.apart(), 0, 0);
        x = Check.with("10+0;10+1;11+0;12+5");
        CHECK.due("35: 1, 2 and 3", x, x.apart(), 3, 14);
        x = Check.with("10+0;11+0;12+0");
        CHECK.due("35: one place", x, x.apart(), 1, 1);
        x = Check.with("10-5;10+5;10+0");
        CHECK.due("35: one thought", x, x.apart(), 1, 1);
        x = Check.with("10-1;11+1");
        CHECK.due("35: as far, not one place", x, x.apart(), 2, 3);
    }

    /** Pull is lean, but 1 more where the hour by 7 is 6: she leans 15 behind 105 hours. */
    private static void asFarAsCanBeSeen() {
        ElderBallast x = Check.with("00+5;00+3");
        Check.say(x, "l+(n=6)").rule();
        x.hours(5);
        x.moment();
        CHECK.due("21: in 100 hours", x, x.over(), -2, 100, 0, 0);
        CHECK.due("22: in 100 hours", x, x.when(15), -2, 100, 0, 0);
        x.hours(1);
        CHECK.due("21: in 99 hours", x, x.over(), 99, 115);
        CHECK.due("22: in 99 hours", x, x.when(15), 99, 1);
        CHECK.due("22: seven hours each", x, x.when(3), 15, 7);
        CHECK.due("23: in 99 hours", x, x.rolls(99), 115, 99, 100, 0);
        CHECK.due("24: till then", x, x.steady(99, 14), 98, 1);
        CHECK.due("24: one hour", x, x.steady(1, 0), 0, 0);
        CHECK.due("24: one hour", x, x.steady(1, 1), 1, 1);
        x = in("+1");
        x.sails(3);
        CHECK.due("25: in 99 hours", x, x.makes(99), 99, 99, 3);
        CHECK.due("25: in 100 hours", x, x.makes(100), -2, 99, 3);
        CHECK.due("27: 60 hours", x, x.best(60), 9, 60 * 3 - 59, 60);
        x = in("-9+9+9-9");
        CHECK.due("23: leans -2 0 2 0 -2: the first least one", x, x.rolls(5), 102, 3, 98, 1);
        CHECK.due("23: leans -2 0 2 0 -2: the first least one", x, x.rolls(9), 102, 3, 98, 1);
    }
}
