/** Promises 1 to 10: a new object, THE TEXT, thoughts, brothers, winds, the rule, sheets. */
public final class TextsTest {
    private static final Check CHECK = new Check();

    public static void main(String[] args) {
        newObject();
        sign();
        end();
        thoughts();
        brothers();
        brothersWithoutRoom();
        winds();
        ruleValues();
        ruleFaults();
        ruleLength();
        brotherAndPrice();
        sheet();
        CHECK.close();
    }

    private static void newObject() {
        ElderBallast x = new ElderBallast();
        int[] due = {0, 0, 5, 100, 0, 0, 10, 0, 0, 0, 0, 0, 0, 0};
        for (int i = 0; i < due.length; i++) {
            CHECK.due("1: count(" + i + ") of a new object", x.count(i), due[i]);
        }
        CHECK.due("NONE", ElderBallast.NONE, -1);
        int[] prices = {0, 1, 3, 5, 7, 9};
        for (int i = 0; i < 6; i++) {
            CHECK.due("1: price(" + i + ")", x.price(i), prices[i]);
        }
    }

    private static void sign() {
        ElderBallast x = new ElderBallast();
        CHECK.due("2: sign", x.sign(0x39383736), 4);
        CHECK.due("2: sign", x.sign(0x35340000), 8);
        x.end(6);
        CHECK.due("2: highest byte first", x.thoughts(), 39);
        CHECK.due("2: highest byte first", x.price(0), 9);
        CHECK.due("2: lowest byte last", x.price(3), 6);
        for (int i = 1; i <= 20; i++) {
            CHECK.due("2: sign " + i, x.sign(-1), 4 * i);
        }
        CHECK.due("2: beyond 80", x.sign(0), -1);
        CHECK.due("2: refused, the text stays", x.count(13), 80);
        x.end(77);
        CHECK.due("2: 81 would be too many", x.sign(0), -1);
        x.end(76);
        CHECK.due("2: just 80", x.sign(0), 80);
    }

    private static void end() {
        ElderBallast x = new ElderBallast();
        CHECK.due("3: end(0) of none", x.end(0), true);
        CHECK.due("3: end(1) of none", x.end(1), false);
        x.sign(0x31323334);
        CHECK.due("3: end(5) of 4", x.end(5), false);
        CHECK.due("3: end(-1)", x.end(-1), false);
        CHECK.due("3: nothing has changed", x.count(13), 4);
        CHECK.due("3: end(4)", x.end(4), true);
        CHECK.due("3: end(2)", x.end(2), true);
        CHECK.due("3: two are left", x.count(13), 2);
        CHECK.due("3: end(3) of 2", x.end(3), false);
        x.sign(0x33343536);
        CHECK.due("3: the first ones stay", x.thoughts(), 1 + 2 + 3 + 4 + 5 + 6);
    }

    private static void thoughts() {
        String[] texts = {"", "0", "01234", "012345", "0123456", "01234x", "x12345", "01234x6", "0123456x", "999999", "01 345"};
        int[] due = {-1, -2, -6, 15, -7, -6, -1, -6, -7, 54, -3};
        for (int i = 0; i < texts.length; i++) {
            ElderBallast x = new ElderBallast();
            CHECK.due("4: thoughts " + texts[i], Check.say(x, texts[i]).thoughts(), due[i]);
            CHECK.due("4: it empties the text", x.count(13), 0);
            CHECK.due("4: price 5 behind " + texts[i], x.price(5), due[i] < 0 ? 9 : texts[i].charAt(5) - '0');
        }
        ElderBallast x = Check.three();
        x.tells(0, 5);
        Check.say(x, "222222").thoughts();
        CHECK.due("4: it forgets nothing", x.count(11), 1);
        x.undo();
        CHECK.due("4: can't be undone", x.price(5), 2);
        CHECK.due("4: weights by the new prices", x.brother(1, 3), 7);
    }

    private static void brothers() {
        String line = "10+0;";
        String[] texts = {"", "x", "1", "16", "15", "15x", "15+", "15+6", "15-5", "15+0;", "15+01", "15+0;x", "15+0;9", "15+0:15+0",
            "95-5;00+0", line.repeat(6) + "10+0", line.repeat(7), line.repeat(6) + "10+0x", line.repeat(6) + "10+", line.repeat(16),
            "+5+0", "1+5+0", "15+0;;", line.repeat(3) + "x" + line.repeat(6)};
        int[] due = {0, -1, -2, -2, -3, -3, -4, -4, 1, -6, -5, -6, -7, -5, 2, 7, -35, -35, -34, -35, -1, -2, -6, -16};
        for (int i = 0; i < texts.length; i++) {
            ElderBallast x = new ElderBallast();
            CHECK.due("5: brothers " + texts[i], Check.say(x, texts[i]).brothers(), due[i]);
            CHECK.due("5: it empties the text", x.count(13), 0);
            CHECK.due("5: all or none of " + texts[i], x.count(0), Math.max(0, due[i]));
        }
        ElderBallast x = Check.with("73-4;02+5");
        CHECK.due("5: gravity", x.brother(0, 0), 7);
        CHECK.due("5: thought", x.brother(0, 1), 3);
        CHECK.due("5: place", x.brother(0, 2), 6);
        CHECK.due("5: gravity of the next", x.brother(1, 0), 0);
        CHECK.due("5: thought of the next", x.brother(1, 1), 2);
        CHECK.due("5: place of the next", x.brother(1, 2), 15);
        CHECK.due("5: brothers come behind", Check.say(x, "10+0").brothers(), 1);
        CHECK.due("5: now three", x.count(0), 3);
        CHECK.due("5: those ahead stay", x.brother(0, 0), 7);
    }

    private static void brothersWithoutRoom() {
        ElderBallast x = Check.with("10+0;10+0;10+0;10+0;10+0");
        CHECK.due("5: the third has no room", Check.say(x, "20+0;20+0;20+0").brothers(), -11);
        CHECK.due("5: nor a bad third", Check.say(x, "20+0;20+0;x").brothers(), -11);
        CHECK.due("5: nor an empty third", Check.say(x, "20+0;20+0;").brothers(), -11);
        CHECK.due("5: a fault ahead of it", Check.say(x, "20+0;2x+0;20+0").brothers(), -7);
        CHECK.due("5: none of these came", x.count(0), 5);
        CHECK.due("5: two have room", Check.say(x, "20+0;30+0").brothers(), 2);
        CHECK.due("5: one more has none", Check.say(x, "20+0").brothers(), -1);
        CHECK.due("5: an empty text", Check.say(x, "").brothers(), 0);
        CHECK.due("5: seven", x.count(0), 7);
    }

    private static void winds() {
        String[] texts = {"", "x", "+", "+x", "+1", "-9", "+1+", "+1x", "11", "+1-2+3", "+1".repeat(20), "+1".repeat(20) + "+",
            "+1".repeat(20) + "x", "+1".repeat(21), "+1".repeat(19) + "+", "+1".repeat(19) + "xx+1", "+0+10"};
        int[] due = {-1, -1, -2, -2, 1, 1, -4, -3, -1, 3, 20, -41, -41, -41, -40, -39, -5};
        for (int i = 0; i < texts.length; i++) {
            ElderBallast x = new ElderBallast();
            CHECK.due("6: winds " + texts[i], Check.say(x, texts[i]).winds(), due[i]);
            CHECK.due("6: it empties the text", x.count(13), 0);
            int first = due[i] < 0 ? 0 : Integer.parseInt(texts[i].substring(0, 2));
            CHECK.due("6: wind behind " + texts[i], x.count(6), 10 + first);
        }
        ElderBallast x = new ElderBallast();
        Check.say(x, "+1-2+3").winds();
        int[] by = {11, 8, 13, 11, 8};
        for (int h = 0; h < 5; h++) {
            CHECK.due("6: wind of hour " + h, x.count(6), by[h]);
            x.hours(1);
        }
        Check.say(x, "-1-2").winds();
        CHECK.due("6: the hour goes on in new winds (hour 5)", x.count(6), 10 - 2);
        CHECK.due("6: nothing forgotten", x.count(11), 5);
        x.undo();
        CHECK.due("6: can't be undone (hour 4)", x.count(6), 10 - 1);
    }

    /** Of brother 3: g 7, t 1, k 1, p 4, l 0, i 3, n 0. */
    private static void ruleValues() {
        String[] rules = {"", "g", "t", "k", "p", "l", "i", "n", "g-p-i", "g-(p-i)", "20/p/2", "20/(p/2)", "g/0", "5/l+2", "-g", "--g",
            "---g+19", "g*-p+40", "-7/2+9", "p<g", "g<p", "g=7", "g+1>7*1", "(g>p)+(p>i)", "999", "007", "((((g))))",
            "512*512*512*32+7", "512*512*512*16+7", "(512*512*512*16/-1<0)*5", "(g<t)<k", "g<(t<k)", "2+3*4", "2*3+4", "20-3*4",
            "12-g--g", "7/2", "-(2-9)", "1<2+1", "3-2=1", "1-2<0", "g-g", "-g-g-g+25", "20/3*3", "i*i*i-g", "5>5", "5<5", "5=5"};
        int[] due = {8, 7, 1, 1, 4, 0, 3, 0, 0, 6, 2, 10, 0, 2, 0, 7,
            12, 12, 6, 1, 0, 1, 1, 2, 20, 7, 7,
            7, 0, 5, 1, 0, 14, 10, 8,
            12, 3, 7, 1, 1, 1, 0, 4, 18, 20, 0, 0, 1};
        for (int i = 0; i < rules.length; i++) {
            ElderBallast x = Check.with("30+2;51-1;05+0;71+4");
            CHECK.due("7: rule " + rules[i], Check.say(x, rules[i]).rule(), 0);
            CHECK.due("7: weight by " + rules[i], x.brother(3, 3), due[i]);
        }
        ElderBallast x = Check.three();
        Check.say(x, "l*3+n").rule();
        CHECK.due("7: weight in hour 0", x.brother(0, 3), 0);
        x.hours(2);
        CHECK.due("7: weight by lean and hour", x.brother(0, 3), 3 * (x.count(3) - 100) + 2);
        Check.say(x, "n").rule();
        x.hours(6);
        CHECK.due("7: the hour by 7", x.brother(0, 3), 1);
        x = Check.with("00-5");
        Check.say(x, "-9").winds();
        x.hours(1);
        CHECK.due("7: she leans to larboard", x.count(3), 98);
        Check.say(x, "l+p").rule();
        CHECK.due("7: sizes of lean and place", x.brother(0, 3), 7);
        x = Check.with("12+0;22+0;33+0;42+0");
        Check.say(x, "k*5").rule();
        CHECK.due("7: two others think so", x.brother(0, 3), 10);
        CHECK.due("7: none does", x.brother(2, 3), 0);
    }

    private static void ruleFaults() {
        String[] rules = {"p>i=1", "1000", "(((((g", "()", "g)", "gt", "2(", "*g", "g+", "(g", "-", "g ", "G", "g~t", "~g", "g<t+k<l",
            "(g)(", "(1)2", "g1", "1g", "g<", "(g<t<k)", "g+*t", "g//t", "+g", "((g)", "(g))", "9999", "1+2345", "(", ")", "g<=t", "<g",
            "g--", "5 ", "z", "g!"};
        int[] at = {3, 3, 4, 1, 1, 1, 1, 0, 2, 2, 1, 1, 0, 1, 0, 5,
            3, 3, 1, 1, 2, 4, 2, 2, 0, 4, 3, 3, 5, 1, 0, 2, 0,
            3, 1, 0, 1};
        for (int i = 0; i < rules.length; i++) {
            ElderBallast x = Check.three();
            Check.say(x, "g*2").rule();
            CHECK.due("7: rule " + rules[i], Check.say(x, rules[i]).rule(), -1 - at[i]);
            CHECK.due("7: it empties the text", x.count(13), 0);
            CHECK.due("7: the rule stays behind " + rules[i], x.brother(0, 3), 6);
            CHECK.due("47: law " + rules[i], Check.say(x, rules[i]).law(), -100000 - at[i]);
            CHECK.due("47: it empties the text", x.count(13), 0);
        }
        ElderBallast x = new ElderBallast();
        x.sign(0x67ab0000);
        x.end(2);
        CHECK.due("7: a sign above 127", x.rule(), -2);
        x.sign(0x672b0000);
        x.end(3);
        CHECK.due("7: a sign 0", x.rule(), -3);
    }

    private static void ruleLength() {
        String g = "g" + "+0".repeat(19);
        String[] rules = {g, g + "+", g + "+0", g + "+0+0", "10" + "+0".repeat(19), "10" + "+0".repeat(19) + "x", "x" + g + g,
            "-".repeat(39) + "g", "-".repeat(40), "-".repeat(41), g + "*", g + "x0", "((((" + "-".repeat(36), "((((" + "-".repeat(76),
            "g" + "-1".repeat(39), g + ")0"};
        int[] due = {0, -41, -41, -41, 0, -41, -1, 0, -41, -41, -41, -40, -41, -41, -41, -40};
        for (int i = 0; i < rules.length; i++) {
            ElderBallast x = Check.three();
            CHECK.due("7: rule " + rules[i], Check.say(x, rules[i]).rule(), due[i]);
        }
        ElderBallast x = Check.three();
        Check.say(x, "-".repeat(38) + "5").rule();
        CHECK.due("7: 38 times minus", x.brother(0, 3), 5);
        x.tells(0, 1);
        CHECK.due("7: none again", Check.say(x, "").rule(), 0);
        CHECK.due("7: g+t again", x.brother(0, 3), 4);
        x.undo();
        CHECK.due("7: the rule is not undone", x.brother(0, 3), 3);
    }

    private static void brotherAndPrice() {
        ElderBallast x = Check.three();
        CHECK.due("8: gravity", x.brother(1, 0), 5);
        CHECK.due("8: thought", x.brother(1, 1), 1);
        CHECK.due("8: place", x.brother(1, 2), 9);
        CHECK.due("8: weight", x.brother(1, 3), 6);
        CHECK.throwsNoSuch("8: brother(-1, 0)", () -> x.brother(-1, 0));
        CHECK.throwsNoSuch("8: brother(3, 0)", () -> x.brother(3, 0));
        CHECK.throwsNoSuch("8: brother(0, -1)", () -> x.brother(0, -1));
        CHECK.throwsNoSuch("8: brother(0, 4)", () -> x.brother(0, 4));
        CHECK.throwsNoSuch("8: brother of none", () -> new ElderBallast().brother(0, 0));
        CHECK.throwsNoSuch("8: far numbers", () -> x.brother(Integer.MAX_VALUE, Integer.MIN_VALUE));
        CHECK.due("9: price", x.price(4), 7);
        CHECK.throwsNoSuch("9: price(-1)", () -> x.price(-1));
        CHECK.throwsNoSuch("9: price(6)", () -> x.price(6));
    }

    private static void sheet() {
        ElderBallast x = Check.three();
        CHECK.due("10: ints", x.sheet(2, 3, 5, 100), 23);
        CHECK.due("10: put to 9", x.brother(1, 0), 9);
        CHECK.due("10: bytes", x.sheet(0, 2, 260, 0), 8);
        CHECK.due("10: behind the sheet 0", x.brother(2, 0), 0);
        CHECK.due("10: bytes have a sign", x.sheet(0, 1, 128, 0), 0);
        CHECK.due("10: bytes", x.sheet(0, 3, 127, 130), 9 + 1 + 0);
        CHECK.due("10: shorts", x.sheet(1, 3, 65536 + 3, 1), 3 + 4 + 5);
        CHECK.due("10: shorts have a sign", x.sheet(1, 1, 32768, 0), 0);
        CHECK.due("10: ints go round", x.sheet(2, 3, Integer.MAX_VALUE, 1), 9);
        CHECK.due("10: below 0 put to 0", x.sheet(2, 3, -1, 2), 0 + 1 + 3);
        CHECK.due("10: more entries than brothers", x.sheet(2, 7, 1, 1), 1 + 2 + 3);
        CHECK.due("10: n below 0", x.sheet(2, -1, 9, 0), -2);
        CHECK.due("10: n below 0 changes nothing", x.count(7), 6);
        CHECK.due("10: n above 7", x.sheet(2, 8, 9, 0), -1);
        CHECK.due("10: n above 7 of a missing one", x.sheet(3, 8, 9, 0), -1);
        CHECK.due("10: another kind", x.sheet(4, 1, 9, 0), -1);
        CHECK.due("10: another kind first", x.sheet(-1, -1, 9, 0), -1);
        CHECK.due("10: refused changes nothing", x.count(7), 6);
        CHECK.due("10: of none entries", x.sheet(1, 0, 9, 0), 0);
        CHECK.due("10: all 0", x.count(7), 0);
        x.sheet(2, 3, 1, 0);
        CHECK.due("10: a missing one", x.sheet(3, -5, 9, 9), -3);
        CHECK.due("10: a missing one, all 0", x.count(7), 0);
        CHECK.due("10: nothing kept", x.count(11), 0);
        x.tells(0, 5);
        x.sheet(2, 3, 9, 0);
        x.undo();
        CHECK.due("10: undo brings gravity back", x.count(7), 0);
        CHECK.due("10: without brothers", new ElderBallast().sheet(0, 3, 5, 0), 0);
    }
}
