import java.util.List;
import java.util.function.Consumer;
import java.util.function.ToIntFunction;

/** Edges of the terms: what can be, rules, how an hour goes by, refusals, the ROW. */
final class TermsEdges {
    private static final List<ToIntFunction<ElderBallast>> QUESTIONS = List.of(ElderBallast::moment, x -> x.later(30), ElderBallast::over, x -> x.when(3),
            x -> x.rolls(40), x -> x.steady(40, 6), x -> x.makes(200), x -> x.steps(0), x -> x.best(20), x -> x.trims(1), ElderBallast::frees,
            ElderBallast::bears, ElderBallast::parties, x -> x.just(12), ElderBallast::swaps, ElderBallast::line, ElderBallast::apart, x -> x.minds(1),
            x -> x.looks(1), ElderBallast::fits, ElderBallast::asks, x -> x.grave(8, 3), x -> x.years(3, 40), x -> Check.say(x, "g").law(), x -> x.count(8));

    private TermsEdges() {
    }

    static void all(Edges e) {
        whatThereIs(e);
        ruleSigns(e);
        ruleLetters(e);
        pull(e);
        leanInAnHour(e);
        leaguesInAnHour(e);
        overInAnHour(e);
        rows(e);
        refusals(e);
    }

    /** One brother at a place, weighed by a rule, in no wind. */
    private static ElderBallast one(String rule, String place) {
        ElderBallast x = Check.with("71" + place);
        Check.say(x, rule).rule();
        return x;
    }

    private static int weightBy(String rule) {
        return one(rule, "+4").brother(0, 3);
    }

    private static int ruleAnswer(String rule) {
        return Check.say(new ElderBallast(), rule).rule();
    }

    private static ElderBallast inWind(String winds, int sail) {
        ElderBallast x = new ElderBallast();
        Check.say(x, winds).winds();
        x.sails(sail);
        return x;
    }

    private static void whatThereIs(Edges e) {
        e.edge(0, "THOUGHTS 0 .. 5, each with a PRICE 0 .. 9 (at first 0, 1, 3, 5, 7, 9)", c -> {
            ElderBallast x = new ElderBallast();
            int[] due = {0, 1, 3, 5, 7, 9};
            for (int t = 0; t < 6; t++) {
                c.due("price " + t, x.price(t), due[t]);
            }
            Check.say(x, "000000").thoughts();
            c.due("the least price", x.price(5), 0);
            Check.say(x, "999999").thoughts();
            c.due("the greatest price", x.price(0), 9);
        });
        e.edge(0, "They are told by a text of just 6 digits", c -> {
            c.due("5", Check.say(new ElderBallast(), "11111").thoughts(), -6);
            c.due("6", Check.say(new ElderBallast(), "111111").thoughts(), 6);
            c.due("7", Check.say(new ElderBallast(), "1111111").thoughts(), -7);
        });
        e.edge(0, "BROTHERS 0 .. (at most 7): GRAVITY 0 .. 9, a THOUGHT, PLACE -5 .. 5 (below 0: to larboard)", c -> {
            ElderBallast x = Check.with("00-5;95+5;10-0;10+0;11+1;12+2;13+3");
            c.due("seven", x.count(0), 7);
            c.due("an eighth", Check.say(x, "10+0").brothers(), -1);
            int[][] due = {{0, 0, 5}, {9, 5, 15}, {1, 0, 10}, {1, 0, 10}, {1, 1, 11}, {1, 2, 12}, {1, 3, 13}};
            for (int b = 0; b < 7; b++) {
                for (int what = 0; what < 3; what++) {
                    c.due("brother " + b + ", what " + what, x.brother(b, what), due[b][what]);
                }
            }
            x = Check.with("10-1");
            c.due("below 0 is to larboard", x, x.moment(), 999, 100, 0, 1);
        });
        e.edge(0, "LINES with ; between, each one more: a digit (GRAVITY), a digit 0 .. 5 (THOUGHT), + or - and a digit 0 .. 5 (PLACE)", c -> {
            String[] texts = {"00+0", "95-5", "96-5", "95-6", "95+6", "95*5", "5-5", "90+5;05-0", "90+5,05-0"};
            int[] due = {1, 1, -2, -4, -4, -3, -2, 2, -5};
            for (int i = 0; i < texts.length; i++) {
                c.due(texts[i], Check.say(new ElderBallast(), texts[i]).brothers(), due[i]);
            }
        });
        e.edge(0, "They are told by a text of at most 34 signs", c -> {
            String seven = "10+0;10+0;10+0;10+0;10+0;10+0;10+0";
            c.due("34", Check.say(new ElderBallast(), seven).brothers(), 7);
            c.due("35", Check.say(new ElderBallast(), seven + ";").brothers(), -35);
        });
        e.edge(0, "WINDS is a text of 1 to 20 pairs of + or - and a digit (at first +0)", c -> {
            c.due("at first", new ElderBallast().count(6), 10);
            c.due("none", Check.say(new ElderBallast(), "").winds(), -1);
            c.due("one", Check.say(new ElderBallast(), "-9").winds(), 1);
            c.due("twenty", Check.say(new ElderBallast(), "+9".repeat(20)).winds(), 20);
            c.due("twenty-one", Check.say(new ElderBallast(), "+9".repeat(21)).winds(), -41);
        });
        e.edge(0, "WIND of an HOUR is the pair at HOUR by how many there are (rest)", c -> {
            ElderBallast x = new ElderBallast();
            Check.say(x, "+0+1+2+3+4+5+6+7+8+9-0-1-2-3-4-5-6-7-8-9").winds();
            for (int hour = 0; hour < 42; hour++) {
                int at = hour % 20;
                c.due("wind of hour " + hour, x.count(6), 10 + (at < 10 ? at : 10 - at));
                x.hours(1);
            }
            Check.say(x, "+1+2+3+4+5").winds();
            c.due("hour 42 by 5", x.count(6), 13);
        });
        e.edge(0, "SAIL 0 .. 9 (at first 5), LEAN -20 .. 20 (at first 0), LEAGUES 0 .. 9999 (at first 0), OVERS 0 .. 999 (at first 0), HOUR (at first 0)", c -> {
            ElderBallast x = new ElderBallast();
            int[] due = {0, 0, 5, 100, 0, 0};
            for (int what = 1; what < 6; what++) {
                c.due("at first, count " + what, x.count(what), due[what]);
            }
            for (String place : new String[] {"+5", "-5"}) {
                x = Check.with("90" + place + ";90" + place);
                Check.say(x, "20").rule();
                x.hours(60);
                c.due("lean to " + place, x.count(3), place.equals("+5") ? 120 : 80);
            }
        });
    }

    private static void ruleSigns(Edges e) {
        e.edge(0, "THE RULE is a text of at most 40 signs (at first none: g+t)", c -> {
            c.due("at first", Check.with("73+0").brother(0, 3), 12);
            c.due("40 signs", ruleAnswer("10" + "+0".repeat(19)), 0);
            c.due("41 signs", ruleAnswer("1" + "+0".repeat(20)), -41);
        });
        e.edge(0, "< > = bind least (two; 1 or 0; not one behind the other)", c -> {
            String[] rules = {"3<4", "4<4", "5<4", "3>4", "4>4", "5>4", "3=4", "4=4", "1+1<1+2", "2*2=4", "(1<2)+(2>1)", "(1<2)<3", "3-3=0",
                "-1<0", "5-(1<2)", "5+(4<3)", "5+(4<4)", "5+(3>4)", "5+(4>4)", "5+(3=4)"};
            int[] due = {1, 0, 0, 0, 0, 1, 0, 1, 1, 1, 2, 1, 1, 1, 4, 5, 5, 5, 5, 5};
            for (int i = 0; i < rules.length; i++) {
                c.due("weight by " + rules[i], weightBy(rules[i]), due[i]);
            }
            for (String sign : new String[] {"<", ">", "="}) {
                for (String other : new String[] {"<", ">", "="}) {
                    c.due("behind the other", ruleAnswer("g" + sign + "t" + other + "k"), -4);
                    c.due("behind the other, in ( )", ruleAnswer("(g" + sign + "t+1" + other + "k)"), -7);
                    c.due("side by side", ruleAnswer("(g" + sign + "t)" + other + "(t" + sign + "k)"), 0);
                }
                c.due("one alone", ruleAnswer(sign + "g"), -1);
                c.due("one without its second", ruleAnswer("g" + sign), -3);
            }
        });
        e.edge(0, "then + - (from the left)", c -> {
            c.due("9-3-2", weightBy("9-3-2"), 4);
            c.due("9-3+2", weightBy("9-3+2"), 8);
            c.due("2+3*4", weightBy("2+3*4"), 14);
            c.due("2*3+4", weightBy("2*3+4"), 10);
        });
        e.edge(0, "then * / (from the left; by 0: 0; cut to 0)", c -> {
            String[] rules = {"18/3/2", "18/3*2", "7*2/3", "7/2", "-7/2+9", "7/-2+9", "0-7/2+9", "-7/-2", "7/0", "7/0+5", "-7/0+5", "0/0+5", "7/(1-1)+5",
                "7/(1/2)+5", "0/7+5", "1/2*20"};
            int[] due = {3, 12, 4, 3, 6, 6, 6, 3, 0, 5, 5, 5, 5, 5, 5, 0};
            for (int i = 0; i < rules.length; i++) {
                c.due("weight by " + rules[i], weightBy(rules[i]), due[i]);
            }
        });
        e.edge(0, "then - ahead of a thing (any many)", c -> {
            String[] rules = {"-5", "--5", "-".repeat(38) + "5", "-".repeat(39) + "5", "9--5", "9---5", "3*-2+9", "-3*-2", "-(2-9)", "20/-2+13", "-2*3+9", "--g",
                "-(512*512*512*16)/2", "(-(512*512*512*16)/2<0)*3"};
            int[] due = {0, 5, 5, 0, 14, 4, 3, 6, 7, 3, 3, 7, 0, 3};
            for (int i = 0; i < rules.length; i++) {
                c.due("weight by " + rules[i], weightBy(rules[i]), due[i]);
            }
            c.due("ahead of none", ruleAnswer("-"), -2);
            c.due("no + ahead", ruleAnswer("+g"), -1);
            c.due("no + ahead", ruleAnswer("-+g"), -2);
            c.due("not behind a thing", ruleAnswer("g-"), -3);
        });
        e.edge(0, "a NUMBER of 1 to 3 digits", c -> {
            c.due("1 digit", weightBy("9"), 9);
            c.due("2 digits", weightBy("19"), 19);
            c.due("3 digits", weightBy("017"), 17);
            c.due("3 digits", weightBy("999-980"), 19);
            c.due("000", weightBy("000"), 0);
            c.due("4 digits", ruleAnswer("0001"), -4);
            c.due("4 digits behind others", ruleAnswer("123+4567"), -8);
            c.due("a digit behind a letter", ruleAnswer("g1"), -2);
            c.due("a digit behind )", ruleAnswer("(1)1"), -4);
            c.due("a letter behind a digit", ruleAnswer("1g"), -2);
        });
        e.edge(0, "an EXPRESSION in ( ) (at most 4 in one another)", c -> {
            c.due("4", weightBy("((((g))))"), 7);
            c.due("4 and 4", weightBy("((((g))))+((((t))))"), 8);
            c.due("4, ended one by one", weightBy("(((g+(1))+(1))+((1)))"), 10);
            c.due("5", ruleAnswer("(((((g)))))"), -5);
            c.due("5 in the middle", ruleAnswer("((g)+(((1+(2)))))"), -11);
            c.due("an empty one", ruleAnswer("()"), -2);
            c.due("not ended", ruleAnswer("((g)"), -5);
            c.due("ended once more", ruleAnswer("(g))"), -4);
            c.due("none begun", ruleAnswer("g)"), -2);
            c.due("one behind a thing", ruleAnswer("g(t)"), -2);
        });
    }

    private static void ruleLetters(Edges e) {
        e.edge(0, "k how many others have his THOUGHT, p how far his PLACE is from the middle, l how far LEAN is from 0, i his number, n HOUR by 7 (rest)", c -> {
            ElderBallast x = Check.with("13-5;13+5;13+0;13-1;13+1;13+4;12+2");
            int[] far = {5, 5, 0, 1, 1, 4, 2};
            for (int b = 0; b < 7; b++) {
                Check.say(x, "k").rule();
                c.due("k of " + b, x.brother(b, 3), b < 6 ? 5 : 0);
                Check.say(x, "p").rule();
                c.due("p of " + b, x.brother(b, 3), far[b]);
                Check.say(x, "i").rule();
                c.due("i of " + b, x.brother(b, 3), b);
                Check.say(x, "l").rule();
                c.due("l of " + b, x.brother(b, 3), 0);
            }
            x.tells(6, 3);
            Check.say(x, "k").rule();
            c.due("k of all seven", x.brother(6, 3), 6);
            x = one("n", "+0");
            for (int hour = 0; hour < 16; hour++) {
                c.due("n of hour " + hour, x.brother(0, 3), hour % 7);
                x.hours(1);
            }
            x = Check.with("90-5");
            x.hours(5);
            Check.say(x, "l").rule();
            c.due("she leans to larboard", x.count(3), 95);
            c.due("l", x.brother(0, 3), 5);
        });
        e.edge(0, "As ints, put to 0 .. 20: WEIGHT", c -> {
            String[] rules = {"0-1", "0", "1", "19", "20", "21", "999", "-999", "999*999*999*3", "999*999*999*5", "512*512*512*16", "512*512*512*32+3",
                "-(512*512*512*16)+3", "(-(512*512*512*16)<0)*3", "(512*512*512*16/-1<0)*3", "(512*512*512*16-1>0)*3"};
            int[] due = {0, 0, 1, 19, 20, 20, 20, 0, 0, 20, 0, 3, 0, 3, 3, 3};
            for (int i = 0; i < rules.length; i++) {
                c.due("weight by " + rules[i], weightBy(rules[i]), due[i]);
            }
        });
    }

    private static void pull(Edges e) {
        e.edge(0, "MOMENT: WEIGHT times PLACE of all, and 2 times WIND times SAIL, added up. PULL: MOMENT by 8 (cut to 0), put to -20 .. 20", c -> {
            String[] ends = {"70@1", "80@1", "70@1;80@1", "80@2", "90@5;90@5;90@5;40@5;40@1", "90@5;90@5;90@5;50@5", "90@5;90@5;90@5;60@5;20@1",
                "90@5;90@5;90@5;60@5;30@1", "90@5;90@5;90@5;90@5;90@5;90@5;90@5"};
            int[] moments = {7, 8, 15, 16, 159, 160, 167, 168, 315};
            int[] pulls = {0, 1, 1, 2, 19, 20, 20, 20, 20};
            for (int i = 0; i < ends.length; i++) {
                ElderBallast x = Check.with(ends[i].replace('@', '+'));
                c.due(ends[i] + " to starboard", x, x.moment(), 1000 + moments[i], 100 + pulls[i], moments[i], 0);
                x = Check.with(ends[i].replace('@', '-'));
                c.due(ends[i] + " to larboard", x, x.moment(), 1000 - moments[i], 100 - pulls[i], 0, moments[i]);
            }
            c.due("2 times 9 times 9", inWind("+9", 9).moment(), 1162);
            c.due("2 times -9 times 9", inWind("-9", 9).moment(), 838);
            c.due("no sail", inWind("-9", 0).moment(), 1000);
            c.due("no wind", inWind("-0", 9).moment(), 1000);
            ElderBallast x = Check.with("70-1");
            Check.say(x, "+1").winds();
            c.due("10 and -7, added up first", x, x.moment(), 1003, 100, 0, 7);
        });
    }

    private static void leanInAnHour(Edges e) {
        e.edge(0, "LEAN goes 1 nearer to PULL (as it is ahead of this HOUR), 2 if it is 6 or more away from it (not at all, if it is there)", c -> {
            String[] at = {"00@0", "80@1", "80@5", "60@4;40@5", "80@5;80@1", "80@5;80@2", "90@5;90@5;90@5;90@5"};
            int[] pulls = {0, 1, 5, 5, 6, 7, 20};
            int[] leans = {0, 1, 1, 1, 2, 2, 2};
            for (int i = 0; i < at.length; i++) {
                ElderBallast x = Check.with(at[i].replace('@', '+'));
                x.moment();
                c.due(at[i] + ": pull", x.row(0), 100 + pulls[i]);
                c.due(at[i] + ": lean", x.hours(1), 100 + leans[i]);
                x = Check.with(at[i].replace('@', '-'));
                c.due(at[i] + " to larboard: lean", x.hours(1), 100 - leans[i]);
            }
            int[] way = {2, 3, 4, 5, 6, 7, 7, 7};
            ElderBallast x = Check.with("80@5;80@2".replace('@', '+'));
            for (int i = 0; i < way.length; i++) {
                c.due("pull is 7, hour " + i, x.hours(1), 100 + way[i]);
            }
            x = one("(l=0)*20", "+5");
            int[] round = {2, 1, 0, 2, 1, 0};
            for (int i = 0; i < round.length; i++) {
                c.due("weighed by LEAN ahead of the hour, " + i, x.hours(1), 100 + round[i]);
            }
            x = one("(n=1)*20", "+5");
            int[] once = {0, 2, 1, 0, 0, 0, 0, 0, 2};
            for (int i = 0; i < once.length; i++) {
                c.due("weighed by HOUR ahead of the hour, " + i, x.hours(1), 100 + once[i]);
            }
            hourByHour(c);
            x = inWind("+0+9", 5);
            c.due("WIND of the hour that goes by", x.hours(1), 100);
            c.due("WIND of the hour that goes by", x.hours(1), 102);
            x = inWind("+9", 5);
            x.hours(60);
            Check.say(x, "-9").winds();
            c.due("from 11 to -11", x.hours(1), 109);
        });
    }

    /** Hours that go by together are as those that go by one by one, whatever of LEAN and HOUR the rule sees. */
    private static void hourByHour(Check c) {
        for (String rule : new String[] {"l", "n", "l+1", "20-l", "n*3", "l*n", "20*(l<3)", "20*(n<5)", "20-20*(l>18)*(n=3)", "20-20*(l=20)*(n=6)", "20-20*(l=19)",
            "20*(l=20)+20*(l<20)*(n>0)"}) {
            for (String side : new String[] {"+", "-"}) {
                ElderBallast x = Check.with("00@5;00@5".replace("@", side));
                Check.say(x, rule).rule();
                Check.say(x, side + "9" + side + "1").winds();
                ElderBallast y = Check.with("00@5;00@5".replace("@", side));
                Check.say(y, rule).rule();
                Check.say(y, side + "9" + side + "1").winds();
                for (int i = 0; i < 60; i++) {
                    y.hours(1);
                }
                c.due("60 hours later by " + rule + " to " + side, x.later(60), y.count(3));
                c.due("60 hours by " + rule + " to " + side, x.hours(60), y.count(3));
                c.due("all by " + rule + " to " + side, Check.seenOf(x).replaceFirst("^((?:\\S+ ){11})\\S+ ", "$1"),
                        Check.seenOf(y).replaceFirst("^((?:\\S+ ){11})\\S+ ", "$1"));
            }
        }
    }

    private static void leaguesInAnHour(Edges e) {
        e.edge(0, "the size of WIND times SAIL by 3 (cut), less the size of LEAN as it is then by 2 (cut): if this is above 0, LEAGUES are so many more (9999 at most)", c -> {
            String[] winds = {"+1", "-1", "+1", "+1", "+1", "-1", "+9", "-9", "+0", "+2", "+4", "-4"};
            int[] sails = {2, 2, 3, 5, 6, 6, 9, 9, 9, 3, 5, 5};
            int[] more = {0, 0, 1, 1, 2, 2, 26, 26, 0, 2, 6, 6};
            for (int i = 0; i < winds.length; i++) {
                ElderBallast x = inWind(winds[i], sails[i]);
                x.hours(1);
                c.due("wind " + winds[i] + ", sail " + sails[i], x.count(4), more[i]);
            }
            ElderBallast x = Check.with("80@5;80@2;80@5".replace('@', '+'));
            Check.say(x, "+1").winds();
            x.hours(6);
            c.due("leans 2, 4, 6, 8, 9, 10, by a wind of 1", x.count(3), 110);
            c.due("never below 0", x.count(4), 0);
            x = inWind("+9", 5);
            int[] sums = {14, 27, 39, 51};
            for (int i = 0; i < sums.length; i++) {
                x.hours(1);
                c.due("leans 2, 4, 6, 7, hour " + i, x.count(4), sums[i]);
            }
        });
        e.edge(0, "(9999 at most)", c -> {
            ElderBallast x = inWind("+9-9", 9);
            for (int i = 0; i < 6; i++) {
                x.hours(60);
            }
            x.hours(17);
            c.due("nine more are missing", x.count(4), 9540 + 8 * 53 + 26);
            c.due("27 are cut", x, x.hours(1), 100, 9, 0);
            c.due("at most", x.count(4), 9999);
            x.hours(1);
            c.due("they stay", x.count(4), 9999);
        });
    }

    private static void overInAnHour(Edges e) {
        e.edge(0, "if the size of LEAN is 15 or more, she is OVER: OVERS is 1 more (999 at most), SAIL is 0", c -> {
            for (String place : new String[] {"+", "-"}) {
                int side = place.equals("+") ? 1 : -1;
                ElderBallast x = Check.with("80@5;80@5;80@4;80@1".replace("@", place));
                c.due("pull 15: 2, 4, 6, 8, 10, 11, 12", x.hours(7), 100 + 12 * side);
                c.due("lean 13", x.hours(1), 100 + 13 * side);
                c.due("lean 14", x, x.hours(1), 100 + 14 * side, 0, 0);
                c.due("not over", x.count(5), 0);
                c.due("sail stands", x.count(2), 5);
                c.due("lean 15", x, x.hours(1), 100 + 15 * side, 0, 1);
                c.due("over", x.count(5), 1);
                c.due("no sail", x.count(2), 0);
                x.sails(3);
                c.due("she lies at 15", x, x.hours(1), 100 + 15 * side, 0, 1);
                c.due("over once more", x.count(5), 2);
                c.due("no sail again", x.count(2), 0);
            }
            ElderBallast x = Check.with("95+5;95+5");
            Check.say(x, "n9".repeat(16)).watch();
            c.due("144 hours but the 7 first", x.count(5), 137);
            for (int i = 0; i < 14; i++) {
                x.hours(60);
            }
            x.hours(21);
            c.due("one is missing", x.count(5), 998);
            x.hours(1);
            c.due("999", x.count(5), 999);
            c.due("once more", x, x.hours(1), 120, 0, 1);
            c.due("999 at most", x.count(5), 999);
        });
        e.edge(0, "(4) HOUR is 1 more", c -> {
            ElderBallast x = new ElderBallast();
            x.hours(1);
            c.due("1", x.count(1), 1);
            x.hours(60);
            c.due("61", x.count(1), 61);
        });
    }

    private static void rows(Edges e) {
        e.edge(0, "ROW: numbers told last by a call that says so", c -> {
            ElderBallast x = Check.three();
            c.due("none told", x.count(12), 0);
            x.law();
            c.due("four", x.count(12), 4);
            x.fits();
            c.due("one", x.count(12), 1);
            x.line();
            c.due("three", x.count(12), 3);
            x.steps(5);
            c.due("none", x.count(12), 0);
        });
        e.edge(0, "Rows of numbers are compared from the first on", c -> {
            ElderBallast x = Check.with("00+5;00+5;05-5;05-5");
            c.due("-90 and 15 and 45, not 25 and 35", x, x.steps(4), 2, 2, 15);
        });
        e.edge(0, "Sets (of BROTHERS, THOUGHTS) are bits", c -> {
            ElderBallast x = Check.with("10+0;10+0;10+0;10+0;10+0;10+0;90+0");
            x.heard(0, 9);
            c.due("the seventh", x.fits(), 64);
            c.due("all thoughts", x.minds(0), 63);
        });
        e.edge(0, "Fractions are told in lowest terms, upper and lower number (0 by 1)", c -> {
            ElderBallast x = inWind("+9", 9);
            c.due("2 by 256", x, x.grave(8, 5), 0, 1, 128);
            c.due("0 by 1", x, x.grave(7, 5), 0, 0, 1);
            c.due("1 by 1", x, x.grave(8, 10), 0, 1, 1);
            x.hours(7);
            c.due("2 of 10", x, x.grave(1, 2), 0, 1, 5);
            c.due("5 of 10", x, x.grave(1, 5), 0, 1, 2);
            c.due("7 of 10", x, x.grave(1, 7), 0, 7, 10);
        });
        e.edge(0, "Questions change nothing. What is asked of HOURS to come is asked as if nothing else were done", c -> {
            ElderBallast x = Edges.busy();
            x.later(99);
            x.over();
            x.when(3);
            x.rolls(99);
            x.steady(99, 20);
            x.makes(100);
            x.steps(0);
            x.best(60);
            x.trims(0);
            x.frees();
            x.bears();
            x.parties();
            x.just(9);
            x.swaps();
            x.line();
            x.apart();
            x.minds(0);
            x.looks(0);
            x.fits();
            x.asks();
            x.grave(8, 3);
            x.cake(3, 7);
            x.rests(9);
            x.years(1, 60);
            x.moment();
            c.due("all is as it was", Edges.future(x), Edges.future(Edges.busy()));
            x = Edges.busy();
            int lean = x.later(20);
            c.due("20 hours later", x.hours(20), lean);
        });
        e.edge(0, "Questions change nothing.", c -> {
            List<Consumer<ElderBallast>> changes = List.of(x -> x.tells(0, 1), x -> x.moves(0, -1), x -> x.eases(0), x -> x.preaches(1, 3), x -> x.sails(4),
                    x -> x.sheet(2, 4, 1, 2), x -> x.hours(3), ElderBallast::undo, x -> x.again(1), x -> Check.say(x, "975310").thoughts(),
                    x -> Check.say(x, "-9+8").winds(), x -> Check.say(x, "g*2+n").rule(), x -> Check.say(x, "95-5").brothers(),
                    x -> Check.say(x, "n3m0-5").watch(), ElderBallast::denies, ElderBallast::forget);
            for (int i = 0; i < changes.size(); i++) {
                for (int question = 0; question < QUESTIONS.size(); question++) {
                    ElderBallast x = Edges.busy();
                    QUESTIONS.get(question).applyAsInt(x);
                    changes.get(i).accept(x);
                    ElderBallast y = Edges.busy();
                    changes.get(i).accept(y);
                    // A ROW of both alike, for answers with which it stays.
                    x.rests(0);
                    y.rests(0);
                    c.due("question " + question + " behind change " + i, QUESTIONS.get(question).applyAsInt(x), QUESTIONS.get(question).applyAsInt(y));
                    c.due("the ROW of question " + question + " behind change " + i, Check.rowOf(x), Check.rowOf(y));
                }
            }
        });
    }

    private static void refusals(Edges e) {
        e.refused(0, "Refused calls answer NONE, or false, and change nothing but THE TEXT, which a call that reads it empties", -1, List.of(
                x -> x.hours(61), x -> x.tells(4, 0), x -> x.moves(0, 6), x -> x.eases(-1), x -> x.preaches(0, 10), x -> x.sails(10),
                x -> x.later(100), x -> x.when(21), x -> x.rolls(-1), x -> x.steady(0, 0), x -> x.makes(10000), x -> x.steps(-1), x -> x.best(0),
                x -> x.trims(4), x -> x.just(141), x -> x.saw(10, 0, 0), x -> x.minds(4), x -> x.looks(4), x -> x.heard(5, 0),
                x -> x.grave(9, 0), x -> x.cake(0, 1), x -> x.rests(19), x -> x.years(0, 61), x -> x.count(14), x -> x.sheet(4, 0, 0, 0)));
        e.edge(0, "which a call that reads it empties", c -> {
            Edges.inVain(c, "1234567", ElderBallast::thoughts, -7);
            Edges.inVain(c, "15+6", ElderBallast::brothers, -4);
            Edges.inVain(c, "", ElderBallast::winds, -1);
            Edges.inVain(c, "g+", ElderBallast::rule, -3);
            Edges.inVain(c, "n9n", ElderBallast::watch, -4);
            Edges.inVain(c, "g+", ElderBallast::law, -100002);
            ElderBallast x = Check.three();
            Check.say(x, "111111").thoughts();
            c.due("thoughts", x.count(13), 0);
            Check.say(x, "11+1").brothers();
            c.due("brothers", x.count(13), 0);
            Check.say(x, "+1").winds();
            c.due("winds", x.count(13), 0);
            Check.say(x, "g").rule();
            c.due("rule", x.count(13), 0);
            Check.say(x, "n1s5s5s5").watch();
            c.due("watch", x.count(13), 0);
            Check.say(x, "g").law();
            c.due("law", x.count(13), 0);
            Check.say(x, "ab");
            x.sheet(0, 0, 0, 0);
            x.hours(61);
            c.due("the others leave it", x.count(13), 2);
        });
        e.edge(0, "NONE comes ahead of other answers below 0, if not said otherwise", c -> {
            ElderBallast x = Check.with("90+5;00-5");
            c.due("it is 9, and n is 0", x.preaches(0, 0), -1);
            c.due("it is 9, and n is 10", x.preaches(0, 10), -1);
            c.due("she never leans so, and can't", x.when(-21), -1);
            c.due("so many are never made, and can't be", x.makes(10000), -1);
            c.due("no set has so much, and can't", x.just(141), -1);
            c.due("by no two, and v is below 0", x.steps(-1), -1);
            c.due("another kind, and n below 0", x.sheet(4, -1, 0, 0), -1);
            x.saw(0, 0, 20);
            c.due("none is left of a third", x.looks(2), -1);
            c.due("1 and 0", x.cake(1, 0), -1);
        });
        e.refused(0, "the ROW stays with each answer that tells of a refusal or that there is none", -2, List.of(
                x -> x.when(-20), x -> x.makes(9999), x -> x.just(139), x -> x.eases(3), x -> x.preaches(0, 1), x -> x.sails(8), x -> x.tells(0, 3),
                x -> x.moves(0, 5), x -> x.cake(1, 1), x -> x.sheet(0, -1, 5, 5)));
        e.edge(0, "and with calls that do not tell of it", c -> {
            ElderBallast x = Edges.busy();
            String row = Check.rowOf(x);
            x.sign(0);
            x.end(0);
            Check.say(x, "111111").thoughts();
            Check.say(x, "+1").winds();
            Check.say(x, "g").rule();
            Check.say(x, "11+1").brothers();
            x.sheet(2, 3, 4, 1);
            x.tells(0, 5);
            x.moves(0, 0);
            x.eases(0);
            x.preaches(0, 1);
            x.sails(0);
            x.undo();
            x.saw(0, 0, 0);
            x.denies();
            x.heard(0, 0);
            x.forget();
            x.cake(2, 2);
            x.keep(0);
            x.again(0);
            x.count(8);
            x.brother(0, 3);
            x.price(0);
            c.due("the row", Check.rowOf(x), row);
        });
    }
}
