/** A short use of the class; README.md shows this file and what it prints. */
public final class Example {
    public static void main(String[] args) {
        ElderBallast x = new ElderBallast();
        say(x, "30+2;51-1;05+0");
        System.out.println("brothers: " + x.brothers());
        say(x, "+4-2");
        System.out.println("winds: " + x.winds());
        say(x, "g+t*(k=0)");
        System.out.println("rule: " + x.rule());
        System.out.println("1000 and MOMENT: " + x.moment() + ", the ROW: " + row(x));
        System.out.println("100 and LEAN in 9 hours: " + x.later(9) + ", the ROW: " + row(x));
        System.out.println("she is over: " + x.over() + ", the ROW stays: " + row(x));
        say(x, "m0+5n3t95");
        System.out.println("acts done: " + x.watch() + ", the ROW: " + row(x));
        System.out.println("100 and LEAN: " + x.count(3) + ", leagues: " + x.count(4));
        System.out.println("left to undo: " + x.undo() + ", 100 and LEAN: " + x.count(3));
        say(x, "g+t*(k=0");
        System.out.println("rule, cut short: " + x.rule());
    }

    /** Says a text, four signs at a time; what is too much of the last four is cut off. */
    private static void say(ElderBallast x, String text) {
        x.end(0);
        for (int p = 0; p < text.length(); p += 4) {
            int four = 0;
            for (int i = p; i < p + 4; i++) {
                four = four << 8 | (i < text.length() ? text.charAt(i) : 0);
            }
            x.sign(four);
        }
        x.end(text.length());
    }

    private static String row(ElderBallast x) {
        StringBuilder numbers = new StringBuilder();
        for (int i = 0; i < x.count(12); i++) {
            numbers.append(i > 0 ? " " : "").append(x.row(i));
        }
        return numbers.toString();
    }
}
