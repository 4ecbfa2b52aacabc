import java.util.NoSuchElementException;

/** What the tests share: texts said to an object, answers held against what is due. */
final class Check {
    private int asked;
    private int wrong;
    private String about = "";

    /** A call that may throw. */
    interface Call {
        void run();
    }

    /** An object with three brothers, who weigh 3, 6 and 9, in a wind of 4: PULL is 5. */
    static ElderBallast three() {
        ElderBallast x = with("30+2;51-1;05+0");
        say(x, "+4").winds();
        return x;
    }

    static ElderBallast with(String brothers) {
        ElderBallast x = new ElderBallast();
        say(x, brothers).brothers();
        return x;
    }

    static ElderBallast say(ElderBallast x, String text) {
        x.end(0);
        for (int p = 0; p < text.length(); p += 4) {
            int v = 0;
            for (int i = p; i < p + 4; i++) {
                v = v << 8 | (i < text.length() ? text.charAt(i) & 255 : 'x');
            }
            x.sign(v);
        }
        x.end(text.length());
        return x;
    }

    /** What the answers asked from now on are about. */
    void about(String words) {
        about = words;
    }

    int asked() {
        return asked;
    }

    void due(String what, long got, long want) {
        asked++;
        if (got != want) {
            wrong++;
            System.out.println(about + what + " answered " + got + ", due is " + want);
        }
    }

    void due(String what, String got, String want) {
        asked++;
        if (!got.equals(want)) {
            wrong++;
            System.out.println(about + what + " answered\n  " + got + ", due is\n  " + want);
        }
    }

    void due(String what, boolean got, boolean want) {
        due(what, got ? 1 : 0, want ? 1 : 0);
    }

    /** An answer together with the ROW behind it. */
    void due(String what, ElderBallast x, long got, long want, long... row) {
        due(what, got, want);
        due(what + ", numbers of the ROW", x.count(12), row.length);
        for (int i = 0; i < row.length && i < x.count(12); i++) {
            due(what + ", row " + i, x.row(i), row[i]);
        }
    }

    void throwsNoSuch(String what, Call call) {
        asked++;
        try {
            call.run();
        } catch (NoSuchElementException e) {
            return;
        }
        wrong++;
        System.out.println(about + what + " does not throw NoSuchElementException");
    }

    /** All that can be seen of an object, but for its ROW. */
    static String seenOf(ElderBallast x) {
        StringBuilder s = new StringBuilder();
        for (int i = 0; i < 14; i++) {
            s.append(i == 12 ? 0 : x.count(i)).append(' ');
        }
        for (int b = 0; b < x.count(0); b++) {
            for (int what = 0; what < 4; what++) {
                s.append(x.brother(b, what)).append(' ');
            }
        }
        return s.toString();
    }

    static String rowOf(ElderBallast x) {
        StringBuilder s = new StringBuilder();
        for (int i = 0; i < x.count(12); i++) {
            s.append(x.row(i)).append(' ');
        }
        return s.toString();
    }

    void close() {
        System.out.println(asked + " answers asked, " + wrong + " not as due");
        if (wrong > 0) {
            System.exit(1);
        }
    }
}
