import java.lang.reflect.Method;

/** The terms: questions change nothing; the ROW stays with refusals, with "none", and where none is told. */
public final class RowTest {
    private static final Check CHECK = new Check();

    public static void main(String[] args) throws Exception {
        questionsChangeNothing();
        rowStays();
        refusedChangesNothing();
        CHECK.close();
    }

    private static long call(ElderBallast x, String name, int... args) throws Exception {
        Class<?>[] types = new Class<?>[args.length];
        Object[] values = new Object[args.length];
        for (int i = 0; i < args.length; i++) {
            types[i] = int.class;
            values[i] = args[i];
        }
        Method m = ElderBallast.class.getMethod(name, types);
        Object answer = m.invoke(x, values);
        return answer instanceof Boolean ? (Boolean) answer ? 1 : 0 : ((Number) answer).longValue();
    }

    private static ElderBallast busy() {
        ElderBallast x = Check.with("93+5;41-2;20+3;05+0");
        Check.say(x, "+7-3+9").winds();
        Check.say(x, "g+t*k+(n>3)+l/2").rule();
        x.sails(8);
        x.hours(4);
        x.saw(1, 2, 3);
        x.heard(0, 3);
        x.keep(1);
        return x;
    }

    private static void questionsChangeNothing() throws Exception {
        Object[][] questions = {{"moment"}, {"later", 50}, {"over"}, {"when", 3}, {"rolls", 60}, {"steady", 50, 9}, {"makes", 300}, {"steps", 0},
            {"steps", 3}, {"best", 60}, {"trims", 0}, {"frees"}, {"bears"}, {"parties"}, {"just", 12}, {"swaps"}, {"line"}, {"apart"}, {"minds", 1},
            {"looks", 1}, {"fits"}, {"asks"}, {"grave", 8, 3}, {"cake", 3, 7}, {"rests", 9}, {"years", 5, 60}, {"count", 8}, {"row", 0}, {"law"},
            {"brother", 0, 3}, {"price", 0}};
        for (Object[] q : questions) {
            ElderBallast x = busy();
            x.moment();
            String before = Check.seenOf(x);
            int[] args = new int[q.length - 1];
            for (int i = 1; i < q.length; i++) {
                args[i - 1] = (Integer) q[i];
            }
            long first = call(x, (String) q[0], args);
            String row = Check.rowOf(x);
            CHECK.due(q[0] + " changes nothing", before.equals(Check.seenOf(x)), true);
            CHECK.due(q[0] + " asked again", call(x, (String) q[0], args), first);
            CHECK.due(q[0] + " tells the same again", row.equals(Check.rowOf(x)), true);
        }
    }

    private static void rowStays() throws Exception {
        ElderBallast x = busy();
        x.moment();
        String row = Check.rowOf(x);
        Object[][] calls = {{"sign", 0}, {"end", 0}, {"rule"}, {"winds"}, {"thoughts"}, {"brothers"}, {"sheet", 2, 3, 1, 1}, {"price", 1},
            {"brother", 0, 0}, {"tells", 0, 1}, {"moves", 0, 1}, {"eases", 1}, {"preaches", 1, 1}, {"sails", 3}, {"undo"}, {"saw", 0, 0, 0},
            {"denies"}, {"heard", 0, 0}, {"forget"}, {"cake", 2, 2}, {"keep", 0}, {"again", 0}, {"count", 3}, {"row", 0}, {"hours", 61},
            {"later", 100}, {"when", 21}, {"rolls", 100}, {"steady", 0, 0}, {"makes", -1}, {"makes", 9999}, {"steps", 21}, {"best", 0}, {"trims", 9},
            {"just", 141}, {"just", 139}, {"minds", 9}, {"looks", 9}, {"grave", 9, 9}, {"rests", 19}, {"years", 1, 0}, {"again", 2}, {"keep", 2}};
        for (Object[] q : calls) {
            int[] args = new int[q.length - 1];
            for (int i = 1; i < q.length; i++) {
                args[i - 1] = (Integer) q[i];
            }
            call(x, (String) q[0], args);
            CHECK.due("the row stays with " + q[0], row.equals(Check.rowOf(x)), true);
        }
        ElderBallast none = new ElderBallast();
        none.moment();
        row = Check.rowOf(none);
        for (String name : new String[] {"over", "frees", "swaps", "asks", "undo"}) {
            CHECK.due(name + " tells that there is none", call(none, name) < 0, true);
            CHECK.due("the row stays with none of " + name, row.equals(Check.rowOf(none)), true);
        }
    }

    private static void refusedChangesNothing() throws Exception {
        int[] far = {Integer.MIN_VALUE, Integer.MAX_VALUE, -1000, 1000, -25, 145};
        String[][] calls = {{"hours", "1"}, {"tells", "2"}, {"moves", "2"}, {"eases", "1"}, {"preaches", "2"}, {"sails", "1"}, {"later", "1"}, {"when", "1"},
            {"rolls", "1"}, {"steady", "2"}, {"steps", "1"}, {"best", "1"}, {"trims", "1"}, {"just", "1"}, {"saw", "3"}, {"minds", "1"},
            {"looks", "1"}, {"heard", "2"}, {"grave", "2"}, {"cake", "2"}, {"rests", "1"}, {"count", "1"}};
        ElderBallast x = busy();
        x.moment();
        String before = Check.seenOf(x);
        String row = Check.rowOf(x);
        for (String[] c : calls) {
            for (int v : far) {
                int[] args = new int[Integer.parseInt(c[1])];
                java.util.Arrays.fill(args, v);
                CHECK.due(c[0] + " by " + v, call(x, c[0], args), -1);
            }
        }
        CHECK.due("years by 61", x.years(0, Integer.MAX_VALUE), -1);
        CHECK.due("years by -1", x.years(0, Integer.MIN_VALUE), -1);
        CHECK.due("makes by -1", x.makes(Integer.MIN_VALUE), -1);
        CHECK.due("makes by more", x.makes(Integer.MAX_VALUE), -1);
        CHECK.due("keep by far", x.keep(Integer.MIN_VALUE), false);
        CHECK.due("again by far", x.again(Integer.MAX_VALUE), false);
        CHECK.due("end by far", x.end(Integer.MAX_VALUE), false);
        CHECK.due("end by far", x.end(Integer.MIN_VALUE), false);
        CHECK.due("refused calls change nothing", before.equals(Check.seenOf(x)), true);
        CHECK.due("refused calls leave the row", row.equals(Check.rowOf(x)), true);
    }
}
