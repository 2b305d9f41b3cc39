/** Promises 15 to 23: answers. */
final class AnswerTest {
    private static final Class<IllegalStateException> STATE = IllegalStateException.class;
    private static final Class<IllegalArgumentException> ARGUMENT = IllegalArgumentException.class;
    private static final Class<IndexOutOfBoundsException> BOUNDS = IndexOutOfBoundsException.class;
    private static final int[] NO_ANSWER = {Integer.MIN_VALUE, -1, 1, 20, Integer.MAX_VALUE};
    private static final int[] NO_FIELD = {Integer.MIN_VALUE, -1, 6, Integer.MAX_VALUE};

    private AnswerTest() {
    }

    public static void main(String[] args) {
        twentyAnswers();
        latestVersion();
        wrongAnswers();
        ranges();
        putting();
        handingIn();
        valuesOfSigns();
        remainders();
        chainsOfFields();
        checks();
        counting();
        Check.end();
    }

    private static void twentyAnswers() {
        FormWright f = new FormWright();
        Check.refused("begin without a version", STATE, () -> f.begin());
        f.publish();
        for (int k = 0; k < 20; k++) {
            int number = k;
            Check.due("answers ahead of " + k, number, () -> f.answers());
            Check.refused("stateOf ahead of " + k, BOUNDS, () -> f.stateOf(number));
            Check.due("begin " + k, number, () -> f.begin());
            Check.due("stateOf behind " + k, FormWright.OPEN, () -> f.stateOf(number));
        }
        Check.refused("the 21st", STATE, () -> f.begin());
        Check.due("answers", 20, () -> f.answers());
    }

    private static void latestVersion() {
        FormWright f = Forms.typed("100000");
        f.publish();
        f.begin();
        f.setType(0, FormWright.FLAG);
        f.begin();
        f.publish();
        f.begin();
        f.publish();
        Check.due("version of 0", 0, () -> f.versionOf(0));
        Check.due("version of 1", 0, () -> f.versionOf(1));
        Check.due("version of 2", 1, () -> f.versionOf(2));
        Check.due("0 takes a NUMBER", 0, () -> f.put(0, 0, 50));
        Check.refused("2 takes a FLAG", ARGUMENT, () -> f.put(2, 0, 50));
        Check.due("an OPEN one is not doubted", 0, () -> f.doubts(0));
        Check.due("it is OPEN still", FormWright.OPEN, () -> f.stateOf(0));
        Check.due("it counts by its own version", FormWright.COUNTED, () -> f.handIn(0));
    }

    private static void wrongAnswers() {
        FormWright f = Forms.typed("100000");
        f.publish();
        f.begin();
        for (int none : NO_ANSWER) {
            Check.refused("put " + none, BOUNDS, () -> f.put(none, 0, 0));
            Check.refused("handIn " + none, BOUNDS, () -> f.handIn(none));
            Check.refused("stateOf " + none, BOUNDS, () -> f.stateOf(none));
            Check.refused("versionOf " + none, BOUNDS, () -> f.versionOf(none));
            Check.refused("value " + none, BOUNDS, () -> f.value(none, 0));
            Check.refused("refusal " + none, BOUNDS, () -> f.refusal(none));
        }
        for (int none : NO_FIELD) {
            Check.refused("put into " + none, BOUNDS, () -> f.put(0, none, 5000));
            Check.refused("value of " + none, BOUNDS, () -> f.value(0, none));
        }
        f.put(0, 0, 3);
        f.handIn(0);
        for (int none : NO_FIELD) {
            Check.refused("put into " + none + " when COUNTED", BOUNDS, () -> f.put(0, none, 5000));
        }
    }

    private static void ranges() {
        FormWright f = Forms.typed("123000");
        f.publish();
        f.begin();
        int[][] inside = {{-999, -1, 0, 999}, {0, 1}, {0, 5, 9}};
        int[][] outside = {{-1000, 1000, Integer.MIN_VALUE, Integer.MAX_VALUE}, {-1, 2, 256, 1000}, {-1, 10, 999}};
        for (int k = 0; k < 3; k++) {
            int field = k;
            for (int value : inside[k]) {
                Check.due("put " + value + " into " + k, 2 - field, () -> f.put(0, field, value));
                Check.due("value " + value + " of " + k, value, () -> f.value(0, field));
            }
            int last = inside[k][inside[k].length - 1];
            for (int value : outside[k]) {
                Check.refused("put " + value + " into " + k, ARGUMENT, () -> f.put(0, field, value));
                Check.due("value of " + k + " then", last, () -> f.value(0, field));
            }
        }
        for (int value : new int[] {-1000, 0, 1, 1000}) {
            Check.refused("put into an ABSENT one", STATE, () -> f.put(0, 3, value));
        }
    }

    private static void putting() {
        FormWright f = Forms.typed("112030");
        Forms.formula(f, 1, "a+1");
        f.publish();
        f.begin();
        Check.refused("no value yet", STATE, () -> f.value(0, 0));
        Check.refused("no value when ABSENT", STATE, () -> f.value(0, 3));
        Check.due("first", 2, () -> f.put(0, 4, 3));
        Check.due("in its place", 2, () -> f.put(0, 4, 7));
        Check.due("the later one", 7, () -> f.value(0, 4));
        Check.refused("computed", STATE, () -> f.put(0, 1, 3));
        Check.refused("computed, out of range", STATE, () -> f.put(0, 1, 3000));
        Check.refused("computed fields have no value yet", STATE, () -> f.value(0, 1));
        Check.refused("not all have one", STATE, () -> f.handIn(0));
        Check.due("second", 1, () -> f.put(0, 0, 8));
        Check.refused("still not all", STATE, () -> f.handIn(0));
        Check.due("third", 0, () -> f.put(0, 2, 1));
        Check.refused("still no value of the computed one", STATE, () -> f.value(0, 1));
        Check.due("handIn", FormWright.COUNTED, () -> f.handIn(0));
        Check.refused("put when COUNTED", STATE, () -> f.put(0, 0, 9));
        Check.refused("put when COUNTED, out of range", STATE, () -> f.put(0, 0, 9000));
        Check.due("the value stays", 8, () -> f.value(0, 0));
        Check.due("the computed one", 9, () -> f.value(0, 1));
    }

    private static void handingIn() {
        FormWright f = Forms.typed("000000");
        f.publish();
        f.begin();
        Check.refused("refusal when OPEN", STATE, () -> f.refusal(0));
        Check.due("without fields", FormWright.COUNTED, () -> f.handIn(0));
        Check.refused("again", STATE, () -> f.handIn(0));
        Check.due("refusal", FormWright.NONE, () -> f.refusal(0));
        FormWright computed = Forms.typed("100000");
        Forms.formula(computed, 0, "7");
        Forms.formula(computed, 6, "a=8");
        computed.publish();
        computed.begin();
        Check.due("with computed fields alone", FormWright.REFUSED, () -> computed.handIn(0));
        Check.due("the computed value of a REFUSED one", 7, () -> computed.value(0, 0));
        Check.refused("a REFUSED one again", STATE, () -> computed.handIn(0));
        Check.refused("put into a REFUSED one", STATE, () -> computed.put(0, 0, 1));
    }

    private static void valuesOfSigns() {
        expectValue("a+b", 7, -5, 2);
        expectValue("a-b", 7, -5, 12);
        expectValue("a*b", 7, -5, -35);
        expectValue("a-b-a", 7, 3, -3);
        expectValue("a-(b-a)", 7, 3, 11);
        expectValue("a+b*2", 7, 3, 13);
        expectValue("(a+b)*2", 7, 3, 20);
        for (int a = 4; a <= 6; a++) {
            expectFlag("a<b", a, 5, a < 5);
            expectFlag("a>b", a, 5, a > 5);
            expectFlag("a=b", a, 5, a == 5);
            expectFlag("!(a<b)", a, 5, a >= 5);
        }
        expectFlag("a<b", -999, 999, true);
        for (int both = 0; both < 4; both++) {
            int a = both >> 1;
            int b = both & 1;
            expectFlag("a=1&b=1", a, b, a + b == 2);
            expectFlag("a=1|b=1", a, b, a + b > 0);
            expectFlag("!(a=1)", a, b, a == 0);
            expectFlag("!!(b=1)", a, b, b == 1);
            expectFlag("(a=1)=(b=1)", a, b, a == b);
            expectFlag("a=0&b=0|b=1", a, b, a == 0 && b == 0 || b == 1);
            expectFlag("b=1|a=0&b=0", a, b, b == 1 || a == 0 && b == 0);
        }
    }

    private static void remainders() {
        expectValue("a*b", 999, 999, 8001);
        expectValue("a*b", -999, 999, -8001);
        expectValue("a*b", 100, 100, 0);
        expectValue("a*b", 99, 101, 9999);
        expectValue("a*b+a", 999, 999, 9000);
        expectValue("a*b+a+a", 999, 999, 9999);
        expectValue("a*b+a+a+1", 999, 999, 0);
        expectValue("a*b-a-a", -999, 999, -6003);
        expectValue("a*b+a+a", -999, 999, -9999);
        expectValue("a*b+a+a-1", -999, 999, 0);
        expectValue("a*b+a+a-2", -999, 999, -1);
        expectValue("(a*b+a+a)*(a*b+a+a)", 999, 999, 1);
        expectValue("(a*b+a+a)*(a*b+a+a)", -999, 999, 1);
        expectValue("999*999*999", 0, 0, 2999);
        expectValue("0-999*999*999", 0, 0, -2999);
    }

    private static void expectValue(String text, int a, int b, int want) {
        FormWright f = Forms.typed("111000");
        Forms.formula(f, 2, text);
        f.publish();
        Forms.handedIn(f, a, b);
        Check.due(text + " with " + a + " and " + b, want, () -> f.value(0, 2));
    }

    private static void expectFlag(String text, int a, int b, boolean want) {
        FormWright f = Forms.typed("112000");
        Forms.formula(f, 2, text);
        Forms.formula(f, 8, text);
        f.publish();
        Forms.handedIn(f, a, b);
        String name = text + " with " + a + " and " + b;
        Check.due(name, want ? 1 : 0, () -> f.value(0, 2));
        Check.due(name + " as a check", want ? FormWright.COUNTED : FormWright.REFUSED, () -> f.stateOf(0));
    }

    private static void chainsOfFields() {
        FormWright f = Forms.typed("111133");
        Forms.formula(f, 0, "b+1");
        Forms.formula(f, 1, "c*999");
        Forms.formula(f, 2, "d*999");
        Forms.formula(f, 4, "f");
        f.publish();
        Forms.handedIn(f, null, null, null, 999, null, 7);
        Check.due("c", 8001, () -> f.value(0, 2));
        Check.due("b", 2999, () -> f.value(0, 1));
        Check.due("a", 3000, () -> f.value(0, 0));
        Check.due("e, a CHOICE", 7, () -> f.value(0, 4));
        Check.due("order", "cbae", () -> Forms.order(f, 0));
        Check.due("d", 999, () -> f.value(0, 3));
    }

    private static void checks() {
        FormWright f = Forms.typed("123100");
        Forms.formula(f, 3, "a*2");
        Forms.formula(f, 9, "a<10");
        Forms.formula(f, 7, "d>0");
        Forms.formula(f, 8, "b|c=3");
        f.publish();
        int[][] rows = {{5, 1, 0, -1}, {10, 1, 0, 9}, {0, 1, 0, 7}, {5, 0, 3, -1}, {5, 0, 4, 8}, {10, 0, 4, 8}, {0, 0, 0, 7}};
        for (int k = 0; k < rows.length; k++) {
            int[] row = rows[k];
            int answer = Forms.filled(f, row[0], row[1], row[2]);
            int state = row[3] == -1 ? FormWright.COUNTED : FormWright.REFUSED;
            Check.refused("refusal ahead " + k, STATE, () -> f.refusal(answer));
            Check.due("handIn " + k, state, () -> f.handIn(answer));
            Check.due("stateOf " + k, state, () -> f.stateOf(answer));
            Check.due("refusal " + k, row[3], () -> f.refusal(answer));
            Check.due("doubts " + k, 0, () -> f.doubts(answer));
            Check.due("computed " + k, row[0] * 2, () -> f.value(answer, 3));
        }
        // the checks of a later version do not judge an answer of this one
        Forms.formula(f, 6, "a=77");
        f.publish();
        Check.due("refusal by the own version", FormWright.NONE, () -> f.refusal(0));
        Check.due("refusal by the own version", 9, () -> f.refusal(1));
    }

    private static void counting() {
        FormWright f = Forms.typed("100000");
        Forms.formula(f, 6, "a>0");
        f.publish();
        Check.due("counted at first", 0, () -> f.counted());
        f.begin();
        Check.due("OPEN does not count", 0, () -> f.counted());
        Forms.handedIn(f, 1);
        Forms.handedIn(f, 2);
        Check.due("two", 2, () -> f.counted());
        Forms.handedIn(f, 0);
        Check.due("REFUSED does not count", 2, () -> f.counted());
        f.doubt(1, 0);
        Check.due("HELD does not count", 1, () -> f.counted());
        f.settle(1, 0, true);
        Check.due("it counts again", 2, () -> f.counted());
        f.doubt(2, 0);
        f.settle(2, 0, false);
        Check.due("STRUCK does not count", 1, () -> f.counted());
        for (int k = 4; k < 20; k++) {
            Forms.handedIn(f, 3);
        }
        Check.due("all others", 17, () -> f.counted());
        Check.due("answers of each state", 20, () -> f.answers());
    }
}
