/** The sentences about answers (promises 15 to 23), each at its edges. Ahead of each test stands the sentence. */
final class AnswerEdgeTest {
    private static final Class<IllegalStateException> STATE = IllegalStateException.class;
    private static final Class<IllegalArgumentException> ARGUMENT = IllegalArgumentException.class;
    private static final Class<IndexOutOfBoundsException> BOUNDS = IndexOutOfBoundsException.class;
    private static final int NONE = FormWright.NONE;
    private static final int OPEN = FormWright.OPEN;
    private static final int COUNTED = FormWright.COUNTED;
    private static final int REFUSED = FormWright.REFUSED;
    private static final int HELD = FormWright.HELD;
    private static final int STRUCK = FormWright.STRUCK;

    private AnswerEdgeTest() {
    }

    public static void main(String[] args) {
        twentyAnswers();
        latestVersionOfTen();
        valuesInRange();
        rangesByTheOwnVersion();
        valuesStillMissing();
        inPlaceOfOne();
        handedInWhenAllHaveOne();
        computedWhenHandedIn();
        noValue();
        remaindersOfSums();
        remaindersOfDifferences();
        remaindersOfProducts();
        remaindersOfEachResult();
        beyondWhatCanBePut();
        comparisons();
        flags();
        fromTheLeft();
        computedInTheirOrder();
        refusedBySomeCheck();
        lowestCheck();
        judgedAnew();
        statesOfAnswers();
        noneCountsThatIsRefused();
        countedOnes();
        Check.end();
    }

    // "Answers are numbered from 0; there can be 20." "ISE if there is no version"
    private static void twentyAnswers() {
        FormWright f = new FormWright();
        Check.refused("begin without a version", STATE, () -> f.begin());
        Check.due("answers then", 0, () -> f.answers());
        f.publish();
        for (int answer = 0; answer < 20; answer++) {
            int number = answer;
            Check.refused("the answer " + answer + " ahead", BOUNDS, () -> f.versionOf(number));
            Check.due("begin " + answer, number, () -> f.begin());
            Check.due("answers behind " + answer, number + 1, () -> f.answers());
            Check.due("its state", OPEN, () -> f.stateOf(number));
        }
        for (int more = 0; more < 3; more++) {
            Check.refused("the 21st", STATE, () -> f.begin());
            Check.due("answers then", 20, () -> f.answers());
        }
        f.handIn(19);
        f.publish();
        Check.refused("the 21st, with a new version", STATE, () -> f.begin());
    }

    // "An answer fills the version that was the latest one when it was begun."
    private static void latestVersionOfTen() {
        FormWright f = new FormWright();
        for (int version = 0; version < 10; version++) {
            f.setType(0, version % 4);
            f.publish();
            f.begin();
            f.setType(0, (version + 1) % 4);
            f.begin();
        }
        for (int answer = 0; answer < 20; answer++) {
            int number = answer;
            Check.due("versionOf " + answer, number / 2, () -> f.versionOf(number));
            int type = number / 2 % 4;
            Object want = type == FormWright.ABSENT ? Check.nameOf(STATE) : type == FormWright.NUMBER ? (Object) 0
                : Check.nameOf(ARGUMENT);
            Check.due("put into " + answer + " by its version", want, () -> f.put(number, 0, 500));
        }
    }

    // "NUMBER (-999 to 999), FLAG (0 or 1) or CHOICE (0 to 9)", "IAE if value is out of range"
    private static void valuesInRange() {
        int[] low = {0, -999, 0, 0};
        int[] high = {0, 999, 1, 9};
        for (int field = 0; field <= 5; field++) {
            for (int type = FormWright.NUMBER; type <= FormWright.CHOICE; type++) {
                FormWright f = new FormWright();
                f.setType(field, type);
                f.publish();
                f.begin();
                int number = field;
                for (int value : new int[] {low[type], low[type] + 1, 0, 1, high[type] - 1, high[type]}) {
                    Check.due("put " + value + ", type " + type, 0, () -> f.put(0, number, value));
                    Check.due("value " + value + ", type " + type, value, () -> f.value(0, number));
                }
                for (int value : new int[] {low[type] - 1, high[type] + 1, low[type] - 256, high[type] + 256,
                    low[type] + Integer.MIN_VALUE, Integer.MAX_VALUE, Integer.MIN_VALUE}) {
                    if (value < low[type] || value > high[type]) {
                        Check.refused("put " + value + ", type " + type, ARGUMENT, () -> f.put(0, number, value));
                        Check.due("value of type " + type + " stays", high[type], () -> f.value(0, number));
                    }
                }
            }
        }
        FormWright all = Forms.typed("100000");
        all.publish();
        all.begin();
        for (int value = -1100; value <= 1100; value++) {
            int put = value;
            FormWright f = all;
            if (Math.abs(value) <= 999) {
                Check.due("put " + value, 0, () -> f.put(0, 0, put));
            } else {
                Check.refused("put " + value, ARGUMENT, () -> f.put(0, 0, put));
            }
            if (value % 100 == 0) {
                all = Forms.typed("100000");
                all.publish();
                all.begin();
            }
        }
    }

    // "value: by the type of the field in the version of the answer"
    private static void rangesByTheOwnVersion() {
        FormWright f = Forms.typed("120000");
        f.publish();
        f.begin();
        f.setType(0, FormWright.FLAG);
        f.setType(1, FormWright.NUMBER);
        Check.due("by its version, not the draft", 1, () -> f.put(0, 0, 999));
        Check.refused("by its version, not the draft", ARGUMENT, () -> f.put(0, 1, 2));
        f.publish();
        Check.due("not by a later version", 1, () -> f.put(0, 0, -999));
        Check.refused("not by a later version", ARGUMENT, () -> f.put(0, 1, 999));
        f.setType(0, FormWright.ABSENT);
        f.publish();
        Check.due("ABSENT later", 1, () -> f.put(0, 0, 3));
        Forms.formula(f, 1, "7");
        f.publish();
        Check.due("computed later", 0, () -> f.put(0, 1, 1));
        Check.due("handed in by its own version", COUNTED, () -> f.handIn(0));
        Check.due("with the value that was put", 1, () -> f.value(0, 1));
    }

    // "Returns how many fields of the answer have no value still, of those that are not computed."
    private static void valuesStillMissing() {
        FormWright f = Forms.typed("111111");
        f.publish();
        f.begin();
        for (int field = 5; field >= 0; field--) {
            int number = field;
            Check.due("missing behind " + field, number, () -> f.put(0, number, 0));
            Check.due("and again", number, () -> f.put(0, number, 1));
        }
        FormWright g = Forms.typed("101011");
        Forms.formula(g, 2, "a");
        Forms.formula(g, 5, "c");
        g.publish();
        g.begin();
        Check.due("neither ABSENT nor computed ones", 1, () -> g.put(0, 4, 0));
        Check.due("none", 0, () -> g.put(0, 0, 0));
        Check.due("none still", 0, () -> g.put(0, 4, 9));
        FormWright alone = Forms.typed("000003");
        alone.publish();
        alone.begin();
        alone.begin();
        Check.due("the only one", 0, () -> alone.put(1, 5, 9));
        Check.refused("the other answer has none", STATE, () -> alone.handIn(0));
    }

    // "Puts a value into a field of an OPEN answer, in place of one that there may be."
    private static void inPlaceOfOne() {
        FormWright f = Forms.typed("111000");
        Forms.formula(f, 2, "a-b");
        f.publish();
        Forms.filled(f, 1, 2);
        Forms.filled(f, 3, 4);
        f.put(0, 0, 10);
        f.put(0, 0, 20);
        f.put(0, 1, -5);
        Check.due("the last one", 20, () -> f.value(0, 0));
        Check.due("of the other field", -5, () -> f.value(0, 1));
        Check.due("not of the other answer", 3, () -> f.value(1, 0));
        f.handIn(0);
        f.handIn(1);
        Check.due("computed from the last ones", 25, () -> f.value(0, 2));
        Check.due("each from its own", -1, () -> f.value(1, 2));
    }

    // "When all have one, it can be handed in", "ISE if .. some field that is not computed has no value"
    private static void handedInWhenAllHaveOne() {
        for (int have = 0; have < 64; have++) {
            FormWright f = Forms.typed("123123");
            f.publish();
            f.begin();
            for (int field = 0; field < 6; field++) {
                if ((have >> field & 1) == 1) {
                    f.put(0, field, 1);
                }
            }
            Object want = have == 63 ? (Object) COUNTED : Check.nameOf(STATE);
            Check.due("with the fields " + have, want, () -> f.handIn(0));
            Check.due("its state", have == 63 ? COUNTED : OPEN, () -> f.stateOf(0));
        }
        FormWright none = new FormWright();
        none.publish();
        none.begin();
        Check.due("without fields", COUNTED, () -> none.handIn(0));
        Check.refused("once", STATE, () -> none.handIn(0));
        FormWright computed = Forms.typed("111111");
        for (int field = 0; field < 6; field++) {
            Forms.formula(computed, field, "" + field);
        }
        computed.publish();
        computed.begin();
        Check.due("with all computed", COUNTED, () -> computed.handIn(0));
        Check.due("the last", 5, () -> computed.value(0, 5));
        FormWright refused = new FormWright();
        Forms.formula(refused, 9, "1=2");
        refused.publish();
        refused.begin();
        Check.due("without fields, by a check", REFUSED, () -> refused.handIn(0));
        Check.due("which", 9, () -> refused.refusal(0));
    }

    // "the computed fields get their values": then, not ahead of it, and in a REFUSED answer too
    private static void computedWhenHandedIn() {
        FormWright f = Forms.typed("112000");
        Forms.formula(f, 1, "a*2");
        Forms.formula(f, 2, "b>10");
        Forms.formula(f, 6, "c");
        f.publish();
        Forms.filled(f, 6);
        Forms.filled(f, 5);
        for (int answer = 0; answer < 2; answer++) {
            int number = answer;
            Check.refused("ahead of it", STATE, () -> f.value(number, 1));
            Check.due("state", answer == 0 ? COUNTED : REFUSED, () -> f.handIn(number));
            Check.due("b of " + answer, 12 - 2 * answer, () -> f.value(number, 1));
            Check.due("c of " + answer, 1 - answer, () -> f.value(number, 2));
        }
    }

    // "ISE if the field has no value": put, not put, computed, ABSENT, of each state
    private static void noValue() {
        FormWright f = Forms.typed("110000");
        Forms.formula(f, 1, "a");
        f.publish();
        f.begin();
        for (int field = 0; field < 6; field++) {
            int number = field;
            Check.refused("of an empty one " + field, STATE, () -> f.value(0, number));
        }
        f.put(0, 0, 0);
        Check.due("a value of 0 is one", 0, () -> f.value(0, 0));
        Check.refused("computed", STATE, () -> f.value(0, 1));
        f.handIn(0);
        Check.due("computed then", 0, () -> f.value(0, 1));
        Check.refused("ABSENT", STATE, () -> f.value(0, 2));
        f.setType(2, FormWright.NUMBER);
        f.publish();
        Check.refused("ABSENT in its own version", STATE, () -> f.value(0, 2));
        f.setType(0, FormWright.ABSENT);
        f.publish();
        Check.due("not ABSENT in its own version", 0, () -> f.value(0, 0));
    }

    // "Each result of "+", "-" and "*" is the remainder of that, divided by 10000, with its sign"
    private static void remaindersOfSums() {
        expectValue("a*10+b", 999, 8, 9998);
        expectValue("a*10+b", 999, 9, 9999);
        expectValue("a*10+b", 999, 10, 0);
        expectValue("a*10+b", 999, 11, 1);
        expectValue("a*10+b", -999, -9, -9999);
        expectValue("a*10+b", -999, -10, 0);
        expectValue("a*10+b", -999, -11, -1);
        expectValue("(a*10+b)+(a*10+b)", 999, 9, 9998);
        expectValue("(a*10+b)+(a*10+b)", -999, -9, -9998);
        expectValue("a+b", 999, -999, 0);
        expectValue("a+b", 999, 999, 1998);
        expectValue("a+b", -999, -999, -1998);
    }

    private static void remaindersOfDifferences() {
        expectValue("a*10-b", 999, -9, 9999);
        expectValue("a*10-b", 999, -10, 0);
        expectValue("a*10-b", 999, -11, 1);
        expectValue("a*10-b", -999, 9, -9999);
        expectValue("a*10-b", -999, 10, 0);
        expectValue("a*10-b", -999, 11, -1);
        expectValue("a*10-9-b*10-10", 999, -999, 9961);
        expectValue("0-a*10-9-(a*10+9)", 999, 0, -9998);
        expectValue("a-b", 3, 5, -2);
        expectValue("a-b", -999, 999, -1998);
    }

    private static void remaindersOfProducts() {
        expectValue("a*b", 99, 101, 9999);
        expectValue("a*b", 100, 100, 0);
        expectValue("a*b", 137, 73, 1);
        expectValue("a*b", -99, 101, -9999);
        expectValue("a*b", -100, 100, 0);
        expectValue("a*b", -137, 73, -1);
        expectValue("a*b", 137, -73, -1);
        expectValue("a*b", -137, -73, 1);
        expectValue("a*b", 999, 999, 8001);
        expectValue("a*b", -999, 999, -8001);
        expectValue("a*b", -999, 0, 0);
        // the largest that two results can make: 9999 * 9999
        expectValue("(a*10+b)*(a*10+b)", 999, 9, 1);
        expectValue("(a*10+b)*(0-a*10-b)", 999, 9, -1);
        expectValue("(a*10+b)*(a*10+b-1)", 999, 9, 2);
    }

    // "Each result": of each sign, not the last one's alone
    private static void remaindersOfEachResult() {
        expectValue("a*10+b+1-1", 999, 9, -1);
        expectValue("a*10+b-1+1", -999, -9, 1);
        expectValue("a*10+10-b", 999, 1, -1);
        expectValue("100*a*b", 100, 999, 0);
        expectValue("100*(a*b)", 100, 999, 0);
        expectValue("a*b*0+a*b", 999, 999, 8001);
        expectValue("a*b*a", 999, 999, 2999);
        expectValue("a*(b*a)", 999, -999, -2999);
        expectFlag("a*b=0", 100, 100, true);
        expectFlag("a*b=1", 137, 73, true);
        expectFlag("a*b>a", 100, 100, false);
        expectFlag("a*10+b<1", 999, 10, true);
    }

    // "so a computed field may have a value beyond those that can be put"
    private static void beyondWhatCanBePut() {
        expectValue("a+b", 999, 1, 1000);
        expectValue("a-b", -999, 1, -1000);
        expectValue("a*10+b", 999, 9, 9999);
        FormWright f = Forms.typed("111100");
        Forms.formula(f, 1, "a*10+9");
        Forms.formula(f, 2, "b+b");
        Forms.formula(f, 3, "c*b");
        f.publish();
        Forms.handedIn(f, 999);
        Check.due("b", 9999, () -> f.value(0, 1));
        Check.due("c, from b", 9998, () -> f.value(0, 2));
        Check.due("d, from both", 2, () -> f.value(0, 3));
    }

    // ""<", "=" and ">" give 1 if they hold, otherwise 0"
    private static void comparisons() {
        int[] values = {-999, -1, 0, 1, 5, 999};
        for (int a : values) {
            for (int b : values) {
                expectFlag("a<b", a, b, a < b);
                expectFlag("a=b", a, b, a == b);
                expectFlag("a>b", a, b, a > b);
                expectFlag("!(a<b)", a, b, a >= b);
            }
        }
        FormWright f = Forms.typed("323200");
        Forms.formula(f, 1, "a=c");
        Forms.formula(f, 3, "a=7");
        f.publish();
        for (int a = 0; a <= 9; a++) {
            int choice = a;
            int answer = Forms.handedIn(f, a, null, 4);
            Check.due("CHOICE and CHOICE " + a, choice == 4 ? 1 : 0, () -> f.value(answer, 1));
            Check.due("CHOICE and NUMBER " + a, choice == 7 ? 1 : 0, () -> f.value(answer, 3));
        }
    }

    // ""&" gives 1 if both are 1, "|" if one is, "!" if it is 0"
    private static void flags() {
        for (int values = 0; values < 4; values++) {
            boolean a = (values & 1) == 1;
            boolean b = values > 1;
            expectFlags("a&b", a, b, a && b);
            expectFlags("a|b", a, b, a || b);
            expectFlags("!a", a, b, !a);
            expectFlags("!!a", a, b, a);
            expectFlags("!!!b", a, b, !b);
            expectFlags("a=b", a, b, a == b);
            expectFlags("!a=b", a, b, a != b);
            expectFlags("!(a&b)", a, b, !(a && b));
            expectFlags("!a&b", a, b, !a && b);
            expectFlags("a|!b", a, b, a || !b);
            expectFlags("a|b&a", a, b, a);
            expectFlags("b&a|a", a, b, a);
            expectFlags("(a|b)&b", a, b, b);
        }
    }

    // "sums, products, "&" and "|" are done from the left", and "*" ahead of "+", "&" ahead of "|"
    private static void fromTheLeft() {
        expectValue("a-b-a", 7, 3, -3);
        expectValue("a-b+a", 7, 3, 11);
        expectValue("a-(b+a)", 7, 3, -3);
        expectValue("a-b*2", 7, 3, 1);
        expectValue("2*a-b", 7, 3, 11);
        expectValue("2*(a-b)", 7, 3, 8);
        expectValue("a-b-1-1-1", 7, 3, 1);
        // 9999 + 1 is 0, but 1 - 9999 is not: what is done first shows
        expectValue("a*10+b+1-b", 999, 9, -9);
        expectValue("a*10+b+(1-b)", 999, 9, 9991);
        expectFlag("a+1<b*2", 5, 3, false);
        expectFlag("a+1=b*2", 5, 3, true);
    }

    // "in the order in which they hang on one another"
    private static void computedInTheirOrder() {
        FormWright down = Forms.typed("111111");
        FormWright up = Forms.typed("111111");
        for (int field = 0; field < 5; field++) {
            Forms.formula(down, field, (char) ('b' + field) + "+1");
            Forms.formula(up, field + 1, (char) ('a' + field) + "+1");
        }
        down.publish();
        up.publish();
        Forms.handedIn(down, null, null, null, null, null, 10);
        Forms.handedIn(up, 10);
        for (int field = 0; field < 6; field++) {
            int number = field;
            Check.due("down " + field, 15 - number, () -> down.value(0, number));
            Check.due("up " + field, 10 + number, () -> up.value(0, number));
        }
    }

    // "if some check of its version gives 0, it is REFUSED, otherwise COUNTED": all ways that four checks can give
    private static void refusedBySomeCheck() {
        for (int ways = 0; ways < 16; ways++) {
            FormWright f = Forms.typed("222200");
            for (int check = 6; check <= 9; check++) {
                Forms.formula(f, check, String.valueOf((char) ('a' + check - 6)));
            }
            f.publish();
            f.begin();
            for (int field = 0; field < 4; field++) {
                f.put(0, field, ways >> field & 1);
            }
            Check.due("checks " + ways, ways == 15 ? COUNTED : REFUSED, () -> f.handIn(0));
            int lowest = ways == 15 ? NONE : 6 + Integer.numberOfTrailingZeros(~ways);
            Check.due("refusal " + ways, lowest, () -> f.refusal(0));
            Check.due("counted " + ways, ways == 15 ? 1 : 0, () -> f.counted());
        }
    }

    // "Returns the lowest formula of its version, of those from 6 to 9, that gives 0; NONE if none does."
    private static void lowestCheck() {
        for (int check = 6; check <= 9; check++) {
            int number = check;
            FormWright f = Forms.typed("120000");
            Forms.formula(f, 1, "a=5");
            Forms.formula(f, check, "a>0");
            f.publish();
            Forms.handedIn(f, 0);
            Forms.handedIn(f, 1);
            Check.due("the only one", number, () -> f.refusal(0));
            Check.due("a computed FLAG of 0 is no check", NONE, () -> f.refusal(1));
            Check.due("so it is COUNTED", COUNTED, () -> f.stateOf(1));
        }
    }

    // "judged anew from its version and the values that were put": for each state
    private static void judgedAnew() {
        FormWright f = Forms.typed("110000");
        Forms.formula(f, 1, "a*2");
        Forms.formula(f, 7, "b<100");
        f.publish();
        Forms.filled(f, 60);
        Forms.handedIn(f, 60);
        for (int answer = 2; answer <= 5; answer++) {
            Forms.handedIn(f, 10);
            if (answer > 2) {
                f.doubt(answer, 0);
            }
        }
        f.settle(4, 0, false);
        f.amend(5, 0, 50);
        f.dropFormula(7);
        Forms.formula(f, 6, "a>500");
        Forms.formula(f, 1, "a+1");
        f.publish();
        Check.refused("OPEN", STATE, () -> f.refusal(0));
        int[] wants = {7, NONE, NONE, NONE, 7};
        for (int answer = 1; answer <= 5; answer++) {
            int number = answer;
            Check.due("refusal of " + answer, wants[number - 1], () -> f.refusal(number));
            Check.due("and again", wants[number - 1], () -> f.refusal(number));
        }
        Check.due("of the next version", 6, () -> {
            int answer = Forms.handedIn(f, 10);
            return f.refusal(answer);
        });
    }

    // "Returns OPEN, COUNTED, REFUSED, HELD or STRUCK."
    private static void statesOfAnswers() {
        FormWright f = Forms.typed("100000");
        Forms.formula(f, 6, "a>0");
        f.publish();
        Forms.filled(f, 1);
        Check.due("begun", OPEN, () -> f.stateOf(0));
        Forms.handedIn(f, 1);
        Check.due("handed in", COUNTED, () -> f.stateOf(1));
        Forms.handedIn(f, 0);
        Check.due("refused", REFUSED, () -> f.stateOf(2));
        Forms.handedIn(f, 1);
        f.doubt(3, 0);
        Check.due("doubted", HELD, () -> f.stateOf(3));
        Forms.handedIn(f, 1);
        f.doubt(4, 0);
        f.settle(4, 0, false);
        Check.due("struck", STRUCK, () -> f.stateOf(4));
        Check.due("each its own", "01234", () -> "" + f.stateOf(0) + f.stateOf(1) + f.stateOf(2) + f.stateOf(3) + f.stateOf(4));
    }

    // "No answer counts that a formula of its own version refuses."
    private static void noneCountsThatIsRefused() {
        FormWright f = Forms.typed("111000");
        Forms.formula(f, 2, "a*b");
        Forms.formula(f, 6, "a<5");
        Forms.formula(f, 8, "c<9|c=12");
        f.publish();
        for (int answer = 0; answer < 20; answer++) {
            int number = answer;
            int a = answer % 7;
            int b = answer % 5;
            boolean isGood = a < 5 && (a * b < 9 || a * b == 12);
            Forms.filled(f, a, b);
            Check.due("handIn " + a + " " + b, isGood ? COUNTED : REFUSED, () -> f.handIn(number));
            if (!isGood) {
                Check.refused("it cannot be doubted, so not settled", STATE, () -> f.doubt(number, 0));
                continue;
            }
            f.doubt(answer, 0);
            boolean isGoodThen = a * 4 < 9 || a * 4 == 12;
            Check.due("amended in b", isGoodThen ? HELD : REFUSED, () -> f.amend(number, 1, 4));
            if (isGoodThen) {
                Check.due("settled", COUNTED, () -> f.settle(number, 0, true));
                f.doubt(answer, 0);
                Check.due("amended in a", REFUSED, () -> f.amend(number, 0, 5 + number));
            }
            Check.due("it counts no more", 0, () -> f.counted());
        }
    }

    // "Returns how many answers are COUNTED.": 0, 1, .. all 20
    private static void countedOnes() {
        FormWright f = Forms.typed("100000");
        f.publish();
        for (int answer = 0; answer < 20; answer++) {
            int number = answer;
            Forms.filled(f, 1);
            Check.due("ahead of " + answer, number, () -> f.counted());
            f.handIn(answer);
            Check.due("behind " + answer, number + 1, () -> f.counted());
        }
        f.setType(0, FormWright.FLAG);
        Check.due("not before it is published", 20, () -> f.counted());
        f.publish();
        Check.due("all are HELD", 0, () -> f.counted());
        for (int answer = 0; answer < 20; answer++) {
            int number = answer;
            boolean isFine = answer % 2 == 0;
            Check.due("settle " + answer, isFine ? COUNTED : STRUCK, () -> f.settle(number, 0, isFine));
            Check.due("counted behind " + answer, number / 2 + 1, () -> f.counted());
        }
    }

    private static void expectValue(String text, int a, int b, int want) {
        FormWright f = Forms.typed("111000");
        Forms.formula(f, 2, text);
        f.publish();
        Forms.handedIn(f, a, b);
        Check.due(text + " with " + a + " and " + b, want, () -> f.value(0, 2));
    }

    private static void expectFlag(String text, int a, int b, boolean want) {
        expectFlagOf("112000", text, a, b, want);
    }

    private static void expectFlags(String text, boolean a, boolean b, boolean want) {
        expectFlagOf("222000", text, a ? 1 : 0, b ? 1 : 0, want);
    }

    /** A formula that gives a FLAG, as the value of a field and as a check. */
    private static void expectFlagOf(String types, String text, int a, int b, boolean want) {
        FormWright f = Forms.typed(types);
        Forms.formula(f, 2, text);
        Forms.formula(f, 9, text);
        f.publish();
        Forms.handedIn(f, a, b);
        String name = text + " with " + a + " and " + b;
        Check.due(name, want ? 1 : 0, () -> f.value(0, 2));
        Check.due(name + " as a check", want ? COUNTED : REFUSED, () -> f.stateOf(0));
    }
}
