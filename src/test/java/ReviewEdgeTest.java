/**
 * The sentences about reviews (promises 24 to 27) and about what publishing does to answers (promise 10), each at
 * its edges. Ahead of each test stands the sentence.
 */
final class ReviewEdgeTest {
    private static final Class<IllegalStateException> STATE = IllegalStateException.class;
    private static final Class<IllegalArgumentException> ARGUMENT = IllegalArgumentException.class;
    private static final int OPEN = FormWright.OPEN;
    private static final int COUNTED = FormWright.COUNTED;
    private static final int REFUSED = FormWright.REFUSED;
    private static final int HELD = FormWright.HELD;
    private static final int STRUCK = FormWright.STRUCK;
    private static final int ALL = 63;

    private ReviewEdgeTest() {
    }

    public static void main(String[] args) {
        doubtsInEachField();
        doubtedOrNot();
        fieldsThatItHas();
        settledAsFine();
        struckForGood();
        amendedToTheEdges();
        anotherValue();
        doubtOfThatField();
        computedAnew();
        refusedByAnAmendment();
        heldOrCounted();
        refusedStaysSo();
        setsOfDoubts();
        doubtedByTypes();
        doubtedByTypesOfComputedFields();
        doubtedByDroppedFormulas();
        notInTheOneThatItComputes();
        samePlainText();
        sameNumber();
        formulasOfItsOwnVersion();
        droppedThenAlone();
        countedOrHeldAlone();
        heldIfDoubted();
        allAnswersAtTheLastVersion();
        Check.end();
    }

    /** Six fields of NUMBERs and an answer to them that is COUNTED. */
    private static FormWright counted() {
        FormWright f = Forms.typed("111111");
        f.publish();
        Forms.handedIn(f, 1, 2, 3, 4, 5, 6);
        return f;
    }

    // "field: 0 to 5" "as a set: the bit f for the field f"
    private static void doubtsInEachField() {
        for (int field = 0; field <= 5; field++) {
            int number = field;
            FormWright f = counted();
            Check.due("no doubts", 0, () -> f.doubts(0));
            Check.due("doubt in " + field, false, () -> f.doubt(0, number));
            Check.due("the set", 1 << number, () -> f.doubts(0));
            Check.due("the state", HELD, () -> f.stateOf(0));
        }
        FormWright all = counted();
        for (int field = 5; field >= 0; field--) {
            int number = field;
            Check.due("doubt in " + field, false, () -> all.doubt(0, number));
            Check.due("the set", ALL - (1 << number) + 1, () -> all.doubts(0));
        }
        Check.due("all of them", ALL, () -> all.doubts(0));
    }

    // "Returns whether it was doubted in it."
    private static void doubtedOrNot() {
        FormWright f = counted();
        Forms.handedIn(f, 1, 2, 3, 4, 5, 6);
        Check.due("not yet", false, () -> f.doubt(0, 5));
        Check.due("it was", true, () -> f.doubt(0, 5));
        Check.due("not in the other field", false, () -> f.doubt(0, 0));
        Check.due("not the other answer", false, () -> f.doubt(1, 5));
        f.settle(0, 5, true);
        Check.due("not when settled", false, () -> f.doubt(0, 5));
        f.amend(0, 5, 9);
        Check.due("not when amended", false, () -> f.doubt(0, 5));
        Check.due("the other stays", true, () -> f.doubt(0, 0));
        f.setType(1, FormWright.FLAG);
        f.publish();
        Check.due("it was, by publishing", true, () -> f.doubt(0, 1));
    }

    // "in a field that it has": not ABSENT in its own version; computed ones too
    private static void fieldsThatItHas() {
        for (int field = 0; field <= 5; field++) {
            int number = field;
            FormWright f = Forms.typed("111111");
            Forms.formula(f, (field + 1) % 6, "7");
            f.setType(field, FormWright.ABSENT);
            f.publish();
            f.setType(field, FormWright.NUMBER);
            f.setType((field + 2) % 6, FormWright.ABSENT);
            f.begin();
            for (int put = 0; put < 6; put++) {
                if (put != field && put != (field + 1) % 6) {
                    f.put(0, put, 1);
                }
            }
            f.handIn(0);
            Check.refused("ABSENT in its version", STATE, () -> f.doubt(0, number));
            Check.due("not doubted", COUNTED, () -> f.stateOf(0));
            Check.due("computed", false, () -> f.doubt(0, (number + 1) % 6));
            Check.due("ABSENT in the draft", false, () -> f.doubt(0, (number + 2) % 6));
            Check.due("put", false, () -> f.doubt(0, (number + 3) % 6));
        }
    }

    // "A doubt is settled as fine, or not" "A HELD answer that is doubted in no field any more is COUNTED."
    private static void settledAsFine() {
        FormWright f = counted();
        for (int field = 0; field <= 5; field++) {
            f.doubt(0, field);
        }
        for (int field = 5; field >= 0; field--) {
            int number = field;
            Check.due("settle " + field, field == 0 ? COUNTED : HELD, () -> f.settle(0, number, true));
            Check.due("the set", (1 << number) - 1, () -> f.doubts(0));
            Check.refused("again", STATE, () -> f.settle(0, number, true));
        }
        Check.due("counted", 1, () -> f.counted());
        Check.due("the values stay", 6, () -> f.value(0, 5));
        f.doubt(0, 3);
        Check.due("doubted anew, and fine anew", COUNTED, () -> f.settle(0, 3, true));
    }

    // "if not, the answer is STRUCK for good"
    private static void struckForGood() {
        for (int field = 0; field <= 5; field++) {
            int number = field;
            FormWright f = counted();
            f.doubt(0, field);
            f.doubt(0, (field + 1) % 6);
            Check.due("settle", STRUCK, () -> f.settle(0, number, false));
            Check.due("the one that was not fine among them", 1 << number | 1 << (number + 1) % 6, () -> f.doubts(0));
            Check.refused("the other as fine", STATE, () -> f.settle(0, (number + 1) % 6, true));
            Check.refused("the other as not", STATE, () -> f.settle(0, (number + 1) % 6, false));
            Check.refused("the same as fine", STATE, () -> f.settle(0, number, true));
            Check.refused("doubt", STATE, () -> f.doubt(0, number));
            Check.refused("amend", STATE, () -> f.amend(0, number, 1));
            Check.refused("handIn", STATE, () -> f.handIn(0));
            Check.refused("put", STATE, () -> f.put(0, number, 1));
            f.setType(field, FormWright.FLAG);
            f.publish();
            Check.due("STRUCK still", STRUCK, () -> f.stateOf(0));
            Check.due("the same set", 1 << number | 1 << (number + 1) % 6, () -> f.doubts(0));
            Check.due("none is counted", 0, () -> f.counted());
        }
    }

    // "IAE if value is out of range", "value: by the type of the field in the version of the answer"
    private static void amendedToTheEdges() {
        int[] low = {0, -999, 0, 0};
        int[] high = {0, 999, 1, 9};
        for (int field = 0; field <= 5; field++) {
            for (int type = FormWright.NUMBER; type <= FormWright.CHOICE; type++) {
                int number = field;
                FormWright f = Forms.typed("111111");
                f.setType(field, type);
                f.publish();
                Forms.handedIn(f, 1, 1, 1, 1, 1, 1);
                f.doubt(0, (field + 1) % 6);
                // neither the draft nor a later version counts
                f.setType(field, type % 3 + 1);
                for (int value : new int[] {low[type], low[type] + 1, high[type] - 1, high[type]}) {
                    Check.due("amend to " + value, HELD, () -> f.amend(0, number, value));
                    Check.due("value then", value, () -> f.value(0, number));
                }
                f.publish();
                for (int value : new int[] {low[type] - 1, high[type] + 1, Integer.MIN_VALUE, Integer.MAX_VALUE}) {
                    Check.refused("amend to " + value, ARGUMENT, () -> f.amend(0, number, value));
                    Check.due("value stays", high[type], () -> f.value(0, number));
                    Check.due("doubts stay", 1 << number | 1 << (number + 1) % 6, () -> f.doubts(0));
                }
            }
        }
    }

    // "it gets another value": of the answer alone, the same one too
    private static void anotherValue() {
        FormWright f = counted();
        Forms.handedIn(f, 1, 2, 3, 4, 5, 6);
        f.doubt(0, 0);
        f.doubt(0, 1);
        Check.due("amend", HELD, () -> f.amend(0, 0, -7));
        Check.due("its value", -7, () -> f.value(0, 0));
        Check.due("of the other field", 2, () -> f.value(0, 1));
        Check.due("of the other answer", 1, () -> f.value(1, 0));
        Check.due("to the value that it has", COUNTED, () -> f.amend(0, 1, 2));
        Check.due("its doubt is gone too", 0, () -> f.doubts(0));
        Check.refused("a COUNTED one", STATE, () -> f.amend(0, 1, 3));
    }

    // "the doubt of that field (if there is one) is gone"
    private static void doubtOfThatField() {
        for (int field = 0; field <= 5; field++) {
            int number = field;
            FormWright f = counted();
            for (int doubted = 0; doubted <= 5; doubted++) {
                f.doubt(0, doubted);
            }
            Check.due("amend " + field, HELD, () -> f.amend(0, number, 9));
            Check.due("all but that one", ALL - (1 << number), () -> f.doubts(0));
            Check.due("amend it again", HELD, () -> f.amend(0, number, 8));
            Check.due("all but that one still", ALL - (1 << number), () -> f.doubts(0));
            Check.refused("it is not to be settled", STATE, () -> f.settle(0, number, true));
        }
    }

    // "computed fields get their values anew": all of them, in their order; their doubts stay
    private static void computedAnew() {
        FormWright f = Forms.typed("111111");
        Forms.formula(f, 0, "b*2");
        Forms.formula(f, 1, "c*2");
        Forms.formula(f, 2, "d*2");
        Forms.formula(f, 4, "a+f");
        f.publish();
        Forms.handedIn(f, null, null, null, 1, null, 100);
        f.doubt(0, 0);
        f.doubt(0, 3);
        Check.due("amend d", HELD, () -> f.amend(0, 3, 999));
        int[] wants = {7992, 3996, 1998, 999, 8092, 100};
        for (int field = 0; field <= 5; field++) {
            int number = field;
            Check.due("value of " + field, wants[field], () -> f.value(0, number));
        }
        Check.due("the doubt of a computed field", 1, () -> f.doubts(0));
        Check.due("amend f", HELD, () -> f.amend(0, 5, -999));
        Check.due("e by f", 6993, () -> f.value(0, 4));
        Check.due("a not by f", 7992, () -> f.value(0, 0));
        Check.refused("a computed field", STATE, () -> f.amend(0, 0, 1));
        Forms.formula(f, 0, "b*3");
        f.publish();
        Check.due("amend d again", HELD, () -> f.amend(0, 3, 1));
        Check.due("by its own version", 8, () -> f.value(0, 0));
    }

    // "it is REFUSED if a check gives 0": each check, by a put value or a computed one
    private static void refusedByAnAmendment() {
        for (int check = 6; check <= 9; check++) {
            int number = check;
            FormWright f = Forms.typed("111000");
            Forms.formula(f, 2, "a+b");
            Forms.formula(f, check, "c<999+1");
            f.publish();
            Forms.handedIn(f, 1, 2);
            f.doubt(0, 0);
            f.doubt(0, 2);
            Check.due("999 stands", HELD, () -> f.amend(0, 1, 998));
            Check.due("1000 does not", REFUSED, () -> f.amend(0, 1, 999));
            Check.due("the check", number, () -> f.refusal(0));
            Check.due("the values are the new ones", 1000, () -> f.value(0, 2));
            Check.due("the doubts that it had", 5, () -> f.doubts(0));
            Check.due("none is counted", 0, () -> f.counted());
        }
    }

    // "otherwise HELD or COUNTED": by the doubts that are left
    private static void heldOrCounted() {
        for (int doubts = 1; doubts < 8; doubts++) {
            for (int field = 0; field < 3; field++) {
                int number = field;
                FormWright f = counted();
                for (int each = 0; each < 3; each++) {
                    if ((doubts >> each & 1) == 1) {
                        f.doubt(0, each);
                    }
                }
                int left = doubts & ~(1 << field);
                String name = "doubts " + doubts + ", amended in " + field;
                Check.due(name, left == 0 ? COUNTED : HELD, () -> f.amend(0, number, 9));
                Check.due(name + ", left", left, () -> f.doubts(0));
                Check.due(name + ", counted", left == 0 ? 1 : 0, () -> f.counted());
            }
        }
    }

    // "What was REFUSED stays so.": when handed in, or when amended
    private static void refusedStaysSo() {
        FormWright f = Forms.typed("110000");
        Forms.formula(f, 6, "a<10");
        f.publish();
        Forms.handedIn(f, 10, 1);
        Forms.handedIn(f, 9, 1);
        f.doubt(1, 1);
        f.amend(1, 0, 10);
        for (int answer = 0; answer < 2; answer++) {
            int number = answer;
            Check.refused("put", STATE, () -> f.put(number, 0, 1));
            Check.refused("handIn", STATE, () -> f.handIn(number));
            Check.refused("amend back", STATE, () -> f.amend(number, 0, 9));
            Check.refused("doubt", STATE, () -> f.doubt(number, 1));
            Check.refused("settle", STATE, () -> f.settle(number, 1, true));
            Check.refused("strike", STATE, () -> f.settle(number, 1, false));
        }
        f.setType(0, FormWright.FLAG);
        f.publish();
        for (int answer = 0; answer < 2; answer++) {
            int number = answer;
            Check.due("REFUSED still", REFUSED, () -> f.stateOf(number));
            Check.due("the doubts of " + answer, answer == 0 ? 0 : 2, () -> f.doubts(number));
        }
    }

    // "those that it had when it became STRUCK (..) or REFUSED (the one of the field that was amended left out)"
    private static void setsOfDoubts() {
        for (int doubts = 1; doubts <= ALL; doubts++) {
            int set = doubts;
            int lowest = Integer.numberOfTrailingZeros(doubts);
            FormWright f = Forms.typed("111111");
            Forms.formula(f, 9, "a+b+c+d+e+f<100");
            f.publish();
            for (int answer = 0; answer < 3; answer++) {
                Forms.handedIn(f, 1, 1, 1, 1, 1, 1);
                for (int field = 0; field < 6; field++) {
                    if ((doubts >> field & 1) == 1) {
                        f.doubt(answer, field);
                    }
                }
            }
            f.settle(1, lowest, false);
            f.amend(2, lowest, 999);
            Check.due("HELD", set, () -> f.doubts(0));
            Check.due("STRUCK", set, () -> f.doubts(1));
            Check.due("REFUSED", set & set - 1, () -> f.doubts(2));
            Check.due("the states", "" + HELD + STRUCK + REFUSED, () -> "" + f.stateOf(0) + f.stateOf(1) + f.stateOf(2));
        }
    }

    // "is doubted in each field that it has (that is not ABSENT in its own version) whose type .. is another one"
    private static void doubtedByTypes() {
        for (int field = 0; field <= 5; field++) {
            for (int own = FormWright.ABSENT; own <= FormWright.CHOICE; own++) {
                for (int type = FormWright.ABSENT; type <= FormWright.CHOICE; type++) {
                    FormWright f = new FormWright();
                    f.setType(field, own);
                    f.publish();
                    f.begin();
                    if (own != FormWright.ABSENT) {
                        f.put(0, field, 1);
                    }
                    f.handIn(0);
                    f.setType(field, type);
                    Check.due("not ahead of publishing", 0, () -> f.doubts(0));
                    f.publish();
                    boolean isDoubted = own != FormWright.ABSENT && own != type;
                    String name = "field " + field + " from " + own + " to " + type;
                    Check.due(name, isDoubted ? 1 << field : 0, () -> f.doubts(0));
                    Check.due(name + ", state", isDoubted ? HELD : COUNTED, () -> f.stateOf(0));
                }
            }
        }
        FormWright all = counted();
        Forms.types(all, "023023");
        all.publish();
        Check.due("all at once", ALL, () -> all.doubts(0));
        FormWright back = counted();
        back.setType(0, FormWright.FLAG);
        back.setType(0, FormWright.NUMBER);
        back.publish();
        Check.due("there and back in the draft", 0, () -> back.doubts(0));
    }

    // .. a computed field as well as one that was put
    private static void doubtedByTypesOfComputedFields() {
        FormWright f = Forms.typed("110000");
        Forms.formula(f, 0, "7");
        f.publish();
        Forms.handedIn(f, null, 1);
        f.setType(0, FormWright.FLAG);
        f.publish();
        Check.due("by its type, its formula has no letter", 1, () -> f.doubts(0));
        FormWright without = Forms.typed("110000");
        Forms.formula(without, 0, "b");
        without.publish();
        Forms.handedIn(without, null, 1);
        without.dropFormula(0);
        without.setType(0, FormWright.CHOICE);
        without.publish();
        Check.due("its formula was no more", 1, () -> without.doubts(0));
    }

    // "for each formula that was dropped, .. in each field whose letter is in that": of each number, each letter
    private static void doubtedByDroppedFormulas() {
        for (int formula = 6; formula <= 9; formula++) {
            for (int letters = 1; letters < 32; letters++) {
                FormWright f = Forms.typed("111111");
                StringBuilder text = new StringBuilder("f");
                for (int field = 0; field < 5; field++) {
                    text.append((letters >> field & 1) == 1 ? "+" + (char) ('a' + field) : "");
                }
                Forms.formula(f, formula, text + "<999");
                f.publish();
                Forms.handedIn(f, 1, 1, 1, 1, 1, 1);
                f.setType(5, FormWright.CHOICE);
                f.publish();
                int want = letters + 32;
                Check.due("letters of " + text + ", check " + formula, want, () -> f.doubts(0));
            }
        }
        // two dropped at once: the letters of both
        FormWright two = Forms.typed("111111");
        Forms.formula(two, 6, "a<f");
        Forms.formula(two, 9, "f<c+d");
        two.publish();
        Forms.handedIn(two, 1, 2, 3, 4, 5, 6);
        two.setType(5, FormWright.FLAG);
        two.publish();
        Check.due("the letters of both", 1 + 4 + 8 + 32, () -> two.doubts(0));
    }

    // "(not in the one that it computes)": that one has its own type still, and is no letter of it
    private static void notInTheOneThatItComputes() {
        for (int field = 0; field <= 5; field++) {
            for (int changed = 0; changed <= 5; changed++) {
                FormWright f = Forms.typed("111111");
                Forms.formula(f, field, String.join("+", "abcdef".replace("" + (char) ('a' + field), "").split("")));
                f.publish();
                f.begin();
                for (int put = 0; put <= 5; put++) {
                    if (put != field) {
                        f.put(0, put, 1);
                    }
                }
                f.handIn(0);
                f.setType(changed, FormWright.CHOICE);
                f.publish();
                int want = changed == field ? ALL : ALL - (1 << field);
                Check.due("formula " + field + ", type of " + changed, want, () -> f.doubts(0));
            }
        }
        FormWright f = Forms.typed("111111");
        Forms.formula(f, 5, "a*b");
        f.publish();
        Forms.handedIn(f, 1, 2, 3, 4, 5);
        f.setType(0, FormWright.ABSENT);
        f.publish();
        Check.due("a and b, not f", 3, () -> f.doubts(0));
        FormWright own = Forms.typed("111111");
        Forms.formula(own, 5, "a*b");
        own.publish();
        Forms.handedIn(own, 1, 2, 3, 4, 5);
        own.setType(5, FormWright.FLAG);
        own.publish();
        Check.due("a and b by the formula, f by its type", 35, () -> own.doubts(0));
    }

    // "a formula of the same plain text": whatever brackets the texts had
    private static void samePlainText() {
        expectDoubts("a<b&c", "a<b&c", 7);
        expectDoubts("a<b&c", "(a<b)&c", 7);
        expectDoubts("((a)<(b))&(c)", "a<b&c", 7);
        expectDoubts("a<b*2&c", "a<(b*2)&c", 7);
        expectDoubts("a+b+1<9&c", "(a+b)+1<9&c", 7);
        // others that are alike, longer or shorter by a sign, or mean the same
        expectDoubts("a+b+1<9&c", "a+(b+1)<9&c", 4);
        expectDoubts("a<b&c", "c&a<b", 4);
        expectDoubts("a<b&c", "b>a&c", 4);
        expectDoubts("a<b&c", "a<b&!!c", 4);
        expectDoubts("a<b&!!c", "a<b&c", 4);
        expectDoubts("a<b&c", "a<b", 4);
        expectDoubts("a<12&c", "a<13&c", 4);
        expectDoubts("a<12&c", "a<122&c", 4);
        expectDoubts("a<122&c", "a<12&c", 4);
        expectDoubts("a<b|c", "a<b&c", 4);
        expectDoubts("c", "!!c", 4);
        expectDoubts("!!c", "c", 4);
        expectDoubts("c|c", "c", 4);
        // texts of one sign
        for (String own : new String[] {"a", "b"}) {
            FormWright f = Forms.typed("221000");
            Forms.formula(f, 7, own);
            f.publish();
            Forms.handedIn(f, 1, 1, 1);
            Forms.formula(f, 7, "b");
            f.setType(1, FormWright.NUMBER);
            f.publish();
            Check.due("b dropped, own is " + own, 2, () -> f.doubts(0));
        }
        for (String own : new String[] {"b", "d"}) {
            FormWright f = Forms.typed("111100");
            Forms.formula(f, 2, own);
            f.publish();
            Forms.handedIn(f, 1, 2, null, 3);
            Forms.formula(f, 2, "d");
            f.setType(2, FormWright.FLAG);
            f.publish();
            Check.due("d dropped, own is " + own, own.equals("d") ? 4 + 8 : 4, () -> f.doubts(0));
        }
    }

    /** The field c becomes a NUMBER, by which it is doubted; the check 6 is dropped, and its own version has one. */
    private static void expectDoubts(String dropped, String own, int want) {
        FormWright f = Forms.typed("112000");
        Forms.formula(f, 6, own);
        f.publish();
        Forms.handedIn(f, 1, 2, 1);
        Forms.formula(f, 6, dropped);
        f.setType(2, FormWright.NUMBER);
        f.publish();
        Check.due(dropped + " dropped, own is " + own, want, () -> f.doubts(0));
    }

    // "with the same number"
    private static void sameNumber() {
        for (int own = 6; own <= 9; own++) {
            for (int dropped = 6; dropped <= 9; dropped++) {
                FormWright f = Forms.typed("112000");
                Forms.formula(f, own, "a<b&c");
                f.publish();
                Forms.handedIn(f, 1, 2, 1);
                f.dropFormula(own);
                Forms.formula(f, dropped, "a<b&c");
                f.setType(2, FormWright.NUMBER);
                f.publish();
                Check.due("own " + own + ", dropped " + dropped, own == dropped ? 7 : 4, () -> f.doubts(0));
            }
        }
        FormWright f = Forms.typed("111100");
        Forms.formula(f, 0, "c+d");
        f.publish();
        Forms.handedIn(f, null, 1, 2, 3);
        f.dropFormula(0);
        Forms.formula(f, 1, "c+d");
        f.setType(3, FormWright.FLAG);
        f.publish();
        Check.due("of another field", 8, () -> f.doubts(0));
    }

    // "if its own version has a formula ..": its own, be it the latest one or not
    private static void formulasOfItsOwnVersion() {
        FormWright f = Forms.typed("112000");
        f.publish();
        Forms.handedIn(f, 1, 2, 1);
        Forms.formula(f, 6, "a<b|c");
        f.publish();
        Forms.handedIn(f, 1, 2, 1);
        Forms.formula(f, 6, "a<b&c");
        f.publish();
        Forms.handedIn(f, 1, 2, 1);
        Forms.formula(f, 6, "a<b|c");
        f.setType(2, FormWright.CHOICE);
        f.publish();
        Check.due("its own version had none", 4, () -> f.doubts(0));
        Check.due("its own version had that", 7, () -> f.doubts(1));
        Check.due("its own version had another", 4, () -> f.doubts(2));
    }

    // "each formula that was dropped": by this publishing, not by hand, nor by one ahead of it
    private static void droppedThenAlone() {
        FormWright f = Forms.typed("112000");
        Forms.formula(f, 6, "a<b&c");
        f.publish();
        Forms.handedIn(f, 1, 2, 1);
        f.dropFormula(6);
        f.publish();
        Check.due("by hand", 0, () -> f.doubts(0));
        Forms.formula(f, 6, "a<b&c");
        f.setType(2, FormWright.NUMBER);
        f.dropFormula(6);
        f.setType(2, FormWright.FLAG);
        f.publish();
        Check.due("a broken one by hand", 0, () -> f.doubts(0));
        Forms.formula(f, 6, "a<b&c");
        f.setType(2, FormWright.NUMBER);
        f.publish();
        Check.due("by publishing", 7, () -> f.doubts(0));
        for (int field = 0; field < 3; field++) {
            f.settle(0, field, true);
        }
        f.publish();
        Check.due("by the one ahead of it: the type alone is another still", 4, () -> f.doubts(0));
        f.settle(0, 2, true);
        f.setType(2, FormWright.FLAG);
        f.publish();
        Check.due("as in its own version again", 0, () -> f.doubts(0));
        Check.due("COUNTED", COUNTED, () -> f.stateOf(0));
    }

    // "Then each answer that is COUNTED or HELD is doubted"
    private static void countedOrHeldAlone() {
        FormWright f = Forms.typed("110000");
        Forms.formula(f, 6, "a<b");
        f.publish();
        Forms.filled(f, 1, 2);
        Forms.handedIn(f, 1, 2);
        Forms.handedIn(f, 2, 1);
        Forms.handedIn(f, 1, 2);
        f.doubt(3, 1);
        Forms.handedIn(f, 1, 2);
        f.doubt(4, 1);
        f.settle(4, 1, false);
        f.setType(0, FormWright.CHOICE);
        f.publish();
        int[] states = {OPEN, HELD, REFUSED, HELD, STRUCK};
        int[] doubts = {0, 3, 0, 3, 2};
        for (int answer = 0; answer < 5; answer++) {
            int number = answer;
            Check.due("state of " + answer, states[number], () -> f.stateOf(number));
            Check.due("doubts of " + answer, doubts[number], () -> f.doubts(number));
        }
        Check.due("the OPEN one", COUNTED, () -> f.handIn(0));
        Check.due("is not doubted", 0, () -> f.doubts(0));
        f.publish();
        Check.due("but by the next version, in a by its type alone", 1, () -> f.doubts(0));
    }

    // "and it is HELD, if it is doubted in some field": by publishing, or from before
    private static void heldIfDoubted() {
        FormWright f = counted();
        Forms.handedIn(f, 1, 2, 3, 4, 5, 6);
        f.doubt(1, 3);
        f.publish();
        Check.due("COUNTED, no doubt", COUNTED, () -> f.stateOf(0));
        Check.due("HELD, by a doubt from before", HELD, () -> f.stateOf(1));
        Check.due("that one", 8, () -> f.doubts(1));
        f.setType(0, FormWright.FLAG);
        f.publish();
        Check.due("HELD by publishing", HELD, () -> f.stateOf(0));
        Check.due("doubts of both kinds", 9, () -> f.doubts(1));
        Check.due("one settled", HELD, () -> f.settle(1, 3, true));
        Check.due("the other settled", COUNTED, () -> f.settle(1, 0, true));
        Check.due("amended by its own version", COUNTED, () -> f.amend(0, 0, 500));
    }

    /** 20 answers of nine versions, when the tenth is published. */
    private static void allAnswersAtTheLastVersion() {
        FormWright f = Forms.typed("110000");
        for (int version = 0; version < 9; version++) {
            f.setType(1, version % 3 + 1);
            f.publish();
            for (int more = 0; more < (version < 2 ? 3 : 2); more++) {
                Forms.handedIn(f, 1, 1);
            }
        }
        Check.due("answers", 20, () -> f.answers());
        for (int answer = 0; answer < 20; answer++) {
            for (int field = 0; field < 2; field++) {
                if ((f.doubts(answer) >> field & 1) == 1) {
                    f.settle(answer, field, true);
                }
            }
        }
        Check.due("all are COUNTED", 20, () -> f.counted());
        f.setType(0, FormWright.FLAG);
        f.setType(1, FormWright.NUMBER);
        Check.due("the tenth", 9, () -> f.publish());
        for (int answer = 0; answer < 20; answer++) {
            int number = answer;
            int own = f.versionOf(answer);
            Check.due("doubts of " + answer, own % 3 == 0 ? 1 : 3, () -> f.doubts(number));
            Check.due("state of " + answer, HELD, () -> f.stateOf(number));
        }
        Check.refused("the eleventh", STATE, () -> f.publish());
        Check.due("none is counted", 0, () -> f.counted());
    }
}
