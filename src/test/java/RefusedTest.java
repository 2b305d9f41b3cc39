import java.util.function.Consumer;

/**
 * Each "Throws .." line of the document, promise by promise: that the call throws just that, at the edge, just
 * beyond it and far beyond it; that of several exceptions the one named first is thrown; and, by Twins, that
 * nothing has changed behind it.
 */
final class RefusedTest {
    private static final Class<IndexOutOfBoundsException> BOUNDS = IndexOutOfBoundsException.class;
    private static final Class<IllegalStateException> STATE = IllegalStateException.class;
    private static final Class<IllegalArgumentException> ARGUMENT = IllegalArgumentException.class;
    private static final int LOW = Integer.MIN_VALUE;
    private static final int HIGH = Integer.MAX_VALUE;
    private static final int[] NO_FIELD = {LOW, -1, 6, HIGH};
    private static final int[] NO_FORMULA = {LOW, -1, 10, HIGH};
    private static final int[] NO_TYPE = {LOW, -1, 4, HIGH};
    private static final int[] NO_PLACE = {LOW, -1};

    // The answers of the board, by their states; it has two versions, and its draft a broken formula.
    private static final int EMPTY = 0;
    private static final int FULL = 1;
    private static final int COUNTED = 2;
    private static final int REFUSED = 3;
    private static final int HELD = 4;
    private static final int STRUCK = 5;
    private static final int AMENDED = 6;
    private static final int[] NO_BOARD_ANSWER = {LOW, -1, 7, 20, HIGH};
    private static final int[] NO_BOARD_VERSION = {LOW, -1, 2, 10, HIGH};
    // The fields of the board's answers: a and b are NUMBERs, c a FLAG, d a CHOICE.
    private static final int A = 0;
    private static final int B = 1;
    private static final int C = 2;
    private static final int D = 3;
    private static final int COMPUTED = 4;
    private static final int ABSENT = 5;

    private RefusedTest() {
    }

    public static void main(String[] args) {
        type();
        typeOfText();
        setType();
        setFormula();
        setFormulaInACircle();
        dropFormulaAndIsBroken();
        publish();
        versions();
        begin();
        put();
        handIn();
        answers();
        doubt();
        settle();
        amend();
        amendOutOfRange();
        Check.end();
    }

    private static void board(FormWright f) {
        Forms.types(f, "112310");
        Forms.formula(f, 4, "a+b");
        Forms.formula(f, 6, "a<100");
        Forms.formula(f, 8, "c|d=3");
        f.publish();
        f.begin();
        Forms.filled(f, 1, 2, 1, 3);
        Forms.handedIn(f, 1, 2, 1, 3);
        Forms.handedIn(f, 100, 2, 1, 3);
        for (int held = HELD; held <= AMENDED; held++) {
            Forms.handedIn(f, 1, 2, 1, 3);
            f.doubt(held, A);
            f.doubt(held, COMPUTED);
        }
        f.settle(STRUCK, A, false);
        f.amend(AMENDED, A, 200);
        f.setType(5, FormWright.NUMBER);
        Forms.formula(f, 5, "a");
        Forms.formula(f, 7, "c");
        f.publish();
        f.setType(2, FormWright.NUMBER);
        Forms.text(f, "a+b");
    }

    /** As much as there can be: 10 versions, 20 answers, 40 characters; a formula of the draft is broken. */
    private static void full(FormWright f) {
        Forms.types(f, "120000");
        Forms.formula(f, 6, "b");
        for (int version = 0; version < 10; version++) {
            f.publish();
        }
        for (int answer = 0; answer < 20; answer++) {
            Forms.handedIn(f, answer, 1);
        }
        f.setType(1, FormWright.NUMBER);
        Forms.text(f, "1+1+1+1+1+1+1+1+1+1+1+1+1+1+1+1+1+1+100+");
    }

    private static void onBoard(String what, Class<? extends RuntimeException> want, Consumer<FormWright> call) {
        Twins.refused(what, want, RefusedTest::board, call);
    }

    private static void onFull(String what, Class<? extends RuntimeException> want, Consumer<FormWright> call) {
        Twins.refused(what, want, RefusedTest::full, call);
    }

    /** The board with another text. */
    private static void onText(String text, Class<? extends RuntimeException> want, Consumer<FormWright> call) {
        Twins.refused("call with the text '" + text + "'", want, f -> {
            board(f);
            Forms.text(f, text);
        }, call);
    }

    // Promise 2: ISE if it has 40
    private static void type() {
        for (char character : new char[] {'1', '+', ' ', 0, 0xffff}) {
            onFull("type of character " + (int) character, STATE, f -> f.type(character));
        }
    }

    // Promise 5: ISE if the text is no formula
    private static void typeOfText() {
        for (String text : new String[] {"", "a+", "(a", "a)", "1000", "a b", "a<b<c", "g", "(((((((a)))))))"}) {
            onText(text, STATE, f -> f.typeOfText());
        }
        onFull("typeOfText", STATE, f -> f.typeOfText());
    }

    // Promise 6: IOOBE if there is no such field, IAE if there is no such type
    private static void setType() {
        for (int none : NO_FIELD) {
            onBoard("setType of the field " + none, BOUNDS, f -> f.setType(none, FormWright.NUMBER));
            onBoard("setType of the field " + none + " to ABSENT", BOUNDS, f -> f.setType(none, FormWright.ABSENT));
            for (int noType : NO_TYPE) {
                onBoard("setType of the field " + none + " to " + noType, BOUNDS, f -> f.setType(none, noType));
            }
        }
        for (int noType : NO_TYPE) {
            for (int field = 0; field <= 5; field++) {
                int number = field;
                onBoard("setType of " + number + " to " + noType, ARGUMENT, f -> f.setType(number, noType));
            }
        }
    }

    // Promise 7: IOOBE if there is no such formula, IAE if the text is no formula, ISE if it would be broken
    private static void setFormula() {
        for (int none : NO_FORMULA) {
            onText("a+b", BOUNDS, f -> f.setFormula(none));
            onText("a<b", BOUNDS, f -> f.setFormula(none));
            onText("a+", BOUNDS, f -> f.setFormula(none));
            onText("a+d", BOUNDS, f -> f.setFormula(none));
        }
        for (int formula = 0; formula <= 9; formula++) {
            int number = formula;
            for (String text : new String[] {"", "a+", "(a<b", "a<b)", "0a", "a&b&", "d+(d"}) {
                onText(text, ARGUMENT, f -> f.setFormula(number));
            }
            // d is a CHOICE: such texts have no type
            for (String text : new String[] {"d+1", "!d", "d<9", "(d&d)=(a<b)"}) {
                onText(text, STATE, f -> f.setFormula(number));
            }
        }
        for (int check = 6; check <= 9; check++) {
            int number = check;
            onText("1", STATE, f -> f.setFormula(number));
            onText("d", STATE, f -> f.setFormula(number));
        }
        onText("1<2", STATE, f -> f.setFormula(A));
        onText("d", STATE, f -> f.setFormula(A));
        onText("1", STATE, f -> f.setFormula(D));
        onText("1<2", STATE, f -> f.setFormula(D));
        onFull("setFormula of an ABSENT field, the text is none", ARGUMENT, f -> f.setFormula(5));
        Twins.refused("setFormula of an ABSENT field", STATE, f -> Forms.text(f, "1"), f -> f.setFormula(5));
        Twins.refused("setFormula with an ABSENT letter", STATE, f -> Forms.text(f, "f=f"), f -> f.setFormula(6));
    }

    // Promise 7: ISE if a field would hang on itself, by its own formula or by way of those of others
    private static void setFormulaInACircle() {
        onText("a", STATE, f -> f.setFormula(A));
        onText("1+0*(b)", STATE, f -> f.setFormula(B));
        onText("e", STATE, f -> f.setFormula(COMPUTED));
        onText("e", STATE, f -> f.setFormula(A));
        onText("e-e", STATE, f -> f.setFormula(B));
        onText("f", STATE, f -> f.setFormula(A));
        onText("a+f+e", STATE, f -> f.setFormula(5));
        onText("a+", ARGUMENT, f -> f.setFormula(A));
        onText("a", BOUNDS, f -> f.setFormula(-1));
        for (int last = 0; last < 6; last++) {
            int number = last;
            Twins.refused("the circle of six, closed at " + last, STATE, f -> chainBut(f, number),
                f -> f.setFormula(number));
        }
    }

    /** Each field hangs on the one behind it, f on a; but one, whose formula is the text. */
    private static void chainBut(FormWright f, int last) {
        Forms.types(f, "111111");
        for (int k = 0; k < 6; k++) {
            if (k != last) {
                Forms.formula(f, k, String.valueOf("bcdefa".charAt(k)));
            }
        }
        Forms.text(f, String.valueOf("bcdefa".charAt(last)));
    }

    // Promises 8 and 9: IOOBE if there is no such formula
    private static void dropFormulaAndIsBroken() {
        for (int none : NO_FORMULA) {
            onBoard("dropFormula " + none, BOUNDS, f -> f.dropFormula(none));
            onBoard("isBroken " + none, BOUNDS, f -> f.isBroken(none));
            onFull("dropFormula " + none, BOUNDS, f -> f.dropFormula(none));
            onFull("isBroken " + none, BOUNDS, f -> f.isBroken(none));
        }
    }

    // Promise 10: ISE if there are 10 versions
    private static void publish() {
        onFull("publish", STATE, f -> f.publish());
        Twins.refused("publish of an empty draft", STATE, f -> {
            for (int version = 0; version < 10; version++) {
                f.publish();
            }
        }, f -> f.publish());
    }

    // Promises 12 to 14: IOOBE if there is no such version, field or formula, or place is below 0
    private static void versions() {
        for (int none : NO_BOARD_VERSION) {
            onBoard("typeIn of the version " + none, BOUNDS, f -> f.typeIn(none, 0));
            onBoard("typeIn of the version " + none + ", no field", BOUNDS, f -> f.typeIn(none, 6));
            onBoard("order of the version " + none, BOUNDS, f -> f.order(none, 0));
            onBoard("order of the version " + none + ", no place", BOUNDS, f -> f.order(none, -1));
            onBoard("plain of the version " + none, BOUNDS, f -> f.plain(none, 6, 0));
            onBoard("plain of the version " + none + ", no place", BOUNDS, f -> f.plain(none, 10, -1));
            Twins.refused("typeIn of no versions, " + none, BOUNDS, f -> Forms.types(f, "111111"), f -> f.typeIn(none, 0));
        }
        for (int none : NO_FIELD) {
            onBoard("typeIn of the field " + none, BOUNDS, f -> f.typeIn(0, none));
            onBoard("typeIn of the field " + none + " of the last", BOUNDS, f -> f.typeIn(1, none));
        }
        for (int none : NO_PLACE) {
            onBoard("order at " + none, BOUNDS, f -> f.order(0, none));
            onBoard("order at " + none + " of the last", BOUNDS, f -> f.order(1, none));
            onBoard("plain at " + none, BOUNDS, f -> f.plain(0, 6, none));
            onBoard("plain at " + none + ", no formula there", BOUNDS, f -> f.plain(0, 9, none));
        }
        for (int none : NO_FORMULA) {
            onBoard("plain of the formula " + none, BOUNDS, f -> f.plain(1, none, 0));
        }
        Twins.refused("version 0 when there is none", BOUNDS, f -> f.clear(), f -> f.typeIn(0, 0));
        Twins.refused("order of version 0 when there is none", BOUNDS, f -> f.clear(), f -> f.order(0, 0));
        Twins.refused("plain of version 0 when there is none", BOUNDS, f -> f.clear(), f -> f.plain(0, 0, 0));
        onFull("typeIn of the version 10", BOUNDS, f -> f.typeIn(10, 0));
        onFull("order of the version 10", BOUNDS, f -> f.order(10, 0));
        onFull("plain of the version 10", BOUNDS, f -> f.plain(10, 0, 0));
    }

    // Promise 15: ISE if there is no version, or there are 20 answers
    private static void begin() {
        onFull("begin the 21st", STATE, f -> f.begin());
        Twins.refused("begin without a version", STATE, f -> Forms.types(f, "111111"), f -> f.begin());
        Twins.refused("begin on a new object", STATE, f -> f.clear(), f -> f.begin());
    }

    // Promise 16: IOOBE, ISE if it is not OPEN, or the field is ABSENT or computed, IAE if value is out of range
    private static void put() {
        for (int none : NO_BOARD_ANSWER) {
            onBoard("put into the answer " + none, BOUNDS, f -> f.put(none, A, 5));
            onBoard("put into the answer " + none + ", all wrong", BOUNDS, f -> f.put(none, 6, 5000));
        }
        for (int none : NO_FIELD) {
            onBoard("put into the field " + none, BOUNDS, f -> f.put(FULL, none, 0));
            onBoard("put into the field " + none + ", out of range", BOUNDS, f -> f.put(FULL, none, 5000));
            onBoard("put into the field " + none + " when COUNTED", BOUNDS, f -> f.put(COUNTED, none, 0));
        }
        for (int answer : new int[] {COUNTED, REFUSED, HELD, STRUCK, AMENDED}) {
            for (int field = 0; field < 6; field++) {
                int number = field;
                onBoard("put into " + answer + ", not OPEN", STATE, f -> f.put(answer, number, 1));
                onBoard("put into " + answer + ", not OPEN, out of range", STATE, f -> f.put(answer, number, 1000));
            }
        }
        for (int value : new int[] {LOW, -1000, -1, 0, 1, 1000, HIGH}) {
            onBoard("put of " + value + " into a computed field", STATE, f -> f.put(FULL, COMPUTED, value));
            onBoard("put of " + value + " into an ABSENT field", STATE, f -> f.put(EMPTY, ABSENT, value));
        }
        for (int answer : new int[] {EMPTY, FULL}) {
            for (int value : new int[] {LOW, -1000, 1000, HIGH}) {
                onBoard("put of the NUMBER " + value, ARGUMENT, f -> f.put(answer, A, value));
                onBoard("put of the NUMBER " + value, ARGUMENT, f -> f.put(answer, B, value));
            }
            for (int value : new int[] {LOW, -1, 2, HIGH}) {
                onBoard("put of the FLAG " + value, ARGUMENT, f -> f.put(answer, C, value));
            }
            for (int value : new int[] {LOW, -1, 10, HIGH}) {
                onBoard("put of the CHOICE " + value, ARGUMENT, f -> f.put(answer, D, value));
            }
        }
        onFull("put into the answer 20", BOUNDS, f -> f.put(20, 0, 1));
    }

    // Promise 17: IOOBE, ISE if it is not OPEN, or some field that is not computed has no value
    private static void handIn() {
        for (int none : NO_BOARD_ANSWER) {
            onBoard("handIn of " + none, BOUNDS, f -> f.handIn(none));
        }
        for (int answer : new int[] {EMPTY, COUNTED, REFUSED, HELD, STRUCK, AMENDED}) {
            onBoard("handIn of " + answer, STATE, f -> f.handIn(answer));
        }
        for (int missing = 0; missing < 6; missing++) {
            int number = missing;
            Twins.refused("handIn without a value of " + missing, STATE, f -> {
                Forms.types(f, "123123");
                f.publish();
                f.begin();
                for (int field = 0; field < 6; field++) {
                    if (field != number) {
                        f.put(0, field, 1);
                    }
                }
            }, f -> f.handIn(0));
        }
        onFull("handIn of the answer 20", BOUNDS, f -> f.handIn(20));
    }

    // Promises 19 to 22 and 27: IOOBE; value: ISE if the field has no value; refusal: ISE if it is OPEN
    private static void answers() {
        for (int none : NO_BOARD_ANSWER) {
            onBoard("stateOf " + none, BOUNDS, f -> f.stateOf(none));
            onBoard("versionOf " + none, BOUNDS, f -> f.versionOf(none));
            onBoard("value of " + none, BOUNDS, f -> f.value(none, A));
            onBoard("value of " + none + ", no value", BOUNDS, f -> f.value(none, ABSENT));
            onBoard("refusal of " + none, BOUNDS, f -> f.refusal(none));
            onBoard("doubts of " + none, BOUNDS, f -> f.doubts(none));
        }
        for (int none : NO_FIELD) {
            onBoard("value in " + none, BOUNDS, f -> f.value(COUNTED, none));
            onBoard("value in " + none + " of an empty one", BOUNDS, f -> f.value(EMPTY, none));
        }
        for (int field = 0; field < 6; field++) {
            int number = field;
            onBoard("value of " + field + ", none put", STATE, f -> f.value(EMPTY, number));
        }
        onBoard("value of a computed field of an OPEN one", STATE, f -> f.value(FULL, COMPUTED));
        for (int answer = EMPTY; answer <= AMENDED; answer++) {
            int number = answer;
            onBoard("value of an ABSENT field of " + answer, STATE, f -> f.value(number, ABSENT));
        }
        onBoard("refusal when OPEN", STATE, f -> f.refusal(EMPTY));
        onBoard("refusal when OPEN and full", STATE, f -> f.refusal(FULL));
        onFull("stateOf 20", BOUNDS, f -> f.stateOf(20));
        onFull("versionOf 20", BOUNDS, f -> f.versionOf(20));
        onFull("value of 20", BOUNDS, f -> f.value(20, A));
        onFull("refusal of 20", BOUNDS, f -> f.refusal(20));
        onFull("doubts of 20", BOUNDS, f -> f.doubts(20));
        Twins.refused("stateOf 0 when there is none", BOUNDS, f -> f.publish(), f -> f.stateOf(0));
        Twins.refused("doubts of 0 when there is none", BOUNDS, f -> f.publish(), f -> f.doubts(0));
    }

    // Promise 24: IOOBE, ISE if it is neither COUNTED nor HELD, or the field is ABSENT in its version
    private static void doubt() {
        for (int none : NO_BOARD_ANSWER) {
            onBoard("doubt of " + none, BOUNDS, f -> f.doubt(none, A));
            onBoard("doubt of " + none + " in an ABSENT field", BOUNDS, f -> f.doubt(none, ABSENT));
        }
        for (int none : NO_FIELD) {
            onBoard("doubt in " + none, BOUNDS, f -> f.doubt(COUNTED, none));
            onBoard("doubt in " + none + " of an OPEN one", BOUNDS, f -> f.doubt(EMPTY, none));
            onBoard("doubt in " + none + " of a STRUCK one", BOUNDS, f -> f.doubt(STRUCK, none));
        }
        for (int answer : new int[] {EMPTY, FULL, REFUSED, STRUCK, AMENDED}) {
            for (int field = 0; field < 6; field++) {
                int number = field;
                onBoard("doubt of " + answer + " in " + field, STATE, f -> f.doubt(answer, number));
            }
        }
        onBoard("doubt of a COUNTED one in an ABSENT field", STATE, f -> f.doubt(COUNTED, ABSENT));
        onBoard("doubt of a HELD one in an ABSENT field", STATE, f -> f.doubt(HELD, ABSENT));
        onFull("doubt of the answer 20", BOUNDS, f -> f.doubt(20, A));
    }

    // Promise 25: IOOBE, ISE if it is not HELD, or not doubted in the field
    private static void settle() {
        for (boolean isFine : new boolean[] {true, false}) {
            for (int none : NO_BOARD_ANSWER) {
                onBoard("settle " + none, BOUNDS, f -> f.settle(none, A, isFine));
            }
            for (int none : NO_FIELD) {
                onBoard("settle in " + none, BOUNDS, f -> f.settle(HELD, none, isFine));
                onBoard("settle in " + none + " when COUNTED", BOUNDS, f -> f.settle(COUNTED, none, isFine));
            }
            for (int answer : new int[] {EMPTY, FULL, COUNTED, REFUSED, STRUCK, AMENDED}) {
                for (int field = 0; field < 6; field++) {
                    int number = field;
                    onBoard("settle " + answer + " in " + field, STATE, f -> f.settle(answer, number, isFine));
                }
            }
            for (int field : new int[] {B, C, D, ABSENT}) {
                onBoard("settle where there is no doubt, " + field, STATE, f -> f.settle(HELD, field, isFine));
            }
        }
    }

    // Promise 26: IOOBE, ISE if it is not HELD, or the field is ABSENT or computed in its version
    private static void amend() {
        for (int none : NO_BOARD_ANSWER) {
            onBoard("amend " + none, BOUNDS, f -> f.amend(none, A, 5));
            onBoard("amend " + none + ", all wrong", BOUNDS, f -> f.amend(none, 6, 5000));
        }
        for (int none : NO_FIELD) {
            onBoard("amend in " + none, BOUNDS, f -> f.amend(HELD, none, 0));
            onBoard("amend in " + none + ", out of range", BOUNDS, f -> f.amend(HELD, none, 5000));
            onBoard("amend in " + none + " when COUNTED", BOUNDS, f -> f.amend(COUNTED, none, 0));
        }
        for (int answer : new int[] {EMPTY, FULL, COUNTED, REFUSED, STRUCK, AMENDED}) {
            for (int field = 0; field < 6; field++) {
                int number = field;
                onBoard("amend " + answer + ", not HELD", STATE, f -> f.amend(answer, number, 1));
                onBoard("amend " + answer + ", not HELD, out of range", STATE, f -> f.amend(answer, number, 1000));
            }
        }
        for (int value : new int[] {LOW, -1000, -1, 0, 1, 1000, HIGH}) {
            onBoard("amend to " + value + " in a computed field", STATE, f -> f.amend(HELD, COMPUTED, value));
            onBoard("amend to " + value + " in an ABSENT field", STATE, f -> f.amend(HELD, ABSENT, value));
        }
    }

    // Promise 26: IAE if value is out of range
    private static void amendOutOfRange() {
        for (int value : new int[] {LOW, -1000, 1000, HIGH}) {
            onBoard("amend to the NUMBER " + value, ARGUMENT, f -> f.amend(HELD, A, value));
            onBoard("amend to the NUMBER " + value + ", not doubted", ARGUMENT, f -> f.amend(HELD, B, value));
        }
        for (int value : new int[] {LOW, -1, 2, HIGH}) {
            onBoard("amend to the FLAG " + value, ARGUMENT, f -> f.amend(HELD, C, value));
        }
        for (int value : new int[] {LOW, -1, 10, HIGH}) {
            onBoard("amend to the CHOICE " + value, ARGUMENT, f -> f.amend(HELD, D, value));
        }
    }
}
