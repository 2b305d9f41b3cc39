/** Promises 1 to 5: a new object and the text. */
final class TextTest {
    private static final Class<IllegalStateException> STATE = IllegalStateException.class;

    private TextTest() {
    }

    public static void main(String[] args) {
        newObject();
        typing();
        viableTexts();
        firstErrors();
        openSigns();
        errorsOfLongTexts();
        strangeCharacters();
        types();
        typesFollowTheDraft();
        Check.end();
    }

    private static void newObject() {
        FormWright f = new FormWright();
        Check.due("new error", 0, () -> f.error());
        Check.due("new clear", 0, () -> f.clear());
        Check.due("new versions", 0, () -> f.versions());
        Check.due("new answers", 0, () -> f.answers());
        Check.due("new counted", 0, () -> f.counted());
        for (int k = 0; k < 10; k++) {
            int formula = k;
            Check.due("new isBroken " + k, false, () -> f.isBroken(formula));
            Check.due("new dropFormula " + k, false, () -> f.dropFormula(formula));
        }
        f.publish();
        for (int k = 0; k < 6; k++) {
            int field = k;
            Check.due("new typeIn " + k, FormWright.ABSENT, () -> f.typeIn(0, field));
        }
    }

    private static void typing() {
        FormWright f = new FormWright();
        for (int k = 1; k <= 40; k++) {
            int length = k;
            Check.due("type " + k, length, () -> f.type('1'));
        }
        Check.refused("type the 41st", STATE, () -> f.type('1'));
        Check.refused("type the 41st again", STATE, () -> f.type('a'));
        Check.due("error of the full text", 3, () -> f.error());
        Check.due("clear", 40, () -> f.clear());
        Check.due("clear again", 0, () -> f.clear());
        Check.due("type behind clear", 1, () -> f.type('b'));
        Check.due("error behind clear", FormWright.NONE, () -> f.error());
    }

    private static void viableTexts() {
        String[] formulas = {"0", "7", "10", "999", "100", "a", "f", "a+b", "a-b*c", "a<b", "a=b", "a>b", "a&b|c",
            "(a)", "((((((a))))))", "!a", "!!!!!!a", "!(!(!(a)))", "(a<b)<c", "a<(b<c)", "a<b&c<d|e=f", "!a=b", "!a<!b",
            "!1+2", "a+b<c*d", "(a|b)*c", "!((a))", "0+0", "(0)", "10-0", "a<b|c<d"};
        for (String text : formulas) {
            expectError(text, FormWright.NONE);
        }
    }

    private static void firstErrors() {
        expectError("", 0);
        expectError("(", 1);
        expectError("(a", 2);
        expectError("a+", 2);
        expectError("!", 1);
        expectError("a<", 2);
        expectError("a&", 2);
        expectError("(a)b", 3);
        expectError(")", 0);
        expectError("()", 1);
        expectError("a)", 1);
        expectError("(a))", 3);
        expectError("+a", 0);
        expectError("-1", 0);
        expectError("a--b", 2);
        expectError("a!b", 1);
        expectError("a(b)", 1);
        expectError("ab", 1);
        expectError("a1", 1);
        expectError("1a", 1);
        expectError("00", 1);
        expectError("01", 1);
        expectError("1000", 3);
        expectError("a+01", 3);
        expectError("a+1000", 5);
        expectError("g", 0);
        expectError("A", 0);
        expectError("a b", 1);
        expectError(" a", 0);
        expectError("a<b<c", 3);
        expectError("a=b=c", 3);
        expectError("a<b+c>d", 5);
        expectError("(a<b=c)", 4);
        expectError("a<b&c<d<e", 7);
        expectError("(a<b)<c<d", 7);
        expectError("a<(b<c)<d", 7);
        expectError("a&&b", 2);
        expectError("a==b", 2);
        expectError("a<=b", 2);
        expectError("!)", 1);
        expectError("!+", 1);
        expectError("a<b!", 3);
        expectError("/", 0);
        expectError(":", 0);
        expectError("`", 0);
    }

    private static void openSigns() {
        expectError("(((((((", 6);
        expectError("((((((a", 7);
        expectError("!!!!!!!", 6);
        expectError("!!!!!!(", 6);
        expectError("((((((!", 6);
        expectError("!(!(!((a))))", 6);
        expectError("(!(!(!a)))", FormWright.NONE);
        // a "!" is open no more behind its factor, a "(" no more behind its ")"
        expectError("(!a&((((((", 9);
        expectError("(!a&(((((b))))))", FormWright.NONE);
        expectError("!!!!!!a&!!!!!!b", FormWright.NONE);
        expectError("!!!!!!a&!!!!!!!b", 14);
        expectError("((((((a))))))+((((((a))))))", FormWright.NONE);
        expectError("!(a)&(((((((", 11);
        expectError("(!(a)&((((((", 11);
        expectError("!!(!12&!!!!a", 10);
        expectError("!!(!12&!!!a", 11);
        expectError("!!(!12&!!!a)", FormWright.NONE);
        // a number is all one factor: the signs ahead of it stay open up to its last digit
        expectError("!!!!!!123", FormWright.NONE);
    }

    private static void errorsOfLongTexts() {
        expectError("a+a+a+a+a+a+a+a+a+a+a+a+a+a+a+a+a+a+a+a+", 40);
        expectError("!a+a+a+a+a+a+a+a+a+a+a+a+a+a+a+a+a+a+a+a", FormWright.NONE);
        expectError("(a+a+a+a+a+a+a+a+a+a+a+a+a+a+a+a+a+a+a+a", 40);
        expectError("a+a+a+a+a+a+a+a+a+a+a+a+a+a+a+a+a+a+a+a<", 40);
        expectError("((((((((((((((((((((((((((((((((((((((((", 6);
        expectError("a+a+a+a+a+a+a+a+a+a+a+a+a+a+a+a+a+a+a+aa", 39);
    }

    private static void strangeCharacters() {
        char[] strange = {0, 1, 31, 127, 128, 255, 256, 0x0161, 0x0430, 0x2212, 0xff10, 0xff41, 0xffff};
        for (char character : strange) {
            expectError(String.valueOf(character), 0);
            expectError("a" + character, 1);
            expectError("(a" + character, 2);
            expectError("1" + character, 1);
            expectError("a+" + character, 2);
            expectError("!" + character, 1);
        }
        for (char character = 0; character < 300; character++) {
            expectError("a" + character, "+-*<=>&|".indexOf(character) < 0 ? 1 : 2);
            boolean isStart = "abcdef0123456789".indexOf(character) >= 0;
            expectError("" + character, isStart ? FormWright.NONE : character == '(' || character == '!' ? 1 : 0);
        }
    }

    private static void types() {
        // a and b are NUMBERs, c and d FLAGs, e is a CHOICE, f is ABSENT
        expectType("0", FormWright.NUMBER);
        expectType("a", FormWright.NUMBER);
        expectType("c", FormWright.FLAG);
        expectType("e", FormWright.CHOICE);
        expectType("f", FormWright.NONE);
        expectType("(e)", FormWright.CHOICE);
        expectType("((c))", FormWright.FLAG);
        for (String sign : new String[] {"+", "-", "*"}) {
            expectTypes(sign, FormWright.NUMBER, FormWright.NONE, FormWright.NONE);
        }
        for (String sign : new String[] {"<", ">"}) {
            expectTypes(sign, FormWright.FLAG, FormWright.NONE, FormWright.NONE);
        }
        expectTypes("=", FormWright.FLAG, FormWright.FLAG, FormWright.FLAG);
        for (String sign : new String[] {"&", "|"}) {
            expectTypes(sign, FormWright.NONE, FormWright.FLAG, FormWright.NONE);
        }
        expectType("a=e", FormWright.FLAG);
        expectType("e=a", FormWright.FLAG);
        expectType("4=e", FormWright.FLAG);
        expectType("!c", FormWright.FLAG);
        expectType("!!c", FormWright.FLAG);
        expectType("!a", FormWright.NONE);
        expectType("!e", FormWright.NONE);
        expectType("!f", FormWright.NONE);
        expectType("!(a<b)", FormWright.FLAG);
        expectType("!a<b", FormWright.NONE);
        expectType("a<b&c", FormWright.FLAG);
        expectType("a<b+c", FormWright.NONE);
        expectType("(a<b)=c", FormWright.FLAG);
        expectType("c=d|a=e", FormWright.FLAG);
        expectType("(f)=(f)", FormWright.NONE);
        expectType("(a+c)=(a+c)", FormWright.NONE);
        expectType("!(a+c)", FormWright.NONE);
        expectType("c|f", FormWright.NONE);
        expectType("f|c", FormWright.NONE);
        expectType("a=e+1", FormWright.NONE);
        expectType("a+b*2-a=b", FormWright.FLAG);
        for (String text : new String[] {"", "(", "a+", "a)", "00", "g"}) {
            FormWright f = typed(text);
            Check.refused("typeOfText of " + text, STATE, () -> f.typeOfText());
        }
    }

    /** The types of a sign with two NUMBERs, two FLAGs and two CHOICEs; with others it has none, but for "=". */
    private static void expectTypes(String sign, int ofNumbers, int ofFlags, int ofChoices) {
        expectType("a" + sign + "b", ofNumbers);
        expectType("c" + sign + "d", ofFlags);
        expectType("e" + sign + "e", ofChoices);
        for (String pair : new String[] {"ac", "ca", "ce", "ec", "af", "fa", "cf", "fc", "ef", "fe", "ff"}) {
            expectType(pair.charAt(0) + sign + pair.charAt(1), FormWright.NONE);
        }
        if (!sign.equals("=")) {
            expectType("a" + sign + "e", FormWright.NONE);
            expectType("e" + sign + "a", FormWright.NONE);
        }
    }

    private static void typesFollowTheDraft() {
        FormWright f = new FormWright();
        f.type('a');
        Check.due("type of an ABSENT letter", FormWright.NONE, () -> f.typeOfText());
        f.setType(0, FormWright.CHOICE);
        Check.due("type of a CHOICE", FormWright.CHOICE, () -> f.typeOfText());
        f.publish();
        f.setType(0, FormWright.FLAG);
        Check.due("type of a FLAG, not as in the version", FormWright.FLAG, () -> f.typeOfText());
        f.setType(0, FormWright.ABSENT);
        Check.due("type when ABSENT again", FormWright.NONE, () -> f.typeOfText());
    }

    private static void expectError(String text, int want) {
        FormWright f = typed(text);
        Check.due("error of " + text, want, () -> f.error());
        Check.due("length behind error of " + text, text.length(), () -> f.clear());
    }

    private static void expectType(String text, int want) {
        FormWright f = typed(text);
        Check.due("typeOfText of " + text, want, () -> f.typeOfText());
    }

    private static FormWright typed(String text) {
        FormWright f = new FormWright();
        int[] types = {FormWright.NUMBER, FormWright.NUMBER, FormWright.FLAG, FormWright.FLAG, FormWright.CHOICE};
        for (int field = 0; field < types.length; field++) {
            f.setType(field, types[field]);
        }
        for (int at = 0; at < text.length(); at++) {
            f.type(text.charAt(at));
        }
        return f;
    }
}
