import java.util.ArrayList;
import java.util.List;

/**
 * The sentences about the text, its first error and its type (promises 1 to 5), each at its edges. Ahead of each
 * test stands the sentence.
 */
final class TextEdgeTest {
    private static final Class<IllegalStateException> STATE = IllegalStateException.class;
    private static final int NONE = FormWright.NONE;
    private static final int NUMBER = FormWright.NUMBER;
    private static final int FLAG = FormWright.FLAG;
    private static final int CHOICE = FormWright.CHOICE;
    // a is a NUMBER, b a FLAG, c a CHOICE, d is ABSENT, e and f are NUMBERs
    private static final String TYPES = "123011";

    private TextEdgeTest() {
    }

    public static void main(String[] args) {
        newObject();
        atMostFortyCharacters();
        anyCharacter();
        clearedTexts();
        callsUpToTheLast();
        parts();
        relations();
        factors();
        numbers();
        noBlanks();
        sixOpenSigns();
        openUpToTheEnd();
        firstErrors();
        ofAnyLength();
        lengthOfTheText();
        allShortTexts();
        typesOfLetters();
        typesOfPairs();
        typesOfNot();
        noTypeWithin();
        typeOrNoFormula();
        Check.end();
    }

    // "All fields are ABSENT, there are no formulas, versions and answers; the text is empty."
    private static void newObject() {
        FormWright f = new FormWright();
        Check.due("characters of a new text", 0, () -> f.clear());
        Check.due("versions", 0, () -> f.versions());
        Check.due("answers", 0, () -> f.answers());
        Check.due("counted", 0, () -> f.counted());
        for (int formula = 0; formula < 10; formula++) {
            int number = formula;
            Check.due("formula " + formula, false, () -> f.dropFormula(number));
        }
        for (char letter = 'a'; letter <= 'f'; letter++) {
            Forms.text(f, String.valueOf(letter));
            Check.due("type of " + letter, NONE, () -> f.typeOfText());
        }
        Check.due("two objects share nothing", 0, () -> new FormWright().clear());
    }

    // "The text has at most 40 characters, and is empty at first." "Returns how many it has then."
    private static void atMostFortyCharacters() {
        FormWright f = new FormWright();
        for (int count = 1; count <= 40; count++) {
            int due = count;
            Check.due("character " + count, due, () -> f.type('1'));
        }
        Check.refused("character 41", STATE, () -> f.type('1'));
        Check.due("it has 40 still", 40, () -> f.clear());
        Check.due("and takes one more then", 1, () -> f.type('1'));
        expectError("a" + "+a".repeat(19), NONE);
        expectError("!b" + "&b".repeat(19), NONE);
    }

    // "character: any one"
    private static void anyCharacter() {
        FormWright f = new FormWright();
        for (int number = 0; number <= Character.MAX_VALUE; number++) {
            if (number % 100 == 0) {
                f = new FormWright();
            }
            FormWright typed = f;
            char character = (char) number;
            String name = "character " + number;
            Check.due("length behind the " + name, 1, () -> typed.type(character));
            boolean isFormula = "abcdef0123456789".indexOf(character) >= 0;
            boolean isBegin = character == '(' || character == '!';
            Check.due("error of the " + name, isFormula ? NONE : isBegin ? 1 : 0, () -> typed.error());
            Check.due("clear of the " + name, 1, () -> typed.clear());
        }
    }

    // "Empties the text." "Returns how many characters it had."
    private static void clearedTexts() {
        for (int length : new int[] {0, 1, 2, 39, 40}) {
            FormWright f = Forms.typed(TYPES);
            Forms.text(f, "a".repeat(length));
            Check.due("clear of " + length, length, () -> f.clear());
            Check.due("clear again", 0, () -> f.clear());
            Check.due("error of the empty text", 0, () -> f.error());
            Check.refused("type of the empty text", STATE, () -> f.typeOfText());
            Forms.text(f, "e");
            Check.due("nothing is left of it", NONE, () -> f.error());
        }
    }

    // "An object is used for at most 512 calls after it has been made"
    private static void callsUpToTheLast() {
        FormWright f = new FormWright();
        for (int call = 1; call <= 512; call++) {
            int place = (call - 1) % 41;
            if (place == 40) {
                Check.due("call " + call, 40, () -> f.clear());
            } else {
                Check.due("call " + call, place + 1, () -> f.type('7'));
            }
        }
    }

    // "one or more parts .., with .. between two of them": or by "|", and by "&", sum by "+" and "-", product by "*"
    private static void parts() {
        for (char sign : "|&+-*".toCharArray()) {
            expectError("" + sign, 0);
            expectError("a" + sign, 2);
            expectError(sign + "a", 0);
            expectError("a" + sign + sign + "a", 2);
            expectError("(" + sign, 1);
            expectError("(a" + sign + ")", 3);
            expectError("!" + sign, 1);
            for (int more = 0; more <= 19; more++) {
                expectError("a" + (sign + "a").repeat(more), NONE);
            }
            for (char other : "|&+-*".toCharArray()) {
                expectError("a" + sign + "a" + other + "a" + sign + "a", NONE);
                expectError("a" + sign + other + "a", 2);
            }
        }
    }

    // "relation: a sum, or two sums with "<", "=" or ">" between them"
    private static void relations() {
        for (char first : "<=>".toCharArray()) {
            expectError("" + first, 0);
            expectError("a" + first, 2);
            expectError(first + "a", 0);
            expectError("a" + first + "a", NONE);
            expectError("a*a+a" + first + "a-a*a", NONE);
            for (char second : "<=>".toCharArray()) {
                expectError("a" + first + second + "a", 2);
                expectError("a" + first + "a" + second, 3);
                expectError("a" + first + "a" + second + "a", 3);
                expectError("a" + first + "12*a+a" + second + "a", 8);
                expectError("(a" + first + "a)" + second + "a", NONE);
                expectError("a" + first + "(a" + second + "a)", NONE);
                expectError("(a" + first + "a" + second + "a)", 4);
                expectError("(a" + first + "a)" + second + "a" + first, 7);
                expectError("a" + first + "(a" + second + "a)" + first, 7);
                expectError("a" + first + "a&a" + second + "a", NONE);
                expectError("a" + first + "a|a" + second + "a", NONE);
                expectError("a" + first + "!a" + second + "a", 4);
            }
        }
    }

    // "factor: a number, a letter from "a" to "f", "(" and a formula and ")", or "!" and a factor"
    private static void factors() {
        for (char sign = 0; sign < 256; sign++) {
            boolean isPart = sign >= 'a' && sign <= 'f' || sign >= '0' && sign <= '9';
            boolean isOpening = sign == '(' || sign == '!';
            int behind = isPart ? NONE : isOpening ? 1 : 0;
            expectError("" + sign, behind);
            expectError("a*" + sign, behind == NONE ? NONE : behind + 2);
            expectError("!" + sign, behind == NONE ? NONE : behind + 1);
            expectError("(" + sign, behind == NONE ? 2 : behind + 1);
        }
        expectError("()", 1);
        expectError("(a)", NONE);
        expectError("(a", 2);
        expectError("a)", 1);
        expectError("(a))", 3);
        expectError("!", 1);
        expectError("!a", NONE);
        expectError("!(a)", NONE);
        expectError("a!", 1);
        expectError("a!a", 1);
        expectError("aa", 1);
        expectError("a1", 1);
        expectError("1a", 1);
        expectError("a(a)", 1);
        expectError("(a)(a)", 3);
        expectError("(a)a", 3);
        expectError("(a)1", 3);
        expectError("1(a)", 1);
        expectError("(a)!a", 3);
    }

    // "A number is 0 to 999, without leading zeros."
    private static void numbers() {
        for (int number = 0; number <= 999; number++) {
            expectError("" + number, NONE);
            expectError("a<" + number + ">a", number > 99 ? 5 : number > 9 ? 4 : 3);
            expectError("0" + number, 1);
            for (char digit : "059".toCharArray()) {
                expectError("" + number + digit, number == 0 ? 1 : number > 99 ? 3 : NONE);
            }
        }
        for (String longer : new String[] {"1000", "9990", "1000000", "9999999999"}) {
            expectError(longer, 3);
            expectError("(!" + longer, 5);
            expectError("a-" + longer, 5);
        }
        for (String zeros : new String[] {"00", "000", "007", "010", "0999"}) {
            expectError(zeros, 1);
            expectError("a*" + zeros, 3);
        }
        expectError("0+0", NONE);
        expectError("999*999", NONE);
        expectError("-1", 0);
        expectError("1.5", 1);
    }

    // "There are no blanks."
    private static void noBlanks() {
        String text = "(a+12)<3&!b|0=c";
        expectError(text, NONE);
        for (char blank : new char[] {' ', '\t', '\n', '\r', 160}) {
            for (int at = 0; at <= text.length(); at++) {
                expectError(text.substring(0, at) + blank + text.substring(at), at);
            }
            expectError("" + blank, 0);
        }
    }

    // "At most 6 signs "(" and "!" are open at a place": each way to mix seven of them
    private static void sixOpenSigns() {
        for (int ways = 0; ways < 128; ways++) {
            StringBuilder open = new StringBuilder();
            StringBuilder close = new StringBuilder();
            for (int depth = 0; depth < 7; depth++) {
                boolean isBracket = (ways >> depth & 1) == 1;
                expectError(open + "b" + close, NONE);
                expectError(open.toString(), open.length());
                open.append(isBracket ? '(' : '!');
                close.append(isBracket ? ")" : "");
            }
            expectError(open + "b" + close, 6);
            expectError(open.toString(), 6);
            expectError("b|" + open, 8);
        }
    }

    // "a "(" is open up to its ")", a "!" up to the end of its factor"
    private static void openUpToTheEnd() {
        for (int brackets = 0; brackets <= 6; brackets++) {
            // the "!" are open no more behind the b, the brackets are
            String begin = "(".repeat(brackets) + "!".repeat(6 - brackets) + "b&";
            for (char sign : "(!".toCharArray()) {
                String more = String.valueOf(sign);
                String stands = begin + more.repeat(6 - brackets) + "b";
                expectError(stands, brackets == 0 && sign == '!' ? NONE : stands.length());
                expectError(begin + more.repeat(7 - brackets) + "b", 14 - brackets);
            }
        }
        for (int closed = 1; closed <= 6; closed++) {
            String begin = "((((((b" + ")".repeat(closed) + "&";
            expectError(begin + "!".repeat(closed) + "b" + ")".repeat(6 - closed), NONE);
            expectError(begin + "!".repeat(closed + 1), 8 + 2 * closed);
            expectError(begin + "(".repeat(closed + 1), 8 + 2 * closed);
        }
        // a factor that is a bracket ends with it, one that is a number with its last digit
        expectError("!(b)&((((((b))))))", NONE);
        expectError("!(b)&(((((((", 11);
        expectError("!(b&((((b", 9);
        expectError("!(b&(((((b", 8);
        expectError("(!(b)&(((((b))))))", NONE);
        expectError("(!(b)&((((((", 11);
        expectError("!!!!!!999+!!!!!!0", NONE);
        expectError("!!!!!!999+!!!!!!!", 16);
        expectError("!!!(!(b)|!!b)|!!!!!!b", NONE);
        expectError("!!!(!(b)|!!!b", 11);
    }

    // "the index of the first character that no formula .. can have at that place behind the characters ahead of it"
    private static void firstErrors() {
        String text = "!(a<12)|b&c=3";
        for (int at = 0; at < text.length(); at++) {
            // "g" can stand nowhere, and what stands behind the first error does not matter
            expectError(text.substring(0, at) + "g", at);
            expectError(text.substring(0, at) + "g" + text.substring(at), at);
            expectError(text.substring(0, at) + "g g))((", at);
        }
        expectError("a+)+)", 2);
        expectError(")a", 0);
        expectError("1000g", 3);
    }

    // "of any length": a text may go on behind 40 characters
    private static void ofAnyLength() {
        expectError("a" + "+a".repeat(19) + "+", 40);
        expectError("a" + "+a".repeat(19) + "<", 40);
        expectError("(" + "a+".repeat(19) + "a", 40);
        expectError("!" + "a+".repeat(19) + "(", 40);
        expectError("!" + "a+".repeat(19) + "!", 40);
        expectError("((((((" + "a+".repeat(17), 40);
        expectError("((((((" + "a+".repeat(16) + "a)", 40);
        expectError("a<" + "a+".repeat(19), 40);
        expectError("!" + "a+".repeat(19) + "9", NONE);
        expectError("!" + "a+".repeat(19) + ")", 39);
        expectError("!" + "a+".repeat(19) + "*", 39);
        expectError("a" + "+a".repeat(19) + "a", 39);
        expectError("a" + "+a".repeat(19) + ")", 39);
        expectError("a<a" + "+a".repeat(18) + ">", 39);
        expectError("(".repeat(40), 6);
        expectError("!".repeat(40), 6);
        expectError("9".repeat(40), 3);
        expectError("0".repeat(40), 1);
        expectError(" ".repeat(40), 0);
    }

    // "if there is none, but the text is no formula, it is the length of the text"
    private static void lengthOfTheText() {
        String text = "!(a<12)|b&c=3";
        String isFormula = "00000001010101";
        for (int length = 0; length <= text.length(); length++) {
            expectError(text.substring(0, length), isFormula.charAt(length) == '1' ? NONE : length);
        }
        expectError("", 0);
    }

    /** All texts of up to five signs of each sort are told a second time, by a walk that keeps what is open. */
    private static void allShortTexts() {
        List<String> texts = new ArrayList<>();
        texts.add("");
        for (int at = 0; at < texts.size(); at++) {
            String text = texts.get(at);
            expectError(text, walked(text));
            for (int k = 0; k < 10 && text.length() < 5; k++) {
                texts.add(text + "10a()!+<&g".charAt(k));
            }
        }
    }

    /** The first error, by what may stand next: a part, or what stands behind a part. */
    private static int walked(String text) {
        StringBuilder open = new StringBuilder();
        boolean isBehindPart = false;
        String digits = "";
        for (int at = 0; at < text.length(); at++) {
            char sign = text.charAt(at);
            if (sign >= '0' && sign <= '9') {
                boolean goesOn = isBehindPart && !digits.isEmpty() && !digits.equals("0") && digits.length() < 3;
                if (isBehindPart && !goesOn) {
                    return at;
                }
                digits += sign;
                isBehindPart = true;
                continue;
            }
            digits = "";
            if (!isBehindPart) {
                if (sign != 'a' && sign != '(' && sign != '!') {
                    return at;
                }
                isBehindPart = sign == 'a';
                if (sign != 'a') {
                    open.append(sign);
                }
                continue;
            }
            // a "<" that stands in this bracket is kept among what is open
            String inside = open.toString().replace("!", "");
            open.setLength(0);
            open.append(inside);
            boolean hasRelation = inside.endsWith("<");
            if (sign == ')' && inside.replace("<", "").length() > 0) {
                open.setLength(inside.length() - (hasRelation ? 2 : 1));
            } else if (sign == '<' && !hasRelation) {
                open.append('<');
                isBehindPart = false;
            } else if (sign == '&' || sign == '+') {
                open.setLength(inside.length() - (sign == '&' && hasRelation ? 1 : 0));
                isBehindPart = false;
            } else {
                return at;
            }
        }
        return isBehindPart && open.indexOf("(") < 0 ? NONE : text.length();
    }

    // "A number is a NUMBER, a letter has the type of its field in the draft"
    private static void typesOfLetters() {
        for (int number = 0; number <= 999; number += 111) {
            expectType("" + number, NUMBER);
        }
        FormWright f = new FormWright();
        for (int field = 0; field < 6; field++) {
            Forms.text(f, String.valueOf((char) ('a' + field)));
            for (int type = 0; type <= 3; type++) {
                f.setType(field, type);
                Check.due("type of the letter of " + field, type == FormWright.ABSENT ? NONE : type, () -> f.typeOfText());
            }
            f.setType(field, FormWright.ABSENT);
        }
        f.publish();
        f.setType(0, FLAG);
        f.publish();
        f.setType(0, CHOICE);
        Forms.text(f, "a");
        Check.due("of the draft, not of a version", CHOICE, () -> f.typeOfText());
    }

    // ""+", "-" and "*" take two NUMBERs ..; "<" and ">" ..; "=" takes two of the same type, or ..; "&" and "|" .."
    private static void typesOfPairs() {
        String[] parts = {"a", "b", "c", "d", "(a+b)"};
        int[][] same = {{FLAG, NONE, FLAG}, {NONE, FLAG, NONE}, {FLAG, NONE, FLAG}};
        for (int left = 0; left < parts.length; left++) {
            for (int right = 0; right < parts.length; right++) {
                boolean hasTypes = left < 3 && right < 3;
                for (char sign : "+-*<>=&|".toCharArray()) {
                    int due = NONE;
                    if (sign == '=') {
                        due = hasTypes ? same[left][right] : NONE;
                    } else if (sign == '&' || sign == '|') {
                        due = left == 1 && right == 1 ? FLAG : NONE;
                    } else if (left == 0 && right == 0) {
                        due = sign == '<' || sign == '>' ? FLAG : NUMBER;
                    }
                    expectType(parts[left] + sign + parts[right], due);
                    expectType("(" + parts[left] + sign + "(" + parts[right] + "))", due);
                }
            }
        }
        expectType("5=c", FLAG);
        expectType("c=5", FLAG);
        expectType("c=c", FLAG);
        expectType("c=b", NONE);
        expectType("b=1", NONE);
        expectType("c+1", NONE);
    }

    // ""&" and "|" take two FLAGs, "!" one, and give a FLAG"
    private static void typesOfNot() {
        expectType("!b", FLAG);
        expectType("!!!!!!b", FLAG);
        expectType("!(a<a)", FLAG);
        expectType("!a", NONE);
        expectType("!0", NONE);
        expectType("!1", NONE);
        expectType("!c", NONE);
        expectType("!d", NONE);
        expectType("!!a", NONE);
        expectType("!a<a", NONE);
        expectType("!b=b", FLAG);
        expectType("!(b=b)", FLAG);
    }

    // "A formula that takes others, or has the letter of an ABSENT field, has no type."
    private static void noTypeWithin() {
        for (String bad : new String[] {"(a+b)", "(!a)", "d", "(d=d)", "(c<c)", "(b=c)", "(a&a)"}) {
            for (char sign : "+-*<>=&|".toCharArray()) {
                for (char good : "abc".toCharArray()) {
                    expectType("" + good + sign + bad, NONE);
                    expectType("" + bad + sign + good, NONE);
                }
                expectType("" + bad + sign + bad, NONE);
            }
            expectType("!" + bad, NONE);
            expectType("(" + bad + ")", NONE);
            expectType("b|b&(" + bad + "=" + bad + ")", NONE);
        }
        expectType("d", NONE);
        expectType("a+0*d", NONE);
        expectType("b|d", NONE);
    }

    // "Returns NUMBER, FLAG or CHOICE; NONE if it has no type." "Throws ISE if the text is no formula"
    private static void typeOrNoFormula() {
        expectType("a", NUMBER);
        expectType("b", FLAG);
        expectType("c", CHOICE);
        expectType("d", NONE);
        String text = "a<12&!(b|c=3)";
        for (int length = 0; length <= text.length(); length++) {
            FormWright f = Forms.typed(TYPES);
            Forms.text(f, text.substring(0, length));
            int wanted = length == 1 ? NUMBER : length == 3 || length == 4 || length == text.length() ? FLAG : 0;
            Object due = wanted == 0 ? Check.nameOf(STATE) : wanted;
            Check.due("type of '" + text.substring(0, length) + "'", due, () -> f.typeOfText());
        }
        FormWright full = Forms.typed(TYPES);
        Forms.text(full, "a" + "+a".repeat(19) + "+");
        Check.refused("type of a full text that is none", STATE, () -> full.typeOfText());
        Forms.text(full, "!b" + "&b".repeat(19));
        Check.due("type of a full text", FLAG, () -> full.typeOfText());
    }

    private static void expectError(String text, int want) {
        FormWright f = Forms.typed(TYPES);
        Forms.text(f, text);
        Check.due("error of '" + text + "'", want, () -> f.error());
    }

    private static void expectType(String text, int want) {
        FormWright f = Forms.typed(TYPES);
        Forms.text(f, text);
        Check.due("type of '" + text + "'", want, () -> f.typeOfText());
    }
}
