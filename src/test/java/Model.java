import java.util.ArrayList;
import java.util.Arrays;
import java.util.List;

/**
 * What the document says, told a second time in another way: formulas are kept as their plain texts, which are
 * cut at their signs each time that they are read. It is slow, and shares nothing with the program.
 */
final class Model {
    private static final String[] LEVELS = {"|", "&", "<=>", "+-", "*"};

    private static final class Sheet {
        final int[] types = new int[6];
        final String[] formulas = new String[10];
    }

    private static final class Reply {
        int version;
        Sheet sheet;
        int state = FormWright.OPEN;
        final Integer[] values = new Integer[6];
        final boolean[] doubts = new boolean[6];
    }

    private final StringBuilder text = new StringBuilder();
    private final Sheet draft = new Sheet();
    private final List<Sheet> sheets = new ArrayList<>();
    private final List<Reply> replies = new ArrayList<>();

    int type(char character) {
        state(text.length() < 40);
        return text.append(character).length();
    }

    int clear() {
        int length = text.length();
        text.setLength(0);
        return length;
    }

    int error() {
        String all = text.toString();
        if (isFormula(all, 0, 0)) {
            return FormWright.NONE;
        }
        int length = 0;
        while (length < all.length() && canGoOn(all.substring(0, length + 1))) {
            length++;
        }
        return length;
    }

    int typeOfText() {
        state(error() == FormWright.NONE);
        return typeOf(text.toString(), draft.types);
    }

    int setType(int field, int type) {
        bounds(field >= 0 && field < 6);
        argument(type >= 0 && type < 4);
        draft.types[field] = type;
        int count = 0;
        for (int k = 0; k < 10; k++) {
            count += isBroken(k) ? 1 : 0;
        }
        return count;
    }

    int setFormula(int k) {
        bounds(k >= 0 && k < 10);
        argument(error() == FormWright.NONE);
        String old = draft.formulas[k];
        draft.formulas[k] = plainOf(text.toString());
        boolean isWrong = isBroken(k);
        for (int field = 0; field < 6; field++) {
            isWrong |= draft.formulas[field] != null && leadsTo(field, field, 7);
        }
        if (isWrong) {
            draft.formulas[k] = old;
        }
        state(!isWrong);
        return (int) Arrays.stream(draft.formulas).filter(f -> f != null).count();
    }

    boolean dropFormula(int k) {
        bounds(k >= 0 && k < 10);
        boolean had = draft.formulas[k] != null;
        draft.formulas[k] = null;
        return had;
    }

    boolean isBroken(int k) {
        bounds(k >= 0 && k < 10);
        int due = k < 6 ? draft.types[k] : FormWright.FLAG;
        return draft.formulas[k] != null && (due == FormWright.ABSENT || typeOf(draft.formulas[k], draft.types) != due);
    }

    int publish() {
        state(sheets.size() < 10);
        List<String> gone = new ArrayList<>();
        for (int k = 0; k < 10; k++) {
            if (isBroken(k)) {
                gone.add(k + ":" + draft.formulas[k]);
            }
        }
        for (String each : gone) {
            draft.formulas[each.charAt(0) - '0'] = null;
        }
        Sheet sheet = new Sheet();
        System.arraycopy(draft.types, 0, sheet.types, 0, 6);
        System.arraycopy(draft.formulas, 0, sheet.formulas, 0, 10);
        sheets.add(sheet);
        for (Reply reply : replies) {
            if (reply.state == FormWright.COUNTED || reply.state == FormWright.HELD) {
                meet(reply, sheet, gone);
            }
        }
        return sheets.size() - 1;
    }

    private void meet(Reply reply, Sheet sheet, List<String> gone) {
        for (int field = 0; field < 6; field++) {
            int own = reply.sheet.types[field];
            boolean falls = own != FormWright.ABSENT && own != sheet.types[field];
            for (int k = 0; k < 10; k++) {
                String formula = reply.sheet.formulas[k];
                falls |= formula != null && gone.contains(k + ":" + formula) && k != field
                    && formula.indexOf('a' + field) >= 0;
            }
            reply.doubts[field] |= falls;
            if (reply.doubts[field]) {
                reply.state = FormWright.HELD;
            }
        }
    }

    int versions() {
        return sheets.size();
    }

    int typeIn(int version, int field) {
        bounds(version >= 0 && version < sheets.size() && field >= 0 && field < 6);
        return sheets.get(version).types[field];
    }

    int order(int version, int place) {
        bounds(version >= 0 && version < sheets.size() && place >= 0);
        List<Integer> told = orderOf(sheets.get(version));
        return place < told.size() ? told.get(place) : FormWright.NONE;
    }

    int plain(int version, int k, int place) {
        bounds(version >= 0 && version < sheets.size() && k >= 0 && k < 10 && place >= 0);
        String formula = sheets.get(version).formulas[k];
        return formula == null || place >= formula.length() ? FormWright.NONE : formula.charAt(place);
    }

    int begin() {
        state(!sheets.isEmpty() && replies.size() < 20);
        Reply reply = new Reply();
        reply.version = sheets.size() - 1;
        reply.sheet = sheets.get(reply.version);
        replies.add(reply);
        return replies.size() - 1;
    }

    int put(int answer, int field, int value) {
        Reply reply = reply(answer, field);
        state(reply.state == FormWright.OPEN && isPut(reply, field));
        argument(isInside(reply.sheet.types[field], value));
        reply.values[field] = value;
        return missing(reply);
    }

    int handIn(int answer) {
        Reply reply = reply(answer, 0);
        state(reply.state == FormWright.OPEN && missing(reply) == 0);
        compute(reply);
        reply.state = refuser(reply) == FormWright.NONE ? FormWright.COUNTED : FormWright.REFUSED;
        return reply.state;
    }

    int answers() {
        return replies.size();
    }

    int stateOf(int answer) {
        return reply(answer, 0).state;
    }

    int versionOf(int answer) {
        return reply(answer, 0).version;
    }

    int value(int answer, int field) {
        Reply reply = reply(answer, field);
        state(reply.values[field] != null);
        return reply.values[field];
    }

    int refusal(int answer) {
        Reply reply = reply(answer, 0);
        state(reply.state != FormWright.OPEN);
        return refuser(reply);
    }

    int counted() {
        return (int) replies.stream().filter(reply -> reply.state == FormWright.COUNTED).count();
    }

    boolean doubt(int answer, int field) {
        Reply reply = reply(answer, field);
        state(reply.state == FormWright.COUNTED || reply.state == FormWright.HELD);
        state(reply.sheet.types[field] != FormWright.ABSENT);
        boolean was = reply.doubts[field];
        reply.doubts[field] = true;
        reply.state = FormWright.HELD;
        return was;
    }

    int settle(int answer, int field, boolean isFine) {
        Reply reply = reply(answer, field);
        state(reply.state == FormWright.HELD && reply.doubts[field]);
        if (!isFine) {
            reply.state = FormWright.STRUCK;
        } else {
            reply.doubts[field] = false;
            reply.state = doubts(answer) == 0 ? FormWright.COUNTED : FormWright.HELD;
        }
        return reply.state;
    }

    int amend(int answer, int field, int value) {
        Reply reply = reply(answer, field);
        state(reply.state == FormWright.HELD && isPut(reply, field));
        argument(isInside(reply.sheet.types[field], value));
        reply.values[field] = value;
        reply.doubts[field] = false;
        compute(reply);
        boolean isRefused = refuser(reply) != FormWright.NONE;
        reply.state = isRefused ? FormWright.REFUSED : doubts(answer) == 0 ? FormWright.COUNTED : FormWright.HELD;
        return reply.state;
    }

    int doubts(int answer) {
        Reply reply = reply(answer, 0);
        int fields = 0;
        for (int field = 0; field < 6; field++) {
            fields += reply.doubts[field] ? 1 << field : 0;
        }
        return fields;
    }

    /** The face does not tell this; the tests draw formulas that fit by it. */
    int draftType(int field) {
        return draft.types[field];
    }

    private Reply reply(int answer, int field) {
        bounds(answer >= 0 && answer < replies.size() && field >= 0 && field < 6);
        return replies.get(answer);
    }

    private static boolean isPut(Reply reply, int field) {
        return reply.sheet.types[field] != FormWright.ABSENT && reply.sheet.formulas[field] == null;
    }

    private static int missing(Reply reply) {
        int count = 0;
        for (int field = 0; field < 6; field++) {
            count += isPut(reply, field) && reply.values[field] == null ? 1 : 0;
        }
        return count;
    }

    private static boolean isInside(int type, int value) {
        int[] low = {0, -999, 0, 0};
        int[] high = {-1, 999, 1, 9};
        return value >= low[type] && value <= high[type];
    }

    private static void compute(Reply reply) {
        for (int field : orderOf(reply.sheet)) {
            reply.values[field] = (int) valueOf(reply.sheet.formulas[field], reply.values);
        }
    }

    private static int refuser(Reply reply) {
        for (int k = 6; k < 10; k++) {
            if (reply.sheet.formulas[k] != null && valueOf(reply.sheet.formulas[k], reply.values) == 0) {
                return k;
            }
        }
        return FormWright.NONE;
    }

    private static List<Integer> orderOf(Sheet sheet) {
        List<Integer> told = new ArrayList<>();
        boolean isMore = true;
        while (isMore) {
            isMore = false;
            for (int field = 0; field < 6 && !isMore; field++) {
                if (sheet.formulas[field] != null && !told.contains(field) && isFree(sheet, field, told)) {
                    told.add(field);
                    isMore = true;
                }
            }
        }
        return told;
    }

    private static boolean isFree(Sheet sheet, int field, List<Integer> told) {
        for (int other = 0; other < 6; other++) {
            if (sheet.formulas[other] != null && !told.contains(other)
                    && sheet.formulas[field].indexOf('a' + other) >= 0) {
                return false;
            }
        }
        return true;
    }

    private boolean leadsTo(int from, int to, int steps) {
        String formula = draft.formulas[from];
        if (formula == null || steps == 0) {
            return false;
        }
        for (int field = 0; field < 6; field++) {
            if (formula.indexOf('a' + field) >= 0 && (field == to || leadsTo(field, to, steps - 1))) {
                return true;
            }
        }
        return false;
    }

    private static boolean canGoOn(String begin) {
        for (String part : new String[] {"", "a"}) {
            for (int brackets = 0; brackets <= 7; brackets++) {
                if (isFormula(begin + part + ")".repeat(brackets), 0, 0)) {
                    return true;
                }
            }
        }
        return false;
    }

    private static boolean isFormula(String part, int level, int open) {
        if (level == LEVELS.length) {
            return isFactor(part, open);
        }
        int begin = 0;
        int count = 1;
        for (int at = 0; at <= part.length(); at++) {
            if (at < part.length() && !isSignAt(part, at, LEVELS[level])) {
                continue;
            }
            if (!isFormula(part.substring(begin, at), level + 1, open)) {
                return false;
            }
            count += at < part.length() ? 1 : 0;
            begin = at + 1;
        }
        return level != 2 || count <= 2;
    }

    private static boolean isFactor(String part, int open) {
        if (part.matches("0|[1-9][0-9]{0,2}|[a-f]")) {
            return true;
        }
        if (part.isEmpty() || open == 6) {
            return false;
        }
        if (part.charAt(0) == '!') {
            return isFactor(part.substring(1), open + 1);
        }
        return isBracket(part) && isFormula(part.substring(1, part.length() - 1), 0, open + 1);
    }

    private static boolean isBracket(String part) {
        return part.length() > 2 && part.charAt(0) == '(' && part.charAt(part.length() - 1) == ')'
            && depthAt(part, part.length() - 1) == 1;
    }

    private static boolean isSignAt(String part, int at, String signs) {
        return signs.indexOf(part.charAt(at)) >= 0 && depthAt(part, at) == 0;
    }

    /** How many brackets are open ahead of a place. */
    private static int depthAt(String part, int place) {
        int depth = 0;
        for (int at = 0; at < place; at++) {
            depth += part.charAt(at) == '(' ? 1 : part.charAt(at) == ')' ? -1 : 0;
        }
        return depth;
    }

    /** The place of the sign that is done last; -1 in a factor. */
    private static int lastSign(String formula) {
        for (String level : LEVELS) {
            for (int at = formula.length() - 1; at >= 0; at--) {
                if (isSignAt(formula, at, level)) {
                    return at;
                }
            }
        }
        return -1;
    }

    private static String inner(String bracket) {
        return bracket.substring(1, bracket.length() - 1);
    }

    static String plainOf(String formula) {
        int sign = lastSign(formula);
        if (sign >= 0) {
            String left = plainOf(formula.substring(0, sign));
            return "(" + left + formula.charAt(sign) + plainOf(formula.substring(sign + 1)) + ")";
        }
        switch (formula.charAt(0)) {
            case '(':
                return plainOf(inner(formula));
            case '!':
                return "!" + plainOf(formula.substring(1));
            default:
                return formula;
        }
    }

    private static int typeOf(String formula, int[] types) {
        int sign = lastSign(formula);
        if (sign >= 0) {
            String pair = letter(typeOf(formula.substring(0, sign), types)) + formula.charAt(sign)
                + letter(typeOf(formula.substring(sign + 1), types));
            return pair.matches("N[-+*]N") ? FormWright.NUMBER
                : pair.matches("N[<>]N|N=N|F=F|C=C|N=C|C=N|F[&|]F") ? FormWright.FLAG : FormWright.NONE;
        }
        switch (formula.charAt(0)) {
            case '(':
                return typeOf(inner(formula), types);
            case '!':
                return typeOf(formula.substring(1), types) == FormWright.FLAG ? FormWright.FLAG : FormWright.NONE;
            default:
                if (formula.charAt(0) <= '9') {
                    return FormWright.NUMBER;
                }
                int type = types[formula.charAt(0) - 'a'];
                return type == FormWright.ABSENT ? FormWright.NONE : type;
        }
    }

    private static String letter(int type) {
        return type == FormWright.NONE ? "-" : "ANFC".substring(type, type + 1);
    }

    private static long valueOf(String formula, Integer[] values) {
        int sign = lastSign(formula);
        if (sign >= 0) {
            long left = valueOf(formula.substring(0, sign), values);
            long right = valueOf(formula.substring(sign + 1), values);
            return result(formula.charAt(sign), left, right);
        }
        switch (formula.charAt(0)) {
            case '(':
                return valueOf(inner(formula), values);
            case '!':
                return 1 - valueOf(formula.substring(1), values);
            default:
                return formula.charAt(0) <= '9' ? Long.parseLong(formula) : values[formula.charAt(0) - 'a'];
        }
    }

    private static long result(char sign, long left, long right) {
        switch (sign) {
            case '+':
                return remainder(left + right);
            case '-':
                return remainder(left - right);
            case '*':
                return remainder(left * right);
            case '<':
                return left < right ? 1 : 0;
            case '=':
                return left == right ? 1 : 0;
            case '>':
                return left > right ? 1 : 0;
            case '&':
                return Math.min(left, right);
            default:
                return Math.max(left, right);
        }
    }

    private static long remainder(long number) {
        long rest = Math.abs(number) - Math.abs(number) / 10000 * 10000;
        return number < 0 ? -rest : rest;
    }

    private static void bounds(boolean holds) {
        if (!holds) {
            throw new IndexOutOfBoundsException();
        }
    }

    private static void state(boolean holds) {
        if (!holds) {
            throw new IllegalStateException();
        }
    }

    private static void argument(boolean holds) {
        if (!holds) {
            throw new IllegalArgumentException();
        }
    }
}
