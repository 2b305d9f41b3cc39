/** What the tests do with forms again and again. */
final class Forms {
    private Forms() {
    }

    /** A new form whose fields have the types that the digits tell. */
    static FormWright typed(String types) {
        FormWright f = new FormWright();
        types(f, types);
        return f;
    }

    static void types(FormWright f, String types) {
        for (int field = 0; field < types.length(); field++) {
            f.setType(field, types.charAt(field) - '0');
        }
    }

    static void text(FormWright f, String text) {
        f.clear();
        for (int at = 0; at < text.length(); at++) {
            f.type(text.charAt(at));
        }
    }

    static int formula(FormWright f, int formula, String text) {
        text(f, text);
        return f.setFormula(formula);
    }

    static String plain(FormWright f, int version, int formula) {
        StringBuilder text = new StringBuilder();
        for (int sign = f.plain(version, formula, 0); sign != FormWright.NONE && text.length() < 1000;
                sign = f.plain(version, formula, text.length())) {
            text.append((char) sign);
        }
        return text.toString();
    }

    static String order(FormWright f, int version) {
        StringBuilder text = new StringBuilder();
        for (int field = f.order(version, 0); field != FormWright.NONE && text.length() < 1000;
                field = f.order(version, text.length())) {
            text.append((char) ('a' + field));
        }
        return text.toString();
    }

    /** Begins an answer of the latest version and puts the values, from the first field on; null is none. */
    static int filled(FormWright f, Integer... values) {
        int answer = f.begin();
        for (int field = 0; field < values.length; field++) {
            if (values[field] != null) {
                f.put(answer, field, values[field]);
            }
        }
        return answer;
    }

    static int handedIn(FormWright f, Integer... values) {
        int answer = filled(f, values);
        f.handIn(answer);
        return answer;
    }
}
