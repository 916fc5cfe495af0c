/** Promises 2 to 4: the text buffer, and where it is not a motif. */
public final class TextTest {
    private static final Check CHECK = new Check();

    public static void main(String[] args) {
        append();
        clearText();
        motifs();
        errors();
        everySignAtEveryPlace();
        CHECK.finish("TextTest");
    }

    private static void append() {
        RugPunch x = new RugPunch();
        CHECK.same("the first append", x.append(0), 1);
        CHECK.same("the second append", x.append(255), 2);
        CHECK.noRange("append(-1)", () -> x.append(-1));
        CHECK.noRange("append(256)", () -> x.append(256));
        for (int length = 3; length <= 120; length++) {
            CHECK.same("append", x.append('l'), length);
        }
        CHECK.noState("append to 120 characters", () -> x.append('l'));
        CHECK.noRange("append(256) to 120 characters", () -> x.append(256));
        CHECK.same("the text after refused calls", x.clearText(), 120);
    }

    private static void clearText() {
        RugPunch x = new RugPunch();
        CHECK.same("clearText() at first", x.clearText(), 0);
        Check.write(x, "s0");
        CHECK.same("clearText()", x.clearText(), 2);
        CHECK.same("clearText() again", x.clearText(), 0);
        CHECK.same("append after clearText()", x.append('l'), 1);
        CHECK.same("the text is the new one", x.errorPosition(), RugPunch.NONE);
    }

    private static void motifs() {
        String[] good = {
            "l", "r", "x", "e", "s01", "s09", "s10", "s12", "j01", "j12", "c0", "c4", "h1", "h9", "m0", "m3",
            "2(l)", "9(s01)", "2(l)3(r)", "l2(rc1)x", "2(m3h9j10s12)e", "lrxe",
        };
        for (String text : good) {
            CHECK.same(text, errorIn(text), RugPunch.NONE);
        }
        StringBuilder full = new StringBuilder();
        for (int i = 0; i < 40; i++) {
            full.append("s12");
        }
        CHECK.same("a motif of 120 characters", errorIn(full.toString()), RugPunch.NONE);
        full.setLength(119);
        CHECK.same("119 characters that end too soon", errorIn(full.toString()), 119);
    }

    private static void errors() {
        due("", 0);
        due("s", 1);
        due("s0", 2);
        due("s1", 2);
        due("s00", 2);
        due("s13", 2);
        due("s2", 1);
        due("s20", 1);
        due("j00", 2);
        due("j13", 2);
        due("j9", 1);
        due("c", 1);
        due("c5", 1);
        due("h0", 1);
        due("m4", 1);
        due("0(l)", 0);
        due("1(l)", 0);
        due("2", 1);
        due("2l", 1);
        due("2(", 2);
        due("2()", 2);
        due("2(l", 3);
        due("2(3(l))", 2);
        due("2(l3(l))", 3);
        due("2(s0)", 4);
        due("2(l))", 4);
        due(")", 0);
        due("(l)", 0);
        due("l)", 1);
        due("l(", 1);
        due("l l", 1);
        due(" l", 0);
        due("L", 0);
        due("ll", RugPunch.NONE);
        due("ls01k", 4);
        due("2(l)2", 5);
        due("22(l)", 1);
    }

    /** After each beginning the signs that are allowed are just these. */
    private static void everySignAtEveryPlace() {
        allowedAfter("", "sjlrchxem23456789");
        allowedAfter("l", "sjlrchxem23456789");
        allowedAfter("2(l)", "sjlrchxem23456789");
        allowedAfter("2(", "sjlrchxem");
        allowedAfter("2(s01", "sjlrchxem)");
        allowedAfter("s", "01");
        allowedAfter("s0", "123456789");
        allowedAfter("s1", "012");
        allowedAfter("j", "01");
        allowedAfter("j0", "123456789");
        allowedAfter("j1", "012");
        allowedAfter("c", "01234");
        allowedAfter("h", "123456789");
        allowedAfter("m", "0123");
        allowedAfter("9", "(");
    }

    private static void allowedAfter(String beginning, String signs) {
        for (char sign = 0; sign < 256; sign++) {
            boolean refused = errorIn(beginning + sign) == beginning.length();
            CHECK.holds("sign " + (int) sign + " after '" + beginning + "'", refused == (signs.indexOf(sign) < 0));
        }
    }

    private static void due(String text, int position) {
        CHECK.same("the error position of '" + text + "'", errorIn(text), position);
    }

    private static int errorIn(String text) {
        RugPunch x = new RugPunch();
        Check.write(x, text);
        return x.errorPosition();
    }
}
