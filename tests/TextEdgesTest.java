/** The boundary cases of the pad: put, wipe, fault and carryOut. */
public final class TextEdgesTest {
    private static final int BAD_VALUE = -2, BAD_TEXT = -3, NONE = -6;
    private static final String DIGITS = "0123456789";
    private static final String ORDERS = "fqlsd";
    private static final String GROWERS = "012345";

    public static void main(String[] args) {
        putEachCode();
        putEachLength();
        putKeepsTheOrder();
        padOf80();
        wipeEmptyAndFull();
        faultOfEachCharacter();
        faultOfTheEnd();
        faultOfAnOrderBehindAnother();
        faultIsTheFirst();
        faultOfLongNumbers();
        faultAt80();
        carryOutOneOrder();
        carryOutEachOrder();
        carryOutNumbersOfTheRange();
        carryOut27Orders();
        refusedFirstMiddleLast();
        refusedForEachReason();
        refusedByTheDayOfThen();
        carryOutIsOneChange();
        carryOutKeepsAFault();
        putIsNoChange();
        Due.end("TextEdgesTest");
    }

    private static Watched pad(String text) {
        Watched x = new Watched();
        Due.write(x, text);
        return x;
    }

    // ---- put and wipe

    private static void putEachCode() {
        for (int code = 0; code <= 255; code++) {
            boolean may = code >= 33 && code <= 126;
            Due.is("code " + code, new Watched().put(code), may ? 1 : BAD_VALUE);
            Due.is("code " + code + " as the last of two", new Watched().put('a' << 8 | code), may ? 2 : BAD_VALUE);
            long first = (long) code << 56 | Due.number("bcdefgh");
            Due.is("code " + code + " as the first of eight", new Watched().put(first),
                may ? 8 : code == 0 ? 7 : BAD_VALUE);
        }
    }

    private static void putEachLength() {
        for (int length = 1; length <= 8; length++) {
            Watched x = new Watched();
            Due.is("characters", x.put(Due.number("abcdefgh".substring(0, length))), length);
            Due.is("the length", x.count(18), length);
            Due.is("again", x.put(Due.number("~~~~~~~~".substring(0, length))), 2 * length);
            Due.is("again", x.put(Due.number("!!!!!!!!".substring(0, length))), 3 * length);
        }
    }

    /** The lowest 8 bits are the last character. */
    private static void putKeepsTheOrder() {
        Watched x = new Watched();
        Due.is("q1=23456 is a fault at 7", x.put(Due.number("q1=23456")), 8);
        Due.is("the fifth digit", x.fault(), 7);
        Watched y = pad("q1=234");
        Due.is("q1=234", y.carryOut(), 1);
        Due.is("234", y.ofGrower(1, 0), 234);
        Watched z = new Watched();
        for (char c : "q4=9876;q3=1".toCharArray()) z.put(c);
        Due.is("one by one", z.carryOut(), 2);
        Due.is("9876", z.ofGrower(4, 0), 9876);
        Due.is("1", z.ofGrower(3, 0), 1);
    }

    private static void padOf80() {
        Watched x = pad("q0=1;".repeat(15) + "q0=2");
        Due.is("79", x.count(18), 79);
        Due.is("80", x.put('3'), 80);
        Due.is("the pad of 80 has no fault", x.fault(), NONE);
        Due.is("16 orders", x.carryOut(), 16);
        Due.is("its last character counts", x.ofGrower(0, 0), 23);
        Due.is("room again", x.put(Due.number("12345678")), 8);
    }

    private static void wipeEmptyAndFull() {
        Watched x = new Watched();
        Due.is("empty", x.wipe(), 0);
        Due.is("empty again", x.wipe(), 0);
        Due.write(x, "a".repeat(80));
        Due.is("full", x.wipe(), 80);
        Due.is("the length", x.count(18), 0);
        Due.is("the fault of an empty pad", x.fault(), 0);
        Due.is("room again", x.put(Due.number("12345678")), 8);
        Due.is("one of 8", x.wipe(), 8);
        x.put('d');
        Due.is("nothing of it stays", x.fault(), 1);
        Due.is("of one", x.wipe(), 1);
    }

    // ---- fault

    /** Behind each beginning, each of the characters. */
    private static void faultOfEachCharacter() {
        may("", ORDERS, "");
        may("f", GROWERS, "");
        may("f3", ":", "");
        mayNumber("f3:", "%", false);
        mayNumber("f3:7%", "@", false);
        mayNumber("f3:7%8@", ";", true);
        may("q", GROWERS, "");
        may("q0", "=", "");
        mayNumber("q5=", ";", true);
        may("l", GROWERS, "");
        may("l5", ">", "");
        may("l0>", GROWERS, "");
        may("l0>0", "=", "");
        mayNumber("l1>0=", ";", true);
        mayNumber("s", "-", false);
        mayNumber("s0-", ";", true);
        mayNumber("d", ";", true);
        may("d1;", ORDERS, "");
        may("q0=9999;", ORDERS, "");
    }

    private static void mayNumber(String before, String behind, boolean ends) {
        may(before, DIGITS, ends ? DIGITS : "");
        may(before + "0", behind, "");
        String digits = ends ? DIGITS : "";
        may(before + "1", behind + DIGITS, digits);
        may(before + "90", behind + DIGITS, digits);
        may(before + "100", behind + DIGITS, digits);
        may(before + "999", behind + DIGITS, digits);
        may(before + "1000", behind, "");
        may(before + "9999", behind, "");
    }

    /** The ending ones are those behind which the text may be at its end. */
    private static void may(String before, String allowed, String ending) {
        for (char c = 33; c <= 126; c++) {
            int due = before.length();
            if (ending.indexOf(c) >= 0) due = NONE;
            else if (allowed.indexOf(c) >= 0) due = before.length() + 1;
            Due.is("fault of " + before + c, pad(before + c).fault(), due);
        }
    }

    private static void faultOfTheEnd() {
        String[] texts = {"f0:1%2@3", "f5:9999%9999@9999", "q0=0", "l0>1=2", "s0-0", "d0", "d9999", "d1;d1", "d1;q0=1;s1-2"};
        for (String text : texts) {
            Due.is("fault of " + text, pad(text).fault(), NONE);
            for (int length = 0; length < text.length(); length++) {
                String begin = text.substring(0, length);
                boolean whole = begin.matches(".*[@=0-9][0-9]*") && ends(begin);
                Due.is("fault of " + begin, pad(begin).fault(), whole ? NONE : length);
            }
        }
    }

    /** Whether the last order of these beginnings has all its parts. */
    private static boolean ends(String begin) {
        String last = begin.substring(begin.lastIndexOf(';') + 1);
        return last.matches("f.*@[0-9]+|q.=[0-9]+|l.*=[0-9]+|s.*-[0-9]+|d[0-9]+");
    }

    private static void faultOfAnOrderBehindAnother() {
        for (String first : new String[] {"f0:1%2@3", "q0=1", "l0>1=2", "s1-2", "d1"}) {
            int at = first.length();
            Due.is("nothing behind it", pad(first + ";").fault(), at + 1);
            Due.is("two signs", pad(first + ";;d1").fault(), at + 1);
            Due.is("no sign between", pad(first + "d1").fault(), at);
            Due.is("a comma", pad(first + ",d1").fault(), at);
            Due.is("a sign first", pad(";" + first).fault(), 0);
            Due.is("a good one", pad(first + ";d1").fault(), NONE);
            Due.is("a large letter", pad(first + ";D1").fault(), at + 1);
            Due.is("in the second one", pad(first + ";q6=1").fault(), at + 2);
        }
    }

    private static void faultIsTheFirst() {
        Due.is("two faults", pad("d01;d02").fault(), 2);
        Due.is("a fault and an end", pad("d1;x;d").fault(), 3);
        Due.is("of a later one", pad("d1;d2;q7=01").fault(), 7);
        Due.is("all of it", pad("~").fault(), 0);
    }

    private static void faultOfLongNumbers() {
        Due.is("9999", pad("d9999").fault(), NONE);
        Due.is("10000", pad("d10000").fault(), 5);
        Due.is("99990", pad("d99990").fault(), 5);
        Due.is("many digits", pad("d" + "9".repeat(79)).fault(), 5);
        Due.is("two 0", pad("d00").fault(), 2);
        Due.is("0 before 1", pad("d01").fault(), 2);
        Due.is("0000", pad("d0000").fault(), 2);
        Due.is("0 alone", pad("d0").fault(), NONE);
        Due.is("0 within", pad("d1001").fault(), NONE);
        Due.is("a sign of minus", pad("d-1").fault(), 1);
        Due.is("a sign of plus", pad("d+1").fault(), 1);
        Due.is("no number above a grower", pad("q05=1").fault(), 2);
        Due.is("a grower of 6", pad("q6=1").fault(), 1);
        Due.is("another of 6", pad("l5>6=1").fault(), 3);
    }

    private static void faultAt80() {
        Due.is("none", pad("d1;".repeat(26) + "d1").fault(), NONE);
        Due.is("an end too early", pad("d1;".repeat(26) + "q1").fault(), 80);
        Due.is("a ; as the last one", pad("d1;".repeat(25) + "q1=3;").fault(), 80);
        Due.is("in the last one", pad("d1;".repeat(26) + "d;").fault(), 79);
        Due.is("before the last one", pad("d1;".repeat(26) + "01").fault(), 78);
    }

    // ---- carryOut

    private static void carryOutOneOrder() {
        Watched x = pad("d1");
        Due.is("one", x.carryOut(), 1);
        Due.is("a day", x.count(0), 1);
        Due.is("the pad is empty", x.count(18), 0);
        Due.is("then there is no text", x.carryOut(), BAD_TEXT);
        Due.is("no change more", x.count(19), 1);
    }

    private static void carryOutEachOrder() {
        Watched f = pad("f5:300%100@999");
        Due.is("f", f.carryOut(), 1);
        int[] want = {5, 300, 100, 999, 0, 300};
        for (int what = 0; what < want.length; what++) Due.is("f", f.ofField(0, what), want[what]);
        Watched q = pad("q5=9999");
        Due.is("q", q.carryOut(), 1);
        Due.is("q", q.ofGrower(5, 0), 9999);
        Watched l = pad("l5>0=100");
        Due.is("l", l.carryOut(), 1);
        Due.is("l from", l.ofGrower(5, 0), 0);
        Due.is("l to", l.ofGrower(0, 0), 200);
        Watched s = pad("s1-2");
        Due.is("s", s.carryOut(), 1);
        int[] stopped = {0, 1, 2, 2};
        for (int day = 0; day < 4; day++) {
            s.pass(1);
            Due.is("s", s.count(10), stopped[day]);
        }
        Watched d = pad("d99");
        Due.is("d", d.carryOut(), 1);
        Due.is("d", d.count(0), 99);
    }

    private static void carryOutNumbersOfTheRange() {
        String[] done = {"f0:1%1@0", "f0:300%100@999", "q0=0", "q0=9999", "l0>1=1", "l0>1=100", "s0-0", "s999-999", "d1", "d99"};
        for (String text : done) Due.is(text, pad(text).carryOut(), 1);
        String[] refused = {"f0:0%1@0", "f0:301%1@0", "f0:1%0@0", "f0:1%101@0", "f0:1%1@1000", "f0:9999%9999@9999",
            "l0>1=0", "l0>0=1", "l0>1=101", "l0>1=9999", "s1-0", "s0-1000", "s1000-1000", "s9999-9999", "d0", "d100", "d9999"};
        for (String text : refused) {
            Watched x = pad(text);
            Due.is(text, x.carryOut(), 0);
            Due.is(text + ": the pad is empty", x.count(18), 0);
            Due.is(text + ": a change", x.count(19), 1);
            Due.is(text + ": nothing came", x.count(0) + x.count(1) + x.count(2), 0);
            Due.is(text + ": nor was lent", x.ofGrower(0, 0) + x.ofGrower(1, 0), 200);
        }
    }

    /** As many orders as 80 characters can hold. */
    private static void carryOut27Orders() {
        Watched x = pad("d1;".repeat(26) + "d1");
        Due.is("27 orders", x.carryOut(), 27);
        Due.is("27 days", x.count(0), 27);
        Due.is("one change", x.count(19), 1);
        Due.is("undone together", x.undo(), 0);
        Due.is("day 0", x.count(0), 0);
        Due.is("the pad stays empty", x.count(18), 0);
    }

    private static void refusedFirstMiddleLast() {
        String[] texts = {"d0;d1;d2", "d1;d0;d2", "d1;d2;d0", "d1;d2;d3"};
        int[] days = {0, 1, 3, 6};
        for (int done = 0; done < 4; done++) {
            Watched x = pad(texts[done]);
            Due.is(texts[done], x.carryOut(), done);
            Due.is(texts[done] + ": those before it stand", x.count(0), days[done]);
            Due.is(texts[done] + ": the pad is empty", x.count(18), 0);
            Due.is(texts[done] + ": one change", x.count(19), 1);
            Due.is(texts[done] + ": undone", x.undo(), 0);
            Due.is(texts[done] + ": day 0", x.count(0), 0);
        }
    }

    private static void refusedForEachReason() {
        Watched stops = pad("s0-0;s1-1;s2-2;s3-3;s4-4;s5-5;q0=7");
        Due.is("the sixth stop", stops.carryOut(), 5);
        Due.is("five stops", stops.count(2), 5);
        Due.is("nothing behind it", stops.ofGrower(0, 0), 100);
        Watched fields = new Watched();
        for (int field = 0; field < 29; field++) fields.field(0, 1, 1, 0);
        Due.write(fields, "f1:2%3@4;f1:2%3@5;q0=7");
        Due.is("the 31st field", fields.carryOut(), 1);
        Due.is("thirty", fields.count(1), 30);
        Due.is("the 30th", fields.ofField(29, 3), 4);
        Due.is("nothing behind it", fields.ofGrower(0, 0), 100);
        Watched lent = pad("q1=9998;l0>1=1;l0>1=1;q0=7");
        Due.is("above 9999", lent.carryOut(), 2);
        Due.is("9999", lent.ofGrower(1, 0), 9999);
        Due.is("a tonne was lent", lent.ofGrower(0, 0), 99);
        Watched days = new Watched();
        for (int i = 0; i < 10; i++) days.pass(99);
        Due.write(days, "d9;d1;d1;q0=7");
        Due.is("beyond 1000", days.carryOut(), 2);
        Due.is("1000", days.count(0), 1000);
        Due.is("nothing behind it", days.ofGrower(0, 0), 100);
    }

    private static void refusedByTheDayOfThen() {
        Due.is("burnt on the day before", pad("d2;f0:1%1@1").carryOut(), 1);
        Due.is("burnt on the day of then", pad("d2;f0:1%1@2").carryOut(), 2);
        Due.is("lent what came before", pad("q0=0;q1=5;l1>0=5;l0>1=5").carryOut(), 4);
        Due.is("brought before", pad("f0:9%9@0;q0=9;d1;l0>1=1").carryOut(), 3);
    }

    private static void carryOutIsOneChange() {
        Watched x = new Watched();
        for (int i = 1; i <= 5; i++) x.quota(0, i);
        Due.write(x, "q0=6;q0=7;q0=8");
        Due.is("three orders", x.carryOut(), 3);
        Due.is("the sixth state", x.count(19), 6);
        Due.write(x, "d0");
        Due.is("none is carried out", x.carryOut(), 0);
        Due.is("a change all the same, the oldest is dropped", x.count(19), 6);
        int[] quotas = {8, 5, 4, 3, 2, 1};
        for (int undone = 0; undone < 6; undone++) {
            Due.is("undo", x.undo(), 5 - undone);
            Due.is("the quota", x.ofGrower(0, 0), quotas[undone]);
        }
    }

    private static void carryOutKeepsAFault() {
        Watched x = pad("d1;d");
        Due.is("a fault", x.carryOut(), BAD_TEXT);
        Due.is("the order before it was not carried out", x.count(0), 0);
        Due.is("the pad stays", x.count(18), 4);
        Due.is("no change", x.count(19), 0);
        x.put('5');
        Due.is("mended", x.carryOut(), 2);
        Due.is("six days", x.count(0), 6);
    }

    private static void putIsNoChange() {
        Watched x = pad("d1");
        x.put(';');
        x.wipe();
        x.fault();
        Due.is("no change", x.count(19), 0);
        x.quota(0, 5);
        x.put('d');
        x.put('7');
        Due.is("undo", x.undo(), 0);
        Due.is("the pad stays", x.count(18), 2);
        Due.is("and its text", x.carryOut(), 1);
        Due.is("7 days", x.count(0), 7);
    }
}
