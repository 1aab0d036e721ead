import java.nio.file.Path;
import java.util.Arrays;

/** What the tests share: calls with the answers that are due, and the count of those that differ. */
final class Due {
    interface Call {
        Object go();
    }

    interface NumberCall {
        Object go(int number);
    }

    interface Maker {
        MapScales make();
    }

    interface Change {
        Object go(MapScales m);
    }

    interface MapCall {
        Object go(MapScales m, int number);
    }

    // Tests are run in the directory of the project.
    static final Path PROGRAM = Path.of("src/main/java/MapScales.java");
    static final Path DOCUMENT = Path.of("../shared/DOC.md");

    static final Class<?> INDEX = IndexOutOfBoundsException.class;
    static final Class<?> ARGUMENT = IllegalArgumentException.class;
    static final Class<?> STATE = IllegalStateException.class;
    static final Class<?> REFUSED = UnsupportedOperationException.class;
    static final Class<?> ELEMENT = java.util.NoSuchElementException.class;
    static final Class<?> ARITHMETIC = ArithmeticException.class;

    private static int differing = 0;
    private static int counted = 0;

    private Due() {
    }

    static void is(String call, Object want, Call asked) {
        Object got;
        try {
            got = asked.go();
        } catch (RuntimeException e) {
            got = "throws." + e.getClass().getSimpleName();
        }
        compare(call, want, got);
    }

    /** The call throws an exception of this very class. */
    static void fails(String call, Class<?> want, Call asked) {
        is(call, "throws." + want.getSimpleName(), asked);
    }

    /** The call throws an exception of this very class, and leaves everything as it is. */
    static void failsIdly(MapScales m, String call, Class<?> want, Call asked) {
        String before = picture(m);
        fails(call, want, asked);
        compare(call + " leaves the state", before, picture(m));
    }

    /** The call throws an exception of this very class, and nothing at all that can be asked differs then. */
    static void keeps(MapScales m, String call, Class<?> want, Call asked) {
        String before = whole(m);
        fails(call, want, asked);
        compare(call + " leaves the state", before, whole(m));
    }

    /** The call throws at each of the numbers, and at those farthest away, and leaves the state as it is. */
    static void outside(String call, Class<?> want, Maker maker, MapCall asked, int... numbers) {
        int[] all = Arrays.copyOf(numbers, numbers.length + 2);
        all[numbers.length] = Integer.MIN_VALUE;
        all[numbers.length + 1] = Integer.MAX_VALUE;
        for (int number : all) {
            // A new object each time: nothing is promised about one after its 512th call.
            MapScales m = maker.make();
            keeps(m, call + " " + number, want, () -> asked.go(m, number));
        }
    }

    /** The call answers the same for all numbers from one to another. */
    static void alike(String call, Object want, int first, int last, NumberCall asked) {
        for (int number = first; number <= last; number++) {
            int at = number;
            is(call + " " + at, want, () -> asked.go(at));
        }
    }

    /** The call answers these, one after the other, for the numbers from 0 on. */
    static void answers(String call, NumberCall asked, Object... want) {
        for (int number = 0; number < want.length; number++) {
            int at = number;
            is(call + " " + at, want[at], () -> asked.go(at));
        }
    }

    /** The call is refused, leaves everything as it is, and keeps reasons with their details. */
    static void refused(MapScales m, String call, Call asked, int... reasons) {
        failsIdly(m, call, REFUSED, asked);
        reasonsAre(m, call, reasons);
    }

    static void reasonsAre(MapScales m, String call, int... reasons) {
        for (int depth = 0; depth < 3; depth++) {
            int at = depth;
            if (2 * depth < reasons.length) {
                is(call + ": reason " + depth, reasons[2 * depth], () -> m.reason(at, false));
                is(call + ": detail " + depth, reasons[2 * depth + 1], () -> m.reason(at, true));
            } else {
                fails(call + ": reason " + depth, ELEMENT, () -> m.reason(at, false));
                fails(call + ": detail " + depth, ELEMENT, () -> m.reason(at, true));
            }
        }
    }

    static void compare(String what, Object want, Object got) {
        counted++;
        if (!want.equals(got)) {
            differing++;
            System.out.println(what + " answered " + got + ", due is " + want);
        }
    }

    static void type(MapScales m, String text) {
        for (int i = 0; i < text.length(); i++) {
            m.append(text.charAt(i));
        }
    }

    static int readText(MapScales m, String text) {
        type(m, text);
        return m.read();
    }

    static int drawRiver(MapScales m, int cell, String steps, int told) {
        type(m, steps);
        return m.river(cell, told);
    }

    /** Paints the map by rows of "a" to "d" and ".", and draws nothing else. */
    static MapScales map(String... rows) {
        MapScales m = new MapScales();
        for (int y = 0; y < rows.length; y++) {
            for (int x = 0; x < rows[y].length(); x++) {
                if (rows[y].charAt(x) != '.') {
                    m.paint(8 * y + x, rows[y].charAt(x) - 'a');
                }
            }
        }
        return m;
    }

    static String line(MapScales m, int length) {
        StringBuilder text = new StringBuilder();
        for (int i = 0; i < length; i++) {
            text.append(m.character(i));
        }
        return text.toString();
    }

    /** All that can be asked without changing the line, but for the input and the history. */
    static String drawn(MapScales m) {
        StringBuilder text = new StringBuilder();
        for (int cell = 0; cell < 64; cell++) {
            text.append(m.realmAt(cell)).append(' ');
        }
        for (int realm = 0; realm < 4; realm++) {
            for (int what = 0; what < 6; what++) {
                text.append(m.realmOf(realm, what)).append(' ');
            }
        }
        for (int river = 0; river < m.account(1); river++) {
            for (int what = 0; what < 6; what++) {
                text.append(m.riverOf(river, what)).append(' ');
            }
            for (int place = 0; place <= m.riverOf(river, 1); place++) {
                text.append(m.riverAt(river, place)).append(' ');
            }
        }
        for (int dragon = 0; dragon < m.account(2); dragon++) {
            for (int what = 0; what < 3; what++) {
                text.append(m.dragonOf(dragon, what)).append(' ');
            }
        }
        for (int account = 0; account < 9; account++) {
            text.append(m.account(account)).append(' ');
        }
        return text.toString();
    }

    /** All that can be asked. */
    static String whole(MapScales m) {
        StringBuilder text = new StringBuilder(drawn(m));
        text.append(m.account(9)).append(' ').append(m.account(10)).append(' ');
        for (int depth = 0; depth < 3; depth++) {
            int at = depth;
            text.append(orNone(() -> m.reason(at, false))).append(' ');
            text.append(orNone(() -> m.reason(at, true))).append(' ');
        }
        text.append(orNone(() -> m.errorPosition())).append(' ');
        // No line is longer than 19; the bound lets a program whose line never ends fail, and not hang.
        Object sign = orNone(() -> m.character(0));
        for (int index = 1; index <= 64 && !sign.equals("none"); index++) {
            int at = index;
            text.append(sign);
            sign = orNone(() -> m.character(at));
        }
        return text.toString();
    }

    private static Object orNone(Call asked) {
        try {
            return asked.go();
        } catch (java.util.NoSuchElementException e) {
            return "none";
        }
    }

    /** What a change can hardly leave as it is. Fewer calls than drawn: an object is used for at most 512. */
    private static String picture(MapScales m) {
        StringBuilder text = new StringBuilder();
        for (int realm = 0; realm < 4; realm++) {
            text.append(m.realmOf(realm, 0)).append(' ').append(m.realmOf(realm, 1)).append(' ');
        }
        for (int account = 0; account < 9; account++) {
            text.append(m.account(account)).append(' ');
        }
        return text.append(m.account(10)).toString();
    }

    static int differing() {
        return differing;
    }

    static int counted() {
        return counted;
    }

    static void end(String name) {
        System.out.println(name + ": " + counted + " answers, " + differing + " not as due");
        if (differing != 0 || counted == 0) {
            System.exit(1);
        }
    }
}
