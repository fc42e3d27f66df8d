import java.nio.charset.StandardCharsets;

/** What the tests share: comparing answers, and giving a cycler its text. */
final class Check {
    interface Call {
        Object run();
    }

    private int wrong = 0;
    private int checked = 0;

    void same(String call, Object got, Object want) {
        checked++;
        if (!want.equals(got)) {
            wrong++;
            System.out.println(call + " answered " + got + ", due is " + want);
        }
    }

    /** Index exceptions are "index", wrong arguments "argument". */
    void fails(String call, String kind, Call made) {
        same(call, outcome(made), kind);
    }

    static Object outcome(Call made) {
        try {
            return made.run();
        } catch (RuntimeException e) {
            if (e.getClass() == IndexOutOfBoundsException.class) {
                return "index";
            }
            return e.getClass() == IllegalArgumentException.class ? "argument" : e.toString();
        }
    }

    /** A text whose first error has this number and position. */
    void error(String text, int number, int position) {
        CellCycler x = new CellCycler();
        same("load of '" + text + "'", load(x, text), -100 - position);
        same("loadError of '" + text + "'", x.loadError(), number);
    }

    /** A text without an error, with so many cells. */
    void good(String text, int channels) {
        CellCycler x = new CellCycler();
        same("load of '" + text + "'", load(x, text), channels);
        same("loadError of '" + text + "'", x.loadError(), 0);
    }

    void finish() {
        System.out.println(checked + " answers, " + wrong + " not as due");
        if (wrong != 0 || checked == 0) {
            System.exit(1);
        }
    }

    static void type(CellCycler x, String text) {
        byte[] bytes = text.getBytes(StandardCharsets.ISO_8859_1);
        for (int from = 0; from < bytes.length; from += 8) {
            long packed = 0;
            for (int k = from; k < from + 8 && k < bytes.length; k++) {
                packed = packed << 8 | (bytes[k] & 255);
            }
            x.append(packed);
        }
    }

    static int load(CellCycler x, String text) {
        type(x, text);
        return x.load();
    }

    /** A new cycler with a description that has no error. */
    static CellCycler loaded(String text) {
        CellCycler x = new CellCycler();
        if (load(x, text) < 0) {
            throw new AssertionError(text);
        }
        return x;
    }
}
