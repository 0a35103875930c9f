/** Counts the answers that are not the due ones; every test of the project ends with end(). */
final class Due {
    private int wrong = 0;
    private String part = "";

    /** What the answers that follow are held against: a promise, or a sentence of the document. */
    void part(String name) {
        part = name;
    }

    void is(String call, long got, long want) {
        if (got != want) {
            wrong++;
            System.out.println(part + ": " + call + " answered " + got + ", due is " + want);
        }
    }

    void holds(String what, boolean so) {
        if (!so) {
            wrong++;
            System.out.println(part + ": " + what + " does not hold");
        }
    }

    /** The text of a row, by its length and then sign by sign. */
    void text(BitBoard x, int row, String want) {
        is("text " + want, x.text(row), want.length());
        signs("after text", x, want);
    }

    /** The latest text, sign by sign, with nothing before it and nothing behind it. */
    void signs(String when, BitBoard x, String want) {
        for (int k = 0; k < want.length(); k++) {
            is("octet " + k + " of " + want + " " + when, x.octet(k), want.charAt(k));
        }
        is("octet behind " + want + " " + when, x.octet(want.length()), BitBoard.REFUSED);
        is("octet before " + want + " " + when, x.octet(-1), BitBoard.REFUSED);
    }

    void end() {
        System.out.println(wrong == 0 ? "all answers are as due" : wrong + " answers are not as due");
        if (wrong != 0) {
            System.exit(1);
        }
    }
}
