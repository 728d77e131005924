/**
 * All that can be looked at in an object, as one text, so that two looks can be compared. A look may
 * go beyond the 512 calls of the document, for the program does not count its calls.
 */
final class Look {
    private final StringBuilder seen = new StringBuilder();
    private final StreamEnds x;

    private Look(StreamEnds x) {
        this.x = x;
    }

    static String at(StreamEnds x) {
        Look look = new Look(x);
        look.wholeObject();
        look.wire();
        look.end(0);
        look.end(1);
        return look.seen.toString();
    }

    /** The values of one endpoint, but for its state and its timers, which change when it becomes CLOSED. */
    static String kept(StreamEnds x, int e) {
        Look look = new Look(x);
        look.end(e);
        return look.seen.toString().replaceAll("end " + e + ", (0|11|12) .*\n", "");
    }

    private void note(String name, int value) {
        seen.append(name).append(' ').append(value).append('\n');
    }

    private void wholeObject() {
        for (int what = 0; what <= 11; what++) {
            note("count " + what, x.count(what));
        }
        for (int what = 0; what <= 5; what++) {
            note("calm " + what, x.calm(what));
        }
        for (int i = 0; i <= 2; i++) {
            note("cause " + i, x.cause(i));
        }
        note("fault", x.fault());
    }

    private void wire() {
        for (int i = 0; i < x.count(5); i++) {
            for (int what = 0; what <= 11; what++) {
                note("letter " + i + ", " + what, x.letter(i, what));
            }
            for (int j = 0; j <= 8; j++) {
                note("byteOf " + i + ", " + j, x.byteOf(i, j));
            }
        }
    }

    private void end(int e) {
        for (int what = 0; what <= 17; what++) {
            note("end " + e + ", " + what, x.end(e, what));
        }
        for (int i = 0; i <= 6; i++) {
            note("sample " + e + ", " + i, x.sample(e, i));
        }
        for (int i = -1; i <= 3; i++) {
            note("span " + e + ", " + i + ", 0", x.span(e, i, 0));
            note("span " + e + ", " + i + ", 1", x.span(e, i, 1));
        }
        for (int place = 0; place <= x.end(e, 2); place++) {
            note("known " + e + ", " + place, x.known(e, place));
        }
    }
}
