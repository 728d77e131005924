/** "Conventions": which error is returned, NONE, and division. RefusedTest has "changes nothing". */
public final class ConventionsTest {
    public static void main(String[] args) {
        constants();
        badRatherThanNo();
        badRatherThanFull();
        noRatherThanFull();
        noneOnlyWithoutErrors();
        divisionRoundsTowardZero();
        Check.end("ConventionsTest");
    }

    private static void constants() {
        Check.same("BAD", StreamEnds.BAD, -1);
        Check.same("NO", StreamEnds.NO, -2);
        Check.same("FULL", StreamEnds.FULL, -3);
        Check.same("NONE", StreamEnds.NONE, -4);
    }

    private static void badRatherThanNo() {
        for (int state = 1; state <= 10; state++) {
            Check.run("BAD rather than NO: open() in state " + state, States.RUNS[state], "open(0, 0) = -2; open(0, 1) = -2;",
                    "open(0, -1) = -1; open(0, 2) = -1;");
        }
        for (int state : new int[] {0, 1, 5, 6, 8, 9, 10}) {
            Check.run("BAD rather than NO: say() in state " + state, States.RUNS[state], "say(0, 0) = -2; say(0, 255) = -2;",
                    "say(0, -1) = -1; say(0, 256) = -1;");
        }
        for (String run : States.RELEASING) {
            Check.run("BAD rather than NO: say() of a releasing endpoint", run, "say(0, 255) = -2; say(0, 256) = -1; "
                    + "say(0, -1) = -1;");
        }
    }

    private static void badRatherThanFull() {
        Check.run("BAD rather than FULL: write()", States.FULL_TEXT, "write(32) = -3; write(126) = -3; write(31) = -1; "
                + "write(127) = -1;");
        for (String run : States.FULL_PENDING) {
            Check.run("BAD rather than FULL: say()", run, "say(0, 0) = -3; say(0, 255) = -3; say(0, 256) = -1; "
                    + "say(0, -1) = -1;",
                    "say(2, 0) = -1; say(-1, 0) = -1;");
        }
        for (String run : States.FULL_WIRE) {
            Check.run("BAD rather than FULL: twice()", run, "twice(0) = -3; twice(19) = -3; twice(20) = -1; twice(-1) = -1;");
        }
    }

    private static void noRatherThanFull() {
        Check.run("NO rather than FULL: say() in state CLOSED", States.FULL_PENDING[0],
                "say(0, 1) = -3; quit(0) = 2; end(0, 4) = 32; say(0, 1) = -2;");
        Check.run("NO rather than FULL: say() in state CLOSED", States.FULL_PENDING[1],
                "say(0, 1) = -3; quit(0) = 3; end(0, 4) = 32; say(0, 1) = -2;");
        Check.run("NO rather than FULL: say() in state CLOSED", States.FULL_PENDING[2],
                "say(0, 1) = -3; quit(0) = 4; end(0, 4) = 32; say(0, 1) = -2;");
        Check.run("NO rather than FULL: say() in state CLOSED", States.FULL_PENDING[3],
                "say(0, 1) = -3; quit(0) = 7; end(0, 4) = 32; say(0, 1) = -2;");
        Check.run("NO rather than FULL: say() when releasing", States.FULL_PENDING[1], "leave(0) = 3; say(0, 1) = -2;");
        Check.run("NO rather than FULL: say() when releasing", States.FULL_PENDING[2], "leave(0) = 4; say(0, 1) = -2;");
        Check.run("NO rather than FULL: say() when releasing", States.FULL_PENDING[3], "leave(0) = 7; say(0, 1) = -2;");
    }

    private static void noneOnlyWithoutErrors() {
        Check.run("NONE only if no error applies: take()", "take(0) = -4; take(1) = -4; take(-1) = -1; take(2) = -1;");
        Check.run("NONE only if no error applies: end()", "end(0, 16) = -4; end(1, 17) = -4; end(2, 16) = -1; "
                + "end(-1, 17) = -1;",
                "end(0, 18) = -1; end(1, -1) = -1;");
        Check.run("NONE only if no error applies: sample()", "sample(0, 0) = -4; sample(2, 0) = -1; sample(-1, 0) = -1; "
                + "sample(0, -1) = -1;");
        Check.run("NONE only if no error applies: span()", "span(0, 0, 0) = -4; span(2, 0, 0) = -1; span(-1, 0, 0) = -1;",
                "span(0, -2, 0) = -1; span(0, 0, 2) = -1; span(0, 0, -1) = -1;");
        Check.run("NONE only if no error applies: letter()", "letter(0, 3) = -1; open(0, 1) = 1; letter(0, 3) = -4; "
                + "letter(0, 11) = -4;",
                "letter(1, 3) = -1; letter(-1, 11) = -1; letter(0, 12) = -1; letter(0, -1) = -1;");
        Check.run("NONE only if no error applies: byteOf()", "byteOf(0, 0) = -1; open(0, 1) = 1; byteOf(0, 0) = -4; "
                + "byteOf(1, 0) = -1;",
                "byteOf(-1, 0) = -1; byteOf(0, -1) = -1;");
        Check.run("NONE only if no error applies: cause()", "cause(0) = -4; cause(-1) = -1;");
    }

    private static void divisionRoundsTowardZero() {
        Check.run("division rounds toward zero: (smoothed value) / 8 and spread / 4", "open(1, 0) = 0; open(0, 1) = 1; "
                + "arrive(0) = 1;",
                "pass(5) = 5; arrive(0) = 1 x 2; end(0, 9) = 40; end(0, 10) = 10; end(0, 8) = 15;",
                "say(0, 1) = 1; arrive(0) = 1 x 2; end(0, 9) = 36; end(0, 10) = 12; end(0, 8) = 16;",
                "say(0, 1) = 1; arrive(0) = 1 x 2; end(0, 9) = 33; end(0, 10) = 12; end(0, 8) = 16;",
                "say(0, 1) = 1; arrive(0) = 1 x 2; end(0, 9) = 30; end(0, 10) = 12; end(0, 8) = 15;",
                "say(0, 1) = 1; arrive(0) = 1 x 2; end(0, 9) = 28; end(0, 10) = 11; end(0, 8) = 14;",
                "say(0, 1) = 1; arrive(0) = 1 x 2; end(0, 9) = 26; end(0, 10) = 11; end(0, 8) = 14;");
    }
}
