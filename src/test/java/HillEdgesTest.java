/** The edges that the first half of 'Terms' names: yards, the dark, kinds, heads, and a hill told by a text. */
public final class HillEdgesTest {
    private static final String[] WORDS = {"hill", "dark", "heights", "one", "seat"};

    public static void main(String[] args) {
        atFirst();
        asAtFirstAgain();
        darkIsZeroAtLeast();
        darkFallsByNine();
        worthOfFewSeconds();
        worthOfManySeconds();
        headsHideWhatIsLower();
        headsAboveEveryHeight();
        onlyThoseBeforeHide();
        aYardHasOneAtMost();
        numbersOfTheText();
        figuresOfTheText();
        placesOfFaults();
        textEndsTooEarly();
        textOfMostBytes();
        textOfMostBidders();
        bytesThatBeginNone();
        wordsThatAreNone();
        clearedBytesAreNotRead();
        readTakesThePlace();
        faultLeavesAll();
        Due.end();
    }

    private static void atFirst() {
        EclipseSeats x = new EclipseSeats();
        for (int y = 0; y < 8; y++) {
            Due.due("a height at first", x.yard(y, 0), 0);
            Due.due("nobody at first", x.yard(y, 2), -1);
        }
        Due.due("under the track at first", x.yard(3, 1), 240);
        Due.due("ahead of the track at first", x.yard(2, 1), 231);
        Due.due("behind the track at first", x.yard(4, 1), 231);
        Due.due("no bidders", x.hill(3, 240), 0);
        Due.due("no text", x.clear(), 0);
        Due.due("no notes", x.forget(), 0);
        Due.due("above at first", x.part(0), 0);
        Due.due("below at first", x.part(1), 1);
        Due.dueStatus(x, 0, 0, 0);
        Due.due("nothing to undo", x.undo(), -3);
        Due.due("no image 0", x.from(0), -3);
        Due.due("no image 1", x.from(1), -3);
    }

    /** What hill leaves is what a new object is but for track and dark, whatever was there. */
    private static void asAtFirstAgain() {
        EclipseSeats x = Due.told("hill 1;dark 9;heights 9 9 9 9 9 9 9 9;one 0 50;one 1 50;one 2 50;one 3 50;one 5 50;");
        x.sell(0);
        x.sell(7);
        x.note(4, 1, 1, 1);
        x.clear();
        Due.due("how many there were, all five", x.hill(3, 240), 5);
        Due.due("as a new one", x.digest(), new EclipseSeats().digest());
        Due.due("none is left", x.hill(3, 240), 0);
        Due.due("nothing to undo", x.undo(), -3);
        for (int p = 0; p < 5; p++) {
            Due.due("from 0 again", x.one(4, 500), p);
            Due.due("paid at first", x.of(p, 2), 0);
            Due.due("no yard at first", x.of(p, 3), -1);
            Due.due("none knows it", x.is(p), 63);
        }
    }

    private static void darkIsZeroAtLeast() {
        EclipseSeats x = new EclipseSeats();
        dueDark(x, 0, 62, 7, 0);
        dueDark(x, 0, 63, 7, 0);
        dueDark(x, 0, 64, 7, 1);
        dueDark(x, 7, 63, 0, 0);
        dueDark(x, 7, 64, 0, 1);
        dueDark(x, 3, 0, 3, 0);
        dueDark(x, 3, 1, 3, 1);
        dueDark(x, 3, 8, 4, 0);
        dueDark(x, 3, 9, 4, 0);
        dueDark(x, 3, 10, 4, 1);
        dueDark(x, 3, 9, 2, 0);
        dueDark(x, 3, 10, 2, 1);
    }

    private static void darkFallsByNine() {
        EclipseSeats x = new EclipseSeats();
        for (int track = 0; track < 8; track += 7) {
            for (int y = 0; y < 8; y++) {
                dueDark(x, track, 240, y, 240 - 9 * (track == 0 ? y : 7 - y));
            }
        }
    }

    private static void dueDark(EclipseSeats x, int track, int dark, int y, int want) {
        Due.due("track", x.track(track, dark), 1);
        Due.due("dark in " + y + " by " + track + ", " + dark, x.yard(y, 1), want);
    }

    private static void worthOfFewSeconds() {
        int[][] worth = {
            {0, 0, 0, 0, 0, 0},
            {1, 1, 0, 181, 0, 0},
            {2, 2, 1, 182, 0, 3},
            {3, 3, 1, 183, 0, 3},
        };
        for (int s = 0; s < worth.length; s++) {
            dueWorth(s, 9, worth[s]);
        }
        dueWorth(0, 0, 0, 0, 0, 0, 0, 0);
        dueWorth(1, 0, 1, 1, 0, 1, 0, 0);
        dueWorth(1, 1, 1, 1, 0, 21, 0, 0);
    }

    private static void worthOfManySeconds() {
        dueWorth(199, 9, 199, 199, 99, 379, 0, 297);
        dueWorth(200, 9, 200, 200, 100, 380, 200, 300);
        dueWorth(201, 0, 201, 201, 100, 201, 201, 300);
        dueWorth(239, 0, 239, 239, 119, 239, 239, 357);
        dueWorth(240, 9, 240, 240, 120, 420, 240, 360);
    }

    private static void dueWorth(int s, int h, int... worth) {
        for (int kind = 0; kind < 6; kind++) {
            EclipseSeats x = new EclipseSeats();
            x.hill(6, s);
            x.height(6, h);
            x.one(kind, 500);
            Due.due(s + " seconds on " + h + " to " + kind, x.gives(0, 6), worth[kind]);
            Due.due(s + " seconds on " + h + " to " + kind + ", best", x.best(0, 1) >= worth[kind] ? 1 : 0, 1);
        }
    }

    /** A yard as high as the head before it sees past it; one lower by 1 doesn't. */
    private static void headsHideWhatIsLower() {
        int[] heads = {1, 3, 1, 0, 4, 0};
        for (int kind = 0; kind < 6; kind++) {
            for (int front = 1; front <= 5; front++) {
                EclipseSeats x = Due.told("hill 0;one " + kind + " 50;one 0 50;seat 0 0;");
                x.height(0, front);
                Due.due("head of " + kind, x.of(0, 4), heads[kind]);
                for (int y = 1; y < 8; y += 6) {
                    x.height(y, front + heads[kind]);
                    Due.due("as high as the head of " + kind, x.sees(1, y), 240 - 9 * y);
                    x.height(y, front + heads[kind] - 1);
                    Due.due("lower than the head of " + kind, x.sees(1, y), 0);
                }
            }
        }
    }

    private static void headsAboveEveryHeight() {
        EclipseSeats x = Due.told("hill 0;heights 5 0 0 0 0 0 0 9;one 4 50;one 0 50;seat 0 0;");
        Due.due("a tripod on 5, a yard of 9", x.sees(1, 7), 177);
        x.height(0, 6);
        Due.due("a tripod on 6, a yard of 9", x.sees(1, 7), 0);
        x.height(0, 9);
        Due.due("a tripod on 9, a yard of 9", x.sees(1, 7), 0);
        x = Due.told("hill 0;heights 9 0 0 0 0 0 0 9;one 3 50;one 0 50;seat 0 0;");
        Due.due("a dog on 9, a yard of 9", x.sees(1, 7), 177);
    }

    private static void onlyThoseBeforeHide() {
        EclipseSeats x = Due.told("hill 0;heights 0 0 9 9 9 9 9 9;one 4 50;one 4 50;seat 0 7;seat 1 1;");
        Due.due("one behind hides nobody", x.sees(1, -1), 231);
        Due.due("one before does", x.sees(0, 2), 222);
        x.height(2, 3);
        Due.due("one before does", x.sees(0, 2), 0);
        Due.due("its own head does not", x.sees(1, 2), 222);
        Due.due("in its own yard", x.sees(1, 1), 231);
        Due.due("in the first yard none is before it", x.sees(0, 0), 240);
        x.leave(1);
        Due.due("who left hides nobody", x.sees(0, 2), 222);
    }

    private static void aYardHasOneAtMost() {
        EclipseSeats x = Due.told("hill 0;one 0 50;one 0 50;seat 0 0;seat 1 1;");
        Due.due("sold again", x.sell(0), -3);
        Due.due("gone to", x.moves(1, 0), -3);
        Due.due("who is there", x.yard(0, 2), 0);
        Due.due("free yards", x.count(1), 6);
    }

    private static void numbersOfTheText() {
        reads("hill 0;", 1);
        reads("hill 7;", 1);
        faults("hill 8;", 5);
        reads("hill 0;dark 0;", 2);
        reads("hill 0;dark 24;", 2);
        faults("hill 0;dark 25;", 12);
        faults("hill 0;dark 99;", 12);
        reads("hill 0;heights 0 0 0 0 0 0 0 0;", 2);
        reads("hill 0;heights 9 9 9 9 9 9 9 9;", 2);
        for (int i = 0; i < 8; i++) {
            faults("hill 0;heights" + " 9".repeat(i) + " 10" + " 9".repeat(7 - i) + ";", 15 + 2 * i);
        }
        faults("hill 0;heights 1 1 1 1 1 1 1;", 28);
        faults("hill 0;heights 1 1 1 1 1 1 1 1 1;", 31);
        reads("hill 0;one 0 0;", 2);
        reads("hill 0;one 5 50;", 2);
        faults("hill 0;one 6 50;", 11);
        faults("hill 0;one 5 51;", 13);
        reads("hill 0;one 0 0;seat 0 0;", 3);
        reads("hill 0;one 0 0;seat 0 7;", 3);
        faults("hill 0;one 0 0;seat 0 8;", 22);
        faults("hill 0;one 0 0;seat 1 7;", 20);
        faults("hill 0;seat 0 0;one 0 0;", 12);
        faults("hill 0;one 0 0;seat 1 0;one 0 0;", 20);
        reads("hill 0;one 0 0;one 0 0;seat 1 0;", 4);
        faults("hill 0;one 0 0;seat 0 0;seat 0 1;", 29);
        faults("hill 0;one 0 0;one 0 0;seat 0 0;seat 1 0;", 39);
    }

    private static void figuresOfTheText() {
        reads("hill 07;", 1);
        reads("hill 00;dark 09;one 05 00;seat 00 07;", 4);
        faults("hill 08;", 5);
        faults("hill 000;", 5);
        faults("hill 007;", 5);
        faults("hill  0000;", 6);
        faults("hill 0;dark 024;", 12);
        faults("hill 0;one 0 500;", 13);
        faults("hill 0;heights 1 1 1 111 1 1 1 1;", 21);
        faults("hill 0;111;", 7);
        faults("111", 0);
        reads("hill 0;dark 2;one 1 2;", 3);
        faults("hill 0;dark 2 4;", 14);
    }

    private static void placesOfFaults() {
        faults("hell 0;", 0);
        faults(" hell 0;", 1);
        faults("hillhill 0;", 0);
        faults("hill 0;hill 0;", 7);
        faults("hill 0;dark 1; hill 0;", 15);
        faults("dark 1;hill 0;", 0);
        faults("; hill 0;", 0);
        faults("0 hill 0;", 0);
        faults("hill 0;;", 7);
        faults("hill 0; 5;", 8);
        faults("hill 0;darker 1;", 7);
        faults("hill 0;dar 1;", 7);
        faults("hill;", 4);
        faults("hill 0 dark 1;", 7);
        faults("hill dark;", 5);
        faults("hill 0;dark;", 11);
        faults("hill 0;dark one;", 12);
        faults("hill 0;one 0;", 12);
        faults("hill 0;one 0 0 0;", 15);
        faults("hill 0;one 0 0;seat 0;", 21);
        faults("hill 0;one 0 0;seat 0 0 0;", 24);
        faults("hill 0a;", 6);
        faults("hill 9 9;;", 5);
    }

    /** Each beginning of a right text: so many items; a cut word; or it ends too early, at its length. */
    private static void textEndsTooEarly() {
        String text = "hill 7;dark 24;heights 1 2 3 4 5 6 7 8;one 5 50;seat 0 7;  ";
        EclipseSeats x = new EclipseSeats();
        for (int length = 0; length <= text.length(); length++) {
            if (length > 0) {
                x.type(text.charAt(length - 1));
            }
            Due.due("the first " + length, x.read(), dueOfBeginning(text.substring(0, length)));
        }
        faults("", 0);
        faults(" ", 1);
        faults("     ", 5);
        faults("hill 0   ", 9);
        faults("hill   ", 7);
    }

    private static int dueOfBeginning(String text) {
        String bare = text.stripTrailing();
        if (bare.endsWith(";")) {
            return bare.split(";").length;
        }
        int word = text.length();
        while (word > 0 && Character.isLetter(text.charAt(word - 1))) {
            word--;
        }
        boolean whole = word == text.length();
        for (String known : WORDS) {
            whole = whole || known.equals(text.substring(word));
        }
        return -10 - (whole ? text.length() : word);
    }

    private static void textOfMostBytes() {
        String tail = "one 0 0;";
        reads("hill 5;" + " ".repeat(150 - 7 - tail.length()) + tail, 2);
        faults(" ".repeat(150), 150);
        faults(" ".repeat(149) + "a", 149);
        faults("hill 5;" + " ".repeat(142) + ";", 149);
        faults("hill 5;" + " ".repeat(140) + "one", 150);
        EclipseSeats x = new EclipseSeats();
        Due.typeText(x, " ".repeat(143) + "hill 4 ;");
        Due.due("the 151st byte is refused", x.count(6), 150);
        Due.due("and is not read", x.read(), -10 - 150);
        Due.due("how many it had", x.clear(), 150);
        Due.due("how many it had", x.clear(), 0);
        Due.due("from the front", x.type('h'), 1);
        Due.dueStatus(x, 0, 0, 1);
    }

    private static void textOfMostBidders() {
        String five = "hill 0;" + "one 1 1;".repeat(5);
        reads(five, 6);
        faults(five + "one 1 1;", 47);
        faults(five + " one", 48);
        faults(five + "one 9", 47);
        reads(five + "seat 4 7;seat 3 6;seat 2 5;seat 1 4;seat 0 3;", 11);
        faults(five + "seat 5 7;", 52);
    }

    private static void bytesThatBeginNone() {
        EclipseSeats x = new EclipseSeats();
        for (int c = 0; c < 128; c++) {
            x.clear();
            x.type(c);
            Due.due("byte " + c + " alone", x.read(), c == ' ' ? -11 : -10);
        }
        for (int c = 0; c < 128; c++) {
            EclipseSeats other = new EclipseSeats();
            Due.typeText(other, "hill 5");
            other.type(c);
            other.type(';');
            boolean figure = c >= '0' && c <= '9';
            int due = c == ' ' ? 1 : c == ';' ? -17 : figure ? -15 : -16;
            Due.due("byte " + c + " behind hill 5", other.read(), due);
        }
    }

    /** A word with a letter changed, left out or put behind it is none. */
    private static void wordsThatAreNone() {
        String[] rest = {" 0;", " 1;", " 1 1 1 1 1 1 1 1;", " 0 0;", " 0 0;"};
        for (int w = 0; w < WORDS.length; w++) {
            String ahead = w == 0 ? "" : "hill 0;one 0 0;";
            String word = WORDS[w];
            reads(ahead + word + rest[w], w == 0 ? 1 : 3);
            for (int i = 0; i < word.length(); i++) {
                faults(ahead + word.substring(0, i) + "z" + word.substring(i + 1) + rest[w], ahead.length());
                faults(ahead + word.substring(0, i) + word.substring(i + 1) + rest[w], ahead.length());
            }
            for (char c = 'a'; c <= 'z'; c++) {
                faults(ahead + word + c + rest[w], ahead.length());
            }
            faults(ahead + word.toUpperCase() + rest[w], ahead.length());
            faults(ahead + word + '`' + rest[w], ahead.length() + word.length());
            faults(ahead + word + '{' + rest[w], ahead.length() + word.length());
        }
    }

    private static void clearedBytesAreNotRead() {
        String[] texts = {"hill 77;;", "hill 7 ;", "hill 7;;", "hillhill 7;"};
        for (String text : texts) {
            for (int length = 0; length < text.length(); length++) {
                EclipseSeats x = new EclipseSeats();
                Due.typeText(x, text);
                Due.typeText(x, text.substring(0, length));
                EclipseSeats fresh = new EclipseSeats();
                Due.typeText(fresh, text.substring(0, length));
                Due.due("the first " + length + " of " + text, x.read(), fresh.read());
            }
        }
        faults("hill" + " ".repeat(145) + "7", 150);
        faults("hill" + " ".repeat(144) + "07", 150);
        faults(" ".repeat(146) + "hill", 150);
        faults("hill" + " ".repeat(143) + "007", 147);
    }

    private static void readTakesThePlace() {
        EclipseSeats x = Due.told("hill 1;dark 9;heights 9 9 9 9 9 9 9 9;one 0 50;one 1 40;");
        x.sell(2);
        x.sell(1);
        x.note(0, 1, 1, 1);
        x.clouds(4);
        x.image(1);
        x.status(9);
        long above = x.part(0);
        long below = x.part(1);
        Due.due("paid by all ahead of it", x.count(3) > 0 ? 1 : 0, 1);
        Due.due("items", Due.readText(x, "hill 3;"), 1);
        int[] counts = {0, 8, 0, 0, 0, 0, 7};
        for (int what = 0; what < counts.length; what++) {
            Due.due("count " + what + " of what was read", x.count(what), counts[what]);
        }
        Due.due("a height", x.yard(0, 0), 0);
        Due.due("the dark", x.yard(3, 1), 240);
        Due.due("nothing to undo", x.undo(), -3);
        Due.due("the fraction stays", x.part(0), above);
        Due.due("the fraction stays", x.part(1), below);
        Due.dueStatus(x, 1, 1, 0);
        Due.due("read once more", x.read(), 1);
        Due.due("images stay", x.from(1), 1);
        Due.due("with what may be undone", x.count(5), 2);
        Due.due("items", Due.readText(x, "hill 3;one 5 30;seat 0 0;"), 3);
        Due.due("for nothing", x.of(0, 1), 300);
        Due.due("for nothing", x.of(0, 2), 0);
        Due.due("a seat told is not undone", x.undo(), -3);
    }

    private static void faultLeavesAll() {
        EclipseSeats x = Due.told("hill 1;dark 9;heights 1 2 3 4 5 6 7 8;one 0 50;one 1 40;");
        x.sell(2);
        x.note(0, 1, 1, 1);
        x.clouds(4);
        Due.typeText(x, "hill 6;dark 3;heights 9 9 9 9 9 9 9 9;one 5 1;seat 0 0;seat 0 1;");
        long before = x.digest();
        Due.due("a fault at the end", x.read(), -10 - 60);
        Due.due("all stays", x.digest(), before);
        Due.due("what may be undone stays", x.undo(), 8);
        Due.dueStatus(x, 0, 0, 0);
    }

    private static void reads(String text, int items) {
        Due.due("items of \"" + text + "\"", Due.readText(new EclipseSeats(), text), items);
    }

    private static void faults(String text, int place) {
        EclipseSeats x = new EclipseSeats();
        Due.due("fault in \"" + text + "\"", Due.readText(x, text), -10 - place);
        Due.dueStatus(x, 0, 0, 0);
    }
}
