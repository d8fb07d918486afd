/** What the tests share: answers that are due, and a text typed whole. */
final class Due {
    private static int wrong = 0;

    /** A call, or several, on an object. */
    interface Call {
        long on(EclipseSeats x);
    }

    private Due() { }

    static void due(String call, long got, long want) {
        if (got != want) {
            wrong++;
            System.out.println(call + " answered " + got + ", due is " + want);
        }
    }

    /** A new object on which this text was read. */
    static EclipseSeats told(String text) {
        EclipseSeats x = new EclipseSeats();
        if (readText(x, text) < 0) {
            wrong++;
            System.out.println("a fault in " + text);
        }
        return x;
    }

    static int readText(EclipseSeats x, String text) {
        typeText(x, text);
        return x.read();
    }

    static void typeText(EclipseSeats x, String text) {
        x.clear();
        for (int i = 0; i < text.length(); i++) {
            x.type(text.charAt(i));
        }
    }

    static void dueStatus(EclipseSeats x, int bad, int no, int full) {
        due("status(0)", x.status(0), bad);
        due("status(1)", x.status(1), no);
        due("status(2)", x.status(2), full);
    }

    static void end() {
        System.out.println(wrong == 0 ? "all answers are as due" : wrong + " answers are not as due");
        if (wrong != 0) {
            System.exit(1);
        }
    }
}
