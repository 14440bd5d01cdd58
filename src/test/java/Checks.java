/** What the tests share: answers compared with those that are due, and councils by a text. */
final class Checks {
    private int wrong;
    private String part = "";

    void part(String name) {
        part = name;
    }

    void due(String call, long got, long want) {
        if (got != want) {
            wrong++;
            System.out.println(part + ": " + call + " answered " + got + ", due is " + want);
        }
    }

    /** Ends the program with exit code 1 if an answer was not as due. */
    void end(String test) {
        System.out.println(test + ": " + (wrong == 0 ? "all answers are as due" : wrong + " answers are not as due"));
        if (wrong != 0) {
            System.exit(1);
        }
    }

    /** What council(..) answers to a text that lies on sheet 0, as bytes. */
    static int council(MoonVeto x, String text) {
        x.sheet(0, 0, text.length());
        for (int i = 0; i < text.length(); i++) {
            x.put(0, i, text.charAt(i));
        }
        return x.council(0, 0, 0, text.length());
    }

    /** A new object with the council of a text. */
    static MoonVeto of(String text) {
        MoonVeto x = new MoonVeto();
        int bills = council(x, text);
        if (bills != text.length() / 7 - 1) {
            throw new IllegalStateException("the text " + text + " was not taken: " + bills);
        }
        return x;
    }
}
