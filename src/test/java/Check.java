/** Counts the answers of one test that are not the ones that are due, and prints them. */
final class Check {
    private final String name;
    private String sentence = "";
    private int asked;
    private int askedBefore;
    private int wrong;

    Check(String name) {
        this.name = name;
    }

    /** From here on the answers are those that one sentence of the document asks for; each asks for some. */
    void sentence(String words) {
        endSentence();
        sentence = words;
    }

    private void endSentence() {
        if (!sentence.isEmpty() && asked == askedBefore) {
            wrong++;
            System.out.println(name + ": nothing is asked for: " + sentence);
        }
        askedBefore = asked;
    }

    private String place() {
        return sentence.isEmpty() ? name : name + " (" + sentence + ")";
    }

    void due(String call, long got, long want) {
        asked++;
        if (got != want) {
            wrong++;
            System.out.println(place() + ": " + call + " answered " + got + ", due is " + want);
        }
    }

    void holds(String what, boolean does) {
        due(what, does ? 1 : 0, 1);
    }

    void due(String call, String got, String want) {
        asked++;
        if (!got.equals(want)) {
            wrong++;
            System.out.println(place() + ": " + call + " answered \"" + got + "\", due is \"" + want + "\"");
        }
    }

    /** Ends the test: exit code 1 if an answer was not as due, or none was asked for. */
    void end() {
        endSentence();
        System.out.println(name + ": " + asked + " answers, " + wrong + " not as due");
        System.exit(wrong == 0 && asked > 0 ? 0 : 1);
    }

    static void sign(PostTariff tariff, String text) {
        for (int i = 0; i < text.length(); i++) {
            tariff.sign(text.charAt(i));
        }
    }

    static int read(PostTariff tariff, String text) {
        sign(tariff, text);
        return tariff.read();
    }

    /** A new object with one edition; a faulty text ends the test. */
    static PostTariff tariffOf(String text) {
        PostTariff tariff = new PostTariff();
        int rows = read(tariff, text);
        if (rows < 0) {
            throw new IllegalStateException(text + " answered " + rows);
        }
        return tariff;
    }

    static String printed(PostTariff tariff) {
        int length = tariff.print();
        StringBuilder signs = new StringBuilder();
        for (int i = 0; i < length; i++) {
            signs.append((char) tariff.at(i));
        }
        return signs.toString();
    }

    /** The parts that explain tells, as "sort adds number" parted by commas. */
    static String explained(PostTariff tariff) {
        StringBuilder parts = new StringBuilder();
        for (int i = 0; tariff.explain(i, 0) != PostTariff.NONE; i++) {
            parts.append(i == 0 ? "" : ",").append(tariff.explain(i, 0)).append(' ')
                    .append(tariff.explain(i, 1)).append(' ').append(tariff.explain(i, 2));
        }
        return parts.toString();
    }
}
