/** The term A TEXT: its rows, their numbers and what parts them; a method for each sentence. */
public final class TextEdgesTest {
    private static final String SAMPLE = "K1;S100 85;S500 140;Z0 0;Z2 25;X3 250;K2;S9 1";

    private final Check check = new Check("TextEdgesTest");
    private final Texts texts = new Texts(check);

    public static void main(String[] args) {
        TextEdgesTest test = new TextEdgesTest();
        test.rowsArePartedBySemicolons();
        test.behindOneARowHasToStand();
        test.aRowIsALetterAndItsNumbers();
        test.numbersHaveOneToSevenDigits();
        test.partedByOneBlankEach();
        test.nothingElseStandsInIt();
        test.anEmptyTextHasNoRows();
        test.check.end();
    }

    private void rowsArePartedBySemicolons() {
        check.sentence("A TEXT is rows, parted by ; as " + SAMPLE);
        texts.rows(SAMPLE, 8);
        texts.rows("K1;S1 1", 2);
        texts.rows("K1;S1 1;Z0 0", 3);
        texts.rows(Texts.ALL_ROWS, 13);
        texts.fault("K1S1 1", 2);
        texts.fault("K1 S1 1", 2);
        texts.fault("K1,S1 1", 2);
        texts.fault("K1:S1 1", 2);
        texts.fault("K1<S1 1", 2);
        texts.fault("K1;S1 1Z0 0", 7);
        texts.fault("K1;S1 1 Z0 0", 7);
        texts.fault("K1;S1 1,Z0 0", 7);
        texts.fault("K1;S1 1;Z0 0\n", 12);
    }

    private void behindOneARowHasToStand() {
        check.sentence("behind one a row has to stand, else it ends too early");
        texts.fault(";", 0);
        texts.fault(";K1;S1 1", 0);
        texts.fault("K1;", 3);
        texts.fault("K1;;S1 1", 3);
        texts.rows("K1;S5 6", 2);
        texts.fault("K1;S5 6;", 8);
        texts.fault("K1;S5 6;;", 8);
        texts.fault("K1;S5 6; ", 8);
        for (int end = 8; end <= Texts.ALL_ROWS.length(); end++) {
            boolean rowEnds = end == Texts.ALL_ROWS.length() || Texts.ALL_ROWS.charAt(end) == ';';
            String text = Texts.ALL_ROWS.substring(0, end);
            if (rowEnds && !text.endsWith("K2")) {
                texts.rows(text, Texts.rowsOf(text));
                texts.fault(text + ";", end + 1);
                texts.fault(text + ";;", end + 1);
            }
        }
    }

    private void aRowIsALetterAndItsNumbers() {
        check.sentence("A row is a letter and its NUMBERS");
        texts.fault("1", 0);
        texts.fault("K", 1);
        texts.fault("KK1;S1 1", 1);
        texts.fault("K1K2;S1 1", 2);
        texts.fault("K1;SS1 1", 4);
        texts.fault("K1;S1 1;1 1", 8);
        for (Texts.Number number : Texts.NUMBERS) {
            check.due(number.name() + " is there", Check.read(new PostTariff(), number.text("1")) > 0 ? 1 : 0, 1);
            texts.fault(number.before(), number.place());
            texts.fault(number.before() + ";", number.place());
        }
        texts.fault("K1 1;S1 1", 2);
        texts.fault("K1;S1;Z0 0", 5);
        texts.fault("K1;S1 1 1", 7);
        texts.fault("K1;S1 1;Z0", 10);
        texts.fault("K1;S1 1;Z0;R1", 10);
        texts.fault("K1;S1 1;Z0 0 0", 12);
        texts.fault("K1;S1 1;X0;R1", 10);
        texts.fault("K1;S1 1;X0 0 0", 12);
        texts.fault("K1;S1 1;X0 0;X1 0;E0;R1", 20);
        texts.fault("K1;S1 1;X0 0;X1 0;E0 1 1", 22);
        texts.fault("K1;S1 1;D1;R1", 10);
        texts.fault("K1;S1 1;D1 1;R1", 12);
        texts.fault("K1;S1 1;D1 1 1 1", 14);
        texts.fault("K1;S1 1;M1 1", 10);
        texts.fault("K1;S1 1;F1;R1", 10);
        texts.fault("K1;S1 1;F1 1 1", 12);
        texts.fault("K1;S1 1;R1 1", 10);
    }

    private void numbersHaveOneToSevenDigits() {
        check.sentence("NUMBERS (of 1 to 7 digits)");
        for (Texts.Number number : Texts.NUMBERS) {
            texts.fault(number.text(""), number.place());
            String due = number.printed(1);
            for (int zeros = 0; zeros <= 6; zeros++) {
                String text = number.text("0".repeat(zeros) + "1");
                texts.rows(text, Texts.rowsOf(text));
                texts.printed(text, due);
            }
            texts.fault(number.text("00000010"), number.place() + 7);
            texts.fault(number.text("00000011"), number.place() + 7);
            texts.fault(number.text("000000100"), number.place() + 7);
        }
        texts.printed("K1;S9999999 9999999;X1 9999999;D9999999 9999999 9999999;M9999999;F9999999 9999999",
                "K1;S9999999 9999999;X1 9999999;D9999999 9999999 9999999;M9999999;F9999999 9999999");
        texts.fault("K1;S12345678 1", 11);
        texts.fault("K1;S1 12345678", 13);
        texts.fault("K1;S1 1;X1 12345678", 18);
    }

    private void partedByOneBlankEach() {
        check.sentence("its NUMBERS, parted by one blank each");
        int gaps = 0;
        for (int i = 0; i < Texts.ALL_ROWS.length(); i++) {
            if (Texts.ALL_ROWS.charAt(i) != ' ') {
                continue;
            }
            gaps++;
            String before = Texts.ALL_ROWS.substring(0, i);
            String behind = Texts.ALL_ROWS.substring(i + 1);
            texts.fault(before + "  " + behind, i + 1);
            texts.fault(before + "   " + behind, i + 1);
            texts.fault(before + "\t" + behind, i);
            texts.fault(before + "\u001f" + behind, i);
            texts.fault(before + "!" + behind, i);
            texts.fault(before + "\u0000" + behind, i);
            texts.fault(before + "," + behind, i);
            texts.fault(before + ";" + behind, i);
            texts.fault(before + " ;" + behind, i + 1);
        }
        check.due("gaps in all rows", gaps, 10);
    }

    /** Of all signs the one that is put in is the first that cannot stand where it does. */
    private void nothingElseStandsInIt() {
        check.sentence("nothing else stands in it");
        for (char c = 0; c <= 126; c++) {
            if (c >= '0' && c <= '9' || c == ' ' || c == ';' || Texts.LETTERS.indexOf(c) >= 0) {
                continue;
            }
            for (int i = 0; i <= Texts.ALL_ROWS.length(); i++) {
                new Run(check).fault(Texts.ALL_ROWS.substring(0, i) + c + Texts.ALL_ROWS.substring(i), i);
            }
        }
        for (int i = 0; i <= Texts.ALL_ROWS.length(); i++) {
            String before = Texts.ALL_ROWS.substring(0, i);
            String behind = Texts.ALL_ROWS.substring(i);
            boolean digitBefore = i > 0 && Character.isDigit(Texts.ALL_ROWS.charAt(i - 1));
            boolean blankBehind = i < Texts.ALL_ROWS.length() && Texts.ALL_ROWS.charAt(i) == ' ';
            if (blankBehind) {
                texts.fault(before + " " + behind, i + 1);
            } else {
                texts.fault(before + " " + behind, i);
            }
            if (digitBefore || i > 0 && Texts.LETTERS.indexOf(Texts.ALL_ROWS.charAt(i - 1)) >= 0) {
                texts.fault(before + "K" + behind, i);
            }
        }
    }

    private void anEmptyTextHasNoRows() {
        check.sentence("An empty text has no rows");
        texts.rows("", 0);
        texts.rows("K1;S1 1", 2);
        texts.fault(" ", 0);
        texts.fault("\u0000", 0);
        new Run(check).read(0).print(0).at(0, PostTariff.NONE).compare(0, 0);
        new Run(check).edition("K1;S1 1").read(0).compare(0, 1).compare(1, 0).printed("");
    }
}
