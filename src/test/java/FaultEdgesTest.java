/** The term FAULTS: which there are, and at which place each is told. */
public final class FaultEdgesTest {
    private static final String TEN_STEPS = "K1;" + Texts.manyRows("S", 1, 10, " 1");
    private static final String TEN_PAIRS = "K1;S1 1;" + Texts.manyRows("X", 0, 4, " 0")
            + ";E0 1;E0 2;E0 3;E0 4;E1 2;E1 3;E1 4;E2 3;E2 4;E3 4";

    private final Check check = new Check("FaultEdgesTest");
    private final Texts texts = new Texts(check);

    public static void main(String[] args) {
        FaultEdgesTest test = new FaultEdgesTest();
        test.aLetterOfNoRow();
        test.aLetterForWhichThereIsNoRoom();
        test.aLetterWhoseRowIsThereAlready();
        test.aLetterBeforeTheFirstKind();
        test.theLengthIfItEndsTooEarly();
        test.aNumberAtItsFirstCharacter();
        test.numbersAreLookedAtWhenTheyEnd();
        test.numbersAreLookedAtAtSevenDigits();
        test.aNumberThatMakesTheRowOneThatIsThere();
        test.aKindWithoutAStep();
        test.theFirstIsTold();
        test.check.end();
    }

    private void aLetterOfNoRow() {
        check.sentence("a letter of no row");
        for (char c = 0; c <= 126; c++) {
            if (Texts.LETTERS.indexOf(c) < 0) {
                texts.fault(c + "1", 0);
                texts.fault(String.valueOf(c), 0);
                texts.fault("K1;" + c + "1 1", 3);
                texts.fault("K1;S1 1;" + c + "1 1", 8);
                texts.fault("K1;S1 1;K2;S1 1;" + c, 16);
            }
        }
    }

    private void aLetterForWhichThereIsNoRoom() {
        check.sentence("a letter for which there is no room");
        texts.rows(TEN_STEPS.substring(0, TEN_STEPS.length() - 6), 10);
        texts.rows(TEN_STEPS, 11);
        texts.fault(TEN_STEPS + ";S11 1", TEN_STEPS.length() + 1);
        texts.fault(TEN_STEPS + ";S0 1", TEN_STEPS.length() + 1);
        texts.fault(TEN_STEPS + ";Sx", TEN_STEPS.length() + 1);
        texts.rows(TEN_PAIRS.substring(0, TEN_PAIRS.length() - 5), 16);
        texts.rows(TEN_PAIRS, 17);
        texts.fault(TEN_PAIRS + ";E0 1", TEN_PAIRS.length() + 1);
        texts.fault(TEN_PAIRS + ";E9 9", TEN_PAIRS.length() + 1);
        texts.fault(TEN_PAIRS + ";Ex", TEN_PAIRS.length() + 1);
    }

    private void aLetterWhoseRowIsThereAlready() {
        check.sentence("a letter .. whose row is there already");
        texts.fault("K1;S1 1;D1 1 1;D2 2 2", 15);
        texts.fault("K1;S1 1;D1 1 1;Dx", 15);
        texts.fault("K1;S1 1;M1;M2", 11);
        texts.fault("K1;S1 1;M1;M0", 11);
        texts.fault("K1;S1 1;F0 0;F1 1", 13);
        texts.fault("K1;S1 1;F0 0;Fx", 13);
        texts.fault("K1;S1 1;R1;R2", 11);
        texts.fault("K1;S1 1;R1;R1001", 11);
        texts.fault("K1;D1 1 1;D1 1 1;S1 1", 10);
        texts.rows("K1;S1 1;D1 1 1;M1;F0 0;R1;K2;S1 1;D1 1 1;M1;F0 0;R1", 12);
    }

    private void aLetterBeforeTheFirstKind() {
        check.sentence("a letter .. that stands before the first K");
        for (int i = 1; i < Texts.LETTERS.length(); i++) {
            char letter = Texts.LETTERS.charAt(i);
            texts.fault(String.valueOf(letter), 0);
            texts.fault(letter + "1 1;K1;S1 1", 0);
            texts.fault(letter + "x", 0);
        }
        texts.rows("K1;S1 1", 2);
        texts.fault("K", 1);
    }

    /** All its numbers have one digit and are as said, so that each end but a row's own is too early. */
    private void theLengthIfItEndsTooEarly() {
        check.sentence("the length, if it ends too early");
        String all = Texts.ALL_ROWS;
        for (int length = 1; length <= all.length(); length++) {
            String text = all.substring(0, length);
            boolean rowEnds = length == all.length() || all.charAt(length) == ';';
            if (rowEnds && length > 2 && !text.endsWith("K2")) {
                texts.rows(text, Texts.rowsOf(text));
            } else {
                texts.fault(text, length);
            }
        }
        texts.fault("K1;S5", 5);
        texts.fault("K1;S1234567", 11);
        texts.fault("K1;S1234567 ", 12);
        texts.fault("K1;S5 6;D1000 2000", 18);
    }

    private void aNumberAtItsFirstCharacter() {
        check.sentence("a number that is not as said, at its first character");
        texts.fault("K10;S1 1", 1);
        texts.fault("K1234567;S1 1", 1);
        texts.fault("K1;S0 1", 4);
        texts.fault("K1;S123 1;S122 1", 11);
        texts.fault("K1;S1 1;Z10 0", 9);
        texts.fault("K1;S1 1;Z9 1001", 11);
        texts.fault("K1;S1 1;X10 0", 9);
        texts.fault("K1;S1 1;X5 12;E10 5", 15);
        texts.fault("K1;S1 1;X5 12;E5 10", 17);
        texts.fault("K1;S1 1;D0 200 300", 9);
        texts.fault("K1;S1 1;D100 0 300", 13);
        texts.fault("K1;S1 1;D100 200 0", 17);
        texts.fault("K1;S1 1;M0", 9);
        texts.fault("K1;S1 1;F200 199", 13);
        texts.fault("K1;S1 1;R0", 9);
        texts.fault("K1;S1 1;R1001", 9);
    }

    private void numbersAreLookedAtWhenTheyEnd() {
        check.sentence("numbers are looked at when they end");
        texts.rows("K1;S1 1", 2);
        texts.fault("K10", 1);
        texts.fault("K10;", 1);
        texts.fault("K01", 3);
        texts.rows("K01;S010 1;S11 1", 3);
        texts.fault("K1;S10 1;S1 1", 10);
        texts.rows("K1;S10 1;S100 1", 3);
        texts.fault("K1;S0 ", 4);
        texts.rows("K1;S01 1", 2);
        texts.rows("K1;S1 1;R01", 3);
        texts.fault("K1;S1 1;R00", 9);
        texts.fault("K1;S1 1;F10 1", 12);
        texts.rows("K1;S1 1;F10 10", 3);
        texts.fault("K1;S1 1;D0 ", 9);
        texts.fault("K1;S1 1;D1 0 ", 11);
        texts.fault("K1;S1 1;Z10 ", 9);
        texts.fault("K1;S1 1;X10 ", 9);
    }

    /** An eighth digit cannot stand where it does: that is told only if the seven before it are as said. */
    private void numbersAreLookedAtAtSevenDigits() {
        check.sentence("numbers are looked at when they .. have seven digits");
        texts.fault("K0000010;S1 1", 1);
        texts.fault("K00000101;S1 1", 1);
        texts.fault("K0000001;S0000000 1", 10);
        texts.fault("K1;S0000000", 4);
        texts.fault("K1;S00000001 1", 4);
        texts.fault("K1;S00000011 1", 11);
        texts.fault("K1;S1 00000001", 13);
        texts.fault("K1;S1 1;Z00000001 1", 16);
        texts.fault("K1;S1 1;Z00000101 1", 9);
        texts.fault("K1;S1 1;Z0 00100011", 11);
        texts.fault("K1;S1 1;Z0 00010001", 18);
        texts.fault("K1;S1 1;M00000001", 9);
        texts.fault("K1;S1 1;M00000010", 16);
        texts.fault("K1;S1 1;F5 00000041", 11);
        texts.fault("K1;S1 1;F5 00000051", 18);
        texts.fault("K1;S1 1;R00010001", 16);
        texts.fault("K1;S1 1;R00010011", 9);
        texts.fault("K1;S1 1;D0000000 1 1", 9);
        texts.fault("K1;S1 1;D1 00000001 1", 11);
        texts.fault("K1;S1 1;D1 1 00000001", 13);
        texts.fault("K1;S1 1;D1 1 00000011", 20);
    }

    private void aNumberThatMakesTheRowOneThatIsThere() {
        check.sentence("a number that makes the row one that is there already, too");
        texts.fault("K1;S1 1;K1", 9);
        texts.fault("K1;S1 1;K1;S1 1", 9);
        texts.fault("K1;S1 1;K0000001", 9);
        texts.fault("K1;S1 1;K00000012", 9);
        texts.fault("K1;S1 1;Z1 1;Z1", 14);
        texts.fault("K1;S1 1;Z1 1;Z1 2000", 14);
        texts.fault("K1;S1 1;Z1 1;Z00000012 2", 14);
        texts.rows("K1;S1 1;Z1 1;Z2 1", 4);
        texts.fault("K1;S1 1;X1 1;X1", 14);
        texts.fault("K1;S1 1;X1 1;X1 ", 14);
        texts.rows("K1;S1 1;X1 1;X2 1", 4);
        texts.fault("K1;S1 1;X1 1;X2 1;E1 2;E1 2", 26);
        texts.fault("K1;S1 1;X1 1;X2 1;E1 2;E1 00000023", 26);
        texts.fault("K1;S1 1;X1 1;X2 1;E1 2;E1", 25);
    }

    private void aKindWithoutAStep() {
        check.sentence("a kind without a step: at the K that follows, or the length");
        texts.fault("K1", 2);
        texts.fault("K0000001", 8);
        texts.fault("K1;K2", 3);
        texts.fault("K1;K1", 3);
        texts.fault("K1;Kx", 3);
        texts.fault("K1;K2;S1 1", 3);
        texts.rows("K1;S1 1;K2;S1 1", 4);
        texts.fault("K1;Z0 0;K2;S1 1", 8);
        texts.fault("K1;Z0 0;R12", 11);
        texts.fault("K1;S1 1;K2", 10);
        texts.fault("K1;S1 1;K2;K3;S1 1", 11);
        texts.fault("K1;S1 1;K2;X0 0", 15);
        texts.fault("K1;S1 1;K2;X0 0;K3;S1 1", 16);
        texts.fault("K1;S1 1;K2;S1 1;K3", 18);
        texts.rows("K1;S1 1;K2;S1 1;K3;S1 1", 6);
    }

    private void theFirstIsTold() {
        check.sentence("FAULTS, the first is told by its place");
        texts.fault("x", 0);
        texts.fault("x;x", 0);
        texts.fault("K1;S0 1;S0 1", 4);
        texts.fault("K1;S1 1;S0 1;S0 1", 9);
        texts.fault("K1;S0 x", 4);
        texts.fault("K1;Sx 0", 4);
        texts.fault("K1;K10", 3);
        texts.fault("K10;K2", 1);
        texts.fault("K1;Z10 0;K2", 4);
        texts.fault("K1;Z1 2000;K2", 6);
        texts.fault("K1;D0 0 0", 4);
        texts.fault("K1;D1 0 0", 6);
        texts.fault("K1;D1 1 0", 8);
        texts.fault("K1;R0", 4);
        texts.fault("K1;R1;R1", 6);
        texts.fault("K1;R1;R1;", 6);
        texts.fault("K1;S1 1;Z1 1001;", 11);
        texts.fault("K1;S1 1;;Z1 1001", 8);
    }
}
