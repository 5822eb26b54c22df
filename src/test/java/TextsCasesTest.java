/** The boundaries of the promises 12 to 14 and of "Input text": append, clearBuffer, firstError. */
public final class TextsCasesTest {
    public static void main(String[] args) {
        Cases.runAll(TextsCasesTest.class);
    }

    // ---- promise 12

    static void promise12_code32IsRefused() {
        Cases.argument("append(32)", x -> x.append(32));
    }

    static void promise12_code127IsRefused() {
        Cases.argument("append(127)", x -> x.append(127));
    }

    static void promise12_farCodesAreRefused() {
        for (int code : new int[] {-1, 0, 128, 256 + 'n', 65536 + 'n', Clocks.FAR, Clocks.FAR_BELOW}) {
            Cases.argument("append(" + code + ")", x -> x.append(code));
        }
    }

    static void promise12_code33() {
        VaultMovements x = new VaultMovements();
        Cases.due("append(33)", x.append(33), 1);
        Cases.due("digest()", x.digest(), Checks.digestOf(x, "!"));
    }

    static void promise12_code126() {
        VaultMovements x = new VaultMovements();
        Cases.due("append(126)", x.append(126), 1);
        Cases.due("digest()", x.digest(), Checks.digestOf(x, "~"));
    }

    static void promise12_returnsTheNewLengthUpTo60() {
        VaultMovements x = new VaultMovements();
        for (int length = 1; length <= 60; length++) {
            Cases.due("append(33)", x.append(33), length);
        }
    }

    static void promise12_theOnePlaceLeftIsTaken() {
        VaultMovements x = Clocks.typed("n".repeat(59));
        Cases.due("append(45)", x.append(45), 60);
        Cases.due("digest()", x.digest(), Checks.digestOf(x, "n".repeat(59) + "-"));
    }

    static void promise12_theFullBufferIsRefused() {
        Cases.state("append(110)", x -> x.append(110), Clocks::fullBuffer);
    }

    static void promise12_theCodeIsRefusedAheadOfTheFullBuffer() {
        Cases.argument("append(127)", x -> x.append(127), Clocks::fullBuffer);
        Cases.argument("append(32)", x -> x.append(32), Clocks::fullBuffer);
    }

    static void promise12_aClearedBufferTakes60Again() {
        VaultMovements x = Clocks.fullBuffer();
        x.clearBuffer();
        Cases.due("append(33)", x.append(33), 1);
        Checks.type(x, "n".repeat(58));
        Cases.due("append(33)", x.append(33), 60);
    }

    static void promise12_notUndoable() {
        Cases.notUndoable("append(33)", x -> x.append(33), VaultMovements::new);
        Cases.notUndoable("append(33)", x -> x.append(33), Clocks::busyOpen);
    }

    static void promise12_whileLocked() {
        VaultMovements x = Clocks.lockedWith(9, 9, 9);
        Cases.due("append(110)", x.append(110), 1);
    }

    // ---- promise 13

    static void promise13_theEmptyBufferReturns0() {
        Cases.due("clearBuffer()", new VaultMovements().clearBuffer(), 0);
    }

    static void promise13_oneCharacterReturns1() {
        Cases.due("clearBuffer()", Clocks.typed("x").clearBuffer(), 1);
    }

    static void promise13_theFullBufferReturns60() {
        Cases.due("clearBuffer()", Clocks.fullBuffer().clearBuffer(), 60);
    }

    static void promise13_theClearedBufferIsEmpty() {
        VaultMovements x = Clocks.typed("n,x");
        x.clearBuffer();
        Cases.due("firstError()", x.firstError(), 0);
        Cases.due("digest()", x.digest(), new VaultMovements().digest());
        Cases.due("clearBuffer()", x.clearBuffer(), 0);
    }

    static void promise13_notUndoable() {
        Cases.notUndoable("clearBuffer()", x -> x.clearBuffer(), VaultMovements::new);
        Cases.notUndoable("clearBuffer()", x -> x.clearBuffer(), Clocks::busyLocked);
    }

    static void promise13_undoDoesNotBringTheTextBack() {
        VaultMovements x = Clocks.busyOpen();
        x.clearBuffer();
        x.undo();
        Cases.due("clearBuffer()", x.clearBuffer(), 0);
    }

    // ---- promise 14

    /** The first error of a text, and that finding it changes nothing. */
    private static void error(String text, int index) {
        VaultMovements x = Clocks.typed(text);
        Cases.due("firstError() of " + text, x.firstError(), index);
        Cases.due("firstError() again", x.firstError(), index);
        Cases.same("behind firstError()", x, Clocks.typed(text), 6);
    }

    private static void noError(String text) {
        error(text, text.length());
    }

    /** A part has its error at this index, wherever it stands. */
    private static void partError(String part, int index) {
        error(part, index);
        error("n," + part, index + 2);
        error("-,200," + part, index + 6);
    }

    private static void noPartError(String part) {
        noError(part);
        noError("-," + part);
        noError("n-9,1," + part);
        noError(part + ",-," + part);
    }

    static void promise14_theEmptyBufferReturns0() {
        error("", 0);
    }

    static void promise14_anErrorAtTheFirstCharacter() {
        error("x", 0);
        error("xn,n,n", 0);
    }

    static void promise14_onlyTheFirstErrorCounts() {
        error("1x,0,+", 1);
    }

    static void promise14_theFullBufferHasItsFirstError() {
        error("n".repeat(60), 1);
        error("n+9,n+9,n+9" + "!".repeat(49), 11);
    }

    static void promise14_theLongestWindingsHaveNone() {
        noError("n+9,n-9,200");
    }

    static void promise14_number0() {
        partError("0", 0);
    }

    static void promise14_number1() {
        noPartError("1");
    }

    static void promise14_number9() {
        noPartError("9");
    }

    static void promise14_number10() {
        noPartError("10");
    }

    static void promise14_number99() {
        noPartError("99");
    }

    static void promise14_number100() {
        noPartError("100");
    }

    static void promise14_number199() {
        noPartError("199");
    }

    static void promise14_number200() {
        noPartError("200");
    }

    static void promise14_number201() {
        partError("201", 2);
    }

    static void promise14_number210() {
        partError("210", 2);
    }

    static void promise14_number300() {
        partError("300", 2);
    }

    static void promise14_number1000() {
        partError("1000", 3);
    }

    static void promise14_aNumberTooLongToCount() {
        error("99999999999999999999", 2);
        error("1".repeat(60), 3);
    }

    static void promise14_leadingZero() {
        partError("01", 0);
        partError("00", 0);
    }

    static void promise14_signAheadOfANumber() {
        partError("+1", 0);
        partError("-1", 1);
    }

    static void promise14_signBehindANumber() {
        partError("1+1", 1);
        partError("200-1", 3);
    }

    static void promise14_theCharactersRoundTheDigits() {
        partError("/", 0);
        partError(":", 0);
        partError("1/", 1);
        partError("1:", 1);
        partError("n+/", 2);
        partError("n+:", 2);
    }

    static void promise14_leftAsItIs() {
        noPartError("-");
        partError("--", 1);
        partError("-n", 1);
        partError("-+", 1);
    }

    static void promise14_toTheOpening() {
        noPartError("n");
        partError("N", 0);
        partError("m", 0);
        partError("o", 0);
        partError("nn", 1);
        partError("n5", 1);
    }

    static void promise14_more0() {
        partError("n+0", 2);
    }

    static void promise14_more1() {
        noPartError("n+1");
    }

    static void promise14_more9() {
        noPartError("n+9");
    }

    static void promise14_more10() {
        partError("n+10", 3);
    }

    static void promise14_more11() {
        partError("n+11", 3);
        partError("n+99", 3);
    }

    static void promise14_less0() {
        partError("n-0", 2);
    }

    static void promise14_less1() {
        noPartError("n-1");
    }

    static void promise14_less9() {
        noPartError("n-9");
    }

    static void promise14_less10() {
        partError("n-10", 3);
    }

    static void promise14_less11() {
        partError("n-11", 3);
        partError("n-99", 3);
    }

    static void promise14_twoSigns() {
        partError("n++", 2);
        partError("n+-", 2);
        partError("n--1", 2);
        partError("n+1+", 3);
        partError("n-1-1", 3);
    }

    static void promise14_aSignWithoutItsNumberYet() {
        error("n+", 2);
        error("-,-,n-", 6);
    }

    static void promise14_commaBehindASign() {
        partError("n+,", 2);
        partError("n-,", 2);
    }

    static void promise14_commaWithoutAPartAhead() {
        error(",", 0);
        error("1,,", 2);
        error("-,-,,", 4);
    }

    static void promise14_commaBehindTheThirdPart() {
        error("-,-,-,", 5);
        error("1,2,3,4", 5);
        error("n,n,n+9,", 7);
        error("1,2,200,", 7);
    }

    static void promise14_aPartBehindAComma() {
        noError("-,");
        noError("-,n+9,");
    }

    static void promise14_aCharacterBehindTheThirdPart() {
        error("-,-,-!", 5);
        error("-,-,n~", 5);
        error("1,1,200n", 7);
    }

    /** Of all characters, these and no others are without an error behind the text. */
    private static void next(String text, String right) {
        for (char code = 33; code <= 126; code++) {
            VaultMovements x = Clocks.typed(text);
            x.append(code);
            int length = text.length();
            Cases.due("firstError() of " + text + code, x.firstError(), right.indexOf(code) < 0 ? length : length + 1);
        }
    }

    /** The same behind a part that stands first, second and third, where no comma can follow. */
    private static void nextInAPart(String part, String right) {
        next(part, right);
        next("n-9," + part, right);
        next("-,200," + part, right.replace(",", ""));
    }

    static void promise14_eachCharacterThatBeginsAPart() {
        nextInAPart("", "-n123456789");
    }

    static void promise14_eachCharacterBehindLeftAsItIs() {
        nextInAPart("-", ",");
    }

    static void promise14_eachCharacterBehindAnN() {
        nextInAPart("n", ",+-");
    }

    static void promise14_eachCharacterBehindASign() {
        nextInAPart("n+", "123456789");
        nextInAPart("n-", "123456789");
    }

    static void promise14_eachCharacterBehindTheHoursMoreOrLess() {
        nextInAPart("n+1", ",");
        nextInAPart("n+9", ",");
        nextInAPart("n-1", ",");
        nextInAPart("n-9", ",");
    }

    static void promise14_eachCharacterBehindOneDigit() {
        nextInAPart("1", ",0123456789");
        nextInAPart("2", ",0123456789");
        nextInAPart("9", ",0123456789");
    }

    static void promise14_eachCharacterBehindTwoDigits() {
        nextInAPart("10", ",0123456789");
        nextInAPart("19", ",0123456789");
        nextInAPart("20", ",0");
        nextInAPart("21", ",");
        nextInAPart("99", ",");
    }

    static void promise14_eachCharacterBehindThreeDigits() {
        nextInAPart("100", ",");
        nextInAPart("199", ",");
        nextInAPart("200", ",");
    }

    static void promise14_aLongerTextThatWasClearedIsGone() {
        VaultMovements x = Clocks.typed("1,2,x");
        x.clearBuffer();
        Checks.type(x, "1,2,");
        Cases.due("firstError()", x.firstError(), 4);
        Cases.argument("windAll()", y -> y.windAll(), () -> {
            VaultMovements y = Clocks.typed("1,2,3");
            y.clearBuffer();
            Checks.type(y, "1,2,");
            return y;
        });
    }

    static void promise14_notUndoable() {
        Cases.notUndoable("firstError()", x -> x.firstError(), Clocks::busyOpen);
        Cases.notUndoable("firstError()", x -> x.firstError(), VaultMovements::new);
    }
}
