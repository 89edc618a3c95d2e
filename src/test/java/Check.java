/**
 * Compares answers with those that are due, and tells at the end how many were right. A test may
 * first say which sentence of the document it is about, or which ones; they must stand there.
 */
final class Check {
    private static final int MOST_PRINTED = 40;
    private static int right;
    private static int wrong;
    private static String said = "";
    private static int doneWhenSaid;

    private Check() {
    }

    /** From here on, checks are of this sentence of a section of the document. */
    static void says(int section, String sentence) {
        boolean isOneMore = !said.isEmpty() && doneWhenSaid == right + wrong;
        said = (isOneMore ? said : "") + (section > 0 ? "promise " + section : "terms")
                + " \"" + sentence + "\": ";
        if (!Doc.quote(section, sentence)) {
            fail(said + "the document does not say so");
        }
        doneWhenSaid = right + wrong;
    }

    static void saysNoMore() {
        if (!said.isEmpty() && doneWhenSaid == right + wrong) {
            fail(said + "nothing was checked");
        }
        said = "";
    }

    static void due(String call, long got, long want) {
        if (got == want) {
            right++;
        } else {
            fail(said + call + " answered " + got + ", due is " + want);
        }
    }

    static void due(String what, boolean holds) {
        due(what, holds ? 1 : 0, 1);
    }

    private static void fail(String text) {
        wrong++;
        if (wrong <= MOST_PRINTED) {
            System.out.println(text);
        }
    }

    static int wrong() {
        return wrong;
    }

    static void close() {
        saysNoMore();
        System.out.println(right + " answers as due, " + wrong + " not");
        if (wrong != 0 || right == 0) {
            System.exit(1);
        }
    }
}
