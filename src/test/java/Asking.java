/** What tests ask of a town, and how they type its text. */
final class Asking {
    private Asking() {
    }

    /** Everything that an object tells of its state, in one text. */
    static String all(KilnPermits x) {
        StringBuilder told = new StringBuilder();
        for (int what = 0; what <= 18; what++) {
            told.append(x.count(what)).append(' ');
        }
        for (int kiln = 0; kiln < 6; kiln++) {
            for (int what = 0; what <= 11; what++) {
                told.append(x.kiln(kiln, what)).append(' ');
            }
            for (int year = 0; year <= x.count(0); year++) {
                told.append(x.ofYear(kiln, year)).append(' ');
            }
        }
        for (int rank = 0; rank <= 16; rank++) {
            for (int what = 0; what <= 3; what++) {
                told.append(x.order(true, rank, what)).append(' ');
                told.append(x.order(false, rank, what)).append(' ');
            }
        }
        return told.toString();
    }

    static void typeAll(KilnPermits x, String text) {
        x.clearText();
        for (int i = 0; i < text.length(); i++) {
            x.type(text.charAt(i));
        }
    }
}
