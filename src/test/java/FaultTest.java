import java.util.Random;

/** Many texts whose fault is compared with the one that a regular expression tells. */
public final class FaultTest {
    private static final int TEXTS = 40000;
    private static final int NOT_A_FAULT = -4;
    private static final String SIGNS = "ab0123456789:@;";
    private static final String OTHER_SIGNS = "ABc /-+.,\n\0\u00e9\u0660\uff11";

    private FaultTest() {
    }

    public static void main(String[] args) {
        Check c = new Check("faults");
        Random random = new Random(7);
        for (int i = 0; i < TEXTS && !c.isTooWrong(); i++) {
            compare(c, changed(random, orders(random)));
        }
        for (char sign = 0; sign < 400 && !c.isTooWrong(); sign++) {
            for (String text : new String[] {"", "b", "a0", "b5:", "a0:1", "b1:99", "a5:999", "b0:1@",
                "b0:1@5", "b0:1@50", "a0:1@51", "b0:1@500", "a0:1@1;", "b0:1@10;a"}) {
                compare(c, text + sign);
            }
        }
        c.close();
    }

    private static String orders(Random random) {
        StringBuilder text = new StringBuilder();
        int orders = 1 + random.nextInt(9);
        for (int i = 0; i < orders; i++) {
            int permits = random.nextInt(4) == 0 ? 1 + random.nextInt(1005) : 1 + random.nextInt(9);
            int price = random.nextInt(4) == 0 ? 1 + random.nextInt(510) : 1 + random.nextInt(9);
            text.append(i > 0 ? ";" : "").append(random.nextBoolean() ? 'a' : 'b')
                .append(random.nextInt(6)).append(':').append(permits).append('@').append(price);
        }
        return text.length() > 60 ? text.substring(0, 60) : text.toString();
    }

    private static String changed(Random random, String orders) {
        StringBuilder text = new StringBuilder(orders);
        int place = random.nextInt(text.length());
        String signs = random.nextInt(8) == 0 ? OTHER_SIGNS : SIGNS;
        char sign = signs.charAt(random.nextInt(signs.length()));
        switch (random.nextInt(5)) {
            case 0:
                text.setCharAt(place, sign);
                break;
            case 1:
                text.deleteCharAt(place);
                break;
            case 2:
                text.setLength(place);
                break;
            case 3:
                text.insert(place, sign);
                break;
            default:
                break;
        }
        return text.length() > 60 ? text.substring(0, 60) : text.toString();
    }

    private static void compare(Check c, String text) {
        c.part("text \"" + text + "\"");
        KilnPermits town = new KilnPermits();
        for (int i = 0; i < text.length(); i++) {
            town.type(text.charAt(i));
        }
        int fault = TownModel.fault(text);
        int answer = town.orderAll();
        if (fault >= 0) {
            c.due(-100 - fault, answer);
        } else {
            c.holds("a text without a fault is answered by its orders", answer > NOT_A_FAULT);
        }
    }
}
