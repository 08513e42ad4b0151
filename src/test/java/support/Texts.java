/** CONDITIONS and TEXTS that tests tell. */
final class Texts {
    private static final String[] ORDERS = {"012", "021", "102", "120", "201", "210"};

    /** A CONDITION that holds under one STANDING alone. */
    static String only(int standing) {
        int[] orders = {standing / 216, standing / 36 % 6, standing / 6 % 6, standing % 6};
        StringBuilder b = new StringBuilder();
        for (int year = 0; year < 4; year++) {
            for (int place = 0; place < 2; place++) {
                b.append(b.length() == 0 ? "at" : "and at").append(year).append(' ')
                    .append(ORDERS[orders[year]].charAt(place)).append(' ').append(place);
            }
        }
        return b.toString();
    }

    /** A DEAL, told as a TEXT, that CONVEYS under one STANDING alone. */
    static String deal(int from, int to, int pick, int standing) {
        return "from" + from + "to" + to + "pick" + pick + "if " + only(standing);
    }

    /** A TEXT made as long as THE TAPE by blanks behind it. */
    static String filled(String text) {
        return text + " ".repeat(120 - text.length());
    }
}
