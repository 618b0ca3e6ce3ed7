/** Lines of a text for a reference of 100, with which an item of one sample weighs its reading if its ref is 100. */
public final class Lines {
    private Lines() {
    }

    public static String head(int margin, int limit, int pool) {
        return "grader reference 100 margin " + margin + " limit " + limit + " pool " + pool;
    }

    public static String ice(int percent, int make, int store, int due, int melt) {
        return ";ice " + percent + " " + make + " " + store + " " + due + " " + melt;
    }

    public static String species(String name, int target, int quota, int boxes, int price) {
        return ";species " + name + " target " + target + " quota " + quota + " boxes " + boxes + " price " + price;
    }

    public static String items(String species, int... weights) {
        StringBuilder text = new StringBuilder();
        for (int weight : weights) {
            text.append(";item ").append(weight).append(" 100 vote ").append(species).append(" 9");
        }
        return text.toString();
    }
}
