/** The rack under test. */
final class RealRack implements Rack {
    private final PolicyRack rack = new PolicyRack();

    @Override
    public int call(String name, int[] args) {
        return switch (name) {
            case "shelf" -> rack.shelf(args[0], args[1], args[2], args[3]);
            case "get" -> rack.get(args[0], args[1]);
            case "put" -> rack.put(args[0], args[1], args[2]);
            case "drop" -> rack.drop(args[0], args[1]);
            case "has" -> rack.has(args[0], args[1]);
            case "victim" -> rack.victim(args[0]);
            case "list" -> rack.list(args[0], args[1], args[2]);
            case "told" -> rack.told(args[0], args[1]);
            case "use" -> rack.use(args[0]);
            case "clear" -> rack.clear();
            case "distance" -> rack.distance(args[0]);
            case "curve" -> rack.curve(args[0]);
            case "optimum" -> rack.optimum(args[0]);
            case "count" -> rack.count(args[0]);
            default -> throw new AssertionError(name);
        };
    }
}
